theorem dX0_init_0 : decode cX0_init 0 = .ok (.aload_n 0, 1) := by decide +kernel
theorem dX0_init_1 : decode cX0_init 1 = .ok (.invokespecial 3, 3) := by decide +kernel
theorem dX0_init_4 : decode cX0_init 4 = .ok (.aload_n 0, 1) := by decide +kernel
theorem dX0_init_5 : decode cX0_init 5 = .ok (.aload_n 1, 1) := by decide +kernel
theorem dX0_init_6 : decode cX0_init 6 = .ok (.putfield 9, 3) := by decide +kernel
theorem dX0_init_9 : decode cX0_init 9 = .ok (.aload_n 0, 1) := by decide +kernel
theorem dX0_init_10 : decode cX0_init 10 = .ok (.aload_n 2, 1) := by decide +kernel
theorem dX0_init_11 : decode cX0_init 11 = .ok (.putfield 15, 3) := by decide +kernel
theorem dX0_init_14 : decode cX0_init 14 = .ok (.aload_n 0, 1) := by decide +kernel
theorem dX0_init_15 : decode cX0_init 15 = .ok (.aload_n 3, 1) := by decide +kernel
theorem dX0_init_16 : decode cX0_init 16 = .ok (.putfield 19, 3) := by decide +kernel
theorem dX0_init_19 : decode cX0_init 19 = .ok (.return_, 1) := by decide +kernel
theorem dX0_rest_0 : decode cX0_rest 0 = .ok (.aload_n 0, 1) := by decide +kernel
theorem dX0_rest_1 : decode cX0_rest 1 = .ok (.iconst 0, 1) := by decide +kernel
theorem dX0_rest_2 : decode cX0_rest 2 = .ok (.iconst 0, 1) := by decide +kernel
theorem dX0_rest_3 : decode cX0_rest 3 = .ok (.invokevirtual 23, 3) := by decide +kernel
theorem dX0_rest_6 : decode cX0_rest 6 = .ok (.aload_n 0, 1) := by decide +kernel
theorem dX0_rest_7 : decode cX0_rest 7 = .ok (.lconst 0, 1) := by decide +kernel
theorem dX0_rest_8 : decode cX0_rest 8 = .ok (.putfield 27, 3) := by decide +kernel
theorem dX0_rest_11 : decode cX0_rest 11 = .ok (.aload_n 0, 1) := by decide +kernel
theorem dX0_rest_12 : decode cX0_rest 12 = .ok (.lconst 0, 1) := by decide +kernel
theorem dX0_rest_13 : decode cX0_rest 13 = .ok (.putfield 31, 3) := by decide +kernel
theorem dX0_rest_16 : decode cX0_rest 16 = .ok (.iconst 0, 1) := by decide +kernel
theorem dX0_rest_17 : decode cX0_rest 17 = .ok (.istore_n 1, 1) := by decide +kernel
theorem dX0_rest_18 : decode cX0_rest 18 = .ok (.iload_n 1, 1) := by decide +kernel
theorem dX0_rest_19 : decode cX0_rest 19 = .ok (.aload_n 0, 1) := by decide +kernel
theorem dX0_rest_20 : decode cX0_rest 20 = .ok (.getfield 9, 3) := by decide +kernel
theorem dX0_rest_23 : decode cX0_rest 23 = .ok (.getfield 34, 3) := by decide +kernel
theorem dX0_rest_26 : decode cX0_rest 26 = .ok (.if_icmp .ge 57, 3) := by decide +kernel
theorem dX0_rest_29 : decode cX0_rest 29 = .ok (.aload_n 0, 1) := by decide +kernel
theorem dX0_rest_30 : decode cX0_rest 30 = .ok (.dup, 1) := by decide +kernel
theorem dX0_rest_31 : decode cX0_rest 31 = .ok (.getfield 27, 3) := by decide +kernel
theorem dX0_rest_34 : decode cX0_rest 34 = .ok (.aload_n 0, 1) := by decide +kernel
theorem dX0_rest_35 : decode cX0_rest 35 = .ok (.getfield 9, 3) := by decide +kernel
theorem dX0_rest_38 : decode cX0_rest 38 = .ok (.iconst 0, 1) := by decide +kernel
theorem dX0_rest_39 : decode cX0_rest 39 = .ok (.iload_n 1, 1) := by decide +kernel
theorem dX0_rest_40 : decode cX0_rest 40 = .ok (.invokevirtual 40, 3) := by decide +kernel
theorem dX0_rest_43 : decode cX0_rest 43 = .ok (.i2l, 1) := by decide +kernel
theorem dX0_rest_44 : decode cX0_rest 44 = .ok (.ladd, 1) := by decide +kernel
theorem dX0_rest_45 : decode cX0_rest 45 = .ok (.putfield 27, 3) := by decide +kernel
theorem dX0_rest_48 : decode cX0_rest 48 = .ok (.aload_n 0, 1) := by decide +kernel
theorem dX0_rest_49 : decode cX0_rest 49 = .ok (.dup, 1) := by decide +kernel
theorem dX0_rest_50 : decode cX0_rest 50 = .ok (.getfield 31, 3) := by decide +kernel
theorem dX0_rest_53 : decode cX0_rest 53 = .ok (.aload_n 0, 1) := by decide +kernel
theorem dX0_rest_54 : decode cX0_rest 54 = .ok (.getfield 15, 3) := by decide +kernel
theorem dX0_rest_57 : decode cX0_rest 57 = .ok (.getfield 44, 3) := by decide +kernel
theorem dX0_rest_60 : decode cX0_rest 60 = .ok (.iconst 0, 1) := by decide +kernel
theorem dX0_rest_61 : decode cX0_rest 61 = .ok (.aaload, 1) := by decide +kernel
theorem dX0_rest_62 : decode cX0_rest 62 = .ok (.aload_n 0, 1) := by decide +kernel
theorem dX0_rest_63 : decode cX0_rest 63 = .ok (.getfield 9, 3) := by decide +kernel
theorem dX0_rest_66 : decode cX0_rest 66 = .ok (.iconst 0, 1) := by decide +kernel
theorem dX0_rest_67 : decode cX0_rest 67 = .ok (.iload_n 1, 1) := by decide +kernel
theorem dX0_rest_68 : decode cX0_rest 68 = .ok (.invokevirtual 50, 3) := by decide +kernel
theorem dX0_rest_71 : decode cX0_rest 71 = .ok (.iaload, 1) := by decide +kernel
theorem dX0_rest_72 : decode cX0_rest 72 = .ok (.i2l, 1) := by decide +kernel
theorem dX0_rest_73 : decode cX0_rest 73 = .ok (.ladd, 1) := by decide +kernel
theorem dX0_rest_74 : decode cX0_rest 74 = .ok (.putfield 31, 3) := by decide +kernel
theorem dX0_rest_77 : decode cX0_rest 77 = .ok (.iinc 1 1, 3) := by decide +kernel
theorem dX0_rest_80 : decode cX0_rest 80 = .ok (.goto (-62), 3) := by decide +kernel
theorem dX0_rest_83 : decode cX0_rest 83 = .ok (.return_, 1) := by decide +kernel
theorem dX0_suppose_0 : decode cX0_suppose 0 = .ok (.aload_n 0, 1) := by decide +kernel
theorem dX0_suppose_1 : decode cX0_suppose 1 = .ok (.iload_n 1, 1) := by decide +kernel
theorem dX0_suppose_2 : decode cX0_suppose 2 = .ok (.putfield 53, 3) := by decide +kernel
theorem dX0_suppose_5 : decode cX0_suppose 5 = .ok (.aload_n 0, 1) := by decide +kernel
theorem dX0_suppose_6 : decode cX0_suppose 6 = .ok (.aload_n 0, 1) := by decide +kernel
theorem dX0_suppose_7 : decode cX0_suppose 7 = .ok (.getfield 9, 3) := by decide +kernel
theorem dX0_suppose_10 : decode cX0_suppose 10 = .ok (.iload_n 1, 1) := by decide +kernel
theorem dX0_suppose_11 : decode cX0_suppose 11 = .ok (.invokevirtual 56, 3) := by decide +kernel
theorem dX0_suppose_14 : decode cX0_suppose 14 = .ok (.putfield 60, 3) := by decide +kernel
theorem dX0_suppose_17 : decode cX0_suppose 17 = .ok (.aload_n 0, 1) := by decide +kernel
theorem dX0_suppose_18 : decode cX0_suppose 18 = .ok (.iload_n 2, 1) := by decide +kernel
theorem dX0_suppose_19 : decode cX0_suppose 19 = .ok (.aload_n 0, 1) := by decide +kernel
theorem dX0_suppose_20 : decode cX0_suppose 20 = .ok (.getfield 9, 3) := by decide +kernel
theorem dX0_suppose_23 : decode cX0_suppose 23 = .ok (.iload_n 1, 1) := by decide +kernel
theorem dX0_suppose_24 : decode cX0_suppose 24 = .ok (.invokevirtual 63, 3) := by decide +kernel
theorem dX0_suppose_27 : decode cX0_suppose 27 = .ok (.imul, 1) := by decide +kernel
theorem dX0_suppose_28 : decode cX0_suppose 28 = .ok (.putfield 66, 3) := by decide +kernel
theorem dX0_suppose_31 : decode cX0_suppose 31 = .ok (.aload_n 0, 1) := by decide +kernel
theorem dX0_suppose_32 : decode cX0_suppose 32 = .ok (.aload_n 0, 1) := by decide +kernel
theorem dX0_suppose_33 : decode cX0_suppose 33 = .ok (.getfield 66, 3) := by decide +kernel
theorem dX0_suppose_36 : decode cX0_suppose 36 = .ok (.aload_n 0, 1) := by decide +kernel
theorem dX0_suppose_37 : decode cX0_suppose 37 = .ok (.getfield 60, 3) := by decide +kernel
theorem dX0_suppose_40 : decode cX0_suppose 40 = .ok (.imul, 1) := by decide +kernel
theorem dX0_suppose_41 : decode cX0_suppose 41 = .ok (.putfield 69, 3) := by decide +kernel
theorem dX0_suppose_44 : decode cX0_suppose 44 = .ok (.return_, 1) := by decide +kernel
theorem dX0_keep_0 : decode cX0_keep 0 = .ok (.iconst 0, 1) := by decide +kernel
theorem dX0_keep_1 : decode cX0_keep 1 = .ok (.istore_n 1, 1) := by decide +kernel
theorem dX0_keep_2 : decode cX0_keep 2 = .ok (.iload_n 1, 1) := by decide +kernel
theorem dX0_keep_3 : decode cX0_keep 3 = .ok (.aload_n 0, 1) := by decide +kernel
theorem dX0_keep_4 : decode cX0_keep 4 = .ok (.getfield 9, 3) := by decide +kernel
theorem dX0_keep_7 : decode cX0_keep 7 = .ok (.getfield 34, 3) := by decide +kernel
theorem dX0_keep_10 : decode cX0_keep 10 = .ok (.if_icmp .ge 81, 3) := by decide +kernel
theorem dX0_keep_13 : decode cX0_keep 13 = .ok (.aload_n 0, 1) := by decide +kernel
theorem dX0_keep_14 : decode cX0_keep 14 = .ok (.getfield 9, 3) := by decide +kernel
theorem dX0_keep_17 : decode cX0_keep 17 = .ok (.getfield 72, 3) := by decide +kernel
theorem dX0_keep_20 : decode cX0_keep 20 = .ok (.iconst 0, 1) := by decide +kernel
theorem dX0_keep_21 : decode cX0_keep 21 = .ok (.aaload, 1) := by decide +kernel
theorem dX0_keep_22 : decode cX0_keep 22 = .ok (.iload_n 1, 1) := by decide +kernel
theorem dX0_keep_23 : decode cX0_keep 23 = .ok (.aload_n 0, 1) := by decide +kernel
theorem dX0_keep_24 : decode cX0_keep 24 = .ok (.iconst 0, 1) := by decide +kernel
theorem dX0_keep_25 : decode cX0_keep 25 = .ok (.iload_n 1, 1) := by decide +kernel
theorem dX0_keep_26 : decode cX0_keep 26 = .ok (.invokevirtual 75, 3) := by decide +kernel
theorem dX0_keep_29 : decode cX0_keep 29 = .ok (.aload_n 0, 1) := by decide +kernel
theorem dX0_keep_30 : decode cX0_keep 30 = .ok (.getfield 9, 3) := by decide +kernel
theorem dX0_keep_33 : decode cX0_keep 33 = .ok (.getfield 78, 3) := by decide +kernel
theorem dX0_keep_36 : decode cX0_keep 36 = .ok (.iconst 0, 1) := by decide +kernel
theorem dX0_keep_37 : decode cX0_keep 37 = .ok (.aaload, 1) := by decide +kernel
theorem dX0_keep_38 : decode cX0_keep 38 = .ok (.iload_n 1, 1) := by decide +kernel
theorem dX0_keep_39 : decode cX0_keep 39 = .ok (.iaload, 1) := by decide +kernel
theorem dX0_keep_40 : decode cX0_keep 40 = .ok (.isub, 1) := by decide +kernel
theorem dX0_keep_41 : decode cX0_keep 41 = .ok (.iastore, 1) := by decide +kernel
theorem dX0_keep_42 : decode cX0_keep 42 = .ok (.aload_n 0, 1) := by decide +kernel
theorem dX0_keep_43 : decode cX0_keep 43 = .ok (.getfield 9, 3) := by decide +kernel
theorem dX0_keep_46 : decode cX0_keep 46 = .ok (.getfield 72, 3) := by decide +kernel
theorem dX0_keep_49 : decode cX0_keep 49 = .ok (.iconst 1, 1) := by decide +kernel
theorem dX0_keep_50 : decode cX0_keep 50 = .ok (.aaload, 1) := by decide +kernel
theorem dX0_keep_51 : decode cX0_keep 51 = .ok (.iload_n 1, 1) := by decide +kernel
theorem dX0_keep_52 : decode cX0_keep 52 = .ok (.aload_n 0, 1) := by decide +kernel
theorem dX0_keep_53 : decode cX0_keep 53 = .ok (.iconst 1, 1) := by decide +kernel
theorem dX0_keep_54 : decode cX0_keep 54 = .ok (.iload_n 1, 1) := by decide +kernel
theorem dX0_keep_55 : decode cX0_keep 55 = .ok (.invokevirtual 75, 3) := by decide +kernel
theorem dX0_keep_58 : decode cX0_keep 58 = .ok (.aload_n 0, 1) := by decide +kernel
theorem dX0_keep_59 : decode cX0_keep 59 = .ok (.getfield 9, 3) := by decide +kernel
theorem dX0_keep_62 : decode cX0_keep 62 = .ok (.getfield 78, 3) := by decide +kernel
theorem dX0_keep_65 : decode cX0_keep 65 = .ok (.iconst 1, 1) := by decide +kernel
theorem dX0_keep_66 : decode cX0_keep 66 = .ok (.aaload, 1) := by decide +kernel
theorem dX0_keep_67 : decode cX0_keep 67 = .ok (.iload_n 1, 1) := by decide +kernel
theorem dX0_keep_68 : decode cX0_keep 68 = .ok (.iaload, 1) := by decide +kernel
theorem dX0_keep_69 : decode cX0_keep 69 = .ok (.isub, 1) := by decide +kernel
theorem dX0_keep_70 : decode cX0_keep 70 = .ok (.iastore, 1) := by decide +kernel
theorem dX0_keep_71 : decode cX0_keep 71 = .ok (.aload_n 0, 1) := by decide +kernel
theorem dX0_keep_72 : decode cX0_keep 72 = .ok (.getfield 9, 3) := by decide +kernel
theorem dX0_keep_75 : decode cX0_keep 75 = .ok (.getfield 81, 3) := by decide +kernel
theorem dX0_keep_78 : decode cX0_keep 78 = .ok (.iload_n 1, 1) := by decide +kernel
theorem dX0_keep_79 : decode cX0_keep 79 = .ok (.aload_n 0, 1) := by decide +kernel
theorem dX0_keep_80 : decode cX0_keep 80 = .ok (.iload_n 1, 1) := by decide +kernel
theorem dX0_keep_81 : decode cX0_keep 81 = .ok (.invokevirtual 84, 3) := by decide +kernel
theorem dX0_keep_84 : decode cX0_keep 84 = .ok (.iastore, 1) := by decide +kernel
theorem dX0_keep_85 : decode cX0_keep 85 = .ok (.iinc 1 1, 3) := by decide +kernel
theorem dX0_keep_88 : decode cX0_keep 88 = .ok (.goto (-86), 3) := by decide +kernel
theorem dX0_keep_91 : decode cX0_keep 91 = .ok (.aload_n 0, 1) := by decide +kernel
theorem dX0_keep_92 : decode cX0_keep 92 = .ok (.invokevirtual 87, 3) := by decide +kernel
theorem dX0_keep_95 : decode cX0_keep 95 = .ok (.return_, 1) := by decide +kernel
theorem dX0_readingAt_0 : decode cX0_readingAt 0 = .ok (.iload_n 1, 1) := by decide +kernel
theorem dX0_readingAt_1 : decode cX0_readingAt 1 = .ok (.ifCond .ne 10, 3) := by decide +kernel
theorem dX0_readingAt_4 : decode cX0_readingAt 4 = .ok (.aload_n 0, 1) := by decide +kernel
theorem dX0_readingAt_5 : decode cX0_readingAt 5 = .ok (.getfield 69, 3) := by decide +kernel
theorem dX0_readingAt_8 : decode cX0_readingAt 8 = .ok (.goto 7, 3) := by decide +kernel
theorem dX0_readingAt_11 : decode cX0_readingAt 11 = .ok (.aload_n 0, 1) := by decide +kernel
theorem dX0_readingAt_12 : decode cX0_readingAt 12 = .ok (.getfield 66, 3) := by decide +kernel
theorem dX0_readingAt_15 : decode cX0_readingAt 15 = .ok (.istore_n 3, 1) := by decide +kernel
theorem dX0_readingAt_16 : decode cX0_readingAt 16 = .ok (.aload_n 0, 1) := by decide +kernel
theorem dX0_readingAt_17 : decode cX0_readingAt 17 = .ok (.getfield 9, 3) := by decide +kernel
theorem dX0_readingAt_20 : decode cX0_readingAt 20 = .ok (.getfield 78, 3) := by decide +kernel
theorem dX0_readingAt_23 : decode cX0_readingAt 23 = .ok (.iload_n 1, 1) := by decide +kernel
theorem dX0_readingAt_24 : decode cX0_readingAt 24 = .ok (.aaload, 1) := by decide +kernel
theorem dX0_readingAt_25 : decode cX0_readingAt 25 = .ok (.iload_n 2, 1) := by decide +kernel
theorem dX0_readingAt_26 : decode cX0_readingAt 26 = .ok (.iaload, 1) := by decide +kernel
theorem dX0_readingAt_27 : decode cX0_readingAt 27 = .ok (.aload_n 0, 1) := by decide +kernel
theorem dX0_readingAt_28 : decode cX0_readingAt 28 = .ok (.getfield 9, 3) := by decide +kernel
theorem dX0_readingAt_31 : decode cX0_readingAt 31 = .ok (.getfield 72, 3) := by decide +kernel
theorem dX0_readingAt_34 : decode cX0_readingAt 34 = .ok (.iload_n 1, 1) := by decide +kernel
theorem dX0_readingAt_35 : decode cX0_readingAt 35 = .ok (.aaload, 1) := by decide +kernel
theorem dX0_readingAt_36 : decode cX0_readingAt 36 = .ok (.iload_n 2, 1) := by decide +kernel
theorem dX0_readingAt_37 : decode cX0_readingAt 37 = .ok (.iaload, 1) := by decide +kernel
theorem dX0_readingAt_38 : decode cX0_readingAt 38 = .ok (.iadd, 1) := by decide +kernel
theorem dX0_readingAt_39 : decode cX0_readingAt 39 = .ok (.iload_n 3, 1) := by decide +kernel
theorem dX0_readingAt_40 : decode cX0_readingAt 40 = .ok (.aload_n 0, 1) := by decide +kernel
theorem dX0_readingAt_41 : decode cX0_readingAt 41 = .ok (.getfield 15, 3) := by decide +kernel
theorem dX0_readingAt_44 : decode cX0_readingAt 44 = .ok (.getfield 44, 3) := by decide +kernel
theorem dX0_readingAt_47 : decode cX0_readingAt 47 = .ok (.iload_n 1, 1) := by decide +kernel
theorem dX0_readingAt_48 : decode cX0_readingAt 48 = .ok (.aaload, 1) := by decide +kernel
theorem dX0_readingAt_49 : decode cX0_readingAt 49 = .ok (.aload_n 0, 1) := by decide +kernel
theorem dX0_readingAt_50 : decode cX0_readingAt 50 = .ok (.getfield 9, 3) := by decide +kernel
theorem dX0_readingAt_53 : decode cX0_readingAt 53 = .ok (.aload_n 0, 1) := by decide +kernel
theorem dX0_readingAt_54 : decode cX0_readingAt 54 = .ok (.getfield 53, 3) := by decide +kernel
theorem dX0_readingAt_57 : decode cX0_readingAt 57 = .ok (.iload_n 2, 1) := by decide +kernel
theorem dX0_readingAt_58 : decode cX0_readingAt 58 = .ok (.invokevirtual 50, 3) := by decide +kernel
theorem dX0_readingAt_61 : decode cX0_readingAt 61 = .ok (.iaload, 1) := by decide +kernel
theorem dX0_readingAt_62 : decode cX0_readingAt 62 = .ok (.imul, 1) := by decide +kernel
theorem dX0_readingAt_63 : decode cX0_readingAt 63 = .ok (.iadd, 1) := by decide +kernel
theorem dX0_readingAt_64 : decode cX0_readingAt 64 = .ok (.ireturn, 1) := by decide +kernel
theorem dX0_pullOf_0 : decode cX0_pullOf 0 = .ok (.aload_n 0, 1) := by decide +kernel
theorem dX0_pullOf_1 : decode cX0_pullOf 1 = .ok (.getfield 66, 3) := by decide +kernel
theorem dX0_pullOf_4 : decode cX0_pullOf 4 = .ok (.ifCond .eq 14, 3) := by decide +kernel
theorem dX0_pullOf_7 : decode cX0_pullOf 7 = .ok (.aload_n 0, 1) := by decide +kernel
theorem dX0_pullOf_8 : decode cX0_pullOf 8 = .ok (.getfield 9, 3) := by decide +kernel
theorem dX0_pullOf_11 : decode cX0_pullOf 11 = .ok (.iload_n 1, 1) := by decide +kernel
theorem dX0_pullOf_12 : decode cX0_pullOf 12 = .ok (.invokevirtual 90, 3) := by decide +kernel
theorem dX0_pullOf_15 : decode cX0_pullOf 15 = .ok (.ifCond .eq 13, 3) := by decide +kernel
theorem dX0_pullOf_18 : decode cX0_pullOf 18 = .ok (.aload_n 0, 1) := by decide +kernel
theorem dX0_pullOf_19 : decode cX0_pullOf 19 = .ok (.getfield 9, 3) := by decide +kernel
theorem dX0_pullOf_22 : decode cX0_pullOf 22 = .ok (.getfield 81, 3) := by decide +kernel
theorem dX0_pullOf_25 : decode cX0_pullOf 25 = .ok (.iload_n 1, 1) := by decide +kernel
theorem dX0_pullOf_26 : decode cX0_pullOf 26 = .ok (.iaload, 1) := by decide +kernel
theorem dX0_pullOf_27 : decode cX0_pullOf 27 = .ok (.ireturn, 1) := by decide +kernel
theorem dX0_pullOf_28 : decode cX0_pullOf 28 = .ok (.aload_n 0, 1) := by decide +kernel
theorem dX0_pullOf_29 : decode cX0_pullOf 29 = .ok (.getfield 9, 3) := by decide +kernel
theorem dX0_pullOf_32 : decode cX0_pullOf 32 = .ok (.iload_n 1, 1) := by decide +kernel
theorem dX0_pullOf_33 : decode cX0_pullOf 33 = .ok (.invokevirtual 56, 3) := by decide +kernel
theorem dX0_pullOf_36 : decode cX0_pullOf 36 = .ok (.aload_n 0, 1) := by decide +kernel
theorem dX0_pullOf_37 : decode cX0_pullOf 37 = .ok (.getfield 60, 3) := by decide +kernel
theorem dX0_pullOf_40 : decode cX0_pullOf 40 = .ok (.if_icmp .ne 7, 3) := by decide +kernel
theorem dX0_pullOf_43 : decode cX0_pullOf 43 = .ok (.iconst 2, 1) := by decide +kernel
theorem dX0_pullOf_44 : decode cX0_pullOf 44 = .ok (.goto 4, 3) := by decide +kernel
theorem dX0_pullOf_47 : decode cX0_pullOf 47 = .ok (.iconst 3, 1) := by decide +kernel
theorem dX0_pullOf_48 : decode cX0_pullOf 48 = .ok (.istore_n 2, 1) := by decide +kernel
theorem dX0_pullOf_49 : decode cX0_pullOf 49 = .ok (.aload_n 0, 1) := by decide +kernel
theorem dX0_pullOf_50 : decode cX0_pullOf 50 = .ok (.getfield 9, 3) := by decide +kernel
theorem dX0_pullOf_53 : decode cX0_pullOf 53 = .ok (.getfield 81, 3) := by decide +kernel
theorem dX0_pullOf_56 : decode cX0_pullOf 56 = .ok (.iload_n 1, 1) := by decide +kernel
theorem dX0_pullOf_57 : decode cX0_pullOf 57 = .ok (.iaload, 1) := by decide +kernel
theorem dX0_pullOf_58 : decode cX0_pullOf 58 = .ok (.aload_n 0, 1) := by decide +kernel
theorem dX0_pullOf_59 : decode cX0_pullOf 59 = .ok (.getfield 66, 3) := by decide +kernel
theorem dX0_pullOf_62 : decode cX0_pullOf 62 = .ok (.aload_n 0, 1) := by decide +kernel
theorem dX0_pullOf_63 : decode cX0_pullOf 63 = .ok (.getfield 15, 3) := by decide +kernel
theorem dX0_pullOf_66 : decode cX0_pullOf 66 = .ok (.getfield 44, 3) := by decide +kernel
theorem dX0_pullOf_69 : decode cX0_pullOf 69 = .ok (.iload_n 2, 1) := by decide +kernel
theorem dX0_pullOf_70 : decode cX0_pullOf 70 = .ok (.aaload, 1) := by decide +kernel
theorem dX0_pullOf_71 : decode cX0_pullOf 71 = .ok (.aload_n 0, 1) := by decide +kernel
theorem dX0_pullOf_72 : decode cX0_pullOf 72 = .ok (.getfield 9, 3) := by decide +kernel
theorem dX0_pullOf_75 : decode cX0_pullOf 75 = .ok (.aload_n 0, 1) := by decide +kernel
theorem dX0_pullOf_76 : decode cX0_pullOf 76 = .ok (.getfield 53, 3) := by decide +kernel
theorem dX0_pullOf_79 : decode cX0_pullOf 79 = .ok (.iload_n 1, 1) := by decide +kernel
theorem dX0_pullOf_80 : decode cX0_pullOf 80 = .ok (.invokevirtual 50, 3) := by decide +kernel
theorem dX0_pullOf_83 : decode cX0_pullOf 83 = .ok (.iaload, 1) := by decide +kernel
theorem dX0_pullOf_84 : decode cX0_pullOf 84 = .ok (.imul, 1) := by decide +kernel
theorem dX0_pullOf_85 : decode cX0_pullOf 85 = .ok (.iadd, 1) := by decide +kernel
theorem dX0_pullOf_86 : decode cX0_pullOf 86 = .ok (.ireturn, 1) := by decide +kernel
theorem dX0_middle_0 : decode cX0_middle 0 = .ok (.aload_n 0, 1) := by decide +kernel
theorem dX0_middle_1 : decode cX0_middle 1 = .ok (.getfield 27, 3) := by decide +kernel
theorem dX0_middle_4 : decode cX0_middle 4 = .ok (.aload_n 0, 1) := by decide +kernel
theorem dX0_middle_5 : decode cX0_middle 5 = .ok (.getfield 69, 3) := by decide +kernel
theorem dX0_middle_8 : decode cX0_middle 8 = .ok (.i2l, 1) := by decide +kernel
theorem dX0_middle_9 : decode cX0_middle 9 = .ok (.aload_n 0, 1) := by decide +kernel
theorem dX0_middle_10 : decode cX0_middle 10 = .ok (.getfield 31, 3) := by decide +kernel
theorem dX0_middle_13 : decode cX0_middle 13 = .ok (.lmul, 1) := by decide +kernel
theorem dX0_middle_14 : decode cX0_middle 14 = .ok (.ladd, 1) := by decide +kernel
theorem dX0_middle_15 : decode cX0_middle 15 = .ok (.aload_n 0, 1) := by decide +kernel
theorem dX0_middle_16 : decode cX0_middle 16 = .ok (.getfield 9, 3) := by decide +kernel
theorem dX0_middle_19 : decode cX0_middle 19 = .ok (.getfield 34, 3) := by decide +kernel
theorem dX0_middle_22 : decode cX0_middle 22 = .ok (.i2l, 1) := by decide +kernel
theorem dX0_middle_23 : decode cX0_middle 23 = .ok (.invokestatic 94, 3) := by decide +kernel
theorem dX0_middle_26 : decode cX0_middle 26 = .ok (.l2i, 1) := by decide +kernel
theorem dX0_middle_27 : decode cX0_middle 27 = .ok (.ireturn, 1) := by decide +kernel
theorem dX0_spreadOf_0 : decode cX0_spreadOf 0 = .ok (.iconst 0, 1) := by decide +kernel
theorem dX0_spreadOf_1 : decode cX0_spreadOf 1 = .ok (.istore_n 2, 1) := by decide +kernel
theorem dX0_spreadOf_2 : decode cX0_spreadOf 2 = .ok (.iconst 0, 1) := by decide +kernel
theorem dX0_spreadOf_3 : decode cX0_spreadOf 3 = .ok (.istore_n 3, 1) := by decide +kernel
theorem dX0_spreadOf_4 : decode cX0_spreadOf 4 = .ok (.iconst 0, 1) := by decide +kernel
theorem dX0_spreadOf_5 : decode cX0_spreadOf 5 = .ok (.istore 4, 2) := by decide +kernel
theorem dX0_spreadOf_7 : decode cX0_spreadOf 7 = .ok (.iconst 0, 1) := by decide +kernel
theorem dX0_spreadOf_8 : decode cX0_spreadOf 8 = .ok (.istore 5, 2) := by decide +kernel
theorem dX0_spreadOf_10 : decode cX0_spreadOf 10 = .ok (.iload 5, 2) := by decide +kernel
theorem dX0_spreadOf_12 : decode cX0_spreadOf 12 = .ok (.aload_n 0, 1) := by decide +kernel
theorem dX0_spreadOf_13 : decode cX0_spreadOf 13 = .ok (.getfield 9, 3) := by decide +kernel
theorem dX0_spreadOf_16 : decode cX0_spreadOf 16 = .ok (.getfield 34, 3) := by decide +kernel
theorem dX0_spreadOf_19 : decode cX0_spreadOf 19 = .ok (.if_icmp .ge 73, 3) := by decide +kernel
theorem dX0_spreadOf_22 : decode cX0_spreadOf 22 = .ok (.aload_n 0, 1) := by decide +kernel
theorem dX0_spreadOf_23 : decode cX0_spreadOf 23 = .ok (.getfield 9, 3) := by decide +kernel
theorem dX0_spreadOf_26 : decode cX0_spreadOf 26 = .ok (.iload 5, 2) := by decide +kernel
theorem dX0_spreadOf_28 : decode cX0_spreadOf 28 = .ok (.invokevirtual 56, 3) := by decide +kernel
theorem dX0_spreadOf_31 : decode cX0_spreadOf 31 = .ok (.iload_n 1, 1) := by decide +kernel
theorem dX0_spreadOf_32 : decode cX0_spreadOf 32 = .ok (.if_icmp .ne 54, 3) := by decide +kernel
theorem dX0_spreadOf_35 : decode cX0_spreadOf 35 = .ok (.aload_n 0, 1) := by decide +kernel
theorem dX0_spreadOf_36 : decode cX0_spreadOf 36 = .ok (.iload 5, 2) := by decide +kernel
theorem dX0_spreadOf_38 : decode cX0_spreadOf 38 = .ok (.invokevirtual 84, 3) := by decide +kernel
theorem dX0_spreadOf_41 : decode cX0_spreadOf 41 = .ok (.istore 6, 2) := by decide +kernel
theorem dX0_spreadOf_43 : decode cX0_spreadOf 43 = .ok (.iload 4, 2) := by decide +kernel
theorem dX0_spreadOf_45 : decode cX0_spreadOf 45 = .ok (.ifCond .eq 9, 3) := by decide +kernel
theorem dX0_spreadOf_48 : decode cX0_spreadOf 48 = .ok (.iload 6, 2) := by decide +kernel
theorem dX0_spreadOf_50 : decode cX0_spreadOf 50 = .ok (.iload_n 2, 1) := by decide +kernel
theorem dX0_spreadOf_51 : decode cX0_spreadOf 51 = .ok (.if_icmp .ge 12, 3) := by decide +kernel
theorem dX0_spreadOf_54 : decode cX0_spreadOf 54 = .ok (.iload 6, 2) := by decide +kernel
theorem dX0_spreadOf_56 : decode cX0_spreadOf 56 = .ok (.istore_n 2, 1) := by decide +kernel
theorem dX0_spreadOf_57 : decode cX0_spreadOf 57 = .ok (.aload_n 0, 1) := by decide +kernel
theorem dX0_spreadOf_58 : decode cX0_spreadOf 58 = .ok (.iload 5, 2) := by decide +kernel
theorem dX0_spreadOf_60 : decode cX0_spreadOf 60 = .ok (.putfield 100, 3) := by decide +kernel
theorem dX0_spreadOf_63 : decode cX0_spreadOf 63 = .ok (.iload 4, 2) := by decide +kernel
theorem dX0_spreadOf_65 : decode cX0_spreadOf 65 = .ok (.ifCond .eq 9, 3) := by decide +kernel
theorem dX0_spreadOf_68 : decode cX0_spreadOf 68 = .ok (.iload 6, 2) := by decide +kernel
theorem dX0_spreadOf_70 : decode cX0_spreadOf 70 = .ok (.iload_n 3, 1) := by decide +kernel
theorem dX0_spreadOf_71 : decode cX0_spreadOf 71 = .ok (.if_icmp .le 12, 3) := by decide +kernel
theorem dX0_spreadOf_74 : decode cX0_spreadOf 74 = .ok (.iload 6, 2) := by decide +kernel
theorem dX0_spreadOf_76 : decode cX0_spreadOf 76 = .ok (.istore_n 3, 1) := by decide +kernel
theorem dX0_spreadOf_77 : decode cX0_spreadOf 77 = .ok (.aload_n 0, 1) := by decide +kernel
theorem dX0_spreadOf_78 : decode cX0_spreadOf 78 = .ok (.iload 5, 2) := by decide +kernel
theorem dX0_spreadOf_80 : decode cX0_spreadOf 80 = .ok (.putfield 103, 3) := by decide +kernel
theorem dX0_spreadOf_83 : decode cX0_spreadOf 83 = .ok (.iconst 1, 1) := by decide +kernel
theorem dX0_spreadOf_84 : decode cX0_spreadOf 84 = .ok (.istore 4, 2) := by decide +kernel
theorem dX0_spreadOf_86 : decode cX0_spreadOf 86 = .ok (.iinc 5 1, 3) := by decide +kernel
theorem dX0_spreadOf_89 : decode cX0_spreadOf 89 = .ok (.goto (-79), 3) := by decide +kernel
theorem dX0_spreadOf_92 : decode cX0_spreadOf 92 = .ok (.iload_n 3, 1) := by decide +kernel
theorem dX0_spreadOf_93 : decode cX0_spreadOf 93 = .ok (.iload_n 2, 1) := by decide +kernel
theorem dX0_spreadOf_94 : decode cX0_spreadOf 94 = .ok (.isub, 1) := by decide +kernel
theorem dX0_spreadOf_95 : decode cX0_spreadOf 95 = .ok (.ireturn, 1) := by decide +kernel
theorem dX0_worst_0 : decode cX0_worst 0 = .ok (.aload_n 0, 1) := by decide +kernel
theorem dX0_worst_1 : decode cX0_worst 1 = .ok (.aload_n 0, 1) := by decide +kernel
theorem dX0_worst_2 : decode cX0_worst 2 = .ok (.iconst 0, 1) := by decide +kernel
theorem dX0_worst_3 : decode cX0_worst 3 = .ok (.invokevirtual 106, 3) := by decide +kernel
theorem dX0_worst_6 : decode cX0_worst 6 = .ok (.iconst 0, 1) := by decide +kernel
theorem dX0_worst_7 : decode cX0_worst 7 = .ok (.invokevirtual 109, 3) := by decide +kernel
theorem dX0_worst_10 : decode cX0_worst 10 = .ok (.aload_n 0, 1) := by decide +kernel
theorem dX0_worst_11 : decode cX0_worst 11 = .ok (.aload_n 0, 1) := by decide +kernel
theorem dX0_worst_12 : decode cX0_worst 12 = .ok (.iconst 1, 1) := by decide +kernel
theorem dX0_worst_13 : decode cX0_worst 13 = .ok (.invokevirtual 106, 3) := by decide +kernel
theorem dX0_worst_16 : decode cX0_worst 16 = .ok (.iconst 1, 1) := by decide +kernel
theorem dX0_worst_17 : decode cX0_worst 17 = .ok (.invokevirtual 109, 3) := by decide +kernel
theorem dX0_worst_20 : decode cX0_worst 20 = .ok (.invokestatic 113, 3) := by decide +kernel
theorem dX0_worst_23 : decode cX0_worst 23 = .ok (.lstore_n 1, 1) := by decide +kernel
theorem dX0_worst_24 : decode cX0_worst 24 = .ok (.lload_n 1, 1) := by decide +kernel
theorem dX0_worst_25 : decode cX0_worst 25 = .ok (.aload_n 0, 1) := by decide +kernel
theorem dX0_worst_26 : decode cX0_worst 26 = .ok (.aload_n 0, 1) := by decide +kernel
theorem dX0_worst_27 : decode cX0_worst 27 = .ok (.invokevirtual 116, 3) := by decide +kernel
theorem dX0_worst_30 : decode cX0_worst 30 = .ok (.invokestatic 120, 3) := by decide +kernel
theorem dX0_worst_33 : decode cX0_worst 33 = .ok (.iconst 2, 1) := by decide +kernel
theorem dX0_worst_34 : decode cX0_worst 34 = .ok (.invokevirtual 109, 3) := by decide +kernel
theorem dX0_worst_37 : decode cX0_worst 37 = .ok (.invokestatic 113, 3) := by decide +kernel
theorem dX0_worst_40 : decode cX0_worst 40 = .ok (.lstore_n 1, 1) := by decide +kernel
theorem dX0_worst_41 : decode cX0_worst 41 = .ok (.lload_n 1, 1) := by decide +kernel
theorem dX0_worst_42 : decode cX0_worst 42 = .ok (.aload_n 0, 1) := by decide +kernel
theorem dX0_worst_43 : decode cX0_worst 43 = .ok (.aload_n 0, 1) := by decide +kernel
theorem dX0_worst_44 : decode cX0_worst 44 = .ok (.iconst 1, 1) := by decide +kernel
theorem dX0_worst_45 : decode cX0_worst 45 = .ok (.invokevirtual 123, 3) := by decide +kernel
theorem dX0_worst_48 : decode cX0_worst 48 = .ok (.aload_n 0, 1) := by decide +kernel
theorem dX0_worst_49 : decode cX0_worst 49 = .ok (.iconst (-1), 1) := by decide +kernel
theorem dX0_worst_50 : decode cX0_worst 50 = .ok (.invokevirtual 123, 3) := by decide +kernel
theorem dX0_worst_53 : decode cX0_worst 53 = .ok (.invokestatic 126, 3) := by decide +kernel
theorem dX0_worst_56 : decode cX0_worst 56 = .ok (.iconst 3, 1) := by decide +kernel
theorem dX0_worst_57 : decode cX0_worst 57 = .ok (.invokevirtual 109, 3) := by decide +kernel
theorem dX0_worst_60 : decode cX0_worst 60 = .ok (.invokestatic 113, 3) := by decide +kernel
theorem dX0_worst_63 : decode cX0_worst 63 = .ok (.lstore_n 1, 1) := by decide +kernel
theorem dX0_worst_64 : decode cX0_worst 64 = .ok (.lload_n 1, 1) := by decide +kernel
theorem dX0_worst_65 : decode cX0_worst 65 = .ok (.ldc2_w 128, 3) := by decide +kernel
theorem dX0_worst_68 : decode cX0_worst 68 = .ok (.invokestatic 130, 3) := by decide +kernel
theorem dX0_worst_71 : decode cX0_worst 71 = .ok (.l2i, 1) := by decide +kernel
theorem dX0_worst_72 : decode cX0_worst 72 = .ok (.ireturn, 1) := by decide +kernel
theorem dX0_share_0 : decode cX0_share 0 = .ok (.ldc2_w 133, 3) := by decide +kernel
theorem dX0_share_3 : decode cX0_share 3 = .ok (.iload_n 1, 1) := by decide +kernel
theorem dX0_share_4 : decode cX0_share 4 = .ok (.i2l, 1) := by decide +kernel
theorem dX0_share_5 : decode cX0_share 5 = .ok (.lmul, 1) := by decide +kernel
theorem dX0_share_6 : decode cX0_share 6 = .ok (.aload_n 0, 1) := by decide +kernel
theorem dX0_share_7 : decode cX0_share 7 = .ok (.getfield 19, 3) := by decide +kernel
theorem dX0_share_10 : decode cX0_share 10 = .ok (.iload_n 2, 1) := by decide +kernel
theorem dX0_share_11 : decode cX0_share 11 = .ok (.iaload, 1) := by decide +kernel
theorem dX0_share_12 : decode cX0_share 12 = .ok (.i2l, 1) := by decide +kernel
theorem dX0_share_13 : decode cX0_share 13 = .ok (.invokestatic 94, 3) := by decide +kernel
theorem dX0_share_16 : decode cX0_share 16 = .ok (.lreturn, 1) := by decide +kernel
theorem dX0_greatestSize_0 : decode cX0_greatestSize 0 = .ok (.iconst 0, 1) := by decide +kernel
theorem dX0_greatestSize_1 : decode cX0_greatestSize 1 = .ok (.istore_n 2, 1) := by decide +kernel
theorem dX0_greatestSize_2 : decode cX0_greatestSize 2 = .ok (.iconst 0, 1) := by decide +kernel
theorem dX0_greatestSize_3 : decode cX0_greatestSize 3 = .ok (.istore_n 3, 1) := by decide +kernel
theorem dX0_greatestSize_4 : decode cX0_greatestSize 4 = .ok (.iload_n 3, 1) := by decide +kernel
theorem dX0_greatestSize_5 : decode cX0_greatestSize 5 = .ok (.aload_n 0, 1) := by decide +kernel
theorem dX0_greatestSize_6 : decode cX0_greatestSize 6 = .ok (.getfield 9, 3) := by decide +kernel
theorem dX0_greatestSize_9 : decode cX0_greatestSize 9 = .ok (.getfield 34, 3) := by decide +kernel
theorem dX0_greatestSize_12 : decode cX0_greatestSize 12 = .ok (.if_icmp .ge 23, 3) := by decide +kernel
theorem dX0_greatestSize_15 : decode cX0_greatestSize 15 = .ok (.iload_n 2, 1) := by decide +kernel
theorem dX0_greatestSize_16 : decode cX0_greatestSize 16 = .ok (.aload_n 0, 1) := by decide +kernel
theorem dX0_greatestSize_17 : decode cX0_greatestSize 17 = .ok (.iload_n 1, 1) := by decide +kernel
theorem dX0_greatestSize_18 : decode cX0_greatestSize 18 = .ok (.iload_n 3, 1) := by decide +kernel
theorem dX0_greatestSize_19 : decode cX0_greatestSize 19 = .ok (.invokevirtual 75, 3) := by decide +kernel
theorem dX0_greatestSize_22 : decode cX0_greatestSize 22 = .ok (.invokestatic 120, 3) := by decide +kernel
theorem dX0_greatestSize_25 : decode cX0_greatestSize 25 = .ok (.invokestatic 126, 3) := by decide +kernel
theorem dX0_greatestSize_28 : decode cX0_greatestSize 28 = .ok (.istore_n 2, 1) := by decide +kernel
theorem dX0_greatestSize_29 : decode cX0_greatestSize 29 = .ok (.iinc 3 1, 3) := by decide +kernel
theorem dX0_greatestSize_32 : decode cX0_greatestSize 32 = .ok (.goto (-28), 3) := by decide +kernel
theorem dX0_greatestSize_35 : decode cX0_greatestSize 35 = .ok (.iload_n 2, 1) := by decide +kernel
theorem dX0_greatestSize_36 : decode cX0_greatestSize 36 = .ok (.ireturn, 1) := by decide +kernel
theorem dX0_howManyLoose_0 : decode cX0_howManyLoose 0 = .ok (.iconst 0, 1) := by decide +kernel
theorem dX0_howManyLoose_1 : decode cX0_howManyLoose 1 = .ok (.istore_n 1, 1) := by decide +kernel
theorem dX0_howManyLoose_2 : decode cX0_howManyLoose 2 = .ok (.iconst 0, 1) := by decide +kernel
theorem dX0_howManyLoose_3 : decode cX0_howManyLoose 3 = .ok (.istore_n 2, 1) := by decide +kernel
theorem dX0_howManyLoose_4 : decode cX0_howManyLoose 4 = .ok (.iload_n 2, 1) := by decide +kernel
theorem dX0_howManyLoose_5 : decode cX0_howManyLoose 5 = .ok (.aload_n 0, 1) := by decide +kernel
theorem dX0_howManyLoose_6 : decode cX0_howManyLoose 6 = .ok (.getfield 9, 3) := by decide +kernel
theorem dX0_howManyLoose_9 : decode cX0_howManyLoose 9 = .ok (.getfield 34, 3) := by decide +kernel
theorem dX0_howManyLoose_12 : decode cX0_howManyLoose 12 = .ok (.if_icmp .ge 20, 3) := by decide +kernel
theorem dX0_howManyLoose_15 : decode cX0_howManyLoose 15 = .ok (.aload_n 0, 1) := by decide +kernel
theorem dX0_howManyLoose_16 : decode cX0_howManyLoose 16 = .ok (.iload_n 2, 1) := by decide +kernel
theorem dX0_howManyLoose_17 : decode cX0_howManyLoose 17 = .ok (.invokevirtual 135, 3) := by decide +kernel
theorem dX0_howManyLoose_20 : decode cX0_howManyLoose 20 = .ok (.ifCond .eq 6, 3) := by decide +kernel
theorem dX0_howManyLoose_23 : decode cX0_howManyLoose 23 = .ok (.iinc 1 1, 3) := by decide +kernel
theorem dX0_howManyLoose_26 : decode cX0_howManyLoose 26 = .ok (.iinc 2 1, 3) := by decide +kernel
theorem dX0_howManyLoose_29 : decode cX0_howManyLoose 29 = .ok (.goto (-25), 3) := by decide +kernel
theorem dX0_howManyLoose_32 : decode cX0_howManyLoose 32 = .ok (.iload_n 1, 1) := by decide +kernel
theorem dX0_howManyLoose_33 : decode cX0_howManyLoose 33 = .ok (.ireturn, 1) := by decide +kernel
theorem dX0_isLoose_0 : decode cX0_isLoose 0 = .ok (.aload_n 0, 1) := by decide +kernel
theorem dX0_isLoose_1 : decode cX0_isLoose 1 = .ok (.iload_n 1, 1) := by decide +kernel
theorem dX0_isLoose_2 : decode cX0_isLoose 2 = .ok (.invokevirtual 84, 3) := by decide +kernel
theorem dX0_isLoose_5 : decode cX0_isLoose 5 = .ok (.ifCond .ge 7, 3) := by decide +kernel
theorem dX0_isLoose_8 : decode cX0_isLoose 8 = .ok (.iconst 1, 1) := by decide +kernel
theorem dX0_isLoose_9 : decode cX0_isLoose 9 = .ok (.goto 4, 3) := by decide +kernel
theorem dX0_isLoose_12 : decode cX0_isLoose 12 = .ok (.iconst 0, 1) := by decide +kernel
theorem dX0_isLoose_13 : decode cX0_isLoose 13 = .ok (.ireturn, 1) := by decide +kernel
theorem dX0_isBent_0 : decode cX0_isBent 0 = .ok (.aload_n 0, 1) := by decide +kernel
theorem dX0_isBent_1 : decode cX0_isBent 1 = .ok (.iload_n 1, 1) := by decide +kernel
theorem dX0_isBent_2 : decode cX0_isBent 2 = .ok (.iload_n 2, 1) := by decide +kernel
theorem dX0_isBent_3 : decode cX0_isBent 3 = .ok (.invokevirtual 75, 3) := by decide +kernel
theorem dX0_isBent_6 : decode cX0_isBent 6 = .ok (.invokestatic 120, 3) := by decide +kernel
theorem dX0_isBent_9 : decode cX0_isBent 9 = .ok (.aload_n 0, 1) := by decide +kernel
theorem dX0_isBent_10 : decode cX0_isBent 10 = .ok (.getfield 19, 3) := by decide +kernel
theorem dX0_isBent_13 : decode cX0_isBent 13 = .ok (.iload_n 1, 1) := by decide +kernel
theorem dX0_isBent_14 : decode cX0_isBent 14 = .ok (.iaload, 1) := by decide +kernel
theorem dX0_isBent_15 : decode cX0_isBent 15 = .ok (.if_icmp .le 7, 3) := by decide +kernel
theorem dX0_isBent_18 : decode cX0_isBent 18 = .ok (.iconst 1, 1) := by decide +kernel
theorem dX0_isBent_19 : decode cX0_isBent 19 = .ok (.goto 4, 3) := by decide +kernel
theorem dX0_isBent_22 : decode cX0_isBent 22 = .ok (.iconst 0, 1) := by decide +kernel
theorem dX0_isBent_23 : decode cX0_isBent 23 = .ok (.ireturn, 1) := by decide +kernel
theorem dX0_isOffMiddle_0 : decode cX0_isOffMiddle 0 = .ok (.aload_n 0, 1) := by decide +kernel
theorem dX0_isOffMiddle_1 : decode cX0_isOffMiddle 1 = .ok (.invokevirtual 116, 3) := by decide +kernel
theorem dX0_isOffMiddle_4 : decode cX0_isOffMiddle 4 = .ok (.invokestatic 120, 3) := by decide +kernel
theorem dX0_isOffMiddle_7 : decode cX0_isOffMiddle 7 = .ok (.aload_n 0, 1) := by decide +kernel
theorem dX0_isOffMiddle_8 : decode cX0_isOffMiddle 8 = .ok (.getfield 19, 3) := by decide +kernel
theorem dX0_isOffMiddle_11 : decode cX0_isOffMiddle 11 = .ok (.iconst 2, 1) := by decide +kernel
theorem dX0_isOffMiddle_12 : decode cX0_isOffMiddle 12 = .ok (.iaload, 1) := by decide +kernel
theorem dX0_isOffMiddle_13 : decode cX0_isOffMiddle 13 = .ok (.if_icmp .le 7, 3) := by decide +kernel
theorem dX0_isOffMiddle_16 : decode cX0_isOffMiddle 16 = .ok (.iconst 1, 1) := by decide +kernel
theorem dX0_isOffMiddle_17 : decode cX0_isOffMiddle 17 = .ok (.goto 4, 3) := by decide +kernel
theorem dX0_isOffMiddle_20 : decode cX0_isOffMiddle 20 = .ok (.iconst 0, 1) := by decide +kernel
theorem dX0_isOffMiddle_21 : decode cX0_isOffMiddle 21 = .ok (.ireturn, 1) := by decide +kernel
theorem dX0_bearsTooMuch_0 : decode cX0_bearsTooMuch 0 = .ok (.aload_n 0, 1) := by decide +kernel
theorem dX0_bearsTooMuch_1 : decode cX0_bearsTooMuch 1 = .ok (.iload_n 1, 1) := by decide +kernel
theorem dX0_bearsTooMuch_2 : decode cX0_bearsTooMuch 2 = .ok (.invokevirtual 84, 3) := by decide +kernel
theorem dX0_bearsTooMuch_5 : decode cX0_bearsTooMuch 5 = .ok (.aload_n 0, 1) := by decide +kernel
theorem dX0_bearsTooMuch_6 : decode cX0_bearsTooMuch 6 = .ok (.getfield 19, 3) := by decide +kernel
theorem dX0_bearsTooMuch_9 : decode cX0_bearsTooMuch 9 = .ok (.iconst 4, 1) := by decide +kernel
theorem dX0_bearsTooMuch_10 : decode cX0_bearsTooMuch 10 = .ok (.iaload, 1) := by decide +kernel
theorem dX0_bearsTooMuch_11 : decode cX0_bearsTooMuch 11 = .ok (.if_icmp .le 7, 3) := by decide +kernel
theorem dX0_bearsTooMuch_14 : decode cX0_bearsTooMuch 14 = .ok (.iconst 1, 1) := by decide +kernel
theorem dX0_bearsTooMuch_15 : decode cX0_bearsTooMuch 15 = .ok (.goto 4, 3) := by decide +kernel
theorem dX0_bearsTooMuch_18 : decode cX0_bearsTooMuch 18 = .ok (.iconst 0, 1) := by decide +kernel
theorem dX0_bearsTooMuch_19 : decode cX0_bearsTooMuch 19 = .ok (.ireturn, 1) := by decide +kernel
theorem dX0_firstFault_0 : decode cX0_firstFault 0 = .ok (.iconst 0, 1) := by decide +kernel
theorem dX0_firstFault_1 : decode cX0_firstFault 1 = .ok (.istore_n 1, 1) := by decide +kernel
theorem dX0_firstFault_2 : decode cX0_firstFault 2 = .ok (.iload_n 1, 1) := by decide +kernel
theorem dX0_firstFault_3 : decode cX0_firstFault 3 = .ok (.iconst 2, 1) := by decide +kernel
theorem dX0_firstFault_4 : decode cX0_firstFault 4 = .ok (.if_icmp .ge 44, 3) := by decide +kernel
theorem dX0_firstFault_7 : decode cX0_firstFault 7 = .ok (.iconst 0, 1) := by decide +kernel
theorem dX0_firstFault_8 : decode cX0_firstFault 8 = .ok (.istore_n 2, 1) := by decide +kernel
theorem dX0_firstFault_9 : decode cX0_firstFault 9 = .ok (.iload_n 2, 1) := by decide +kernel
theorem dX0_firstFault_10 : decode cX0_firstFault 10 = .ok (.aload_n 0, 1) := by decide +kernel
theorem dX0_firstFault_11 : decode cX0_firstFault 11 = .ok (.getfield 9, 3) := by decide +kernel
theorem dX0_firstFault_14 : decode cX0_firstFault 14 = .ok (.getfield 34, 3) := by decide +kernel
theorem dX0_firstFault_17 : decode cX0_firstFault 17 = .ok (.if_icmp .ge 25, 3) := by decide +kernel
theorem dX0_firstFault_20 : decode cX0_firstFault 20 = .ok (.aload_n 0, 1) := by decide +kernel
theorem dX0_firstFault_21 : decode cX0_firstFault 21 = .ok (.iload_n 1, 1) := by decide +kernel
theorem dX0_firstFault_22 : decode cX0_firstFault 22 = .ok (.iload_n 2, 1) := by decide +kernel
theorem dX0_firstFault_23 : decode cX0_firstFault 23 = .ok (.invokevirtual 138, 3) := by decide +kernel
theorem dX0_firstFault_26 : decode cX0_firstFault 26 = .ok (.ifCond .eq 10, 3) := by decide +kernel
theorem dX0_firstFault_29 : decode cX0_firstFault 29 = .ok (.bipush 100, 2) := by decide +kernel
theorem dX0_firstFault_31 : decode cX0_firstFault 31 = .ok (.iload_n 1, 1) := by decide +kernel
theorem dX0_firstFault_32 : decode cX0_firstFault 32 = .ok (.imul, 1) := by decide +kernel
theorem dX0_firstFault_33 : decode cX0_firstFault 33 = .ok (.iload_n 2, 1) := by decide +kernel
theorem dX0_firstFault_34 : decode cX0_firstFault 34 = .ok (.iadd, 1) := by decide +kernel
theorem dX0_firstFault_35 : decode cX0_firstFault 35 = .ok (.ireturn, 1) := by decide +kernel
theorem dX0_firstFault_36 : decode cX0_firstFault 36 = .ok (.iinc 2 1, 3) := by decide +kernel
theorem dX0_firstFault_39 : decode cX0_firstFault 39 = .ok (.goto (-30), 3) := by decide +kernel
theorem dX0_firstFault_42 : decode cX0_firstFault 42 = .ok (.iinc 1 1, 3) := by decide +kernel
theorem dX0_firstFault_45 : decode cX0_firstFault 45 = .ok (.goto (-43), 3) := by decide +kernel
theorem dX0_firstFault_48 : decode cX0_firstFault 48 = .ok (.aload_n 0, 1) := by decide +kernel
theorem dX0_firstFault_49 : decode cX0_firstFault 49 = .ok (.invokevirtual 142, 3) := by decide +kernel
theorem dX0_firstFault_52 : decode cX0_firstFault 52 = .ok (.ifCond .eq 7, 3) := by decide +kernel
theorem dX0_firstFault_55 : decode cX0_firstFault 55 = .ok (.sipush 200, 3) := by decide +kernel
theorem dX0_firstFault_58 : decode cX0_firstFault 58 = .ok (.ireturn, 1) := by decide +kernel
theorem dX0_firstFault_59 : decode cX0_firstFault 59 = .ok (.aload_n 0, 1) := by decide +kernel
theorem dX0_firstFault_60 : decode cX0_firstFault 60 = .ok (.iconst 1, 1) := by decide +kernel
theorem dX0_firstFault_61 : decode cX0_firstFault 61 = .ok (.invokevirtual 123, 3) := by decide +kernel
theorem dX0_firstFault_64 : decode cX0_firstFault 64 = .ok (.aload_n 0, 1) := by decide +kernel
theorem dX0_firstFault_65 : decode cX0_firstFault 65 = .ok (.getfield 19, 3) := by decide +kernel
theorem dX0_firstFault_68 : decode cX0_firstFault 68 = .ok (.iconst 3, 1) := by decide +kernel
theorem dX0_firstFault_69 : decode cX0_firstFault 69 = .ok (.iaload, 1) := by decide +kernel
theorem dX0_firstFault_70 : decode cX0_firstFault 70 = .ok (.if_icmp .le 7, 3) := by decide +kernel
theorem dX0_firstFault_73 : decode cX0_firstFault 73 = .ok (.sipush 300, 3) := by decide +kernel
theorem dX0_firstFault_76 : decode cX0_firstFault 76 = .ok (.ireturn, 1) := by decide +kernel
theorem dX0_firstFault_77 : decode cX0_firstFault 77 = .ok (.aload_n 0, 1) := by decide +kernel
theorem dX0_firstFault_78 : decode cX0_firstFault 78 = .ok (.iconst (-1), 1) := by decide +kernel
theorem dX0_firstFault_79 : decode cX0_firstFault 79 = .ok (.invokevirtual 123, 3) := by decide +kernel
theorem dX0_firstFault_82 : decode cX0_firstFault 82 = .ok (.aload_n 0, 1) := by decide +kernel
theorem dX0_firstFault_83 : decode cX0_firstFault 83 = .ok (.getfield 19, 3) := by decide +kernel
theorem dX0_firstFault_86 : decode cX0_firstFault 86 = .ok (.iconst 3, 1) := by decide +kernel
theorem dX0_firstFault_87 : decode cX0_firstFault 87 = .ok (.iaload, 1) := by decide +kernel
theorem dX0_firstFault_88 : decode cX0_firstFault 88 = .ok (.if_icmp .le 7, 3) := by decide +kernel
theorem dX0_firstFault_91 : decode cX0_firstFault 91 = .ok (.sipush 301, 3) := by decide +kernel
theorem dX0_firstFault_94 : decode cX0_firstFault 94 = .ok (.ireturn, 1) := by decide +kernel
theorem dX0_firstFault_95 : decode cX0_firstFault 95 = .ok (.iconst 0, 1) := by decide +kernel
theorem dX0_firstFault_96 : decode cX0_firstFault 96 = .ok (.istore_n 1, 1) := by decide +kernel
theorem dX0_firstFault_97 : decode cX0_firstFault 97 = .ok (.iload_n 1, 1) := by decide +kernel
theorem dX0_firstFault_98 : decode cX0_firstFault 98 = .ok (.aload_n 0, 1) := by decide +kernel
theorem dX0_firstFault_99 : decode cX0_firstFault 99 = .ok (.getfield 9, 3) := by decide +kernel
theorem dX0_firstFault_102 : decode cX0_firstFault 102 = .ok (.getfield 34, 3) := by decide +kernel
theorem dX0_firstFault_105 : decode cX0_firstFault 105 = .ok (.if_icmp .ge 23, 3) := by decide +kernel
theorem dX0_firstFault_108 : decode cX0_firstFault 108 = .ok (.aload_n 0, 1) := by decide +kernel
theorem dX0_firstFault_109 : decode cX0_firstFault 109 = .ok (.iload_n 1, 1) := by decide +kernel
theorem dX0_firstFault_110 : decode cX0_firstFault 110 = .ok (.invokevirtual 135, 3) := by decide +kernel
theorem dX0_firstFault_113 : decode cX0_firstFault 113 = .ok (.ifCond .eq 9, 3) := by decide +kernel
theorem dX0_firstFault_116 : decode cX0_firstFault 116 = .ok (.sipush 400, 3) := by decide +kernel
theorem dX0_firstFault_119 : decode cX0_firstFault 119 = .ok (.iload_n 1, 1) := by decide +kernel
theorem dX0_firstFault_120 : decode cX0_firstFault 120 = .ok (.iadd, 1) := by decide +kernel
theorem dX0_firstFault_121 : decode cX0_firstFault 121 = .ok (.ireturn, 1) := by decide +kernel
theorem dX0_firstFault_122 : decode cX0_firstFault 122 = .ok (.iinc 1 1, 3) := by decide +kernel
theorem dX0_firstFault_125 : decode cX0_firstFault 125 = .ok (.goto (-28), 3) := by decide +kernel
theorem dX0_firstFault_128 : decode cX0_firstFault 128 = .ok (.ldc 146, 2) := by decide +kernel
theorem dX0_firstFault_130 : decode cX0_firstFault 130 = .ok (.ireturn, 1) := by decide +kernel
theorem dX0_firstOverload_0 : decode cX0_firstOverload 0 = .ok (.iconst 0, 1) := by decide +kernel
theorem dX0_firstOverload_1 : decode cX0_firstOverload 1 = .ok (.istore_n 1, 1) := by decide +kernel
theorem dX0_firstOverload_2 : decode cX0_firstOverload 2 = .ok (.iload_n 1, 1) := by decide +kernel
theorem dX0_firstOverload_3 : decode cX0_firstOverload 3 = .ok (.aload_n 0, 1) := by decide +kernel
theorem dX0_firstOverload_4 : decode cX0_firstOverload 4 = .ok (.getfield 9, 3) := by decide +kernel
theorem dX0_firstOverload_7 : decode cX0_firstOverload 7 = .ok (.getfield 34, 3) := by decide +kernel
theorem dX0_firstOverload_10 : decode cX0_firstOverload 10 = .ok (.if_icmp .ge 23, 3) := by decide +kernel
theorem dX0_firstOverload_13 : decode cX0_firstOverload 13 = .ok (.aload_n 0, 1) := by decide +kernel
theorem dX0_firstOverload_14 : decode cX0_firstOverload 14 = .ok (.iload_n 1, 1) := by decide +kernel
theorem dX0_firstOverload_15 : decode cX0_firstOverload 15 = .ok (.invokevirtual 147, 3) := by decide +kernel
theorem dX0_firstOverload_18 : decode cX0_firstOverload 18 = .ok (.ifCond .eq 9, 3) := by decide +kernel
theorem dX0_firstOverload_21 : decode cX0_firstOverload 21 = .ok (.sipush 500, 3) := by decide +kernel
theorem dX0_firstOverload_24 : decode cX0_firstOverload 24 = .ok (.iload_n 1, 1) := by decide +kernel
theorem dX0_firstOverload_25 : decode cX0_firstOverload 25 = .ok (.iadd, 1) := by decide +kernel
theorem dX0_firstOverload_26 : decode cX0_firstOverload 26 = .ok (.ireturn, 1) := by decide +kernel
theorem dX0_firstOverload_27 : decode cX0_firstOverload 27 = .ok (.iinc 1 1, 3) := by decide +kernel
theorem dX0_firstOverload_30 : decode cX0_firstOverload 30 = .ok (.goto (-28), 3) := by decide +kernel
theorem dX0_firstOverload_33 : decode cX0_firstOverload 33 = .ok (.ldc 146, 2) := by decide +kernel
theorem dX0_firstOverload_35 : decode cX0_firstOverload 35 = .ok (.ireturn, 1) := by decide +kernel
theorem dX0_stillHas_0 : decode cX0_stillHas 0 = .ok (.iload_n 1, 1) := by decide +kernel
theorem dX0_stillHas_1 : decode cX0_stillHas 1 = .ok (.bipush 100, 2) := by decide +kernel
theorem dX0_stillHas_3 : decode cX0_stillHas 3 = .ok (.irem, 1) := by decide +kernel
theorem dX0_stillHas_4 : decode cX0_stillHas 4 = .ok (.istore_n 2, 1) := by decide +kernel
theorem dX0_stillHas_5 : decode cX0_stillHas 5 = .ok (.iload_n 1, 1) := by decide +kernel
theorem dX0_stillHas_6 : decode cX0_stillHas 6 = .ok (.bipush 100, 2) := by decide +kernel
theorem dX0_stillHas_8 : decode cX0_stillHas 8 = .ok (.idiv, 1) := by decide +kernel
theorem dX0_stillHas_9 : decode cX0_stillHas 9 = .ok (.tableswitch 102 0 5 #[39, 46, 53, 58, 90, 96], 39) := by decide +kernel
theorem dX0_stillHas_48 : decode cX0_stillHas 48 = .ok (.aload_n 0, 1) := by decide +kernel
theorem dX0_stillHas_49 : decode cX0_stillHas 49 = .ok (.iconst 0, 1) := by decide +kernel
theorem dX0_stillHas_50 : decode cX0_stillHas 50 = .ok (.iload_n 2, 1) := by decide +kernel
theorem dX0_stillHas_51 : decode cX0_stillHas 51 = .ok (.invokevirtual 138, 3) := by decide +kernel
theorem dX0_stillHas_54 : decode cX0_stillHas 54 = .ok (.ireturn, 1) := by decide +kernel
theorem dX0_stillHas_55 : decode cX0_stillHas 55 = .ok (.aload_n 0, 1) := by decide +kernel
theorem dX0_stillHas_56 : decode cX0_stillHas 56 = .ok (.iconst 1, 1) := by decide +kernel
theorem dX0_stillHas_57 : decode cX0_stillHas 57 = .ok (.iload_n 2, 1) := by decide +kernel
theorem dX0_stillHas_58 : decode cX0_stillHas 58 = .ok (.invokevirtual 138, 3) := by decide +kernel
theorem dX0_stillHas_61 : decode cX0_stillHas 61 = .ok (.ireturn, 1) := by decide +kernel
theorem dX0_stillHas_62 : decode cX0_stillHas 62 = .ok (.aload_n 0, 1) := by decide +kernel
theorem dX0_stillHas_63 : decode cX0_stillHas 63 = .ok (.invokevirtual 142, 3) := by decide +kernel
theorem dX0_stillHas_66 : decode cX0_stillHas 66 = .ok (.ireturn, 1) := by decide +kernel
theorem dX0_stillHas_67 : decode cX0_stillHas 67 = .ok (.aload_n 0, 1) := by decide +kernel
theorem dX0_stillHas_68 : decode cX0_stillHas 68 = .ok (.aload_n 0, 1) := by decide +kernel
theorem dX0_stillHas_69 : decode cX0_stillHas 69 = .ok (.getfield 103, 3) := by decide +kernel
theorem dX0_stillHas_72 : decode cX0_stillHas 72 = .ok (.invokevirtual 84, 3) := by decide +kernel
theorem dX0_stillHas_75 : decode cX0_stillHas 75 = .ok (.aload_n 0, 1) := by decide +kernel
theorem dX0_stillHas_76 : decode cX0_stillHas 76 = .ok (.aload_n 0, 1) := by decide +kernel
theorem dX0_stillHas_77 : decode cX0_stillHas 77 = .ok (.getfield 100, 3) := by decide +kernel
theorem dX0_stillHas_80 : decode cX0_stillHas 80 = .ok (.invokevirtual 84, 3) := by decide +kernel
theorem dX0_stillHas_83 : decode cX0_stillHas 83 = .ok (.isub, 1) := by decide +kernel
theorem dX0_stillHas_84 : decode cX0_stillHas 84 = .ok (.aload_n 0, 1) := by decide +kernel
theorem dX0_stillHas_85 : decode cX0_stillHas 85 = .ok (.getfield 19, 3) := by decide +kernel
theorem dX0_stillHas_88 : decode cX0_stillHas 88 = .ok (.iconst 3, 1) := by decide +kernel
theorem dX0_stillHas_89 : decode cX0_stillHas 89 = .ok (.iaload, 1) := by decide +kernel
theorem dX0_stillHas_90 : decode cX0_stillHas 90 = .ok (.if_icmp .le 7, 3) := by decide +kernel
theorem dX0_stillHas_93 : decode cX0_stillHas 93 = .ok (.iconst 1, 1) := by decide +kernel
theorem dX0_stillHas_94 : decode cX0_stillHas 94 = .ok (.goto 4, 3) := by decide +kernel
theorem dX0_stillHas_97 : decode cX0_stillHas 97 = .ok (.iconst 0, 1) := by decide +kernel
theorem dX0_stillHas_98 : decode cX0_stillHas 98 = .ok (.ireturn, 1) := by decide +kernel
theorem dX0_stillHas_99 : decode cX0_stillHas 99 = .ok (.aload_n 0, 1) := by decide +kernel
theorem dX0_stillHas_100 : decode cX0_stillHas 100 = .ok (.iload_n 2, 1) := by decide +kernel
theorem dX0_stillHas_101 : decode cX0_stillHas 101 = .ok (.invokevirtual 135, 3) := by decide +kernel
theorem dX0_stillHas_104 : decode cX0_stillHas 104 = .ok (.ireturn, 1) := by decide +kernel
theorem dX0_stillHas_105 : decode cX0_stillHas 105 = .ok (.aload_n 0, 1) := by decide +kernel
theorem dX0_stillHas_106 : decode cX0_stillHas 106 = .ok (.iload_n 2, 1) := by decide +kernel
theorem dX0_stillHas_107 : decode cX0_stillHas 107 = .ok (.invokevirtual 147, 3) := by decide +kernel
theorem dX0_stillHas_110 : decode cX0_stillHas 110 = .ok (.ireturn, 1) := by decide +kernel
theorem dX0_stillHas_111 : decode cX0_stillHas 111 = .ok (.iconst 0, 1) := by decide +kernel
theorem dX0_stillHas_112 : decode cX0_stillHas 112 = .ok (.ireturn, 1) := by decide +kernel
theorem dX0_isRefused_0 : decode cX0_isRefused 0 = .ok (.aload_n 0, 1) := by decide +kernel
theorem dX0_isRefused_1 : decode cX0_isRefused 1 = .ok (.getfield 9, 3) := by decide +kernel
theorem dX0_isRefused_4 : decode cX0_isRefused 4 = .ok (.aload_n 0, 1) := by decide +kernel
theorem dX0_isRefused_5 : decode cX0_isRefused 5 = .ok (.getfield 53, 3) := by decide +kernel
theorem dX0_isRefused_8 : decode cX0_isRefused 8 = .ok (.invokevirtual 90, 3) := by decide +kernel
theorem dX0_isRefused_11 : decode cX0_isRefused 11 = .ok (.ifCond .ne 12, 3) := by decide +kernel
theorem dX0_isRefused_14 : decode cX0_isRefused 14 = .ok (.aload_n 0, 1) := by decide +kernel
theorem dX0_isRefused_15 : decode cX0_isRefused 15 = .ok (.invokevirtual 150, 3) := by decide +kernel
theorem dX0_isRefused_18 : decode cX0_isRefused 18 = .ok (.ldc 146, 2) := by decide +kernel
theorem dX0_isRefused_20 : decode cX0_isRefused 20 = .ok (.if_icmp .eq 7, 3) := by decide +kernel
theorem dX0_isRefused_23 : decode cX0_isRefused 23 = .ok (.iconst 1, 1) := by decide +kernel
theorem dX0_isRefused_24 : decode cX0_isRefused 24 = .ok (.goto 4, 3) := by decide +kernel
theorem dX0_isRefused_27 : decode cX0_isRefused 27 = .ok (.iconst 0, 1) := by decide +kernel
theorem dX0_isRefused_28 : decode cX0_isRefused 28 = .ok (.ireturn, 1) := by decide +kernel
theorem dX1_init_0 : decode cX1_init 0 = .ok (.aload_n 0, 1) := by decide +kernel
theorem dX1_init_1 : decode cX1_init 1 = .ok (.invokespecial 3, 3) := by decide +kernel
theorem dX1_init_4 : decode cX1_init 4 = .ok (.aload_n 0, 1) := by decide +kernel
theorem dX1_init_5 : decode cX1_init 5 = .ok (.bipush 20, 2) := by decide +kernel
theorem dX1_init_7 : decode cX1_init 7 = .ok (.putfield 9, 3) := by decide +kernel
theorem dX1_init_10 : decode cX1_init 10 = .ok (.aload_n 0, 1) := by decide +kernel
theorem dX1_init_11 : decode cX1_init 11 = .ok (.bipush 30, 2) := by decide +kernel
theorem dX1_init_13 : decode cX1_init 13 = .ok (.putfield 15, 3) := by decide +kernel
theorem dX1_init_16 : decode cX1_init 16 = .ok (.aload_n 0, 1) := by decide +kernel
theorem dX1_init_17 : decode cX1_init 17 = .ok (.sipush 300, 3) := by decide +kernel
theorem dX1_init_20 : decode cX1_init 20 = .ok (.putfield 18, 3) := by decide +kernel
theorem dX1_init_23 : decode cX1_init 23 = .ok (.aload_n 0, 1) := by decide +kernel
theorem dX1_init_24 : decode cX1_init 24 = .ok (.iconst 3, 1) := by decide +kernel
theorem dX1_init_25 : decode cX1_init 25 = .ok (.putfield 21, 3) := by decide +kernel
theorem dX1_init_28 : decode cX1_init 28 = .ok (.return_, 1) := by decide +kernel
theorem dX1_rimHole_0 : decode cX1_rimHole 0 = .ok (.iload_n 2, 1) := by decide +kernel
theorem dX1_rimHole_1 : decode cX1_rimHole 1 = .ok (.bipush 64, 2) := by decide +kernel
theorem dX1_rimHole_3 : decode cX1_rimHole 3 = .ok (.imul, 1) := by decide +kernel
theorem dX1_rimHole_4 : decode cX1_rimHole 4 = .ok (.aload_n 1, 1) := by decide +kernel
theorem dX1_rimHole_5 : decode cX1_rimHole 5 = .ok (.getfield 24, 3) := by decide +kernel
theorem dX1_rimHole_8 : decode cX1_rimHole 8 = .ok (.idiv, 1) := by decide +kernel
theorem dX1_rimHole_9 : decode cX1_rimHole 9 = .ok (.ireturn, 1) := by decide +kernel
theorem dX1_ahead_0 : decode cX1_ahead 0 = .ok (.aload_n 1, 1) := by decide +kernel
theorem dX1_ahead_1 : decode cX1_ahead 1 = .ok (.getfield 29, 3) := by decide +kernel
theorem dX1_ahead_4 : decode cX1_ahead 4 = .ok (.iload_n 2, 1) := by decide +kernel
theorem dX1_ahead_5 : decode cX1_ahead 5 = .ok (.iaload, 1) := by decide +kernel
theorem dX1_ahead_6 : decode cX1_ahead 6 = .ok (.iconst 5, 1) := by decide +kernel
theorem dX1_ahead_7 : decode cX1_ahead 7 = .ok (.if_icmp .ne 5, 3) := by decide +kernel
theorem dX1_ahead_10 : decode cX1_ahead 10 = .ok (.iconst 0, 1) := by decide +kernel
theorem dX1_ahead_11 : decode cX1_ahead 11 = .ok (.ireturn, 1) := by decide +kernel
theorem dX1_ahead_12 : decode cX1_ahead 12 = .ok (.iconst 2, 1) := by decide +kernel
theorem dX1_ahead_13 : decode cX1_ahead 13 = .ok (.aload_n 0, 1) := by decide +kernel
theorem dX1_ahead_14 : decode cX1_ahead 14 = .ok (.getfield 21, 3) := by decide +kernel
theorem dX1_ahead_17 : decode cX1_ahead 17 = .ok (.imul, 1) := by decide +kernel
theorem dX1_ahead_18 : decode cX1_ahead 18 = .ok (.bipush 64, 2) := by decide +kernel
theorem dX1_ahead_20 : decode cX1_ahead 20 = .ok (.imul, 1) := by decide +kernel
theorem dX1_ahead_21 : decode cX1_ahead 21 = .ok (.aload_n 1, 1) := by decide +kernel
theorem dX1_ahead_22 : decode cX1_ahead 22 = .ok (.getfield 24, 3) := by decide +kernel
theorem dX1_ahead_25 : decode cX1_ahead 25 = .ok (.idiv, 1) := by decide +kernel
theorem dX1_ahead_26 : decode cX1_ahead 26 = .ok (.istore_n 3, 1) := by decide +kernel
theorem dX1_ahead_27 : decode cX1_ahead 27 = .ok (.iload_n 2, 1) := by decide +kernel
theorem dX1_ahead_28 : decode cX1_ahead 28 = .ok (.iconst 2, 1) := by decide +kernel
theorem dX1_ahead_29 : decode cX1_ahead 29 = .ok (.idiv, 1) := by decide +kernel
theorem dX1_ahead_30 : decode cX1_ahead 30 = .ok (.iconst 2, 1) := by decide +kernel
theorem dX1_ahead_31 : decode cX1_ahead 31 = .ok (.irem, 1) := by decide +kernel
theorem dX1_ahead_32 : decode cX1_ahead 32 = .ok (.ifCond .ne 7, 3) := by decide +kernel
theorem dX1_ahead_35 : decode cX1_ahead 35 = .ok (.iload_n 3, 1) := by decide +kernel
theorem dX1_ahead_36 : decode cX1_ahead 36 = .ok (.goto 5, 3) := by decide +kernel
theorem dX1_ahead_39 : decode cX1_ahead 39 = .ok (.iload_n 3, 1) := by decide +kernel
theorem dX1_ahead_40 : decode cX1_ahead 40 = .ok (.ineg, 1) := by decide +kernel
theorem dX1_ahead_41 : decode cX1_ahead 41 = .ok (.ireturn, 1) := by decide +kernel
theorem dX1_tenths_0 : decode cX1_tenths 0 = .ok (.ldc2_w 33, 3) := by decide +kernel
theorem dX1_tenths_3 : decode cX1_tenths 3 = .ok (.aload_n 0, 1) := by decide +kernel
theorem dX1_tenths_4 : decode cX1_tenths 4 = .ok (.getfield 18, 3) := by decide +kernel
theorem dX1_tenths_7 : decode cX1_tenths 7 = .ok (.aload_n 0, 1) := by decide +kernel
theorem dX1_tenths_8 : decode cX1_tenths 8 = .ok (.getfield 18, 3) := by decide +kernel
theorem dX1_tenths_11 : decode cX1_tenths 11 = .ok (.imul, 1) := by decide +kernel
theorem dX1_tenths_12 : decode cX1_tenths 12 = .ok (.aload_n 0, 1) := by decide +kernel
theorem dX1_tenths_13 : decode cX1_tenths 13 = .ok (.getfield 9, 3) := by decide +kernel
theorem dX1_tenths_16 : decode cX1_tenths 16 = .ok (.aload_n 0, 1) := by decide +kernel
theorem dX1_tenths_17 : decode cX1_tenths 17 = .ok (.getfield 9, 3) := by decide +kernel
theorem dX1_tenths_20 : decode cX1_tenths 20 = .ok (.imul, 1) := by decide +kernel
theorem dX1_tenths_21 : decode cX1_tenths 21 = .ok (.iadd, 1) := by decide +kernel
theorem dX1_tenths_22 : decode cX1_tenths 22 = .ok (.aload_n 0, 1) := by decide +kernel
theorem dX1_tenths_23 : decode cX1_tenths 23 = .ok (.getfield 15, 3) := by decide +kernel
theorem dX1_tenths_26 : decode cX1_tenths 26 = .ok (.aload_n 0, 1) := by decide +kernel
theorem dX1_tenths_27 : decode cX1_tenths 27 = .ok (.getfield 15, 3) := by decide +kernel
theorem dX1_tenths_30 : decode cX1_tenths 30 = .ok (.imul, 1) := by decide +kernel
theorem dX1_tenths_31 : decode cX1_tenths 31 = .ok (.iadd, 1) := by decide +kernel
theorem dX1_tenths_32 : decode cX1_tenths 32 = .ok (.i2l, 1) := by decide +kernel
theorem dX1_tenths_33 : decode cX1_tenths 33 = .ok (.lmul, 1) := by decide +kernel
theorem dX1_tenths_34 : decode cX1_tenths 34 = .ok (.lstore_n 2, 1) := by decide +kernel
theorem dX1_tenths_35 : decode cX1_tenths 35 = .ok (.ldc2_w 35, 3) := by decide +kernel
theorem dX1_tenths_38 : decode cX1_tenths 38 = .ok (.aload_n 0, 1) := by decide +kernel
theorem dX1_tenths_39 : decode cX1_tenths 39 = .ok (.getfield 18, 3) := by decide +kernel
theorem dX1_tenths_42 : decode cX1_tenths 42 = .ok (.i2l, 1) := by decide +kernel
theorem dX1_tenths_43 : decode cX1_tenths 43 = .ok (.lmul, 1) := by decide +kernel
theorem dX1_tenths_44 : decode cX1_tenths 44 = .ok (.aload_n 0, 1) := by decide +kernel
theorem dX1_tenths_45 : decode cX1_tenths 45 = .ok (.getfield 9, 3) := by decide +kernel
theorem dX1_tenths_48 : decode cX1_tenths 48 = .ok (.i2l, 1) := by decide +kernel
theorem dX1_tenths_49 : decode cX1_tenths 49 = .ok (.lmul, 1) := by decide +kernel
theorem dX1_tenths_50 : decode cX1_tenths 50 = .ok (.bipush 16, 2) := by decide +kernel
theorem dX1_tenths_52 : decode cX1_tenths 52 = .ok (.iload_n 1, 1) := by decide +kernel
theorem dX1_tenths_53 : decode cX1_tenths 53 = .ok (.iadd, 1) := by decide +kernel
theorem dX1_tenths_54 : decode cX1_tenths 54 = .ok (.invokestatic 37, 3) := by decide +kernel
theorem dX1_tenths_57 : decode cX1_tenths 57 = .ok (.i2l, 1) := by decide +kernel
theorem dX1_tenths_58 : decode cX1_tenths 58 = .ok (.lmul, 1) := by decide +kernel
theorem dX1_tenths_59 : decode cX1_tenths 59 = .ok (.ldc2_w 41, 3) := by decide +kernel
theorem dX1_tenths_62 : decode cX1_tenths 62 = .ok (.invokestatic 43, 3) := by decide +kernel
theorem dX1_tenths_65 : decode cX1_tenths 65 = .ok (.lstore 4, 2) := by decide +kernel
theorem dX1_tenths_67 : decode cX1_tenths 67 = .ok (.lconst 0, 1) := by decide +kernel
theorem dX1_tenths_68 : decode cX1_tenths 68 = .ok (.lload_n 2, 1) := by decide +kernel
theorem dX1_tenths_69 : decode cX1_tenths 69 = .ok (.lload 4, 2) := by decide +kernel
theorem dX1_tenths_71 : decode cX1_tenths 71 = .ok (.lsub, 1) := by decide +kernel
theorem dX1_tenths_72 : decode cX1_tenths 72 = .ok (.invokestatic 49, 3) := by decide +kernel
theorem dX1_tenths_75 : decode cX1_tenths 75 = .ok (.invokestatic 52, 3) := by decide +kernel
theorem dX1_tenths_78 : decode cX1_tenths 78 = .ok (.ireturn, 1) := by decide +kernel
theorem dX1_sine_0 : decode cX1_sine 0 = .ok (.iload_n 0, 1) := by decide +kernel
theorem dX1_sine_1 : decode cX1_sine 1 = .ok (.bipush 64, 2) := by decide +kernel
theorem dX1_sine_3 : decode cX1_sine 3 = .ok (.invokestatic 56, 3) := by decide +kernel
theorem dX1_sine_6 : decode cX1_sine 6 = .ok (.istore_n 1, 1) := by decide +kernel
theorem dX1_sine_7 : decode cX1_sine 7 = .ok (.iload_n 1, 1) := by decide +kernel
theorem dX1_sine_8 : decode cX1_sine 8 = .ok (.bipush 32, 2) := by decide +kernel
theorem dX1_sine_10 : decode cX1_sine 10 = .ok (.if_icmp .le 12, 3) := by decide +kernel
theorem dX1_sine_13 : decode cX1_sine 13 = .ok (.bipush 64, 2) := by decide +kernel
theorem dX1_sine_15 : decode cX1_sine 15 = .ok (.iload_n 1, 1) := by decide +kernel
theorem dX1_sine_16 : decode cX1_sine 16 = .ok (.isub, 1) := by decide +kernel
theorem dX1_sine_17 : decode cX1_sine 17 = .ok (.invokestatic 60, 3) := by decide +kernel
theorem dX1_sine_20 : decode cX1_sine 20 = .ok (.ineg, 1) := by decide +kernel
theorem dX1_sine_21 : decode cX1_sine 21 = .ok (.ireturn, 1) := by decide +kernel
theorem dX1_sine_22 : decode cX1_sine 22 = .ok (.iload_n 1, 1) := by decide +kernel
theorem dX1_sine_23 : decode cX1_sine 23 = .ok (.invokestatic 60, 3) := by decide +kernel
theorem dX1_sine_26 : decode cX1_sine 26 = .ok (.ireturn, 1) := by decide +kernel
theorem dX1_halfSine_0 : decode cX1_halfSine 0 = .ok (.getstatic 63, 3) := by decide +kernel
theorem dX1_halfSine_3 : decode cX1_halfSine 3 = .ok (.iload_n 0, 1) := by decide +kernel
theorem dX1_halfSine_4 : decode cX1_halfSine 4 = .ok (.bipush 16, 2) := by decide +kernel
theorem dX1_halfSine_6 : decode cX1_halfSine 6 = .ok (.if_icmp .le 10, 3) := by decide +kernel
theorem dX1_halfSine_9 : decode cX1_halfSine 9 = .ok (.bipush 32, 2) := by decide +kernel
theorem dX1_halfSine_11 : decode cX1_halfSine 11 = .ok (.iload_n 0, 1) := by decide +kernel
theorem dX1_halfSine_12 : decode cX1_halfSine 12 = .ok (.isub, 1) := by decide +kernel
theorem dX1_halfSine_13 : decode cX1_halfSine 13 = .ok (.goto 4, 3) := by decide +kernel
theorem dX1_halfSine_16 : decode cX1_halfSine 16 = .ok (.iload_n 0, 1) := by decide +kernel
theorem dX1_halfSine_17 : decode cX1_halfSine 17 = .ok (.iaload, 1) := by decide +kernel
theorem dX1_halfSine_18 : decode cX1_halfSine 18 = .ok (.ireturn, 1) := by decide +kernel
theorem dX1_wholeRoot_0 : decode cX1_wholeRoot 0 = .ok (.lconst 0, 1) := by decide +kernel
theorem dX1_wholeRoot_1 : decode cX1_wholeRoot 1 = .ok (.lstore_n 2, 1) := by decide +kernel
theorem dX1_wholeRoot_2 : decode cX1_wholeRoot 2 = .ok (.ldc2_w 66, 3) := by decide +kernel
theorem dX1_wholeRoot_5 : decode cX1_wholeRoot 5 = .ok (.lstore 4, 2) := by decide +kernel
theorem dX1_wholeRoot_7 : decode cX1_wholeRoot 7 = .ok (.lload 4, 2) := by decide +kernel
theorem dX1_wholeRoot_9 : decode cX1_wholeRoot 9 = .ok (.lconst 0, 1) := by decide +kernel
theorem dX1_wholeRoot_10 : decode cX1_wholeRoot 10 = .ok (.lcmp, 1) := by decide +kernel
theorem dX1_wholeRoot_11 : decode cX1_wholeRoot 11 = .ok (.ifCond .le 33, 3) := by decide +kernel
theorem dX1_wholeRoot_14 : decode cX1_wholeRoot 14 = .ok (.lload_n 2, 1) := by decide +kernel
theorem dX1_wholeRoot_15 : decode cX1_wholeRoot 15 = .ok (.lload 4, 2) := by decide +kernel
theorem dX1_wholeRoot_17 : decode cX1_wholeRoot 17 = .ok (.ladd, 1) := by decide +kernel
theorem dX1_wholeRoot_18 : decode cX1_wholeRoot 18 = .ok (.lstore 6, 2) := by decide +kernel
theorem dX1_wholeRoot_20 : decode cX1_wholeRoot 20 = .ok (.lload 6, 2) := by decide +kernel
theorem dX1_wholeRoot_22 : decode cX1_wholeRoot 22 = .ok (.lload 6, 2) := by decide +kernel
theorem dX1_wholeRoot_24 : decode cX1_wholeRoot 24 = .ok (.lmul, 1) := by decide +kernel
theorem dX1_wholeRoot_25 : decode cX1_wholeRoot 25 = .ok (.lload_n 0, 1) := by decide +kernel
theorem dX1_wholeRoot_26 : decode cX1_wholeRoot 26 = .ok (.lcmp, 1) := by decide +kernel
theorem dX1_wholeRoot_27 : decode cX1_wholeRoot 27 = .ok (.ifCond .gt 6, 3) := by decide +kernel
theorem dX1_wholeRoot_30 : decode cX1_wholeRoot 30 = .ok (.lload 6, 2) := by decide +kernel
theorem dX1_wholeRoot_32 : decode cX1_wholeRoot 32 = .ok (.lstore_n 2, 1) := by decide +kernel
theorem dX1_wholeRoot_33 : decode cX1_wholeRoot 33 = .ok (.lload 4, 2) := by decide +kernel
theorem dX1_wholeRoot_35 : decode cX1_wholeRoot 35 = .ok (.ldc2_w 68, 3) := by decide +kernel
theorem dX1_wholeRoot_38 : decode cX1_wholeRoot 38 = .ok (.ldiv, 1) := by decide +kernel
theorem dX1_wholeRoot_39 : decode cX1_wholeRoot 39 = .ok (.lstore 4, 2) := by decide +kernel
theorem dX1_wholeRoot_41 : decode cX1_wholeRoot 41 = .ok (.goto (-34), 3) := by decide +kernel
theorem dX1_wholeRoot_44 : decode cX1_wholeRoot 44 = .ok (.lload_n 2, 1) := by decide +kernel
theorem dX1_wholeRoot_45 : decode cX1_wholeRoot 45 = .ok (.l2i, 1) := by decide +kernel
theorem dX1_wholeRoot_46 : decode cX1_wholeRoot 46 = .ok (.ireturn, 1) := by decide +kernel
theorem dX1_doCross_0 : decode cX1_doCross 0 = .ok (.aload_n 1, 1) := by decide +kernel
theorem dX1_doCross_1 : decode cX1_doCross 1 = .ok (.iload_n 2, 1) := by decide +kernel
theorem dX1_doCross_2 : decode cX1_doCross 2 = .ok (.invokevirtual 70, 3) := by decide +kernel
theorem dX1_doCross_5 : decode cX1_doCross 5 = .ok (.istore 4, 2) := by decide +kernel
theorem dX1_doCross_7 : decode cX1_doCross 7 = .ok (.iload 4, 2) := by decide +kernel
theorem dX1_doCross_9 : decode cX1_doCross 9 = .ok (.ifCond .eq 13, 3) := by decide +kernel
theorem dX1_doCross_12 : decode cX1_doCross 12 = .ok (.iload 4, 2) := by decide +kernel
theorem dX1_doCross_14 : decode cX1_doCross 14 = .ok (.aload_n 1, 1) := by decide +kernel
theorem dX1_doCross_15 : decode cX1_doCross 15 = .ok (.iload_n 3, 1) := by decide +kernel
theorem dX1_doCross_16 : decode cX1_doCross 16 = .ok (.invokevirtual 70, 3) := by decide +kernel
theorem dX1_doCross_19 : decode cX1_doCross 19 = .ok (.if_icmp .eq 5, 3) := by decide +kernel
theorem dX1_doCross_22 : decode cX1_doCross 22 = .ok (.iconst 0, 1) := by decide +kernel
theorem dX1_doCross_23 : decode cX1_doCross 23 = .ok (.ireturn, 1) := by decide +kernel
theorem dX1_doCross_24 : decode cX1_doCross 24 = .ok (.aload_n 0, 1) := by decide +kernel
theorem dX1_doCross_25 : decode cX1_doCross 25 = .ok (.aload_n 1, 1) := by decide +kernel
theorem dX1_doCross_26 : decode cX1_doCross 26 = .ok (.iload_n 3, 1) := by decide +kernel
theorem dX1_doCross_27 : decode cX1_doCross 27 = .ok (.invokevirtual 73, 3) := by decide +kernel
theorem dX1_doCross_30 : decode cX1_doCross 30 = .ok (.aload_n 0, 1) := by decide +kernel
theorem dX1_doCross_31 : decode cX1_doCross 31 = .ok (.aload_n 1, 1) := by decide +kernel
theorem dX1_doCross_32 : decode cX1_doCross 32 = .ok (.iload_n 2, 1) := by decide +kernel
theorem dX1_doCross_33 : decode cX1_doCross 33 = .ok (.invokevirtual 73, 3) := by decide +kernel
theorem dX1_doCross_36 : decode cX1_doCross 36 = .ok (.isub, 1) := by decide +kernel
theorem dX1_doCross_37 : decode cX1_doCross 37 = .ok (.bipush 64, 2) := by decide +kernel
theorem dX1_doCross_39 : decode cX1_doCross 39 = .ok (.invokestatic 56, 3) := by decide +kernel
theorem dX1_doCross_42 : decode cX1_doCross 42 = .ok (.istore 5, 2) := by decide +kernel
theorem dX1_doCross_44 : decode cX1_doCross 44 = .ok (.iload 5, 2) := by decide +kernel
theorem dX1_doCross_46 : decode cX1_doCross 46 = .ok (.aload_n 0, 1) := by decide +kernel
theorem dX1_doCross_47 : decode cX1_doCross 47 = .ok (.aload_n 1, 1) := by decide +kernel
theorem dX1_doCross_48 : decode cX1_doCross 48 = .ok (.iload_n 3, 1) := by decide +kernel
theorem dX1_doCross_49 : decode cX1_doCross 49 = .ok (.invokevirtual 77, 3) := by decide +kernel
theorem dX1_doCross_52 : decode cX1_doCross 52 = .ok (.iadd, 1) := by decide +kernel
theorem dX1_doCross_53 : decode cX1_doCross 53 = .ok (.aload_n 0, 1) := by decide +kernel
theorem dX1_doCross_54 : decode cX1_doCross 54 = .ok (.aload_n 1, 1) := by decide +kernel
theorem dX1_doCross_55 : decode cX1_doCross 55 = .ok (.iload_n 2, 1) := by decide +kernel
theorem dX1_doCross_56 : decode cX1_doCross 56 = .ok (.invokevirtual 77, 3) := by decide +kernel
theorem dX1_doCross_59 : decode cX1_doCross 59 = .ok (.isub, 1) := by decide +kernel
theorem dX1_doCross_60 : decode cX1_doCross 60 = .ok (.istore 6, 2) := by decide +kernel
theorem dX1_doCross_62 : decode cX1_doCross 62 = .ok (.iload 6, 2) := by decide +kernel
theorem dX1_doCross_64 : decode cX1_doCross 64 = .ok (.ifCond .lt 10, 3) := by decide +kernel
theorem dX1_doCross_67 : decode cX1_doCross 67 = .ok (.iload 6, 2) := by decide +kernel
theorem dX1_doCross_69 : decode cX1_doCross 69 = .ok (.bipush 64, 2) := by decide +kernel
theorem dX1_doCross_71 : decode cX1_doCross 71 = .ok (.if_icmp .le 7, 3) := by decide +kernel
theorem dX1_doCross_74 : decode cX1_doCross 74 = .ok (.iconst 1, 1) := by decide +kernel
theorem dX1_doCross_75 : decode cX1_doCross 75 = .ok (.goto 4, 3) := by decide +kernel
theorem dX1_doCross_78 : decode cX1_doCross 78 = .ok (.iconst 0, 1) := by decide +kernel
theorem dX1_doCross_79 : decode cX1_doCross 79 = .ok (.ireturn, 1) := by decide +kernel
theorem dX2_init_0 : decode cX2_init 0 = .ok (.aload_n 0, 1) := by decide +kernel
theorem dX2_init_1 : decode cX2_init 1 = .ok (.invokespecial 3, 3) := by decide +kernel
theorem dX2_init_4 : decode cX2_init 4 = .ok (.aload_n 0, 1) := by decide +kernel
theorem dX2_init_5 : decode cX2_init 5 = .ok (.iconst 5, 1) := by decide +kernel
theorem dX2_init_6 : decode cX2_init 6 = .ok (.newarray .int, 2) := by decide +kernel
theorem dX2_init_8 : decode cX2_init 8 = .ok (.putfield 9, 3) := by decide +kernel
theorem dX2_init_11 : decode cX2_init 11 = .ok (.aload_n 0, 1) := by decide +kernel
theorem dX2_init_12 : decode cX2_init 12 = .ok (.aload_n 1, 1) := by decide +kernel
theorem dX2_init_13 : decode cX2_init 13 = .ok (.putfield 15, 3) := by decide +kernel
theorem dX2_init_16 : decode cX2_init 16 = .ok (.aload_n 0, 1) := by decide +kernel
theorem dX2_init_17 : decode cX2_init 17 = .ok (.aload_n 2, 1) := by decide +kernel
theorem dX2_init_18 : decode cX2_init 18 = .ok (.putfield 19, 3) := by decide +kernel
theorem dX2_init_21 : decode cX2_init 21 = .ok (.return_, 1) := by decide +kernel
theorem dX2_bestQuarter_0 : decode cX2_bestQuarter 0 = .ok (.aload_n 0, 1) := by decide +kernel
theorem dX2_bestQuarter_1 : decode cX2_bestQuarter 1 = .ok (.getfield 19, 3) := by decide +kernel
theorem dX2_bestQuarter_4 : decode cX2_bestQuarter 4 = .ok (.invokevirtual 23, 3) := by decide +kernel
theorem dX2_bestQuarter_7 : decode cX2_bestQuarter 7 = .ok (.aload_n 0, 1) := by decide +kernel
theorem dX2_bestQuarter_8 : decode cX2_bestQuarter 8 = .ok (.getfield 19, 3) := by decide +kernel
theorem dX2_bestQuarter_11 : decode cX2_bestQuarter 11 = .ok (.invokevirtual 28, 3) := by decide +kernel
theorem dX2_bestQuarter_14 : decode cX2_bestQuarter 14 = .ok (.istore_n 1, 1) := by decide +kernel
theorem dX2_bestQuarter_15 : decode cX2_bestQuarter 15 = .ok (.ldc 32, 2) := by decide +kernel
theorem dX2_bestQuarter_17 : decode cX2_bestQuarter 17 = .ok (.istore_n 2, 1) := by decide +kernel
theorem dX2_bestQuarter_18 : decode cX2_bestQuarter 18 = .ok (.iconst 0, 1) := by decide +kernel
theorem dX2_bestQuarter_19 : decode cX2_bestQuarter 19 = .ok (.istore_n 3, 1) := by decide +kernel
theorem dX2_bestQuarter_20 : decode cX2_bestQuarter 20 = .ok (.iload_n 3, 1) := by decide +kernel
theorem dX2_bestQuarter_21 : decode cX2_bestQuarter 21 = .ok (.iconst 2, 1) := by decide +kernel
theorem dX2_bestQuarter_22 : decode cX2_bestQuarter 22 = .ok (.aload_n 0, 1) := by decide +kernel
theorem dX2_bestQuarter_23 : decode cX2_bestQuarter 23 = .ok (.getfield 15, 3) := by decide +kernel
theorem dX2_bestQuarter_26 : decode cX2_bestQuarter 26 = .ok (.getfield 33, 3) := by decide +kernel
theorem dX2_bestQuarter_29 : decode cX2_bestQuarter 29 = .ok (.imul, 1) := by decide +kernel
theorem dX2_bestQuarter_30 : decode cX2_bestQuarter 30 = .ok (.if_icmp .ge 60, 3) := by decide +kernel
theorem dX2_bestQuarter_33 : decode cX2_bestQuarter 33 = .ok (.aload_n 0, 1) := by decide +kernel
theorem dX2_bestQuarter_34 : decode cX2_bestQuarter 34 = .ok (.getfield 19, 3) := by decide +kernel
theorem dX2_bestQuarter_37 : decode cX2_bestQuarter 37 = .ok (.iload_n 3, 1) := by decide +kernel
theorem dX2_bestQuarter_38 : decode cX2_bestQuarter 38 = .ok (.iconst 1, 1) := by decide +kernel
theorem dX2_bestQuarter_39 : decode cX2_bestQuarter 39 = .ok (.ishr, 1) := by decide +kernel
theorem dX2_bestQuarter_40 : decode cX2_bestQuarter 40 = .ok (.iload_n 3, 1) := by decide +kernel
theorem dX2_bestQuarter_41 : decode cX2_bestQuarter 41 = .ok (.iconst 1, 1) := by decide +kernel
theorem dX2_bestQuarter_42 : decode cX2_bestQuarter 42 = .ok (.iand, 1) := by decide +kernel
theorem dX2_bestQuarter_43 : decode cX2_bestQuarter 43 = .ok (.ifCond .ne 7, 3) := by decide +kernel
theorem dX2_bestQuarter_46 : decode cX2_bestQuarter 46 = .ok (.iconst 1, 1) := by decide +kernel
theorem dX2_bestQuarter_47 : decode cX2_bestQuarter 47 = .ok (.goto 4, 3) := by decide +kernel
theorem dX2_bestQuarter_50 : decode cX2_bestQuarter 50 = .ok (.iconst (-1), 1) := by decide +kernel
theorem dX2_bestQuarter_51 : decode cX2_bestQuarter 51 = .ok (.invokevirtual 39, 3) := by decide +kernel
theorem dX2_bestQuarter_54 : decode cX2_bestQuarter 54 = .ok (.aload_n 0, 1) := by decide +kernel
theorem dX2_bestQuarter_55 : decode cX2_bestQuarter 55 = .ok (.getfield 19, 3) := by decide +kernel
theorem dX2_bestQuarter_58 : decode cX2_bestQuarter 58 = .ok (.invokevirtual 43, 3) := by decide +kernel
theorem dX2_bestQuarter_61 : decode cX2_bestQuarter 61 = .ok (.ifCond .ne 23, 3) := by decide +kernel
theorem dX2_bestQuarter_64 : decode cX2_bestQuarter 64 = .ok (.aload_n 0, 1) := by decide +kernel
theorem dX2_bestQuarter_65 : decode cX2_bestQuarter 65 = .ok (.getfield 19, 3) := by decide +kernel
theorem dX2_bestQuarter_68 : decode cX2_bestQuarter 68 = .ok (.invokevirtual 28, 3) := by decide +kernel
theorem dX2_bestQuarter_71 : decode cX2_bestQuarter 71 = .ok (.istore 4, 2) := by decide +kernel
theorem dX2_bestQuarter_73 : decode cX2_bestQuarter 73 = .ok (.iload 4, 2) := by decide +kernel
theorem dX2_bestQuarter_75 : decode cX2_bestQuarter 75 = .ok (.iload_n 1, 1) := by decide +kernel
theorem dX2_bestQuarter_76 : decode cX2_bestQuarter 76 = .ok (.if_icmp .ge 8, 3) := by decide +kernel
theorem dX2_bestQuarter_79 : decode cX2_bestQuarter 79 = .ok (.iload 4, 2) := by decide +kernel
theorem dX2_bestQuarter_81 : decode cX2_bestQuarter 81 = .ok (.istore_n 1, 1) := by decide +kernel
theorem dX2_bestQuarter_82 : decode cX2_bestQuarter 82 = .ok (.iload_n 3, 1) := by decide +kernel
theorem dX2_bestQuarter_83 : decode cX2_bestQuarter 83 = .ok (.istore_n 2, 1) := by decide +kernel
theorem dX2_bestQuarter_84 : decode cX2_bestQuarter 84 = .ok (.iinc 3 1, 3) := by decide +kernel
theorem dX2_bestQuarter_87 : decode cX2_bestQuarter 87 = .ok (.goto (-67), 3) := by decide +kernel
theorem dX2_bestQuarter_90 : decode cX2_bestQuarter 90 = .ok (.iload_n 2, 1) := by decide +kernel
theorem dX2_bestQuarter_91 : decode cX2_bestQuarter 91 = .ok (.ireturn, 1) := by decide +kernel
theorem dX2_fewestSpokes_0 : decode cX2_fewestSpokes 0 = .ok (.aload_n 0, 1) := by decide +kernel
theorem dX2_fewestSpokes_1 : decode cX2_fewestSpokes 1 = .ok (.getfield 19, 3) := by decide +kernel
theorem dX2_fewestSpokes_4 : decode cX2_fewestSpokes 4 = .ok (.invokevirtual 23, 3) := by decide +kernel
theorem dX2_fewestSpokes_7 : decode cX2_fewestSpokes 7 = .ok (.aload_n 0, 1) := by decide +kernel
theorem dX2_fewestSpokes_8 : decode cX2_fewestSpokes 8 = .ok (.aload_n 0, 1) := by decide +kernel
theorem dX2_fewestSpokes_9 : decode cX2_fewestSpokes 9 = .ok (.getfield 19, 3) := by decide +kernel
theorem dX2_fewestSpokes_12 : decode cX2_fewestSpokes 12 = .ok (.invokevirtual 47, 3) := by decide +kernel
theorem dX2_fewestSpokes_15 : decode cX2_fewestSpokes 15 = .ok (.putfield 50, 3) := by decide +kernel
theorem dX2_fewestSpokes_18 : decode cX2_fewestSpokes 18 = .ok (.aload_n 0, 1) := by decide +kernel
theorem dX2_fewestSpokes_19 : decode cX2_fewestSpokes 19 = .ok (.getfield 50, 3) := by decide +kernel
theorem dX2_fewestSpokes_22 : decode cX2_fewestSpokes 22 = .ok (.ldc 32, 2) := by decide +kernel
theorem dX2_fewestSpokes_24 : decode cX2_fewestSpokes 24 = .ok (.if_icmp .ne 5, 3) := by decide +kernel
theorem dX2_fewestSpokes_27 : decode cX2_fewestSpokes 27 = .ok (.iconst 0, 1) := by decide +kernel
theorem dX2_fewestSpokes_28 : decode cX2_fewestSpokes 28 = .ok (.ireturn, 1) := by decide +kernel
theorem dX2_fewestSpokes_29 : decode cX2_fewestSpokes 29 = .ok (.aload_n 0, 1) := by decide +kernel
theorem dX2_fewestSpokes_30 : decode cX2_fewestSpokes 30 = .ok (.iconst 0, 1) := by decide +kernel
theorem dX2_fewestSpokes_31 : decode cX2_fewestSpokes 31 = .ok (.iconst 1, 1) := by decide +kernel
theorem dX2_fewestSpokes_32 : decode cX2_fewestSpokes 32 = .ok (.invokevirtual 53, 3) := by decide +kernel
theorem dX2_fewestSpokes_35 : decode cX2_fewestSpokes 35 = .ok (.ifCond .eq 5, 3) := by decide +kernel
theorem dX2_fewestSpokes_38 : decode cX2_fewestSpokes 38 = .ok (.iconst 1, 1) := by decide +kernel
theorem dX2_fewestSpokes_39 : decode cX2_fewestSpokes 39 = .ok (.ireturn, 1) := by decide +kernel
theorem dX2_fewestSpokes_40 : decode cX2_fewestSpokes 40 = .ok (.aload_n 0, 1) := by decide +kernel
theorem dX2_fewestSpokes_41 : decode cX2_fewestSpokes 41 = .ok (.invokevirtual 57, 3) := by decide +kernel
theorem dX2_fewestSpokes_44 : decode cX2_fewestSpokes 44 = .ok (.ifCond .eq 7, 3) := by decide +kernel
theorem dX2_fewestSpokes_47 : decode cX2_fewestSpokes 47 = .ok (.iconst 2, 1) := by decide +kernel
theorem dX2_fewestSpokes_48 : decode cX2_fewestSpokes 48 = .ok (.goto 5, 3) := by decide +kernel
theorem dX2_fewestSpokes_51 : decode cX2_fewestSpokes 51 = .ok (.ldc 32, 2) := by decide +kernel
theorem dX2_fewestSpokes_53 : decode cX2_fewestSpokes 53 = .ok (.ireturn, 1) := by decide +kernel
theorem dX2_findsTwo_0 : decode cX2_findsTwo 0 = .ok (.iconst 0, 1) := by decide +kernel
theorem dX2_findsTwo_1 : decode cX2_findsTwo 1 = .ok (.istore_n 1, 1) := by decide +kernel
theorem dX2_findsTwo_2 : decode cX2_findsTwo 2 = .ok (.iload_n 1, 1) := by decide +kernel
theorem dX2_findsTwo_3 : decode cX2_findsTwo 3 = .ok (.aload_n 0, 1) := by decide +kernel
theorem dX2_findsTwo_4 : decode cX2_findsTwo 4 = .ok (.getfield 15, 3) := by decide +kernel
theorem dX2_findsTwo_7 : decode cX2_findsTwo 7 = .ok (.getfield 33, 3) := by decide +kernel
theorem dX2_findsTwo_10 : decode cX2_findsTwo 10 = .ok (.if_icmp .ge 104, 3) := by decide +kernel
theorem dX2_findsTwo_13 : decode cX2_findsTwo 13 = .ok (.iconst 0, 1) := by decide +kernel
theorem dX2_findsTwo_14 : decode cX2_findsTwo 14 = .ok (.istore_n 2, 1) := by decide +kernel
theorem dX2_findsTwo_15 : decode cX2_findsTwo 15 = .ok (.iload_n 2, 1) := by decide +kernel
theorem dX2_findsTwo_16 : decode cX2_findsTwo 16 = .ok (.bipush 8, 2) := by decide +kernel
theorem dX2_findsTwo_18 : decode cX2_findsTwo 18 = .ok (.if_icmp .ge 90, 3) := by decide +kernel
theorem dX2_findsTwo_21 : decode cX2_findsTwo 21 = .ok (.aload_n 0, 1) := by decide +kernel
theorem dX2_findsTwo_22 : decode cX2_findsTwo 22 = .ok (.getfield 19, 3) := by decide +kernel
theorem dX2_findsTwo_25 : decode cX2_findsTwo 25 = .ok (.iload_n 1, 1) := by decide +kernel
theorem dX2_findsTwo_26 : decode cX2_findsTwo 26 = .ok (.iload_n 2, 1) := by decide +kernel
theorem dX2_findsTwo_27 : decode cX2_findsTwo 27 = .ok (.invokestatic 60, 3) := by decide +kernel
theorem dX2_findsTwo_30 : decode cX2_findsTwo 30 = .ok (.invokevirtual 39, 3) := by decide +kernel
theorem dX2_findsTwo_33 : decode cX2_findsTwo 33 = .ok (.aload_n 0, 1) := by decide +kernel
theorem dX2_findsTwo_34 : decode cX2_findsTwo 34 = .ok (.getfield 19, 3) := by decide +kernel
theorem dX2_findsTwo_37 : decode cX2_findsTwo 37 = .ok (.invokevirtual 43, 3) := by decide +kernel
theorem dX2_findsTwo_40 : decode cX2_findsTwo 40 = .ok (.ifCond .ne 62, 3) := by decide +kernel
theorem dX2_findsTwo_43 : decode cX2_findsTwo 43 = .ok (.aload_n 0, 1) := by decide +kernel
theorem dX2_findsTwo_44 : decode cX2_findsTwo 44 = .ok (.getfield 19, 3) := by decide +kernel
theorem dX2_findsTwo_47 : decode cX2_findsTwo 47 = .ok (.invokevirtual 64, 3) := by decide +kernel
theorem dX2_findsTwo_50 : decode cX2_findsTwo 50 = .ok (.aload_n 0, 1) := by decide +kernel
theorem dX2_findsTwo_51 : decode cX2_findsTwo 51 = .ok (.iload_n 1, 1) := by decide +kernel
theorem dX2_findsTwo_52 : decode cX2_findsTwo 52 = .ok (.iconst 1, 1) := by decide +kernel
theorem dX2_findsTwo_53 : decode cX2_findsTwo 53 = .ok (.iadd, 1) := by decide +kernel
theorem dX2_findsTwo_54 : decode cX2_findsTwo 54 = .ok (.iconst 3, 1) := by decide +kernel
theorem dX2_findsTwo_55 : decode cX2_findsTwo 55 = .ok (.invokevirtual 53, 3) := by decide +kernel
theorem dX2_findsTwo_58 : decode cX2_findsTwo 58 = .ok (.istore_n 3, 1) := by decide +kernel
theorem dX2_findsTwo_59 : decode cX2_findsTwo 59 = .ok (.aload_n 0, 1) := by decide +kernel
theorem dX2_findsTwo_60 : decode cX2_findsTwo 60 = .ok (.getfield 19, 3) := by decide +kernel
theorem dX2_findsTwo_63 : decode cX2_findsTwo 63 = .ok (.iload_n 1, 1) := by decide +kernel
theorem dX2_findsTwo_64 : decode cX2_findsTwo 64 = .ok (.iload_n 2, 1) := by decide +kernel
theorem dX2_findsTwo_65 : decode cX2_findsTwo 65 = .ok (.invokestatic 60, 3) := by decide +kernel
theorem dX2_findsTwo_68 : decode cX2_findsTwo 68 = .ok (.ineg, 1) := by decide +kernel
theorem dX2_findsTwo_69 : decode cX2_findsTwo 69 = .ok (.invokevirtual 39, 3) := by decide +kernel
theorem dX2_findsTwo_72 : decode cX2_findsTwo 72 = .ok (.aload_n 0, 1) := by decide +kernel
theorem dX2_findsTwo_73 : decode cX2_findsTwo 73 = .ok (.getfield 19, 3) := by decide +kernel
theorem dX2_findsTwo_76 : decode cX2_findsTwo 76 = .ok (.invokevirtual 64, 3) := by decide +kernel
theorem dX2_findsTwo_79 : decode cX2_findsTwo 79 = .ok (.iload_n 3, 1) := by decide +kernel
theorem dX2_findsTwo_80 : decode cX2_findsTwo 80 = .ok (.ifCond .eq 22, 3) := by decide +kernel
theorem dX2_findsTwo_83 : decode cX2_findsTwo 83 = .ok (.aload_n 0, 1) := by decide +kernel
theorem dX2_findsTwo_84 : decode cX2_findsTwo 84 = .ok (.getfield 9, 3) := by decide +kernel
theorem dX2_findsTwo_87 : decode cX2_findsTwo 87 = .ok (.iconst 1, 1) := by decide +kernel
theorem dX2_findsTwo_88 : decode cX2_findsTwo 88 = .ok (.iload_n 1, 1) := by decide +kernel
theorem dX2_findsTwo_89 : decode cX2_findsTwo 89 = .ok (.iastore, 1) := by decide +kernel
theorem dX2_findsTwo_90 : decode cX2_findsTwo 90 = .ok (.aload_n 0, 1) := by decide +kernel
theorem dX2_findsTwo_91 : decode cX2_findsTwo 91 = .ok (.getfield 9, 3) := by decide +kernel
theorem dX2_findsTwo_94 : decode cX2_findsTwo 94 = .ok (.iconst 2, 1) := by decide +kernel
theorem dX2_findsTwo_95 : decode cX2_findsTwo 95 = .ok (.iload_n 2, 1) := by decide +kernel
theorem dX2_findsTwo_96 : decode cX2_findsTwo 96 = .ok (.invokestatic 60, 3) := by decide +kernel
theorem dX2_findsTwo_99 : decode cX2_findsTwo 99 = .ok (.iastore, 1) := by decide +kernel
theorem dX2_findsTwo_100 : decode cX2_findsTwo 100 = .ok (.iconst 1, 1) := by decide +kernel
theorem dX2_findsTwo_101 : decode cX2_findsTwo 101 = .ok (.ireturn, 1) := by decide +kernel
theorem dX2_findsTwo_102 : decode cX2_findsTwo 102 = .ok (.iinc 2 1, 3) := by decide +kernel
theorem dX2_findsTwo_105 : decode cX2_findsTwo 105 = .ok (.goto (-90), 3) := by decide +kernel
theorem dX2_findsTwo_108 : decode cX2_findsTwo 108 = .ok (.iinc 1 1, 3) := by decide +kernel
theorem dX2_findsTwo_111 : decode cX2_findsTwo 111 = .ok (.goto (-109), 3) := by decide +kernel
theorem dX2_findsTwo_114 : decode cX2_findsTwo 114 = .ok (.iconst 0, 1) := by decide +kernel
theorem dX2_findsTwo_115 : decode cX2_findsTwo 115 = .ok (.ireturn, 1) := by decide +kernel
theorem dX2_findsOne_0 : decode cX2_findsOne 0 = .ok (.iload_n 1, 1) := by decide +kernel
theorem dX2_findsOne_1 : decode cX2_findsOne 1 = .ok (.istore_n 3, 1) := by decide +kernel
theorem dX2_findsOne_2 : decode cX2_findsOne 2 = .ok (.iload_n 3, 1) := by decide +kernel
theorem dX2_findsOne_3 : decode cX2_findsOne 3 = .ok (.aload_n 0, 1) := by decide +kernel
theorem dX2_findsOne_4 : decode cX2_findsOne 4 = .ok (.getfield 15, 3) := by decide +kernel
theorem dX2_findsOne_7 : decode cX2_findsOne 7 = .ok (.getfield 33, 3) := by decide +kernel
theorem dX2_findsOne_10 : decode cX2_findsOne 10 = .ok (.if_icmp .ge 128, 3) := by decide +kernel
theorem dX2_findsOne_13 : decode cX2_findsOne 13 = .ok (.iconst 0, 1) := by decide +kernel
theorem dX2_findsOne_14 : decode cX2_findsOne 14 = .ok (.istore 4, 2) := by decide +kernel
theorem dX2_findsOne_16 : decode cX2_findsOne 16 = .ok (.iload 4, 2) := by decide +kernel
theorem dX2_findsOne_18 : decode cX2_findsOne 18 = .ok (.bipush 8, 2) := by decide +kernel
theorem dX2_findsOne_20 : decode cX2_findsOne 20 = .ok (.if_icmp .ge 112, 3) := by decide +kernel
theorem dX2_findsOne_23 : decode cX2_findsOne 23 = .ok (.aload_n 0, 1) := by decide +kernel
theorem dX2_findsOne_24 : decode cX2_findsOne 24 = .ok (.getfield 15, 3) := by decide +kernel
theorem dX2_findsOne_27 : decode cX2_findsOne 27 = .ok (.iload_n 3, 1) := by decide +kernel
theorem dX2_findsOne_28 : decode cX2_findsOne 28 = .ok (.invokevirtual 67, 3) := by decide +kernel
theorem dX2_findsOne_31 : decode cX2_findsOne 31 = .ok (.ifCond .ne 101, 3) := by decide +kernel
theorem dX2_findsOne_34 : decode cX2_findsOne 34 = .ok (.aload_n 0, 1) := by decide +kernel
theorem dX2_findsOne_35 : decode cX2_findsOne 35 = .ok (.getfield 19, 3) := by decide +kernel
theorem dX2_findsOne_38 : decode cX2_findsOne 38 = .ok (.iload_n 3, 1) := by decide +kernel
theorem dX2_findsOne_39 : decode cX2_findsOne 39 = .ok (.iload 4, 2) := by decide +kernel
theorem dX2_findsOne_41 : decode cX2_findsOne 41 = .ok (.invokestatic 60, 3) := by decide +kernel
theorem dX2_findsOne_44 : decode cX2_findsOne 44 = .ok (.invokevirtual 39, 3) := by decide +kernel
theorem dX2_findsOne_47 : decode cX2_findsOne 47 = .ok (.aload_n 0, 1) := by decide +kernel
theorem dX2_findsOne_48 : decode cX2_findsOne 48 = .ok (.getfield 19, 3) := by decide +kernel
theorem dX2_findsOne_51 : decode cX2_findsOne 51 = .ok (.aload_n 0, 1) := by decide +kernel
theorem dX2_findsOne_52 : decode cX2_findsOne 52 = .ok (.getfield 50, 3) := by decide +kernel
theorem dX2_findsOne_55 : decode cX2_findsOne 55 = .ok (.invokevirtual 71, 3) := by decide +kernel
theorem dX2_findsOne_58 : decode cX2_findsOne 58 = .ok (.ifCond .eq 6, 3) := by decide +kernel
theorem dX2_findsOne_61 : decode cX2_findsOne 61 = .ok (.goto 65, 3) := by decide +kernel
theorem dX2_findsOne_64 : decode cX2_findsOne 64 = .ok (.aload_n 0, 1) := by decide +kernel
theorem dX2_findsOne_65 : decode cX2_findsOne 65 = .ok (.aload_n 0, 1) := by decide +kernel
theorem dX2_findsOne_66 : decode cX2_findsOne 66 = .ok (.getfield 19, 3) := by decide +kernel
theorem dX2_findsOne_69 : decode cX2_findsOne 69 = .ok (.invokevirtual 47, 3) := by decide +kernel
theorem dX2_findsOne_72 : decode cX2_findsOne 72 = .ok (.putfield 50, 3) := by decide +kernel
theorem dX2_findsOne_75 : decode cX2_findsOne 75 = .ok (.aload_n 0, 1) := by decide +kernel
theorem dX2_findsOne_76 : decode cX2_findsOne 76 = .ok (.getfield 50, 3) := by decide +kernel
theorem dX2_findsOne_79 : decode cX2_findsOne 79 = .ok (.ldc 32, 2) := by decide +kernel
theorem dX2_findsOne_81 : decode cX2_findsOne 81 = .ok (.if_icmp .ne 14, 3) := by decide +kernel
theorem dX2_findsOne_84 : decode cX2_findsOne 84 = .ok (.aload_n 0, 1) := by decide +kernel
theorem dX2_findsOne_85 : decode cX2_findsOne 85 = .ok (.aload_n 0, 1) := by decide +kernel
theorem dX2_findsOne_86 : decode cX2_findsOne 86 = .ok (.getfield 19, 3) := by decide +kernel
theorem dX2_findsOne_89 : decode cX2_findsOne 89 = .ok (.invokevirtual 74, 3) := by decide +kernel
theorem dX2_findsOne_92 : decode cX2_findsOne 92 = .ok (.putfield 50, 3) := by decide +kernel
theorem dX2_findsOne_95 : decode cX2_findsOne 95 = .ok (.aload_n 0, 1) := by decide +kernel
theorem dX2_findsOne_96 : decode cX2_findsOne 96 = .ok (.getfield 50, 3) := by decide +kernel
theorem dX2_findsOne_99 : decode cX2_findsOne 99 = .ok (.ldc 32, 2) := by decide +kernel
theorem dX2_findsOne_101 : decode cX2_findsOne 101 = .ok (.if_icmp .ne 25, 3) := by decide +kernel
theorem dX2_findsOne_104 : decode cX2_findsOne 104 = .ok (.aload_n 0, 1) := by decide +kernel
theorem dX2_findsOne_105 : decode cX2_findsOne 105 = .ok (.getfield 9, 3) := by decide +kernel
theorem dX2_findsOne_108 : decode cX2_findsOne 108 = .ok (.iload_n 2, 1) := by decide +kernel
theorem dX2_findsOne_109 : decode cX2_findsOne 109 = .ok (.iload_n 3, 1) := by decide +kernel
theorem dX2_findsOne_110 : decode cX2_findsOne 110 = .ok (.iastore, 1) := by decide +kernel
theorem dX2_findsOne_111 : decode cX2_findsOne 111 = .ok (.aload_n 0, 1) := by decide +kernel
theorem dX2_findsOne_112 : decode cX2_findsOne 112 = .ok (.getfield 9, 3) := by decide +kernel
theorem dX2_findsOne_115 : decode cX2_findsOne 115 = .ok (.iload_n 2, 1) := by decide +kernel
theorem dX2_findsOne_116 : decode cX2_findsOne 116 = .ok (.iconst 1, 1) := by decide +kernel
theorem dX2_findsOne_117 : decode cX2_findsOne 117 = .ok (.iadd, 1) := by decide +kernel
theorem dX2_findsOne_118 : decode cX2_findsOne 118 = .ok (.iload 4, 2) := by decide +kernel
theorem dX2_findsOne_120 : decode cX2_findsOne 120 = .ok (.invokestatic 60, 3) := by decide +kernel
theorem dX2_findsOne_123 : decode cX2_findsOne 123 = .ok (.iastore, 1) := by decide +kernel
theorem dX2_findsOne_124 : decode cX2_findsOne 124 = .ok (.iconst 1, 1) := by decide +kernel
theorem dX2_findsOne_125 : decode cX2_findsOne 125 = .ok (.ireturn, 1) := by decide +kernel
theorem dX2_findsOne_126 : decode cX2_findsOne 126 = .ok (.iinc 4 1, 3) := by decide +kernel
theorem dX2_findsOne_129 : decode cX2_findsOne 129 = .ok (.goto (-113), 3) := by decide +kernel
theorem dX2_findsOne_132 : decode cX2_findsOne 132 = .ok (.iinc 3 1, 3) := by decide +kernel
theorem dX2_findsOne_135 : decode cX2_findsOne 135 = .ok (.goto (-133), 3) := by decide +kernel
theorem dX2_findsOne_138 : decode cX2_findsOne 138 = .ok (.iconst 0, 1) := by decide +kernel
theorem dX2_findsOne_139 : decode cX2_findsOne 139 = .ok (.ireturn, 1) := by decide +kernel
theorem dX2_nearest_0 : decode cX2_nearest 0 = .ok (.iload_n 0, 1) := by decide +kernel
theorem dX2_nearest_1 : decode cX2_nearest 1 = .ok (.iconst 1, 1) := by decide +kernel
theorem dX2_nearest_2 : decode cX2_nearest 2 = .ok (.ishr, 1) := by decide +kernel
theorem dX2_nearest_3 : decode cX2_nearest 3 = .ok (.iconst 1, 1) := by decide +kernel
theorem dX2_nearest_4 : decode cX2_nearest 4 = .ok (.iadd, 1) := by decide +kernel
theorem dX2_nearest_5 : decode cX2_nearest 5 = .ok (.istore_n 1, 1) := by decide +kernel
theorem dX2_nearest_6 : decode cX2_nearest 6 = .ok (.iload_n 0, 1) := by decide +kernel
theorem dX2_nearest_7 : decode cX2_nearest 7 = .ok (.iconst 1, 1) := by decide +kernel
theorem dX2_nearest_8 : decode cX2_nearest 8 = .ok (.iand, 1) := by decide +kernel
theorem dX2_nearest_9 : decode cX2_nearest 9 = .ok (.ifCond .ne 7, 3) := by decide +kernel
theorem dX2_nearest_12 : decode cX2_nearest 12 = .ok (.iload_n 1, 1) := by decide +kernel
theorem dX2_nearest_13 : decode cX2_nearest 13 = .ok (.goto 5, 3) := by decide +kernel
theorem dX2_nearest_16 : decode cX2_nearest 16 = .ok (.iload_n 1, 1) := by decide +kernel
theorem dX2_nearest_17 : decode cX2_nearest 17 = .ok (.ineg, 1) := by decide +kernel
theorem dX2_nearest_18 : decode cX2_nearest 18 = .ok (.ireturn, 1) := by decide +kernel
theorem dX3_init_0 : decode cX3_init 0 = .ok (.aload_n 0, 1) := by decide +kernel
theorem dX3_init_1 : decode cX3_init 1 = .ok (.invokespecial 3, 3) := by decide +kernel
theorem dX3_init_4 : decode cX3_init 4 = .ok (.aload_n 0, 1) := by decide +kernel
theorem dX3_init_5 : decode cX3_init 5 = .ok (.bipush 6, 2) := by decide +kernel
theorem dX3_init_7 : decode cX3_init 7 = .ok (.bipush 17, 2) := by decide +kernel
theorem dX3_init_9 : decode cX3_init 9 = .ok (.multianewarray 9 2, 4) := by decide +kernel
theorem dX3_init_13 : decode cX3_init 13 = .ok (.putfield 11, 3) := by decide +kernel
theorem dX3_init_16 : decode cX3_init 16 = .ok (.aload_n 0, 1) := by decide +kernel
theorem dX3_init_17 : decode cX3_init 17 = .ok (.bipush 6, 2) := by decide +kernel
theorem dX3_init_19 : decode cX3_init 19 = .ok (.newarray .int, 2) := by decide +kernel
theorem dX3_init_21 : decode cX3_init 21 = .ok (.dup, 1) := by decide +kernel
theorem dX3_init_22 : decode cX3_init 22 = .ok (.iconst 0, 1) := by decide +kernel
theorem dX3_init_23 : decode cX3_init 23 = .ok (.iconst (-1), 1) := by decide +kernel
theorem dX3_init_24 : decode cX3_init 24 = .ok (.iastore, 1) := by decide +kernel
theorem dX3_init_25 : decode cX3_init 25 = .ok (.dup, 1) := by decide +kernel
theorem dX3_init_26 : decode cX3_init 26 = .ok (.iconst 1, 1) := by decide +kernel
theorem dX3_init_27 : decode cX3_init 27 = .ok (.iconst (-1), 1) := by decide +kernel
theorem dX3_init_28 : decode cX3_init 28 = .ok (.iastore, 1) := by decide +kernel
theorem dX3_init_29 : decode cX3_init 29 = .ok (.dup, 1) := by decide +kernel
theorem dX3_init_30 : decode cX3_init 30 = .ok (.iconst 2, 1) := by decide +kernel
theorem dX3_init_31 : decode cX3_init 31 = .ok (.iconst (-1), 1) := by decide +kernel
theorem dX3_init_32 : decode cX3_init 32 = .ok (.iastore, 1) := by decide +kernel
theorem dX3_init_33 : decode cX3_init 33 = .ok (.dup, 1) := by decide +kernel
theorem dX3_init_34 : decode cX3_init 34 = .ok (.iconst 3, 1) := by decide +kernel
theorem dX3_init_35 : decode cX3_init 35 = .ok (.iconst (-1), 1) := by decide +kernel
theorem dX3_init_36 : decode cX3_init 36 = .ok (.iastore, 1) := by decide +kernel
theorem dX3_init_37 : decode cX3_init 37 = .ok (.dup, 1) := by decide +kernel
theorem dX3_init_38 : decode cX3_init 38 = .ok (.iconst 4, 1) := by decide +kernel
theorem dX3_init_39 : decode cX3_init 39 = .ok (.iconst (-1), 1) := by decide +kernel
theorem dX3_init_40 : decode cX3_init 40 = .ok (.iastore, 1) := by decide +kernel
theorem dX3_init_41 : decode cX3_init 41 = .ok (.dup, 1) := by decide +kernel
theorem dX3_init_42 : decode cX3_init 42 = .ok (.iconst 5, 1) := by decide +kernel
theorem dX3_init_43 : decode cX3_init 43 = .ok (.iconst (-1), 1) := by decide +kernel
theorem dX3_init_44 : decode cX3_init 44 = .ok (.iastore, 1) := by decide +kernel
theorem dX3_init_45 : decode cX3_init 45 = .ok (.putfield 16, 3) := by decide +kernel
theorem dX3_init_48 : decode cX3_init 48 = .ok (.return_, 1) := by decide +kernel
theorem dX3_begin_0 : decode cX3_begin 0 = .ok (.aload_n 0, 1) := by decide +kernel
theorem dX3_begin_1 : decode cX3_begin 1 = .ok (.getfield 16, 3) := by decide +kernel
theorem dX3_begin_4 : decode cX3_begin 4 = .ok (.iload_n 1, 1) := by decide +kernel
theorem dX3_begin_5 : decode cX3_begin 5 = .ok (.iload_n 2, 1) := by decide +kernel
theorem dX3_begin_6 : decode cX3_begin 6 = .ok (.iastore, 1) := by decide +kernel
theorem dX3_begin_7 : decode cX3_begin 7 = .ok (.iconst 0, 1) := by decide +kernel
theorem dX3_begin_8 : decode cX3_begin 8 = .ok (.istore_n 3, 1) := by decide +kernel
theorem dX3_begin_9 : decode cX3_begin 9 = .ok (.iload_n 3, 1) := by decide +kernel
theorem dX3_begin_10 : decode cX3_begin 10 = .ok (.bipush 17, 2) := by decide +kernel
theorem dX3_begin_12 : decode cX3_begin 12 = .ok (.if_icmp .ge 18, 3) := by decide +kernel
theorem dX3_begin_15 : decode cX3_begin 15 = .ok (.aload_n 0, 1) := by decide +kernel
theorem dX3_begin_16 : decode cX3_begin 16 = .ok (.getfield 11, 3) := by decide +kernel
theorem dX3_begin_19 : decode cX3_begin 19 = .ok (.iload_n 1, 1) := by decide +kernel
theorem dX3_begin_20 : decode cX3_begin 20 = .ok (.aaload, 1) := by decide +kernel
theorem dX3_begin_21 : decode cX3_begin 21 = .ok (.iload_n 3, 1) := by decide +kernel
theorem dX3_begin_22 : decode cX3_begin 22 = .ok (.iconst 0, 1) := by decide +kernel
theorem dX3_begin_23 : decode cX3_begin 23 = .ok (.iastore, 1) := by decide +kernel
theorem dX3_begin_24 : decode cX3_begin 24 = .ok (.iinc 3 1, 3) := by decide +kernel
theorem dX3_begin_27 : decode cX3_begin 27 = .ok (.goto (-18), 3) := by decide +kernel
theorem dX3_begin_30 : decode cX3_begin 30 = .ok (.return_, 1) := by decide +kernel
theorem dX3_isMissing_0 : decode cX3_isMissing 0 = .ok (.aload_n 0, 1) := by decide +kernel
theorem dX3_isMissing_1 : decode cX3_isMissing 1 = .ok (.getfield 16, 3) := by decide +kernel
theorem dX3_isMissing_4 : decode cX3_isMissing 4 = .ok (.iload_n 1, 1) := by decide +kernel
theorem dX3_isMissing_5 : decode cX3_isMissing 5 = .ok (.iaload, 1) := by decide +kernel
theorem dX3_isMissing_6 : decode cX3_isMissing 6 = .ok (.iconst (-1), 1) := by decide +kernel
theorem dX3_isMissing_7 : decode cX3_isMissing 7 = .ok (.if_icmp .ne 7, 3) := by decide +kernel
theorem dX3_isMissing_10 : decode cX3_isMissing 10 = .ok (.iconst 1, 1) := by decide +kernel
theorem dX3_isMissing_11 : decode cX3_isMissing 11 = .ok (.goto 4, 3) := by decide +kernel
theorem dX3_isMissing_14 : decode cX3_isMissing 14 = .ok (.iconst 0, 1) := by decide +kernel
theorem dX3_isMissing_15 : decode cX3_isMissing 15 = .ok (.ireturn, 1) := by decide +kernel
theorem dX4_init_0 : decode cX4_init 0 = .ok (.aload_n 0, 1) := by decide +kernel
theorem dX4_init_1 : decode cX4_init 1 = .ok (.invokespecial 3, 3) := by decide +kernel
theorem dX4_init_4 : decode cX4_init 4 = .ok (.aload_n 0, 1) := by decide +kernel
theorem dX4_init_5 : decode cX4_init 5 = .ok (.bipush 60, 2) := by decide +kernel
theorem dX4_init_7 : decode cX4_init 7 = .ok (.newarray .int, 2) := by decide +kernel
theorem dX4_init_9 : decode cX4_init 9 = .ok (.putfield 9, 3) := by decide +kernel
theorem dX4_init_12 : decode cX4_init 12 = .ok (.aload_n 0, 1) := by decide +kernel
theorem dX4_init_13 : decode cX4_init 13 = .ok (.bipush 60, 2) := by decide +kernel
theorem dX4_init_15 : decode cX4_init 15 = .ok (.newarray .int, 2) := by decide +kernel
theorem dX4_init_17 : decode cX4_init 17 = .ok (.putfield 15, 3) := by decide +kernel
theorem dX4_init_20 : decode cX4_init 20 = .ok (.return_, 1) := by decide +kernel
theorem dX4_isFull_0 : decode cX4_isFull 0 = .ok (.aload_n 0, 1) := by decide +kernel
theorem dX4_isFull_1 : decode cX4_isFull 1 = .ok (.getfield 18, 3) := by decide +kernel
theorem dX4_isFull_4 : decode cX4_isFull 4 = .ok (.bipush 60, 2) := by decide +kernel
theorem dX4_isFull_6 : decode cX4_isFull 6 = .ok (.if_icmp .lt 7, 3) := by decide +kernel
theorem dX4_isFull_9 : decode cX4_isFull 9 = .ok (.iconst 1, 1) := by decide +kernel
theorem dX4_isFull_10 : decode cX4_isFull 10 = .ok (.goto 4, 3) := by decide +kernel
theorem dX4_isFull_13 : decode cX4_isFull 13 = .ok (.iconst 0, 1) := by decide +kernel
theorem dX4_isFull_14 : decode cX4_isFull 14 = .ok (.ireturn, 1) := by decide +kernel
theorem dX4_add_0 : decode cX4_add 0 = .ok (.aload_n 0, 1) := by decide +kernel
theorem dX4_add_1 : decode cX4_add 1 = .ok (.invokevirtual 22, 3) := by decide +kernel
theorem dX4_add_4 : decode cX4_add 4 = .ok (.ifCond .eq 4, 3) := by decide +kernel
theorem dX4_add_7 : decode cX4_add 7 = .ok (.return_, 1) := by decide +kernel
theorem dX4_add_8 : decode cX4_add 8 = .ok (.aload_n 0, 1) := by decide +kernel
theorem dX4_add_9 : decode cX4_add 9 = .ok (.getfield 9, 3) := by decide +kernel
theorem dX4_add_12 : decode cX4_add 12 = .ok (.aload_n 0, 1) := by decide +kernel
theorem dX4_add_13 : decode cX4_add 13 = .ok (.getfield 18, 3) := by decide +kernel
theorem dX4_add_16 : decode cX4_add 16 = .ok (.iload_n 1, 1) := by decide +kernel
theorem dX4_add_17 : decode cX4_add 17 = .ok (.iastore, 1) := by decide +kernel
theorem dX4_add_18 : decode cX4_add 18 = .ok (.aload_n 0, 1) := by decide +kernel
theorem dX4_add_19 : decode cX4_add 19 = .ok (.getfield 15, 3) := by decide +kernel
theorem dX4_add_22 : decode cX4_add 22 = .ok (.aload_n 0, 1) := by decide +kernel
theorem dX4_add_23 : decode cX4_add 23 = .ok (.getfield 18, 3) := by decide +kernel
theorem dX4_add_26 : decode cX4_add 26 = .ok (.iload_n 2, 1) := by decide +kernel
theorem dX4_add_27 : decode cX4_add 27 = .ok (.iastore, 1) := by decide +kernel
theorem dX4_add_28 : decode cX4_add 28 = .ok (.aload_n 0, 1) := by decide +kernel
theorem dX4_add_29 : decode cX4_add 29 = .ok (.dup, 1) := by decide +kernel
theorem dX4_add_30 : decode cX4_add 30 = .ok (.getfield 18, 3) := by decide +kernel
theorem dX4_add_33 : decode cX4_add 33 = .ok (.iconst 1, 1) := by decide +kernel
theorem dX4_add_34 : decode cX4_add 34 = .ok (.iadd, 1) := by decide +kernel
theorem dX4_add_35 : decode cX4_add 35 = .ok (.putfield 18, 3) := by decide +kernel
theorem dX4_add_38 : decode cX4_add 38 = .ok (.return_, 1) := by decide +kernel
theorem dX4_allQuarters_0 : decode cX4_allQuarters 0 = .ok (.iconst 0, 1) := by decide +kernel
theorem dX4_allQuarters_1 : decode cX4_allQuarters 1 = .ok (.istore_n 1, 1) := by decide +kernel
theorem dX4_allQuarters_2 : decode cX4_allQuarters 2 = .ok (.iconst 0, 1) := by decide +kernel
theorem dX4_allQuarters_3 : decode cX4_allQuarters 3 = .ok (.istore_n 2, 1) := by decide +kernel
theorem dX4_allQuarters_4 : decode cX4_allQuarters 4 = .ok (.iload_n 2, 1) := by decide +kernel
theorem dX4_allQuarters_5 : decode cX4_allQuarters 5 = .ok (.aload_n 0, 1) := by decide +kernel
theorem dX4_allQuarters_6 : decode cX4_allQuarters 6 = .ok (.getfield 18, 3) := by decide +kernel
theorem dX4_allQuarters_9 : decode cX4_allQuarters 9 = .ok (.if_icmp .ge 21, 3) := by decide +kernel
theorem dX4_allQuarters_12 : decode cX4_allQuarters 12 = .ok (.iload_n 1, 1) := by decide +kernel
theorem dX4_allQuarters_13 : decode cX4_allQuarters 13 = .ok (.aload_n 0, 1) := by decide +kernel
theorem dX4_allQuarters_14 : decode cX4_allQuarters 14 = .ok (.getfield 15, 3) := by decide +kernel
theorem dX4_allQuarters_17 : decode cX4_allQuarters 17 = .ok (.iload_n 2, 1) := by decide +kernel
theorem dX4_allQuarters_18 : decode cX4_allQuarters 18 = .ok (.iaload, 1) := by decide +kernel
theorem dX4_allQuarters_19 : decode cX4_allQuarters 19 = .ok (.invokestatic 26, 3) := by decide +kernel
theorem dX4_allQuarters_22 : decode cX4_allQuarters 22 = .ok (.iadd, 1) := by decide +kernel
theorem dX4_allQuarters_23 : decode cX4_allQuarters 23 = .ok (.istore_n 1, 1) := by decide +kernel
theorem dX4_allQuarters_24 : decode cX4_allQuarters 24 = .ok (.iinc 2 1, 3) := by decide +kernel
theorem dX4_allQuarters_27 : decode cX4_allQuarters 27 = .ok (.goto (-23), 3) := by decide +kernel
theorem dX4_allQuarters_30 : decode cX4_allQuarters 30 = .ok (.iload_n 1, 1) := by decide +kernel
theorem dX4_allQuarters_31 : decode cX4_allQuarters 31 = .ok (.ireturn, 1) := by decide +kernel
theorem dX5_init_0 : decode cX5_init 0 = .ok (.aload_n 0, 1) := by decide +kernel
theorem dX5_init_1 : decode cX5_init 1 = .ok (.invokespecial 3, 3) := by decide +kernel
theorem dX5_init_4 : decode cX5_init 4 = .ok (.aload_n 0, 1) := by decide +kernel
theorem dX5_init_5 : decode cX5_init 5 = .ok (.bipush 32, 2) := by decide +kernel
theorem dX5_init_7 : decode cX5_init 7 = .ok (.newarray .int, 2) := by decide +kernel
theorem dX5_init_9 : decode cX5_init 9 = .ok (.putfield 9, 3) := by decide +kernel
theorem dX5_init_12 : decode cX5_init 12 = .ok (.aload_n 0, 1) := by decide +kernel
theorem dX5_init_13 : decode cX5_init 13 = .ok (.bipush 32, 2) := by decide +kernel
theorem dX5_init_15 : decode cX5_init 15 = .ok (.newarray .int, 2) := by decide +kernel
theorem dX5_init_17 : decode cX5_init 17 = .ok (.putfield 15, 3) := by decide +kernel
theorem dX5_init_20 : decode cX5_init 20 = .ok (.aload_n 0, 1) := by decide +kernel
theorem dX5_init_21 : decode cX5_init 21 = .ok (.iconst 2, 1) := by decide +kernel
theorem dX5_init_22 : decode cX5_init 22 = .ok (.bipush 32, 2) := by decide +kernel
theorem dX5_init_24 : decode cX5_init 24 = .ok (.multianewarray 18 2, 4) := by decide +kernel
theorem dX5_init_28 : decode cX5_init 28 = .ok (.putfield 20, 3) := by decide +kernel
theorem dX5_init_31 : decode cX5_init 31 = .ok (.aload_n 0, 1) := by decide +kernel
theorem dX5_init_32 : decode cX5_init 32 = .ok (.iconst 2, 1) := by decide +kernel
theorem dX5_init_33 : decode cX5_init 33 = .ok (.bipush 32, 2) := by decide +kernel
theorem dX5_init_35 : decode cX5_init 35 = .ok (.multianewarray 18 2, 4) := by decide +kernel
theorem dX5_init_39 : decode cX5_init 39 = .ok (.putfield 23, 3) := by decide +kernel
theorem dX5_init_42 : decode cX5_init 42 = .ok (.aload_n 0, 1) := by decide +kernel
theorem dX5_init_43 : decode cX5_init 43 = .ok (.iconst 2, 1) := by decide +kernel
theorem dX5_init_44 : decode cX5_init 44 = .ok (.bipush 32, 2) := by decide +kernel
theorem dX5_init_46 : decode cX5_init 46 = .ok (.multianewarray 18 2, 4) := by decide +kernel
theorem dX5_init_50 : decode cX5_init 50 = .ok (.putfield 26, 3) := by decide +kernel
theorem dX5_init_53 : decode cX5_init 53 = .ok (.aload_n 0, 1) := by decide +kernel
theorem dX5_init_54 : decode cX5_init 54 = .ok (.bipush 32, 2) := by decide +kernel
theorem dX5_init_56 : decode cX5_init 56 = .ok (.newarray .int, 2) := by decide +kernel
theorem dX5_init_58 : decode cX5_init 58 = .ok (.putfield 29, 3) := by decide +kernel
theorem dX5_init_61 : decode cX5_init 61 = .ok (.aload_n 0, 1) := by decide +kernel
theorem dX5_init_62 : decode cX5_init 62 = .ok (.bipush 8, 2) := by decide +kernel
theorem dX5_init_64 : decode cX5_init 64 = .ok (.putfield 32, 3) := by decide +kernel
theorem dX5_init_67 : decode cX5_init 67 = .ok (.return_, 1) := by decide +kernel
theorem dX5_begin_0 : decode cX5_begin 0 = .ok (.aload_n 0, 1) := by decide +kernel
theorem dX5_begin_1 : decode cX5_begin 1 = .ok (.iload_n 1, 1) := by decide +kernel
theorem dX5_begin_2 : decode cX5_begin 2 = .ok (.putfield 32, 3) := by decide +kernel
theorem dX5_begin_5 : decode cX5_begin 5 = .ok (.iconst 0, 1) := by decide +kernel
theorem dX5_begin_6 : decode cX5_begin 6 = .ok (.istore_n 2, 1) := by decide +kernel
theorem dX5_begin_7 : decode cX5_begin 7 = .ok (.iload_n 2, 1) := by decide +kernel
theorem dX5_begin_8 : decode cX5_begin 8 = .ok (.iload_n 1, 1) := by decide +kernel
theorem dX5_begin_9 : decode cX5_begin 9 = .ok (.if_icmp .ge 90, 3) := by decide +kernel
theorem dX5_begin_12 : decode cX5_begin 12 = .ok (.aload_n 0, 1) := by decide +kernel
theorem dX5_begin_13 : decode cX5_begin 13 = .ok (.getfield 29, 3) := by decide +kernel
theorem dX5_begin_16 : decode cX5_begin 16 = .ok (.iload_n 2, 1) := by decide +kernel
theorem dX5_begin_17 : decode cX5_begin 17 = .ok (.iload_n 2, 1) := by decide +kernel
theorem dX5_begin_18 : decode cX5_begin 18 = .ok (.iload_n 1, 1) := by decide +kernel
theorem dX5_begin_19 : decode cX5_begin 19 = .ok (.iload_n 2, 1) := by decide +kernel
theorem dX5_begin_20 : decode cX5_begin 20 = .ok (.isub, 1) := by decide +kernel
theorem dX5_begin_21 : decode cX5_begin 21 = .ok (.invokestatic 36, 3) := by decide +kernel
theorem dX5_begin_24 : decode cX5_begin 24 = .ok (.iastore, 1) := by decide +kernel
theorem dX5_begin_25 : decode cX5_begin 25 = .ok (.aload_n 0, 1) := by decide +kernel
theorem dX5_begin_26 : decode cX5_begin 26 = .ok (.getfield 9, 3) := by decide +kernel
theorem dX5_begin_29 : decode cX5_begin 29 = .ok (.iload_n 2, 1) := by decide +kernel
theorem dX5_begin_30 : decode cX5_begin 30 = .ok (.iload_n 2, 1) := by decide +kernel
theorem dX5_begin_31 : decode cX5_begin 31 = .ok (.iconst 2, 1) := by decide +kernel
theorem dX5_begin_32 : decode cX5_begin 32 = .ok (.irem, 1) := by decide +kernel
theorem dX5_begin_33 : decode cX5_begin 33 = .ok (.ifCond .ne 7, 3) := by decide +kernel
theorem dX5_begin_36 : decode cX5_begin 36 = .ok (.iconst 1, 1) := by decide +kernel
theorem dX5_begin_37 : decode cX5_begin 37 = .ok (.goto 4, 3) := by decide +kernel
theorem dX5_begin_40 : decode cX5_begin 40 = .ok (.iconst 2, 1) := by decide +kernel
theorem dX5_begin_41 : decode cX5_begin 41 = .ok (.iastore, 1) := by decide +kernel
theorem dX5_begin_42 : decode cX5_begin 42 = .ok (.aload_n 0, 1) := by decide +kernel
theorem dX5_begin_43 : decode cX5_begin 43 = .ok (.getfield 15, 3) := by decide +kernel
theorem dX5_begin_46 : decode cX5_begin 46 = .ok (.iload_n 2, 1) := by decide +kernel
theorem dX5_begin_47 : decode cX5_begin 47 = .ok (.sipush 500, 3) := by decide +kernel
theorem dX5_begin_50 : decode cX5_begin 50 = .ok (.iastore, 1) := by decide +kernel
theorem dX5_begin_51 : decode cX5_begin 51 = .ok (.iconst 0, 1) := by decide +kernel
theorem dX5_begin_52 : decode cX5_begin 52 = .ok (.istore_n 3, 1) := by decide +kernel
theorem dX5_begin_53 : decode cX5_begin 53 = .ok (.iload_n 3, 1) := by decide +kernel
theorem dX5_begin_54 : decode cX5_begin 54 = .ok (.iconst 2, 1) := by decide +kernel
theorem dX5_begin_55 : decode cX5_begin 55 = .ok (.if_icmp .ge 38, 3) := by decide +kernel
theorem dX5_begin_58 : decode cX5_begin 58 = .ok (.aload_n 0, 1) := by decide +kernel
theorem dX5_begin_59 : decode cX5_begin 59 = .ok (.getfield 20, 3) := by decide +kernel
theorem dX5_begin_62 : decode cX5_begin 62 = .ok (.iload_n 3, 1) := by decide +kernel
theorem dX5_begin_63 : decode cX5_begin 63 = .ok (.aaload, 1) := by decide +kernel
theorem dX5_begin_64 : decode cX5_begin 64 = .ok (.iload_n 2, 1) := by decide +kernel
theorem dX5_begin_65 : decode cX5_begin 65 = .ok (.sipush (-10000), 3) := by decide +kernel
theorem dX5_begin_68 : decode cX5_begin 68 = .ok (.iastore, 1) := by decide +kernel
theorem dX5_begin_69 : decode cX5_begin 69 = .ok (.aload_n 0, 1) := by decide +kernel
theorem dX5_begin_70 : decode cX5_begin 70 = .ok (.getfield 23, 3) := by decide +kernel
theorem dX5_begin_73 : decode cX5_begin 73 = .ok (.iload_n 3, 1) := by decide +kernel
theorem dX5_begin_74 : decode cX5_begin 74 = .ok (.aaload, 1) := by decide +kernel
theorem dX5_begin_75 : decode cX5_begin 75 = .ok (.iload_n 2, 1) := by decide +kernel
theorem dX5_begin_76 : decode cX5_begin 76 = .ok (.iconst 0, 1) := by decide +kernel
theorem dX5_begin_77 : decode cX5_begin 77 = .ok (.iastore, 1) := by decide +kernel
theorem dX5_begin_78 : decode cX5_begin 78 = .ok (.aload_n 0, 1) := by decide +kernel
theorem dX5_begin_79 : decode cX5_begin 79 = .ok (.getfield 26, 3) := by decide +kernel
theorem dX5_begin_82 : decode cX5_begin 82 = .ok (.iload_n 3, 1) := by decide +kernel
theorem dX5_begin_83 : decode cX5_begin 83 = .ok (.aaload, 1) := by decide +kernel
theorem dX5_begin_84 : decode cX5_begin 84 = .ok (.iload_n 2, 1) := by decide +kernel
theorem dX5_begin_85 : decode cX5_begin 85 = .ok (.iconst 0, 1) := by decide +kernel
theorem dX5_begin_86 : decode cX5_begin 86 = .ok (.iastore, 1) := by decide +kernel
theorem dX5_begin_87 : decode cX5_begin 87 = .ok (.iinc 3 1, 3) := by decide +kernel
theorem dX5_begin_90 : decode cX5_begin 90 = .ok (.goto (-37), 3) := by decide +kernel
theorem dX5_begin_93 : decode cX5_begin 93 = .ok (.iinc 2 1, 3) := by decide +kernel
theorem dX5_begin_96 : decode cX5_begin 96 = .ok (.goto (-89), 3) := by decide +kernel
theorem dX5_begin_99 : decode cX5_begin 99 = .ok (.return_, 1) := by decide +kernel
theorem dX5_hasHole_0 : decode cX5_hasHole 0 = .ok (.iload_n 1, 1) := by decide +kernel
theorem dX5_hasHole_1 : decode cX5_hasHole 1 = .ok (.iconst 0, 1) := by decide +kernel
theorem dX5_hasHole_2 : decode cX5_hasHole 2 = .ok (.aload_n 0, 1) := by decide +kernel
theorem dX5_hasHole_3 : decode cX5_hasHole 3 = .ok (.getfield 32, 3) := by decide +kernel
theorem dX5_hasHole_6 : decode cX5_hasHole 6 = .ok (.iconst 1, 1) := by decide +kernel
theorem dX5_hasHole_7 : decode cX5_hasHole 7 = .ok (.isub, 1) := by decide +kernel
theorem dX5_hasHole_8 : decode cX5_hasHole 8 = .ok (.invokestatic 42, 3) := by decide +kernel
theorem dX5_hasHole_11 : decode cX5_hasHole 11 = .ok (.ireturn, 1) := by decide +kernel
theorem dX5_isGone_0 : decode cX5_isGone 0 = .ok (.aload_n 0, 1) := by decide +kernel
theorem dX5_isGone_1 : decode cX5_isGone 1 = .ok (.getfield 9, 3) := by decide +kernel
theorem dX5_isGone_4 : decode cX5_isGone 4 = .ok (.iload_n 1, 1) := by decide +kernel
theorem dX5_isGone_5 : decode cX5_isGone 5 = .ok (.iaload, 1) := by decide +kernel
theorem dX5_isGone_6 : decode cX5_isGone 6 = .ok (.iconst 4, 1) := by decide +kernel
theorem dX5_isGone_7 : decode cX5_isGone 7 = .ok (.if_icmp .ne 7, 3) := by decide +kernel
theorem dX5_isGone_10 : decode cX5_isGone 10 = .ok (.iconst 1, 1) := by decide +kernel
theorem dX5_isGone_11 : decode cX5_isGone 11 = .ok (.goto 4, 3) := by decide +kernel
theorem dX5_isGone_14 : decode cX5_isGone 14 = .ok (.iconst 0, 1) := by decide +kernel
theorem dX5_isGone_15 : decode cX5_isGone 15 = .ok (.ireturn, 1) := by decide +kernel
theorem dX5_leanOf_0 : decode cX5_leanOf 0 = .ok (.getstatic 46, 3) := by decide +kernel
theorem dX5_leanOf_3 : decode cX5_leanOf 3 = .ok (.aload_n 0, 1) := by decide +kernel
theorem dX5_leanOf_4 : decode cX5_leanOf 4 = .ok (.getfield 9, 3) := by decide +kernel
theorem dX5_leanOf_7 : decode cX5_leanOf 7 = .ok (.iload_n 1, 1) := by decide +kernel
theorem dX5_leanOf_8 : decode cX5_leanOf 8 = .ok (.iaload, 1) := by decide +kernel
theorem dX5_leanOf_9 : decode cX5_leanOf 9 = .ok (.iaload, 1) := by decide +kernel
theorem dX5_leanOf_10 : decode cX5_leanOf 10 = .ok (.ireturn, 1) := by decide +kernel
theorem dX5_forceOf_0 : decode cX5_forceOf 0 = .ok (.getstatic 49, 3) := by decide +kernel
theorem dX5_forceOf_3 : decode cX5_forceOf 3 = .ok (.aload_n 0, 1) := by decide +kernel
theorem dX5_forceOf_4 : decode cX5_forceOf 4 = .ok (.getfield 9, 3) := by decide +kernel
theorem dX5_forceOf_7 : decode cX5_forceOf 7 = .ok (.iload_n 1, 1) := by decide +kernel
theorem dX5_forceOf_8 : decode cX5_forceOf 8 = .ok (.iaload, 1) := by decide +kernel
theorem dX5_forceOf_9 : decode cX5_forceOf 9 = .ok (.iaload, 1) := by decide +kernel
theorem dX5_forceOf_10 : decode cX5_forceOf 10 = .ok (.ireturn, 1) := by decide +kernel
theorem dX5_steps_0 : decode cX5_steps 0 = .ok (.aload_n 0, 1) := by decide +kernel
theorem dX5_steps_1 : decode cX5_steps 1 = .ok (.getfield 29, 3) := by decide +kernel
theorem dX5_steps_4 : decode cX5_steps 4 = .ok (.iload_n 2, 1) := by decide +kernel
theorem dX5_steps_5 : decode cX5_steps 5 = .ok (.iload_n 1, 1) := by decide +kernel
theorem dX5_steps_6 : decode cX5_steps 6 = .ok (.isub, 1) := by decide +kernel
theorem dX5_steps_7 : decode cX5_steps 7 = .ok (.aload_n 0, 1) := by decide +kernel
theorem dX5_steps_8 : decode cX5_steps 8 = .ok (.getfield 32, 3) := by decide +kernel
theorem dX5_steps_11 : decode cX5_steps 11 = .ok (.iconst 1, 1) := by decide +kernel
theorem dX5_steps_12 : decode cX5_steps 12 = .ok (.isub, 1) := by decide +kernel
theorem dX5_steps_13 : decode cX5_steps 13 = .ok (.iand, 1) := by decide +kernel
theorem dX5_steps_14 : decode cX5_steps 14 = .ok (.iaload, 1) := by decide +kernel
theorem dX5_steps_15 : decode cX5_steps 15 = .ok (.ireturn, 1) := by decide +kernel
theorem dX5_bentAt_0 : decode cX5_bentAt 0 = .ok (.aload_n 0, 1) := by decide +kernel
theorem dX5_bentAt_1 : decode cX5_bentAt 1 = .ok (.getfield 23, 3) := by decide +kernel
theorem dX5_bentAt_4 : decode cX5_bentAt 4 = .ok (.iload_n 1, 1) := by decide +kernel
theorem dX5_bentAt_5 : decode cX5_bentAt 5 = .ok (.aaload, 1) := by decide +kernel
theorem dX5_bentAt_6 : decode cX5_bentAt 6 = .ok (.iload_n 2, 1) := by decide +kernel
theorem dX5_bentAt_7 : decode cX5_bentAt 7 = .ok (.iaload, 1) := by decide +kernel
theorem dX5_bentAt_8 : decode cX5_bentAt 8 = .ok (.aload_n 0, 1) := by decide +kernel
theorem dX5_bentAt_9 : decode cX5_bentAt 9 = .ok (.getfield 26, 3) := by decide +kernel
theorem dX5_bentAt_12 : decode cX5_bentAt 12 = .ok (.iload_n 1, 1) := by decide +kernel
theorem dX5_bentAt_13 : decode cX5_bentAt 13 = .ok (.aaload, 1) := by decide +kernel
theorem dX5_bentAt_14 : decode cX5_bentAt 14 = .ok (.iload_n 2, 1) := by decide +kernel
theorem dX5_bentAt_15 : decode cX5_bentAt 15 = .ok (.iaload, 1) := by decide +kernel
theorem dX5_bentAt_16 : decode cX5_bentAt 16 = .ok (.iadd, 1) := by decide +kernel
theorem dX5_bentAt_17 : decode cX5_bentAt 17 = .ok (.ireturn, 1) := by decide +kernel
theorem dX5_layStraight_0 : decode cX5_layStraight 0 = .ok (.iconst 0, 1) := by decide +kernel
theorem dX5_layStraight_1 : decode cX5_layStraight 1 = .ok (.istore_n 2, 1) := by decide +kernel
theorem dX5_layStraight_2 : decode cX5_layStraight 2 = .ok (.iload_n 2, 1) := by decide +kernel
theorem dX5_layStraight_3 : decode cX5_layStraight 3 = .ok (.aload_n 0, 1) := by decide +kernel
theorem dX5_layStraight_4 : decode cX5_layStraight 4 = .ok (.getfield 32, 3) := by decide +kernel
theorem dX5_layStraight_7 : decode cX5_layStraight 7 = .ok (.if_icmp .ge 23, 3) := by decide +kernel
theorem dX5_layStraight_10 : decode cX5_layStraight 10 = .ok (.aload_n 0, 1) := by decide +kernel
theorem dX5_layStraight_11 : decode cX5_layStraight 11 = .ok (.getfield 23, 3) := by decide +kernel
theorem dX5_layStraight_14 : decode cX5_layStraight 14 = .ok (.iload_n 1, 1) := by decide +kernel
theorem dX5_layStraight_15 : decode cX5_layStraight 15 = .ok (.aaload, 1) := by decide +kernel
theorem dX5_layStraight_16 : decode cX5_layStraight 16 = .ok (.iload_n 2, 1) := by decide +kernel
theorem dX5_layStraight_17 : decode cX5_layStraight 17 = .ok (.aload_n 0, 1) := by decide +kernel
theorem dX5_layStraight_18 : decode cX5_layStraight 18 = .ok (.iload_n 1, 1) := by decide +kernel
theorem dX5_layStraight_19 : decode cX5_layStraight 19 = .ok (.iload_n 2, 1) := by decide +kernel
theorem dX5_layStraight_20 : decode cX5_layStraight 20 = .ok (.invokevirtual 52, 3) := by decide +kernel
theorem dX5_layStraight_23 : decode cX5_layStraight 23 = .ok (.iastore, 1) := by decide +kernel
theorem dX5_layStraight_24 : decode cX5_layStraight 24 = .ok (.iinc 2 1, 3) := by decide +kernel
theorem dX5_layStraight_27 : decode cX5_layStraight 27 = .ok (.goto (-25), 3) := by decide +kernel
theorem dX5_layStraight_30 : decode cX5_layStraight 30 = .ok (.return_, 1) := by decide +kernel
theorem dX5_between_0 : decode cX5_between 0 = .ok (.aload_n 0, 1) := by decide +kernel
theorem dX5_between_1 : decode cX5_between 1 = .ok (.getfield 20, 3) := by decide +kernel
theorem dX5_between_4 : decode cX5_between 4 = .ok (.iload_n 1, 1) := by decide +kernel
theorem dX5_between_5 : decode cX5_between 5 = .ok (.aaload, 1) := by decide +kernel
theorem dX5_between_6 : decode cX5_between 6 = .ok (.astore_n 3, 1) := by decide +kernel
theorem dX5_between_7 : decode cX5_between 7 = .ok (.aload_n 3, 1) := by decide +kernel
theorem dX5_between_8 : decode cX5_between 8 = .ok (.iload_n 2, 1) := by decide +kernel
theorem dX5_between_9 : decode cX5_between 9 = .ok (.iaload, 1) := by decide +kernel
theorem dX5_between_10 : decode cX5_between 10 = .ok (.sipush (-10000), 3) := by decide +kernel
theorem dX5_between_13 : decode cX5_between 13 = .ok (.if_icmp .eq 7, 3) := by decide +kernel
theorem dX5_between_16 : decode cX5_between 16 = .ok (.aload_n 3, 1) := by decide +kernel
theorem dX5_between_17 : decode cX5_between 17 = .ok (.iload_n 2, 1) := by decide +kernel
theorem dX5_between_18 : decode cX5_between 18 = .ok (.iaload, 1) := by decide +kernel
theorem dX5_between_19 : decode cX5_between 19 = .ok (.ireturn, 1) := by decide +kernel
theorem dX5_between_20 : decode cX5_between 20 = .ok (.aload_n 0, 1) := by decide +kernel
theorem dX5_between_21 : decode cX5_between 21 = .ok (.iload_n 1, 1) := by decide +kernel
theorem dX5_between_22 : decode cX5_between 22 = .ok (.iload_n 2, 1) := by decide +kernel
theorem dX5_between_23 : decode cX5_between 23 = .ok (.iconst (-1), 1) := by decide +kernel
theorem dX5_between_24 : decode cX5_between 24 = .ok (.invokevirtual 55, 3) := by decide +kernel
theorem dX5_between_27 : decode cX5_between 27 = .ok (.istore 4, 2) := by decide +kernel
theorem dX5_between_29 : decode cX5_between 29 = .ok (.aload_n 0, 1) := by decide +kernel
theorem dX5_between_30 : decode cX5_between 30 = .ok (.iload_n 1, 1) := by decide +kernel
theorem dX5_between_31 : decode cX5_between 31 = .ok (.iload_n 2, 1) := by decide +kernel
theorem dX5_between_32 : decode cX5_between 32 = .ok (.iconst 1, 1) := by decide +kernel
theorem dX5_between_33 : decode cX5_between 33 = .ok (.invokevirtual 55, 3) := by decide +kernel
theorem dX5_between_36 : decode cX5_between 36 = .ok (.istore 5, 2) := by decide +kernel
theorem dX5_between_38 : decode cX5_between 38 = .ok (.iload 4, 2) := by decide +kernel
theorem dX5_between_40 : decode cX5_between 40 = .ok (.ifCond .eq 8, 3) := by decide +kernel
theorem dX5_between_43 : decode cX5_between 43 = .ok (.iload 5, 2) := by decide +kernel
theorem dX5_between_45 : decode cX5_between 45 = .ok (.ifCond .ne 5, 3) := by decide +kernel
theorem dX5_between_48 : decode cX5_between 48 = .ok (.iconst 0, 1) := by decide +kernel
theorem dX5_between_49 : decode cX5_between 49 = .ok (.ireturn, 1) := by decide +kernel
theorem dX5_between_50 : decode cX5_between 50 = .ok (.aload_n 3, 1) := by decide +kernel
theorem dX5_between_51 : decode cX5_between 51 = .ok (.iload_n 2, 1) := by decide +kernel
theorem dX5_between_52 : decode cX5_between 52 = .ok (.iload 4, 2) := by decide +kernel
theorem dX5_between_54 : decode cX5_between 54 = .ok (.isub, 1) := by decide +kernel
theorem dX5_between_55 : decode cX5_between 55 = .ok (.aload_n 0, 1) := by decide +kernel
theorem dX5_between_56 : decode cX5_between 56 = .ok (.getfield 32, 3) := by decide +kernel
theorem dX5_between_59 : decode cX5_between 59 = .ok (.invokestatic 59, 3) := by decide +kernel
theorem dX5_between_62 : decode cX5_between 62 = .ok (.iaload, 1) := by decide +kernel
theorem dX5_between_63 : decode cX5_between 63 = .ok (.istore 6, 2) := by decide +kernel
theorem dX5_between_65 : decode cX5_between 65 = .ok (.aload_n 3, 1) := by decide +kernel
theorem dX5_between_66 : decode cX5_between 66 = .ok (.iload_n 2, 1) := by decide +kernel
theorem dX5_between_67 : decode cX5_between 67 = .ok (.iload 5, 2) := by decide +kernel
theorem dX5_between_69 : decode cX5_between 69 = .ok (.iadd, 1) := by decide +kernel
theorem dX5_between_70 : decode cX5_between 70 = .ok (.aload_n 0, 1) := by decide +kernel
theorem dX5_between_71 : decode cX5_between 71 = .ok (.getfield 32, 3) := by decide +kernel
theorem dX5_between_74 : decode cX5_between 74 = .ok (.invokestatic 59, 3) := by decide +kernel
theorem dX5_between_77 : decode cX5_between 77 = .ok (.iaload, 1) := by decide +kernel
theorem dX5_between_78 : decode cX5_between 78 = .ok (.istore 7, 2) := by decide +kernel
theorem dX5_between_80 : decode cX5_between 80 = .ok (.iload 6, 2) := by decide +kernel
theorem dX5_between_82 : decode cX5_between 82 = .ok (.iload 5, 2) := by decide +kernel
theorem dX5_between_84 : decode cX5_between 84 = .ok (.imul, 1) := by decide +kernel
theorem dX5_between_85 : decode cX5_between 85 = .ok (.iload 7, 2) := by decide +kernel
theorem dX5_between_87 : decode cX5_between 87 = .ok (.iload 4, 2) := by decide +kernel
theorem dX5_between_89 : decode cX5_between 89 = .ok (.imul, 1) := by decide +kernel
theorem dX5_between_90 : decode cX5_between 90 = .ok (.iadd, 1) := by decide +kernel
theorem dX5_between_91 : decode cX5_between 91 = .ok (.iload 4, 2) := by decide +kernel
theorem dX5_between_93 : decode cX5_between 93 = .ok (.iload 5, 2) := by decide +kernel
theorem dX5_between_95 : decode cX5_between 95 = .ok (.iadd, 1) := by decide +kernel
theorem dX5_between_96 : decode cX5_between 96 = .ok (.invokestatic 62, 3) := by decide +kernel
theorem dX5_between_99 : decode cX5_between 99 = .ok (.ireturn, 1) := by decide +kernel
theorem dX5_stepsToRead_0 : decode cX5_stepsToRead 0 = .ok (.iconst 1, 1) := by decide +kernel
theorem dX5_stepsToRead_1 : decode cX5_stepsToRead 1 = .ok (.istore 4, 2) := by decide +kernel
theorem dX5_stepsToRead_3 : decode cX5_stepsToRead 3 = .ok (.iload 4, 2) := by decide +kernel
theorem dX5_stepsToRead_5 : decode cX5_stepsToRead 5 = .ok (.aload_n 0, 1) := by decide +kernel
theorem dX5_stepsToRead_6 : decode cX5_stepsToRead 6 = .ok (.getfield 32, 3) := by decide +kernel
theorem dX5_stepsToRead_9 : decode cX5_stepsToRead 9 = .ok (.if_icmp .ge 38, 3) := by decide +kernel
theorem dX5_stepsToRead_12 : decode cX5_stepsToRead 12 = .ok (.aload_n 0, 1) := by decide +kernel
theorem dX5_stepsToRead_13 : decode cX5_stepsToRead 13 = .ok (.getfield 20, 3) := by decide +kernel
theorem dX5_stepsToRead_16 : decode cX5_stepsToRead 16 = .ok (.iload_n 1, 1) := by decide +kernel
theorem dX5_stepsToRead_17 : decode cX5_stepsToRead 17 = .ok (.aaload, 1) := by decide +kernel
theorem dX5_stepsToRead_18 : decode cX5_stepsToRead 18 = .ok (.iload_n 2, 1) := by decide +kernel
theorem dX5_stepsToRead_19 : decode cX5_stepsToRead 19 = .ok (.iload_n 3, 1) := by decide +kernel
theorem dX5_stepsToRead_20 : decode cX5_stepsToRead 20 = .ok (.iload 4, 2) := by decide +kernel
theorem dX5_stepsToRead_22 : decode cX5_stepsToRead 22 = .ok (.imul, 1) := by decide +kernel
theorem dX5_stepsToRead_23 : decode cX5_stepsToRead 23 = .ok (.iadd, 1) := by decide +kernel
theorem dX5_stepsToRead_24 : decode cX5_stepsToRead 24 = .ok (.aload_n 0, 1) := by decide +kernel
theorem dX5_stepsToRead_25 : decode cX5_stepsToRead 25 = .ok (.getfield 32, 3) := by decide +kernel
theorem dX5_stepsToRead_28 : decode cX5_stepsToRead 28 = .ok (.invokestatic 59, 3) := by decide +kernel
theorem dX5_stepsToRead_31 : decode cX5_stepsToRead 31 = .ok (.iaload, 1) := by decide +kernel
theorem dX5_stepsToRead_32 : decode cX5_stepsToRead 32 = .ok (.sipush (-10000), 3) := by decide +kernel
theorem dX5_stepsToRead_35 : decode cX5_stepsToRead 35 = .ok (.if_icmp .eq 6, 3) := by decide +kernel
theorem dX5_stepsToRead_38 : decode cX5_stepsToRead 38 = .ok (.iload 4, 2) := by decide +kernel
theorem dX5_stepsToRead_40 : decode cX5_stepsToRead 40 = .ok (.ireturn, 1) := by decide +kernel
theorem dX5_stepsToRead_41 : decode cX5_stepsToRead 41 = .ok (.iinc 4 1, 3) := by decide +kernel
theorem dX5_stepsToRead_44 : decode cX5_stepsToRead 44 = .ok (.goto (-41), 3) := by decide +kernel
theorem dX5_stepsToRead_47 : decode cX5_stepsToRead 47 = .ok (.iconst 0, 1) := by decide +kernel
theorem dX5_stepsToRead_48 : decode cX5_stepsToRead 48 = .ok (.ireturn, 1) := by decide +kernel
theorem dX5_howManyStand_0 : decode cX5_howManyStand 0 = .ok (.iconst 0, 1) := by decide +kernel
theorem dX5_howManyStand_1 : decode cX5_howManyStand 1 = .ok (.istore_n 1, 1) := by decide +kernel
theorem dX5_howManyStand_2 : decode cX5_howManyStand 2 = .ok (.iconst 0, 1) := by decide +kernel
theorem dX5_howManyStand_3 : decode cX5_howManyStand 3 = .ok (.istore_n 2, 1) := by decide +kernel
theorem dX5_howManyStand_4 : decode cX5_howManyStand 4 = .ok (.iload_n 2, 1) := by decide +kernel
theorem dX5_howManyStand_5 : decode cX5_howManyStand 5 = .ok (.aload_n 0, 1) := by decide +kernel
theorem dX5_howManyStand_6 : decode cX5_howManyStand 6 = .ok (.getfield 32, 3) := by decide +kernel
theorem dX5_howManyStand_9 : decode cX5_howManyStand 9 = .ok (.if_icmp .ge 20, 3) := by decide +kernel
theorem dX5_howManyStand_12 : decode cX5_howManyStand 12 = .ok (.aload_n 0, 1) := by decide +kernel
theorem dX5_howManyStand_13 : decode cX5_howManyStand 13 = .ok (.iload_n 2, 1) := by decide +kernel
theorem dX5_howManyStand_14 : decode cX5_howManyStand 14 = .ok (.invokevirtual 65, 3) := by decide +kernel
theorem dX5_howManyStand_17 : decode cX5_howManyStand 17 = .ok (.ifCond .ne 6, 3) := by decide +kernel
theorem dX5_howManyStand_20 : decode cX5_howManyStand 20 = .ok (.iinc 1 1, 3) := by decide +kernel
theorem dX5_howManyStand_23 : decode cX5_howManyStand 23 = .ok (.iinc 2 1, 3) := by decide +kernel
theorem dX5_howManyStand_26 : decode cX5_howManyStand 26 = .ok (.goto (-22), 3) := by decide +kernel
theorem dX5_howManyStand_29 : decode cX5_howManyStand 29 = .ok (.iload_n 1, 1) := by decide +kernel
theorem dX5_howManyStand_30 : decode cX5_howManyStand 30 = .ok (.ireturn, 1) := by decide +kernel
theorem dX5_howManyRead_0 : decode cX5_howManyRead 0 = .ok (.iconst 0, 1) := by decide +kernel
theorem dX5_howManyRead_1 : decode cX5_howManyRead 1 = .ok (.istore_n 2, 1) := by decide +kernel
theorem dX5_howManyRead_2 : decode cX5_howManyRead 2 = .ok (.iconst 0, 1) := by decide +kernel
theorem dX5_howManyRead_3 : decode cX5_howManyRead 3 = .ok (.istore_n 3, 1) := by decide +kernel
theorem dX5_howManyRead_4 : decode cX5_howManyRead 4 = .ok (.iload_n 3, 1) := by decide +kernel
theorem dX5_howManyRead_5 : decode cX5_howManyRead 5 = .ok (.aload_n 0, 1) := by decide +kernel
theorem dX5_howManyRead_6 : decode cX5_howManyRead 6 = .ok (.getfield 32, 3) := by decide +kernel
theorem dX5_howManyRead_9 : decode cX5_howManyRead 9 = .ok (.if_icmp .ge 26, 3) := by decide +kernel
theorem dX5_howManyRead_12 : decode cX5_howManyRead 12 = .ok (.aload_n 0, 1) := by decide +kernel
theorem dX5_howManyRead_13 : decode cX5_howManyRead 13 = .ok (.getfield 20, 3) := by decide +kernel
theorem dX5_howManyRead_16 : decode cX5_howManyRead 16 = .ok (.iload_n 1, 1) := by decide +kernel
theorem dX5_howManyRead_17 : decode cX5_howManyRead 17 = .ok (.aaload, 1) := by decide +kernel
theorem dX5_howManyRead_18 : decode cX5_howManyRead 18 = .ok (.iload_n 3, 1) := by decide +kernel
theorem dX5_howManyRead_19 : decode cX5_howManyRead 19 = .ok (.iaload, 1) := by decide +kernel
theorem dX5_howManyRead_20 : decode cX5_howManyRead 20 = .ok (.sipush (-10000), 3) := by decide +kernel
theorem dX5_howManyRead_23 : decode cX5_howManyRead 23 = .ok (.if_icmp .eq 6, 3) := by decide +kernel
theorem dX5_howManyRead_26 : decode cX5_howManyRead 26 = .ok (.iinc 2 1, 3) := by decide +kernel
theorem dX5_howManyRead_29 : decode cX5_howManyRead 29 = .ok (.iinc 3 1, 3) := by decide +kernel
theorem dX5_howManyRead_32 : decode cX5_howManyRead 32 = .ok (.goto (-28), 3) := by decide +kernel
theorem dX5_howManyRead_35 : decode cX5_howManyRead 35 = .ok (.iload_n 2, 1) := by decide +kernel
theorem dX5_howManyRead_36 : decode cX5_howManyRead 36 = .ok (.ireturn, 1) := by decide +kernel
theorem dJ9_floorDiv_7cf53_0 : decode cJ9_floorDiv_7cf53 0 = .ok (.iload_n 0, 1) := by decide +kernel
theorem dJ9_floorDiv_7cf53_1 : decode cJ9_floorDiv_7cf53 1 = .ok (.iload_n 1, 1) := by decide +kernel
theorem dJ9_floorDiv_7cf53_2 : decode cJ9_floorDiv_7cf53 2 = .ok (.idiv, 1) := by decide +kernel
theorem dJ9_floorDiv_7cf53_3 : decode cJ9_floorDiv_7cf53 3 = .ok (.istore_n 2, 1) := by decide +kernel
theorem dJ9_floorDiv_7cf53_4 : decode cJ9_floorDiv_7cf53 4 = .ok (.iload_n 0, 1) := by decide +kernel
theorem dJ9_floorDiv_7cf53_5 : decode cJ9_floorDiv_7cf53 5 = .ok (.iload_n 1, 1) := by decide +kernel
theorem dJ9_floorDiv_7cf53_6 : decode cJ9_floorDiv_7cf53 6 = .ok (.ixor, 1) := by decide +kernel
theorem dJ9_floorDiv_7cf53_7 : decode cJ9_floorDiv_7cf53 7 = .ok (.ifCond .ge 14, 3) := by decide +kernel
theorem dJ9_floorDiv_7cf53_10 : decode cJ9_floorDiv_7cf53 10 = .ok (.iload_n 2, 1) := by decide +kernel
theorem dJ9_floorDiv_7cf53_11 : decode cJ9_floorDiv_7cf53 11 = .ok (.iload_n 1, 1) := by decide +kernel
theorem dJ9_floorDiv_7cf53_12 : decode cJ9_floorDiv_7cf53 12 = .ok (.imul, 1) := by decide +kernel
theorem dJ9_floorDiv_7cf53_13 : decode cJ9_floorDiv_7cf53 13 = .ok (.iload_n 0, 1) := by decide +kernel
theorem dJ9_floorDiv_7cf53_14 : decode cJ9_floorDiv_7cf53 14 = .ok (.if_icmp .eq 7, 3) := by decide +kernel
theorem dJ9_floorDiv_7cf53_17 : decode cJ9_floorDiv_7cf53 17 = .ok (.iload_n 2, 1) := by decide +kernel
theorem dJ9_floorDiv_7cf53_18 : decode cJ9_floorDiv_7cf53 18 = .ok (.iconst 1, 1) := by decide +kernel
theorem dJ9_floorDiv_7cf53_19 : decode cJ9_floorDiv_7cf53 19 = .ok (.isub, 1) := by decide +kernel
theorem dJ9_floorDiv_7cf53_20 : decode cJ9_floorDiv_7cf53 20 = .ok (.ireturn, 1) := by decide +kernel
theorem dJ9_floorDiv_7cf53_21 : decode cJ9_floorDiv_7cf53 21 = .ok (.iload_n 2, 1) := by decide +kernel
theorem dJ9_floorDiv_7cf53_22 : decode cJ9_floorDiv_7cf53 22 = .ok (.ireturn, 1) := by decide +kernel
theorem dJ9_floorDiv_f86c9_0 : decode cJ9_floorDiv_f86c9 0 = .ok (.lload_n 0, 1) := by decide +kernel
theorem dJ9_floorDiv_f86c9_1 : decode cJ9_floorDiv_f86c9 1 = .ok (.lload_n 2, 1) := by decide +kernel
theorem dJ9_floorDiv_f86c9_2 : decode cJ9_floorDiv_f86c9 2 = .ok (.ldiv, 1) := by decide +kernel
theorem dJ9_floorDiv_f86c9_3 : decode cJ9_floorDiv_f86c9 3 = .ok (.lstore 4, 2) := by decide +kernel
theorem dJ9_floorDiv_f86c9_5 : decode cJ9_floorDiv_f86c9 5 = .ok (.lload_n 0, 1) := by decide +kernel
theorem dJ9_floorDiv_f86c9_6 : decode cJ9_floorDiv_f86c9 6 = .ok (.lload_n 2, 1) := by decide +kernel
theorem dJ9_floorDiv_f86c9_7 : decode cJ9_floorDiv_f86c9 7 = .ok (.lxor, 1) := by decide +kernel
theorem dJ9_floorDiv_f86c9_8 : decode cJ9_floorDiv_f86c9 8 = .ok (.lconst 0, 1) := by decide +kernel
theorem dJ9_floorDiv_f86c9_9 : decode cJ9_floorDiv_f86c9 9 = .ok (.lcmp, 1) := by decide +kernel
theorem dJ9_floorDiv_f86c9_10 : decode cJ9_floorDiv_f86c9 10 = .ok (.ifCond .ge 17, 3) := by decide +kernel
theorem dJ9_floorDiv_f86c9_13 : decode cJ9_floorDiv_f86c9 13 = .ok (.lload 4, 2) := by decide +kernel
theorem dJ9_floorDiv_f86c9_15 : decode cJ9_floorDiv_f86c9 15 = .ok (.lload_n 2, 1) := by decide +kernel
theorem dJ9_floorDiv_f86c9_16 : decode cJ9_floorDiv_f86c9 16 = .ok (.lmul, 1) := by decide +kernel
theorem dJ9_floorDiv_f86c9_17 : decode cJ9_floorDiv_f86c9 17 = .ok (.lload_n 0, 1) := by decide +kernel
theorem dJ9_floorDiv_f86c9_18 : decode cJ9_floorDiv_f86c9 18 = .ok (.lcmp, 1) := by decide +kernel
theorem dJ9_floorDiv_f86c9_19 : decode cJ9_floorDiv_f86c9 19 = .ok (.ifCond .eq 8, 3) := by decide +kernel
theorem dJ9_floorDiv_f86c9_22 : decode cJ9_floorDiv_f86c9 22 = .ok (.lload 4, 2) := by decide +kernel
theorem dJ9_floorDiv_f86c9_24 : decode cJ9_floorDiv_f86c9 24 = .ok (.lconst 1, 1) := by decide +kernel
theorem dJ9_floorDiv_f86c9_25 : decode cJ9_floorDiv_f86c9 25 = .ok (.lsub, 1) := by decide +kernel
theorem dJ9_floorDiv_f86c9_26 : decode cJ9_floorDiv_f86c9 26 = .ok (.lreturn, 1) := by decide +kernel
theorem dJ9_floorDiv_f86c9_27 : decode cJ9_floorDiv_f86c9 27 = .ok (.lload 4, 2) := by decide +kernel
theorem dJ9_floorDiv_f86c9_29 : decode cJ9_floorDiv_f86c9 29 = .ok (.lreturn, 1) := by decide +kernel
theorem dJ9_floorMod_7cf53_0 : decode cJ9_floorMod_7cf53 0 = .ok (.iload_n 0, 1) := by decide +kernel
theorem dJ9_floorMod_7cf53_1 : decode cJ9_floorMod_7cf53 1 = .ok (.iload_n 1, 1) := by decide +kernel
theorem dJ9_floorMod_7cf53_2 : decode cJ9_floorMod_7cf53 2 = .ok (.irem, 1) := by decide +kernel
theorem dJ9_floorMod_7cf53_3 : decode cJ9_floorMod_7cf53 3 = .ok (.istore_n 2, 1) := by decide +kernel
theorem dJ9_floorMod_7cf53_4 : decode cJ9_floorMod_7cf53 4 = .ok (.iload_n 0, 1) := by decide +kernel
theorem dJ9_floorMod_7cf53_5 : decode cJ9_floorMod_7cf53 5 = .ok (.iload_n 1, 1) := by decide +kernel
theorem dJ9_floorMod_7cf53_6 : decode cJ9_floorMod_7cf53 6 = .ok (.ixor, 1) := by decide +kernel
theorem dJ9_floorMod_7cf53_7 : decode cJ9_floorMod_7cf53 7 = .ok (.ifCond .ge 11, 3) := by decide +kernel
theorem dJ9_floorMod_7cf53_10 : decode cJ9_floorMod_7cf53 10 = .ok (.iload_n 2, 1) := by decide +kernel
theorem dJ9_floorMod_7cf53_11 : decode cJ9_floorMod_7cf53 11 = .ok (.ifCond .eq 7, 3) := by decide +kernel
theorem dJ9_floorMod_7cf53_14 : decode cJ9_floorMod_7cf53 14 = .ok (.iload_n 2, 1) := by decide +kernel
theorem dJ9_floorMod_7cf53_15 : decode cJ9_floorMod_7cf53 15 = .ok (.iload_n 1, 1) := by decide +kernel
theorem dJ9_floorMod_7cf53_16 : decode cJ9_floorMod_7cf53 16 = .ok (.iadd, 1) := by decide +kernel
theorem dJ9_floorMod_7cf53_17 : decode cJ9_floorMod_7cf53 17 = .ok (.ireturn, 1) := by decide +kernel
theorem dJ9_floorMod_7cf53_18 : decode cJ9_floorMod_7cf53 18 = .ok (.iload_n 2, 1) := by decide +kernel
theorem dJ9_floorMod_7cf53_19 : decode cJ9_floorMod_7cf53 19 = .ok (.ireturn, 1) := by decide +kernel
theorem dJ9_abs_0f7a4_0 : decode cJ9_abs_0f7a4 0 = .ok (.iload_n 0, 1) := by decide +kernel
theorem dJ9_abs_0f7a4_1 : decode cJ9_abs_0f7a4 1 = .ok (.ifCond .ge 8, 3) := by decide +kernel
theorem dJ9_abs_0f7a4_4 : decode cJ9_abs_0f7a4 4 = .ok (.iload_n 0, 1) := by decide +kernel
theorem dJ9_abs_0f7a4_5 : decode cJ9_abs_0f7a4 5 = .ok (.ineg, 1) := by decide +kernel
theorem dJ9_abs_0f7a4_6 : decode cJ9_abs_0f7a4 6 = .ok (.goto 4, 3) := by decide +kernel
theorem dJ9_abs_0f7a4_9 : decode cJ9_abs_0f7a4 9 = .ok (.iload_n 0, 1) := by decide +kernel
theorem dJ9_abs_0f7a4_10 : decode cJ9_abs_0f7a4 10 = .ok (.ireturn, 1) := by decide +kernel
theorem dJ9_abs_067f4_0 : decode cJ9_abs_067f4 0 = .ok (.lload_n 0, 1) := by decide +kernel
theorem dJ9_abs_067f4_1 : decode cJ9_abs_067f4 1 = .ok (.lconst 0, 1) := by decide +kernel
theorem dJ9_abs_067f4_2 : decode cJ9_abs_067f4 2 = .ok (.lcmp, 1) := by decide +kernel
theorem dJ9_abs_067f4_3 : decode cJ9_abs_067f4 3 = .ok (.ifCond .ge 8, 3) := by decide +kernel
theorem dJ9_abs_067f4_6 : decode cJ9_abs_067f4 6 = .ok (.lload_n 0, 1) := by decide +kernel
theorem dJ9_abs_067f4_7 : decode cJ9_abs_067f4 7 = .ok (.lneg, 1) := by decide +kernel
theorem dJ9_abs_067f4_8 : decode cJ9_abs_067f4 8 = .ok (.goto 4, 3) := by decide +kernel
theorem dJ9_abs_067f4_11 : decode cJ9_abs_067f4 11 = .ok (.lload_n 0, 1) := by decide +kernel
theorem dJ9_abs_067f4_12 : decode cJ9_abs_067f4 12 = .ok (.lreturn, 1) := by decide +kernel
theorem dJ9_max_7cf53_0 : decode cJ9_max_7cf53 0 = .ok (.iload_n 0, 1) := by decide +kernel
theorem dJ9_max_7cf53_1 : decode cJ9_max_7cf53 1 = .ok (.iload_n 1, 1) := by decide +kernel
theorem dJ9_max_7cf53_2 : decode cJ9_max_7cf53 2 = .ok (.if_icmp .lt 7, 3) := by decide +kernel
theorem dJ9_max_7cf53_5 : decode cJ9_max_7cf53 5 = .ok (.iload_n 0, 1) := by decide +kernel
theorem dJ9_max_7cf53_6 : decode cJ9_max_7cf53 6 = .ok (.goto 4, 3) := by decide +kernel
theorem dJ9_max_7cf53_9 : decode cJ9_max_7cf53 9 = .ok (.iload_n 1, 1) := by decide +kernel
theorem dJ9_max_7cf53_10 : decode cJ9_max_7cf53 10 = .ok (.ireturn, 1) := by decide +kernel
theorem dJ9_max_f86c9_0 : decode cJ9_max_f86c9 0 = .ok (.lload_n 0, 1) := by decide +kernel
theorem dJ9_max_f86c9_1 : decode cJ9_max_f86c9 1 = .ok (.lload_n 2, 1) := by decide +kernel
theorem dJ9_max_f86c9_2 : decode cJ9_max_f86c9 2 = .ok (.lcmp, 1) := by decide +kernel
theorem dJ9_max_f86c9_3 : decode cJ9_max_f86c9 3 = .ok (.ifCond .lt 7, 3) := by decide +kernel
theorem dJ9_max_f86c9_6 : decode cJ9_max_f86c9 6 = .ok (.lload_n 0, 1) := by decide +kernel
theorem dJ9_max_f86c9_7 : decode cJ9_max_f86c9 7 = .ok (.goto 4, 3) := by decide +kernel
theorem dJ9_max_f86c9_10 : decode cJ9_max_f86c9 10 = .ok (.lload_n 2, 1) := by decide +kernel
theorem dJ9_max_f86c9_11 : decode cJ9_max_f86c9 11 = .ok (.lreturn, 1) := by decide +kernel
theorem dJ9_min_7cf53_0 : decode cJ9_min_7cf53 0 = .ok (.iload_n 0, 1) := by decide +kernel
theorem dJ9_min_7cf53_1 : decode cJ9_min_7cf53 1 = .ok (.iload_n 1, 1) := by decide +kernel
theorem dJ9_min_7cf53_2 : decode cJ9_min_7cf53 2 = .ok (.if_icmp .gt 7, 3) := by decide +kernel
theorem dJ9_min_7cf53_5 : decode cJ9_min_7cf53 5 = .ok (.iload_n 0, 1) := by decide +kernel
theorem dJ9_min_7cf53_6 : decode cJ9_min_7cf53 6 = .ok (.goto 4, 3) := by decide +kernel
theorem dJ9_min_7cf53_9 : decode cJ9_min_7cf53 9 = .ok (.iload_n 1, 1) := by decide +kernel
theorem dJ9_min_7cf53_10 : decode cJ9_min_7cf53 10 = .ok (.ireturn, 1) := by decide +kernel
theorem dJ9_min_f86c9_0 : decode cJ9_min_f86c9 0 = .ok (.lload_n 0, 1) := by decide +kernel
theorem dJ9_min_f86c9_1 : decode cJ9_min_f86c9 1 = .ok (.lload_n 2, 1) := by decide +kernel
theorem dJ9_min_f86c9_2 : decode cJ9_min_f86c9 2 = .ok (.lcmp, 1) := by decide +kernel
theorem dJ9_min_f86c9_3 : decode cJ9_min_f86c9 3 = .ok (.ifCond .gt 7, 3) := by decide +kernel
theorem dJ9_min_f86c9_6 : decode cJ9_min_f86c9 6 = .ok (.lload_n 0, 1) := by decide +kernel
theorem dJ9_min_f86c9_7 : decode cJ9_min_f86c9 7 = .ok (.goto 4, 3) := by decide +kernel
theorem dJ9_min_f86c9_10 : decode cJ9_min_f86c9 10 = .ok (.lload_n 2, 1) := by decide +kernel
theorem dJ9_min_f86c9_11 : decode cJ9_min_f86c9 11 = .ok (.lreturn, 1) := by decide +kernel
