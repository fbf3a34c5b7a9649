theorem dX6_init_0 : decode cX6_init 0 = .ok (.aload_n 0, 1) := by decide +kernel
theorem dX6_init_1 : decode cX6_init 1 = .ok (.invokespecial 1, 3) := by decide +kernel
theorem dX6_init_4 : decode cX6_init 4 = .ok (.aload_n 0, 1) := by decide +kernel
theorem dX6_init_5 : decode cX6_init 5 = .ok (.new 7, 3) := by decide +kernel
theorem dX6_init_8 : decode cX6_init 8 = .ok (.dup, 1) := by decide +kernel
theorem dX6_init_9 : decode cX6_init 9 = .ok (.invokespecial 9, 3) := by decide +kernel
theorem dX6_init_12 : decode cX6_init 12 = .ok (.putfield 10, 3) := by decide +kernel
theorem dX6_init_15 : decode cX6_init 15 = .ok (.aload_n 0, 1) := by decide +kernel
theorem dX6_init_16 : decode cX6_init 16 = .ok (.new 16, 3) := by decide +kernel
theorem dX6_init_19 : decode cX6_init 19 = .ok (.dup, 1) := by decide +kernel
theorem dX6_init_20 : decode cX6_init 20 = .ok (.invokespecial 18, 3) := by decide +kernel
theorem dX6_init_23 : decode cX6_init 23 = .ok (.putfield 19, 3) := by decide +kernel
theorem dX6_init_26 : decode cX6_init 26 = .ok (.aload_n 0, 1) := by decide +kernel
theorem dX6_init_27 : decode cX6_init 27 = .ok (.iconst 5, 1) := by decide +kernel
theorem dX6_init_28 : decode cX6_init 28 = .ok (.newarray .int, 2) := by decide +kernel
theorem dX6_init_30 : decode cX6_init 30 = .ok (.dup, 1) := by decide +kernel
theorem dX6_init_31 : decode cX6_init 31 = .ok (.iconst 0, 1) := by decide +kernel
theorem dX6_init_32 : decode cX6_init 32 = .ok (.bipush 100, 2) := by decide +kernel
theorem dX6_init_34 : decode cX6_init 34 = .ok (.iastore, 1) := by decide +kernel
theorem dX6_init_35 : decode cX6_init 35 = .ok (.dup, 1) := by decide +kernel
theorem dX6_init_36 : decode cX6_init 36 = .ok (.iconst 1, 1) := by decide +kernel
theorem dX6_init_37 : decode cX6_init 37 = .ok (.bipush 100, 2) := by decide +kernel
theorem dX6_init_39 : decode cX6_init 39 = .ok (.iastore, 1) := by decide +kernel
theorem dX6_init_40 : decode cX6_init 40 = .ok (.dup, 1) := by decide +kernel
theorem dX6_init_41 : decode cX6_init 41 = .ok (.iconst 2, 1) := by decide +kernel
theorem dX6_init_42 : decode cX6_init 42 = .ok (.bipush 100, 2) := by decide +kernel
theorem dX6_init_44 : decode cX6_init 44 = .ok (.iastore, 1) := by decide +kernel
theorem dX6_init_45 : decode cX6_init 45 = .ok (.dup, 1) := by decide +kernel
theorem dX6_init_46 : decode cX6_init 46 = .ok (.iconst 3, 1) := by decide +kernel
theorem dX6_init_47 : decode cX6_init 47 = .ok (.bipush 100, 2) := by decide +kernel
theorem dX6_init_49 : decode cX6_init 49 = .ok (.iastore, 1) := by decide +kernel
theorem dX6_init_50 : decode cX6_init 50 = .ok (.dup, 1) := by decide +kernel
theorem dX6_init_51 : decode cX6_init 51 = .ok (.iconst 4, 1) := by decide +kernel
theorem dX6_init_52 : decode cX6_init 52 = .ok (.sipush 1000, 3) := by decide +kernel
theorem dX6_init_55 : decode cX6_init 55 = .ok (.iastore, 1) := by decide +kernel
theorem dX6_init_56 : decode cX6_init 56 = .ok (.putfield 23, 3) := by decide +kernel
theorem dX6_init_59 : decode cX6_init 59 = .ok (.aload_n 0, 1) := by decide +kernel
theorem dX6_init_60 : decode cX6_init 60 = .ok (.new 27, 3) := by decide +kernel
theorem dX6_init_63 : decode cX6_init 63 = .ok (.dup, 1) := by decide +kernel
theorem dX6_init_64 : decode cX6_init 64 = .ok (.aload_n 0, 1) := by decide +kernel
theorem dX6_init_65 : decode cX6_init 65 = .ok (.getfield 19, 3) := by decide +kernel
theorem dX6_init_68 : decode cX6_init 68 = .ok (.aload_n 0, 1) := by decide +kernel
theorem dX6_init_69 : decode cX6_init 69 = .ok (.getfield 10, 3) := by decide +kernel
theorem dX6_init_72 : decode cX6_init 72 = .ok (.aload_n 0, 1) := by decide +kernel
theorem dX6_init_73 : decode cX6_init 73 = .ok (.getfield 23, 3) := by decide +kernel
theorem dX6_init_76 : decode cX6_init 76 = .ok (.invokespecial 29, 3) := by decide +kernel
theorem dX6_init_79 : decode cX6_init 79 = .ok (.putfield 32, 3) := by decide +kernel
theorem dX6_init_82 : decode cX6_init 82 = .ok (.aload_n 0, 1) := by decide +kernel
theorem dX6_init_83 : decode cX6_init 83 = .ok (.new 36, 3) := by decide +kernel
theorem dX6_init_86 : decode cX6_init 86 = .ok (.dup, 1) := by decide +kernel
theorem dX6_init_87 : decode cX6_init 87 = .ok (.aload_n 0, 1) := by decide +kernel
theorem dX6_init_88 : decode cX6_init 88 = .ok (.getfield 19, 3) := by decide +kernel
theorem dX6_init_91 : decode cX6_init 91 = .ok (.aload_n 0, 1) := by decide +kernel
theorem dX6_init_92 : decode cX6_init 92 = .ok (.getfield 32, 3) := by decide +kernel
theorem dX6_init_95 : decode cX6_init 95 = .ok (.invokespecial 38, 3) := by decide +kernel
theorem dX6_init_98 : decode cX6_init 98 = .ok (.putfield 41, 3) := by decide +kernel
theorem dX6_init_101 : decode cX6_init 101 = .ok (.aload_n 0, 1) := by decide +kernel
theorem dX6_init_102 : decode cX6_init 102 = .ok (.new 45, 3) := by decide +kernel
theorem dX6_init_105 : decode cX6_init 105 = .ok (.dup, 1) := by decide +kernel
theorem dX6_init_106 : decode cX6_init 106 = .ok (.invokespecial 47, 3) := by decide +kernel
theorem dX6_init_109 : decode cX6_init 109 = .ok (.putfield 48, 3) := by decide +kernel
theorem dX6_init_112 : decode cX6_init 112 = .ok (.aload_n 0, 1) := by decide +kernel
theorem dX6_init_113 : decode cX6_init 113 = .ok (.new 52, 3) := by decide +kernel
theorem dX6_init_116 : decode cX6_init 116 = .ok (.dup, 1) := by decide +kernel
theorem dX6_init_117 : decode cX6_init 117 = .ok (.invokespecial 54, 3) := by decide +kernel
theorem dX6_init_120 : decode cX6_init 120 = .ok (.putfield 55, 3) := by decide +kernel
theorem dX6_init_123 : decode cX6_init 123 = .ok (.aload_n 0, 1) := by decide +kernel
theorem dX6_init_124 : decode cX6_init 124 = .ok (.getfield 19, 3) := by decide +kernel
theorem dX6_init_127 : decode cX6_init 127 = .ok (.bipush 8, 2) := by decide +kernel
theorem dX6_init_129 : decode cX6_init 129 = .ok (.invokevirtual 59, 3) := by decide +kernel
theorem dX6_init_132 : decode cX6_init 132 = .ok (.return_, 1) := by decide +kernel
theorem dX6_wheel_0 : decode cX6_wheel 0 = .ok (.iload_n 1, 1) := by decide +kernel
theorem dX6_wheel_1 : decode cX6_wheel 1 = .ok (.bipush 8, 2) := by decide +kernel
theorem dX6_wheel_3 : decode cX6_wheel 3 = .ok (.if_icmp .eq 18, 3) := by decide +kernel
theorem dX6_wheel_6 : decode cX6_wheel 6 = .ok (.iload_n 1, 1) := by decide +kernel
theorem dX6_wheel_7 : decode cX6_wheel 7 = .ok (.bipush 16, 2) := by decide +kernel
theorem dX6_wheel_9 : decode cX6_wheel 9 = .ok (.if_icmp .eq 12, 3) := by decide +kernel
theorem dX6_wheel_12 : decode cX6_wheel 12 = .ok (.iload_n 1, 1) := by decide +kernel
theorem dX6_wheel_13 : decode cX6_wheel 13 = .ok (.bipush 32, 2) := by decide +kernel
theorem dX6_wheel_15 : decode cX6_wheel 15 = .ok (.if_icmp .eq 6, 3) := by decide +kernel
theorem dX6_wheel_18 : decode cX6_wheel 18 = .ok (.ldc 63, 2) := by decide +kernel
theorem dX6_wheel_20 : decode cX6_wheel 20 = .ok (.ireturn, 1) := by decide +kernel
theorem dX6_wheel_21 : decode cX6_wheel 21 = .ok (.aload_n 0, 1) := by decide +kernel
theorem dX6_wheel_22 : decode cX6_wheel 22 = .ok (.getfield 19, 3) := by decide +kernel
theorem dX6_wheel_25 : decode cX6_wheel 25 = .ok (.iload_n 1, 1) := by decide +kernel
theorem dX6_wheel_26 : decode cX6_wheel 26 = .ok (.invokevirtual 59, 3) := by decide +kernel
theorem dX6_wheel_29 : decode cX6_wheel 29 = .ok (.aload_n 0, 1) := by decide +kernel
theorem dX6_wheel_30 : decode cX6_wheel 30 = .ok (.getfield 48, 3) := by decide +kernel
theorem dX6_wheel_33 : decode cX6_wheel 33 = .ok (.iconst 0, 1) := by decide +kernel
theorem dX6_wheel_34 : decode cX6_wheel 34 = .ok (.putfield 64, 3) := by decide +kernel
theorem dX6_wheel_37 : decode cX6_wheel 37 = .ok (.iload_n 1, 1) := by decide +kernel
theorem dX6_wheel_38 : decode cX6_wheel 38 = .ok (.ireturn, 1) := by decide +kernel
theorem dX6_kind_0 : decode cX6_kind 0 = .ok (.aload_n 0, 1) := by decide +kernel
theorem dX6_kind_1 : decode cX6_kind 1 = .ok (.getfield 19, 3) := by decide +kernel
theorem dX6_kind_4 : decode cX6_kind 4 = .ok (.iload_n 1, 1) := by decide +kernel
theorem dX6_kind_5 : decode cX6_kind 5 = .ok (.invokevirtual 68, 3) := by decide +kernel
theorem dX6_kind_8 : decode cX6_kind 8 = .ok (.ifCond .eq 10, 3) := by decide +kernel
theorem dX6_kind_11 : decode cX6_kind 11 = .ok (.iload_n 2, 1) := by decide +kernel
theorem dX6_kind_12 : decode cX6_kind 12 = .ok (.invokestatic 72, 3) := by decide +kernel
theorem dX6_kind_15 : decode cX6_kind 15 = .ok (.ifCond .ne 6, 3) := by decide +kernel
theorem dX6_kind_18 : decode cX6_kind 18 = .ok (.ldc 63, 2) := by decide +kernel
theorem dX6_kind_20 : decode cX6_kind 20 = .ok (.ireturn, 1) := by decide +kernel
theorem dX6_kind_21 : decode cX6_kind 21 = .ok (.aload_n 0, 1) := by decide +kernel
theorem dX6_kind_22 : decode cX6_kind 22 = .ok (.getfield 19, 3) := by decide +kernel
theorem dX6_kind_25 : decode cX6_kind 25 = .ok (.iload_n 1, 1) := by decide +kernel
theorem dX6_kind_26 : decode cX6_kind 26 = .ok (.invokevirtual 75, 3) := by decide +kernel
theorem dX6_kind_29 : decode cX6_kind 29 = .ok (.ifCond .eq 6, 3) := by decide +kernel
theorem dX6_kind_32 : decode cX6_kind 32 = .ok (.ldc 78, 2) := by decide +kernel
theorem dX6_kind_34 : decode cX6_kind 34 = .ok (.ireturn, 1) := by decide +kernel
theorem dX6_kind_35 : decode cX6_kind 35 = .ok (.aload_n 0, 1) := by decide +kernel
theorem dX6_kind_36 : decode cX6_kind 36 = .ok (.getfield 19, 3) := by decide +kernel
theorem dX6_kind_39 : decode cX6_kind 39 = .ok (.getfield 79, 3) := by decide +kernel
theorem dX6_kind_42 : decode cX6_kind 42 = .ok (.iload_n 1, 1) := by decide +kernel
theorem dX6_kind_43 : decode cX6_kind 43 = .ok (.iaload, 1) := by decide +kernel
theorem dX6_kind_44 : decode cX6_kind 44 = .ok (.istore_n 3, 1) := by decide +kernel
theorem dX6_kind_45 : decode cX6_kind 45 = .ok (.aload_n 0, 1) := by decide +kernel
theorem dX6_kind_46 : decode cX6_kind 46 = .ok (.getfield 19, 3) := by decide +kernel
theorem dX6_kind_49 : decode cX6_kind 49 = .ok (.getfield 79, 3) := by decide +kernel
theorem dX6_kind_52 : decode cX6_kind 52 = .ok (.iload_n 1, 1) := by decide +kernel
theorem dX6_kind_53 : decode cX6_kind 53 = .ok (.iload_n 2, 1) := by decide +kernel
theorem dX6_kind_54 : decode cX6_kind 54 = .ok (.iastore, 1) := by decide +kernel
theorem dX6_kind_55 : decode cX6_kind 55 = .ok (.iload_n 3, 1) := by decide +kernel
theorem dX6_kind_56 : decode cX6_kind 56 = .ok (.ireturn, 1) := by decide +kernel
theorem dX6_table_0 : decode cX6_table 0 = .ok (.iload_n 1, 1) := by decide +kernel
theorem dX6_table_1 : decode cX6_table 1 = .ok (.invokestatic 82, 3) := by decide +kernel
theorem dX6_table_4 : decode cX6_table 4 = .ok (.ifCond .eq 13, 3) := by decide +kernel
theorem dX6_table_7 : decode cX6_table 7 = .ok (.iload_n 2, 1) := by decide +kernel
theorem dX6_table_8 : decode cX6_table 8 = .ok (.iconst (-1), 1) := by decide +kernel
theorem dX6_table_9 : decode cX6_table 9 = .ok (.bipush 17, 2) := by decide +kernel
theorem dX6_table_11 : decode cX6_table 11 = .ok (.invokestatic 85, 3) := by decide +kernel
theorem dX6_table_14 : decode cX6_table 14 = .ok (.ifCond .ne 6, 3) := by decide +kernel
theorem dX6_table_17 : decode cX6_table 17 = .ok (.ldc 63, 2) := by decide +kernel
theorem dX6_table_19 : decode cX6_table 19 = .ok (.ireturn, 1) := by decide +kernel
theorem dX6_table_20 : decode cX6_table 20 = .ok (.aload_n 0, 1) := by decide +kernel
theorem dX6_table_21 : decode cX6_table 21 = .ok (.getfield 10, 3) := by decide +kernel
theorem dX6_table_24 : decode cX6_table 24 = .ok (.iload_n 1, 1) := by decide +kernel
theorem dX6_table_25 : decode cX6_table 25 = .ok (.iload_n 2, 1) := by decide +kernel
theorem dX6_table_26 : decode cX6_table 26 = .ok (.invokevirtual 89, 3) := by decide +kernel
theorem dX6_table_29 : decode cX6_table 29 = .ok (.iload_n 2, 1) := by decide +kernel
theorem dX6_table_30 : decode cX6_table 30 = .ok (.iconst 0, 1) := by decide +kernel
theorem dX6_table_31 : decode cX6_table 31 = .ok (.invokestatic 92, 3) := by decide +kernel
theorem dX6_table_34 : decode cX6_table 34 = .ok (.ireturn, 1) := by decide +kernel
theorem dX6_enter_0 : decode cX6_enter 0 = .ok (.iload_n 1, 1) := by decide +kernel
theorem dX6_enter_1 : decode cX6_enter 1 = .ok (.invokestatic 82, 3) := by decide +kernel
theorem dX6_enter_4 : decode cX6_enter 4 = .ok (.ifCond .eq 16, 3) := by decide +kernel
theorem dX6_enter_7 : decode cX6_enter 7 = .ok (.iload_n 3, 1) := by decide +kernel
theorem dX6_enter_8 : decode cX6_enter 8 = .ok (.sipush (-1000), 3) := by decide +kernel
theorem dX6_enter_11 : decode cX6_enter 11 = .ok (.sipush 1000, 3) := by decide +kernel
theorem dX6_enter_14 : decode cX6_enter 14 = .ok (.invokestatic 85, 3) := by decide +kernel
theorem dX6_enter_17 : decode cX6_enter 17 = .ok (.ifCond .ne 6, 3) := by decide +kernel
theorem dX6_enter_20 : decode cX6_enter 20 = .ok (.ldc 63, 2) := by decide +kernel
theorem dX6_enter_22 : decode cX6_enter 22 = .ok (.ireturn, 1) := by decide +kernel
theorem dX6_enter_23 : decode cX6_enter 23 = .ok (.aload_n 0, 1) := by decide +kernel
theorem dX6_enter_24 : decode cX6_enter 24 = .ok (.getfield 10, 3) := by decide +kernel
theorem dX6_enter_27 : decode cX6_enter 27 = .ok (.iload_n 1, 1) := by decide +kernel
theorem dX6_enter_28 : decode cX6_enter 28 = .ok (.invokevirtual 98, 3) := by decide +kernel
theorem dX6_enter_31 : decode cX6_enter 31 = .ok (.ifCond .eq 6, 3) := by decide +kernel
theorem dX6_enter_34 : decode cX6_enter 34 = .ok (.ldc 101, 2) := by decide +kernel
theorem dX6_enter_36 : decode cX6_enter 36 = .ok (.ireturn, 1) := by decide +kernel
theorem dX6_enter_37 : decode cX6_enter 37 = .ok (.iload_n 2, 1) := by decide +kernel
theorem dX6_enter_38 : decode cX6_enter 38 = .ok (.iconst 0, 1) := by decide +kernel
theorem dX6_enter_39 : decode cX6_enter 39 = .ok (.aload_n 0, 1) := by decide +kernel
theorem dX6_enter_40 : decode cX6_enter 40 = .ok (.getfield 10, 3) := by decide +kernel
theorem dX6_enter_43 : decode cX6_enter 43 = .ok (.getfield 102, 3) := by decide +kernel
theorem dX6_enter_46 : decode cX6_enter 46 = .ok (.iload_n 1, 1) := by decide +kernel
theorem dX6_enter_47 : decode cX6_enter 47 = .ok (.iaload, 1) := by decide +kernel
theorem dX6_enter_48 : decode cX6_enter 48 = .ok (.iconst 1, 1) := by decide +kernel
theorem dX6_enter_49 : decode cX6_enter 49 = .ok (.isub, 1) := by decide +kernel
theorem dX6_enter_50 : decode cX6_enter 50 = .ok (.invokestatic 85, 3) := by decide +kernel
theorem dX6_enter_53 : decode cX6_enter 53 = .ok (.ifCond .ne 6, 3) := by decide +kernel
theorem dX6_enter_56 : decode cX6_enter 56 = .ok (.ldc 105, 2) := by decide +kernel
theorem dX6_enter_58 : decode cX6_enter 58 = .ok (.ireturn, 1) := by decide +kernel
theorem dX6_enter_59 : decode cX6_enter 59 = .ok (.aload_n 0, 1) := by decide +kernel
theorem dX6_enter_60 : decode cX6_enter 60 = .ok (.getfield 10, 3) := by decide +kernel
theorem dX6_enter_63 : decode cX6_enter 63 = .ok (.getfield 106, 3) := by decide +kernel
theorem dX6_enter_66 : decode cX6_enter 66 = .ok (.iload_n 1, 1) := by decide +kernel
theorem dX6_enter_67 : decode cX6_enter 67 = .ok (.aaload, 1) := by decide +kernel
theorem dX6_enter_68 : decode cX6_enter 68 = .ok (.iload_n 2, 1) := by decide +kernel
theorem dX6_enter_69 : decode cX6_enter 69 = .ok (.iaload, 1) := by decide +kernel
theorem dX6_enter_70 : decode cX6_enter 70 = .ok (.istore 4, 2) := by decide +kernel
theorem dX6_enter_72 : decode cX6_enter 72 = .ok (.aload_n 0, 1) := by decide +kernel
theorem dX6_enter_73 : decode cX6_enter 73 = .ok (.getfield 10, 3) := by decide +kernel
theorem dX6_enter_76 : decode cX6_enter 76 = .ok (.getfield 106, 3) := by decide +kernel
theorem dX6_enter_79 : decode cX6_enter 79 = .ok (.iload_n 1, 1) := by decide +kernel
theorem dX6_enter_80 : decode cX6_enter 80 = .ok (.aaload, 1) := by decide +kernel
theorem dX6_enter_81 : decode cX6_enter 81 = .ok (.iload_n 2, 1) := by decide +kernel
theorem dX6_enter_82 : decode cX6_enter 82 = .ok (.iload_n 3, 1) := by decide +kernel
theorem dX6_enter_83 : decode cX6_enter 83 = .ok (.iastore, 1) := by decide +kernel
theorem dX6_enter_84 : decode cX6_enter 84 = .ok (.iload 4, 2) := by decide +kernel
theorem dX6_enter_86 : decode cX6_enter 86 = .ok (.ireturn, 1) := by decide +kernel
theorem dX6_copy_0 : decode cX6_copy 0 = .ok (.iload_n 1, 1) := by decide +kernel
theorem dX6_copy_1 : decode cX6_copy 1 = .ok (.invokestatic 82, 3) := by decide +kernel
theorem dX6_copy_4 : decode cX6_copy 4 = .ok (.ifCond .eq 10, 3) := by decide +kernel
theorem dX6_copy_7 : decode cX6_copy 7 = .ok (.iload_n 2, 1) := by decide +kernel
theorem dX6_copy_8 : decode cX6_copy 8 = .ok (.invokestatic 82, 3) := by decide +kernel
theorem dX6_copy_11 : decode cX6_copy 11 = .ok (.ifCond .ne 6, 3) := by decide +kernel
theorem dX6_copy_14 : decode cX6_copy 14 = .ok (.ldc 63, 2) := by decide +kernel
theorem dX6_copy_16 : decode cX6_copy 16 = .ok (.ireturn, 1) := by decide +kernel
theorem dX6_copy_17 : decode cX6_copy 17 = .ok (.aload_n 0, 1) := by decide +kernel
theorem dX6_copy_18 : decode cX6_copy 18 = .ok (.getfield 10, 3) := by decide +kernel
theorem dX6_copy_21 : decode cX6_copy 21 = .ok (.iload_n 1, 1) := by decide +kernel
theorem dX6_copy_22 : decode cX6_copy 22 = .ok (.invokevirtual 98, 3) := by decide +kernel
theorem dX6_copy_25 : decode cX6_copy 25 = .ok (.ifCond .ne 14, 3) := by decide +kernel
theorem dX6_copy_28 : decode cX6_copy 28 = .ok (.aload_n 0, 1) := by decide +kernel
theorem dX6_copy_29 : decode cX6_copy 29 = .ok (.getfield 10, 3) := by decide +kernel
theorem dX6_copy_32 : decode cX6_copy 32 = .ok (.iload_n 2, 1) := by decide +kernel
theorem dX6_copy_33 : decode cX6_copy 33 = .ok (.invokevirtual 98, 3) := by decide +kernel
theorem dX6_copy_36 : decode cX6_copy 36 = .ok (.ifCond .eq 6, 3) := by decide +kernel
theorem dX6_copy_39 : decode cX6_copy 39 = .ok (.ldc 101, 2) := by decide +kernel
theorem dX6_copy_41 : decode cX6_copy 41 = .ok (.ireturn, 1) := by decide +kernel
theorem dX6_copy_42 : decode cX6_copy 42 = .ok (.iload_n 3, 1) := by decide +kernel
theorem dX6_copy_43 : decode cX6_copy 43 = .ok (.iconst 0, 1) := by decide +kernel
theorem dX6_copy_44 : decode cX6_copy 44 = .ok (.aload_n 0, 1) := by decide +kernel
theorem dX6_copy_45 : decode cX6_copy 45 = .ok (.getfield 10, 3) := by decide +kernel
theorem dX6_copy_48 : decode cX6_copy 48 = .ok (.getfield 102, 3) := by decide +kernel
theorem dX6_copy_51 : decode cX6_copy 51 = .ok (.iload_n 1, 1) := by decide +kernel
theorem dX6_copy_52 : decode cX6_copy 52 = .ok (.iaload, 1) := by decide +kernel
theorem dX6_copy_53 : decode cX6_copy 53 = .ok (.aload_n 0, 1) := by decide +kernel
theorem dX6_copy_54 : decode cX6_copy 54 = .ok (.getfield 10, 3) := by decide +kernel
theorem dX6_copy_57 : decode cX6_copy 57 = .ok (.getfield 102, 3) := by decide +kernel
theorem dX6_copy_60 : decode cX6_copy 60 = .ok (.iload_n 2, 1) := by decide +kernel
theorem dX6_copy_61 : decode cX6_copy 61 = .ok (.iaload, 1) := by decide +kernel
theorem dX6_copy_62 : decode cX6_copy 62 = .ok (.invokestatic 110, 3) := by decide +kernel
theorem dX6_copy_65 : decode cX6_copy 65 = .ok (.invokestatic 85, 3) := by decide +kernel
theorem dX6_copy_68 : decode cX6_copy 68 = .ok (.ifCond .ne 6, 3) := by decide +kernel
theorem dX6_copy_71 : decode cX6_copy 71 = .ok (.ldc 105, 2) := by decide +kernel
theorem dX6_copy_73 : decode cX6_copy 73 = .ok (.ireturn, 1) := by decide +kernel
theorem dX6_copy_74 : decode cX6_copy 74 = .ok (.iconst 0, 1) := by decide +kernel
theorem dX6_copy_75 : decode cX6_copy 75 = .ok (.istore 4, 2) := by decide +kernel
theorem dX6_copy_77 : decode cX6_copy 77 = .ok (.iload 4, 2) := by decide +kernel
theorem dX6_copy_79 : decode cX6_copy 79 = .ok (.iload_n 3, 1) := by decide +kernel
theorem dX6_copy_80 : decode cX6_copy 80 = .ok (.if_icmp .ge 33, 3) := by decide +kernel
theorem dX6_copy_83 : decode cX6_copy 83 = .ok (.aload_n 0, 1) := by decide +kernel
theorem dX6_copy_84 : decode cX6_copy 84 = .ok (.getfield 10, 3) := by decide +kernel
theorem dX6_copy_87 : decode cX6_copy 87 = .ok (.getfield 106, 3) := by decide +kernel
theorem dX6_copy_90 : decode cX6_copy 90 = .ok (.iload_n 2, 1) := by decide +kernel
theorem dX6_copy_91 : decode cX6_copy 91 = .ok (.aaload, 1) := by decide +kernel
theorem dX6_copy_92 : decode cX6_copy 92 = .ok (.iload 4, 2) := by decide +kernel
theorem dX6_copy_94 : decode cX6_copy 94 = .ok (.aload_n 0, 1) := by decide +kernel
theorem dX6_copy_95 : decode cX6_copy 95 = .ok (.getfield 10, 3) := by decide +kernel
theorem dX6_copy_98 : decode cX6_copy 98 = .ok (.getfield 106, 3) := by decide +kernel
theorem dX6_copy_101 : decode cX6_copy 101 = .ok (.iload_n 1, 1) := by decide +kernel
theorem dX6_copy_102 : decode cX6_copy 102 = .ok (.aaload, 1) := by decide +kernel
theorem dX6_copy_103 : decode cX6_copy 103 = .ok (.iload 4, 2) := by decide +kernel
theorem dX6_copy_105 : decode cX6_copy 105 = .ok (.iaload, 1) := by decide +kernel
theorem dX6_copy_106 : decode cX6_copy 106 = .ok (.iastore, 1) := by decide +kernel
theorem dX6_copy_107 : decode cX6_copy 107 = .ok (.iinc 4 1, 3) := by decide +kernel
theorem dX6_copy_110 : decode cX6_copy 110 = .ok (.goto (-33), 3) := by decide +kernel
theorem dX6_copy_113 : decode cX6_copy 113 = .ok (.iload_n 3, 1) := by decide +kernel
theorem dX6_copy_114 : decode cX6_copy 114 = .ok (.ireturn, 1) := by decide +kernel
theorem dX6_read_0 : decode cX6_read 0 = .ok (.iload_n 1, 1) := by decide +kernel
theorem dX6_read_1 : decode cX6_read 1 = .ok (.invokestatic 113, 3) := by decide +kernel
theorem dX6_read_4 : decode cX6_read 4 = .ok (.ifCond .eq 27, 3) := by decide +kernel
theorem dX6_read_7 : decode cX6_read 7 = .ok (.aload_n 0, 1) := by decide +kernel
theorem dX6_read_8 : decode cX6_read 8 = .ok (.getfield 19, 3) := by decide +kernel
theorem dX6_read_11 : decode cX6_read 11 = .ok (.iload_n 2, 1) := by decide +kernel
theorem dX6_read_12 : decode cX6_read 12 = .ok (.invokevirtual 68, 3) := by decide +kernel
theorem dX6_read_15 : decode cX6_read 15 = .ok (.ifCond .eq 16, 3) := by decide +kernel
theorem dX6_read_18 : decode cX6_read 18 = .ok (.iload_n 3, 1) := by decide +kernel
theorem dX6_read_19 : decode cX6_read 19 = .ok (.sipush (-10000), 3) := by decide +kernel
theorem dX6_read_22 : decode cX6_read 22 = .ok (.sipush 9999, 3) := by decide +kernel
theorem dX6_read_25 : decode cX6_read 25 = .ok (.invokestatic 85, 3) := by decide +kernel
theorem dX6_read_28 : decode cX6_read 28 = .ok (.ifCond .ne 6, 3) := by decide +kernel
theorem dX6_read_31 : decode cX6_read 31 = .ok (.ldc 63, 2) := by decide +kernel
theorem dX6_read_33 : decode cX6_read 33 = .ok (.ireturn, 1) := by decide +kernel
theorem dX6_read_34 : decode cX6_read 34 = .ok (.aload_n 0, 1) := by decide +kernel
theorem dX6_read_35 : decode cX6_read 35 = .ok (.getfield 19, 3) := by decide +kernel
theorem dX6_read_38 : decode cX6_read 38 = .ok (.getfield 116, 3) := by decide +kernel
theorem dX6_read_41 : decode cX6_read 41 = .ok (.iload_n 1, 1) := by decide +kernel
theorem dX6_read_42 : decode cX6_read 42 = .ok (.aaload, 1) := by decide +kernel
theorem dX6_read_43 : decode cX6_read 43 = .ok (.iload_n 2, 1) := by decide +kernel
theorem dX6_read_44 : decode cX6_read 44 = .ok (.iaload, 1) := by decide +kernel
theorem dX6_read_45 : decode cX6_read 45 = .ok (.istore 4, 2) := by decide +kernel
theorem dX6_read_47 : decode cX6_read 47 = .ok (.aload_n 0, 1) := by decide +kernel
theorem dX6_read_48 : decode cX6_read 48 = .ok (.getfield 19, 3) := by decide +kernel
theorem dX6_read_51 : decode cX6_read 51 = .ok (.getfield 116, 3) := by decide +kernel
theorem dX6_read_54 : decode cX6_read 54 = .ok (.iload_n 1, 1) := by decide +kernel
theorem dX6_read_55 : decode cX6_read 55 = .ok (.aaload, 1) := by decide +kernel
theorem dX6_read_56 : decode cX6_read 56 = .ok (.iload_n 2, 1) := by decide +kernel
theorem dX6_read_57 : decode cX6_read 57 = .ok (.iload_n 3, 1) := by decide +kernel
theorem dX6_read_58 : decode cX6_read 58 = .ok (.iastore, 1) := by decide +kernel
theorem dX6_read_59 : decode cX6_read 59 = .ok (.aload_n 0, 1) := by decide +kernel
theorem dX6_read_60 : decode cX6_read 60 = .ok (.getfield 19, 3) := by decide +kernel
theorem dX6_read_63 : decode cX6_read 63 = .ok (.iload_n 1, 1) := by decide +kernel
theorem dX6_read_64 : decode cX6_read 64 = .ok (.invokevirtual 119, 3) := by decide +kernel
theorem dX6_read_67 : decode cX6_read 67 = .ok (.iload 4, 2) := by decide +kernel
theorem dX6_read_69 : decode cX6_read 69 = .ok (.ireturn, 1) := by decide +kernel
theorem dX6_limit_0 : decode cX6_limit 0 = .ok (.iload_n 1, 1) := by decide +kernel
theorem dX6_limit_1 : decode cX6_limit 1 = .ok (.iconst 0, 1) := by decide +kernel
theorem dX6_limit_2 : decode cX6_limit 2 = .ok (.iconst 4, 1) := by decide +kernel
theorem dX6_limit_3 : decode cX6_limit 3 = .ok (.invokestatic 85, 3) := by decide +kernel
theorem dX6_limit_6 : decode cX6_limit 6 = .ok (.ifCond .eq 13, 3) := by decide +kernel
theorem dX6_limit_9 : decode cX6_limit 9 = .ok (.iload_n 2, 1) := by decide +kernel
theorem dX6_limit_10 : decode cX6_limit 10 = .ok (.iconst 1, 1) := by decide +kernel
theorem dX6_limit_11 : decode cX6_limit 11 = .ok (.ldc 122, 2) := by decide +kernel
theorem dX6_limit_13 : decode cX6_limit 13 = .ok (.invokestatic 85, 3) := by decide +kernel
theorem dX6_limit_16 : decode cX6_limit 16 = .ok (.ifCond .ne 6, 3) := by decide +kernel
theorem dX6_limit_19 : decode cX6_limit 19 = .ok (.ldc 63, 2) := by decide +kernel
theorem dX6_limit_21 : decode cX6_limit 21 = .ok (.ireturn, 1) := by decide +kernel
theorem dX6_limit_22 : decode cX6_limit 22 = .ok (.aload_n 0, 1) := by decide +kernel
theorem dX6_limit_23 : decode cX6_limit 23 = .ok (.getfield 23, 3) := by decide +kernel
theorem dX6_limit_26 : decode cX6_limit 26 = .ok (.iload_n 1, 1) := by decide +kernel
theorem dX6_limit_27 : decode cX6_limit 27 = .ok (.iaload, 1) := by decide +kernel
theorem dX6_limit_28 : decode cX6_limit 28 = .ok (.istore_n 3, 1) := by decide +kernel
theorem dX6_limit_29 : decode cX6_limit 29 = .ok (.aload_n 0, 1) := by decide +kernel
theorem dX6_limit_30 : decode cX6_limit 30 = .ok (.getfield 23, 3) := by decide +kernel
theorem dX6_limit_33 : decode cX6_limit 33 = .ok (.iload_n 1, 1) := by decide +kernel
theorem dX6_limit_34 : decode cX6_limit 34 = .ok (.iload_n 2, 1) := by decide +kernel
theorem dX6_limit_35 : decode cX6_limit 35 = .ok (.iastore, 1) := by decide +kernel
theorem dX6_limit_36 : decode cX6_limit 36 = .ok (.iload_n 3, 1) := by decide +kernel
theorem dX6_limit_37 : decode cX6_limit 37 = .ok (.ireturn, 1) := by decide +kernel
theorem dX6_tune_0 : decode cX6_tune 0 = .ok (.aload_n 0, 1) := by decide +kernel
theorem dX6_tune_1 : decode cX6_tune 1 = .ok (.getfield 19, 3) := by decide +kernel
theorem dX6_tune_4 : decode cX6_tune 4 = .ok (.iload_n 1, 1) := by decide +kernel
theorem dX6_tune_5 : decode cX6_tune 5 = .ok (.invokevirtual 68, 3) := by decide +kernel
theorem dX6_tune_8 : decode cX6_tune 8 = .ok (.ifCond .eq 14, 3) := by decide +kernel
theorem dX6_tune_11 : decode cX6_tune 11 = .ok (.iload_n 2, 1) := by decide +kernel
theorem dX6_tune_12 : decode cX6_tune 12 = .ok (.ldc 123, 2) := by decide +kernel
theorem dX6_tune_14 : decode cX6_tune 14 = .ok (.ldc 124, 2) := by decide +kernel
theorem dX6_tune_16 : decode cX6_tune 16 = .ok (.invokestatic 85, 3) := by decide +kernel
theorem dX6_tune_19 : decode cX6_tune 19 = .ok (.ifCond .ne 6, 3) := by decide +kernel
theorem dX6_tune_22 : decode cX6_tune 22 = .ok (.ldc 63, 2) := by decide +kernel
theorem dX6_tune_24 : decode cX6_tune 24 = .ok (.ireturn, 1) := by decide +kernel
theorem dX6_tune_25 : decode cX6_tune 25 = .ok (.aload_n 0, 1) := by decide +kernel
theorem dX6_tune_26 : decode cX6_tune 26 = .ok (.getfield 19, 3) := by decide +kernel
theorem dX6_tune_29 : decode cX6_tune 29 = .ok (.iload_n 1, 1) := by decide +kernel
theorem dX6_tune_30 : decode cX6_tune 30 = .ok (.invokevirtual 75, 3) := by decide +kernel
theorem dX6_tune_33 : decode cX6_tune 33 = .ok (.ifCond .eq 6, 3) := by decide +kernel
theorem dX6_tune_36 : decode cX6_tune 36 = .ok (.ldc 78, 2) := by decide +kernel
theorem dX6_tune_38 : decode cX6_tune 38 = .ok (.ireturn, 1) := by decide +kernel
theorem dX6_tune_39 : decode cX6_tune 39 = .ok (.aload_n 0, 1) := by decide +kernel
theorem dX6_tune_40 : decode cX6_tune 40 = .ok (.getfield 19, 3) := by decide +kernel
theorem dX6_tune_43 : decode cX6_tune 43 = .ok (.getfield 125, 3) := by decide +kernel
theorem dX6_tune_46 : decode cX6_tune 46 = .ok (.iload_n 1, 1) := by decide +kernel
theorem dX6_tune_47 : decode cX6_tune 47 = .ok (.iaload, 1) := by decide +kernel
theorem dX6_tune_48 : decode cX6_tune 48 = .ok (.istore_n 3, 1) := by decide +kernel
theorem dX6_tune_49 : decode cX6_tune 49 = .ok (.aload_n 0, 1) := by decide +kernel
theorem dX6_tune_50 : decode cX6_tune 50 = .ok (.getfield 19, 3) := by decide +kernel
theorem dX6_tune_53 : decode cX6_tune 53 = .ok (.getfield 125, 3) := by decide +kernel
theorem dX6_tune_56 : decode cX6_tune 56 = .ok (.iload_n 1, 1) := by decide +kernel
theorem dX6_tune_57 : decode cX6_tune 57 = .ok (.iload_n 2, 1) := by decide +kernel
theorem dX6_tune_58 : decode cX6_tune 58 = .ok (.iastore, 1) := by decide +kernel
theorem dX6_tune_59 : decode cX6_tune 59 = .ok (.iload_n 3, 1) := by decide +kernel
theorem dX6_tune_60 : decode cX6_tune 60 = .ok (.ireturn, 1) := by decide +kernel
theorem dX6_about_0 : decode cX6_about 0 = .ok (.aload_n 0, 1) := by decide +kernel
theorem dX6_about_1 : decode cX6_about 1 = .ok (.getfield 19, 3) := by decide +kernel
theorem dX6_about_4 : decode cX6_about 4 = .ok (.iload_n 1, 1) := by decide +kernel
theorem dX6_about_5 : decode cX6_about 5 = .ok (.invokevirtual 68, 3) := by decide +kernel
theorem dX6_about_8 : decode cX6_about 8 = .ok (.ifCond .ne 6, 3) := by decide +kernel
theorem dX6_about_11 : decode cX6_about 11 = .ok (.ldc 63, 2) := by decide +kernel
theorem dX6_about_13 : decode cX6_about 13 = .ok (.ireturn, 1) := by decide +kernel
theorem dX6_about_14 : decode cX6_about 14 = .ok (.iload_n 2, 1) := by decide +kernel
theorem dX6_about_15 : decode cX6_about 15 = .ok (.tableswitch 67 0 3 #[29, 39, 48, 57], 29) := by decide +kernel
theorem dX6_about_44 : decode cX6_about 44 = .ok (.aload_n 0, 1) := by decide +kernel
theorem dX6_about_45 : decode cX6_about 45 = .ok (.getfield 19, 3) := by decide +kernel
theorem dX6_about_48 : decode cX6_about 48 = .ok (.getfield 79, 3) := by decide +kernel
theorem dX6_about_51 : decode cX6_about 51 = .ok (.iload_n 1, 1) := by decide +kernel
theorem dX6_about_52 : decode cX6_about 52 = .ok (.iaload, 1) := by decide +kernel
theorem dX6_about_53 : decode cX6_about 53 = .ok (.ireturn, 1) := by decide +kernel
theorem dX6_about_54 : decode cX6_about 54 = .ok (.aload_n 0, 1) := by decide +kernel
theorem dX6_about_55 : decode cX6_about 55 = .ok (.getfield 19, 3) := by decide +kernel
theorem dX6_about_58 : decode cX6_about 58 = .ok (.iload_n 1, 1) := by decide +kernel
theorem dX6_about_59 : decode cX6_about 59 = .ok (.invokevirtual 128, 3) := by decide +kernel
theorem dX6_about_62 : decode cX6_about 62 = .ok (.ireturn, 1) := by decide +kernel
theorem dX6_about_63 : decode cX6_about 63 = .ok (.aload_n 0, 1) := by decide +kernel
theorem dX6_about_64 : decode cX6_about 64 = .ok (.getfield 19, 3) := by decide +kernel
theorem dX6_about_67 : decode cX6_about 67 = .ok (.iload_n 1, 1) := by decide +kernel
theorem dX6_about_68 : decode cX6_about 68 = .ok (.invokevirtual 132, 3) := by decide +kernel
theorem dX6_about_71 : decode cX6_about 71 = .ok (.ireturn, 1) := by decide +kernel
theorem dX6_about_72 : decode cX6_about 72 = .ok (.aload_n 0, 1) := by decide +kernel
theorem dX6_about_73 : decode cX6_about 73 = .ok (.getfield 19, 3) := by decide +kernel
theorem dX6_about_76 : decode cX6_about 76 = .ok (.getfield 125, 3) := by decide +kernel
theorem dX6_about_79 : decode cX6_about 79 = .ok (.iload_n 1, 1) := by decide +kernel
theorem dX6_about_80 : decode cX6_about 80 = .ok (.iaload, 1) := by decide +kernel
theorem dX6_about_81 : decode cX6_about 81 = .ok (.ireturn, 1) := by decide +kernel
theorem dX6_about_82 : decode cX6_about 82 = .ok (.ldc 63, 2) := by decide +kernel
theorem dX6_about_84 : decode cX6_about 84 = .ok (.ireturn, 1) := by decide +kernel
theorem dX6_isOf_0 : decode cX6_isOf 0 = .ok (.aload_n 0, 1) := by decide +kernel
theorem dX6_isOf_1 : decode cX6_isOf 1 = .ok (.getfield 19, 3) := by decide +kernel
theorem dX6_isOf_4 : decode cX6_isOf 4 = .ok (.iload_n 1, 1) := by decide +kernel
theorem dX6_isOf_5 : decode cX6_isOf 5 = .ok (.invokevirtual 68, 3) := by decide +kernel
theorem dX6_isOf_8 : decode cX6_isOf 8 = .ok (.ifCond .eq 12, 3) := by decide +kernel
theorem dX6_isOf_11 : decode cX6_isOf 11 = .ok (.iload_n 2, 1) := by decide +kernel
theorem dX6_isOf_12 : decode cX6_isOf 12 = .ok (.iconst 0, 1) := by decide +kernel
theorem dX6_isOf_13 : decode cX6_isOf 13 = .ok (.iconst 5, 1) := by decide +kernel
theorem dX6_isOf_14 : decode cX6_isOf 14 = .ok (.invokestatic 85, 3) := by decide +kernel
theorem dX6_isOf_17 : decode cX6_isOf 17 = .ok (.ifCond .ne 6, 3) := by decide +kernel
theorem dX6_isOf_20 : decode cX6_isOf 20 = .ok (.ldc 63, 2) := by decide +kernel
theorem dX6_isOf_22 : decode cX6_isOf 22 = .ok (.ireturn, 1) := by decide +kernel
theorem dX6_isOf_23 : decode cX6_isOf 23 = .ok (.aload_n 0, 1) := by decide +kernel
theorem dX6_isOf_24 : decode cX6_isOf 24 = .ok (.getfield 19, 3) := by decide +kernel
theorem dX6_isOf_27 : decode cX6_isOf 27 = .ok (.getfield 79, 3) := by decide +kernel
theorem dX6_isOf_30 : decode cX6_isOf 30 = .ok (.iload_n 1, 1) := by decide +kernel
theorem dX6_isOf_31 : decode cX6_isOf 31 = .ok (.iaload, 1) := by decide +kernel
theorem dX6_isOf_32 : decode cX6_isOf 32 = .ok (.istore_n 3, 1) := by decide +kernel
theorem dX6_isOf_33 : decode cX6_isOf 33 = .ok (.iload_n 2, 1) := by decide +kernel
theorem dX6_isOf_34 : decode cX6_isOf 34 = .ok (.ifCond .eq 17, 3) := by decide +kernel
theorem dX6_isOf_37 : decode cX6_isOf 37 = .ok (.iload_n 2, 1) := by decide +kernel
theorem dX6_isOf_38 : decode cX6_isOf 38 = .ok (.iload_n 3, 1) := by decide +kernel
theorem dX6_isOf_39 : decode cX6_isOf 39 = .ok (.if_icmp .eq 12, 3) := by decide +kernel
theorem dX6_isOf_42 : decode cX6_isOf 42 = .ok (.iload_n 2, 1) := by decide +kernel
theorem dX6_isOf_43 : decode cX6_isOf 43 = .ok (.getstatic 135, 3) := by decide +kernel
theorem dX6_isOf_46 : decode cX6_isOf 46 = .ok (.iload_n 3, 1) := by decide +kernel
theorem dX6_isOf_47 : decode cX6_isOf 47 = .ok (.iaload, 1) := by decide +kernel
theorem dX6_isOf_48 : decode cX6_isOf 48 = .ok (.if_icmp .ne 7, 3) := by decide +kernel
theorem dX6_isOf_51 : decode cX6_isOf 51 = .ok (.iconst 1, 1) := by decide +kernel
theorem dX6_isOf_52 : decode cX6_isOf 52 = .ok (.goto 4, 3) := by decide +kernel
theorem dX6_isOf_55 : decode cX6_isOf 55 = .ok (.iconst 0, 1) := by decide +kernel
theorem dX6_isOf_56 : decode cX6_isOf 56 = .ok (.invokestatic 138, 3) := by decide +kernel
theorem dX6_isOf_59 : decode cX6_isOf 59 = .ok (.ireturn, 1) := by decide +kernel
theorem dX6_tells_0 : decode cX6_tells 0 = .ok (.iload_n 1, 1) := by decide +kernel
theorem dX6_tells_1 : decode cX6_tells 1 = .ok (.invokestatic 82, 3) := by decide +kernel
theorem dX6_tells_4 : decode cX6_tells 4 = .ok (.ifCond .eq 13, 3) := by decide +kernel
theorem dX6_tells_7 : decode cX6_tells 7 = .ok (.iload_n 2, 1) := by decide +kernel
theorem dX6_tells_8 : decode cX6_tells 8 = .ok (.iconst 0, 1) := by decide +kernel
theorem dX6_tells_9 : decode cX6_tells 9 = .ok (.bipush 16, 2) := by decide +kernel
theorem dX6_tells_11 : decode cX6_tells 11 = .ok (.invokestatic 85, 3) := by decide +kernel
theorem dX6_tells_14 : decode cX6_tells 14 = .ok (.ifCond .ne 6, 3) := by decide +kernel
theorem dX6_tells_17 : decode cX6_tells 17 = .ok (.ldc 63, 2) := by decide +kernel
theorem dX6_tells_19 : decode cX6_tells 19 = .ok (.ireturn, 1) := by decide +kernel
theorem dX6_tells_20 : decode cX6_tells 20 = .ok (.aload_n 0, 1) := by decide +kernel
theorem dX6_tells_21 : decode cX6_tells 21 = .ok (.getfield 10, 3) := by decide +kernel
theorem dX6_tells_24 : decode cX6_tells 24 = .ok (.getfield 106, 3) := by decide +kernel
theorem dX6_tells_27 : decode cX6_tells 27 = .ok (.iload_n 1, 1) := by decide +kernel
theorem dX6_tells_28 : decode cX6_tells 28 = .ok (.aaload, 1) := by decide +kernel
theorem dX6_tells_29 : decode cX6_tells 29 = .ok (.iload_n 2, 1) := by decide +kernel
theorem dX6_tells_30 : decode cX6_tells 30 = .ok (.iaload, 1) := by decide +kernel
theorem dX6_tells_31 : decode cX6_tells 31 = .ok (.ireturn, 1) := by decide +kernel
theorem dX6_unbent_0 : decode cX6_unbent 0 = .ok (.iload_n 1, 1) := by decide +kernel
theorem dX6_unbent_1 : decode cX6_unbent 1 = .ok (.invokestatic 113, 3) := by decide +kernel
theorem dX6_unbent_4 : decode cX6_unbent 4 = .ok (.ifCond .eq 14, 3) := by decide +kernel
theorem dX6_unbent_7 : decode cX6_unbent 7 = .ok (.aload_n 0, 1) := by decide +kernel
theorem dX6_unbent_8 : decode cX6_unbent 8 = .ok (.getfield 19, 3) := by decide +kernel
theorem dX6_unbent_11 : decode cX6_unbent 11 = .ok (.iload_n 2, 1) := by decide +kernel
theorem dX6_unbent_12 : decode cX6_unbent 12 = .ok (.invokevirtual 68, 3) := by decide +kernel
theorem dX6_unbent_15 : decode cX6_unbent 15 = .ok (.ifCond .ne 6, 3) := by decide +kernel
theorem dX6_unbent_18 : decode cX6_unbent 18 = .ok (.ldc 63, 2) := by decide +kernel
theorem dX6_unbent_20 : decode cX6_unbent 20 = .ok (.ireturn, 1) := by decide +kernel
theorem dX6_unbent_21 : decode cX6_unbent 21 = .ok (.aload_n 0, 1) := by decide +kernel
theorem dX6_unbent_22 : decode cX6_unbent 22 = .ok (.getfield 19, 3) := by decide +kernel
theorem dX6_unbent_25 : decode cX6_unbent 25 = .ok (.getfield 142, 3) := by decide +kernel
theorem dX6_unbent_28 : decode cX6_unbent 28 = .ok (.iload_n 1, 1) := by decide +kernel
theorem dX6_unbent_29 : decode cX6_unbent 29 = .ok (.aaload, 1) := by decide +kernel
theorem dX6_unbent_30 : decode cX6_unbent 30 = .ok (.iload_n 2, 1) := by decide +kernel
theorem dX6_unbent_31 : decode cX6_unbent 31 = .ok (.iaload, 1) := by decide +kernel
theorem dX6_unbent_32 : decode cX6_unbent 32 = .ok (.ireturn, 1) := by decide +kernel
theorem dX6_reading_0 : decode cX6_reading 0 = .ok (.iload_n 1, 1) := by decide +kernel
theorem dX6_reading_1 : decode cX6_reading 1 = .ok (.invokestatic 113, 3) := by decide +kernel
theorem dX6_reading_4 : decode cX6_reading 4 = .ok (.ifCond .eq 14, 3) := by decide +kernel
theorem dX6_reading_7 : decode cX6_reading 7 = .ok (.aload_n 0, 1) := by decide +kernel
theorem dX6_reading_8 : decode cX6_reading 8 = .ok (.getfield 19, 3) := by decide +kernel
theorem dX6_reading_11 : decode cX6_reading 11 = .ok (.iload_n 2, 1) := by decide +kernel
theorem dX6_reading_12 : decode cX6_reading 12 = .ok (.invokevirtual 68, 3) := by decide +kernel
theorem dX6_reading_15 : decode cX6_reading 15 = .ok (.ifCond .ne 6, 3) := by decide +kernel
theorem dX6_reading_18 : decode cX6_reading 18 = .ok (.ldc 63, 2) := by decide +kernel
theorem dX6_reading_20 : decode cX6_reading 20 = .ok (.ireturn, 1) := by decide +kernel
theorem dX6_reading_21 : decode cX6_reading 21 = .ok (.aload_n 0, 1) := by decide +kernel
theorem dX6_reading_22 : decode cX6_reading 22 = .ok (.getfield 19, 3) := by decide +kernel
theorem dX6_reading_25 : decode cX6_reading 25 = .ok (.iload_n 1, 1) := by decide +kernel
theorem dX6_reading_26 : decode cX6_reading 26 = .ok (.iload_n 2, 1) := by decide +kernel
theorem dX6_reading_27 : decode cX6_reading 27 = .ok (.invokevirtual 145, 3) := by decide +kernel
theorem dX6_reading_30 : decode cX6_reading 30 = .ok (.ireturn, 1) := by decide +kernel
theorem dX6_state_0 : decode cX6_state 0 = .ok (.aload_n 0, 1) := by decide +kernel
theorem dX6_state_1 : decode cX6_state 1 = .ok (.getfield 32, 3) := by decide +kernel
theorem dX6_state_4 : decode cX6_state 4 = .ok (.invokevirtual 148, 3) := by decide +kernel
theorem dX6_state_7 : decode cX6_state 7 = .ok (.iload_n 1, 1) := by decide +kernel
theorem dX6_state_8 : decode cX6_state 8 = .ok (.tableswitch 103 0 5 #[40, 48, 57, 66, 74, 82], 40) := by decide +kernel
theorem dX6_state_48 : decode cX6_state 48 = .ok (.aload_n 0, 1) := by decide +kernel
theorem dX6_state_49 : decode cX6_state 49 = .ok (.getfield 32, 3) := by decide +kernel
theorem dX6_state_52 : decode cX6_state 52 = .ok (.invokevirtual 151, 3) := by decide +kernel
theorem dX6_state_55 : decode cX6_state 55 = .ok (.ireturn, 1) := by decide +kernel
theorem dX6_state_56 : decode cX6_state 56 = .ok (.aload_n 0, 1) := by decide +kernel
theorem dX6_state_57 : decode cX6_state 57 = .ok (.getfield 32, 3) := by decide +kernel
theorem dX6_state_60 : decode cX6_state 60 = .ok (.iconst 1, 1) := by decide +kernel
theorem dX6_state_61 : decode cX6_state 61 = .ok (.invokevirtual 155, 3) := by decide +kernel
theorem dX6_state_64 : decode cX6_state 64 = .ok (.ireturn, 1) := by decide +kernel
theorem dX6_state_65 : decode cX6_state 65 = .ok (.aload_n 0, 1) := by decide +kernel
theorem dX6_state_66 : decode cX6_state 66 = .ok (.getfield 32, 3) := by decide +kernel
theorem dX6_state_69 : decode cX6_state 69 = .ok (.iconst (-1), 1) := by decide +kernel
theorem dX6_state_70 : decode cX6_state 70 = .ok (.invokevirtual 155, 3) := by decide +kernel
theorem dX6_state_73 : decode cX6_state 73 = .ok (.ireturn, 1) := by decide +kernel
theorem dX6_state_74 : decode cX6_state 74 = .ok (.aload_n 0, 1) := by decide +kernel
theorem dX6_state_75 : decode cX6_state 75 = .ok (.getfield 32, 3) := by decide +kernel
theorem dX6_state_78 : decode cX6_state 78 = .ok (.invokevirtual 158, 3) := by decide +kernel
theorem dX6_state_81 : decode cX6_state 81 = .ok (.ireturn, 1) := by decide +kernel
theorem dX6_state_82 : decode cX6_state 82 = .ok (.aload_n 0, 1) := by decide +kernel
theorem dX6_state_83 : decode cX6_state 83 = .ok (.getfield 32, 3) := by decide +kernel
theorem dX6_state_86 : decode cX6_state 86 = .ok (.invokevirtual 161, 3) := by decide +kernel
theorem dX6_state_89 : decode cX6_state 89 = .ok (.ireturn, 1) := by decide +kernel
theorem dX6_state_90 : decode cX6_state 90 = .ok (.aload_n 0, 1) := by decide +kernel
theorem dX6_state_91 : decode cX6_state 91 = .ok (.getfield 32, 3) := by decide +kernel
theorem dX6_state_94 : decode cX6_state 94 = .ok (.invokevirtual 164, 3) := by decide +kernel
theorem dX6_state_97 : decode cX6_state 97 = .ok (.ldc 167, 2) := by decide +kernel
theorem dX6_state_99 : decode cX6_state 99 = .ok (.if_icmp .ne 7, 3) := by decide +kernel
theorem dX6_state_102 : decode cX6_state 102 = .ok (.iconst 1, 1) := by decide +kernel
theorem dX6_state_103 : decode cX6_state 103 = .ok (.goto 4, 3) := by decide +kernel
theorem dX6_state_106 : decode cX6_state 106 = .ok (.iconst 0, 1) := by decide +kernel
theorem dX6_state_107 : decode cX6_state 107 = .ok (.invokestatic 138, 3) := by decide +kernel
theorem dX6_state_110 : decode cX6_state 110 = .ok (.ireturn, 1) := by decide +kernel
theorem dX6_state_111 : decode cX6_state 111 = .ok (.ldc 63, 2) := by decide +kernel
theorem dX6_state_113 : decode cX6_state 113 = .ok (.ireturn, 1) := by decide +kernel
theorem dX6_why_0 : decode cX6_why 0 = .ok (.aload_n 0, 1) := by decide +kernel
theorem dX6_why_1 : decode cX6_why 1 = .ok (.getfield 32, 3) := by decide +kernel
theorem dX6_why_4 : decode cX6_why 4 = .ok (.invokevirtual 148, 3) := by decide +kernel
theorem dX6_why_7 : decode cX6_why 7 = .ok (.aload_n 0, 1) := by decide +kernel
theorem dX6_why_8 : decode cX6_why 8 = .ok (.getfield 32, 3) := by decide +kernel
theorem dX6_why_11 : decode cX6_why 11 = .ok (.invokevirtual 164, 3) := by decide +kernel
theorem dX6_why_14 : decode cX6_why 14 = .ok (.ireturn, 1) := by decide +kernel
theorem dX6_turn_0 : decode cX6_turn 0 = .ok (.aload_n 0, 1) := by decide +kernel
theorem dX6_turn_1 : decode cX6_turn 1 = .ok (.getfield 19, 3) := by decide +kernel
theorem dX6_turn_4 : decode cX6_turn 4 = .ok (.iload_n 1, 1) := by decide +kernel
theorem dX6_turn_5 : decode cX6_turn 5 = .ok (.invokevirtual 68, 3) := by decide +kernel
theorem dX6_turn_8 : decode cX6_turn 8 = .ok (.ifCond .eq 18, 3) := by decide +kernel
theorem dX6_turn_11 : decode cX6_turn 11 = .ok (.iload_n 2, 1) := by decide +kernel
theorem dX6_turn_12 : decode cX6_turn 12 = .ok (.bipush (-100), 2) := by decide +kernel
theorem dX6_turn_14 : decode cX6_turn 14 = .ok (.bipush 100, 2) := by decide +kernel
theorem dX6_turn_16 : decode cX6_turn 16 = .ok (.invokestatic 85, 3) := by decide +kernel
theorem dX6_turn_19 : decode cX6_turn 19 = .ok (.ifCond .eq 7, 3) := by decide +kernel
theorem dX6_turn_22 : decode cX6_turn 22 = .ok (.iload_n 2, 1) := by decide +kernel
theorem dX6_turn_23 : decode cX6_turn 23 = .ok (.ifCond .ne 6, 3) := by decide +kernel
theorem dX6_turn_26 : decode cX6_turn 26 = .ok (.ldc 63, 2) := by decide +kernel
theorem dX6_turn_28 : decode cX6_turn 28 = .ok (.ireturn, 1) := by decide +kernel
theorem dX6_turn_29 : decode cX6_turn 29 = .ok (.aload_n 0, 1) := by decide +kernel
theorem dX6_turn_30 : decode cX6_turn 30 = .ok (.getfield 32, 3) := by decide +kernel
theorem dX6_turn_33 : decode cX6_turn 33 = .ok (.iload_n 1, 1) := by decide +kernel
theorem dX6_turn_34 : decode cX6_turn 34 = .ok (.iload_n 2, 1) := by decide +kernel
theorem dX6_turn_35 : decode cX6_turn 35 = .ok (.invokevirtual 168, 3) := by decide +kernel
theorem dX6_turn_38 : decode cX6_turn 38 = .ok (.aload_n 0, 1) := by decide +kernel
theorem dX6_turn_39 : decode cX6_turn 39 = .ok (.getfield 32, 3) := by decide +kernel
theorem dX6_turn_42 : decode cX6_turn 42 = .ok (.invokevirtual 171, 3) := by decide +kernel
theorem dX6_turn_45 : decode cX6_turn 45 = .ok (.ifCond .eq 6, 3) := by decide +kernel
theorem dX6_turn_48 : decode cX6_turn 48 = .ok (.ldc 78, 2) := by decide +kernel
theorem dX6_turn_50 : decode cX6_turn 50 = .ok (.ireturn, 1) := by decide +kernel
theorem dX6_turn_51 : decode cX6_turn 51 = .ok (.aload_n 0, 1) := by decide +kernel
theorem dX6_turn_52 : decode cX6_turn 52 = .ok (.getfield 48, 3) := by decide +kernel
theorem dX6_turn_55 : decode cX6_turn 55 = .ok (.invokevirtual 175, 3) := by decide +kernel
theorem dX6_turn_58 : decode cX6_turn 58 = .ok (.ifCond .eq 6, 3) := by decide +kernel
theorem dX6_turn_61 : decode cX6_turn 61 = .ok (.ldc 178, 2) := by decide +kernel
theorem dX6_turn_63 : decode cX6_turn 63 = .ok (.ireturn, 1) := by decide +kernel
theorem dX6_turn_64 : decode cX6_turn 64 = .ok (.aload_n 0, 1) := by decide +kernel
theorem dX6_turn_65 : decode cX6_turn 65 = .ok (.getfield 32, 3) := by decide +kernel
theorem dX6_turn_68 : decode cX6_turn 68 = .ok (.invokevirtual 179, 3) := by decide +kernel
theorem dX6_turn_71 : decode cX6_turn 71 = .ok (.aload_n 0, 1) := by decide +kernel
theorem dX6_turn_72 : decode cX6_turn 72 = .ok (.getfield 48, 3) := by decide +kernel
theorem dX6_turn_75 : decode cX6_turn 75 = .ok (.iload_n 1, 1) := by decide +kernel
theorem dX6_turn_76 : decode cX6_turn 76 = .ok (.iload_n 2, 1) := by decide +kernel
theorem dX6_turn_77 : decode cX6_turn 77 = .ok (.invokevirtual 182, 3) := by decide +kernel
theorem dX6_turn_80 : decode cX6_turn 80 = .ok (.aload_n 0, 1) := by decide +kernel
theorem dX6_turn_81 : decode cX6_turn 81 = .ok (.getfield 19, 3) := by decide +kernel
theorem dX6_turn_84 : decode cX6_turn 84 = .ok (.getfield 125, 3) := by decide +kernel
theorem dX6_turn_87 : decode cX6_turn 87 = .ok (.iload_n 1, 1) := by decide +kernel
theorem dX6_turn_88 : decode cX6_turn 88 = .ok (.iaload, 1) := by decide +kernel
theorem dX6_turn_89 : decode cX6_turn 89 = .ok (.ireturn, 1) := by decide +kernel
theorem dX6_next_0 : decode cX6_next 0 = .ok (.aload_n 0, 1) := by decide +kernel
theorem dX6_next_1 : decode cX6_next 1 = .ok (.getfield 41, 3) := by decide +kernel
theorem dX6_next_4 : decode cX6_next 4 = .ok (.invokevirtual 185, 3) := by decide +kernel
theorem dX6_next_7 : decode cX6_next 7 = .ok (.ireturn, 1) := by decide +kernel
theorem dX6_plan_0 : decode cX6_plan 0 = .ok (.iload_n 1, 1) := by decide +kernel
theorem dX6_plan_1 : decode cX6_plan 1 = .ok (.iconst 1, 1) := by decide +kernel
theorem dX6_plan_2 : decode cX6_plan 2 = .ok (.bipush 60, 2) := by decide +kernel
theorem dX6_plan_4 : decode cX6_plan 4 = .ok (.invokestatic 85, 3) := by decide +kernel
theorem dX6_plan_7 : decode cX6_plan 7 = .ok (.ifCond .ne 6, 3) := by decide +kernel
theorem dX6_plan_10 : decode cX6_plan 10 = .ok (.ldc 63, 2) := by decide +kernel
theorem dX6_plan_12 : decode cX6_plan 12 = .ok (.ireturn, 1) := by decide +kernel
theorem dX6_plan_13 : decode cX6_plan 13 = .ok (.iconst 0, 1) := by decide +kernel
theorem dX6_plan_14 : decode cX6_plan 14 = .ok (.istore_n 2, 1) := by decide +kernel
theorem dX6_plan_15 : decode cX6_plan 15 = .ok (.iload_n 2, 1) := by decide +kernel
theorem dX6_plan_16 : decode cX6_plan 16 = .ok (.iload_n 1, 1) := by decide +kernel
theorem dX6_plan_17 : decode cX6_plan 17 = .ok (.if_icmp .ge 87, 3) := by decide +kernel
theorem dX6_plan_20 : decode cX6_plan 20 = .ok (.aload_n 0, 1) := by decide +kernel
theorem dX6_plan_21 : decode cX6_plan 21 = .ok (.getfield 48, 3) := by decide +kernel
theorem dX6_plan_24 : decode cX6_plan 24 = .ok (.invokevirtual 175, 3) := by decide +kernel
theorem dX6_plan_27 : decode cX6_plan 27 = .ok (.ifCond .eq 8, 3) := by decide +kernel
theorem dX6_plan_30 : decode cX6_plan 30 = .ok (.ldc 167, 2) := by decide +kernel
theorem dX6_plan_32 : decode cX6_plan 32 = .ok (.goto 10, 3) := by decide +kernel
theorem dX6_plan_35 : decode cX6_plan 35 = .ok (.aload_n 0, 1) := by decide +kernel
theorem dX6_plan_36 : decode cX6_plan 36 = .ok (.getfield 41, 3) := by decide +kernel
theorem dX6_plan_39 : decode cX6_plan 39 = .ok (.invokevirtual 185, 3) := by decide +kernel
theorem dX6_plan_42 : decode cX6_plan 42 = .ok (.istore_n 3, 1) := by decide +kernel
theorem dX6_plan_43 : decode cX6_plan 43 = .ok (.iload_n 3, 1) := by decide +kernel
theorem dX6_plan_44 : decode cX6_plan 44 = .ok (.ldc 167, 2) := by decide +kernel
theorem dX6_plan_46 : decode cX6_plan 46 = .ok (.if_icmp .ne 5, 3) := by decide +kernel
theorem dX6_plan_49 : decode cX6_plan 49 = .ok (.iload_n 2, 1) := by decide +kernel
theorem dX6_plan_50 : decode cX6_plan 50 = .ok (.ireturn, 1) := by decide +kernel
theorem dX6_plan_51 : decode cX6_plan 51 = .ok (.iload_n 3, 1) := by decide +kernel
theorem dX6_plan_52 : decode cX6_plan 52 = .ok (.iconst 1, 1) := by decide +kernel
theorem dX6_plan_53 : decode cX6_plan 53 = .ok (.ishr, 1) := by decide +kernel
theorem dX6_plan_54 : decode cX6_plan 54 = .ok (.istore 4, 2) := by decide +kernel
theorem dX6_plan_56 : decode cX6_plan 56 = .ok (.iload_n 3, 1) := by decide +kernel
theorem dX6_plan_57 : decode cX6_plan 57 = .ok (.iconst 1, 1) := by decide +kernel
theorem dX6_plan_58 : decode cX6_plan 58 = .ok (.iand, 1) := by decide +kernel
theorem dX6_plan_59 : decode cX6_plan 59 = .ok (.ifCond .ne 7, 3) := by decide +kernel
theorem dX6_plan_62 : decode cX6_plan 62 = .ok (.iconst 1, 1) := by decide +kernel
theorem dX6_plan_63 : decode cX6_plan 63 = .ok (.goto 4, 3) := by decide +kernel
theorem dX6_plan_66 : decode cX6_plan 66 = .ok (.iconst (-1), 1) := by decide +kernel
theorem dX6_plan_67 : decode cX6_plan 67 = .ok (.istore 5, 2) := by decide +kernel
theorem dX6_plan_69 : decode cX6_plan 69 = .ok (.aload_n 0, 1) := by decide +kernel
theorem dX6_plan_70 : decode cX6_plan 70 = .ok (.getfield 32, 3) := by decide +kernel
theorem dX6_plan_73 : decode cX6_plan 73 = .ok (.iload 4, 2) := by decide +kernel
theorem dX6_plan_75 : decode cX6_plan 75 = .ok (.iload 5, 2) := by decide +kernel
theorem dX6_plan_77 : decode cX6_plan 77 = .ok (.invokevirtual 168, 3) := by decide +kernel
theorem dX6_plan_80 : decode cX6_plan 80 = .ok (.aload_n 0, 1) := by decide +kernel
theorem dX6_plan_81 : decode cX6_plan 81 = .ok (.getfield 32, 3) := by decide +kernel
theorem dX6_plan_84 : decode cX6_plan 84 = .ok (.invokevirtual 179, 3) := by decide +kernel
theorem dX6_plan_87 : decode cX6_plan 87 = .ok (.aload_n 0, 1) := by decide +kernel
theorem dX6_plan_88 : decode cX6_plan 88 = .ok (.getfield 48, 3) := by decide +kernel
theorem dX6_plan_91 : decode cX6_plan 91 = .ok (.iload 4, 2) := by decide +kernel
theorem dX6_plan_93 : decode cX6_plan 93 = .ok (.iload 5, 2) := by decide +kernel
theorem dX6_plan_95 : decode cX6_plan 95 = .ok (.invokevirtual 182, 3) := by decide +kernel
theorem dX6_plan_98 : decode cX6_plan 98 = .ok (.iinc 2 1, 3) := by decide +kernel
theorem dX6_plan_101 : decode cX6_plan 101 = .ok (.goto (-86), 3) := by decide +kernel
theorem dX6_plan_104 : decode cX6_plan 104 = .ok (.iload_n 1, 1) := by decide +kernel
theorem dX6_plan_105 : decode cX6_plan 105 = .ok (.ireturn, 1) := by decide +kernel
theorem dX6_fewest_0 : decode cX6_fewest 0 = .ok (.iload_n 1, 1) := by decide +kernel
theorem dX6_fewest_1 : decode cX6_fewest 1 = .ok (.iconst 0, 1) := by decide +kernel
theorem dX6_fewest_2 : decode cX6_fewest 2 = .ok (.iconst 4, 1) := by decide +kernel
theorem dX6_fewest_3 : decode cX6_fewest 3 = .ok (.invokestatic 85, 3) := by decide +kernel
theorem dX6_fewest_6 : decode cX6_fewest 6 = .ok (.ifCond .ne 6, 3) := by decide +kernel
theorem dX6_fewest_9 : decode cX6_fewest 9 = .ok (.ldc 63, 2) := by decide +kernel
theorem dX6_fewest_11 : decode cX6_fewest 11 = .ok (.ireturn, 1) := by decide +kernel
theorem dX6_fewest_12 : decode cX6_fewest 12 = .ok (.aload_n 0, 1) := by decide +kernel
theorem dX6_fewest_13 : decode cX6_fewest 13 = .ok (.getfield 41, 3) := by decide +kernel
theorem dX6_fewest_16 : decode cX6_fewest 16 = .ok (.invokevirtual 188, 3) := by decide +kernel
theorem dX6_fewest_19 : decode cX6_fewest 19 = .ok (.istore_n 2, 1) := by decide +kernel
theorem dX6_fewest_20 : decode cX6_fewest 20 = .ok (.iload_n 2, 1) := by decide +kernel
theorem dX6_fewest_21 : decode cX6_fewest 21 = .ok (.ldc 167, 2) := by decide +kernel
theorem dX6_fewest_23 : decode cX6_fewest 23 = .ok (.if_icmp .eq 10, 3) := by decide +kernel
theorem dX6_fewest_26 : decode cX6_fewest 26 = .ok (.iload_n 1, 1) := by decide +kernel
theorem dX6_fewest_27 : decode cX6_fewest 27 = .ok (.iconst 2, 1) := by decide +kernel
theorem dX6_fewest_28 : decode cX6_fewest 28 = .ok (.iload_n 2, 1) := by decide +kernel
theorem dX6_fewest_29 : decode cX6_fewest 29 = .ok (.imul, 1) := by decide +kernel
theorem dX6_fewest_30 : decode cX6_fewest 30 = .ok (.if_icmp .le 6, 3) := by decide +kernel
theorem dX6_fewest_33 : decode cX6_fewest 33 = .ok (.ldc 167, 2) := by decide +kernel
theorem dX6_fewest_35 : decode cX6_fewest 35 = .ok (.ireturn, 1) := by decide +kernel
theorem dX6_fewest_36 : decode cX6_fewest 36 = .ok (.iload_n 1, 1) := by decide +kernel
theorem dX6_fewest_37 : decode cX6_fewest 37 = .ok (.ifCond .ne 7, 3) := by decide +kernel
theorem dX6_fewest_40 : decode cX6_fewest 40 = .ok (.iload_n 2, 1) := by decide +kernel
theorem dX6_fewest_41 : decode cX6_fewest 41 = .ok (.goto 12, 3) := by decide +kernel
theorem dX6_fewest_44 : decode cX6_fewest 44 = .ok (.aload_n 0, 1) := by decide +kernel
theorem dX6_fewest_45 : decode cX6_fewest 45 = .ok (.getfield 41, 3) := by decide +kernel
theorem dX6_fewest_48 : decode cX6_fewest 48 = .ok (.getfield 191, 3) := by decide +kernel
theorem dX6_fewest_51 : decode cX6_fewest 51 = .ok (.iload_n 1, 1) := by decide +kernel
theorem dX6_fewest_52 : decode cX6_fewest 52 = .ok (.iaload, 1) := by decide +kernel
theorem dX6_fewest_53 : decode cX6_fewest 53 = .ok (.ireturn, 1) := by decide +kernel
theorem dX6_log_0 : decode cX6_log 0 = .ok (.iload_n 1, 1) := by decide +kernel
theorem dX6_log_1 : decode cX6_log 1 = .ok (.ifCond .lt 12, 3) := by decide +kernel
theorem dX6_log_4 : decode cX6_log 4 = .ok (.iload_n 2, 1) := by decide +kernel
theorem dX6_log_5 : decode cX6_log 5 = .ok (.iconst 0, 1) := by decide +kernel
theorem dX6_log_6 : decode cX6_log 6 = .ok (.iconst 1, 1) := by decide +kernel
theorem dX6_log_7 : decode cX6_log 7 = .ok (.invokestatic 85, 3) := by decide +kernel
theorem dX6_log_10 : decode cX6_log 10 = .ok (.ifCond .ne 6, 3) := by decide +kernel
theorem dX6_log_13 : decode cX6_log 13 = .ok (.ldc 63, 2) := by decide +kernel
theorem dX6_log_15 : decode cX6_log 15 = .ok (.ireturn, 1) := by decide +kernel
theorem dX6_log_16 : decode cX6_log 16 = .ok (.iload_n 1, 1) := by decide +kernel
theorem dX6_log_17 : decode cX6_log 17 = .ok (.aload_n 0, 1) := by decide +kernel
theorem dX6_log_18 : decode cX6_log 18 = .ok (.getfield 48, 3) := by decide +kernel
theorem dX6_log_21 : decode cX6_log 21 = .ok (.getfield 64, 3) := by decide +kernel
theorem dX6_log_24 : decode cX6_log 24 = .ok (.if_icmp .lt 6, 3) := by decide +kernel
theorem dX6_log_27 : decode cX6_log 27 = .ok (.ldc 167, 2) := by decide +kernel
theorem dX6_log_29 : decode cX6_log 29 = .ok (.ireturn, 1) := by decide +kernel
theorem dX6_log_30 : decode cX6_log 30 = .ok (.iload_n 2, 1) := by decide +kernel
theorem dX6_log_31 : decode cX6_log 31 = .ok (.ifCond .ne 15, 3) := by decide +kernel
theorem dX6_log_34 : decode cX6_log 34 = .ok (.aload_n 0, 1) := by decide +kernel
theorem dX6_log_35 : decode cX6_log 35 = .ok (.getfield 48, 3) := by decide +kernel
theorem dX6_log_38 : decode cX6_log 38 = .ok (.getfield 194, 3) := by decide +kernel
theorem dX6_log_41 : decode cX6_log 41 = .ok (.iload_n 1, 1) := by decide +kernel
theorem dX6_log_42 : decode cX6_log 42 = .ok (.iaload, 1) := by decide +kernel
theorem dX6_log_43 : decode cX6_log 43 = .ok (.goto 12, 3) := by decide +kernel
theorem dX6_log_46 : decode cX6_log 46 = .ok (.aload_n 0, 1) := by decide +kernel
theorem dX6_log_47 : decode cX6_log 47 = .ok (.getfield 48, 3) := by decide +kernel
theorem dX6_log_50 : decode cX6_log 50 = .ok (.getfield 197, 3) := by decide +kernel
theorem dX6_log_53 : decode cX6_log 53 = .ok (.iload_n 1, 1) := by decide +kernel
theorem dX6_log_54 : decode cX6_log 54 = .ok (.iaload, 1) := by decide +kernel
theorem dX6_log_55 : decode cX6_log 55 = .ok (.ireturn, 1) := by decide +kernel
theorem dX6_undo_0 : decode cX6_undo 0 = .ok (.aload_n 0, 1) := by decide +kernel
theorem dX6_undo_1 : decode cX6_undo 1 = .ok (.getfield 48, 3) := by decide +kernel
theorem dX6_undo_4 : decode cX6_undo 4 = .ok (.getfield 64, 3) := by decide +kernel
theorem dX6_undo_7 : decode cX6_undo 7 = .ok (.ifCond .ne 6, 3) := by decide +kernel
theorem dX6_undo_10 : decode cX6_undo 10 = .ok (.ldc 78, 2) := by decide +kernel
theorem dX6_undo_12 : decode cX6_undo 12 = .ok (.ireturn, 1) := by decide +kernel
theorem dX6_undo_13 : decode cX6_undo 13 = .ok (.aload_n 0, 1) := by decide +kernel
theorem dX6_undo_14 : decode cX6_undo 14 = .ok (.getfield 48, 3) := by decide +kernel
theorem dX6_undo_17 : decode cX6_undo 17 = .ok (.getfield 64, 3) := by decide +kernel
theorem dX6_undo_20 : decode cX6_undo 20 = .ok (.iconst 1, 1) := by decide +kernel
theorem dX6_undo_21 : decode cX6_undo 21 = .ok (.isub, 1) := by decide +kernel
theorem dX6_undo_22 : decode cX6_undo 22 = .ok (.istore_n 1, 1) := by decide +kernel
theorem dX6_undo_23 : decode cX6_undo 23 = .ok (.aload_n 0, 1) := by decide +kernel
theorem dX6_undo_24 : decode cX6_undo 24 = .ok (.getfield 32, 3) := by decide +kernel
theorem dX6_undo_27 : decode cX6_undo 27 = .ok (.aload_n 0, 1) := by decide +kernel
theorem dX6_undo_28 : decode cX6_undo 28 = .ok (.getfield 48, 3) := by decide +kernel
theorem dX6_undo_31 : decode cX6_undo 31 = .ok (.getfield 194, 3) := by decide +kernel
theorem dX6_undo_34 : decode cX6_undo 34 = .ok (.iload_n 1, 1) := by decide +kernel
theorem dX6_undo_35 : decode cX6_undo 35 = .ok (.iaload, 1) := by decide +kernel
theorem dX6_undo_36 : decode cX6_undo 36 = .ok (.aload_n 0, 1) := by decide +kernel
theorem dX6_undo_37 : decode cX6_undo 37 = .ok (.getfield 48, 3) := by decide +kernel
theorem dX6_undo_40 : decode cX6_undo 40 = .ok (.getfield 197, 3) := by decide +kernel
theorem dX6_undo_43 : decode cX6_undo 43 = .ok (.iload_n 1, 1) := by decide +kernel
theorem dX6_undo_44 : decode cX6_undo 44 = .ok (.iaload, 1) := by decide +kernel
theorem dX6_undo_45 : decode cX6_undo 45 = .ok (.ineg, 1) := by decide +kernel
theorem dX6_undo_46 : decode cX6_undo 46 = .ok (.invokevirtual 168, 3) := by decide +kernel
theorem dX6_undo_49 : decode cX6_undo 49 = .ok (.aload_n 0, 1) := by decide +kernel
theorem dX6_undo_50 : decode cX6_undo 50 = .ok (.getfield 32, 3) := by decide +kernel
theorem dX6_undo_53 : decode cX6_undo 53 = .ok (.invokevirtual 179, 3) := by decide +kernel
theorem dX6_undo_56 : decode cX6_undo 56 = .ok (.aload_n 0, 1) := by decide +kernel
theorem dX6_undo_57 : decode cX6_undo 57 = .ok (.getfield 48, 3) := by decide +kernel
theorem dX6_undo_60 : decode cX6_undo 60 = .ok (.iload_n 1, 1) := by decide +kernel
theorem dX6_undo_61 : decode cX6_undo 61 = .ok (.putfield 64, 3) := by decide +kernel
theorem dX6_undo_64 : decode cX6_undo 64 = .ok (.iload_n 1, 1) := by decide +kernel
theorem dX6_undo_65 : decode cX6_undo 65 = .ok (.ireturn, 1) := by decide +kernel
theorem dX6_snap_0 : decode cX6_snap 0 = .ok (.aload_n 0, 1) := by decide +kernel
theorem dX6_snap_1 : decode cX6_snap 1 = .ok (.getfield 19, 3) := by decide +kernel
theorem dX6_snap_4 : decode cX6_snap 4 = .ok (.iload_n 1, 1) := by decide +kernel
theorem dX6_snap_5 : decode cX6_snap 5 = .ok (.invokevirtual 68, 3) := by decide +kernel
theorem dX6_snap_8 : decode cX6_snap 8 = .ok (.ifCond .ne 6, 3) := by decide +kernel
theorem dX6_snap_11 : decode cX6_snap 11 = .ok (.ldc 63, 2) := by decide +kernel
theorem dX6_snap_13 : decode cX6_snap 13 = .ok (.ireturn, 1) := by decide +kernel
theorem dX6_snap_14 : decode cX6_snap 14 = .ok (.aload_n 0, 1) := by decide +kernel
theorem dX6_snap_15 : decode cX6_snap 15 = .ok (.getfield 19, 3) := by decide +kernel
theorem dX6_snap_18 : decode cX6_snap 18 = .ok (.iload_n 1, 1) := by decide +kernel
theorem dX6_snap_19 : decode cX6_snap 19 = .ok (.invokevirtual 75, 3) := by decide +kernel
theorem dX6_snap_22 : decode cX6_snap 22 = .ok (.ifCond .ne 11, 3) := by decide +kernel
theorem dX6_snap_25 : decode cX6_snap 25 = .ok (.aload_n 0, 1) := by decide +kernel
theorem dX6_snap_26 : decode cX6_snap 26 = .ok (.iload_n 1, 1) := by decide +kernel
theorem dX6_snap_27 : decode cX6_snap 27 = .ok (.invokevirtual 200, 3) := by decide +kernel
theorem dX6_snap_30 : decode cX6_snap 30 = .ok (.ifCond .eq 6, 3) := by decide +kernel
theorem dX6_snap_33 : decode cX6_snap 33 = .ok (.ldc 78, 2) := by decide +kernel
theorem dX6_snap_35 : decode cX6_snap 35 = .ok (.ireturn, 1) := by decide +kernel
theorem dX6_snap_36 : decode cX6_snap 36 = .ok (.aload_n 0, 1) := by decide +kernel
theorem dX6_snap_37 : decode cX6_snap 37 = .ok (.getfield 19, 3) := by decide +kernel
theorem dX6_snap_40 : decode cX6_snap 40 = .ok (.getfield 125, 3) := by decide +kernel
theorem dX6_snap_43 : decode cX6_snap 43 = .ok (.iload_n 1, 1) := by decide +kernel
theorem dX6_snap_44 : decode cX6_snap 44 = .ok (.iaload, 1) := by decide +kernel
theorem dX6_snap_45 : decode cX6_snap 45 = .ok (.istore_n 2, 1) := by decide +kernel
theorem dX6_snap_46 : decode cX6_snap 46 = .ok (.iconst 0, 1) := by decide +kernel
theorem dX6_snap_47 : decode cX6_snap 47 = .ok (.istore_n 3, 1) := by decide +kernel
theorem dX6_snap_48 : decode cX6_snap 48 = .ok (.iload_n 3, 1) := by decide +kernel
theorem dX6_snap_49 : decode cX6_snap 49 = .ok (.aload_n 0, 1) := by decide +kernel
theorem dX6_snap_50 : decode cX6_snap 50 = .ok (.getfield 19, 3) := by decide +kernel
theorem dX6_snap_53 : decode cX6_snap 53 = .ok (.getfield 203, 3) := by decide +kernel
theorem dX6_snap_56 : decode cX6_snap 56 = .ok (.if_icmp .ge 41, 3) := by decide +kernel
theorem dX6_snap_59 : decode cX6_snap 59 = .ok (.iload_n 3, 1) := by decide +kernel
theorem dX6_snap_60 : decode cX6_snap 60 = .ok (.iload_n 1, 1) := by decide +kernel
theorem dX6_snap_61 : decode cX6_snap 61 = .ok (.if_icmp .eq 30, 3) := by decide +kernel
theorem dX6_snap_64 : decode cX6_snap 64 = .ok (.aload_n 0, 1) := by decide +kernel
theorem dX6_snap_65 : decode cX6_snap 65 = .ok (.getfield 19, 3) := by decide +kernel
theorem dX6_snap_68 : decode cX6_snap 68 = .ok (.iload_n 3, 1) := by decide +kernel
theorem dX6_snap_69 : decode cX6_snap 69 = .ok (.invokevirtual 75, 3) := by decide +kernel
theorem dX6_snap_72 : decode cX6_snap 72 = .ok (.ifCond .ne 19, 3) := by decide +kernel
theorem dX6_snap_75 : decode cX6_snap 75 = .ok (.aload_n 0, 1) := by decide +kernel
theorem dX6_snap_76 : decode cX6_snap 76 = .ok (.getfield 19, 3) := by decide +kernel
theorem dX6_snap_79 : decode cX6_snap 79 = .ok (.getfield 125, 3) := by decide +kernel
theorem dX6_snap_82 : decode cX6_snap 82 = .ok (.iload_n 3, 1) := by decide +kernel
theorem dX6_snap_83 : decode cX6_snap 83 = .ok (.aload_n 0, 1) := by decide +kernel
theorem dX6_snap_84 : decode cX6_snap 84 = .ok (.iload_n 1, 1) := by decide +kernel
theorem dX6_snap_85 : decode cX6_snap 85 = .ok (.iload_n 3, 1) := by decide +kernel
theorem dX6_snap_86 : decode cX6_snap 86 = .ok (.invokevirtual 206, 3) := by decide +kernel
theorem dX6_snap_89 : decode cX6_snap 89 = .ok (.l2i, 1) := by decide +kernel
theorem dX6_snap_90 : decode cX6_snap 90 = .ok (.iastore, 1) := by decide +kernel
theorem dX6_snap_91 : decode cX6_snap 91 = .ok (.iinc 3 1, 3) := by decide +kernel
theorem dX6_snap_94 : decode cX6_snap 94 = .ok (.goto (-46), 3) := by decide +kernel
theorem dX6_snap_97 : decode cX6_snap 97 = .ok (.aload_n 0, 1) := by decide +kernel
theorem dX6_snap_98 : decode cX6_snap 98 = .ok (.getfield 19, 3) := by decide +kernel
theorem dX6_snap_101 : decode cX6_snap 101 = .ok (.getfield 79, 3) := by decide +kernel
theorem dX6_snap_104 : decode cX6_snap 104 = .ok (.iload_n 1, 1) := by decide +kernel
theorem dX6_snap_105 : decode cX6_snap 105 = .ok (.iconst 4, 1) := by decide +kernel
theorem dX6_snap_106 : decode cX6_snap 106 = .ok (.iastore, 1) := by decide +kernel
theorem dX6_snap_107 : decode cX6_snap 107 = .ok (.aload_n 0, 1) := by decide +kernel
theorem dX6_snap_108 : decode cX6_snap 108 = .ok (.getfield 19, 3) := by decide +kernel
theorem dX6_snap_111 : decode cX6_snap 111 = .ok (.getfield 125, 3) := by decide +kernel
theorem dX6_snap_114 : decode cX6_snap 114 = .ok (.iload_n 1, 1) := by decide +kernel
theorem dX6_snap_115 : decode cX6_snap 115 = .ok (.iconst 0, 1) := by decide +kernel
theorem dX6_snap_116 : decode cX6_snap 116 = .ok (.iastore, 1) := by decide +kernel
theorem dX6_snap_117 : decode cX6_snap 117 = .ok (.iload_n 2, 1) := by decide +kernel
theorem dX6_snap_118 : decode cX6_snap 118 = .ok (.ireturn, 1) := by decide +kernel
theorem dX6_anew_0 : decode cX6_anew 0 = .ok (.aload_n 0, 1) := by decide +kernel
theorem dX6_anew_1 : decode cX6_anew 1 = .ok (.getfield 19, 3) := by decide +kernel
theorem dX6_anew_4 : decode cX6_anew 4 = .ok (.iload_n 1, 1) := by decide +kernel
theorem dX6_anew_5 : decode cX6_anew 5 = .ok (.invokevirtual 68, 3) := by decide +kernel
theorem dX6_anew_8 : decode cX6_anew 8 = .ok (.ifCond .eq 20, 3) := by decide +kernel
theorem dX6_anew_11 : decode cX6_anew 11 = .ok (.iload_n 2, 1) := by decide +kernel
theorem dX6_anew_12 : decode cX6_anew 12 = .ok (.invokestatic 72, 3) := by decide +kernel
theorem dX6_anew_15 : decode cX6_anew 15 = .ok (.ifCond .eq 13, 3) := by decide +kernel
theorem dX6_anew_18 : decode cX6_anew 18 = .ok (.iload_n 3, 1) := by decide +kernel
theorem dX6_anew_19 : decode cX6_anew 19 = .ok (.iconst 0, 1) := by decide +kernel
theorem dX6_anew_20 : decode cX6_anew 20 = .ok (.ldc 124, 2) := by decide +kernel
theorem dX6_anew_22 : decode cX6_anew 22 = .ok (.invokestatic 85, 3) := by decide +kernel
theorem dX6_anew_25 : decode cX6_anew 25 = .ok (.ifCond .ne 6, 3) := by decide +kernel
theorem dX6_anew_28 : decode cX6_anew 28 = .ok (.ldc 63, 2) := by decide +kernel
theorem dX6_anew_30 : decode cX6_anew 30 = .ok (.ireturn, 1) := by decide +kernel
theorem dX6_anew_31 : decode cX6_anew 31 = .ok (.aload_n 0, 1) := by decide +kernel
theorem dX6_anew_32 : decode cX6_anew 32 = .ok (.getfield 19, 3) := by decide +kernel
theorem dX6_anew_35 : decode cX6_anew 35 = .ok (.iload_n 1, 1) := by decide +kernel
theorem dX6_anew_36 : decode cX6_anew 36 = .ok (.invokevirtual 75, 3) := by decide +kernel
theorem dX6_anew_39 : decode cX6_anew 39 = .ok (.ifCond .ne 6, 3) := by decide +kernel
theorem dX6_anew_42 : decode cX6_anew 42 = .ok (.ldc 78, 2) := by decide +kernel
theorem dX6_anew_44 : decode cX6_anew 44 = .ok (.ireturn, 1) := by decide +kernel
theorem dX6_anew_45 : decode cX6_anew 45 = .ok (.aload_n 0, 1) := by decide +kernel
theorem dX6_anew_46 : decode cX6_anew 46 = .ok (.getfield 19, 3) := by decide +kernel
theorem dX6_anew_49 : decode cX6_anew 49 = .ok (.getfield 79, 3) := by decide +kernel
theorem dX6_anew_52 : decode cX6_anew 52 = .ok (.iload_n 1, 1) := by decide +kernel
theorem dX6_anew_53 : decode cX6_anew 53 = .ok (.iload_n 2, 1) := by decide +kernel
theorem dX6_anew_54 : decode cX6_anew 54 = .ok (.iastore, 1) := by decide +kernel
theorem dX6_anew_55 : decode cX6_anew 55 = .ok (.aload_n 0, 1) := by decide +kernel
theorem dX6_anew_56 : decode cX6_anew 56 = .ok (.getfield 19, 3) := by decide +kernel
theorem dX6_anew_59 : decode cX6_anew 59 = .ok (.getfield 125, 3) := by decide +kernel
theorem dX6_anew_62 : decode cX6_anew 62 = .ok (.iload_n 1, 1) := by decide +kernel
theorem dX6_anew_63 : decode cX6_anew 63 = .ok (.iload_n 3, 1) := by decide +kernel
theorem dX6_anew_64 : decode cX6_anew 64 = .ok (.iastore, 1) := by decide +kernel
theorem dX6_anew_65 : decode cX6_anew 65 = .ok (.iconst 0, 1) := by decide +kernel
theorem dX6_anew_66 : decode cX6_anew 66 = .ok (.ireturn, 1) := by decide +kernel
theorem dX6_loaded_0 : decode cX6_loaded 0 = .ok (.iload_n 1, 1) := by decide +kernel
theorem dX6_loaded_1 : decode cX6_loaded 1 = .ok (.iconst 0, 1) := by decide +kernel
theorem dX6_loaded_2 : decode cX6_loaded 2 = .ok (.ldc 124, 2) := by decide +kernel
theorem dX6_loaded_4 : decode cX6_loaded 4 = .ok (.invokestatic 85, 3) := by decide +kernel
theorem dX6_loaded_7 : decode cX6_loaded 7 = .ok (.ifCond .eq 25, 3) := by decide +kernel
theorem dX6_loaded_10 : decode cX6_loaded 10 = .ok (.aload_n 0, 1) := by decide +kernel
theorem dX6_loaded_11 : decode cX6_loaded 11 = .ok (.getfield 19, 3) := by decide +kernel
theorem dX6_loaded_14 : decode cX6_loaded 14 = .ok (.iload_n 2, 1) := by decide +kernel
theorem dX6_loaded_15 : decode cX6_loaded 15 = .ok (.invokevirtual 68, 3) := by decide +kernel
theorem dX6_loaded_18 : decode cX6_loaded 18 = .ok (.ifCond .eq 14, 3) := by decide +kernel
theorem dX6_loaded_21 : decode cX6_loaded 21 = .ok (.aload_n 0, 1) := by decide +kernel
theorem dX6_loaded_22 : decode cX6_loaded 22 = .ok (.getfield 19, 3) := by decide +kernel
theorem dX6_loaded_25 : decode cX6_loaded 25 = .ok (.iload_n 3, 1) := by decide +kernel
theorem dX6_loaded_26 : decode cX6_loaded 26 = .ok (.invokevirtual 68, 3) := by decide +kernel
theorem dX6_loaded_29 : decode cX6_loaded 29 = .ok (.ifCond .ne 6, 3) := by decide +kernel
theorem dX6_loaded_32 : decode cX6_loaded 32 = .ok (.ldc 63, 2) := by decide +kernel
theorem dX6_loaded_34 : decode cX6_loaded 34 = .ok (.ireturn, 1) := by decide +kernel
theorem dX6_loaded_35 : decode cX6_loaded 35 = .ok (.aload_n 0, 1) := by decide +kernel
theorem dX6_loaded_36 : decode cX6_loaded 36 = .ok (.iload_n 1, 1) := by decide +kernel
theorem dX6_loaded_37 : decode cX6_loaded 37 = .ok (.iload_n 2, 1) := by decide +kernel
theorem dX6_loaded_38 : decode cX6_loaded 38 = .ok (.iload_n 3, 1) := by decide +kernel
theorem dX6_loaded_39 : decode cX6_loaded 39 = .ok (.invokevirtual 210, 3) := by decide +kernel
theorem dX6_loaded_42 : decode cX6_loaded 42 = .ok (.ireturn, 1) := by decide +kernel
theorem dX6_worstAt_0 : decode cX6_worstAt 0 = .ok (.iload_n 1, 1) := by decide +kernel
theorem dX6_worstAt_1 : decode cX6_worstAt 1 = .ok (.iconst 0, 1) := by decide +kernel
theorem dX6_worstAt_2 : decode cX6_worstAt 2 = .ok (.ldc 124, 2) := by decide +kernel
theorem dX6_worstAt_4 : decode cX6_worstAt 4 = .ok (.invokestatic 85, 3) := by decide +kernel
theorem dX6_worstAt_7 : decode cX6_worstAt 7 = .ok (.ifCond .ne 6, 3) := by decide +kernel
theorem dX6_worstAt_10 : decode cX6_worstAt 10 = .ok (.ldc 63, 2) := by decide +kernel
theorem dX6_worstAt_12 : decode cX6_worstAt 12 = .ok (.ireturn, 1) := by decide +kernel
theorem dX6_worstAt_13 : decode cX6_worstAt 13 = .ok (.iconst 0, 1) := by decide +kernel
theorem dX6_worstAt_14 : decode cX6_worstAt 14 = .ok (.istore_n 2, 1) := by decide +kernel
theorem dX6_worstAt_15 : decode cX6_worstAt 15 = .ok (.iconst 0, 1) := by decide +kernel
theorem dX6_worstAt_16 : decode cX6_worstAt 16 = .ok (.istore_n 3, 1) := by decide +kernel
theorem dX6_worstAt_17 : decode cX6_worstAt 17 = .ok (.iconst 0, 1) := by decide +kernel
theorem dX6_worstAt_18 : decode cX6_worstAt 18 = .ok (.istore 4, 2) := by decide +kernel
theorem dX6_worstAt_20 : decode cX6_worstAt 20 = .ok (.iload 4, 2) := by decide +kernel
theorem dX6_worstAt_22 : decode cX6_worstAt 22 = .ok (.aload_n 0, 1) := by decide +kernel
theorem dX6_worstAt_23 : decode cX6_worstAt 23 = .ok (.getfield 19, 3) := by decide +kernel
theorem dX6_worstAt_26 : decode cX6_worstAt 26 = .ok (.getfield 203, 3) := by decide +kernel
theorem dX6_worstAt_29 : decode cX6_worstAt 29 = .ok (.if_icmp .ge 30, 3) := by decide +kernel
theorem dX6_worstAt_32 : decode cX6_worstAt 32 = .ok (.aload_n 0, 1) := by decide +kernel
theorem dX6_worstAt_33 : decode cX6_worstAt 33 = .ok (.iload_n 1, 1) := by decide +kernel
theorem dX6_worstAt_34 : decode cX6_worstAt 34 = .ok (.iload 4, 2) := by decide +kernel
theorem dX6_worstAt_36 : decode cX6_worstAt 36 = .ok (.invokevirtual 214, 3) := by decide +kernel
theorem dX6_worstAt_39 : decode cX6_worstAt 39 = .ok (.istore 5, 2) := by decide +kernel
theorem dX6_worstAt_41 : decode cX6_worstAt 41 = .ok (.iload 5, 2) := by decide +kernel
theorem dX6_worstAt_43 : decode cX6_worstAt 43 = .ok (.iload_n 3, 1) := by decide +kernel
theorem dX6_worstAt_44 : decode cX6_worstAt 44 = .ok (.if_icmp .le 9, 3) := by decide +kernel
theorem dX6_worstAt_47 : decode cX6_worstAt 47 = .ok (.iload 5, 2) := by decide +kernel
theorem dX6_worstAt_49 : decode cX6_worstAt 49 = .ok (.istore_n 3, 1) := by decide +kernel
theorem dX6_worstAt_50 : decode cX6_worstAt 50 = .ok (.iload 4, 2) := by decide +kernel
theorem dX6_worstAt_52 : decode cX6_worstAt 52 = .ok (.istore_n 2, 1) := by decide +kernel
theorem dX6_worstAt_53 : decode cX6_worstAt 53 = .ok (.iinc 4 1, 3) := by decide +kernel
theorem dX6_worstAt_56 : decode cX6_worstAt 56 = .ok (.goto (-36), 3) := by decide +kernel
theorem dX6_worstAt_59 : decode cX6_worstAt 59 = .ok (.iload_n 2, 1) := by decide +kernel
theorem dX6_worstAt_60 : decode cX6_worstAt 60 = .ok (.ireturn, 1) := by decide +kernel
theorem dX6_lace_0 : decode cX6_lace 0 = .ok (.iload_n 1, 1) := by decide +kernel
theorem dX6_lace_1 : decode cX6_lace 1 = .ok (.iconst 1, 1) := by decide +kernel
theorem dX6_lace_2 : decode cX6_lace 2 = .ok (.sipush 200, 3) := by decide +kernel
theorem dX6_lace_5 : decode cX6_lace 5 = .ok (.invokestatic 85, 3) := by decide +kernel
theorem dX6_lace_8 : decode cX6_lace 8 = .ok (.ifCond .eq 36, 3) := by decide +kernel
theorem dX6_lace_11 : decode cX6_lace 11 = .ok (.iload_n 2, 1) := by decide +kernel
theorem dX6_lace_12 : decode cX6_lace 12 = .ok (.iconst 0, 1) := by decide +kernel
theorem dX6_lace_13 : decode cX6_lace 13 = .ok (.sipush 200, 3) := by decide +kernel
theorem dX6_lace_16 : decode cX6_lace 16 = .ok (.invokestatic 85, 3) := by decide +kernel
theorem dX6_lace_19 : decode cX6_lace 19 = .ok (.ifCond .eq 25, 3) := by decide +kernel
theorem dX6_lace_22 : decode cX6_lace 22 = .ok (.iload_n 3, 1) := by decide +kernel
theorem dX6_lace_23 : decode cX6_lace 23 = .ok (.iconst 1, 1) := by decide +kernel
theorem dX6_lace_24 : decode cX6_lace 24 = .ok (.sipush 1000, 3) := by decide +kernel
theorem dX6_lace_27 : decode cX6_lace 27 = .ok (.invokestatic 85, 3) := by decide +kernel
theorem dX6_lace_30 : decode cX6_lace 30 = .ok (.ifCond .eq 14, 3) := by decide +kernel
theorem dX6_lace_33 : decode cX6_lace 33 = .ok (.iload 4, 2) := by decide +kernel
theorem dX6_lace_35 : decode cX6_lace 35 = .ok (.iconst 0, 1) := by decide +kernel
theorem dX6_lace_36 : decode cX6_lace 36 = .ok (.bipush 7, 2) := by decide +kernel
theorem dX6_lace_38 : decode cX6_lace 38 = .ok (.invokestatic 85, 3) := by decide +kernel
theorem dX6_lace_41 : decode cX6_lace 41 = .ok (.ifCond .ne 6, 3) := by decide +kernel
theorem dX6_lace_44 : decode cX6_lace 44 = .ok (.ldc 63, 2) := by decide +kernel
theorem dX6_lace_46 : decode cX6_lace 46 = .ok (.ireturn, 1) := by decide +kernel
theorem dX6_lace_47 : decode cX6_lace 47 = .ok (.aload_n 0, 1) := by decide +kernel
theorem dX6_lace_48 : decode cX6_lace 48 = .ok (.getfield 55, 3) := by decide +kernel
theorem dX6_lace_51 : decode cX6_lace 51 = .ok (.iload_n 1, 1) := by decide +kernel
theorem dX6_lace_52 : decode cX6_lace 52 = .ok (.putfield 217, 3) := by decide +kernel
theorem dX6_lace_55 : decode cX6_lace 55 = .ok (.aload_n 0, 1) := by decide +kernel
theorem dX6_lace_56 : decode cX6_lace 56 = .ok (.getfield 55, 3) := by decide +kernel
theorem dX6_lace_59 : decode cX6_lace 59 = .ok (.iload_n 2, 1) := by decide +kernel
theorem dX6_lace_60 : decode cX6_lace 60 = .ok (.putfield 220, 3) := by decide +kernel
theorem dX6_lace_63 : decode cX6_lace 63 = .ok (.aload_n 0, 1) := by decide +kernel
theorem dX6_lace_64 : decode cX6_lace 64 = .ok (.getfield 55, 3) := by decide +kernel
theorem dX6_lace_67 : decode cX6_lace 67 = .ok (.iload_n 3, 1) := by decide +kernel
theorem dX6_lace_68 : decode cX6_lace 68 = .ok (.putfield 223, 3) := by decide +kernel
theorem dX6_lace_71 : decode cX6_lace 71 = .ok (.aload_n 0, 1) := by decide +kernel
theorem dX6_lace_72 : decode cX6_lace 72 = .ok (.getfield 55, 3) := by decide +kernel
theorem dX6_lace_75 : decode cX6_lace 75 = .ok (.iload 4, 2) := by decide +kernel
theorem dX6_lace_77 : decode cX6_lace 77 = .ok (.putfield 226, 3) := by decide +kernel
theorem dX6_lace_80 : decode cX6_lace 80 = .ok (.iconst 0, 1) := by decide +kernel
theorem dX6_lace_81 : decode cX6_lace 81 = .ok (.ireturn, 1) := by decide +kernel
theorem dX6_length_0 : decode cX6_length 0 = .ok (.aload_n 0, 1) := by decide +kernel
theorem dX6_length_1 : decode cX6_length 1 = .ok (.getfield 19, 3) := by decide +kernel
theorem dX6_length_4 : decode cX6_length 4 = .ok (.iload_n 1, 1) := by decide +kernel
theorem dX6_length_5 : decode cX6_length 5 = .ok (.invokevirtual 68, 3) := by decide +kernel
theorem dX6_length_8 : decode cX6_length 8 = .ok (.ifCond .ne 6, 3) := by decide +kernel
theorem dX6_length_11 : decode cX6_length 11 = .ok (.ldc 63, 2) := by decide +kernel
theorem dX6_length_13 : decode cX6_length 13 = .ok (.ireturn, 1) := by decide +kernel
theorem dX6_length_14 : decode cX6_length 14 = .ok (.aload_n 0, 1) := by decide +kernel
theorem dX6_length_15 : decode cX6_length 15 = .ok (.getfield 55, 3) := by decide +kernel
theorem dX6_length_18 : decode cX6_length 18 = .ok (.aload_n 0, 1) := by decide +kernel
theorem dX6_length_19 : decode cX6_length 19 = .ok (.getfield 55, 3) := by decide +kernel
theorem dX6_length_22 : decode cX6_length 22 = .ok (.aload_n 0, 1) := by decide +kernel
theorem dX6_length_23 : decode cX6_length 23 = .ok (.getfield 19, 3) := by decide +kernel
theorem dX6_length_26 : decode cX6_length 26 = .ok (.iload_n 1, 1) := by decide +kernel
theorem dX6_length_27 : decode cX6_length 27 = .ok (.invokevirtual 229, 3) := by decide +kernel
theorem dX6_length_30 : decode cX6_length 30 = .ok (.invokevirtual 233, 3) := by decide +kernel
theorem dX6_length_33 : decode cX6_length 33 = .ok (.ireturn, 1) := by decide +kernel
theorem dX6_hub_0 : decode cX6_hub 0 = .ok (.aload_n 0, 1) := by decide +kernel
theorem dX6_hub_1 : decode cX6_hub 1 = .ok (.getfield 19, 3) := by decide +kernel
theorem dX6_hub_4 : decode cX6_hub 4 = .ok (.iload_n 1, 1) := by decide +kernel
theorem dX6_hub_5 : decode cX6_hub 5 = .ok (.invokevirtual 68, 3) := by decide +kernel
theorem dX6_hub_8 : decode cX6_hub 8 = .ok (.ifCond .ne 6, 3) := by decide +kernel
theorem dX6_hub_11 : decode cX6_hub 11 = .ok (.ldc 63, 2) := by decide +kernel
theorem dX6_hub_13 : decode cX6_hub 13 = .ok (.ireturn, 1) := by decide +kernel
theorem dX6_hub_14 : decode cX6_hub 14 = .ok (.aload_n 0, 1) := by decide +kernel
theorem dX6_hub_15 : decode cX6_hub 15 = .ok (.getfield 55, 3) := by decide +kernel
theorem dX6_hub_18 : decode cX6_hub 18 = .ok (.aload_n 0, 1) := by decide +kernel
theorem dX6_hub_19 : decode cX6_hub 19 = .ok (.getfield 19, 3) := by decide +kernel
theorem dX6_hub_22 : decode cX6_hub 22 = .ok (.iload_n 1, 1) := by decide +kernel
theorem dX6_hub_23 : decode cX6_hub 23 = .ok (.invokevirtual 236, 3) := by decide +kernel
theorem dX6_hub_26 : decode cX6_hub 26 = .ok (.aload_n 0, 1) := by decide +kernel
theorem dX6_hub_27 : decode cX6_hub 27 = .ok (.getfield 55, 3) := by decide +kernel
theorem dX6_hub_30 : decode cX6_hub 30 = .ok (.aload_n 0, 1) := by decide +kernel
theorem dX6_hub_31 : decode cX6_hub 31 = .ok (.getfield 19, 3) := by decide +kernel
theorem dX6_hub_34 : decode cX6_hub 34 = .ok (.iload_n 1, 1) := by decide +kernel
theorem dX6_hub_35 : decode cX6_hub 35 = .ok (.invokevirtual 229, 3) := by decide +kernel
theorem dX6_hub_38 : decode cX6_hub 38 = .ok (.iadd, 1) := by decide +kernel
theorem dX6_hub_39 : decode cX6_hub 39 = .ok (.bipush 64, 2) := by decide +kernel
theorem dX6_hub_41 : decode cX6_hub 41 = .ok (.invokestatic 239, 3) := by decide +kernel
theorem dX6_hub_44 : decode cX6_hub 44 = .ok (.ireturn, 1) := by decide +kernel
theorem dX6_crosses_0 : decode cX6_crosses 0 = .ok (.aload_n 0, 1) := by decide +kernel
theorem dX6_crosses_1 : decode cX6_crosses 1 = .ok (.getfield 19, 3) := by decide +kernel
theorem dX6_crosses_4 : decode cX6_crosses 4 = .ok (.iload_n 1, 1) := by decide +kernel
theorem dX6_crosses_5 : decode cX6_crosses 5 = .ok (.invokevirtual 68, 3) := by decide +kernel
theorem dX6_crosses_8 : decode cX6_crosses 8 = .ok (.ifCond .eq 19, 3) := by decide +kernel
theorem dX6_crosses_11 : decode cX6_crosses 11 = .ok (.aload_n 0, 1) := by decide +kernel
theorem dX6_crosses_12 : decode cX6_crosses 12 = .ok (.getfield 19, 3) := by decide +kernel
theorem dX6_crosses_15 : decode cX6_crosses 15 = .ok (.iload_n 2, 1) := by decide +kernel
theorem dX6_crosses_16 : decode cX6_crosses 16 = .ok (.invokevirtual 68, 3) := by decide +kernel
theorem dX6_crosses_19 : decode cX6_crosses 19 = .ok (.ifCond .eq 8, 3) := by decide +kernel
theorem dX6_crosses_22 : decode cX6_crosses 22 = .ok (.iload_n 1, 1) := by decide +kernel
theorem dX6_crosses_23 : decode cX6_crosses 23 = .ok (.iload_n 2, 1) := by decide +kernel
theorem dX6_crosses_24 : decode cX6_crosses 24 = .ok (.if_icmp .ne 6, 3) := by decide +kernel
theorem dX6_crosses_27 : decode cX6_crosses 27 = .ok (.ldc 63, 2) := by decide +kernel
theorem dX6_crosses_29 : decode cX6_crosses 29 = .ok (.ireturn, 1) := by decide +kernel
theorem dX6_crosses_30 : decode cX6_crosses 30 = .ok (.aload_n 0, 1) := by decide +kernel
theorem dX6_crosses_31 : decode cX6_crosses 31 = .ok (.getfield 55, 3) := by decide +kernel
theorem dX6_crosses_34 : decode cX6_crosses 34 = .ok (.aload_n 0, 1) := by decide +kernel
theorem dX6_crosses_35 : decode cX6_crosses 35 = .ok (.getfield 19, 3) := by decide +kernel
theorem dX6_crosses_38 : decode cX6_crosses 38 = .ok (.iload_n 1, 1) := by decide +kernel
theorem dX6_crosses_39 : decode cX6_crosses 39 = .ok (.iload_n 2, 1) := by decide +kernel
theorem dX6_crosses_40 : decode cX6_crosses 40 = .ok (.invokevirtual 242, 3) := by decide +kernel
theorem dX6_crosses_43 : decode cX6_crosses 43 = .ok (.invokestatic 138, 3) := by decide +kernel
theorem dX6_crosses_46 : decode cX6_crosses 46 = .ok (.ireturn, 1) := by decide +kernel
theorem dX6_crossings_0 : decode cX6_crossings 0 = .ok (.aload_n 0, 1) := by decide +kernel
theorem dX6_crossings_1 : decode cX6_crossings 1 = .ok (.getfield 19, 3) := by decide +kernel
theorem dX6_crossings_4 : decode cX6_crossings 4 = .ok (.iload_n 1, 1) := by decide +kernel
theorem dX6_crossings_5 : decode cX6_crossings 5 = .ok (.invokevirtual 68, 3) := by decide +kernel
theorem dX6_crossings_8 : decode cX6_crossings 8 = .ok (.ifCond .ne 6, 3) := by decide +kernel
theorem dX6_crossings_11 : decode cX6_crossings 11 = .ok (.ldc 63, 2) := by decide +kernel
theorem dX6_crossings_13 : decode cX6_crossings 13 = .ok (.ireturn, 1) := by decide +kernel
theorem dX6_crossings_14 : decode cX6_crossings 14 = .ok (.iconst 0, 1) := by decide +kernel
theorem dX6_crossings_15 : decode cX6_crossings 15 = .ok (.istore_n 2, 1) := by decide +kernel
theorem dX6_crossings_16 : decode cX6_crossings 16 = .ok (.iconst 0, 1) := by decide +kernel
theorem dX6_crossings_17 : decode cX6_crossings 17 = .ok (.istore_n 3, 1) := by decide +kernel
theorem dX6_crossings_18 : decode cX6_crossings 18 = .ok (.iload_n 3, 1) := by decide +kernel
theorem dX6_crossings_19 : decode cX6_crossings 19 = .ok (.aload_n 0, 1) := by decide +kernel
theorem dX6_crossings_20 : decode cX6_crossings 20 = .ok (.getfield 19, 3) := by decide +kernel
theorem dX6_crossings_23 : decode cX6_crossings 23 = .ok (.getfield 203, 3) := by decide +kernel
theorem dX6_crossings_26 : decode cX6_crossings 26 = .ok (.if_icmp .ge 33, 3) := by decide +kernel
theorem dX6_crossings_29 : decode cX6_crossings 29 = .ok (.iload_n 3, 1) := by decide +kernel
theorem dX6_crossings_30 : decode cX6_crossings 30 = .ok (.iload_n 1, 1) := by decide +kernel
theorem dX6_crossings_31 : decode cX6_crossings 31 = .ok (.if_icmp .eq 22, 3) := by decide +kernel
theorem dX6_crossings_34 : decode cX6_crossings 34 = .ok (.aload_n 0, 1) := by decide +kernel
theorem dX6_crossings_35 : decode cX6_crossings 35 = .ok (.getfield 55, 3) := by decide +kernel
theorem dX6_crossings_38 : decode cX6_crossings 38 = .ok (.aload_n 0, 1) := by decide +kernel
theorem dX6_crossings_39 : decode cX6_crossings 39 = .ok (.getfield 19, 3) := by decide +kernel
theorem dX6_crossings_42 : decode cX6_crossings 42 = .ok (.iload_n 1, 1) := by decide +kernel
theorem dX6_crossings_43 : decode cX6_crossings 43 = .ok (.iload_n 3, 1) := by decide +kernel
theorem dX6_crossings_44 : decode cX6_crossings 44 = .ok (.invokevirtual 242, 3) := by decide +kernel
theorem dX6_crossings_47 : decode cX6_crossings 47 = .ok (.ifCond .eq 6, 3) := by decide +kernel
theorem dX6_crossings_50 : decode cX6_crossings 50 = .ok (.iinc 2 1, 3) := by decide +kernel
theorem dX6_crossings_53 : decode cX6_crossings 53 = .ok (.iinc 3 1, 3) := by decide +kernel
theorem dX6_crossings_56 : decode cX6_crossings 56 = .ok (.goto (-38), 3) := by decide +kernel
theorem dX6_crossings_59 : decode cX6_crossings 59 = .ok (.iload_n 2, 1) := by decide +kernel
theorem dX6_crossings_60 : decode cX6_crossings 60 = .ok (.ireturn, 1) := by decide +kernel
theorem dX6_count_0 : decode cX6_count 0 = .ok (.iload_n 1, 1) := by decide +kernel
theorem dX6_count_1 : decode cX6_count 1 = .ok (.tableswitch 89 0 5 #[39, 47, 55, 63, 71, 80], 39) := by decide +kernel
theorem dX6_count_40 : decode cX6_count 40 = .ok (.aload_n 0, 1) := by decide +kernel
theorem dX6_count_41 : decode cX6_count 41 = .ok (.getfield 19, 3) := by decide +kernel
theorem dX6_count_44 : decode cX6_count 44 = .ok (.getfield 203, 3) := by decide +kernel
theorem dX6_count_47 : decode cX6_count 47 = .ok (.ireturn, 1) := by decide +kernel
theorem dX6_count_48 : decode cX6_count 48 = .ok (.aload_n 0, 1) := by decide +kernel
theorem dX6_count_49 : decode cX6_count 49 = .ok (.getfield 19, 3) := by decide +kernel
theorem dX6_count_52 : decode cX6_count 52 = .ok (.invokevirtual 246, 3) := by decide +kernel
theorem dX6_count_55 : decode cX6_count 55 = .ok (.ireturn, 1) := by decide +kernel
theorem dX6_count_56 : decode cX6_count 56 = .ok (.aload_n 0, 1) := by decide +kernel
theorem dX6_count_57 : decode cX6_count 57 = .ok (.getfield 48, 3) := by decide +kernel
theorem dX6_count_60 : decode cX6_count 60 = .ok (.getfield 64, 3) := by decide +kernel
theorem dX6_count_63 : decode cX6_count 63 = .ok (.ireturn, 1) := by decide +kernel
theorem dX6_count_64 : decode cX6_count 64 = .ok (.aload_n 0, 1) := by decide +kernel
theorem dX6_count_65 : decode cX6_count 65 = .ok (.getfield 48, 3) := by decide +kernel
theorem dX6_count_68 : decode cX6_count 68 = .ok (.invokevirtual 249, 3) := by decide +kernel
theorem dX6_count_71 : decode cX6_count 71 = .ok (.ireturn, 1) := by decide +kernel
theorem dX6_count_72 : decode cX6_count 72 = .ok (.aload_n 0, 1) := by decide +kernel
theorem dX6_count_73 : decode cX6_count 73 = .ok (.getfield 19, 3) := by decide +kernel
theorem dX6_count_76 : decode cX6_count 76 = .ok (.iconst 0, 1) := by decide +kernel
theorem dX6_count_77 : decode cX6_count 77 = .ok (.invokevirtual 252, 3) := by decide +kernel
theorem dX6_count_80 : decode cX6_count 80 = .ok (.ireturn, 1) := by decide +kernel
theorem dX6_count_81 : decode cX6_count 81 = .ok (.aload_n 0, 1) := by decide +kernel
theorem dX6_count_82 : decode cX6_count 82 = .ok (.getfield 19, 3) := by decide +kernel
theorem dX6_count_85 : decode cX6_count 85 = .ok (.iconst 1, 1) := by decide +kernel
theorem dX6_count_86 : decode cX6_count 86 = .ok (.invokevirtual 252, 3) := by decide +kernel
theorem dX6_count_89 : decode cX6_count 89 = .ok (.ireturn, 1) := by decide +kernel
theorem dX6_count_90 : decode cX6_count 90 = .ok (.ldc 63, 2) := by decide +kernel
theorem dX6_count_92 : decode cX6_count 92 = .ok (.ireturn, 1) := by decide +kernel
theorem dX6_lies_0 : decode cX6_lies 0 = .ok (.iload_n 0, 1) := by decide +kernel
theorem dX6_lies_1 : decode cX6_lies 1 = .ok (.iload_n 1, 1) := by decide +kernel
theorem dX6_lies_2 : decode cX6_lies 2 = .ok (.if_icmp .lt 12, 3) := by decide +kernel
theorem dX6_lies_5 : decode cX6_lies 5 = .ok (.iload_n 0, 1) := by decide +kernel
theorem dX6_lies_6 : decode cX6_lies 6 = .ok (.iload_n 2, 1) := by decide +kernel
theorem dX6_lies_7 : decode cX6_lies 7 = .ok (.if_icmp .gt 7, 3) := by decide +kernel
theorem dX6_lies_10 : decode cX6_lies 10 = .ok (.iconst 1, 1) := by decide +kernel
theorem dX6_lies_11 : decode cX6_lies 11 = .ok (.goto 4, 3) := by decide +kernel
theorem dX6_lies_14 : decode cX6_lies 14 = .ok (.iconst 0, 1) := by decide +kernel
theorem dX6_lies_15 : decode cX6_lies 15 = .ok (.ireturn, 1) := by decide +kernel
theorem dX6_isTable_0 : decode cX6_isTable 0 = .ok (.iload_n 0, 1) := by decide +kernel
theorem dX6_isTable_1 : decode cX6_isTable 1 = .ok (.iconst 0, 1) := by decide +kernel
theorem dX6_isTable_2 : decode cX6_isTable 2 = .ok (.iconst 5, 1) := by decide +kernel
theorem dX6_isTable_3 : decode cX6_isTable 3 = .ok (.invokestatic 85, 3) := by decide +kernel
theorem dX6_isTable_6 : decode cX6_isTable 6 = .ok (.ireturn, 1) := by decide +kernel
theorem dX6_isRow_0 : decode cX6_isRow 0 = .ok (.iload_n 0, 1) := by decide +kernel
theorem dX6_isRow_1 : decode cX6_isRow 1 = .ok (.iconst 0, 1) := by decide +kernel
theorem dX6_isRow_2 : decode cX6_isRow 2 = .ok (.iconst 1, 1) := by decide +kernel
theorem dX6_isRow_3 : decode cX6_isRow 3 = .ok (.invokestatic 85, 3) := by decide +kernel
theorem dX6_isRow_6 : decode cX6_isRow 6 = .ok (.ireturn, 1) := by decide +kernel
theorem dX6_canBePut_0 : decode cX6_canBePut 0 = .ok (.iload_n 0, 1) := by decide +kernel
theorem dX6_canBePut_1 : decode cX6_canBePut 1 = .ok (.iconst 0, 1) := by decide +kernel
theorem dX6_canBePut_2 : decode cX6_canBePut 2 = .ok (.iconst 5, 1) := by decide +kernel
theorem dX6_canBePut_3 : decode cX6_canBePut 3 = .ok (.invokestatic 85, 3) := by decide +kernel
theorem dX6_canBePut_6 : decode cX6_canBePut 6 = .ok (.ifCond .eq 12, 3) := by decide +kernel
theorem dX6_canBePut_9 : decode cX6_canBePut 9 = .ok (.iload_n 0, 1) := by decide +kernel
theorem dX6_canBePut_10 : decode cX6_canBePut 10 = .ok (.iconst 4, 1) := by decide +kernel
theorem dX6_canBePut_11 : decode cX6_canBePut 11 = .ok (.if_icmp .eq 7, 3) := by decide +kernel
theorem dX6_canBePut_14 : decode cX6_canBePut 14 = .ok (.iconst 1, 1) := by decide +kernel
theorem dX6_canBePut_15 : decode cX6_canBePut 15 = .ok (.goto 4, 3) := by decide +kernel
theorem dX6_canBePut_18 : decode cX6_canBePut 18 = .ok (.iconst 0, 1) := by decide +kernel
theorem dX6_canBePut_19 : decode cX6_canBePut 19 = .ok (.ireturn, 1) := by decide +kernel
theorem dX6_asNumber_0 : decode cX6_asNumber 0 = .ok (.iload_n 0, 1) := by decide +kernel
theorem dX6_asNumber_1 : decode cX6_asNumber 1 = .ok (.ifCond .eq 7, 3) := by decide +kernel
theorem dX6_asNumber_4 : decode cX6_asNumber 4 = .ok (.iconst 1, 1) := by decide +kernel
theorem dX6_asNumber_5 : decode cX6_asNumber 5 = .ok (.goto 4, 3) := by decide +kernel
theorem dX6_asNumber_8 : decode cX6_asNumber 8 = .ok (.iconst 0, 1) := by decide +kernel
theorem dX6_asNumber_9 : decode cX6_asNumber 9 = .ok (.ireturn, 1) := by decide +kernel
theorem dX6_pullAfterBreak_0 : decode cX6_pullAfterBreak 0 = .ok (.aload_n 0, 1) := by decide +kernel
theorem dX6_pullAfterBreak_1 : decode cX6_pullAfterBreak 1 = .ok (.getfield 19, 3) := by decide +kernel
theorem dX6_pullAfterBreak_4 : decode cX6_pullAfterBreak 4 = .ok (.getfield 125, 3) := by decide +kernel
theorem dX6_pullAfterBreak_7 : decode cX6_pullAfterBreak 7 = .ok (.iload_n 1, 1) := by decide +kernel
theorem dX6_pullAfterBreak_8 : decode cX6_pullAfterBreak 8 = .ok (.iaload, 1) := by decide +kernel
theorem dX6_pullAfterBreak_9 : decode cX6_pullAfterBreak 9 = .ok (.i2l, 1) := by decide +kernel
theorem dX6_pullAfterBreak_10 : decode cX6_pullAfterBreak 10 = .ok (.aload_n 0, 1) := by decide +kernel
theorem dX6_pullAfterBreak_11 : decode cX6_pullAfterBreak 11 = .ok (.getfield 10, 3) := by decide +kernel
theorem dX6_pullAfterBreak_14 : decode cX6_pullAfterBreak 14 = .ok (.getfield 106, 3) := by decide +kernel
theorem dX6_pullAfterBreak_17 : decode cX6_pullAfterBreak 17 = .ok (.iconst 4, 1) := by decide +kernel
theorem dX6_pullAfterBreak_18 : decode cX6_pullAfterBreak 18 = .ok (.aaload, 1) := by decide +kernel
theorem dX6_pullAfterBreak_19 : decode cX6_pullAfterBreak 19 = .ok (.aload_n 0, 1) := by decide +kernel
theorem dX6_pullAfterBreak_20 : decode cX6_pullAfterBreak 20 = .ok (.getfield 19, 3) := by decide +kernel
theorem dX6_pullAfterBreak_23 : decode cX6_pullAfterBreak 23 = .ok (.iload_n 1, 1) := by decide +kernel
theorem dX6_pullAfterBreak_24 : decode cX6_pullAfterBreak 24 = .ok (.iload_n 2, 1) := by decide +kernel
theorem dX6_pullAfterBreak_25 : decode cX6_pullAfterBreak 25 = .ok (.invokevirtual 255, 3) := by decide +kernel
theorem dX6_pullAfterBreak_28 : decode cX6_pullAfterBreak 28 = .ok (.iaload, 1) := by decide +kernel
theorem dX6_pullAfterBreak_29 : decode cX6_pullAfterBreak 29 = .ok (.i2l, 1) := by decide +kernel
theorem dX6_pullAfterBreak_30 : decode cX6_pullAfterBreak 30 = .ok (.lmul, 1) := by decide +kernel
theorem dX6_pullAfterBreak_31 : decode cX6_pullAfterBreak 31 = .ok (.lstore_n 3, 1) := by decide +kernel
theorem dX6_pullAfterBreak_32 : decode cX6_pullAfterBreak 32 = .ok (.aload_n 0, 1) := by decide +kernel
theorem dX6_pullAfterBreak_33 : decode cX6_pullAfterBreak 33 = .ok (.getfield 19, 3) := by decide +kernel
theorem dX6_pullAfterBreak_36 : decode cX6_pullAfterBreak 36 = .ok (.getfield 125, 3) := by decide +kernel
theorem dX6_pullAfterBreak_39 : decode cX6_pullAfterBreak 39 = .ok (.iload_n 2, 1) := by decide +kernel
theorem dX6_pullAfterBreak_40 : decode cX6_pullAfterBreak 40 = .ok (.iaload, 1) := by decide +kernel
theorem dX6_pullAfterBreak_41 : decode cX6_pullAfterBreak 41 = .ok (.i2l, 1) := by decide +kernel
theorem dX6_pullAfterBreak_42 : decode cX6_pullAfterBreak 42 = .ok (.lload_n 3, 1) := by decide +kernel
theorem dX6_pullAfterBreak_43 : decode cX6_pullAfterBreak 43 = .ok (.ldc2_w 258, 3) := by decide +kernel
theorem dX6_pullAfterBreak_46 : decode cX6_pullAfterBreak 46 = .ok (.invokestatic 260, 3) := by decide +kernel
theorem dX6_pullAfterBreak_49 : decode cX6_pullAfterBreak 49 = .ok (.ladd, 1) := by decide +kernel
theorem dX6_pullAfterBreak_50 : decode cX6_pullAfterBreak 50 = .ok (.lreturn, 1) := by decide +kernel
theorem dX6_breaksTooMuch_0 : decode cX6_breaksTooMuch 0 = .ok (.iconst 0, 1) := by decide +kernel
theorem dX6_breaksTooMuch_1 : decode cX6_breaksTooMuch 1 = .ok (.istore_n 2, 1) := by decide +kernel
theorem dX6_breaksTooMuch_2 : decode cX6_breaksTooMuch 2 = .ok (.iload_n 2, 1) := by decide +kernel
theorem dX6_breaksTooMuch_3 : decode cX6_breaksTooMuch 3 = .ok (.aload_n 0, 1) := by decide +kernel
theorem dX6_breaksTooMuch_4 : decode cX6_breaksTooMuch 4 = .ok (.getfield 19, 3) := by decide +kernel
theorem dX6_breaksTooMuch_7 : decode cX6_breaksTooMuch 7 = .ok (.getfield 203, 3) := by decide +kernel
theorem dX6_breaksTooMuch_10 : decode cX6_breaksTooMuch 10 = .ok (.if_icmp .ge 43, 3) := by decide +kernel
theorem dX6_breaksTooMuch_13 : decode cX6_breaksTooMuch 13 = .ok (.iload_n 2, 1) := by decide +kernel
theorem dX6_breaksTooMuch_14 : decode cX6_breaksTooMuch 14 = .ok (.iload_n 1, 1) := by decide +kernel
theorem dX6_breaksTooMuch_15 : decode cX6_breaksTooMuch 15 = .ok (.if_icmp .eq 32, 3) := by decide +kernel
theorem dX6_breaksTooMuch_18 : decode cX6_breaksTooMuch 18 = .ok (.aload_n 0, 1) := by decide +kernel
theorem dX6_breaksTooMuch_19 : decode cX6_breaksTooMuch 19 = .ok (.getfield 19, 3) := by decide +kernel
theorem dX6_breaksTooMuch_22 : decode cX6_breaksTooMuch 22 = .ok (.iload_n 2, 1) := by decide +kernel
theorem dX6_breaksTooMuch_23 : decode cX6_breaksTooMuch 23 = .ok (.invokevirtual 75, 3) := by decide +kernel
theorem dX6_breaksTooMuch_26 : decode cX6_breaksTooMuch 26 = .ok (.ifCond .ne 21, 3) := by decide +kernel
theorem dX6_breaksTooMuch_29 : decode cX6_breaksTooMuch 29 = .ok (.aload_n 0, 1) := by decide +kernel
theorem dX6_breaksTooMuch_30 : decode cX6_breaksTooMuch 30 = .ok (.iload_n 1, 1) := by decide +kernel
theorem dX6_breaksTooMuch_31 : decode cX6_breaksTooMuch 31 = .ok (.iload_n 2, 1) := by decide +kernel
theorem dX6_breaksTooMuch_32 : decode cX6_breaksTooMuch 32 = .ok (.invokevirtual 206, 3) := by decide +kernel
theorem dX6_breaksTooMuch_35 : decode cX6_breaksTooMuch 35 = .ok (.invokestatic 264, 3) := by decide +kernel
theorem dX6_breaksTooMuch_38 : decode cX6_breaksTooMuch 38 = .ok (.ldc2_w 268, 3) := by decide +kernel
theorem dX6_breaksTooMuch_41 : decode cX6_breaksTooMuch 41 = .ok (.lcmp, 1) := by decide +kernel
theorem dX6_breaksTooMuch_42 : decode cX6_breaksTooMuch 42 = .ok (.ifCond .le 5, 3) := by decide +kernel
theorem dX6_breaksTooMuch_45 : decode cX6_breaksTooMuch 45 = .ok (.iconst 1, 1) := by decide +kernel
theorem dX6_breaksTooMuch_46 : decode cX6_breaksTooMuch 46 = .ok (.ireturn, 1) := by decide +kernel
theorem dX6_breaksTooMuch_47 : decode cX6_breaksTooMuch 47 = .ok (.iinc 2 1, 3) := by decide +kernel
theorem dX6_breaksTooMuch_50 : decode cX6_breaksTooMuch 50 = .ok (.goto (-48), 3) := by decide +kernel
theorem dX6_breaksTooMuch_53 : decode cX6_breaksTooMuch 53 = .ok (.iconst 0, 1) := by decide +kernel
theorem dX6_breaksTooMuch_54 : decode cX6_breaksTooMuch 54 = .ok (.ireturn, 1) := by decide +kernel
theorem dX6_pullUnder_0 : decode cX6_pullUnder 0 = .ok (.aload_n 0, 1) := by decide +kernel
theorem dX6_pullUnder_1 : decode cX6_pullUnder 1 = .ok (.getfield 19, 3) := by decide +kernel
theorem dX6_pullUnder_4 : decode cX6_pullUnder 4 = .ok (.iload_n 3, 1) := by decide +kernel
theorem dX6_pullUnder_5 : decode cX6_pullUnder 5 = .ok (.invokevirtual 75, 3) := by decide +kernel
theorem dX6_pullUnder_8 : decode cX6_pullUnder 8 = .ok (.ifCond .eq 5, 3) := by decide +kernel
theorem dX6_pullUnder_11 : decode cX6_pullUnder 11 = .ok (.iconst 0, 1) := by decide +kernel
theorem dX6_pullUnder_12 : decode cX6_pullUnder 12 = .ok (.ireturn, 1) := by decide +kernel
theorem dX6_pullUnder_13 : decode cX6_pullUnder 13 = .ok (.aload_n 0, 1) := by decide +kernel
theorem dX6_pullUnder_14 : decode cX6_pullUnder 14 = .ok (.getfield 19, 3) := by decide +kernel
theorem dX6_pullUnder_17 : decode cX6_pullUnder 17 = .ok (.getfield 125, 3) := by decide +kernel
theorem dX6_pullUnder_20 : decode cX6_pullUnder 20 = .ok (.iload_n 3, 1) := by decide +kernel
theorem dX6_pullUnder_21 : decode cX6_pullUnder 21 = .ok (.iaload, 1) := by decide +kernel
theorem dX6_pullUnder_22 : decode cX6_pullUnder 22 = .ok (.iload_n 1, 1) := by decide +kernel
theorem dX6_pullUnder_23 : decode cX6_pullUnder 23 = .ok (.aload_n 0, 1) := by decide +kernel
theorem dX6_pullUnder_24 : decode cX6_pullUnder 24 = .ok (.getfield 10, 3) := by decide +kernel
theorem dX6_pullUnder_27 : decode cX6_pullUnder 27 = .ok (.getfield 106, 3) := by decide +kernel
theorem dX6_pullUnder_30 : decode cX6_pullUnder 30 = .ok (.iconst 5, 1) := by decide +kernel
theorem dX6_pullUnder_31 : decode cX6_pullUnder 31 = .ok (.aaload, 1) := by decide +kernel
theorem dX6_pullUnder_32 : decode cX6_pullUnder 32 = .ok (.aload_n 0, 1) := by decide +kernel
theorem dX6_pullUnder_33 : decode cX6_pullUnder 33 = .ok (.getfield 19, 3) := by decide +kernel
theorem dX6_pullUnder_36 : decode cX6_pullUnder 36 = .ok (.iload_n 2, 1) := by decide +kernel
theorem dX6_pullUnder_37 : decode cX6_pullUnder 37 = .ok (.iload_n 3, 1) := by decide +kernel
theorem dX6_pullUnder_38 : decode cX6_pullUnder 38 = .ok (.invokevirtual 255, 3) := by decide +kernel
theorem dX6_pullUnder_41 : decode cX6_pullUnder 41 = .ok (.iaload, 1) := by decide +kernel
theorem dX6_pullUnder_42 : decode cX6_pullUnder 42 = .ok (.imul, 1) := by decide +kernel
theorem dX6_pullUnder_43 : decode cX6_pullUnder 43 = .ok (.sipush 1000, 3) := by decide +kernel
theorem dX6_pullUnder_46 : decode cX6_pullUnder 46 = .ok (.invokestatic 270, 3) := by decide +kernel
theorem dX6_pullUnder_49 : decode cX6_pullUnder 49 = .ok (.isub, 1) := by decide +kernel
theorem dX6_pullUnder_50 : decode cX6_pullUnder 50 = .ok (.ireturn, 1) := by decide +kernel
theorem dX6_howManyLooseUnder_0 : decode cX6_howManyLooseUnder 0 = .ok (.iconst 0, 1) := by decide +kernel
theorem dX6_howManyLooseUnder_1 : decode cX6_howManyLooseUnder 1 = .ok (.istore_n 3, 1) := by decide +kernel
theorem dX6_howManyLooseUnder_2 : decode cX6_howManyLooseUnder 2 = .ok (.iconst 0, 1) := by decide +kernel
theorem dX6_howManyLooseUnder_3 : decode cX6_howManyLooseUnder 3 = .ok (.istore 4, 2) := by decide +kernel
theorem dX6_howManyLooseUnder_5 : decode cX6_howManyLooseUnder 5 = .ok (.iload 4, 2) := by decide +kernel
theorem dX6_howManyLooseUnder_7 : decode cX6_howManyLooseUnder 7 = .ok (.aload_n 0, 1) := by decide +kernel
theorem dX6_howManyLooseUnder_8 : decode cX6_howManyLooseUnder 8 = .ok (.getfield 19, 3) := by decide +kernel
theorem dX6_howManyLooseUnder_11 : decode cX6_howManyLooseUnder 11 = .ok (.getfield 203, 3) := by decide +kernel
theorem dX6_howManyLooseUnder_14 : decode cX6_howManyLooseUnder 14 = .ok (.if_icmp .ge 23, 3) := by decide +kernel
theorem dX6_howManyLooseUnder_17 : decode cX6_howManyLooseUnder 17 = .ok (.aload_n 0, 1) := by decide +kernel
theorem dX6_howManyLooseUnder_18 : decode cX6_howManyLooseUnder 18 = .ok (.iload_n 1, 1) := by decide +kernel
theorem dX6_howManyLooseUnder_19 : decode cX6_howManyLooseUnder 19 = .ok (.iload_n 2, 1) := by decide +kernel
theorem dX6_howManyLooseUnder_20 : decode cX6_howManyLooseUnder 20 = .ok (.iload 4, 2) := by decide +kernel
theorem dX6_howManyLooseUnder_22 : decode cX6_howManyLooseUnder 22 = .ok (.invokevirtual 210, 3) := by decide +kernel
theorem dX6_howManyLooseUnder_25 : decode cX6_howManyLooseUnder 25 = .ok (.ifCond .ge 6, 3) := by decide +kernel
theorem dX6_howManyLooseUnder_28 : decode cX6_howManyLooseUnder 28 = .ok (.iinc 3 1, 3) := by decide +kernel
theorem dX6_howManyLooseUnder_31 : decode cX6_howManyLooseUnder 31 = .ok (.iinc 4 1, 3) := by decide +kernel
theorem dX6_howManyLooseUnder_34 : decode cX6_howManyLooseUnder 34 = .ok (.goto (-29), 3) := by decide +kernel
theorem dX6_howManyLooseUnder_37 : decode cX6_howManyLooseUnder 37 = .ok (.iload_n 3, 1) := by decide +kernel
theorem dX6_howManyLooseUnder_38 : decode cX6_howManyLooseUnder 38 = .ok (.ireturn, 1) := by decide +kernel
