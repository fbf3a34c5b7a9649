theorem dX7_init_0 : decode cX7_init 0 = .ok (.aload_n 0, 1) := by decide +kernel
theorem dX7_init_1 : decode cX7_init 1 = .ok (.invokespecial 1, 3) := by decide +kernel
theorem dX7_init_4 : decode cX7_init 4 = .ok (.aload_n 0, 1) := by decide +kernel
theorem dX7_init_5 : decode cX7_init 5 = .ok (.bipush 32, 2) := by decide +kernel
theorem dX7_init_7 : decode cX7_init 7 = .ok (.newarray .int, 2) := by decide +kernel
theorem dX7_init_9 : decode cX7_init 9 = .ok (.putfield 7, 3) := by decide +kernel
theorem dX7_init_12 : decode cX7_init 12 = .ok (.aload_n 0, 1) := by decide +kernel
theorem dX7_init_13 : decode cX7_init 13 = .ok (.bipush 32, 2) := by decide +kernel
theorem dX7_init_15 : decode cX7_init 15 = .ok (.newarray .long, 2) := by decide +kernel
theorem dX7_init_17 : decode cX7_init 17 = .ok (.putfield 13, 3) := by decide +kernel
theorem dX7_init_20 : decode cX7_init 20 = .ok (.aload_n 0, 1) := by decide +kernel
theorem dX7_init_21 : decode cX7_init 21 = .ok (.bipush 64, 2) := by decide +kernel
theorem dX7_init_23 : decode cX7_init 23 = .ok (.newarray .long, 2) := by decide +kernel
theorem dX7_init_25 : decode cX7_init 25 = .ok (.putfield 17, 3) := by decide +kernel
theorem dX7_init_28 : decode cX7_init 28 = .ok (.aload_n 0, 1) := by decide +kernel
theorem dX7_init_29 : decode cX7_init 29 = .ok (.bipush 64, 2) := by decide +kernel
theorem dX7_init_31 : decode cX7_init 31 = .ok (.newarray .int, 2) := by decide +kernel
theorem dX7_init_33 : decode cX7_init 33 = .ok (.putfield 20, 3) := by decide +kernel
theorem dX7_init_36 : decode cX7_init 36 = .ok (.aload_n 0, 1) := by decide +kernel
theorem dX7_init_37 : decode cX7_init 37 = .ok (.bipush 6, 2) := by decide +kernel
theorem dX7_init_39 : decode cX7_init 39 = .ok (.newarray .int, 2) := by decide +kernel
theorem dX7_init_41 : decode cX7_init 41 = .ok (.putfield 23, 3) := by decide +kernel
theorem dX7_init_44 : decode cX7_init 44 = .ok (.aload_n 0, 1) := by decide +kernel
theorem dX7_init_45 : decode cX7_init 45 = .ok (.bipush 102, 2) := by decide +kernel
theorem dX7_init_47 : decode cX7_init 47 = .ok (.newarray .int, 2) := by decide +kernel
theorem dX7_init_49 : decode cX7_init 49 = .ok (.putfield 26, 3) := by decide +kernel
theorem dX7_init_52 : decode cX7_init 52 = .ok (.aload_n 0, 1) := by decide +kernel
theorem dX7_init_53 : decode cX7_init 53 = .ok (.iconst 5, 1) := by decide +kernel
theorem dX7_init_54 : decode cX7_init 54 = .ok (.newarray .int, 2) := by decide +kernel
theorem dX7_init_56 : decode cX7_init 56 = .ok (.putfield 29, 3) := by decide +kernel
theorem dX7_init_59 : decode cX7_init 59 = .ok (.aload_n 0, 1) := by decide +kernel
theorem dX7_init_60 : decode cX7_init 60 = .ok (.bipush 120, 2) := by decide +kernel
theorem dX7_init_62 : decode cX7_init 62 = .ok (.newarray .int, 2) := by decide +kernel
theorem dX7_init_64 : decode cX7_init 64 = .ok (.putfield 32, 3) := by decide +kernel
theorem dX7_init_67 : decode cX7_init 67 = .ok (.aload_n 0, 1) := by decide +kernel
theorem dX7_init_68 : decode cX7_init 68 = .ok (.bipush 20, 2) := by decide +kernel
theorem dX7_init_70 : decode cX7_init 70 = .ok (.putfield 35, 3) := by decide +kernel
theorem dX7_init_73 : decode cX7_init 73 = .ok (.aload_n 0, 1) := by decide +kernel
theorem dX7_init_74 : decode cX7_init 74 = .ok (.bipush 30, 2) := by decide +kernel
theorem dX7_init_76 : decode cX7_init 76 = .ok (.putfield 39, 3) := by decide +kernel
theorem dX7_init_79 : decode cX7_init 79 = .ok (.aload_n 0, 1) := by decide +kernel
theorem dX7_init_80 : decode cX7_init 80 = .ok (.sipush 300, 3) := by decide +kernel
theorem dX7_init_83 : decode cX7_init 83 = .ok (.putfield 42, 3) := by decide +kernel
theorem dX7_init_86 : decode cX7_init 86 = .ok (.aload_n 0, 1) := by decide +kernel
theorem dX7_init_87 : decode cX7_init 87 = .ok (.iconst 3, 1) := by decide +kernel
theorem dX7_init_88 : decode cX7_init 88 = .ok (.putfield 45, 3) := by decide +kernel
theorem dX7_init_91 : decode cX7_init 91 = .ok (.aload_n 0, 1) := by decide +kernel
theorem dX7_init_92 : decode cX7_init 92 = .ok (.bipush 64, 2) := by decide +kernel
theorem dX7_init_94 : decode cX7_init 94 = .ok (.newarray .long, 2) := by decide +kernel
theorem dX7_init_96 : decode cX7_init 96 = .ok (.putfield 48, 3) := by decide +kernel
theorem dX7_init_99 : decode cX7_init 99 = .ok (.aload_n 0, 1) := by decide +kernel
theorem dX7_init_100 : decode cX7_init 100 = .ok (.sipush 192, 3) := by decide +kernel
theorem dX7_init_103 : decode cX7_init 103 = .ok (.newarray .long, 2) := by decide +kernel
theorem dX7_init_105 : decode cX7_init 105 = .ok (.putfield 51, 3) := by decide +kernel
theorem dX7_init_108 : decode cX7_init 108 = .ok (.iconst 0, 1) := by decide +kernel
theorem dX7_init_109 : decode cX7_init 109 = .ok (.istore_n 1, 1) := by decide +kernel
theorem dX7_init_110 : decode cX7_init 110 = .ok (.iload_n 1, 1) := by decide +kernel
theorem dX7_init_111 : decode cX7_init 111 = .ok (.bipush 6, 2) := by decide +kernel
theorem dX7_init_113 : decode cX7_init 113 = .ok (.if_icmp .ge 16, 3) := by decide +kernel
theorem dX7_init_116 : decode cX7_init 116 = .ok (.aload_n 0, 1) := by decide +kernel
theorem dX7_init_117 : decode cX7_init 117 = .ok (.getfield 23, 3) := by decide +kernel
theorem dX7_init_120 : decode cX7_init 120 = .ok (.iload_n 1, 1) := by decide +kernel
theorem dX7_init_121 : decode cX7_init 121 = .ok (.iconst (-1), 1) := by decide +kernel
theorem dX7_init_122 : decode cX7_init 122 = .ok (.iastore, 1) := by decide +kernel
theorem dX7_init_123 : decode cX7_init 123 = .ok (.iinc 1 1, 3) := by decide +kernel
theorem dX7_init_126 : decode cX7_init 126 = .ok (.goto (-16), 3) := by decide +kernel
theorem dX7_init_129 : decode cX7_init 129 = .ok (.iconst 0, 1) := by decide +kernel
theorem dX7_init_130 : decode cX7_init 130 = .ok (.istore_n 1, 1) := by decide +kernel
theorem dX7_init_131 : decode cX7_init 131 = .ok (.iload_n 1, 1) := by decide +kernel
theorem dX7_init_132 : decode cX7_init 132 = .ok (.iconst 5, 1) := by decide +kernel
theorem dX7_init_133 : decode cX7_init 133 = .ok (.if_icmp .ge 28, 3) := by decide +kernel
theorem dX7_init_136 : decode cX7_init 136 = .ok (.aload_n 0, 1) := by decide +kernel
theorem dX7_init_137 : decode cX7_init 137 = .ok (.getfield 29, 3) := by decide +kernel
theorem dX7_init_140 : decode cX7_init 140 = .ok (.iload_n 1, 1) := by decide +kernel
theorem dX7_init_141 : decode cX7_init 141 = .ok (.iload_n 1, 1) := by decide +kernel
theorem dX7_init_142 : decode cX7_init 142 = .ok (.iconst 4, 1) := by decide +kernel
theorem dX7_init_143 : decode cX7_init 143 = .ok (.if_icmp .ne 9, 3) := by decide +kernel
theorem dX7_init_146 : decode cX7_init 146 = .ok (.sipush 1000, 3) := by decide +kernel
theorem dX7_init_149 : decode cX7_init 149 = .ok (.goto 5, 3) := by decide +kernel
theorem dX7_init_152 : decode cX7_init 152 = .ok (.bipush 100, 2) := by decide +kernel
theorem dX7_init_154 : decode cX7_init 154 = .ok (.iastore, 1) := by decide +kernel
theorem dX7_init_155 : decode cX7_init 155 = .ok (.iinc 1 1, 3) := by decide +kernel
theorem dX7_init_158 : decode cX7_init 158 = .ok (.goto (-27), 3) := by decide +kernel
theorem dX7_init_161 : decode cX7_init 161 = .ok (.aload_n 0, 1) := by decide +kernel
theorem dX7_init_162 : decode cX7_init 162 = .ok (.bipush 8, 2) := by decide +kernel
theorem dX7_init_164 : decode cX7_init 164 = .ok (.invokevirtual 54, 3) := by decide +kernel
theorem dX7_init_167 : decode cX7_init 167 = .ok (.return_, 1) := by decide +kernel
theorem dX7_begin_0 : decode cX7_begin 0 = .ok (.aload_n 0, 1) := by decide +kernel
theorem dX7_begin_1 : decode cX7_begin 1 = .ok (.iload_n 1, 1) := by decide +kernel
theorem dX7_begin_2 : decode cX7_begin 2 = .ok (.putfield 58, 3) := by decide +kernel
theorem dX7_begin_5 : decode cX7_begin 5 = .ok (.aload_n 0, 1) := by decide +kernel
theorem dX7_begin_6 : decode cX7_begin 6 = .ok (.iconst 0, 1) := by decide +kernel
theorem dX7_begin_7 : decode cX7_begin 7 = .ok (.putfield 61, 3) := by decide +kernel
theorem dX7_begin_10 : decode cX7_begin 10 = .ok (.iconst 0, 1) := by decide +kernel
theorem dX7_begin_11 : decode cX7_begin 11 = .ok (.istore_n 2, 1) := by decide +kernel
theorem dX7_begin_12 : decode cX7_begin 12 = .ok (.iload_n 2, 1) := by decide +kernel
theorem dX7_begin_13 : decode cX7_begin 13 = .ok (.bipush 32, 2) := by decide +kernel
theorem dX7_begin_15 : decode cX7_begin 15 = .ok (.if_icmp .ge 78, 3) := by decide +kernel
theorem dX7_begin_18 : decode cX7_begin 18 = .ok (.aload_n 0, 1) := by decide +kernel
theorem dX7_begin_19 : decode cX7_begin 19 = .ok (.getfield 7, 3) := by decide +kernel
theorem dX7_begin_22 : decode cX7_begin 22 = .ok (.iload_n 2, 1) := by decide +kernel
theorem dX7_begin_23 : decode cX7_begin 23 = .ok (.iload_n 2, 1) := by decide +kernel
theorem dX7_begin_24 : decode cX7_begin 24 = .ok (.iconst 2, 1) := by decide +kernel
theorem dX7_begin_25 : decode cX7_begin 25 = .ok (.irem, 1) := by decide +kernel
theorem dX7_begin_26 : decode cX7_begin 26 = .ok (.ifCond .ne 7, 3) := by decide +kernel
theorem dX7_begin_29 : decode cX7_begin 29 = .ok (.iconst 1, 1) := by decide +kernel
theorem dX7_begin_30 : decode cX7_begin 30 = .ok (.goto 4, 3) := by decide +kernel
theorem dX7_begin_33 : decode cX7_begin 33 = .ok (.iconst 2, 1) := by decide +kernel
theorem dX7_begin_34 : decode cX7_begin 34 = .ok (.iastore, 1) := by decide +kernel
theorem dX7_begin_35 : decode cX7_begin 35 = .ok (.aload_n 0, 1) := by decide +kernel
theorem dX7_begin_36 : decode cX7_begin 36 = .ok (.getfield 13, 3) := by decide +kernel
theorem dX7_begin_39 : decode cX7_begin 39 = .ok (.iload_n 2, 1) := by decide +kernel
theorem dX7_begin_40 : decode cX7_begin 40 = .ok (.ldc2_w 64, 3) := by decide +kernel
theorem dX7_begin_43 : decode cX7_begin 43 = .ok (.lastore, 1) := by decide +kernel
theorem dX7_begin_44 : decode cX7_begin 44 = .ok (.aload_n 0, 1) := by decide +kernel
theorem dX7_begin_45 : decode cX7_begin 45 = .ok (.getfield 17, 3) := by decide +kernel
theorem dX7_begin_48 : decode cX7_begin 48 = .ok (.iload_n 2, 1) := by decide +kernel
theorem dX7_begin_49 : decode cX7_begin 49 = .ok (.lconst 0, 1) := by decide +kernel
theorem dX7_begin_50 : decode cX7_begin 50 = .ok (.lastore, 1) := by decide +kernel
theorem dX7_begin_51 : decode cX7_begin 51 = .ok (.aload_n 0, 1) := by decide +kernel
theorem dX7_begin_52 : decode cX7_begin 52 = .ok (.getfield 17, 3) := by decide +kernel
theorem dX7_begin_55 : decode cX7_begin 55 = .ok (.bipush 32, 2) := by decide +kernel
theorem dX7_begin_57 : decode cX7_begin 57 = .ok (.iload_n 2, 1) := by decide +kernel
theorem dX7_begin_58 : decode cX7_begin 58 = .ok (.iadd, 1) := by decide +kernel
theorem dX7_begin_59 : decode cX7_begin 59 = .ok (.lconst 0, 1) := by decide +kernel
theorem dX7_begin_60 : decode cX7_begin 60 = .ok (.lastore, 1) := by decide +kernel
theorem dX7_begin_61 : decode cX7_begin 61 = .ok (.aload_n 0, 1) := by decide +kernel
theorem dX7_begin_62 : decode cX7_begin 62 = .ok (.iconst 0, 1) := by decide +kernel
theorem dX7_begin_63 : decode cX7_begin 63 = .ok (.putfield 66, 3) := by decide +kernel
theorem dX7_begin_66 : decode cX7_begin 66 = .ok (.aload_n 0, 1) := by decide +kernel
theorem dX7_begin_67 : decode cX7_begin 67 = .ok (.getfield 20, 3) := by decide +kernel
theorem dX7_begin_70 : decode cX7_begin 70 = .ok (.iload_n 2, 1) := by decide +kernel
theorem dX7_begin_71 : decode cX7_begin 71 = .ok (.sipush (-10000), 3) := by decide +kernel
theorem dX7_begin_74 : decode cX7_begin 74 = .ok (.iastore, 1) := by decide +kernel
theorem dX7_begin_75 : decode cX7_begin 75 = .ok (.aload_n 0, 1) := by decide +kernel
theorem dX7_begin_76 : decode cX7_begin 76 = .ok (.getfield 20, 3) := by decide +kernel
theorem dX7_begin_79 : decode cX7_begin 79 = .ok (.bipush 32, 2) := by decide +kernel
theorem dX7_begin_81 : decode cX7_begin 81 = .ok (.iload_n 2, 1) := by decide +kernel
theorem dX7_begin_82 : decode cX7_begin 82 = .ok (.iadd, 1) := by decide +kernel
theorem dX7_begin_83 : decode cX7_begin 83 = .ok (.sipush (-10000), 3) := by decide +kernel
theorem dX7_begin_86 : decode cX7_begin 86 = .ok (.iastore, 1) := by decide +kernel
theorem dX7_begin_87 : decode cX7_begin 87 = .ok (.iinc 2 1, 3) := by decide +kernel
theorem dX7_begin_90 : decode cX7_begin 90 = .ok (.goto (-78), 3) := by decide +kernel
theorem dX7_begin_93 : decode cX7_begin 93 = .ok (.return_, 1) := by decide +kernel
theorem dX7_isIn_0 : decode cX7_isIn 0 = .ok (.iload_n 0, 1) := by decide +kernel
theorem dX7_isIn_1 : decode cX7_isIn 1 = .ok (.iload_n 1, 1) := by decide +kernel
theorem dX7_isIn_2 : decode cX7_isIn 2 = .ok (.if_icmp .lt 12, 3) := by decide +kernel
theorem dX7_isIn_5 : decode cX7_isIn 5 = .ok (.iload_n 0, 1) := by decide +kernel
theorem dX7_isIn_6 : decode cX7_isIn 6 = .ok (.iload_n 2, 1) := by decide +kernel
theorem dX7_isIn_7 : decode cX7_isIn 7 = .ok (.if_icmp .gt 7, 3) := by decide +kernel
theorem dX7_isIn_10 : decode cX7_isIn 10 = .ok (.iconst 1, 1) := by decide +kernel
theorem dX7_isIn_11 : decode cX7_isIn 11 = .ok (.goto 4, 3) := by decide +kernel
theorem dX7_isIn_14 : decode cX7_isIn 14 = .ok (.iconst 0, 1) := by decide +kernel
theorem dX7_isIn_15 : decode cX7_isIn 15 = .ok (.ireturn, 1) := by decide +kernel
theorem dX7_isHole_0 : decode cX7_isHole 0 = .ok (.iload_n 1, 1) := by decide +kernel
theorem dX7_isHole_1 : decode cX7_isHole 1 = .ok (.iconst 0, 1) := by decide +kernel
theorem dX7_isHole_2 : decode cX7_isHole 2 = .ok (.aload_n 0, 1) := by decide +kernel
theorem dX7_isHole_3 : decode cX7_isHole 3 = .ok (.getfield 58, 3) := by decide +kernel
theorem dX7_isHole_6 : decode cX7_isHole 6 = .ok (.iconst 1, 1) := by decide +kernel
theorem dX7_isHole_7 : decode cX7_isHole 7 = .ok (.isub, 1) := by decide +kernel
theorem dX7_isHole_8 : decode cX7_isHole 8 = .ok (.invokestatic 70, 3) := by decide +kernel
theorem dX7_isHole_11 : decode cX7_isHole 11 = .ok (.ireturn, 1) := by decide +kernel
theorem dX7_isGone_0 : decode cX7_isGone 0 = .ok (.aload_n 0, 1) := by decide +kernel
theorem dX7_isGone_1 : decode cX7_isGone 1 = .ok (.getfield 7, 3) := by decide +kernel
theorem dX7_isGone_4 : decode cX7_isGone 4 = .ok (.iload_n 1, 1) := by decide +kernel
theorem dX7_isGone_5 : decode cX7_isGone 5 = .ok (.iaload, 1) := by decide +kernel
theorem dX7_isGone_6 : decode cX7_isGone 6 = .ok (.iconst 4, 1) := by decide +kernel
theorem dX7_isGone_7 : decode cX7_isGone 7 = .ok (.if_icmp .ne 7, 3) := by decide +kernel
theorem dX7_isGone_10 : decode cX7_isGone 10 = .ok (.iconst 1, 1) := by decide +kernel
theorem dX7_isGone_11 : decode cX7_isGone 11 = .ok (.goto 4, 3) := by decide +kernel
theorem dX7_isGone_14 : decode cX7_isGone 14 = .ok (.iconst 0, 1) := by decide +kernel
theorem dX7_isGone_15 : decode cX7_isGone 15 = .ok (.ireturn, 1) := by decide +kernel
theorem dX7_isKind_0 : decode cX7_isKind 0 = .ok (.iload_n 0, 1) := by decide +kernel
theorem dX7_isKind_1 : decode cX7_isKind 1 = .ok (.iconst 0, 1) := by decide +kernel
theorem dX7_isKind_2 : decode cX7_isKind 2 = .ok (.iconst 3, 1) := by decide +kernel
theorem dX7_isKind_3 : decode cX7_isKind 3 = .ok (.invokestatic 70, 3) := by decide +kernel
theorem dX7_isKind_6 : decode cX7_isKind 6 = .ok (.ifCond .ne 8, 3) := by decide +kernel
theorem dX7_isKind_9 : decode cX7_isKind 9 = .ok (.iload_n 0, 1) := by decide +kernel
theorem dX7_isKind_10 : decode cX7_isKind 10 = .ok (.iconst 5, 1) := by decide +kernel
theorem dX7_isKind_11 : decode cX7_isKind 11 = .ok (.if_icmp .ne 7, 3) := by decide +kernel
theorem dX7_isKind_14 : decode cX7_isKind 14 = .ok (.iconst 1, 1) := by decide +kernel
theorem dX7_isKind_15 : decode cX7_isKind 15 = .ok (.goto 4, 3) := by decide +kernel
theorem dX7_isKind_18 : decode cX7_isKind 18 = .ok (.iconst 0, 1) := by decide +kernel
theorem dX7_isKind_19 : decode cX7_isKind 19 = .ok (.ireturn, 1) := by decide +kernel
theorem dX7_leans_0 : decode cX7_leans 0 = .ok (.aload_n 0, 1) := by decide +kernel
theorem dX7_leans_1 : decode cX7_leans 1 = .ok (.getfield 7, 3) := by decide +kernel
theorem dX7_leans_4 : decode cX7_leans 4 = .ok (.iload_n 1, 1) := by decide +kernel
theorem dX7_leans_5 : decode cX7_leans 5 = .ok (.iaload, 1) := by decide +kernel
theorem dX7_leans_6 : decode cX7_leans 6 = .ok (.istore_n 2, 1) := by decide +kernel
theorem dX7_leans_7 : decode cX7_leans 7 = .ok (.iload_n 2, 1) := by decide +kernel
theorem dX7_leans_8 : decode cX7_leans 8 = .ok (.iconst 1, 1) := by decide +kernel
theorem dX7_leans_9 : decode cX7_leans 9 = .ok (.if_icmp .eq 8, 3) := by decide +kernel
theorem dX7_leans_12 : decode cX7_leans 12 = .ok (.iload_n 2, 1) := by decide +kernel
theorem dX7_leans_13 : decode cX7_leans 13 = .ok (.iconst 5, 1) := by decide +kernel
theorem dX7_leans_14 : decode cX7_leans 14 = .ok (.if_icmp .ne 7, 3) := by decide +kernel
theorem dX7_leans_17 : decode cX7_leans 17 = .ok (.iconst 1, 1) := by decide +kernel
theorem dX7_leans_18 : decode cX7_leans 18 = .ok (.goto 18, 3) := by decide +kernel
theorem dX7_leans_21 : decode cX7_leans 21 = .ok (.iload_n 2, 1) := by decide +kernel
theorem dX7_leans_22 : decode cX7_leans 22 = .ok (.iconst 2, 1) := by decide +kernel
theorem dX7_leans_23 : decode cX7_leans 23 = .ok (.if_icmp .eq 8, 3) := by decide +kernel
theorem dX7_leans_26 : decode cX7_leans 26 = .ok (.iload_n 2, 1) := by decide +kernel
theorem dX7_leans_27 : decode cX7_leans 27 = .ok (.iconst 3, 1) := by decide +kernel
theorem dX7_leans_28 : decode cX7_leans 28 = .ok (.if_icmp .ne 7, 3) := by decide +kernel
theorem dX7_leans_31 : decode cX7_leans 31 = .ok (.iconst (-1), 1) := by decide +kernel
theorem dX7_leans_32 : decode cX7_leans 32 = .ok (.goto 4, 3) := by decide +kernel
theorem dX7_leans_35 : decode cX7_leans 35 = .ok (.iconst 0, 1) := by decide +kernel
theorem dX7_leans_36 : decode cX7_leans 36 = .ok (.ireturn, 1) := by decide +kernel
theorem dX7_force_0 : decode cX7_force 0 = .ok (.aload_n 0, 1) := by decide +kernel
theorem dX7_force_1 : decode cX7_force 1 = .ok (.getfield 7, 3) := by decide +kernel
theorem dX7_force_4 : decode cX7_force 4 = .ok (.iload_n 1, 1) := by decide +kernel
theorem dX7_force_5 : decode cX7_force 5 = .ok (.iaload, 1) := by decide +kernel
theorem dX7_force_6 : decode cX7_force 6 = .ok (.iconst 3, 1) := by decide +kernel
theorem dX7_force_7 : decode cX7_force 7 = .ok (.if_icmp .ne 7, 3) := by decide +kernel
theorem dX7_force_10 : decode cX7_force 10 = .ok (.iconst 2, 1) := by decide +kernel
theorem dX7_force_11 : decode cX7_force 11 = .ok (.goto 16, 3) := by decide +kernel
theorem dX7_force_14 : decode cX7_force 14 = .ok (.aload_n 0, 1) := by decide +kernel
theorem dX7_force_15 : decode cX7_force 15 = .ok (.iload_n 1, 1) := by decide +kernel
theorem dX7_force_16 : decode cX7_force 16 = .ok (.invokevirtual 74, 3) := by decide +kernel
theorem dX7_force_19 : decode cX7_force 19 = .ok (.ifCond .eq 7, 3) := by decide +kernel
theorem dX7_force_22 : decode cX7_force 22 = .ok (.iconst 0, 1) := by decide +kernel
theorem dX7_force_23 : decode cX7_force 23 = .ok (.goto 4, 3) := by decide +kernel
theorem dX7_force_26 : decode cX7_force 26 = .ok (.iconst 1, 1) := by decide +kernel
theorem dX7_force_27 : decode cX7_force 27 = .ok (.ireturn, 1) := by decide +kernel
theorem dX7_steps_0 : decode cX7_steps 0 = .ok (.iload_n 1, 1) := by decide +kernel
theorem dX7_steps_1 : decode cX7_steps 1 = .ok (.iload_n 2, 1) := by decide +kernel
theorem dX7_steps_2 : decode cX7_steps 2 = .ok (.if_icmp .ge 9, 3) := by decide +kernel
theorem dX7_steps_5 : decode cX7_steps 5 = .ok (.iload_n 2, 1) := by decide +kernel
theorem dX7_steps_6 : decode cX7_steps 6 = .ok (.iload_n 1, 1) := by decide +kernel
theorem dX7_steps_7 : decode cX7_steps 7 = .ok (.isub, 1) := by decide +kernel
theorem dX7_steps_8 : decode cX7_steps 8 = .ok (.goto 6, 3) := by decide +kernel
theorem dX7_steps_11 : decode cX7_steps 11 = .ok (.iload_n 1, 1) := by decide +kernel
theorem dX7_steps_12 : decode cX7_steps 12 = .ok (.iload_n 2, 1) := by decide +kernel
theorem dX7_steps_13 : decode cX7_steps 13 = .ok (.isub, 1) := by decide +kernel
theorem dX7_steps_14 : decode cX7_steps 14 = .ok (.istore_n 3, 1) := by decide +kernel
theorem dX7_steps_15 : decode cX7_steps 15 = .ok (.iload_n 3, 1) := by decide +kernel
theorem dX7_steps_16 : decode cX7_steps 16 = .ok (.aload_n 0, 1) := by decide +kernel
theorem dX7_steps_17 : decode cX7_steps 17 = .ok (.getfield 58, 3) := by decide +kernel
theorem dX7_steps_20 : decode cX7_steps 20 = .ok (.iload_n 3, 1) := by decide +kernel
theorem dX7_steps_21 : decode cX7_steps 21 = .ok (.isub, 1) := by decide +kernel
theorem dX7_steps_22 : decode cX7_steps 22 = .ok (.if_icmp .ge 7, 3) := by decide +kernel
theorem dX7_steps_25 : decode cX7_steps 25 = .ok (.iload_n 3, 1) := by decide +kernel
theorem dX7_steps_26 : decode cX7_steps 26 = .ok (.goto 9, 3) := by decide +kernel
theorem dX7_steps_29 : decode cX7_steps 29 = .ok (.aload_n 0, 1) := by decide +kernel
theorem dX7_steps_30 : decode cX7_steps 30 = .ok (.getfield 58, 3) := by decide +kernel
theorem dX7_steps_33 : decode cX7_steps 33 = .ok (.iload_n 3, 1) := by decide +kernel
theorem dX7_steps_34 : decode cX7_steps 34 = .ok (.isub, 1) := by decide +kernel
theorem dX7_steps_35 : decode cX7_steps 35 = .ok (.ireturn, 1) := by decide +kernel
theorem dX7_tell_0 : decode cX7_tell 0 = .ok (.iload_n 2, 1) := by decide +kernel
theorem dX7_tell_1 : decode cX7_tell 1 = .ok (.aload_n 0, 1) := by decide +kernel
theorem dX7_tell_2 : decode cX7_tell 2 = .ok (.getfield 23, 3) := by decide +kernel
theorem dX7_tell_5 : decode cX7_tell 5 = .ok (.iload_n 1, 1) := by decide +kernel
theorem dX7_tell_6 : decode cX7_tell 6 = .ok (.iaload, 1) := by decide +kernel
theorem dX7_tell_7 : decode cX7_tell 7 = .ok (.if_icmp .ge 17, 3) := by decide +kernel
theorem dX7_tell_10 : decode cX7_tell 10 = .ok (.aload_n 0, 1) := by decide +kernel
theorem dX7_tell_11 : decode cX7_tell 11 = .ok (.getfield 26, 3) := by decide +kernel
theorem dX7_tell_14 : decode cX7_tell 14 = .ok (.bipush 17, 2) := by decide +kernel
theorem dX7_tell_16 : decode cX7_tell 16 = .ok (.iload_n 1, 1) := by decide +kernel
theorem dX7_tell_17 : decode cX7_tell 17 = .ok (.imul, 1) := by decide +kernel
theorem dX7_tell_18 : decode cX7_tell 18 = .ok (.iload_n 2, 1) := by decide +kernel
theorem dX7_tell_19 : decode cX7_tell 19 = .ok (.iadd, 1) := by decide +kernel
theorem dX7_tell_20 : decode cX7_tell 20 = .ok (.iaload, 1) := by decide +kernel
theorem dX7_tell_21 : decode cX7_tell 21 = .ok (.goto 4, 3) := by decide +kernel
theorem dX7_tell_24 : decode cX7_tell 24 = .ok (.iconst 0, 1) := by decide +kernel
theorem dX7_tell_25 : decode cX7_tell 25 = .ok (.ireturn, 1) := by decide +kernel
theorem dX7_cut_0 : decode cX7_cut 0 = .ok (.lload_n 0, 1) := by decide +kernel
theorem dX7_cut_1 : decode cX7_cut 1 = .ok (.lload_n 2, 1) := by decide +kernel
theorem dX7_cut_2 : decode cX7_cut 2 = .ok (.ldiv, 1) := by decide +kernel
theorem dX7_cut_3 : decode cX7_cut 3 = .ok (.lstore 4, 2) := by decide +kernel
theorem dX7_cut_5 : decode cX7_cut 5 = .ok (.lload_n 0, 1) := by decide +kernel
theorem dX7_cut_6 : decode cX7_cut 6 = .ok (.lload_n 2, 1) := by decide +kernel
theorem dX7_cut_7 : decode cX7_cut 7 = .ok (.lrem, 1) := by decide +kernel
theorem dX7_cut_8 : decode cX7_cut 8 = .ok (.lconst 0, 1) := by decide +kernel
theorem dX7_cut_9 : decode cX7_cut 9 = .ok (.lcmp, 1) := by decide +kernel
theorem dX7_cut_10 : decode cX7_cut 10 = .ok (.ifCond .eq 16, 3) := by decide +kernel
theorem dX7_cut_13 : decode cX7_cut 13 = .ok (.lload_n 0, 1) := by decide +kernel
theorem dX7_cut_14 : decode cX7_cut 14 = .ok (.lconst 0, 1) := by decide +kernel
theorem dX7_cut_15 : decode cX7_cut 15 = .ok (.lcmp, 1) := by decide +kernel
theorem dX7_cut_16 : decode cX7_cut 16 = .ok (.ifCond .ge 10, 3) := by decide +kernel
theorem dX7_cut_19 : decode cX7_cut 19 = .ok (.lload 4, 2) := by decide +kernel
theorem dX7_cut_21 : decode cX7_cut 21 = .ok (.lconst 1, 1) := by decide +kernel
theorem dX7_cut_22 : decode cX7_cut 22 = .ok (.lsub, 1) := by decide +kernel
theorem dX7_cut_23 : decode cX7_cut 23 = .ok (.goto 5, 3) := by decide +kernel
theorem dX7_cut_26 : decode cX7_cut 26 = .ok (.lload 4, 2) := by decide +kernel
theorem dX7_cut_28 : decode cX7_cut 28 = .ok (.lreturn, 1) := by decide +kernel
theorem dX7_wheel_0 : decode cX7_wheel 0 = .ok (.iload_n 1, 1) := by decide +kernel
theorem dX7_wheel_1 : decode cX7_wheel 1 = .ok (.bipush 8, 2) := by decide +kernel
theorem dX7_wheel_3 : decode cX7_wheel 3 = .ok (.if_icmp .eq 18, 3) := by decide +kernel
theorem dX7_wheel_6 : decode cX7_wheel 6 = .ok (.iload_n 1, 1) := by decide +kernel
theorem dX7_wheel_7 : decode cX7_wheel 7 = .ok (.bipush 16, 2) := by decide +kernel
theorem dX7_wheel_9 : decode cX7_wheel 9 = .ok (.if_icmp .eq 12, 3) := by decide +kernel
theorem dX7_wheel_12 : decode cX7_wheel 12 = .ok (.iload_n 1, 1) := by decide +kernel
theorem dX7_wheel_13 : decode cX7_wheel 13 = .ok (.bipush 32, 2) := by decide +kernel
theorem dX7_wheel_15 : decode cX7_wheel 15 = .ok (.if_icmp .eq 6, 3) := by decide +kernel
theorem dX7_wheel_18 : decode cX7_wheel 18 = .ok (.ldc 78, 2) := by decide +kernel
theorem dX7_wheel_20 : decode cX7_wheel 20 = .ok (.ireturn, 1) := by decide +kernel
theorem dX7_wheel_21 : decode cX7_wheel 21 = .ok (.aload_n 0, 1) := by decide +kernel
theorem dX7_wheel_22 : decode cX7_wheel 22 = .ok (.iload_n 1, 1) := by decide +kernel
theorem dX7_wheel_23 : decode cX7_wheel 23 = .ok (.invokevirtual 54, 3) := by decide +kernel
theorem dX7_wheel_26 : decode cX7_wheel 26 = .ok (.iload_n 1, 1) := by decide +kernel
theorem dX7_wheel_27 : decode cX7_wheel 27 = .ok (.ireturn, 1) := by decide +kernel
theorem dX7_kind_0 : decode cX7_kind 0 = .ok (.aload_n 0, 1) := by decide +kernel
theorem dX7_kind_1 : decode cX7_kind 1 = .ok (.iload_n 1, 1) := by decide +kernel
theorem dX7_kind_2 : decode cX7_kind 2 = .ok (.invokevirtual 79, 3) := by decide +kernel
theorem dX7_kind_5 : decode cX7_kind 5 = .ok (.ifCond .eq 10, 3) := by decide +kernel
theorem dX7_kind_8 : decode cX7_kind 8 = .ok (.iload_n 2, 1) := by decide +kernel
theorem dX7_kind_9 : decode cX7_kind 9 = .ok (.invokestatic 82, 3) := by decide +kernel
theorem dX7_kind_12 : decode cX7_kind 12 = .ok (.ifCond .ne 6, 3) := by decide +kernel
theorem dX7_kind_15 : decode cX7_kind 15 = .ok (.ldc 78, 2) := by decide +kernel
theorem dX7_kind_17 : decode cX7_kind 17 = .ok (.ireturn, 1) := by decide +kernel
theorem dX7_kind_18 : decode cX7_kind 18 = .ok (.aload_n 0, 1) := by decide +kernel
theorem dX7_kind_19 : decode cX7_kind 19 = .ok (.iload_n 1, 1) := by decide +kernel
theorem dX7_kind_20 : decode cX7_kind 20 = .ok (.invokevirtual 74, 3) := by decide +kernel
theorem dX7_kind_23 : decode cX7_kind 23 = .ok (.ifCond .eq 6, 3) := by decide +kernel
theorem dX7_kind_26 : decode cX7_kind 26 = .ok (.ldc 85, 2) := by decide +kernel
theorem dX7_kind_28 : decode cX7_kind 28 = .ok (.ireturn, 1) := by decide +kernel
theorem dX7_kind_29 : decode cX7_kind 29 = .ok (.aload_n 0, 1) := by decide +kernel
theorem dX7_kind_30 : decode cX7_kind 30 = .ok (.getfield 7, 3) := by decide +kernel
theorem dX7_kind_33 : decode cX7_kind 33 = .ok (.iload_n 1, 1) := by decide +kernel
theorem dX7_kind_34 : decode cX7_kind 34 = .ok (.iaload, 1) := by decide +kernel
theorem dX7_kind_35 : decode cX7_kind 35 = .ok (.istore_n 3, 1) := by decide +kernel
theorem dX7_kind_36 : decode cX7_kind 36 = .ok (.aload_n 0, 1) := by decide +kernel
theorem dX7_kind_37 : decode cX7_kind 37 = .ok (.getfield 7, 3) := by decide +kernel
theorem dX7_kind_40 : decode cX7_kind 40 = .ok (.iload_n 1, 1) := by decide +kernel
theorem dX7_kind_41 : decode cX7_kind 41 = .ok (.iload_n 2, 1) := by decide +kernel
theorem dX7_kind_42 : decode cX7_kind 42 = .ok (.iastore, 1) := by decide +kernel
theorem dX7_kind_43 : decode cX7_kind 43 = .ok (.iload_n 3, 1) := by decide +kernel
theorem dX7_kind_44 : decode cX7_kind 44 = .ok (.ireturn, 1) := by decide +kernel
theorem dX7_table_0 : decode cX7_table 0 = .ok (.iload_n 1, 1) := by decide +kernel
theorem dX7_table_1 : decode cX7_table 1 = .ok (.iconst 0, 1) := by decide +kernel
theorem dX7_table_2 : decode cX7_table 2 = .ok (.iconst 5, 1) := by decide +kernel
theorem dX7_table_3 : decode cX7_table 3 = .ok (.invokestatic 70, 3) := by decide +kernel
theorem dX7_table_6 : decode cX7_table 6 = .ok (.ifCond .eq 13, 3) := by decide +kernel
theorem dX7_table_9 : decode cX7_table 9 = .ok (.iload_n 2, 1) := by decide +kernel
theorem dX7_table_10 : decode cX7_table 10 = .ok (.iconst (-1), 1) := by decide +kernel
theorem dX7_table_11 : decode cX7_table 11 = .ok (.bipush 17, 2) := by decide +kernel
theorem dX7_table_13 : decode cX7_table 13 = .ok (.invokestatic 70, 3) := by decide +kernel
theorem dX7_table_16 : decode cX7_table 16 = .ok (.ifCond .ne 6, 3) := by decide +kernel
theorem dX7_table_19 : decode cX7_table 19 = .ok (.ldc 78, 2) := by decide +kernel
theorem dX7_table_21 : decode cX7_table 21 = .ok (.ireturn, 1) := by decide +kernel
theorem dX7_table_22 : decode cX7_table 22 = .ok (.aload_n 0, 1) := by decide +kernel
theorem dX7_table_23 : decode cX7_table 23 = .ok (.getfield 23, 3) := by decide +kernel
theorem dX7_table_26 : decode cX7_table 26 = .ok (.iload_n 1, 1) := by decide +kernel
theorem dX7_table_27 : decode cX7_table 27 = .ok (.iload_n 2, 1) := by decide +kernel
theorem dX7_table_28 : decode cX7_table 28 = .ok (.iastore, 1) := by decide +kernel
theorem dX7_table_29 : decode cX7_table 29 = .ok (.iconst 0, 1) := by decide +kernel
theorem dX7_table_30 : decode cX7_table 30 = .ok (.istore_n 3, 1) := by decide +kernel
theorem dX7_table_31 : decode cX7_table 31 = .ok (.iload_n 3, 1) := by decide +kernel
theorem dX7_table_32 : decode cX7_table 32 = .ok (.bipush 17, 2) := by decide +kernel
theorem dX7_table_34 : decode cX7_table 34 = .ok (.if_icmp .ge 21, 3) := by decide +kernel
theorem dX7_table_37 : decode cX7_table 37 = .ok (.aload_n 0, 1) := by decide +kernel
theorem dX7_table_38 : decode cX7_table 38 = .ok (.getfield 26, 3) := by decide +kernel
theorem dX7_table_41 : decode cX7_table 41 = .ok (.bipush 17, 2) := by decide +kernel
theorem dX7_table_43 : decode cX7_table 43 = .ok (.iload_n 1, 1) := by decide +kernel
theorem dX7_table_44 : decode cX7_table 44 = .ok (.imul, 1) := by decide +kernel
theorem dX7_table_45 : decode cX7_table 45 = .ok (.iload_n 3, 1) := by decide +kernel
theorem dX7_table_46 : decode cX7_table 46 = .ok (.iadd, 1) := by decide +kernel
theorem dX7_table_47 : decode cX7_table 47 = .ok (.iconst 0, 1) := by decide +kernel
theorem dX7_table_48 : decode cX7_table 48 = .ok (.iastore, 1) := by decide +kernel
theorem dX7_table_49 : decode cX7_table 49 = .ok (.iinc 3 1, 3) := by decide +kernel
theorem dX7_table_52 : decode cX7_table 52 = .ok (.goto (-21), 3) := by decide +kernel
theorem dX7_table_55 : decode cX7_table 55 = .ok (.iload_n 2, 1) := by decide +kernel
theorem dX7_table_56 : decode cX7_table 56 = .ok (.ifCond .ge 7, 3) := by decide +kernel
theorem dX7_table_59 : decode cX7_table 59 = .ok (.iconst 0, 1) := by decide +kernel
theorem dX7_table_60 : decode cX7_table 60 = .ok (.goto 4, 3) := by decide +kernel
theorem dX7_table_63 : decode cX7_table 63 = .ok (.iload_n 2, 1) := by decide +kernel
theorem dX7_table_64 : decode cX7_table 64 = .ok (.ireturn, 1) := by decide +kernel
theorem dX7_enter_0 : decode cX7_enter 0 = .ok (.iload_n 1, 1) := by decide +kernel
theorem dX7_enter_1 : decode cX7_enter 1 = .ok (.iconst 0, 1) := by decide +kernel
theorem dX7_enter_2 : decode cX7_enter 2 = .ok (.iconst 5, 1) := by decide +kernel
theorem dX7_enter_3 : decode cX7_enter 3 = .ok (.invokestatic 70, 3) := by decide +kernel
theorem dX7_enter_6 : decode cX7_enter 6 = .ok (.ifCond .eq 16, 3) := by decide +kernel
theorem dX7_enter_9 : decode cX7_enter 9 = .ok (.iload_n 3, 1) := by decide +kernel
theorem dX7_enter_10 : decode cX7_enter 10 = .ok (.sipush (-1000), 3) := by decide +kernel
theorem dX7_enter_13 : decode cX7_enter 13 = .ok (.sipush 1000, 3) := by decide +kernel
theorem dX7_enter_16 : decode cX7_enter 16 = .ok (.invokestatic 70, 3) := by decide +kernel
theorem dX7_enter_19 : decode cX7_enter 19 = .ok (.ifCond .ne 6, 3) := by decide +kernel
theorem dX7_enter_22 : decode cX7_enter 22 = .ok (.ldc 78, 2) := by decide +kernel
theorem dX7_enter_24 : decode cX7_enter 24 = .ok (.ireturn, 1) := by decide +kernel
theorem dX7_enter_25 : decode cX7_enter 25 = .ok (.aload_n 0, 1) := by decide +kernel
theorem dX7_enter_26 : decode cX7_enter 26 = .ok (.getfield 23, 3) := by decide +kernel
theorem dX7_enter_29 : decode cX7_enter 29 = .ok (.iload_n 1, 1) := by decide +kernel
theorem dX7_enter_30 : decode cX7_enter 30 = .ok (.iaload, 1) := by decide +kernel
theorem dX7_enter_31 : decode cX7_enter 31 = .ok (.ifCond .ge 6, 3) := by decide +kernel
theorem dX7_enter_34 : decode cX7_enter 34 = .ok (.ldc 86, 2) := by decide +kernel
theorem dX7_enter_36 : decode cX7_enter 36 = .ok (.ireturn, 1) := by decide +kernel
theorem dX7_enter_37 : decode cX7_enter 37 = .ok (.iload_n 2, 1) := by decide +kernel
theorem dX7_enter_38 : decode cX7_enter 38 = .ok (.iconst 0, 1) := by decide +kernel
theorem dX7_enter_39 : decode cX7_enter 39 = .ok (.aload_n 0, 1) := by decide +kernel
theorem dX7_enter_40 : decode cX7_enter 40 = .ok (.getfield 23, 3) := by decide +kernel
theorem dX7_enter_43 : decode cX7_enter 43 = .ok (.iload_n 1, 1) := by decide +kernel
theorem dX7_enter_44 : decode cX7_enter 44 = .ok (.iaload, 1) := by decide +kernel
theorem dX7_enter_45 : decode cX7_enter 45 = .ok (.iconst 1, 1) := by decide +kernel
theorem dX7_enter_46 : decode cX7_enter 46 = .ok (.isub, 1) := by decide +kernel
theorem dX7_enter_47 : decode cX7_enter 47 = .ok (.invokestatic 70, 3) := by decide +kernel
theorem dX7_enter_50 : decode cX7_enter 50 = .ok (.ifCond .ne 6, 3) := by decide +kernel
theorem dX7_enter_53 : decode cX7_enter 53 = .ok (.ldc 87, 2) := by decide +kernel
theorem dX7_enter_55 : decode cX7_enter 55 = .ok (.ireturn, 1) := by decide +kernel
theorem dX7_enter_56 : decode cX7_enter 56 = .ok (.aload_n 0, 1) := by decide +kernel
theorem dX7_enter_57 : decode cX7_enter 57 = .ok (.getfield 26, 3) := by decide +kernel
theorem dX7_enter_60 : decode cX7_enter 60 = .ok (.bipush 17, 2) := by decide +kernel
theorem dX7_enter_62 : decode cX7_enter 62 = .ok (.iload_n 1, 1) := by decide +kernel
theorem dX7_enter_63 : decode cX7_enter 63 = .ok (.imul, 1) := by decide +kernel
theorem dX7_enter_64 : decode cX7_enter 64 = .ok (.iload_n 2, 1) := by decide +kernel
theorem dX7_enter_65 : decode cX7_enter 65 = .ok (.iadd, 1) := by decide +kernel
theorem dX7_enter_66 : decode cX7_enter 66 = .ok (.iaload, 1) := by decide +kernel
theorem dX7_enter_67 : decode cX7_enter 67 = .ok (.istore 4, 2) := by decide +kernel
theorem dX7_enter_69 : decode cX7_enter 69 = .ok (.aload_n 0, 1) := by decide +kernel
theorem dX7_enter_70 : decode cX7_enter 70 = .ok (.getfield 26, 3) := by decide +kernel
theorem dX7_enter_73 : decode cX7_enter 73 = .ok (.bipush 17, 2) := by decide +kernel
theorem dX7_enter_75 : decode cX7_enter 75 = .ok (.iload_n 1, 1) := by decide +kernel
theorem dX7_enter_76 : decode cX7_enter 76 = .ok (.imul, 1) := by decide +kernel
theorem dX7_enter_77 : decode cX7_enter 77 = .ok (.iload_n 2, 1) := by decide +kernel
theorem dX7_enter_78 : decode cX7_enter 78 = .ok (.iadd, 1) := by decide +kernel
theorem dX7_enter_79 : decode cX7_enter 79 = .ok (.iload_n 3, 1) := by decide +kernel
theorem dX7_enter_80 : decode cX7_enter 80 = .ok (.iastore, 1) := by decide +kernel
theorem dX7_enter_81 : decode cX7_enter 81 = .ok (.iload 4, 2) := by decide +kernel
theorem dX7_enter_83 : decode cX7_enter 83 = .ok (.ireturn, 1) := by decide +kernel
theorem dX7_copy_0 : decode cX7_copy 0 = .ok (.iload_n 1, 1) := by decide +kernel
theorem dX7_copy_1 : decode cX7_copy 1 = .ok (.iconst 0, 1) := by decide +kernel
theorem dX7_copy_2 : decode cX7_copy 2 = .ok (.iconst 5, 1) := by decide +kernel
theorem dX7_copy_3 : decode cX7_copy 3 = .ok (.invokestatic 70, 3) := by decide +kernel
theorem dX7_copy_6 : decode cX7_copy 6 = .ok (.ifCond .eq 12, 3) := by decide +kernel
theorem dX7_copy_9 : decode cX7_copy 9 = .ok (.iload_n 2, 1) := by decide +kernel
theorem dX7_copy_10 : decode cX7_copy 10 = .ok (.iconst 0, 1) := by decide +kernel
theorem dX7_copy_11 : decode cX7_copy 11 = .ok (.iconst 5, 1) := by decide +kernel
theorem dX7_copy_12 : decode cX7_copy 12 = .ok (.invokestatic 70, 3) := by decide +kernel
theorem dX7_copy_15 : decode cX7_copy 15 = .ok (.ifCond .ne 6, 3) := by decide +kernel
theorem dX7_copy_18 : decode cX7_copy 18 = .ok (.ldc 78, 2) := by decide +kernel
theorem dX7_copy_20 : decode cX7_copy 20 = .ok (.ireturn, 1) := by decide +kernel
theorem dX7_copy_21 : decode cX7_copy 21 = .ok (.aload_n 0, 1) := by decide +kernel
theorem dX7_copy_22 : decode cX7_copy 22 = .ok (.getfield 23, 3) := by decide +kernel
theorem dX7_copy_25 : decode cX7_copy 25 = .ok (.iload_n 1, 1) := by decide +kernel
theorem dX7_copy_26 : decode cX7_copy 26 = .ok (.iaload, 1) := by decide +kernel
theorem dX7_copy_27 : decode cX7_copy 27 = .ok (.ifCond .lt 12, 3) := by decide +kernel
theorem dX7_copy_30 : decode cX7_copy 30 = .ok (.aload_n 0, 1) := by decide +kernel
theorem dX7_copy_31 : decode cX7_copy 31 = .ok (.getfield 23, 3) := by decide +kernel
theorem dX7_copy_34 : decode cX7_copy 34 = .ok (.iload_n 2, 1) := by decide +kernel
theorem dX7_copy_35 : decode cX7_copy 35 = .ok (.iaload, 1) := by decide +kernel
theorem dX7_copy_36 : decode cX7_copy 36 = .ok (.ifCond .ge 6, 3) := by decide +kernel
theorem dX7_copy_39 : decode cX7_copy 39 = .ok (.ldc 86, 2) := by decide +kernel
theorem dX7_copy_41 : decode cX7_copy 41 = .ok (.ireturn, 1) := by decide +kernel
theorem dX7_copy_42 : decode cX7_copy 42 = .ok (.iload_n 3, 1) := by decide +kernel
theorem dX7_copy_43 : decode cX7_copy 43 = .ok (.iconst 0, 1) := by decide +kernel
theorem dX7_copy_44 : decode cX7_copy 44 = .ok (.aload_n 0, 1) := by decide +kernel
theorem dX7_copy_45 : decode cX7_copy 45 = .ok (.getfield 23, 3) := by decide +kernel
theorem dX7_copy_48 : decode cX7_copy 48 = .ok (.iload_n 1, 1) := by decide +kernel
theorem dX7_copy_49 : decode cX7_copy 49 = .ok (.iaload, 1) := by decide +kernel
theorem dX7_copy_50 : decode cX7_copy 50 = .ok (.invokestatic 70, 3) := by decide +kernel
theorem dX7_copy_53 : decode cX7_copy 53 = .ok (.ifCond .eq 13, 3) := by decide +kernel
theorem dX7_copy_56 : decode cX7_copy 56 = .ok (.iload_n 3, 1) := by decide +kernel
theorem dX7_copy_57 : decode cX7_copy 57 = .ok (.aload_n 0, 1) := by decide +kernel
theorem dX7_copy_58 : decode cX7_copy 58 = .ok (.getfield 23, 3) := by decide +kernel
theorem dX7_copy_61 : decode cX7_copy 61 = .ok (.iload_n 2, 1) := by decide +kernel
theorem dX7_copy_62 : decode cX7_copy 62 = .ok (.iaload, 1) := by decide +kernel
theorem dX7_copy_63 : decode cX7_copy 63 = .ok (.if_icmp .le 6, 3) := by decide +kernel
theorem dX7_copy_66 : decode cX7_copy 66 = .ok (.ldc 87, 2) := by decide +kernel
theorem dX7_copy_68 : decode cX7_copy 68 = .ok (.ireturn, 1) := by decide +kernel
theorem dX7_copy_69 : decode cX7_copy 69 = .ok (.iconst 0, 1) := by decide +kernel
theorem dX7_copy_70 : decode cX7_copy 70 = .ok (.istore 4, 2) := by decide +kernel
theorem dX7_copy_72 : decode cX7_copy 72 = .ok (.iload 4, 2) := by decide +kernel
theorem dX7_copy_74 : decode cX7_copy 74 = .ok (.iload_n 3, 1) := by decide +kernel
theorem dX7_copy_75 : decode cX7_copy 75 = .ok (.if_icmp .ge 33, 3) := by decide +kernel
theorem dX7_copy_78 : decode cX7_copy 78 = .ok (.aload_n 0, 1) := by decide +kernel
theorem dX7_copy_79 : decode cX7_copy 79 = .ok (.getfield 26, 3) := by decide +kernel
theorem dX7_copy_82 : decode cX7_copy 82 = .ok (.bipush 17, 2) := by decide +kernel
theorem dX7_copy_84 : decode cX7_copy 84 = .ok (.iload_n 2, 1) := by decide +kernel
theorem dX7_copy_85 : decode cX7_copy 85 = .ok (.imul, 1) := by decide +kernel
theorem dX7_copy_86 : decode cX7_copy 86 = .ok (.iload 4, 2) := by decide +kernel
theorem dX7_copy_88 : decode cX7_copy 88 = .ok (.iadd, 1) := by decide +kernel
theorem dX7_copy_89 : decode cX7_copy 89 = .ok (.aload_n 0, 1) := by decide +kernel
theorem dX7_copy_90 : decode cX7_copy 90 = .ok (.getfield 26, 3) := by decide +kernel
theorem dX7_copy_93 : decode cX7_copy 93 = .ok (.bipush 17, 2) := by decide +kernel
theorem dX7_copy_95 : decode cX7_copy 95 = .ok (.iload_n 1, 1) := by decide +kernel
theorem dX7_copy_96 : decode cX7_copy 96 = .ok (.imul, 1) := by decide +kernel
theorem dX7_copy_97 : decode cX7_copy 97 = .ok (.iload 4, 2) := by decide +kernel
theorem dX7_copy_99 : decode cX7_copy 99 = .ok (.iadd, 1) := by decide +kernel
theorem dX7_copy_100 : decode cX7_copy 100 = .ok (.iaload, 1) := by decide +kernel
theorem dX7_copy_101 : decode cX7_copy 101 = .ok (.iastore, 1) := by decide +kernel
theorem dX7_copy_102 : decode cX7_copy 102 = .ok (.iinc 4 1, 3) := by decide +kernel
theorem dX7_copy_105 : decode cX7_copy 105 = .ok (.goto (-33), 3) := by decide +kernel
theorem dX7_copy_108 : decode cX7_copy 108 = .ok (.iload_n 3, 1) := by decide +kernel
theorem dX7_copy_109 : decode cX7_copy 109 = .ok (.ireturn, 1) := by decide +kernel
theorem dX7_read_0 : decode cX7_read 0 = .ok (.iload_n 1, 1) := by decide +kernel
theorem dX7_read_1 : decode cX7_read 1 = .ok (.iconst 0, 1) := by decide +kernel
theorem dX7_read_2 : decode cX7_read 2 = .ok (.iconst 1, 1) := by decide +kernel
theorem dX7_read_3 : decode cX7_read 3 = .ok (.invokestatic 70, 3) := by decide +kernel
theorem dX7_read_6 : decode cX7_read 6 = .ok (.ifCond .eq 24, 3) := by decide +kernel
theorem dX7_read_9 : decode cX7_read 9 = .ok (.aload_n 0, 1) := by decide +kernel
theorem dX7_read_10 : decode cX7_read 10 = .ok (.iload_n 2, 1) := by decide +kernel
theorem dX7_read_11 : decode cX7_read 11 = .ok (.invokevirtual 79, 3) := by decide +kernel
theorem dX7_read_14 : decode cX7_read 14 = .ok (.ifCond .eq 16, 3) := by decide +kernel
theorem dX7_read_17 : decode cX7_read 17 = .ok (.iload_n 3, 1) := by decide +kernel
theorem dX7_read_18 : decode cX7_read 18 = .ok (.sipush (-10000), 3) := by decide +kernel
theorem dX7_read_21 : decode cX7_read 21 = .ok (.sipush 9999, 3) := by decide +kernel
theorem dX7_read_24 : decode cX7_read 24 = .ok (.invokestatic 70, 3) := by decide +kernel
theorem dX7_read_27 : decode cX7_read 27 = .ok (.ifCond .ne 6, 3) := by decide +kernel
theorem dX7_read_30 : decode cX7_read 30 = .ok (.ldc 78, 2) := by decide +kernel
theorem dX7_read_32 : decode cX7_read 32 = .ok (.ireturn, 1) := by decide +kernel
theorem dX7_read_33 : decode cX7_read 33 = .ok (.aload_n 0, 1) := by decide +kernel
theorem dX7_read_34 : decode cX7_read 34 = .ok (.getfield 20, 3) := by decide +kernel
theorem dX7_read_37 : decode cX7_read 37 = .ok (.bipush 32, 2) := by decide +kernel
theorem dX7_read_39 : decode cX7_read 39 = .ok (.iload_n 1, 1) := by decide +kernel
theorem dX7_read_40 : decode cX7_read 40 = .ok (.imul, 1) := by decide +kernel
theorem dX7_read_41 : decode cX7_read 41 = .ok (.iload_n 2, 1) := by decide +kernel
theorem dX7_read_42 : decode cX7_read 42 = .ok (.iadd, 1) := by decide +kernel
theorem dX7_read_43 : decode cX7_read 43 = .ok (.iaload, 1) := by decide +kernel
theorem dX7_read_44 : decode cX7_read 44 = .ok (.istore 4, 2) := by decide +kernel
theorem dX7_read_46 : decode cX7_read 46 = .ok (.aload_n 0, 1) := by decide +kernel
theorem dX7_read_47 : decode cX7_read 47 = .ok (.getfield 20, 3) := by decide +kernel
theorem dX7_read_50 : decode cX7_read 50 = .ok (.bipush 32, 2) := by decide +kernel
theorem dX7_read_52 : decode cX7_read 52 = .ok (.iload_n 1, 1) := by decide +kernel
theorem dX7_read_53 : decode cX7_read 53 = .ok (.imul, 1) := by decide +kernel
theorem dX7_read_54 : decode cX7_read 54 = .ok (.iload_n 2, 1) := by decide +kernel
theorem dX7_read_55 : decode cX7_read 55 = .ok (.iadd, 1) := by decide +kernel
theorem dX7_read_56 : decode cX7_read 56 = .ok (.iload_n 3, 1) := by decide +kernel
theorem dX7_read_57 : decode cX7_read 57 = .ok (.iastore, 1) := by decide +kernel
theorem dX7_read_58 : decode cX7_read 58 = .ok (.aload_n 0, 1) := by decide +kernel
theorem dX7_read_59 : decode cX7_read 59 = .ok (.iconst 0, 1) := by decide +kernel
theorem dX7_read_60 : decode cX7_read 60 = .ok (.putfield 66, 3) := by decide +kernel
theorem dX7_read_63 : decode cX7_read 63 = .ok (.iload 4, 2) := by decide +kernel
theorem dX7_read_65 : decode cX7_read 65 = .ok (.ireturn, 1) := by decide +kernel
theorem dX7_limit_0 : decode cX7_limit 0 = .ok (.iload_n 1, 1) := by decide +kernel
theorem dX7_limit_1 : decode cX7_limit 1 = .ok (.iconst 0, 1) := by decide +kernel
theorem dX7_limit_2 : decode cX7_limit 2 = .ok (.iconst 4, 1) := by decide +kernel
theorem dX7_limit_3 : decode cX7_limit 3 = .ok (.invokestatic 70, 3) := by decide +kernel
theorem dX7_limit_6 : decode cX7_limit 6 = .ok (.ifCond .eq 13, 3) := by decide +kernel
theorem dX7_limit_9 : decode cX7_limit 9 = .ok (.iload_n 2, 1) := by decide +kernel
theorem dX7_limit_10 : decode cX7_limit 10 = .ok (.iconst 1, 1) := by decide +kernel
theorem dX7_limit_11 : decode cX7_limit 11 = .ok (.ldc 88, 2) := by decide +kernel
theorem dX7_limit_13 : decode cX7_limit 13 = .ok (.invokestatic 70, 3) := by decide +kernel
theorem dX7_limit_16 : decode cX7_limit 16 = .ok (.ifCond .ne 6, 3) := by decide +kernel
theorem dX7_limit_19 : decode cX7_limit 19 = .ok (.ldc 78, 2) := by decide +kernel
theorem dX7_limit_21 : decode cX7_limit 21 = .ok (.ireturn, 1) := by decide +kernel
theorem dX7_limit_22 : decode cX7_limit 22 = .ok (.aload_n 0, 1) := by decide +kernel
theorem dX7_limit_23 : decode cX7_limit 23 = .ok (.getfield 29, 3) := by decide +kernel
theorem dX7_limit_26 : decode cX7_limit 26 = .ok (.iload_n 1, 1) := by decide +kernel
theorem dX7_limit_27 : decode cX7_limit 27 = .ok (.iaload, 1) := by decide +kernel
theorem dX7_limit_28 : decode cX7_limit 28 = .ok (.istore_n 3, 1) := by decide +kernel
theorem dX7_limit_29 : decode cX7_limit 29 = .ok (.aload_n 0, 1) := by decide +kernel
theorem dX7_limit_30 : decode cX7_limit 30 = .ok (.getfield 29, 3) := by decide +kernel
theorem dX7_limit_33 : decode cX7_limit 33 = .ok (.iload_n 1, 1) := by decide +kernel
theorem dX7_limit_34 : decode cX7_limit 34 = .ok (.iload_n 2, 1) := by decide +kernel
theorem dX7_limit_35 : decode cX7_limit 35 = .ok (.iastore, 1) := by decide +kernel
theorem dX7_limit_36 : decode cX7_limit 36 = .ok (.iload_n 3, 1) := by decide +kernel
theorem dX7_limit_37 : decode cX7_limit 37 = .ok (.ireturn, 1) := by decide +kernel
theorem dX7_tune_0 : decode cX7_tune 0 = .ok (.aload_n 0, 1) := by decide +kernel
theorem dX7_tune_1 : decode cX7_tune 1 = .ok (.iload_n 1, 1) := by decide +kernel
theorem dX7_tune_2 : decode cX7_tune 2 = .ok (.invokevirtual 79, 3) := by decide +kernel
theorem dX7_tune_5 : decode cX7_tune 5 = .ok (.ifCond .eq 14, 3) := by decide +kernel
theorem dX7_tune_8 : decode cX7_tune 8 = .ok (.iload_n 2, 1) := by decide +kernel
theorem dX7_tune_9 : decode cX7_tune 9 = .ok (.ldc 89, 2) := by decide +kernel
theorem dX7_tune_11 : decode cX7_tune 11 = .ok (.ldc 90, 2) := by decide +kernel
theorem dX7_tune_13 : decode cX7_tune 13 = .ok (.invokestatic 70, 3) := by decide +kernel
theorem dX7_tune_16 : decode cX7_tune 16 = .ok (.ifCond .ne 6, 3) := by decide +kernel
theorem dX7_tune_19 : decode cX7_tune 19 = .ok (.ldc 78, 2) := by decide +kernel
theorem dX7_tune_21 : decode cX7_tune 21 = .ok (.ireturn, 1) := by decide +kernel
theorem dX7_tune_22 : decode cX7_tune 22 = .ok (.aload_n 0, 1) := by decide +kernel
theorem dX7_tune_23 : decode cX7_tune 23 = .ok (.iload_n 1, 1) := by decide +kernel
theorem dX7_tune_24 : decode cX7_tune 24 = .ok (.invokevirtual 74, 3) := by decide +kernel
theorem dX7_tune_27 : decode cX7_tune 27 = .ok (.ifCond .eq 6, 3) := by decide +kernel
theorem dX7_tune_30 : decode cX7_tune 30 = .ok (.ldc 85, 2) := by decide +kernel
theorem dX7_tune_32 : decode cX7_tune 32 = .ok (.ireturn, 1) := by decide +kernel
theorem dX7_tune_33 : decode cX7_tune 33 = .ok (.aload_n 0, 1) := by decide +kernel
theorem dX7_tune_34 : decode cX7_tune 34 = .ok (.getfield 13, 3) := by decide +kernel
theorem dX7_tune_37 : decode cX7_tune 37 = .ok (.iload_n 1, 1) := by decide +kernel
theorem dX7_tune_38 : decode cX7_tune 38 = .ok (.laload, 1) := by decide +kernel
theorem dX7_tune_39 : decode cX7_tune 39 = .ok (.l2i, 1) := by decide +kernel
theorem dX7_tune_40 : decode cX7_tune 40 = .ok (.istore_n 3, 1) := by decide +kernel
theorem dX7_tune_41 : decode cX7_tune 41 = .ok (.aload_n 0, 1) := by decide +kernel
theorem dX7_tune_42 : decode cX7_tune 42 = .ok (.getfield 13, 3) := by decide +kernel
theorem dX7_tune_45 : decode cX7_tune 45 = .ok (.iload_n 1, 1) := by decide +kernel
theorem dX7_tune_46 : decode cX7_tune 46 = .ok (.iload_n 2, 1) := by decide +kernel
theorem dX7_tune_47 : decode cX7_tune 47 = .ok (.i2l, 1) := by decide +kernel
theorem dX7_tune_48 : decode cX7_tune 48 = .ok (.lastore, 1) := by decide +kernel
theorem dX7_tune_49 : decode cX7_tune 49 = .ok (.iload_n 3, 1) := by decide +kernel
theorem dX7_tune_50 : decode cX7_tune 50 = .ok (.ireturn, 1) := by decide +kernel
theorem dX7_about_0 : decode cX7_about 0 = .ok (.aload_n 0, 1) := by decide +kernel
theorem dX7_about_1 : decode cX7_about 1 = .ok (.iload_n 1, 1) := by decide +kernel
theorem dX7_about_2 : decode cX7_about 2 = .ok (.invokevirtual 79, 3) := by decide +kernel
theorem dX7_about_5 : decode cX7_about 5 = .ok (.ifCond .eq 12, 3) := by decide +kernel
theorem dX7_about_8 : decode cX7_about 8 = .ok (.iload_n 2, 1) := by decide +kernel
theorem dX7_about_9 : decode cX7_about 9 = .ok (.iconst 0, 1) := by decide +kernel
theorem dX7_about_10 : decode cX7_about 10 = .ok (.iconst 3, 1) := by decide +kernel
theorem dX7_about_11 : decode cX7_about 11 = .ok (.invokestatic 70, 3) := by decide +kernel
theorem dX7_about_14 : decode cX7_about 14 = .ok (.ifCond .ne 6, 3) := by decide +kernel
theorem dX7_about_17 : decode cX7_about 17 = .ok (.ldc 78, 2) := by decide +kernel
theorem dX7_about_19 : decode cX7_about 19 = .ok (.ireturn, 1) := by decide +kernel
theorem dX7_about_20 : decode cX7_about 20 = .ok (.iload_n 2, 1) := by decide +kernel
theorem dX7_about_21 : decode cX7_about 21 = .ok (.ifCond .ne 12, 3) := by decide +kernel
theorem dX7_about_24 : decode cX7_about 24 = .ok (.aload_n 0, 1) := by decide +kernel
theorem dX7_about_25 : decode cX7_about 25 = .ok (.getfield 7, 3) := by decide +kernel
theorem dX7_about_28 : decode cX7_about 28 = .ok (.iload_n 1, 1) := by decide +kernel
theorem dX7_about_29 : decode cX7_about 29 = .ok (.iaload, 1) := by decide +kernel
theorem dX7_about_30 : decode cX7_about 30 = .ok (.goto 36, 3) := by decide +kernel
theorem dX7_about_33 : decode cX7_about 33 = .ok (.iload_n 2, 1) := by decide +kernel
theorem dX7_about_34 : decode cX7_about 34 = .ok (.iconst 1, 1) := by decide +kernel
theorem dX7_about_35 : decode cX7_about 35 = .ok (.if_icmp .ne 11, 3) := by decide +kernel
theorem dX7_about_38 : decode cX7_about 38 = .ok (.aload_n 0, 1) := by decide +kernel
theorem dX7_about_39 : decode cX7_about 39 = .ok (.iload_n 1, 1) := by decide +kernel
theorem dX7_about_40 : decode cX7_about 40 = .ok (.invokevirtual 91, 3) := by decide +kernel
theorem dX7_about_43 : decode cX7_about 43 = .ok (.goto 23, 3) := by decide +kernel
theorem dX7_about_46 : decode cX7_about 46 = .ok (.iload_n 2, 1) := by decide +kernel
theorem dX7_about_47 : decode cX7_about 47 = .ok (.iconst 2, 1) := by decide +kernel
theorem dX7_about_48 : decode cX7_about 48 = .ok (.if_icmp .ne 11, 3) := by decide +kernel
theorem dX7_about_51 : decode cX7_about 51 = .ok (.aload_n 0, 1) := by decide +kernel
theorem dX7_about_52 : decode cX7_about 52 = .ok (.iload_n 1, 1) := by decide +kernel
theorem dX7_about_53 : decode cX7_about 53 = .ok (.invokevirtual 95, 3) := by decide +kernel
theorem dX7_about_56 : decode cX7_about 56 = .ok (.goto 10, 3) := by decide +kernel
theorem dX7_about_59 : decode cX7_about 59 = .ok (.aload_n 0, 1) := by decide +kernel
theorem dX7_about_60 : decode cX7_about 60 = .ok (.getfield 13, 3) := by decide +kernel
theorem dX7_about_63 : decode cX7_about 63 = .ok (.iload_n 1, 1) := by decide +kernel
theorem dX7_about_64 : decode cX7_about 64 = .ok (.laload, 1) := by decide +kernel
theorem dX7_about_65 : decode cX7_about 65 = .ok (.l2i, 1) := by decide +kernel
theorem dX7_about_66 : decode cX7_about 66 = .ok (.ireturn, 1) := by decide +kernel
theorem dX7_isOf_0 : decode cX7_isOf 0 = .ok (.aload_n 0, 1) := by decide +kernel
theorem dX7_isOf_1 : decode cX7_isOf 1 = .ok (.iload_n 1, 1) := by decide +kernel
theorem dX7_isOf_2 : decode cX7_isOf 2 = .ok (.invokevirtual 79, 3) := by decide +kernel
theorem dX7_isOf_5 : decode cX7_isOf 5 = .ok (.ifCond .eq 12, 3) := by decide +kernel
theorem dX7_isOf_8 : decode cX7_isOf 8 = .ok (.iload_n 2, 1) := by decide +kernel
theorem dX7_isOf_9 : decode cX7_isOf 9 = .ok (.iconst 0, 1) := by decide +kernel
theorem dX7_isOf_10 : decode cX7_isOf 10 = .ok (.iconst 5, 1) := by decide +kernel
theorem dX7_isOf_11 : decode cX7_isOf 11 = .ok (.invokestatic 70, 3) := by decide +kernel
theorem dX7_isOf_14 : decode cX7_isOf 14 = .ok (.ifCond .ne 6, 3) := by decide +kernel
theorem dX7_isOf_17 : decode cX7_isOf 17 = .ok (.ldc 78, 2) := by decide +kernel
theorem dX7_isOf_19 : decode cX7_isOf 19 = .ok (.ireturn, 1) := by decide +kernel
theorem dX7_isOf_20 : decode cX7_isOf 20 = .ok (.aload_n 0, 1) := by decide +kernel
theorem dX7_isOf_21 : decode cX7_isOf 21 = .ok (.getfield 7, 3) := by decide +kernel
theorem dX7_isOf_24 : decode cX7_isOf 24 = .ok (.iload_n 1, 1) := by decide +kernel
theorem dX7_isOf_25 : decode cX7_isOf 25 = .ok (.iaload, 1) := by decide +kernel
theorem dX7_isOf_26 : decode cX7_isOf 26 = .ok (.istore_n 3, 1) := by decide +kernel
theorem dX7_isOf_27 : decode cX7_isOf 27 = .ok (.iload_n 2, 1) := by decide +kernel
theorem dX7_isOf_28 : decode cX7_isOf 28 = .ok (.ifCond .eq 28, 3) := by decide +kernel
theorem dX7_isOf_31 : decode cX7_isOf 31 = .ok (.iload_n 3, 1) := by decide +kernel
theorem dX7_isOf_32 : decode cX7_isOf 32 = .ok (.iload_n 2, 1) := by decide +kernel
theorem dX7_isOf_33 : decode cX7_isOf 33 = .ok (.if_icmp .eq 23, 3) := by decide +kernel
theorem dX7_isOf_36 : decode cX7_isOf 36 = .ok (.iload_n 2, 1) := by decide +kernel
theorem dX7_isOf_37 : decode cX7_isOf 37 = .ok (.iconst 2, 1) := by decide +kernel
theorem dX7_isOf_38 : decode cX7_isOf 38 = .ok (.if_icmp .ne 8, 3) := by decide +kernel
theorem dX7_isOf_41 : decode cX7_isOf 41 = .ok (.iload_n 3, 1) := by decide +kernel
theorem dX7_isOf_42 : decode cX7_isOf 42 = .ok (.iconst 3, 1) := by decide +kernel
theorem dX7_isOf_43 : decode cX7_isOf 43 = .ok (.if_icmp .eq 13, 3) := by decide +kernel
theorem dX7_isOf_46 : decode cX7_isOf 46 = .ok (.iload_n 2, 1) := by decide +kernel
theorem dX7_isOf_47 : decode cX7_isOf 47 = .ok (.iconst 1, 1) := by decide +kernel
theorem dX7_isOf_48 : decode cX7_isOf 48 = .ok (.if_icmp .ne 12, 3) := by decide +kernel
theorem dX7_isOf_51 : decode cX7_isOf 51 = .ok (.iload_n 3, 1) := by decide +kernel
theorem dX7_isOf_52 : decode cX7_isOf 52 = .ok (.iconst 5, 1) := by decide +kernel
theorem dX7_isOf_53 : decode cX7_isOf 53 = .ok (.if_icmp .ne 7, 3) := by decide +kernel
theorem dX7_isOf_56 : decode cX7_isOf 56 = .ok (.iconst 1, 1) := by decide +kernel
theorem dX7_isOf_57 : decode cX7_isOf 57 = .ok (.goto 4, 3) := by decide +kernel
theorem dX7_isOf_60 : decode cX7_isOf 60 = .ok (.iconst 0, 1) := by decide +kernel
theorem dX7_isOf_61 : decode cX7_isOf 61 = .ok (.istore 4, 2) := by decide +kernel
theorem dX7_isOf_63 : decode cX7_isOf 63 = .ok (.iload 4, 2) := by decide +kernel
theorem dX7_isOf_65 : decode cX7_isOf 65 = .ok (.ifCond .eq 7, 3) := by decide +kernel
theorem dX7_isOf_68 : decode cX7_isOf 68 = .ok (.iconst 1, 1) := by decide +kernel
theorem dX7_isOf_69 : decode cX7_isOf 69 = .ok (.goto 4, 3) := by decide +kernel
theorem dX7_isOf_72 : decode cX7_isOf 72 = .ok (.iconst 0, 1) := by decide +kernel
theorem dX7_isOf_73 : decode cX7_isOf 73 = .ok (.ireturn, 1) := by decide +kernel
theorem dX7_tells_0 : decode cX7_tells 0 = .ok (.iload_n 1, 1) := by decide +kernel
theorem dX7_tells_1 : decode cX7_tells 1 = .ok (.iconst 0, 1) := by decide +kernel
theorem dX7_tells_2 : decode cX7_tells 2 = .ok (.iconst 5, 1) := by decide +kernel
theorem dX7_tells_3 : decode cX7_tells 3 = .ok (.invokestatic 70, 3) := by decide +kernel
theorem dX7_tells_6 : decode cX7_tells 6 = .ok (.ifCond .eq 22, 3) := by decide +kernel
theorem dX7_tells_9 : decode cX7_tells 9 = .ok (.iload_n 2, 1) := by decide +kernel
theorem dX7_tells_10 : decode cX7_tells 10 = .ok (.iconst 0, 1) := by decide +kernel
theorem dX7_tells_11 : decode cX7_tells 11 = .ok (.bipush 16, 2) := by decide +kernel
theorem dX7_tells_13 : decode cX7_tells 13 = .ok (.invokestatic 70, 3) := by decide +kernel
theorem dX7_tells_16 : decode cX7_tells 16 = .ok (.ifCond .eq 12, 3) := by decide +kernel
theorem dX7_tells_19 : decode cX7_tells 19 = .ok (.aload_n 0, 1) := by decide +kernel
theorem dX7_tells_20 : decode cX7_tells 20 = .ok (.iload_n 1, 1) := by decide +kernel
theorem dX7_tells_21 : decode cX7_tells 21 = .ok (.iload_n 2, 1) := by decide +kernel
theorem dX7_tells_22 : decode cX7_tells 22 = .ok (.invokevirtual 98, 3) := by decide +kernel
theorem dX7_tells_25 : decode cX7_tells 25 = .ok (.goto 5, 3) := by decide +kernel
theorem dX7_tells_28 : decode cX7_tells 28 = .ok (.ldc 78, 2) := by decide +kernel
theorem dX7_tells_30 : decode cX7_tells 30 = .ok (.ireturn, 1) := by decide +kernel
theorem dX7_next_0 : decode cX7_next 0 = .ok (.iconst 1, 1) := by decide +kernel
theorem dX7_next_1 : decode cX7_next 1 = .ok (.istore 4, 2) := by decide +kernel
theorem dX7_next_3 : decode cX7_next 3 = .ok (.iload 4, 2) := by decide +kernel
theorem dX7_next_5 : decode cX7_next 5 = .ok (.aload_n 0, 1) := by decide +kernel
theorem dX7_next_6 : decode cX7_next 6 = .ok (.getfield 58, 3) := by decide +kernel
theorem dX7_next_9 : decode cX7_next 9 = .ok (.if_icmp .gt 46, 3) := by decide +kernel
theorem dX7_next_12 : decode cX7_next 12 = .ok (.aload_n 0, 1) := by decide +kernel
theorem dX7_next_13 : decode cX7_next 13 = .ok (.getfield 20, 3) := by decide +kernel
theorem dX7_next_16 : decode cX7_next 16 = .ok (.bipush 32, 2) := by decide +kernel
theorem dX7_next_18 : decode cX7_next 18 = .ok (.iload_n 1, 1) := by decide +kernel
theorem dX7_next_19 : decode cX7_next 19 = .ok (.imul, 1) := by decide +kernel
theorem dX7_next_20 : decode cX7_next 20 = .ok (.iload_n 2, 1) := by decide +kernel
theorem dX7_next_21 : decode cX7_next 21 = .ok (.iload_n 3, 1) := by decide +kernel
theorem dX7_next_22 : decode cX7_next 22 = .ok (.iload 4, 2) := by decide +kernel
theorem dX7_next_24 : decode cX7_next 24 = .ok (.imul, 1) := by decide +kernel
theorem dX7_next_25 : decode cX7_next 25 = .ok (.iadd, 1) := by decide +kernel
theorem dX7_next_26 : decode cX7_next 26 = .ok (.aload_n 0, 1) := by decide +kernel
theorem dX7_next_27 : decode cX7_next 27 = .ok (.getfield 58, 3) := by decide +kernel
theorem dX7_next_30 : decode cX7_next 30 = .ok (.iconst 2, 1) := by decide +kernel
theorem dX7_next_31 : decode cX7_next 31 = .ok (.imul, 1) := by decide +kernel
theorem dX7_next_32 : decode cX7_next 32 = .ok (.iadd, 1) := by decide +kernel
theorem dX7_next_33 : decode cX7_next 33 = .ok (.aload_n 0, 1) := by decide +kernel
theorem dX7_next_34 : decode cX7_next 34 = .ok (.getfield 58, 3) := by decide +kernel
theorem dX7_next_37 : decode cX7_next 37 = .ok (.irem, 1) := by decide +kernel
theorem dX7_next_38 : decode cX7_next 38 = .ok (.iadd, 1) := by decide +kernel
theorem dX7_next_39 : decode cX7_next 39 = .ok (.iaload, 1) := by decide +kernel
theorem dX7_next_40 : decode cX7_next 40 = .ok (.sipush (-10000), 3) := by decide +kernel
theorem dX7_next_43 : decode cX7_next 43 = .ok (.if_icmp .eq 6, 3) := by decide +kernel
theorem dX7_next_46 : decode cX7_next 46 = .ok (.iload 4, 2) := by decide +kernel
theorem dX7_next_48 : decode cX7_next 48 = .ok (.ireturn, 1) := by decide +kernel
theorem dX7_next_49 : decode cX7_next 49 = .ok (.iinc 4 1, 3) := by decide +kernel
theorem dX7_next_52 : decode cX7_next 52 = .ok (.goto (-49), 3) := by decide +kernel
theorem dX7_next_55 : decode cX7_next 55 = .ok (.iconst 0, 1) := by decide +kernel
theorem dX7_next_56 : decode cX7_next 56 = .ok (.ireturn, 1) := by decide +kernel
theorem dX7_unbentAt_0 : decode cX7_unbentAt 0 = .ok (.iconst 0, 1) := by decide +kernel
theorem dX7_unbentAt_1 : decode cX7_unbentAt 1 = .ok (.istore_n 3, 1) := by decide +kernel
theorem dX7_unbentAt_2 : decode cX7_unbentAt 2 = .ok (.iload_n 3, 1) := by decide +kernel
theorem dX7_unbentAt_3 : decode cX7_unbentAt 3 = .ok (.iconst 2, 1) := by decide +kernel
theorem dX7_unbentAt_4 : decode cX7_unbentAt 4 = .ok (.aload_n 0, 1) := by decide +kernel
theorem dX7_unbentAt_5 : decode cX7_unbentAt 5 = .ok (.getfield 58, 3) := by decide +kernel
theorem dX7_unbentAt_8 : decode cX7_unbentAt 8 = .ok (.imul, 1) := by decide +kernel
theorem dX7_unbentAt_9 : decode cX7_unbentAt 9 = .ok (.if_icmp .ge 53, 3) := by decide +kernel
theorem dX7_unbentAt_12 : decode cX7_unbentAt 12 = .ok (.aload_n 0, 1) := by decide +kernel
theorem dX7_unbentAt_13 : decode cX7_unbentAt 13 = .ok (.getfield 66, 3) := by decide +kernel
theorem dX7_unbentAt_16 : decode cX7_unbentAt 16 = .ok (.ifCond .ne 46, 3) := by decide +kernel
theorem dX7_unbentAt_19 : decode cX7_unbentAt 19 = .ok (.aload_n 0, 1) := by decide +kernel
theorem dX7_unbentAt_20 : decode cX7_unbentAt 20 = .ok (.getfield 48, 3) := by decide +kernel
theorem dX7_unbentAt_23 : decode cX7_unbentAt 23 = .ok (.bipush 32, 2) := by decide +kernel
theorem dX7_unbentAt_25 : decode cX7_unbentAt 25 = .ok (.iload_n 3, 1) := by decide +kernel
theorem dX7_unbentAt_26 : decode cX7_unbentAt 26 = .ok (.aload_n 0, 1) := by decide +kernel
theorem dX7_unbentAt_27 : decode cX7_unbentAt 27 = .ok (.getfield 58, 3) := by decide +kernel
theorem dX7_unbentAt_30 : decode cX7_unbentAt 30 = .ok (.idiv, 1) := by decide +kernel
theorem dX7_unbentAt_31 : decode cX7_unbentAt 31 = .ok (.imul, 1) := by decide +kernel
theorem dX7_unbentAt_32 : decode cX7_unbentAt 32 = .ok (.iload_n 3, 1) := by decide +kernel
theorem dX7_unbentAt_33 : decode cX7_unbentAt 33 = .ok (.aload_n 0, 1) := by decide +kernel
theorem dX7_unbentAt_34 : decode cX7_unbentAt 34 = .ok (.getfield 58, 3) := by decide +kernel
theorem dX7_unbentAt_37 : decode cX7_unbentAt 37 = .ok (.irem, 1) := by decide +kernel
theorem dX7_unbentAt_38 : decode cX7_unbentAt 38 = .ok (.iadd, 1) := by decide +kernel
theorem dX7_unbentAt_39 : decode cX7_unbentAt 39 = .ok (.aload_n 0, 1) := by decide +kernel
theorem dX7_unbentAt_40 : decode cX7_unbentAt 40 = .ok (.iload_n 3, 1) := by decide +kernel
theorem dX7_unbentAt_41 : decode cX7_unbentAt 41 = .ok (.aload_n 0, 1) := by decide +kernel
theorem dX7_unbentAt_42 : decode cX7_unbentAt 42 = .ok (.getfield 58, 3) := by decide +kernel
theorem dX7_unbentAt_45 : decode cX7_unbentAt 45 = .ok (.idiv, 1) := by decide +kernel
theorem dX7_unbentAt_46 : decode cX7_unbentAt 46 = .ok (.iload_n 3, 1) := by decide +kernel
theorem dX7_unbentAt_47 : decode cX7_unbentAt 47 = .ok (.aload_n 0, 1) := by decide +kernel
theorem dX7_unbentAt_48 : decode cX7_unbentAt 48 = .ok (.getfield 58, 3) := by decide +kernel
theorem dX7_unbentAt_51 : decode cX7_unbentAt 51 = .ok (.irem, 1) := by decide +kernel
theorem dX7_unbentAt_52 : decode cX7_unbentAt 52 = .ok (.invokevirtual 102, 3) := by decide +kernel
theorem dX7_unbentAt_55 : decode cX7_unbentAt 55 = .ok (.lastore, 1) := by decide +kernel
theorem dX7_unbentAt_56 : decode cX7_unbentAt 56 = .ok (.iinc 3 1, 3) := by decide +kernel
theorem dX7_unbentAt_59 : decode cX7_unbentAt 59 = .ok (.goto (-57), 3) := by decide +kernel
theorem dX7_unbentAt_62 : decode cX7_unbentAt 62 = .ok (.aload_n 0, 1) := by decide +kernel
theorem dX7_unbentAt_63 : decode cX7_unbentAt 63 = .ok (.iconst 1, 1) := by decide +kernel
theorem dX7_unbentAt_64 : decode cX7_unbentAt 64 = .ok (.putfield 66, 3) := by decide +kernel
theorem dX7_unbentAt_67 : decode cX7_unbentAt 67 = .ok (.aload_n 0, 1) := by decide +kernel
theorem dX7_unbentAt_68 : decode cX7_unbentAt 68 = .ok (.getfield 48, 3) := by decide +kernel
theorem dX7_unbentAt_71 : decode cX7_unbentAt 71 = .ok (.bipush 32, 2) := by decide +kernel
theorem dX7_unbentAt_73 : decode cX7_unbentAt 73 = .ok (.iload_n 1, 1) := by decide +kernel
theorem dX7_unbentAt_74 : decode cX7_unbentAt 74 = .ok (.imul, 1) := by decide +kernel
theorem dX7_unbentAt_75 : decode cX7_unbentAt 75 = .ok (.iload_n 2, 1) := by decide +kernel
theorem dX7_unbentAt_76 : decode cX7_unbentAt 76 = .ok (.iadd, 1) := by decide +kernel
theorem dX7_unbentAt_77 : decode cX7_unbentAt 77 = .ok (.laload, 1) := by decide +kernel
theorem dX7_unbentAt_78 : decode cX7_unbentAt 78 = .ok (.lreturn, 1) := by decide +kernel
theorem dX7_between_0 : decode cX7_between 0 = .ok (.aload_n 0, 1) := by decide +kernel
theorem dX7_between_1 : decode cX7_between 1 = .ok (.getfield 20, 3) := by decide +kernel
theorem dX7_between_4 : decode cX7_between 4 = .ok (.bipush 32, 2) := by decide +kernel
theorem dX7_between_6 : decode cX7_between 6 = .ok (.iload_n 1, 1) := by decide +kernel
theorem dX7_between_7 : decode cX7_between 7 = .ok (.imul, 1) := by decide +kernel
theorem dX7_between_8 : decode cX7_between 8 = .ok (.iload_n 2, 1) := by decide +kernel
theorem dX7_between_9 : decode cX7_between 9 = .ok (.iadd, 1) := by decide +kernel
theorem dX7_between_10 : decode cX7_between 10 = .ok (.iaload, 1) := by decide +kernel
theorem dX7_between_11 : decode cX7_between 11 = .ok (.sipush (-10000), 3) := by decide +kernel
theorem dX7_between_14 : decode cX7_between 14 = .ok (.if_icmp .eq 16, 3) := by decide +kernel
theorem dX7_between_17 : decode cX7_between 17 = .ok (.aload_n 0, 1) := by decide +kernel
theorem dX7_between_18 : decode cX7_between 18 = .ok (.getfield 20, 3) := by decide +kernel
theorem dX7_between_21 : decode cX7_between 21 = .ok (.bipush 32, 2) := by decide +kernel
theorem dX7_between_23 : decode cX7_between 23 = .ok (.iload_n 1, 1) := by decide +kernel
theorem dX7_between_24 : decode cX7_between 24 = .ok (.imul, 1) := by decide +kernel
theorem dX7_between_25 : decode cX7_between 25 = .ok (.iload_n 2, 1) := by decide +kernel
theorem dX7_between_26 : decode cX7_between 26 = .ok (.iadd, 1) := by decide +kernel
theorem dX7_between_27 : decode cX7_between 27 = .ok (.iaload, 1) := by decide +kernel
theorem dX7_between_28 : decode cX7_between 28 = .ok (.i2l, 1) := by decide +kernel
theorem dX7_between_29 : decode cX7_between 29 = .ok (.lreturn, 1) := by decide +kernel
theorem dX7_between_30 : decode cX7_between 30 = .ok (.aload_n 0, 1) := by decide +kernel
theorem dX7_between_31 : decode cX7_between 31 = .ok (.iload_n 1, 1) := by decide +kernel
theorem dX7_between_32 : decode cX7_between 32 = .ok (.iload_n 2, 1) := by decide +kernel
theorem dX7_between_33 : decode cX7_between 33 = .ok (.iconst (-1), 1) := by decide +kernel
theorem dX7_between_34 : decode cX7_between 34 = .ok (.invokevirtual 106, 3) := by decide +kernel
theorem dX7_between_37 : decode cX7_between 37 = .ok (.istore_n 3, 1) := by decide +kernel
theorem dX7_between_38 : decode cX7_between 38 = .ok (.aload_n 0, 1) := by decide +kernel
theorem dX7_between_39 : decode cX7_between 39 = .ok (.iload_n 1, 1) := by decide +kernel
theorem dX7_between_40 : decode cX7_between 40 = .ok (.iload_n 2, 1) := by decide +kernel
theorem dX7_between_41 : decode cX7_between 41 = .ok (.iconst 1, 1) := by decide +kernel
theorem dX7_between_42 : decode cX7_between 42 = .ok (.invokevirtual 106, 3) := by decide +kernel
theorem dX7_between_45 : decode cX7_between 45 = .ok (.istore 4, 2) := by decide +kernel
theorem dX7_between_47 : decode cX7_between 47 = .ok (.iload_n 3, 1) := by decide +kernel
theorem dX7_between_48 : decode cX7_between 48 = .ok (.ifCond .ne 5, 3) := by decide +kernel
theorem dX7_between_51 : decode cX7_between 51 = .ok (.lconst 0, 1) := by decide +kernel
theorem dX7_between_52 : decode cX7_between 52 = .ok (.lreturn, 1) := by decide +kernel
theorem dX7_between_53 : decode cX7_between 53 = .ok (.aload_n 0, 1) := by decide +kernel
theorem dX7_between_54 : decode cX7_between 54 = .ok (.getfield 20, 3) := by decide +kernel
theorem dX7_between_57 : decode cX7_between 57 = .ok (.bipush 32, 2) := by decide +kernel
theorem dX7_between_59 : decode cX7_between 59 = .ok (.iload_n 1, 1) := by decide +kernel
theorem dX7_between_60 : decode cX7_between 60 = .ok (.imul, 1) := by decide +kernel
theorem dX7_between_61 : decode cX7_between 61 = .ok (.iload_n 2, 1) := by decide +kernel
theorem dX7_between_62 : decode cX7_between 62 = .ok (.iload_n 3, 1) := by decide +kernel
theorem dX7_between_63 : decode cX7_between 63 = .ok (.isub, 1) := by decide +kernel
theorem dX7_between_64 : decode cX7_between 64 = .ok (.aload_n 0, 1) := by decide +kernel
theorem dX7_between_65 : decode cX7_between 65 = .ok (.getfield 58, 3) := by decide +kernel
theorem dX7_between_68 : decode cX7_between 68 = .ok (.iadd, 1) := by decide +kernel
theorem dX7_between_69 : decode cX7_between 69 = .ok (.aload_n 0, 1) := by decide +kernel
theorem dX7_between_70 : decode cX7_between 70 = .ok (.getfield 58, 3) := by decide +kernel
theorem dX7_between_73 : decode cX7_between 73 = .ok (.irem, 1) := by decide +kernel
theorem dX7_between_74 : decode cX7_between 74 = .ok (.iadd, 1) := by decide +kernel
theorem dX7_between_75 : decode cX7_between 75 = .ok (.iaload, 1) := by decide +kernel
theorem dX7_between_76 : decode cX7_between 76 = .ok (.i2l, 1) := by decide +kernel
theorem dX7_between_77 : decode cX7_between 77 = .ok (.lstore 5, 2) := by decide +kernel
theorem dX7_between_79 : decode cX7_between 79 = .ok (.aload_n 0, 1) := by decide +kernel
theorem dX7_between_80 : decode cX7_between 80 = .ok (.getfield 20, 3) := by decide +kernel
theorem dX7_between_83 : decode cX7_between 83 = .ok (.bipush 32, 2) := by decide +kernel
theorem dX7_between_85 : decode cX7_between 85 = .ok (.iload_n 1, 1) := by decide +kernel
theorem dX7_between_86 : decode cX7_between 86 = .ok (.imul, 1) := by decide +kernel
theorem dX7_between_87 : decode cX7_between 87 = .ok (.iload_n 2, 1) := by decide +kernel
theorem dX7_between_88 : decode cX7_between 88 = .ok (.iload 4, 2) := by decide +kernel
theorem dX7_between_90 : decode cX7_between 90 = .ok (.iadd, 1) := by decide +kernel
theorem dX7_between_91 : decode cX7_between 91 = .ok (.aload_n 0, 1) := by decide +kernel
theorem dX7_between_92 : decode cX7_between 92 = .ok (.getfield 58, 3) := by decide +kernel
theorem dX7_between_95 : decode cX7_between 95 = .ok (.irem, 1) := by decide +kernel
theorem dX7_between_96 : decode cX7_between 96 = .ok (.iadd, 1) := by decide +kernel
theorem dX7_between_97 : decode cX7_between 97 = .ok (.iaload, 1) := by decide +kernel
theorem dX7_between_98 : decode cX7_between 98 = .ok (.i2l, 1) := by decide +kernel
theorem dX7_between_99 : decode cX7_between 99 = .ok (.lstore 7, 2) := by decide +kernel
theorem dX7_between_101 : decode cX7_between 101 = .ok (.lload 5, 2) := by decide +kernel
theorem dX7_between_103 : decode cX7_between 103 = .ok (.iload 4, 2) := by decide +kernel
theorem dX7_between_105 : decode cX7_between 105 = .ok (.i2l, 1) := by decide +kernel
theorem dX7_between_106 : decode cX7_between 106 = .ok (.lmul, 1) := by decide +kernel
theorem dX7_between_107 : decode cX7_between 107 = .ok (.lload 7, 2) := by decide +kernel
theorem dX7_between_109 : decode cX7_between 109 = .ok (.iload_n 3, 1) := by decide +kernel
theorem dX7_between_110 : decode cX7_between 110 = .ok (.i2l, 1) := by decide +kernel
theorem dX7_between_111 : decode cX7_between 111 = .ok (.lmul, 1) := by decide +kernel
theorem dX7_between_112 : decode cX7_between 112 = .ok (.ladd, 1) := by decide +kernel
theorem dX7_between_113 : decode cX7_between 113 = .ok (.iload_n 3, 1) := by decide +kernel
theorem dX7_between_114 : decode cX7_between 114 = .ok (.iload 4, 2) := by decide +kernel
theorem dX7_between_116 : decode cX7_between 116 = .ok (.iadd, 1) := by decide +kernel
theorem dX7_between_117 : decode cX7_between 117 = .ok (.i2l, 1) := by decide +kernel
theorem dX7_between_118 : decode cX7_between 118 = .ok (.invokestatic 110, 3) := by decide +kernel
theorem dX7_between_121 : decode cX7_between 121 = .ok (.lreturn, 1) := by decide +kernel
theorem dX7_readingAt_0 : decode cX7_readingAt 0 = .ok (.aload_n 0, 1) := by decide +kernel
theorem dX7_readingAt_1 : decode cX7_readingAt 1 = .ok (.iload_n 1, 1) := by decide +kernel
theorem dX7_readingAt_2 : decode cX7_readingAt 2 = .ok (.iload_n 2, 1) := by decide +kernel
theorem dX7_readingAt_3 : decode cX7_readingAt 3 = .ok (.invokevirtual 114, 3) := by decide +kernel
theorem dX7_readingAt_6 : decode cX7_readingAt 6 = .ok (.aload_n 0, 1) := by decide +kernel
theorem dX7_readingAt_7 : decode cX7_readingAt 7 = .ok (.getfield 17, 3) := by decide +kernel
theorem dX7_readingAt_10 : decode cX7_readingAt 10 = .ok (.bipush 32, 2) := by decide +kernel
theorem dX7_readingAt_12 : decode cX7_readingAt 12 = .ok (.iload_n 1, 1) := by decide +kernel
theorem dX7_readingAt_13 : decode cX7_readingAt 13 = .ok (.imul, 1) := by decide +kernel
theorem dX7_readingAt_14 : decode cX7_readingAt 14 = .ok (.iload_n 2, 1) := by decide +kernel
theorem dX7_readingAt_15 : decode cX7_readingAt 15 = .ok (.iadd, 1) := by decide +kernel
theorem dX7_readingAt_16 : decode cX7_readingAt 16 = .ok (.laload, 1) := by decide +kernel
theorem dX7_readingAt_17 : decode cX7_readingAt 17 = .ok (.ladd, 1) := by decide +kernel
theorem dX7_readingAt_18 : decode cX7_readingAt 18 = .ok (.lreturn, 1) := by decide +kernel
theorem dX7_unbent_0 : decode cX7_unbent 0 = .ok (.iload_n 1, 1) := by decide +kernel
theorem dX7_unbent_1 : decode cX7_unbent 1 = .ok (.iconst 0, 1) := by decide +kernel
theorem dX7_unbent_2 : decode cX7_unbent 2 = .ok (.iconst 1, 1) := by decide +kernel
theorem dX7_unbent_3 : decode cX7_unbent 3 = .ok (.invokestatic 70, 3) := by decide +kernel
theorem dX7_unbent_6 : decode cX7_unbent 6 = .ok (.ifCond .eq 21, 3) := by decide +kernel
theorem dX7_unbent_9 : decode cX7_unbent 9 = .ok (.aload_n 0, 1) := by decide +kernel
theorem dX7_unbent_10 : decode cX7_unbent 10 = .ok (.iload_n 2, 1) := by decide +kernel
theorem dX7_unbent_11 : decode cX7_unbent 11 = .ok (.invokevirtual 79, 3) := by decide +kernel
theorem dX7_unbent_14 : decode cX7_unbent 14 = .ok (.ifCond .eq 13, 3) := by decide +kernel
theorem dX7_unbent_17 : decode cX7_unbent 17 = .ok (.aload_n 0, 1) := by decide +kernel
theorem dX7_unbent_18 : decode cX7_unbent 18 = .ok (.iload_n 1, 1) := by decide +kernel
theorem dX7_unbent_19 : decode cX7_unbent 19 = .ok (.iload_n 2, 1) := by decide +kernel
theorem dX7_unbent_20 : decode cX7_unbent 20 = .ok (.invokevirtual 114, 3) := by decide +kernel
theorem dX7_unbent_23 : decode cX7_unbent 23 = .ok (.l2i, 1) := by decide +kernel
theorem dX7_unbent_24 : decode cX7_unbent 24 = .ok (.goto 5, 3) := by decide +kernel
theorem dX7_unbent_27 : decode cX7_unbent 27 = .ok (.ldc 78, 2) := by decide +kernel
theorem dX7_unbent_29 : decode cX7_unbent 29 = .ok (.ireturn, 1) := by decide +kernel
theorem dX7_reading_0 : decode cX7_reading 0 = .ok (.iload_n 1, 1) := by decide +kernel
theorem dX7_reading_1 : decode cX7_reading 1 = .ok (.iconst 0, 1) := by decide +kernel
theorem dX7_reading_2 : decode cX7_reading 2 = .ok (.iconst 1, 1) := by decide +kernel
theorem dX7_reading_3 : decode cX7_reading 3 = .ok (.invokestatic 70, 3) := by decide +kernel
theorem dX7_reading_6 : decode cX7_reading 6 = .ok (.ifCond .eq 21, 3) := by decide +kernel
theorem dX7_reading_9 : decode cX7_reading 9 = .ok (.aload_n 0, 1) := by decide +kernel
theorem dX7_reading_10 : decode cX7_reading 10 = .ok (.iload_n 2, 1) := by decide +kernel
theorem dX7_reading_11 : decode cX7_reading 11 = .ok (.invokevirtual 79, 3) := by decide +kernel
theorem dX7_reading_14 : decode cX7_reading 14 = .ok (.ifCond .eq 13, 3) := by decide +kernel
theorem dX7_reading_17 : decode cX7_reading 17 = .ok (.aload_n 0, 1) := by decide +kernel
theorem dX7_reading_18 : decode cX7_reading 18 = .ok (.iload_n 1, 1) := by decide +kernel
theorem dX7_reading_19 : decode cX7_reading 19 = .ok (.iload_n 2, 1) := by decide +kernel
theorem dX7_reading_20 : decode cX7_reading 20 = .ok (.invokevirtual 117, 3) := by decide +kernel
theorem dX7_reading_23 : decode cX7_reading 23 = .ok (.l2i, 1) := by decide +kernel
theorem dX7_reading_24 : decode cX7_reading 24 = .ok (.goto 5, 3) := by decide +kernel
theorem dX7_reading_27 : decode cX7_reading 27 = .ok (.ldc 78, 2) := by decide +kernel
theorem dX7_reading_29 : decode cX7_reading 29 = .ok (.ireturn, 1) := by decide +kernel
theorem dX7_middle_0 : decode cX7_middle 0 = .ok (.lconst 0, 1) := by decide +kernel
theorem dX7_middle_1 : decode cX7_middle 1 = .ok (.lstore_n 1, 1) := by decide +kernel
theorem dX7_middle_2 : decode cX7_middle 2 = .ok (.iconst 0, 1) := by decide +kernel
theorem dX7_middle_3 : decode cX7_middle 3 = .ok (.istore_n 3, 1) := by decide +kernel
theorem dX7_middle_4 : decode cX7_middle 4 = .ok (.iload_n 3, 1) := by decide +kernel
theorem dX7_middle_5 : decode cX7_middle 5 = .ok (.aload_n 0, 1) := by decide +kernel
theorem dX7_middle_6 : decode cX7_middle 6 = .ok (.getfield 58, 3) := by decide +kernel
theorem dX7_middle_9 : decode cX7_middle 9 = .ok (.if_icmp .ge 18, 3) := by decide +kernel
theorem dX7_middle_12 : decode cX7_middle 12 = .ok (.lload_n 1, 1) := by decide +kernel
theorem dX7_middle_13 : decode cX7_middle 13 = .ok (.aload_n 0, 1) := by decide +kernel
theorem dX7_middle_14 : decode cX7_middle 14 = .ok (.iconst 0, 1) := by decide +kernel
theorem dX7_middle_15 : decode cX7_middle 15 = .ok (.iload_n 3, 1) := by decide +kernel
theorem dX7_middle_16 : decode cX7_middle 16 = .ok (.invokevirtual 117, 3) := by decide +kernel
theorem dX7_middle_19 : decode cX7_middle 19 = .ok (.ladd, 1) := by decide +kernel
theorem dX7_middle_20 : decode cX7_middle 20 = .ok (.lstore_n 1, 1) := by decide +kernel
theorem dX7_middle_21 : decode cX7_middle 21 = .ok (.iinc 3 1, 3) := by decide +kernel
theorem dX7_middle_24 : decode cX7_middle 24 = .ok (.goto (-20), 3) := by decide +kernel
theorem dX7_middle_27 : decode cX7_middle 27 = .ok (.lload_n 1, 1) := by decide +kernel
theorem dX7_middle_28 : decode cX7_middle 28 = .ok (.aload_n 0, 1) := by decide +kernel
theorem dX7_middle_29 : decode cX7_middle 29 = .ok (.getfield 58, 3) := by decide +kernel
theorem dX7_middle_32 : decode cX7_middle 32 = .ok (.i2l, 1) := by decide +kernel
theorem dX7_middle_33 : decode cX7_middle 33 = .ok (.invokestatic 110, 3) := by decide +kernel
theorem dX7_middle_36 : decode cX7_middle 36 = .ok (.lreturn, 1) := by decide +kernel
theorem dX7_spread_0 : decode cX7_spread 0 = .ok (.lconst 0, 1) := by decide +kernel
theorem dX7_spread_1 : decode cX7_spread 1 = .ok (.lstore_n 2, 1) := by decide +kernel
theorem dX7_spread_2 : decode cX7_spread 2 = .ok (.lconst 0, 1) := by decide +kernel
theorem dX7_spread_3 : decode cX7_spread 3 = .ok (.lstore 4, 2) := by decide +kernel
theorem dX7_spread_5 : decode cX7_spread 5 = .ok (.iconst 0, 1) := by decide +kernel
theorem dX7_spread_6 : decode cX7_spread 6 = .ok (.istore 6, 2) := by decide +kernel
theorem dX7_spread_8 : decode cX7_spread 8 = .ok (.iconst 0, 1) := by decide +kernel
theorem dX7_spread_9 : decode cX7_spread 9 = .ok (.istore 7, 2) := by decide +kernel
theorem dX7_spread_11 : decode cX7_spread 11 = .ok (.iload 7, 2) := by decide +kernel
theorem dX7_spread_13 : decode cX7_spread 13 = .ok (.aload_n 0, 1) := by decide +kernel
theorem dX7_spread_14 : decode cX7_spread 14 = .ok (.getfield 58, 3) := by decide +kernel
theorem dX7_spread_17 : decode cX7_spread 17 = .ok (.if_icmp .ge 83, 3) := by decide +kernel
theorem dX7_spread_20 : decode cX7_spread 20 = .ok (.aload_n 0, 1) := by decide +kernel
theorem dX7_spread_21 : decode cX7_spread 21 = .ok (.iload 7, 2) := by decide +kernel
theorem dX7_spread_23 : decode cX7_spread 23 = .ok (.invokevirtual 91, 3) := by decide +kernel
theorem dX7_spread_26 : decode cX7_spread 26 = .ok (.iload_n 1, 1) := by decide +kernel
theorem dX7_spread_27 : decode cX7_spread 27 = .ok (.if_icmp .ne 67, 3) := by decide +kernel
theorem dX7_spread_30 : decode cX7_spread 30 = .ok (.iload 6, 2) := by decide +kernel
theorem dX7_spread_32 : decode cX7_spread 32 = .ok (.ifCond .eq 15, 3) := by decide +kernel
theorem dX7_spread_35 : decode cX7_spread 35 = .ok (.aload_n 0, 1) := by decide +kernel
theorem dX7_spread_36 : decode cX7_spread 36 = .ok (.getfield 13, 3) := by decide +kernel
theorem dX7_spread_39 : decode cX7_spread 39 = .ok (.iload 7, 2) := by decide +kernel
theorem dX7_spread_41 : decode cX7_spread 41 = .ok (.laload, 1) := by decide +kernel
theorem dX7_spread_42 : decode cX7_spread 42 = .ok (.lload_n 2, 1) := by decide +kernel
theorem dX7_spread_43 : decode cX7_spread 43 = .ok (.lcmp, 1) := by decide +kernel
theorem dX7_spread_44 : decode cX7_spread 44 = .ok (.ifCond .ge 13, 3) := by decide +kernel
theorem dX7_spread_47 : decode cX7_spread 47 = .ok (.aload_n 0, 1) := by decide +kernel
theorem dX7_spread_48 : decode cX7_spread 48 = .ok (.getfield 13, 3) := by decide +kernel
theorem dX7_spread_51 : decode cX7_spread 51 = .ok (.iload 7, 2) := by decide +kernel
theorem dX7_spread_53 : decode cX7_spread 53 = .ok (.laload, 1) := by decide +kernel
theorem dX7_spread_54 : decode cX7_spread 54 = .ok (.goto 4, 3) := by decide +kernel
theorem dX7_spread_57 : decode cX7_spread 57 = .ok (.lload_n 2, 1) := by decide +kernel
theorem dX7_spread_58 : decode cX7_spread 58 = .ok (.lstore_n 2, 1) := by decide +kernel
theorem dX7_spread_59 : decode cX7_spread 59 = .ok (.iload 6, 2) := by decide +kernel
theorem dX7_spread_61 : decode cX7_spread 61 = .ok (.ifCond .eq 16, 3) := by decide +kernel
theorem dX7_spread_64 : decode cX7_spread 64 = .ok (.aload_n 0, 1) := by decide +kernel
theorem dX7_spread_65 : decode cX7_spread 65 = .ok (.getfield 13, 3) := by decide +kernel
theorem dX7_spread_68 : decode cX7_spread 68 = .ok (.iload 7, 2) := by decide +kernel
theorem dX7_spread_70 : decode cX7_spread 70 = .ok (.laload, 1) := by decide +kernel
theorem dX7_spread_71 : decode cX7_spread 71 = .ok (.lload 4, 2) := by decide +kernel
theorem dX7_spread_73 : decode cX7_spread 73 = .ok (.lcmp, 1) := by decide +kernel
theorem dX7_spread_74 : decode cX7_spread 74 = .ok (.ifCond .le 13, 3) := by decide +kernel
theorem dX7_spread_77 : decode cX7_spread 77 = .ok (.aload_n 0, 1) := by decide +kernel
theorem dX7_spread_78 : decode cX7_spread 78 = .ok (.getfield 13, 3) := by decide +kernel
theorem dX7_spread_81 : decode cX7_spread 81 = .ok (.iload 7, 2) := by decide +kernel
theorem dX7_spread_83 : decode cX7_spread 83 = .ok (.laload, 1) := by decide +kernel
theorem dX7_spread_84 : decode cX7_spread 84 = .ok (.goto 5, 3) := by decide +kernel
theorem dX7_spread_87 : decode cX7_spread 87 = .ok (.lload 4, 2) := by decide +kernel
theorem dX7_spread_89 : decode cX7_spread 89 = .ok (.lstore 4, 2) := by decide +kernel
theorem dX7_spread_91 : decode cX7_spread 91 = .ok (.iconst 1, 1) := by decide +kernel
theorem dX7_spread_92 : decode cX7_spread 92 = .ok (.istore 6, 2) := by decide +kernel
theorem dX7_spread_94 : decode cX7_spread 94 = .ok (.iinc 7 1, 3) := by decide +kernel
theorem dX7_spread_97 : decode cX7_spread 97 = .ok (.goto (-86), 3) := by decide +kernel
theorem dX7_spread_100 : decode cX7_spread 100 = .ok (.lload 4, 2) := by decide +kernel
theorem dX7_spread_102 : decode cX7_spread 102 = .ok (.lload_n 2, 1) := by decide +kernel
theorem dX7_spread_103 : decode cX7_spread 103 = .ok (.lsub, 1) := by decide +kernel
theorem dX7_spread_104 : decode cX7_spread 104 = .ok (.lreturn, 1) := by decide +kernel
theorem dX7_isLoose_0 : decode cX7_isLoose 0 = .ok (.aload_n 0, 1) := by decide +kernel
theorem dX7_isLoose_1 : decode cX7_isLoose 1 = .ok (.iload_n 1, 1) := by decide +kernel
theorem dX7_isLoose_2 : decode cX7_isLoose 2 = .ok (.invokevirtual 74, 3) := by decide +kernel
theorem dX7_isLoose_5 : decode cX7_isLoose 5 = .ok (.ifCond .ne 18, 3) := by decide +kernel
theorem dX7_isLoose_8 : decode cX7_isLoose 8 = .ok (.aload_n 0, 1) := by decide +kernel
theorem dX7_isLoose_9 : decode cX7_isLoose 9 = .ok (.getfield 13, 3) := by decide +kernel
theorem dX7_isLoose_12 : decode cX7_isLoose 12 = .ok (.iload_n 1, 1) := by decide +kernel
theorem dX7_isLoose_13 : decode cX7_isLoose 13 = .ok (.laload, 1) := by decide +kernel
theorem dX7_isLoose_14 : decode cX7_isLoose 14 = .ok (.lconst 0, 1) := by decide +kernel
theorem dX7_isLoose_15 : decode cX7_isLoose 15 = .ok (.lcmp, 1) := by decide +kernel
theorem dX7_isLoose_16 : decode cX7_isLoose 16 = .ok (.ifCond .ge 7, 3) := by decide +kernel
theorem dX7_isLoose_19 : decode cX7_isLoose 19 = .ok (.iconst 1, 1) := by decide +kernel
theorem dX7_isLoose_20 : decode cX7_isLoose 20 = .ok (.goto 4, 3) := by decide +kernel
theorem dX7_isLoose_23 : decode cX7_isLoose 23 = .ok (.iconst 0, 1) := by decide +kernel
theorem dX7_isLoose_24 : decode cX7_isLoose 24 = .ok (.ireturn, 1) := by decide +kernel
theorem dX7_size_0 : decode cX7_size 0 = .ok (.lload_n 0, 1) := by decide +kernel
theorem dX7_size_1 : decode cX7_size 1 = .ok (.lconst 0, 1) := by decide +kernel
theorem dX7_size_2 : decode cX7_size 2 = .ok (.lcmp, 1) := by decide +kernel
theorem dX7_size_3 : decode cX7_size 3 = .ok (.ifCond .ge 8, 3) := by decide +kernel
theorem dX7_size_6 : decode cX7_size 6 = .ok (.lload_n 0, 1) := by decide +kernel
theorem dX7_size_7 : decode cX7_size 7 = .ok (.lneg, 1) := by decide +kernel
theorem dX7_size_8 : decode cX7_size 8 = .ok (.goto 4, 3) := by decide +kernel
theorem dX7_size_11 : decode cX7_size 11 = .ok (.lload_n 0, 1) := by decide +kernel
theorem dX7_size_12 : decode cX7_size 12 = .ok (.lreturn, 1) := by decide +kernel
theorem dX7_share_0 : decode cX7_share 0 = .ok (.ldc2_w 120, 3) := by decide +kernel
theorem dX7_share_3 : decode cX7_share 3 = .ok (.lload_n 1, 1) := by decide +kernel
theorem dX7_share_4 : decode cX7_share 4 = .ok (.invokestatic 122, 3) := by decide +kernel
theorem dX7_share_7 : decode cX7_share 7 = .ok (.lmul, 1) := by decide +kernel
theorem dX7_share_8 : decode cX7_share 8 = .ok (.aload_n 0, 1) := by decide +kernel
theorem dX7_share_9 : decode cX7_share 9 = .ok (.getfield 29, 3) := by decide +kernel
theorem dX7_share_12 : decode cX7_share 12 = .ok (.iload_n 3, 1) := by decide +kernel
theorem dX7_share_13 : decode cX7_share 13 = .ok (.iaload, 1) := by decide +kernel
theorem dX7_share_14 : decode cX7_share 14 = .ok (.i2l, 1) := by decide +kernel
theorem dX7_share_15 : decode cX7_share 15 = .ok (.ldiv, 1) := by decide +kernel
theorem dX7_share_16 : decode cX7_share 16 = .ok (.lreturn, 1) := by decide +kernel
theorem dX7_greater_0 : decode cX7_greater 0 = .ok (.lload_n 0, 1) := by decide +kernel
theorem dX7_greater_1 : decode cX7_greater 1 = .ok (.lload_n 2, 1) := by decide +kernel
theorem dX7_greater_2 : decode cX7_greater 2 = .ok (.lcmp, 1) := by decide +kernel
theorem dX7_greater_3 : decode cX7_greater 3 = .ok (.ifCond .le 7, 3) := by decide +kernel
theorem dX7_greater_6 : decode cX7_greater 6 = .ok (.lload_n 0, 1) := by decide +kernel
theorem dX7_greater_7 : decode cX7_greater 7 = .ok (.goto 4, 3) := by decide +kernel
theorem dX7_greater_10 : decode cX7_greater 10 = .ok (.lload_n 2, 1) := by decide +kernel
theorem dX7_greater_11 : decode cX7_greater 11 = .ok (.lreturn, 1) := by decide +kernel
theorem dX7_worst_0 : decode cX7_worst 0 = .ok (.aload_n 0, 1) := by decide +kernel
theorem dX7_worst_1 : decode cX7_worst 1 = .ok (.aload_n 0, 1) := by decide +kernel
theorem dX7_worst_2 : decode cX7_worst 2 = .ok (.invokevirtual 126, 3) := by decide +kernel
theorem dX7_worst_5 : decode cX7_worst 5 = .ok (.iconst 2, 1) := by decide +kernel
theorem dX7_worst_6 : decode cX7_worst 6 = .ok (.invokevirtual 130, 3) := by decide +kernel
theorem dX7_worst_9 : decode cX7_worst 9 = .ok (.lstore_n 1, 1) := by decide +kernel
theorem dX7_worst_10 : decode cX7_worst 10 = .ok (.lload_n 1, 1) := by decide +kernel
theorem dX7_worst_11 : decode cX7_worst 11 = .ok (.aload_n 0, 1) := by decide +kernel
theorem dX7_worst_12 : decode cX7_worst 12 = .ok (.aload_n 0, 1) := by decide +kernel
theorem dX7_worst_13 : decode cX7_worst 13 = .ok (.iconst 1, 1) := by decide +kernel
theorem dX7_worst_14 : decode cX7_worst 14 = .ok (.invokevirtual 134, 3) := by decide +kernel
theorem dX7_worst_17 : decode cX7_worst 17 = .ok (.iconst 3, 1) := by decide +kernel
theorem dX7_worst_18 : decode cX7_worst 18 = .ok (.invokevirtual 130, 3) := by decide +kernel
theorem dX7_worst_21 : decode cX7_worst 21 = .ok (.invokestatic 138, 3) := by decide +kernel
theorem dX7_worst_24 : decode cX7_worst 24 = .ok (.lstore_n 1, 1) := by decide +kernel
theorem dX7_worst_25 : decode cX7_worst 25 = .ok (.lload_n 1, 1) := by decide +kernel
theorem dX7_worst_26 : decode cX7_worst 26 = .ok (.aload_n 0, 1) := by decide +kernel
theorem dX7_worst_27 : decode cX7_worst 27 = .ok (.aload_n 0, 1) := by decide +kernel
theorem dX7_worst_28 : decode cX7_worst 28 = .ok (.iconst (-1), 1) := by decide +kernel
theorem dX7_worst_29 : decode cX7_worst 29 = .ok (.invokevirtual 134, 3) := by decide +kernel
theorem dX7_worst_32 : decode cX7_worst 32 = .ok (.iconst 3, 1) := by decide +kernel
theorem dX7_worst_33 : decode cX7_worst 33 = .ok (.invokevirtual 130, 3) := by decide +kernel
theorem dX7_worst_36 : decode cX7_worst 36 = .ok (.invokestatic 138, 3) := by decide +kernel
theorem dX7_worst_39 : decode cX7_worst 39 = .ok (.lstore_n 1, 1) := by decide +kernel
theorem dX7_worst_40 : decode cX7_worst 40 = .ok (.iconst 0, 1) := by decide +kernel
theorem dX7_worst_41 : decode cX7_worst 41 = .ok (.istore_n 3, 1) := by decide +kernel
theorem dX7_worst_42 : decode cX7_worst 42 = .ok (.iload_n 3, 1) := by decide +kernel
theorem dX7_worst_43 : decode cX7_worst 43 = .ok (.aload_n 0, 1) := by decide +kernel
theorem dX7_worst_44 : decode cX7_worst 44 = .ok (.getfield 58, 3) := by decide +kernel
theorem dX7_worst_47 : decode cX7_worst 47 = .ok (.if_icmp .ge 39, 3) := by decide +kernel
theorem dX7_worst_50 : decode cX7_worst 50 = .ok (.lload_n 1, 1) := by decide +kernel
theorem dX7_worst_51 : decode cX7_worst 51 = .ok (.aload_n 0, 1) := by decide +kernel
theorem dX7_worst_52 : decode cX7_worst 52 = .ok (.aload_n 0, 1) := by decide +kernel
theorem dX7_worst_53 : decode cX7_worst 53 = .ok (.iconst 0, 1) := by decide +kernel
theorem dX7_worst_54 : decode cX7_worst 54 = .ok (.iload_n 3, 1) := by decide +kernel
theorem dX7_worst_55 : decode cX7_worst 55 = .ok (.invokevirtual 117, 3) := by decide +kernel
theorem dX7_worst_58 : decode cX7_worst 58 = .ok (.iconst 0, 1) := by decide +kernel
theorem dX7_worst_59 : decode cX7_worst 59 = .ok (.invokevirtual 130, 3) := by decide +kernel
theorem dX7_worst_62 : decode cX7_worst 62 = .ok (.aload_n 0, 1) := by decide +kernel
theorem dX7_worst_63 : decode cX7_worst 63 = .ok (.aload_n 0, 1) := by decide +kernel
theorem dX7_worst_64 : decode cX7_worst 64 = .ok (.iconst 1, 1) := by decide +kernel
theorem dX7_worst_65 : decode cX7_worst 65 = .ok (.iload_n 3, 1) := by decide +kernel
theorem dX7_worst_66 : decode cX7_worst 66 = .ok (.invokevirtual 117, 3) := by decide +kernel
theorem dX7_worst_69 : decode cX7_worst 69 = .ok (.iconst 1, 1) := by decide +kernel
theorem dX7_worst_70 : decode cX7_worst 70 = .ok (.invokevirtual 130, 3) := by decide +kernel
theorem dX7_worst_73 : decode cX7_worst 73 = .ok (.invokestatic 138, 3) := by decide +kernel
theorem dX7_worst_76 : decode cX7_worst 76 = .ok (.invokestatic 138, 3) := by decide +kernel
theorem dX7_worst_79 : decode cX7_worst 79 = .ok (.lstore_n 1, 1) := by decide +kernel
theorem dX7_worst_80 : decode cX7_worst 80 = .ok (.iinc 3 1, 3) := by decide +kernel
theorem dX7_worst_83 : decode cX7_worst 83 = .ok (.goto (-41), 3) := by decide +kernel
theorem dX7_worst_86 : decode cX7_worst 86 = .ok (.lload_n 1, 1) := by decide +kernel
theorem dX7_worst_87 : decode cX7_worst 87 = .ok (.ldc2_w 141, 3) := by decide +kernel
theorem dX7_worst_90 : decode cX7_worst 90 = .ok (.lcmp, 1) := by decide +kernel
theorem dX7_worst_91 : decode cX7_worst 91 = .ok (.ifCond .le 9, 3) := by decide +kernel
theorem dX7_worst_94 : decode cX7_worst 94 = .ok (.ldc2_w 141, 3) := by decide +kernel
theorem dX7_worst_97 : decode cX7_worst 97 = .ok (.goto 4, 3) := by decide +kernel
theorem dX7_worst_100 : decode cX7_worst 100 = .ok (.lload_n 1, 1) := by decide +kernel
theorem dX7_worst_101 : decode cX7_worst 101 = .ok (.lreturn, 1) := by decide +kernel
theorem dX7_fault_0 : decode cX7_fault 0 = .ok (.iconst 0, 1) := by decide +kernel
theorem dX7_fault_1 : decode cX7_fault 1 = .ok (.istore_n 1, 1) := by decide +kernel
theorem dX7_fault_2 : decode cX7_fault 2 = .ok (.iload_n 1, 1) := by decide +kernel
theorem dX7_fault_3 : decode cX7_fault 3 = .ok (.iconst 2, 1) := by decide +kernel
theorem dX7_fault_4 : decode cX7_fault 4 = .ok (.if_icmp .ge 52, 3) := by decide +kernel
theorem dX7_fault_7 : decode cX7_fault 7 = .ok (.iconst 0, 1) := by decide +kernel
theorem dX7_fault_8 : decode cX7_fault 8 = .ok (.istore_n 2, 1) := by decide +kernel
theorem dX7_fault_9 : decode cX7_fault 9 = .ok (.iload_n 2, 1) := by decide +kernel
theorem dX7_fault_10 : decode cX7_fault 10 = .ok (.aload_n 0, 1) := by decide +kernel
theorem dX7_fault_11 : decode cX7_fault 11 = .ok (.getfield 58, 3) := by decide +kernel
theorem dX7_fault_14 : decode cX7_fault 14 = .ok (.if_icmp .ge 36, 3) := by decide +kernel
theorem dX7_fault_17 : decode cX7_fault 17 = .ok (.aload_n 0, 1) := by decide +kernel
theorem dX7_fault_18 : decode cX7_fault 18 = .ok (.iload_n 1, 1) := by decide +kernel
theorem dX7_fault_19 : decode cX7_fault 19 = .ok (.iload_n 2, 1) := by decide +kernel
theorem dX7_fault_20 : decode cX7_fault 20 = .ok (.invokevirtual 117, 3) := by decide +kernel
theorem dX7_fault_23 : decode cX7_fault 23 = .ok (.invokestatic 122, 3) := by decide +kernel
theorem dX7_fault_26 : decode cX7_fault 26 = .ok (.aload_n 0, 1) := by decide +kernel
theorem dX7_fault_27 : decode cX7_fault 27 = .ok (.getfield 29, 3) := by decide +kernel
theorem dX7_fault_30 : decode cX7_fault 30 = .ok (.iload_n 1, 1) := by decide +kernel
theorem dX7_fault_31 : decode cX7_fault 31 = .ok (.iaload, 1) := by decide +kernel
theorem dX7_fault_32 : decode cX7_fault 32 = .ok (.i2l, 1) := by decide +kernel
theorem dX7_fault_33 : decode cX7_fault 33 = .ok (.lcmp, 1) := by decide +kernel
theorem dX7_fault_34 : decode cX7_fault 34 = .ok (.ifCond .le 10, 3) := by decide +kernel
theorem dX7_fault_37 : decode cX7_fault 37 = .ok (.bipush 100, 2) := by decide +kernel
theorem dX7_fault_39 : decode cX7_fault 39 = .ok (.iload_n 1, 1) := by decide +kernel
theorem dX7_fault_40 : decode cX7_fault 40 = .ok (.imul, 1) := by decide +kernel
theorem dX7_fault_41 : decode cX7_fault 41 = .ok (.iload_n 2, 1) := by decide +kernel
theorem dX7_fault_42 : decode cX7_fault 42 = .ok (.iadd, 1) := by decide +kernel
theorem dX7_fault_43 : decode cX7_fault 43 = .ok (.ireturn, 1) := by decide +kernel
theorem dX7_fault_44 : decode cX7_fault 44 = .ok (.iinc 2 1, 3) := by decide +kernel
theorem dX7_fault_47 : decode cX7_fault 47 = .ok (.goto (-38), 3) := by decide +kernel
theorem dX7_fault_50 : decode cX7_fault 50 = .ok (.iinc 1 1, 3) := by decide +kernel
theorem dX7_fault_53 : decode cX7_fault 53 = .ok (.goto (-51), 3) := by decide +kernel
theorem dX7_fault_56 : decode cX7_fault 56 = .ok (.aload_n 0, 1) := by decide +kernel
theorem dX7_fault_57 : decode cX7_fault 57 = .ok (.invokevirtual 126, 3) := by decide +kernel
theorem dX7_fault_60 : decode cX7_fault 60 = .ok (.invokestatic 122, 3) := by decide +kernel
theorem dX7_fault_63 : decode cX7_fault 63 = .ok (.aload_n 0, 1) := by decide +kernel
theorem dX7_fault_64 : decode cX7_fault 64 = .ok (.getfield 29, 3) := by decide +kernel
theorem dX7_fault_67 : decode cX7_fault 67 = .ok (.iconst 2, 1) := by decide +kernel
theorem dX7_fault_68 : decode cX7_fault 68 = .ok (.iaload, 1) := by decide +kernel
theorem dX7_fault_69 : decode cX7_fault 69 = .ok (.i2l, 1) := by decide +kernel
theorem dX7_fault_70 : decode cX7_fault 70 = .ok (.lcmp, 1) := by decide +kernel
theorem dX7_fault_71 : decode cX7_fault 71 = .ok (.ifCond .le 7, 3) := by decide +kernel
theorem dX7_fault_74 : decode cX7_fault 74 = .ok (.sipush 200, 3) := by decide +kernel
theorem dX7_fault_77 : decode cX7_fault 77 = .ok (.ireturn, 1) := by decide +kernel
theorem dX7_fault_78 : decode cX7_fault 78 = .ok (.aload_n 0, 1) := by decide +kernel
theorem dX7_fault_79 : decode cX7_fault 79 = .ok (.iconst 1, 1) := by decide +kernel
theorem dX7_fault_80 : decode cX7_fault 80 = .ok (.invokevirtual 134, 3) := by decide +kernel
theorem dX7_fault_83 : decode cX7_fault 83 = .ok (.aload_n 0, 1) := by decide +kernel
theorem dX7_fault_84 : decode cX7_fault 84 = .ok (.getfield 29, 3) := by decide +kernel
theorem dX7_fault_87 : decode cX7_fault 87 = .ok (.iconst 3, 1) := by decide +kernel
theorem dX7_fault_88 : decode cX7_fault 88 = .ok (.iaload, 1) := by decide +kernel
theorem dX7_fault_89 : decode cX7_fault 89 = .ok (.i2l, 1) := by decide +kernel
theorem dX7_fault_90 : decode cX7_fault 90 = .ok (.lcmp, 1) := by decide +kernel
theorem dX7_fault_91 : decode cX7_fault 91 = .ok (.ifCond .le 7, 3) := by decide +kernel
theorem dX7_fault_94 : decode cX7_fault 94 = .ok (.sipush 300, 3) := by decide +kernel
theorem dX7_fault_97 : decode cX7_fault 97 = .ok (.ireturn, 1) := by decide +kernel
theorem dX7_fault_98 : decode cX7_fault 98 = .ok (.aload_n 0, 1) := by decide +kernel
theorem dX7_fault_99 : decode cX7_fault 99 = .ok (.iconst (-1), 1) := by decide +kernel
theorem dX7_fault_100 : decode cX7_fault 100 = .ok (.invokevirtual 134, 3) := by decide +kernel
theorem dX7_fault_103 : decode cX7_fault 103 = .ok (.aload_n 0, 1) := by decide +kernel
theorem dX7_fault_104 : decode cX7_fault 104 = .ok (.getfield 29, 3) := by decide +kernel
theorem dX7_fault_107 : decode cX7_fault 107 = .ok (.iconst 3, 1) := by decide +kernel
theorem dX7_fault_108 : decode cX7_fault 108 = .ok (.iaload, 1) := by decide +kernel
theorem dX7_fault_109 : decode cX7_fault 109 = .ok (.i2l, 1) := by decide +kernel
theorem dX7_fault_110 : decode cX7_fault 110 = .ok (.lcmp, 1) := by decide +kernel
theorem dX7_fault_111 : decode cX7_fault 111 = .ok (.ifCond .le 7, 3) := by decide +kernel
theorem dX7_fault_114 : decode cX7_fault 114 = .ok (.sipush 301, 3) := by decide +kernel
theorem dX7_fault_117 : decode cX7_fault 117 = .ok (.ireturn, 1) := by decide +kernel
theorem dX7_fault_118 : decode cX7_fault 118 = .ok (.iconst 0, 1) := by decide +kernel
theorem dX7_fault_119 : decode cX7_fault 119 = .ok (.istore_n 1, 1) := by decide +kernel
theorem dX7_fault_120 : decode cX7_fault 120 = .ok (.iload_n 1, 1) := by decide +kernel
theorem dX7_fault_121 : decode cX7_fault 121 = .ok (.aload_n 0, 1) := by decide +kernel
theorem dX7_fault_122 : decode cX7_fault 122 = .ok (.getfield 58, 3) := by decide +kernel
theorem dX7_fault_125 : decode cX7_fault 125 = .ok (.if_icmp .ge 23, 3) := by decide +kernel
theorem dX7_fault_128 : decode cX7_fault 128 = .ok (.aload_n 0, 1) := by decide +kernel
theorem dX7_fault_129 : decode cX7_fault 129 = .ok (.iload_n 1, 1) := by decide +kernel
theorem dX7_fault_130 : decode cX7_fault 130 = .ok (.invokevirtual 143, 3) := by decide +kernel
theorem dX7_fault_133 : decode cX7_fault 133 = .ok (.ifCond .eq 9, 3) := by decide +kernel
theorem dX7_fault_136 : decode cX7_fault 136 = .ok (.sipush 400, 3) := by decide +kernel
theorem dX7_fault_139 : decode cX7_fault 139 = .ok (.iload_n 1, 1) := by decide +kernel
theorem dX7_fault_140 : decode cX7_fault 140 = .ok (.iadd, 1) := by decide +kernel
theorem dX7_fault_141 : decode cX7_fault 141 = .ok (.ireturn, 1) := by decide +kernel
theorem dX7_fault_142 : decode cX7_fault 142 = .ok (.iinc 1 1, 3) := by decide +kernel
theorem dX7_fault_145 : decode cX7_fault 145 = .ok (.goto (-25), 3) := by decide +kernel
theorem dX7_fault_148 : decode cX7_fault 148 = .ok (.ldc 146, 2) := by decide +kernel
theorem dX7_fault_150 : decode cX7_fault 150 = .ok (.ireturn, 1) := by decide +kernel
theorem dX7_state_0 : decode cX7_state 0 = .ok (.iconst 0, 1) := by decide +kernel
theorem dX7_state_1 : decode cX7_state 1 = .ok (.istore_n 2, 1) := by decide +kernel
theorem dX7_state_2 : decode cX7_state 2 = .ok (.iload_n 1, 1) := by decide +kernel
theorem dX7_state_3 : decode cX7_state 3 = .ok (.tableswitch 112 0 5 #[37, 43, 50, 57, 63, 97], 37) := by decide +kernel
theorem dX7_state_40 : decode cX7_state 40 = .ok (.aload_n 0, 1) := by decide +kernel
theorem dX7_state_41 : decode cX7_state 41 = .ok (.invokevirtual 126, 3) := by decide +kernel
theorem dX7_state_44 : decode cX7_state 44 = .ok (.l2i, 1) := by decide +kernel
theorem dX7_state_45 : decode cX7_state 45 = .ok (.ireturn, 1) := by decide +kernel
theorem dX7_state_46 : decode cX7_state 46 = .ok (.aload_n 0, 1) := by decide +kernel
theorem dX7_state_47 : decode cX7_state 47 = .ok (.iconst 1, 1) := by decide +kernel
theorem dX7_state_48 : decode cX7_state 48 = .ok (.invokevirtual 134, 3) := by decide +kernel
theorem dX7_state_51 : decode cX7_state 51 = .ok (.l2i, 1) := by decide +kernel
theorem dX7_state_52 : decode cX7_state 52 = .ok (.ireturn, 1) := by decide +kernel
theorem dX7_state_53 : decode cX7_state 53 = .ok (.aload_n 0, 1) := by decide +kernel
theorem dX7_state_54 : decode cX7_state 54 = .ok (.iconst (-1), 1) := by decide +kernel
theorem dX7_state_55 : decode cX7_state 55 = .ok (.invokevirtual 134, 3) := by decide +kernel
theorem dX7_state_58 : decode cX7_state 58 = .ok (.l2i, 1) := by decide +kernel
theorem dX7_state_59 : decode cX7_state 59 = .ok (.ireturn, 1) := by decide +kernel
theorem dX7_state_60 : decode cX7_state 60 = .ok (.aload_n 0, 1) := by decide +kernel
theorem dX7_state_61 : decode cX7_state 61 = .ok (.invokevirtual 147, 3) := by decide +kernel
theorem dX7_state_64 : decode cX7_state 64 = .ok (.l2i, 1) := by decide +kernel
theorem dX7_state_65 : decode cX7_state 65 = .ok (.ireturn, 1) := by decide +kernel
theorem dX7_state_66 : decode cX7_state 66 = .ok (.iconst 0, 1) := by decide +kernel
theorem dX7_state_67 : decode cX7_state 67 = .ok (.istore_n 3, 1) := by decide +kernel
theorem dX7_state_68 : decode cX7_state 68 = .ok (.iload_n 3, 1) := by decide +kernel
theorem dX7_state_69 : decode cX7_state 69 = .ok (.aload_n 0, 1) := by decide +kernel
theorem dX7_state_70 : decode cX7_state 70 = .ok (.getfield 58, 3) := by decide +kernel
theorem dX7_state_73 : decode cX7_state 73 = .ok (.if_icmp .ge 25, 3) := by decide +kernel
theorem dX7_state_76 : decode cX7_state 76 = .ok (.iload_n 2, 1) := by decide +kernel
theorem dX7_state_77 : decode cX7_state 77 = .ok (.aload_n 0, 1) := by decide +kernel
theorem dX7_state_78 : decode cX7_state 78 = .ok (.iload_n 3, 1) := by decide +kernel
theorem dX7_state_79 : decode cX7_state 79 = .ok (.invokevirtual 143, 3) := by decide +kernel
theorem dX7_state_82 : decode cX7_state 82 = .ok (.ifCond .eq 7, 3) := by decide +kernel
theorem dX7_state_85 : decode cX7_state 85 = .ok (.iconst 1, 1) := by decide +kernel
theorem dX7_state_86 : decode cX7_state 86 = .ok (.goto 4, 3) := by decide +kernel
theorem dX7_state_89 : decode cX7_state 89 = .ok (.iconst 0, 1) := by decide +kernel
theorem dX7_state_90 : decode cX7_state 90 = .ok (.iadd, 1) := by decide +kernel
theorem dX7_state_91 : decode cX7_state 91 = .ok (.istore_n 2, 1) := by decide +kernel
theorem dX7_state_92 : decode cX7_state 92 = .ok (.iinc 3 1, 3) := by decide +kernel
theorem dX7_state_95 : decode cX7_state 95 = .ok (.goto (-27), 3) := by decide +kernel
theorem dX7_state_98 : decode cX7_state 98 = .ok (.iload_n 2, 1) := by decide +kernel
theorem dX7_state_99 : decode cX7_state 99 = .ok (.ireturn, 1) := by decide +kernel
theorem dX7_state_100 : decode cX7_state 100 = .ok (.aload_n 0, 1) := by decide +kernel
theorem dX7_state_101 : decode cX7_state 101 = .ok (.invokevirtual 150, 3) := by decide +kernel
theorem dX7_state_104 : decode cX7_state 104 = .ok (.ldc 146, 2) := by decide +kernel
theorem dX7_state_106 : decode cX7_state 106 = .ok (.if_icmp .ne 7, 3) := by decide +kernel
theorem dX7_state_109 : decode cX7_state 109 = .ok (.iconst 1, 1) := by decide +kernel
theorem dX7_state_110 : decode cX7_state 110 = .ok (.goto 4, 3) := by decide +kernel
theorem dX7_state_113 : decode cX7_state 113 = .ok (.iconst 0, 1) := by decide +kernel
theorem dX7_state_114 : decode cX7_state 114 = .ok (.ireturn, 1) := by decide +kernel
theorem dX7_state_115 : decode cX7_state 115 = .ok (.ldc 78, 2) := by decide +kernel
theorem dX7_state_117 : decode cX7_state 117 = .ok (.ireturn, 1) := by decide +kernel
theorem dX7_why_0 : decode cX7_why 0 = .ok (.aload_n 0, 1) := by decide +kernel
theorem dX7_why_1 : decode cX7_why 1 = .ok (.invokevirtual 150, 3) := by decide +kernel
theorem dX7_why_4 : decode cX7_why 4 = .ok (.ireturn, 1) := by decide +kernel
theorem dX7_make_0 : decode cX7_make 0 = .ok (.aload_n 0, 1) := by decide +kernel
theorem dX7_make_1 : decode cX7_make 1 = .ok (.iload_n 1, 1) := by decide +kernel
theorem dX7_make_2 : decode cX7_make 2 = .ok (.invokevirtual 95, 3) := by decide +kernel
theorem dX7_make_5 : decode cX7_make 5 = .ok (.i2l, 1) := by decide +kernel
theorem dX7_make_6 : decode cX7_make 6 = .ok (.iload_n 2, 1) := by decide +kernel
theorem dX7_make_7 : decode cX7_make 7 = .ok (.i2l, 1) := by decide +kernel
theorem dX7_make_8 : decode cX7_make 8 = .ok (.lmul, 1) := by decide +kernel
theorem dX7_make_9 : decode cX7_make 9 = .ok (.lstore_n 3, 1) := by decide +kernel
theorem dX7_make_10 : decode cX7_make 10 = .ok (.iconst 0, 1) := by decide +kernel
theorem dX7_make_11 : decode cX7_make 11 = .ok (.istore 5, 2) := by decide +kernel
theorem dX7_make_13 : decode cX7_make 13 = .ok (.iload 5, 2) := by decide +kernel
theorem dX7_make_15 : decode cX7_make 15 = .ok (.aload_n 0, 1) := by decide +kernel
theorem dX7_make_16 : decode cX7_make 16 = .ok (.getfield 58, 3) := by decide +kernel
theorem dX7_make_19 : decode cX7_make 19 = .ok (.if_icmp .ge 68, 3) := by decide +kernel
theorem dX7_make_22 : decode cX7_make 22 = .ok (.aload_n 0, 1) := by decide +kernel
theorem dX7_make_23 : decode cX7_make 23 = .ok (.iload_n 1, 1) := by decide +kernel
theorem dX7_make_24 : decode cX7_make 24 = .ok (.iload 5, 2) := by decide +kernel
theorem dX7_make_26 : decode cX7_make 26 = .ok (.invokevirtual 154, 3) := by decide +kernel
theorem dX7_make_29 : decode cX7_make 29 = .ok (.istore 6, 2) := by decide +kernel
theorem dX7_make_31 : decode cX7_make 31 = .ok (.aload_n 0, 1) := by decide +kernel
theorem dX7_make_32 : decode cX7_make 32 = .ok (.getfield 17, 3) := by decide +kernel
theorem dX7_make_35 : decode cX7_make 35 = .ok (.iload 5, 2) := by decide +kernel
theorem dX7_make_37 : decode cX7_make 37 = .ok (.dup2, 1) := by decide +kernel
theorem dX7_make_38 : decode cX7_make 38 = .ok (.laload, 1) := by decide +kernel
theorem dX7_make_39 : decode cX7_make 39 = .ok (.lload_n 3, 1) := by decide +kernel
theorem dX7_make_40 : decode cX7_make 40 = .ok (.aload_n 0, 1) := by decide +kernel
theorem dX7_make_41 : decode cX7_make 41 = .ok (.iload_n 1, 1) := by decide +kernel
theorem dX7_make_42 : decode cX7_make 42 = .ok (.invokevirtual 91, 3) := by decide +kernel
theorem dX7_make_45 : decode cX7_make 45 = .ok (.i2l, 1) := by decide +kernel
theorem dX7_make_46 : decode cX7_make 46 = .ok (.lmul, 1) := by decide +kernel
theorem dX7_make_47 : decode cX7_make 47 = .ok (.aload_n 0, 1) := by decide +kernel
theorem dX7_make_48 : decode cX7_make 48 = .ok (.iconst 0, 1) := by decide +kernel
theorem dX7_make_49 : decode cX7_make 49 = .ok (.iload 6, 2) := by decide +kernel
theorem dX7_make_51 : decode cX7_make 51 = .ok (.invokevirtual 98, 3) := by decide +kernel
theorem dX7_make_54 : decode cX7_make 54 = .ok (.i2l, 1) := by decide +kernel
theorem dX7_make_55 : decode cX7_make 55 = .ok (.lmul, 1) := by decide +kernel
theorem dX7_make_56 : decode cX7_make 56 = .ok (.ladd, 1) := by decide +kernel
theorem dX7_make_57 : decode cX7_make 57 = .ok (.lastore, 1) := by decide +kernel
theorem dX7_make_58 : decode cX7_make 58 = .ok (.aload_n 0, 1) := by decide +kernel
theorem dX7_make_59 : decode cX7_make 59 = .ok (.getfield 17, 3) := by decide +kernel
theorem dX7_make_62 : decode cX7_make 62 = .ok (.bipush 32, 2) := by decide +kernel
theorem dX7_make_64 : decode cX7_make 64 = .ok (.iload 5, 2) := by decide +kernel
theorem dX7_make_66 : decode cX7_make 66 = .ok (.iadd, 1) := by decide +kernel
theorem dX7_make_67 : decode cX7_make 67 = .ok (.dup2, 1) := by decide +kernel
theorem dX7_make_68 : decode cX7_make 68 = .ok (.laload, 1) := by decide +kernel
theorem dX7_make_69 : decode cX7_make 69 = .ok (.lload_n 3, 1) := by decide +kernel
theorem dX7_make_70 : decode cX7_make 70 = .ok (.aload_n 0, 1) := by decide +kernel
theorem dX7_make_71 : decode cX7_make 71 = .ok (.iconst 1, 1) := by decide +kernel
theorem dX7_make_72 : decode cX7_make 72 = .ok (.iload 6, 2) := by decide +kernel
theorem dX7_make_74 : decode cX7_make 74 = .ok (.invokevirtual 98, 3) := by decide +kernel
theorem dX7_make_77 : decode cX7_make 77 = .ok (.i2l, 1) := by decide +kernel
theorem dX7_make_78 : decode cX7_make 78 = .ok (.lmul, 1) := by decide +kernel
theorem dX7_make_79 : decode cX7_make 79 = .ok (.ladd, 1) := by decide +kernel
theorem dX7_make_80 : decode cX7_make 80 = .ok (.lastore, 1) := by decide +kernel
theorem dX7_make_81 : decode cX7_make 81 = .ok (.iinc 5 1, 3) := by decide +kernel
theorem dX7_make_84 : decode cX7_make 84 = .ok (.goto (-71), 3) := by decide +kernel
theorem dX7_make_87 : decode cX7_make 87 = .ok (.iconst 0, 1) := by decide +kernel
theorem dX7_make_88 : decode cX7_make 88 = .ok (.istore 5, 2) := by decide +kernel
theorem dX7_make_90 : decode cX7_make 90 = .ok (.iload 5, 2) := by decide +kernel
theorem dX7_make_92 : decode cX7_make 92 = .ok (.aload_n 0, 1) := by decide +kernel
theorem dX7_make_93 : decode cX7_make 93 = .ok (.getfield 58, 3) := by decide +kernel
theorem dX7_make_96 : decode cX7_make 96 = .ok (.if_icmp .ge 61, 3) := by decide +kernel
theorem dX7_make_99 : decode cX7_make 99 = .ok (.aload_n 0, 1) := by decide +kernel
theorem dX7_make_100 : decode cX7_make 100 = .ok (.iload 5, 2) := by decide +kernel
theorem dX7_make_102 : decode cX7_make 102 = .ok (.invokevirtual 74, 3) := by decide +kernel
theorem dX7_make_105 : decode cX7_make 105 = .ok (.ifCond .ne 46, 3) := by decide +kernel
theorem dX7_make_108 : decode cX7_make 108 = .ok (.aload_n 0, 1) := by decide +kernel
theorem dX7_make_109 : decode cX7_make 109 = .ok (.getfield 13, 3) := by decide +kernel
theorem dX7_make_112 : decode cX7_make 112 = .ok (.iload 5, 2) := by decide +kernel
theorem dX7_make_114 : decode cX7_make 114 = .ok (.dup2, 1) := by decide +kernel
theorem dX7_make_115 : decode cX7_make 115 = .ok (.laload, 1) := by decide +kernel
theorem dX7_make_116 : decode cX7_make 116 = .ok (.lload_n 3, 1) := by decide +kernel
theorem dX7_make_117 : decode cX7_make 117 = .ok (.aload_n 0, 1) := by decide +kernel
theorem dX7_make_118 : decode cX7_make 118 = .ok (.aload_n 0, 1) := by decide +kernel
theorem dX7_make_119 : decode cX7_make 119 = .ok (.iload 5, 2) := by decide +kernel
theorem dX7_make_121 : decode cX7_make 121 = .ok (.invokevirtual 91, 3) := by decide +kernel
theorem dX7_make_124 : decode cX7_make 124 = .ok (.aload_n 0, 1) := by decide +kernel
theorem dX7_make_125 : decode cX7_make 125 = .ok (.iload_n 1, 1) := by decide +kernel
theorem dX7_make_126 : decode cX7_make 126 = .ok (.invokevirtual 91, 3) := by decide +kernel
theorem dX7_make_129 : decode cX7_make 129 = .ok (.if_icmp .ne 7, 3) := by decide +kernel
theorem dX7_make_132 : decode cX7_make 132 = .ok (.iconst 2, 1) := by decide +kernel
theorem dX7_make_133 : decode cX7_make 133 = .ok (.goto 4, 3) := by decide +kernel
theorem dX7_make_136 : decode cX7_make 136 = .ok (.iconst 3, 1) := by decide +kernel
theorem dX7_make_137 : decode cX7_make 137 = .ok (.aload_n 0, 1) := by decide +kernel
theorem dX7_make_138 : decode cX7_make 138 = .ok (.iload_n 1, 1) := by decide +kernel
theorem dX7_make_139 : decode cX7_make 139 = .ok (.iload 5, 2) := by decide +kernel
theorem dX7_make_141 : decode cX7_make 141 = .ok (.invokevirtual 154, 3) := by decide +kernel
theorem dX7_make_144 : decode cX7_make 144 = .ok (.invokevirtual 98, 3) := by decide +kernel
theorem dX7_make_147 : decode cX7_make 147 = .ok (.i2l, 1) := by decide +kernel
theorem dX7_make_148 : decode cX7_make 148 = .ok (.lmul, 1) := by decide +kernel
theorem dX7_make_149 : decode cX7_make 149 = .ok (.ladd, 1) := by decide +kernel
theorem dX7_make_150 : decode cX7_make 150 = .ok (.lastore, 1) := by decide +kernel
theorem dX7_make_151 : decode cX7_make 151 = .ok (.iinc 5 1, 3) := by decide +kernel
theorem dX7_make_154 : decode cX7_make 154 = .ok (.goto (-64), 3) := by decide +kernel
theorem dX7_make_157 : decode cX7_make 157 = .ok (.return_, 1) := by decide +kernel
theorem dX7_lay_0 : decode cX7_lay 0 = .ok (.iconst 0, 1) := by decide +kernel
theorem dX7_lay_1 : decode cX7_lay 1 = .ok (.istore_n 2, 1) := by decide +kernel
theorem dX7_lay_2 : decode cX7_lay 2 = .ok (.iload_n 2, 1) := by decide +kernel
theorem dX7_lay_3 : decode cX7_lay 3 = .ok (.bipush 64, 2) := by decide +kernel
theorem dX7_lay_5 : decode cX7_lay 5 = .ok (.if_icmp .ge 26, 3) := by decide +kernel
theorem dX7_lay_8 : decode cX7_lay 8 = .ok (.aload_n 0, 1) := by decide +kernel
theorem dX7_lay_9 : decode cX7_lay 9 = .ok (.getfield 51, 3) := by decide +kernel
theorem dX7_lay_12 : decode cX7_lay 12 = .ok (.bipush 96, 2) := by decide +kernel
theorem dX7_lay_14 : decode cX7_lay 14 = .ok (.iload_n 1, 1) := by decide +kernel
theorem dX7_lay_15 : decode cX7_lay 15 = .ok (.imul, 1) := by decide +kernel
theorem dX7_lay_16 : decode cX7_lay 16 = .ok (.iload_n 2, 1) := by decide +kernel
theorem dX7_lay_17 : decode cX7_lay 17 = .ok (.iadd, 1) := by decide +kernel
theorem dX7_lay_18 : decode cX7_lay 18 = .ok (.aload_n 0, 1) := by decide +kernel
theorem dX7_lay_19 : decode cX7_lay 19 = .ok (.getfield 17, 3) := by decide +kernel
theorem dX7_lay_22 : decode cX7_lay 22 = .ok (.iload_n 2, 1) := by decide +kernel
theorem dX7_lay_23 : decode cX7_lay 23 = .ok (.laload, 1) := by decide +kernel
theorem dX7_lay_24 : decode cX7_lay 24 = .ok (.lastore, 1) := by decide +kernel
theorem dX7_lay_25 : decode cX7_lay 25 = .ok (.iinc 2 1, 3) := by decide +kernel
theorem dX7_lay_28 : decode cX7_lay 28 = .ok (.goto (-26), 3) := by decide +kernel
theorem dX7_lay_31 : decode cX7_lay 31 = .ok (.iconst 0, 1) := by decide +kernel
theorem dX7_lay_32 : decode cX7_lay 32 = .ok (.istore_n 2, 1) := by decide +kernel
theorem dX7_lay_33 : decode cX7_lay 33 = .ok (.iload_n 2, 1) := by decide +kernel
theorem dX7_lay_34 : decode cX7_lay 34 = .ok (.bipush 32, 2) := by decide +kernel
theorem dX7_lay_36 : decode cX7_lay 36 = .ok (.if_icmp .ge 29, 3) := by decide +kernel
theorem dX7_lay_39 : decode cX7_lay 39 = .ok (.aload_n 0, 1) := by decide +kernel
theorem dX7_lay_40 : decode cX7_lay 40 = .ok (.getfield 51, 3) := by decide +kernel
theorem dX7_lay_43 : decode cX7_lay 43 = .ok (.bipush 96, 2) := by decide +kernel
theorem dX7_lay_45 : decode cX7_lay 45 = .ok (.iload_n 1, 1) := by decide +kernel
theorem dX7_lay_46 : decode cX7_lay 46 = .ok (.imul, 1) := by decide +kernel
theorem dX7_lay_47 : decode cX7_lay 47 = .ok (.bipush 64, 2) := by decide +kernel
theorem dX7_lay_49 : decode cX7_lay 49 = .ok (.iadd, 1) := by decide +kernel
theorem dX7_lay_50 : decode cX7_lay 50 = .ok (.iload_n 2, 1) := by decide +kernel
theorem dX7_lay_51 : decode cX7_lay 51 = .ok (.iadd, 1) := by decide +kernel
theorem dX7_lay_52 : decode cX7_lay 52 = .ok (.aload_n 0, 1) := by decide +kernel
theorem dX7_lay_53 : decode cX7_lay 53 = .ok (.getfield 13, 3) := by decide +kernel
theorem dX7_lay_56 : decode cX7_lay 56 = .ok (.iload_n 2, 1) := by decide +kernel
theorem dX7_lay_57 : decode cX7_lay 57 = .ok (.laload, 1) := by decide +kernel
theorem dX7_lay_58 : decode cX7_lay 58 = .ok (.lastore, 1) := by decide +kernel
theorem dX7_lay_59 : decode cX7_lay 59 = .ok (.iinc 2 1, 3) := by decide +kernel
theorem dX7_lay_62 : decode cX7_lay 62 = .ok (.goto (-29), 3) := by decide +kernel
theorem dX7_lay_65 : decode cX7_lay 65 = .ok (.return_, 1) := by decide +kernel
theorem dX7_bring_0 : decode cX7_bring 0 = .ok (.iconst 0, 1) := by decide +kernel
theorem dX7_bring_1 : decode cX7_bring 1 = .ok (.istore_n 2, 1) := by decide +kernel
theorem dX7_bring_2 : decode cX7_bring 2 = .ok (.iload_n 2, 1) := by decide +kernel
theorem dX7_bring_3 : decode cX7_bring 3 = .ok (.bipush 64, 2) := by decide +kernel
theorem dX7_bring_5 : decode cX7_bring 5 = .ok (.if_icmp .ge 26, 3) := by decide +kernel
theorem dX7_bring_8 : decode cX7_bring 8 = .ok (.aload_n 0, 1) := by decide +kernel
theorem dX7_bring_9 : decode cX7_bring 9 = .ok (.getfield 17, 3) := by decide +kernel
theorem dX7_bring_12 : decode cX7_bring 12 = .ok (.iload_n 2, 1) := by decide +kernel
theorem dX7_bring_13 : decode cX7_bring 13 = .ok (.aload_n 0, 1) := by decide +kernel
theorem dX7_bring_14 : decode cX7_bring 14 = .ok (.getfield 51, 3) := by decide +kernel
theorem dX7_bring_17 : decode cX7_bring 17 = .ok (.bipush 96, 2) := by decide +kernel
theorem dX7_bring_19 : decode cX7_bring 19 = .ok (.iload_n 1, 1) := by decide +kernel
theorem dX7_bring_20 : decode cX7_bring 20 = .ok (.imul, 1) := by decide +kernel
theorem dX7_bring_21 : decode cX7_bring 21 = .ok (.iload_n 2, 1) := by decide +kernel
theorem dX7_bring_22 : decode cX7_bring 22 = .ok (.iadd, 1) := by decide +kernel
theorem dX7_bring_23 : decode cX7_bring 23 = .ok (.laload, 1) := by decide +kernel
theorem dX7_bring_24 : decode cX7_bring 24 = .ok (.lastore, 1) := by decide +kernel
theorem dX7_bring_25 : decode cX7_bring 25 = .ok (.iinc 2 1, 3) := by decide +kernel
theorem dX7_bring_28 : decode cX7_bring 28 = .ok (.goto (-26), 3) := by decide +kernel
theorem dX7_bring_31 : decode cX7_bring 31 = .ok (.iconst 0, 1) := by decide +kernel
theorem dX7_bring_32 : decode cX7_bring 32 = .ok (.istore_n 2, 1) := by decide +kernel
theorem dX7_bring_33 : decode cX7_bring 33 = .ok (.iload_n 2, 1) := by decide +kernel
theorem dX7_bring_34 : decode cX7_bring 34 = .ok (.bipush 32, 2) := by decide +kernel
theorem dX7_bring_36 : decode cX7_bring 36 = .ok (.if_icmp .ge 29, 3) := by decide +kernel
theorem dX7_bring_39 : decode cX7_bring 39 = .ok (.aload_n 0, 1) := by decide +kernel
theorem dX7_bring_40 : decode cX7_bring 40 = .ok (.getfield 13, 3) := by decide +kernel
theorem dX7_bring_43 : decode cX7_bring 43 = .ok (.iload_n 2, 1) := by decide +kernel
theorem dX7_bring_44 : decode cX7_bring 44 = .ok (.aload_n 0, 1) := by decide +kernel
theorem dX7_bring_45 : decode cX7_bring 45 = .ok (.getfield 51, 3) := by decide +kernel
theorem dX7_bring_48 : decode cX7_bring 48 = .ok (.bipush 96, 2) := by decide +kernel
theorem dX7_bring_50 : decode cX7_bring 50 = .ok (.iload_n 1, 1) := by decide +kernel
theorem dX7_bring_51 : decode cX7_bring 51 = .ok (.imul, 1) := by decide +kernel
theorem dX7_bring_52 : decode cX7_bring 52 = .ok (.bipush 64, 2) := by decide +kernel
theorem dX7_bring_54 : decode cX7_bring 54 = .ok (.iadd, 1) := by decide +kernel
theorem dX7_bring_55 : decode cX7_bring 55 = .ok (.iload_n 2, 1) := by decide +kernel
theorem dX7_bring_56 : decode cX7_bring 56 = .ok (.iadd, 1) := by decide +kernel
theorem dX7_bring_57 : decode cX7_bring 57 = .ok (.laload, 1) := by decide +kernel
theorem dX7_bring_58 : decode cX7_bring 58 = .ok (.lastore, 1) := by decide +kernel
theorem dX7_bring_59 : decode cX7_bring 59 = .ok (.iinc 2 1, 3) := by decide +kernel
theorem dX7_bring_62 : decode cX7_bring 62 = .ok (.goto (-29), 3) := by decide +kernel
theorem dX7_bring_65 : decode cX7_bring 65 = .ok (.return_, 1) := by decide +kernel
theorem dX7_tries_0 : decode cX7_tries 0 = .ok (.aload_n 0, 1) := by decide +kernel
theorem dX7_tries_1 : decode cX7_tries 1 = .ok (.iload_n 3, 1) := by decide +kernel
theorem dX7_tries_2 : decode cX7_tries 2 = .ok (.invokevirtual 157, 3) := by decide +kernel
theorem dX7_tries_5 : decode cX7_tries 5 = .ok (.aload_n 0, 1) := by decide +kernel
theorem dX7_tries_6 : decode cX7_tries 6 = .ok (.iload_n 1, 1) := by decide +kernel
theorem dX7_tries_7 : decode cX7_tries 7 = .ok (.invokevirtual 74, 3) := by decide +kernel
theorem dX7_tries_10 : decode cX7_tries 10 = .ok (.ifCond .eq 5, 3) := by decide +kernel
theorem dX7_tries_13 : decode cX7_tries 13 = .ok (.iconst 0, 1) := by decide +kernel
theorem dX7_tries_14 : decode cX7_tries 14 = .ok (.ireturn, 1) := by decide +kernel
theorem dX7_tries_15 : decode cX7_tries 15 = .ok (.aload_n 0, 1) := by decide +kernel
theorem dX7_tries_16 : decode cX7_tries 16 = .ok (.iload_n 1, 1) := by decide +kernel
theorem dX7_tries_17 : decode cX7_tries 17 = .ok (.iload_n 2, 1) := by decide +kernel
theorem dX7_tries_18 : decode cX7_tries 18 = .ok (.invokevirtual 160, 3) := by decide +kernel
theorem dX7_tries_21 : decode cX7_tries 21 = .ok (.iconst 0, 1) := by decide +kernel
theorem dX7_tries_22 : decode cX7_tries 22 = .ok (.istore 4, 2) := by decide +kernel
theorem dX7_tries_24 : decode cX7_tries 24 = .ok (.iload 4, 2) := by decide +kernel
theorem dX7_tries_26 : decode cX7_tries 26 = .ok (.aload_n 0, 1) := by decide +kernel
theorem dX7_tries_27 : decode cX7_tries 27 = .ok (.getfield 58, 3) := by decide +kernel
theorem dX7_tries_30 : decode cX7_tries 30 = .ok (.if_icmp .ge 43, 3) := by decide +kernel
theorem dX7_tries_33 : decode cX7_tries 33 = .ok (.aload_n 0, 1) := by decide +kernel
theorem dX7_tries_34 : decode cX7_tries 34 = .ok (.iload 4, 2) := by decide +kernel
theorem dX7_tries_36 : decode cX7_tries 36 = .ok (.invokevirtual 74, 3) := by decide +kernel
theorem dX7_tries_39 : decode cX7_tries 39 = .ok (.ifCond .ne 28, 3) := by decide +kernel
theorem dX7_tries_42 : decode cX7_tries 42 = .ok (.aload_n 0, 1) := by decide +kernel
theorem dX7_tries_43 : decode cX7_tries 43 = .ok (.getfield 13, 3) := by decide +kernel
theorem dX7_tries_46 : decode cX7_tries 46 = .ok (.iload 4, 2) := by decide +kernel
theorem dX7_tries_48 : decode cX7_tries 48 = .ok (.laload, 1) := by decide +kernel
theorem dX7_tries_49 : decode cX7_tries 49 = .ok (.aload_n 0, 1) := by decide +kernel
theorem dX7_tries_50 : decode cX7_tries 50 = .ok (.getfield 29, 3) := by decide +kernel
theorem dX7_tries_53 : decode cX7_tries 53 = .ok (.iconst 4, 1) := by decide +kernel
theorem dX7_tries_54 : decode cX7_tries 54 = .ok (.iaload, 1) := by decide +kernel
theorem dX7_tries_55 : decode cX7_tries 55 = .ok (.i2l, 1) := by decide +kernel
theorem dX7_tries_56 : decode cX7_tries 56 = .ok (.lcmp, 1) := by decide +kernel
theorem dX7_tries_57 : decode cX7_tries 57 = .ok (.ifCond .le 10, 3) := by decide +kernel
theorem dX7_tries_60 : decode cX7_tries 60 = .ok (.aload_n 0, 1) := by decide +kernel
theorem dX7_tries_61 : decode cX7_tries 61 = .ok (.iload_n 3, 1) := by decide +kernel
theorem dX7_tries_62 : decode cX7_tries 62 = .ok (.invokevirtual 164, 3) := by decide +kernel
theorem dX7_tries_65 : decode cX7_tries 65 = .ok (.iconst 0, 1) := by decide +kernel
theorem dX7_tries_66 : decode cX7_tries 66 = .ok (.ireturn, 1) := by decide +kernel
theorem dX7_tries_67 : decode cX7_tries 67 = .ok (.iinc 4 1, 3) := by decide +kernel
theorem dX7_tries_70 : decode cX7_tries 70 = .ok (.goto (-46), 3) := by decide +kernel
theorem dX7_tries_73 : decode cX7_tries 73 = .ok (.iconst 1, 1) := by decide +kernel
theorem dX7_tries_74 : decode cX7_tries 74 = .ok (.ireturn, 1) := by decide +kernel
theorem dX7_enterLog_0 : decode cX7_enterLog 0 = .ok (.aload_n 0, 1) := by decide +kernel
theorem dX7_enterLog_1 : decode cX7_enterLog 1 = .ok (.getfield 32, 3) := by decide +kernel
theorem dX7_enterLog_4 : decode cX7_enterLog 4 = .ok (.iconst 2, 1) := by decide +kernel
theorem dX7_enterLog_5 : decode cX7_enterLog 5 = .ok (.aload_n 0, 1) := by decide +kernel
theorem dX7_enterLog_6 : decode cX7_enterLog 6 = .ok (.getfield 61, 3) := by decide +kernel
theorem dX7_enterLog_9 : decode cX7_enterLog 9 = .ok (.imul, 1) := by decide +kernel
theorem dX7_enterLog_10 : decode cX7_enterLog 10 = .ok (.iload_n 1, 1) := by decide +kernel
theorem dX7_enterLog_11 : decode cX7_enterLog 11 = .ok (.iastore, 1) := by decide +kernel
theorem dX7_enterLog_12 : decode cX7_enterLog 12 = .ok (.aload_n 0, 1) := by decide +kernel
theorem dX7_enterLog_13 : decode cX7_enterLog 13 = .ok (.getfield 32, 3) := by decide +kernel
theorem dX7_enterLog_16 : decode cX7_enterLog 16 = .ok (.iconst 2, 1) := by decide +kernel
theorem dX7_enterLog_17 : decode cX7_enterLog 17 = .ok (.aload_n 0, 1) := by decide +kernel
theorem dX7_enterLog_18 : decode cX7_enterLog 18 = .ok (.getfield 61, 3) := by decide +kernel
theorem dX7_enterLog_21 : decode cX7_enterLog 21 = .ok (.imul, 1) := by decide +kernel
theorem dX7_enterLog_22 : decode cX7_enterLog 22 = .ok (.iconst 1, 1) := by decide +kernel
theorem dX7_enterLog_23 : decode cX7_enterLog 23 = .ok (.iadd, 1) := by decide +kernel
theorem dX7_enterLog_24 : decode cX7_enterLog 24 = .ok (.iload_n 2, 1) := by decide +kernel
theorem dX7_enterLog_25 : decode cX7_enterLog 25 = .ok (.iastore, 1) := by decide +kernel
theorem dX7_enterLog_26 : decode cX7_enterLog 26 = .ok (.aload_n 0, 1) := by decide +kernel
theorem dX7_enterLog_27 : decode cX7_enterLog 27 = .ok (.dup, 1) := by decide +kernel
theorem dX7_enterLog_28 : decode cX7_enterLog 28 = .ok (.getfield 61, 3) := by decide +kernel
theorem dX7_enterLog_31 : decode cX7_enterLog 31 = .ok (.iconst 1, 1) := by decide +kernel
theorem dX7_enterLog_32 : decode cX7_enterLog 32 = .ok (.iadd, 1) := by decide +kernel
theorem dX7_enterLog_33 : decode cX7_enterLog 33 = .ok (.putfield 61, 3) := by decide +kernel
theorem dX7_enterLog_36 : decode cX7_enterLog 36 = .ok (.return_, 1) := by decide +kernel
theorem dX7_turn_0 : decode cX7_turn 0 = .ok (.aload_n 0, 1) := by decide +kernel
theorem dX7_turn_1 : decode cX7_turn 1 = .ok (.iload_n 1, 1) := by decide +kernel
theorem dX7_turn_2 : decode cX7_turn 2 = .ok (.invokevirtual 79, 3) := by decide +kernel
theorem dX7_turn_5 : decode cX7_turn 5 = .ok (.ifCond .eq 18, 3) := by decide +kernel
theorem dX7_turn_8 : decode cX7_turn 8 = .ok (.iload_n 2, 1) := by decide +kernel
theorem dX7_turn_9 : decode cX7_turn 9 = .ok (.bipush (-100), 2) := by decide +kernel
theorem dX7_turn_11 : decode cX7_turn 11 = .ok (.bipush 100, 2) := by decide +kernel
theorem dX7_turn_13 : decode cX7_turn 13 = .ok (.invokestatic 70, 3) := by decide +kernel
theorem dX7_turn_16 : decode cX7_turn 16 = .ok (.ifCond .eq 7, 3) := by decide +kernel
theorem dX7_turn_19 : decode cX7_turn 19 = .ok (.iload_n 2, 1) := by decide +kernel
theorem dX7_turn_20 : decode cX7_turn 20 = .ok (.ifCond .ne 6, 3) := by decide +kernel
theorem dX7_turn_23 : decode cX7_turn 23 = .ok (.ldc 78, 2) := by decide +kernel
theorem dX7_turn_25 : decode cX7_turn 25 = .ok (.ireturn, 1) := by decide +kernel
theorem dX7_turn_26 : decode cX7_turn 26 = .ok (.aload_n 0, 1) := by decide +kernel
theorem dX7_turn_27 : decode cX7_turn 27 = .ok (.iload_n 1, 1) := by decide +kernel
theorem dX7_turn_28 : decode cX7_turn 28 = .ok (.iload_n 2, 1) := by decide +kernel
theorem dX7_turn_29 : decode cX7_turn 29 = .ok (.iconst 0, 1) := by decide +kernel
theorem dX7_turn_30 : decode cX7_turn 30 = .ok (.invokevirtual 167, 3) := by decide +kernel
theorem dX7_turn_33 : decode cX7_turn 33 = .ok (.ifCond .ne 6, 3) := by decide +kernel
theorem dX7_turn_36 : decode cX7_turn 36 = .ok (.ldc 85, 2) := by decide +kernel
theorem dX7_turn_38 : decode cX7_turn 38 = .ok (.ireturn, 1) := by decide +kernel
theorem dX7_turn_39 : decode cX7_turn 39 = .ok (.aload_n 0, 1) := by decide +kernel
theorem dX7_turn_40 : decode cX7_turn 40 = .ok (.getfield 61, 3) := by decide +kernel
theorem dX7_turn_43 : decode cX7_turn 43 = .ok (.bipush 60, 2) := by decide +kernel
theorem dX7_turn_45 : decode cX7_turn 45 = .ok (.if_icmp .ne 11, 3) := by decide +kernel
theorem dX7_turn_48 : decode cX7_turn 48 = .ok (.aload_n 0, 1) := by decide +kernel
theorem dX7_turn_49 : decode cX7_turn 49 = .ok (.iconst 0, 1) := by decide +kernel
theorem dX7_turn_50 : decode cX7_turn 50 = .ok (.invokevirtual 164, 3) := by decide +kernel
theorem dX7_turn_53 : decode cX7_turn 53 = .ok (.ldc 170, 2) := by decide +kernel
theorem dX7_turn_55 : decode cX7_turn 55 = .ok (.ireturn, 1) := by decide +kernel
theorem dX7_turn_56 : decode cX7_turn 56 = .ok (.aload_n 0, 1) := by decide +kernel
theorem dX7_turn_57 : decode cX7_turn 57 = .ok (.iload_n 1, 1) := by decide +kernel
theorem dX7_turn_58 : decode cX7_turn 58 = .ok (.iload_n 2, 1) := by decide +kernel
theorem dX7_turn_59 : decode cX7_turn 59 = .ok (.invokevirtual 171, 3) := by decide +kernel
theorem dX7_turn_62 : decode cX7_turn 62 = .ok (.aload_n 0, 1) := by decide +kernel
theorem dX7_turn_63 : decode cX7_turn 63 = .ok (.getfield 13, 3) := by decide +kernel
theorem dX7_turn_66 : decode cX7_turn 66 = .ok (.iload_n 1, 1) := by decide +kernel
theorem dX7_turn_67 : decode cX7_turn 67 = .ok (.laload, 1) := by decide +kernel
theorem dX7_turn_68 : decode cX7_turn 68 = .ok (.l2i, 1) := by decide +kernel
theorem dX7_turn_69 : decode cX7_turn 69 = .ok (.ireturn, 1) := by decide +kernel
theorem dX7_nextQuarter_0 : decode cX7_nextQuarter 0 = .ok (.aload_n 0, 1) := by decide +kernel
theorem dX7_nextQuarter_1 : decode cX7_nextQuarter 1 = .ok (.invokevirtual 147, 3) := by decide +kernel
theorem dX7_nextQuarter_4 : decode cX7_nextQuarter 4 = .ok (.lstore_n 1, 1) := by decide +kernel
theorem dX7_nextQuarter_5 : decode cX7_nextQuarter 5 = .ok (.ldc 146, 2) := by decide +kernel
theorem dX7_nextQuarter_7 : decode cX7_nextQuarter 7 = .ok (.istore_n 3, 1) := by decide +kernel
theorem dX7_nextQuarter_8 : decode cX7_nextQuarter 8 = .ok (.iconst 0, 1) := by decide +kernel
theorem dX7_nextQuarter_9 : decode cX7_nextQuarter 9 = .ok (.istore 4, 2) := by decide +kernel
theorem dX7_nextQuarter_11 : decode cX7_nextQuarter 11 = .ok (.iload 4, 2) := by decide +kernel
theorem dX7_nextQuarter_13 : decode cX7_nextQuarter 13 = .ok (.iconst 2, 1) := by decide +kernel
theorem dX7_nextQuarter_14 : decode cX7_nextQuarter 14 = .ok (.aload_n 0, 1) := by decide +kernel
theorem dX7_nextQuarter_15 : decode cX7_nextQuarter 15 = .ok (.getfield 58, 3) := by decide +kernel
theorem dX7_nextQuarter_18 : decode cX7_nextQuarter 18 = .ok (.imul, 1) := by decide +kernel
theorem dX7_nextQuarter_19 : decode cX7_nextQuarter 19 = .ok (.if_icmp .ge 57, 3) := by decide +kernel
theorem dX7_nextQuarter_22 : decode cX7_nextQuarter 22 = .ok (.aload_n 0, 1) := by decide +kernel
theorem dX7_nextQuarter_23 : decode cX7_nextQuarter 23 = .ok (.iload 4, 2) := by decide +kernel
theorem dX7_nextQuarter_25 : decode cX7_nextQuarter 25 = .ok (.iconst 2, 1) := by decide +kernel
theorem dX7_nextQuarter_26 : decode cX7_nextQuarter 26 = .ok (.idiv, 1) := by decide +kernel
theorem dX7_nextQuarter_27 : decode cX7_nextQuarter 27 = .ok (.iload 4, 2) := by decide +kernel
theorem dX7_nextQuarter_29 : decode cX7_nextQuarter 29 = .ok (.iconst 2, 1) := by decide +kernel
theorem dX7_nextQuarter_30 : decode cX7_nextQuarter 30 = .ok (.irem, 1) := by decide +kernel
theorem dX7_nextQuarter_31 : decode cX7_nextQuarter 31 = .ok (.ifCond .ne 7, 3) := by decide +kernel
theorem dX7_nextQuarter_34 : decode cX7_nextQuarter 34 = .ok (.iconst 1, 1) := by decide +kernel
theorem dX7_nextQuarter_35 : decode cX7_nextQuarter 35 = .ok (.goto 4, 3) := by decide +kernel
theorem dX7_nextQuarter_38 : decode cX7_nextQuarter 38 = .ok (.iconst (-1), 1) := by decide +kernel
theorem dX7_nextQuarter_39 : decode cX7_nextQuarter 39 = .ok (.iconst 0, 1) := by decide +kernel
theorem dX7_nextQuarter_40 : decode cX7_nextQuarter 40 = .ok (.invokevirtual 167, 3) := by decide +kernel
theorem dX7_nextQuarter_43 : decode cX7_nextQuarter 43 = .ok (.ifCond .eq 27, 3) := by decide +kernel
theorem dX7_nextQuarter_46 : decode cX7_nextQuarter 46 = .ok (.aload_n 0, 1) := by decide +kernel
theorem dX7_nextQuarter_47 : decode cX7_nextQuarter 47 = .ok (.invokevirtual 147, 3) := by decide +kernel
theorem dX7_nextQuarter_50 : decode cX7_nextQuarter 50 = .ok (.lstore 5, 2) := by decide +kernel
theorem dX7_nextQuarter_52 : decode cX7_nextQuarter 52 = .ok (.aload_n 0, 1) := by decide +kernel
theorem dX7_nextQuarter_53 : decode cX7_nextQuarter 53 = .ok (.iconst 0, 1) := by decide +kernel
theorem dX7_nextQuarter_54 : decode cX7_nextQuarter 54 = .ok (.invokevirtual 164, 3) := by decide +kernel
theorem dX7_nextQuarter_57 : decode cX7_nextQuarter 57 = .ok (.lload 5, 2) := by decide +kernel
theorem dX7_nextQuarter_59 : decode cX7_nextQuarter 59 = .ok (.lload_n 1, 1) := by decide +kernel
theorem dX7_nextQuarter_60 : decode cX7_nextQuarter 60 = .ok (.lcmp, 1) := by decide +kernel
theorem dX7_nextQuarter_61 : decode cX7_nextQuarter 61 = .ok (.ifCond .ge 9, 3) := by decide +kernel
theorem dX7_nextQuarter_64 : decode cX7_nextQuarter 64 = .ok (.lload 5, 2) := by decide +kernel
theorem dX7_nextQuarter_66 : decode cX7_nextQuarter 66 = .ok (.lstore_n 1, 1) := by decide +kernel
theorem dX7_nextQuarter_67 : decode cX7_nextQuarter 67 = .ok (.iload 4, 2) := by decide +kernel
theorem dX7_nextQuarter_69 : decode cX7_nextQuarter 69 = .ok (.istore_n 3, 1) := by decide +kernel
theorem dX7_nextQuarter_70 : decode cX7_nextQuarter 70 = .ok (.iinc 4 1, 3) := by decide +kernel
theorem dX7_nextQuarter_73 : decode cX7_nextQuarter 73 = .ok (.goto (-62), 3) := by decide +kernel
theorem dX7_nextQuarter_76 : decode cX7_nextQuarter 76 = .ok (.iload_n 3, 1) := by decide +kernel
theorem dX7_nextQuarter_77 : decode cX7_nextQuarter 77 = .ok (.ireturn, 1) := by decide +kernel
theorem dX7_next__0 : decode cX7_next_ 0 = .ok (.aload_n 0, 1) := by decide +kernel
theorem dX7_next__1 : decode cX7_next_ 1 = .ok (.invokevirtual 174, 3) := by decide +kernel
theorem dX7_next__4 : decode cX7_next_ 4 = .ok (.ireturn, 1) := by decide +kernel
theorem dX7_plan_0 : decode cX7_plan 0 = .ok (.iload_n 1, 1) := by decide +kernel
theorem dX7_plan_1 : decode cX7_plan 1 = .ok (.iconst 1, 1) := by decide +kernel
theorem dX7_plan_2 : decode cX7_plan 2 = .ok (.bipush 60, 2) := by decide +kernel
theorem dX7_plan_4 : decode cX7_plan 4 = .ok (.invokestatic 70, 3) := by decide +kernel
theorem dX7_plan_7 : decode cX7_plan 7 = .ok (.ifCond .ne 6, 3) := by decide +kernel
theorem dX7_plan_10 : decode cX7_plan 10 = .ok (.ldc 78, 2) := by decide +kernel
theorem dX7_plan_12 : decode cX7_plan 12 = .ok (.ireturn, 1) := by decide +kernel
theorem dX7_plan_13 : decode cX7_plan 13 = .ok (.iconst 0, 1) := by decide +kernel
theorem dX7_plan_14 : decode cX7_plan 14 = .ok (.istore_n 2, 1) := by decide +kernel
theorem dX7_plan_15 : decode cX7_plan 15 = .ok (.iload_n 2, 1) := by decide +kernel
theorem dX7_plan_16 : decode cX7_plan 16 = .ok (.iload_n 1, 1) := by decide +kernel
theorem dX7_plan_17 : decode cX7_plan 17 = .ok (.if_icmp .ge 62, 3) := by decide +kernel
theorem dX7_plan_20 : decode cX7_plan 20 = .ok (.aload_n 0, 1) := by decide +kernel
theorem dX7_plan_21 : decode cX7_plan 21 = .ok (.getfield 61, 3) := by decide +kernel
theorem dX7_plan_24 : decode cX7_plan 24 = .ok (.bipush 60, 2) := by decide +kernel
theorem dX7_plan_26 : decode cX7_plan 26 = .ok (.if_icmp .ge 53, 3) := by decide +kernel
theorem dX7_plan_29 : decode cX7_plan 29 = .ok (.aload_n 0, 1) := by decide +kernel
theorem dX7_plan_30 : decode cX7_plan 30 = .ok (.invokevirtual 174, 3) := by decide +kernel
theorem dX7_plan_33 : decode cX7_plan 33 = .ok (.istore_n 3, 1) := by decide +kernel
theorem dX7_plan_34 : decode cX7_plan 34 = .ok (.iload_n 3, 1) := by decide +kernel
theorem dX7_plan_35 : decode cX7_plan 35 = .ok (.ldc 146, 2) := by decide +kernel
theorem dX7_plan_37 : decode cX7_plan 37 = .ok (.if_icmp .ne 5, 3) := by decide +kernel
theorem dX7_plan_40 : decode cX7_plan 40 = .ok (.iload_n 2, 1) := by decide +kernel
theorem dX7_plan_41 : decode cX7_plan 41 = .ok (.ireturn, 1) := by decide +kernel
theorem dX7_plan_42 : decode cX7_plan 42 = .ok (.iload_n 3, 1) := by decide +kernel
theorem dX7_plan_43 : decode cX7_plan 43 = .ok (.iconst 2, 1) := by decide +kernel
theorem dX7_plan_44 : decode cX7_plan 44 = .ok (.irem, 1) := by decide +kernel
theorem dX7_plan_45 : decode cX7_plan 45 = .ok (.ifCond .ne 7, 3) := by decide +kernel
theorem dX7_plan_48 : decode cX7_plan 48 = .ok (.iconst 1, 1) := by decide +kernel
theorem dX7_plan_49 : decode cX7_plan 49 = .ok (.goto 4, 3) := by decide +kernel
theorem dX7_plan_52 : decode cX7_plan 52 = .ok (.iconst (-1), 1) := by decide +kernel
theorem dX7_plan_53 : decode cX7_plan 53 = .ok (.istore 4, 2) := by decide +kernel
theorem dX7_plan_55 : decode cX7_plan 55 = .ok (.aload_n 0, 1) := by decide +kernel
theorem dX7_plan_56 : decode cX7_plan 56 = .ok (.iload_n 3, 1) := by decide +kernel
theorem dX7_plan_57 : decode cX7_plan 57 = .ok (.iconst 2, 1) := by decide +kernel
theorem dX7_plan_58 : decode cX7_plan 58 = .ok (.idiv, 1) := by decide +kernel
theorem dX7_plan_59 : decode cX7_plan 59 = .ok (.iload 4, 2) := by decide +kernel
theorem dX7_plan_61 : decode cX7_plan 61 = .ok (.invokevirtual 160, 3) := by decide +kernel
theorem dX7_plan_64 : decode cX7_plan 64 = .ok (.aload_n 0, 1) := by decide +kernel
theorem dX7_plan_65 : decode cX7_plan 65 = .ok (.iload_n 3, 1) := by decide +kernel
theorem dX7_plan_66 : decode cX7_plan 66 = .ok (.iconst 2, 1) := by decide +kernel
theorem dX7_plan_67 : decode cX7_plan 67 = .ok (.idiv, 1) := by decide +kernel
theorem dX7_plan_68 : decode cX7_plan 68 = .ok (.iload 4, 2) := by decide +kernel
theorem dX7_plan_70 : decode cX7_plan 70 = .ok (.invokevirtual 171, 3) := by decide +kernel
theorem dX7_plan_73 : decode cX7_plan 73 = .ok (.iinc 2 1, 3) := by decide +kernel
theorem dX7_plan_76 : decode cX7_plan 76 = .ok (.goto (-61), 3) := by decide +kernel
theorem dX7_plan_79 : decode cX7_plan 79 = .ok (.iload_n 2, 1) := by decide +kernel
theorem dX7_plan_80 : decode cX7_plan 80 = .ok (.ireturn, 1) := by decide +kernel
theorem dX7_quarters_0 : decode cX7_quarters 0 = .ok (.iload_n 0, 1) := by decide +kernel
theorem dX7_quarters_1 : decode cX7_quarters 1 = .ok (.iconst 2, 1) := by decide +kernel
theorem dX7_quarters_2 : decode cX7_quarters 2 = .ok (.irem, 1) := by decide +kernel
theorem dX7_quarters_3 : decode cX7_quarters 3 = .ok (.ifCond .ne 11, 3) := by decide +kernel
theorem dX7_quarters_6 : decode cX7_quarters 6 = .ok (.iload_n 0, 1) := by decide +kernel
theorem dX7_quarters_7 : decode cX7_quarters 7 = .ok (.iconst 2, 1) := by decide +kernel
theorem dX7_quarters_8 : decode cX7_quarters 8 = .ok (.idiv, 1) := by decide +kernel
theorem dX7_quarters_9 : decode cX7_quarters 9 = .ok (.iconst 1, 1) := by decide +kernel
theorem dX7_quarters_10 : decode cX7_quarters 10 = .ok (.iadd, 1) := by decide +kernel
theorem dX7_quarters_11 : decode cX7_quarters 11 = .ok (.goto 9, 3) := by decide +kernel
theorem dX7_quarters_14 : decode cX7_quarters 14 = .ok (.iload_n 0, 1) := by decide +kernel
theorem dX7_quarters_15 : decode cX7_quarters 15 = .ok (.iconst 2, 1) := by decide +kernel
theorem dX7_quarters_16 : decode cX7_quarters 16 = .ok (.idiv, 1) := by decide +kernel
theorem dX7_quarters_17 : decode cX7_quarters 17 = .ok (.iconst 1, 1) := by decide +kernel
theorem dX7_quarters_18 : decode cX7_quarters 18 = .ok (.iadd, 1) := by decide +kernel
theorem dX7_quarters_19 : decode cX7_quarters 19 = .ok (.ineg, 1) := by decide +kernel
theorem dX7_quarters_20 : decode cX7_quarters 20 = .ok (.ireturn, 1) := by decide +kernel
theorem dX7_byOne_0 : decode cX7_byOne 0 = .ok (.iconst 0, 1) := by decide +kernel
theorem dX7_byOne_1 : decode cX7_byOne 1 = .ok (.istore_n 1, 1) := by decide +kernel
theorem dX7_byOne_2 : decode cX7_byOne 2 = .ok (.iload_n 1, 1) := by decide +kernel
theorem dX7_byOne_3 : decode cX7_byOne 3 = .ok (.aload_n 0, 1) := by decide +kernel
theorem dX7_byOne_4 : decode cX7_byOne 4 = .ok (.getfield 58, 3) := by decide +kernel
theorem dX7_byOne_7 : decode cX7_byOne 7 = .ok (.if_icmp .ge 80, 3) := by decide +kernel
theorem dX7_byOne_10 : decode cX7_byOne 10 = .ok (.iconst 0, 1) := by decide +kernel
theorem dX7_byOne_11 : decode cX7_byOne 11 = .ok (.istore_n 2, 1) := by decide +kernel
theorem dX7_byOne_12 : decode cX7_byOne 12 = .ok (.iload_n 2, 1) := by decide +kernel
theorem dX7_byOne_13 : decode cX7_byOne 13 = .ok (.bipush 8, 2) := by decide +kernel
theorem dX7_byOne_15 : decode cX7_byOne 15 = .ok (.if_icmp .ge 66, 3) := by decide +kernel
theorem dX7_byOne_18 : decode cX7_byOne 18 = .ok (.aload_n 0, 1) := by decide +kernel
theorem dX7_byOne_19 : decode cX7_byOne 19 = .ok (.iload_n 1, 1) := by decide +kernel
theorem dX7_byOne_20 : decode cX7_byOne 20 = .ok (.iload_n 2, 1) := by decide +kernel
theorem dX7_byOne_21 : decode cX7_byOne 21 = .ok (.invokestatic 177, 3) := by decide +kernel
theorem dX7_byOne_24 : decode cX7_byOne 24 = .ok (.iconst 0, 1) := by decide +kernel
theorem dX7_byOne_25 : decode cX7_byOne 25 = .ok (.invokevirtual 167, 3) := by decide +kernel
theorem dX7_byOne_28 : decode cX7_byOne 28 = .ok (.ifCond .eq 47, 3) := by decide +kernel
theorem dX7_byOne_31 : decode cX7_byOne 31 = .ok (.aload_n 0, 1) := by decide +kernel
theorem dX7_byOne_32 : decode cX7_byOne 32 = .ok (.invokevirtual 150, 3) := by decide +kernel
theorem dX7_byOne_35 : decode cX7_byOne 35 = .ok (.ldc 146, 2) := by decide +kernel
theorem dX7_byOne_37 : decode cX7_byOne 37 = .ok (.if_icmp .ne 7, 3) := by decide +kernel
theorem dX7_byOne_40 : decode cX7_byOne 40 = .ok (.iconst 1, 1) := by decide +kernel
theorem dX7_byOne_41 : decode cX7_byOne 41 = .ok (.goto 4, 3) := by decide +kernel
theorem dX7_byOne_44 : decode cX7_byOne 44 = .ok (.iconst 0, 1) := by decide +kernel
theorem dX7_byOne_45 : decode cX7_byOne 45 = .ok (.istore_n 3, 1) := by decide +kernel
theorem dX7_byOne_46 : decode cX7_byOne 46 = .ok (.aload_n 0, 1) := by decide +kernel
theorem dX7_byOne_47 : decode cX7_byOne 47 = .ok (.iconst 0, 1) := by decide +kernel
theorem dX7_byOne_48 : decode cX7_byOne 48 = .ok (.invokevirtual 164, 3) := by decide +kernel
theorem dX7_byOne_51 : decode cX7_byOne 51 = .ok (.iload_n 3, 1) := by decide +kernel
theorem dX7_byOne_52 : decode cX7_byOne 52 = .ok (.ifCond .eq 23, 3) := by decide +kernel
theorem dX7_byOne_55 : decode cX7_byOne 55 = .ok (.aload_n 0, 1) := by decide +kernel
theorem dX7_byOne_56 : decode cX7_byOne 56 = .ok (.iconst 1, 1) := by decide +kernel
theorem dX7_byOne_57 : decode cX7_byOne 57 = .ok (.putfield 180, 3) := by decide +kernel
theorem dX7_byOne_60 : decode cX7_byOne 60 = .ok (.aload_n 0, 1) := by decide +kernel
theorem dX7_byOne_61 : decode cX7_byOne 61 = .ok (.iload_n 1, 1) := by decide +kernel
theorem dX7_byOne_62 : decode cX7_byOne 62 = .ok (.putfield 183, 3) := by decide +kernel
theorem dX7_byOne_65 : decode cX7_byOne 65 = .ok (.aload_n 0, 1) := by decide +kernel
theorem dX7_byOne_66 : decode cX7_byOne 66 = .ok (.iload_n 2, 1) := by decide +kernel
theorem dX7_byOne_67 : decode cX7_byOne 67 = .ok (.invokestatic 177, 3) := by decide +kernel
theorem dX7_byOne_70 : decode cX7_byOne 70 = .ok (.putfield 186, 3) := by decide +kernel
theorem dX7_byOne_73 : decode cX7_byOne 73 = .ok (.iconst 1, 1) := by decide +kernel
theorem dX7_byOne_74 : decode cX7_byOne 74 = .ok (.ireturn, 1) := by decide +kernel
theorem dX7_byOne_75 : decode cX7_byOne 75 = .ok (.iinc 2 1, 3) := by decide +kernel
theorem dX7_byOne_78 : decode cX7_byOne 78 = .ok (.goto (-66), 3) := by decide +kernel
theorem dX7_byOne_81 : decode cX7_byOne 81 = .ok (.iinc 1 1, 3) := by decide +kernel
theorem dX7_byOne_84 : decode cX7_byOne 84 = .ok (.goto (-82), 3) := by decide +kernel
theorem dX7_byOne_87 : decode cX7_byOne 87 = .ok (.iconst 0, 1) := by decide +kernel
theorem dX7_byOne_88 : decode cX7_byOne 88 = .ok (.ireturn, 1) := by decide +kernel
theorem dX7_bySecond_0 : decode cX7_bySecond 0 = .ok (.iload_n 1, 1) := by decide +kernel
theorem dX7_bySecond_1 : decode cX7_bySecond 1 = .ok (.iconst 1, 1) := by decide +kernel
theorem dX7_bySecond_2 : decode cX7_bySecond 2 = .ok (.iadd, 1) := by decide +kernel
theorem dX7_bySecond_3 : decode cX7_bySecond 3 = .ok (.istore_n 3, 1) := by decide +kernel
theorem dX7_bySecond_4 : decode cX7_bySecond 4 = .ok (.iload_n 3, 1) := by decide +kernel
theorem dX7_bySecond_5 : decode cX7_bySecond 5 = .ok (.aload_n 0, 1) := by decide +kernel
theorem dX7_bySecond_6 : decode cX7_bySecond 6 = .ok (.getfield 58, 3) := by decide +kernel
theorem dX7_bySecond_9 : decode cX7_bySecond 9 = .ok (.if_icmp .ge 96, 3) := by decide +kernel
theorem dX7_bySecond_12 : decode cX7_bySecond 12 = .ok (.iconst 0, 1) := by decide +kernel
theorem dX7_bySecond_13 : decode cX7_bySecond 13 = .ok (.istore 4, 2) := by decide +kernel
theorem dX7_bySecond_15 : decode cX7_bySecond 15 = .ok (.iload 4, 2) := by decide +kernel
theorem dX7_bySecond_17 : decode cX7_bySecond 17 = .ok (.bipush 8, 2) := by decide +kernel
theorem dX7_bySecond_19 : decode cX7_bySecond 19 = .ok (.if_icmp .ge 80, 3) := by decide +kernel
theorem dX7_bySecond_22 : decode cX7_bySecond 22 = .ok (.aload_n 0, 1) := by decide +kernel
theorem dX7_bySecond_23 : decode cX7_bySecond 23 = .ok (.iload_n 3, 1) := by decide +kernel
theorem dX7_bySecond_24 : decode cX7_bySecond 24 = .ok (.iload 4, 2) := by decide +kernel
theorem dX7_bySecond_26 : decode cX7_bySecond 26 = .ok (.invokestatic 177, 3) := by decide +kernel
theorem dX7_bySecond_29 : decode cX7_bySecond 29 = .ok (.iconst 1, 1) := by decide +kernel
theorem dX7_bySecond_30 : decode cX7_bySecond 30 = .ok (.invokevirtual 167, 3) := by decide +kernel
theorem dX7_bySecond_33 : decode cX7_bySecond 33 = .ok (.ifCond .eq 60, 3) := by decide +kernel
theorem dX7_bySecond_36 : decode cX7_bySecond 36 = .ok (.aload_n 0, 1) := by decide +kernel
theorem dX7_bySecond_37 : decode cX7_bySecond 37 = .ok (.invokevirtual 150, 3) := by decide +kernel
theorem dX7_bySecond_40 : decode cX7_bySecond 40 = .ok (.ldc 146, 2) := by decide +kernel
theorem dX7_bySecond_42 : decode cX7_bySecond 42 = .ok (.if_icmp .ne 7, 3) := by decide +kernel
theorem dX7_bySecond_45 : decode cX7_bySecond 45 = .ok (.iconst 1, 1) := by decide +kernel
theorem dX7_bySecond_46 : decode cX7_bySecond 46 = .ok (.goto 4, 3) := by decide +kernel
theorem dX7_bySecond_49 : decode cX7_bySecond 49 = .ok (.iconst 0, 1) := by decide +kernel
theorem dX7_bySecond_50 : decode cX7_bySecond 50 = .ok (.istore 5, 2) := by decide +kernel
theorem dX7_bySecond_52 : decode cX7_bySecond 52 = .ok (.aload_n 0, 1) := by decide +kernel
theorem dX7_bySecond_53 : decode cX7_bySecond 53 = .ok (.iconst 1, 1) := by decide +kernel
theorem dX7_bySecond_54 : decode cX7_bySecond 54 = .ok (.invokevirtual 164, 3) := by decide +kernel
theorem dX7_bySecond_57 : decode cX7_bySecond 57 = .ok (.iload 5, 2) := by decide +kernel
theorem dX7_bySecond_59 : decode cX7_bySecond 59 = .ok (.ifCond .eq 34, 3) := by decide +kernel
theorem dX7_bySecond_62 : decode cX7_bySecond 62 = .ok (.aload_n 0, 1) := by decide +kernel
theorem dX7_bySecond_63 : decode cX7_bySecond 63 = .ok (.iconst 2, 1) := by decide +kernel
theorem dX7_bySecond_64 : decode cX7_bySecond 64 = .ok (.putfield 180, 3) := by decide +kernel
theorem dX7_bySecond_67 : decode cX7_bySecond 67 = .ok (.aload_n 0, 1) := by decide +kernel
theorem dX7_bySecond_68 : decode cX7_bySecond 68 = .ok (.iload_n 1, 1) := by decide +kernel
theorem dX7_bySecond_69 : decode cX7_bySecond 69 = .ok (.putfield 183, 3) := by decide +kernel
theorem dX7_bySecond_72 : decode cX7_bySecond 72 = .ok (.aload_n 0, 1) := by decide +kernel
theorem dX7_bySecond_73 : decode cX7_bySecond 73 = .ok (.iload_n 2, 1) := by decide +kernel
theorem dX7_bySecond_74 : decode cX7_bySecond 74 = .ok (.putfield 186, 3) := by decide +kernel
theorem dX7_bySecond_77 : decode cX7_bySecond 77 = .ok (.aload_n 0, 1) := by decide +kernel
theorem dX7_bySecond_78 : decode cX7_bySecond 78 = .ok (.iload_n 3, 1) := by decide +kernel
theorem dX7_bySecond_79 : decode cX7_bySecond 79 = .ok (.putfield 189, 3) := by decide +kernel
theorem dX7_bySecond_82 : decode cX7_bySecond 82 = .ok (.aload_n 0, 1) := by decide +kernel
theorem dX7_bySecond_83 : decode cX7_bySecond 83 = .ok (.iload 4, 2) := by decide +kernel
theorem dX7_bySecond_85 : decode cX7_bySecond 85 = .ok (.invokestatic 177, 3) := by decide +kernel
theorem dX7_bySecond_88 : decode cX7_bySecond 88 = .ok (.putfield 192, 3) := by decide +kernel
theorem dX7_bySecond_91 : decode cX7_bySecond 91 = .ok (.iconst 1, 1) := by decide +kernel
theorem dX7_bySecond_92 : decode cX7_bySecond 92 = .ok (.ireturn, 1) := by decide +kernel
theorem dX7_bySecond_93 : decode cX7_bySecond 93 = .ok (.iinc 4 1, 3) := by decide +kernel
theorem dX7_bySecond_96 : decode cX7_bySecond 96 = .ok (.goto (-81), 3) := by decide +kernel
theorem dX7_bySecond_99 : decode cX7_bySecond 99 = .ok (.iinc 3 1, 3) := by decide +kernel
theorem dX7_bySecond_102 : decode cX7_bySecond 102 = .ok (.goto (-98), 3) := by decide +kernel
theorem dX7_bySecond_105 : decode cX7_bySecond 105 = .ok (.iconst 0, 1) := by decide +kernel
theorem dX7_bySecond_106 : decode cX7_bySecond 106 = .ok (.ireturn, 1) := by decide +kernel
theorem dX7_byTwo_0 : decode cX7_byTwo 0 = .ok (.iconst 0, 1) := by decide +kernel
theorem dX7_byTwo_1 : decode cX7_byTwo 1 = .ok (.istore_n 1, 1) := by decide +kernel
theorem dX7_byTwo_2 : decode cX7_byTwo 2 = .ok (.iload_n 1, 1) := by decide +kernel
theorem dX7_byTwo_3 : decode cX7_byTwo 3 = .ok (.aload_n 0, 1) := by decide +kernel
theorem dX7_byTwo_4 : decode cX7_byTwo 4 = .ok (.getfield 58, 3) := by decide +kernel
theorem dX7_byTwo_7 : decode cX7_byTwo 7 = .ok (.if_icmp .ge 57, 3) := by decide +kernel
theorem dX7_byTwo_10 : decode cX7_byTwo 10 = .ok (.iconst 0, 1) := by decide +kernel
theorem dX7_byTwo_11 : decode cX7_byTwo 11 = .ok (.istore_n 2, 1) := by decide +kernel
theorem dX7_byTwo_12 : decode cX7_byTwo 12 = .ok (.iload_n 2, 1) := by decide +kernel
theorem dX7_byTwo_13 : decode cX7_byTwo 13 = .ok (.bipush 8, 2) := by decide +kernel
theorem dX7_byTwo_15 : decode cX7_byTwo 15 = .ok (.if_icmp .ge 43, 3) := by decide +kernel
theorem dX7_byTwo_18 : decode cX7_byTwo 18 = .ok (.aload_n 0, 1) := by decide +kernel
theorem dX7_byTwo_19 : decode cX7_byTwo 19 = .ok (.iload_n 1, 1) := by decide +kernel
theorem dX7_byTwo_20 : decode cX7_byTwo 20 = .ok (.iload_n 2, 1) := by decide +kernel
theorem dX7_byTwo_21 : decode cX7_byTwo 21 = .ok (.invokestatic 177, 3) := by decide +kernel
theorem dX7_byTwo_24 : decode cX7_byTwo 24 = .ok (.iconst 0, 1) := by decide +kernel
theorem dX7_byTwo_25 : decode cX7_byTwo 25 = .ok (.invokevirtual 167, 3) := by decide +kernel
theorem dX7_byTwo_28 : decode cX7_byTwo 28 = .ok (.ifCond .eq 24, 3) := by decide +kernel
theorem dX7_byTwo_31 : decode cX7_byTwo 31 = .ok (.aload_n 0, 1) := by decide +kernel
theorem dX7_byTwo_32 : decode cX7_byTwo 32 = .ok (.iload_n 1, 1) := by decide +kernel
theorem dX7_byTwo_33 : decode cX7_byTwo 33 = .ok (.iload_n 2, 1) := by decide +kernel
theorem dX7_byTwo_34 : decode cX7_byTwo 34 = .ok (.invokestatic 177, 3) := by decide +kernel
theorem dX7_byTwo_37 : decode cX7_byTwo 37 = .ok (.invokevirtual 195, 3) := by decide +kernel
theorem dX7_byTwo_40 : decode cX7_byTwo 40 = .ok (.istore_n 3, 1) := by decide +kernel
theorem dX7_byTwo_41 : decode cX7_byTwo 41 = .ok (.aload_n 0, 1) := by decide +kernel
theorem dX7_byTwo_42 : decode cX7_byTwo 42 = .ok (.iconst 0, 1) := by decide +kernel
theorem dX7_byTwo_43 : decode cX7_byTwo 43 = .ok (.invokevirtual 164, 3) := by decide +kernel
theorem dX7_byTwo_46 : decode cX7_byTwo 46 = .ok (.iload_n 3, 1) := by decide +kernel
theorem dX7_byTwo_47 : decode cX7_byTwo 47 = .ok (.ifCond .eq 5, 3) := by decide +kernel
theorem dX7_byTwo_50 : decode cX7_byTwo 50 = .ok (.iconst 1, 1) := by decide +kernel
theorem dX7_byTwo_51 : decode cX7_byTwo 51 = .ok (.ireturn, 1) := by decide +kernel
theorem dX7_byTwo_52 : decode cX7_byTwo 52 = .ok (.iinc 2 1, 3) := by decide +kernel
theorem dX7_byTwo_55 : decode cX7_byTwo 55 = .ok (.goto (-43), 3) := by decide +kernel
theorem dX7_byTwo_58 : decode cX7_byTwo 58 = .ok (.iinc 1 1, 3) := by decide +kernel
theorem dX7_byTwo_61 : decode cX7_byTwo 61 = .ok (.goto (-59), 3) := by decide +kernel
theorem dX7_byTwo_64 : decode cX7_byTwo 64 = .ok (.iconst 0, 1) := by decide +kernel
theorem dX7_byTwo_65 : decode cX7_byTwo 65 = .ok (.ireturn, 1) := by decide +kernel
theorem dX7_fewest_0 : decode cX7_fewest 0 = .ok (.iload_n 1, 1) := by decide +kernel
theorem dX7_fewest_1 : decode cX7_fewest 1 = .ok (.iconst 0, 1) := by decide +kernel
theorem dX7_fewest_2 : decode cX7_fewest 2 = .ok (.iconst 4, 1) := by decide +kernel
theorem dX7_fewest_3 : decode cX7_fewest 3 = .ok (.invokestatic 70, 3) := by decide +kernel
theorem dX7_fewest_6 : decode cX7_fewest 6 = .ok (.ifCond .ne 6, 3) := by decide +kernel
theorem dX7_fewest_9 : decode cX7_fewest 9 = .ok (.ldc 78, 2) := by decide +kernel
theorem dX7_fewest_11 : decode cX7_fewest 11 = .ok (.ireturn, 1) := by decide +kernel
theorem dX7_fewest_12 : decode cX7_fewest 12 = .ok (.aload_n 0, 1) := by decide +kernel
theorem dX7_fewest_13 : decode cX7_fewest 13 = .ok (.iconst 0, 1) := by decide +kernel
theorem dX7_fewest_14 : decode cX7_fewest 14 = .ok (.putfield 180, 3) := by decide +kernel
theorem dX7_fewest_17 : decode cX7_fewest 17 = .ok (.aload_n 0, 1) := by decide +kernel
theorem dX7_fewest_18 : decode cX7_fewest 18 = .ok (.invokevirtual 150, 3) := by decide +kernel
theorem dX7_fewest_21 : decode cX7_fewest 21 = .ok (.ldc 146, 2) := by decide +kernel
theorem dX7_fewest_23 : decode cX7_fewest 23 = .ok (.if_icmp .eq 20, 3) := by decide +kernel
theorem dX7_fewest_26 : decode cX7_fewest 26 = .ok (.aload_n 0, 1) := by decide +kernel
theorem dX7_fewest_27 : decode cX7_fewest 27 = .ok (.invokevirtual 199, 3) := by decide +kernel
theorem dX7_fewest_30 : decode cX7_fewest 30 = .ok (.ifCond .ne 13, 3) := by decide +kernel
theorem dX7_fewest_33 : decode cX7_fewest 33 = .ok (.aload_n 0, 1) := by decide +kernel
theorem dX7_fewest_34 : decode cX7_fewest 34 = .ok (.invokevirtual 203, 3) := by decide +kernel
theorem dX7_fewest_37 : decode cX7_fewest 37 = .ok (.ifCond .ne 6, 3) := by decide +kernel
theorem dX7_fewest_40 : decode cX7_fewest 40 = .ok (.ldc 146, 2) := by decide +kernel
theorem dX7_fewest_42 : decode cX7_fewest 42 = .ok (.ireturn, 1) := by decide +kernel
theorem dX7_fewest_43 : decode cX7_fewest 43 = .ok (.iload_n 1, 1) := by decide +kernel
theorem dX7_fewest_44 : decode cX7_fewest 44 = .ok (.ifCond .ne 8, 3) := by decide +kernel
theorem dX7_fewest_47 : decode cX7_fewest 47 = .ok (.aload_n 0, 1) := by decide +kernel
theorem dX7_fewest_48 : decode cX7_fewest 48 = .ok (.getfield 180, 3) := by decide +kernel
theorem dX7_fewest_51 : decode cX7_fewest 51 = .ok (.ireturn, 1) := by decide +kernel
theorem dX7_fewest_52 : decode cX7_fewest 52 = .ok (.iload_n 1, 1) := by decide +kernel
theorem dX7_fewest_53 : decode cX7_fewest 53 = .ok (.iconst 3, 1) := by decide +kernel
theorem dX7_fewest_54 : decode cX7_fewest 54 = .ok (.if_icmp .ge 33, 3) := by decide +kernel
theorem dX7_fewest_57 : decode cX7_fewest 57 = .ok (.aload_n 0, 1) := by decide +kernel
theorem dX7_fewest_58 : decode cX7_fewest 58 = .ok (.getfield 180, 3) := by decide +kernel
theorem dX7_fewest_61 : decode cX7_fewest 61 = .ok (.iconst 1, 1) := by decide +kernel
theorem dX7_fewest_62 : decode cX7_fewest 62 = .ok (.if_icmp .ge 8, 3) := by decide +kernel
theorem dX7_fewest_65 : decode cX7_fewest 65 = .ok (.ldc 146, 2) := by decide +kernel
theorem dX7_fewest_67 : decode cX7_fewest 67 = .ok (.goto 19, 3) := by decide +kernel
theorem dX7_fewest_70 : decode cX7_fewest 70 = .ok (.iload_n 1, 1) := by decide +kernel
theorem dX7_fewest_71 : decode cX7_fewest 71 = .ok (.iconst 1, 1) := by decide +kernel
theorem dX7_fewest_72 : decode cX7_fewest 72 = .ok (.if_icmp .ne 10, 3) := by decide +kernel
theorem dX7_fewest_75 : decode cX7_fewest 75 = .ok (.aload_n 0, 1) := by decide +kernel
theorem dX7_fewest_76 : decode cX7_fewest 76 = .ok (.getfield 183, 3) := by decide +kernel
theorem dX7_fewest_79 : decode cX7_fewest 79 = .ok (.goto 7, 3) := by decide +kernel
theorem dX7_fewest_82 : decode cX7_fewest 82 = .ok (.aload_n 0, 1) := by decide +kernel
theorem dX7_fewest_83 : decode cX7_fewest 83 = .ok (.getfield 186, 3) := by decide +kernel
theorem dX7_fewest_86 : decode cX7_fewest 86 = .ok (.ireturn, 1) := by decide +kernel
theorem dX7_fewest_87 : decode cX7_fewest 87 = .ok (.aload_n 0, 1) := by decide +kernel
theorem dX7_fewest_88 : decode cX7_fewest 88 = .ok (.getfield 180, 3) := by decide +kernel
theorem dX7_fewest_91 : decode cX7_fewest 91 = .ok (.iconst 2, 1) := by decide +kernel
theorem dX7_fewest_92 : decode cX7_fewest 92 = .ok (.if_icmp .ge 8, 3) := by decide +kernel
theorem dX7_fewest_95 : decode cX7_fewest 95 = .ok (.ldc 146, 2) := by decide +kernel
theorem dX7_fewest_97 : decode cX7_fewest 97 = .ok (.goto 19, 3) := by decide +kernel
theorem dX7_fewest_100 : decode cX7_fewest 100 = .ok (.iload_n 1, 1) := by decide +kernel
theorem dX7_fewest_101 : decode cX7_fewest 101 = .ok (.iconst 3, 1) := by decide +kernel
theorem dX7_fewest_102 : decode cX7_fewest 102 = .ok (.if_icmp .ne 10, 3) := by decide +kernel
theorem dX7_fewest_105 : decode cX7_fewest 105 = .ok (.aload_n 0, 1) := by decide +kernel
theorem dX7_fewest_106 : decode cX7_fewest 106 = .ok (.getfield 189, 3) := by decide +kernel
theorem dX7_fewest_109 : decode cX7_fewest 109 = .ok (.goto 7, 3) := by decide +kernel
theorem dX7_fewest_112 : decode cX7_fewest 112 = .ok (.aload_n 0, 1) := by decide +kernel
theorem dX7_fewest_113 : decode cX7_fewest 113 = .ok (.getfield 192, 3) := by decide +kernel
theorem dX7_fewest_116 : decode cX7_fewest 116 = .ok (.ireturn, 1) := by decide +kernel
theorem dX7_log_0 : decode cX7_log 0 = .ok (.iload_n 1, 1) := by decide +kernel
theorem dX7_log_1 : decode cX7_log 1 = .ok (.ifCond .lt 12, 3) := by decide +kernel
theorem dX7_log_4 : decode cX7_log 4 = .ok (.iload_n 2, 1) := by decide +kernel
theorem dX7_log_5 : decode cX7_log 5 = .ok (.iconst 0, 1) := by decide +kernel
theorem dX7_log_6 : decode cX7_log 6 = .ok (.iconst 1, 1) := by decide +kernel
theorem dX7_log_7 : decode cX7_log 7 = .ok (.invokestatic 70, 3) := by decide +kernel
theorem dX7_log_10 : decode cX7_log 10 = .ok (.ifCond .ne 6, 3) := by decide +kernel
theorem dX7_log_13 : decode cX7_log 13 = .ok (.ldc 78, 2) := by decide +kernel
theorem dX7_log_15 : decode cX7_log 15 = .ok (.ireturn, 1) := by decide +kernel
theorem dX7_log_16 : decode cX7_log 16 = .ok (.iload_n 1, 1) := by decide +kernel
theorem dX7_log_17 : decode cX7_log 17 = .ok (.aload_n 0, 1) := by decide +kernel
theorem dX7_log_18 : decode cX7_log 18 = .ok (.getfield 61, 3) := by decide +kernel
theorem dX7_log_21 : decode cX7_log 21 = .ok (.if_icmp .ge 16, 3) := by decide +kernel
theorem dX7_log_24 : decode cX7_log 24 = .ok (.aload_n 0, 1) := by decide +kernel
theorem dX7_log_25 : decode cX7_log 25 = .ok (.getfield 32, 3) := by decide +kernel
theorem dX7_log_28 : decode cX7_log 28 = .ok (.iconst 2, 1) := by decide +kernel
theorem dX7_log_29 : decode cX7_log 29 = .ok (.iload_n 1, 1) := by decide +kernel
theorem dX7_log_30 : decode cX7_log 30 = .ok (.imul, 1) := by decide +kernel
theorem dX7_log_31 : decode cX7_log 31 = .ok (.iload_n 2, 1) := by decide +kernel
theorem dX7_log_32 : decode cX7_log 32 = .ok (.iadd, 1) := by decide +kernel
theorem dX7_log_33 : decode cX7_log 33 = .ok (.iaload, 1) := by decide +kernel
theorem dX7_log_34 : decode cX7_log 34 = .ok (.goto 5, 3) := by decide +kernel
theorem dX7_log_37 : decode cX7_log 37 = .ok (.ldc 146, 2) := by decide +kernel
theorem dX7_log_39 : decode cX7_log 39 = .ok (.ireturn, 1) := by decide +kernel
theorem dX7_undo_0 : decode cX7_undo 0 = .ok (.aload_n 0, 1) := by decide +kernel
theorem dX7_undo_1 : decode cX7_undo 1 = .ok (.getfield 61, 3) := by decide +kernel
theorem dX7_undo_4 : decode cX7_undo 4 = .ok (.ifCond .ne 6, 3) := by decide +kernel
theorem dX7_undo_7 : decode cX7_undo 7 = .ok (.ldc 85, 2) := by decide +kernel
theorem dX7_undo_9 : decode cX7_undo 9 = .ok (.ireturn, 1) := by decide +kernel
theorem dX7_undo_10 : decode cX7_undo 10 = .ok (.aload_n 0, 1) := by decide +kernel
theorem dX7_undo_11 : decode cX7_undo 11 = .ok (.dup, 1) := by decide +kernel
theorem dX7_undo_12 : decode cX7_undo 12 = .ok (.getfield 61, 3) := by decide +kernel
theorem dX7_undo_15 : decode cX7_undo 15 = .ok (.iconst 1, 1) := by decide +kernel
theorem dX7_undo_16 : decode cX7_undo 16 = .ok (.isub, 1) := by decide +kernel
theorem dX7_undo_17 : decode cX7_undo 17 = .ok (.putfield 61, 3) := by decide +kernel
theorem dX7_undo_20 : decode cX7_undo 20 = .ok (.aload_n 0, 1) := by decide +kernel
theorem dX7_undo_21 : decode cX7_undo 21 = .ok (.aload_n 0, 1) := by decide +kernel
theorem dX7_undo_22 : decode cX7_undo 22 = .ok (.getfield 32, 3) := by decide +kernel
theorem dX7_undo_25 : decode cX7_undo 25 = .ok (.iconst 2, 1) := by decide +kernel
theorem dX7_undo_26 : decode cX7_undo 26 = .ok (.aload_n 0, 1) := by decide +kernel
theorem dX7_undo_27 : decode cX7_undo 27 = .ok (.getfield 61, 3) := by decide +kernel
theorem dX7_undo_30 : decode cX7_undo 30 = .ok (.imul, 1) := by decide +kernel
theorem dX7_undo_31 : decode cX7_undo 31 = .ok (.iaload, 1) := by decide +kernel
theorem dX7_undo_32 : decode cX7_undo 32 = .ok (.aload_n 0, 1) := by decide +kernel
theorem dX7_undo_33 : decode cX7_undo 33 = .ok (.getfield 32, 3) := by decide +kernel
theorem dX7_undo_36 : decode cX7_undo 36 = .ok (.iconst 2, 1) := by decide +kernel
theorem dX7_undo_37 : decode cX7_undo 37 = .ok (.aload_n 0, 1) := by decide +kernel
theorem dX7_undo_38 : decode cX7_undo 38 = .ok (.getfield 61, 3) := by decide +kernel
theorem dX7_undo_41 : decode cX7_undo 41 = .ok (.imul, 1) := by decide +kernel
theorem dX7_undo_42 : decode cX7_undo 42 = .ok (.iconst 1, 1) := by decide +kernel
theorem dX7_undo_43 : decode cX7_undo 43 = .ok (.iadd, 1) := by decide +kernel
theorem dX7_undo_44 : decode cX7_undo 44 = .ok (.iaload, 1) := by decide +kernel
theorem dX7_undo_45 : decode cX7_undo 45 = .ok (.ineg, 1) := by decide +kernel
theorem dX7_undo_46 : decode cX7_undo 46 = .ok (.invokevirtual 160, 3) := by decide +kernel
theorem dX7_undo_49 : decode cX7_undo 49 = .ok (.aload_n 0, 1) := by decide +kernel
theorem dX7_undo_50 : decode cX7_undo 50 = .ok (.getfield 61, 3) := by decide +kernel
theorem dX7_undo_53 : decode cX7_undo 53 = .ok (.ireturn, 1) := by decide +kernel
theorem dX7_snap_0 : decode cX7_snap 0 = .ok (.aload_n 0, 1) := by decide +kernel
theorem dX7_snap_1 : decode cX7_snap 1 = .ok (.iload_n 1, 1) := by decide +kernel
theorem dX7_snap_2 : decode cX7_snap 2 = .ok (.invokevirtual 79, 3) := by decide +kernel
theorem dX7_snap_5 : decode cX7_snap 5 = .ok (.ifCond .ne 6, 3) := by decide +kernel
theorem dX7_snap_8 : decode cX7_snap 8 = .ok (.ldc 78, 2) := by decide +kernel
theorem dX7_snap_10 : decode cX7_snap 10 = .ok (.ireturn, 1) := by decide +kernel
theorem dX7_snap_11 : decode cX7_snap 11 = .ok (.aload_n 0, 1) := by decide +kernel
theorem dX7_snap_12 : decode cX7_snap 12 = .ok (.iload_n 1, 1) := by decide +kernel
theorem dX7_snap_13 : decode cX7_snap 13 = .ok (.invokevirtual 74, 3) := by decide +kernel
theorem dX7_snap_16 : decode cX7_snap 16 = .ok (.ifCond .eq 6, 3) := by decide +kernel
theorem dX7_snap_19 : decode cX7_snap 19 = .ok (.ldc 85, 2) := by decide +kernel
theorem dX7_snap_21 : decode cX7_snap 21 = .ok (.ireturn, 1) := by decide +kernel
theorem dX7_snap_22 : decode cX7_snap 22 = .ok (.aload_n 0, 1) := by decide +kernel
theorem dX7_snap_23 : decode cX7_snap 23 = .ok (.getfield 13, 3) := by decide +kernel
theorem dX7_snap_26 : decode cX7_snap 26 = .ok (.iload_n 1, 1) := by decide +kernel
theorem dX7_snap_27 : decode cX7_snap 27 = .ok (.laload, 1) := by decide +kernel
theorem dX7_snap_28 : decode cX7_snap 28 = .ok (.lstore_n 2, 1) := by decide +kernel
theorem dX7_snap_29 : decode cX7_snap 29 = .ok (.iconst 0, 1) := by decide +kernel
theorem dX7_snap_30 : decode cX7_snap 30 = .ok (.istore 4, 2) := by decide +kernel
theorem dX7_snap_32 : decode cX7_snap 32 = .ok (.iload 4, 2) := by decide +kernel
theorem dX7_snap_34 : decode cX7_snap 34 = .ok (.aload_n 0, 1) := by decide +kernel
theorem dX7_snap_35 : decode cX7_snap 35 = .ok (.getfield 58, 3) := by decide +kernel
theorem dX7_snap_38 : decode cX7_snap 38 = .ok (.if_icmp .ge 66, 3) := by decide +kernel
theorem dX7_snap_41 : decode cX7_snap 41 = .ok (.iload 4, 2) := by decide +kernel
theorem dX7_snap_43 : decode cX7_snap 43 = .ok (.iload_n 1, 1) := by decide +kernel
theorem dX7_snap_44 : decode cX7_snap 44 = .ok (.if_icmp .eq 54, 3) := by decide +kernel
theorem dX7_snap_47 : decode cX7_snap 47 = .ok (.aload_n 0, 1) := by decide +kernel
theorem dX7_snap_48 : decode cX7_snap 48 = .ok (.iload 4, 2) := by decide +kernel
theorem dX7_snap_50 : decode cX7_snap 50 = .ok (.invokevirtual 74, 3) := by decide +kernel
theorem dX7_snap_53 : decode cX7_snap 53 = .ok (.ifCond .ne 45, 3) := by decide +kernel
theorem dX7_snap_56 : decode cX7_snap 56 = .ok (.aload_n 0, 1) := by decide +kernel
theorem dX7_snap_57 : decode cX7_snap 57 = .ok (.getfield 13, 3) := by decide +kernel
theorem dX7_snap_60 : decode cX7_snap 60 = .ok (.iload 4, 2) := by decide +kernel
theorem dX7_snap_62 : decode cX7_snap 62 = .ok (.laload, 1) := by decide +kernel
theorem dX7_snap_63 : decode cX7_snap 63 = .ok (.lload_n 2, 1) := by decide +kernel
theorem dX7_snap_64 : decode cX7_snap 64 = .ok (.aload_n 0, 1) := by decide +kernel
theorem dX7_snap_65 : decode cX7_snap 65 = .ok (.iconst 4, 1) := by decide +kernel
theorem dX7_snap_66 : decode cX7_snap 66 = .ok (.aload_n 0, 1) := by decide +kernel
theorem dX7_snap_67 : decode cX7_snap 67 = .ok (.iload_n 1, 1) := by decide +kernel
theorem dX7_snap_68 : decode cX7_snap 68 = .ok (.iload 4, 2) := by decide +kernel
theorem dX7_snap_70 : decode cX7_snap 70 = .ok (.invokevirtual 154, 3) := by decide +kernel
theorem dX7_snap_73 : decode cX7_snap 73 = .ok (.invokevirtual 98, 3) := by decide +kernel
theorem dX7_snap_76 : decode cX7_snap 76 = .ok (.i2l, 1) := by decide +kernel
theorem dX7_snap_77 : decode cX7_snap 77 = .ok (.lmul, 1) := by decide +kernel
theorem dX7_snap_78 : decode cX7_snap 78 = .ok (.ldc2_w 120, 3) := by decide +kernel
theorem dX7_snap_81 : decode cX7_snap 81 = .ok (.invokestatic 110, 3) := by decide +kernel
theorem dX7_snap_84 : decode cX7_snap 84 = .ok (.ladd, 1) := by decide +kernel
theorem dX7_snap_85 : decode cX7_snap 85 = .ok (.invokestatic 122, 3) := by decide +kernel
theorem dX7_snap_88 : decode cX7_snap 88 = .ok (.ldc2_w 206, 3) := by decide +kernel
theorem dX7_snap_91 : decode cX7_snap 91 = .ok (.lcmp, 1) := by decide +kernel
theorem dX7_snap_92 : decode cX7_snap 92 = .ok (.ifCond .le 6, 3) := by decide +kernel
theorem dX7_snap_95 : decode cX7_snap 95 = .ok (.ldc 85, 2) := by decide +kernel
theorem dX7_snap_97 : decode cX7_snap 97 = .ok (.ireturn, 1) := by decide +kernel
theorem dX7_snap_98 : decode cX7_snap 98 = .ok (.iinc 4 1, 3) := by decide +kernel
theorem dX7_snap_101 : decode cX7_snap 101 = .ok (.goto (-69), 3) := by decide +kernel
theorem dX7_snap_104 : decode cX7_snap 104 = .ok (.iconst 0, 1) := by decide +kernel
theorem dX7_snap_105 : decode cX7_snap 105 = .ok (.istore 4, 2) := by decide +kernel
theorem dX7_snap_107 : decode cX7_snap 107 = .ok (.iload 4, 2) := by decide +kernel
theorem dX7_snap_109 : decode cX7_snap 109 = .ok (.aload_n 0, 1) := by decide +kernel
theorem dX7_snap_110 : decode cX7_snap 110 = .ok (.getfield 58, 3) := by decide +kernel
theorem dX7_snap_113 : decode cX7_snap 113 = .ok (.if_icmp .ge 55, 3) := by decide +kernel
theorem dX7_snap_116 : decode cX7_snap 116 = .ok (.iload 4, 2) := by decide +kernel
theorem dX7_snap_118 : decode cX7_snap 118 = .ok (.iload_n 1, 1) := by decide +kernel
theorem dX7_snap_119 : decode cX7_snap 119 = .ok (.if_icmp .eq 43, 3) := by decide +kernel
theorem dX7_snap_122 : decode cX7_snap 122 = .ok (.aload_n 0, 1) := by decide +kernel
theorem dX7_snap_123 : decode cX7_snap 123 = .ok (.iload 4, 2) := by decide +kernel
theorem dX7_snap_125 : decode cX7_snap 125 = .ok (.invokevirtual 74, 3) := by decide +kernel
theorem dX7_snap_128 : decode cX7_snap 128 = .ok (.ifCond .ne 34, 3) := by decide +kernel
theorem dX7_snap_131 : decode cX7_snap 131 = .ok (.aload_n 0, 1) := by decide +kernel
theorem dX7_snap_132 : decode cX7_snap 132 = .ok (.getfield 13, 3) := by decide +kernel
theorem dX7_snap_135 : decode cX7_snap 135 = .ok (.iload 4, 2) := by decide +kernel
theorem dX7_snap_137 : decode cX7_snap 137 = .ok (.dup2, 1) := by decide +kernel
theorem dX7_snap_138 : decode cX7_snap 138 = .ok (.laload, 1) := by decide +kernel
theorem dX7_snap_139 : decode cX7_snap 139 = .ok (.lload_n 2, 1) := by decide +kernel
theorem dX7_snap_140 : decode cX7_snap 140 = .ok (.aload_n 0, 1) := by decide +kernel
theorem dX7_snap_141 : decode cX7_snap 141 = .ok (.iconst 4, 1) := by decide +kernel
theorem dX7_snap_142 : decode cX7_snap 142 = .ok (.aload_n 0, 1) := by decide +kernel
theorem dX7_snap_143 : decode cX7_snap 143 = .ok (.iload_n 1, 1) := by decide +kernel
theorem dX7_snap_144 : decode cX7_snap 144 = .ok (.iload 4, 2) := by decide +kernel
theorem dX7_snap_146 : decode cX7_snap 146 = .ok (.invokevirtual 154, 3) := by decide +kernel
theorem dX7_snap_149 : decode cX7_snap 149 = .ok (.invokevirtual 98, 3) := by decide +kernel
theorem dX7_snap_152 : decode cX7_snap 152 = .ok (.i2l, 1) := by decide +kernel
theorem dX7_snap_153 : decode cX7_snap 153 = .ok (.lmul, 1) := by decide +kernel
theorem dX7_snap_154 : decode cX7_snap 154 = .ok (.ldc2_w 120, 3) := by decide +kernel
theorem dX7_snap_157 : decode cX7_snap 157 = .ok (.invokestatic 110, 3) := by decide +kernel
theorem dX7_snap_160 : decode cX7_snap 160 = .ok (.ladd, 1) := by decide +kernel
theorem dX7_snap_161 : decode cX7_snap 161 = .ok (.lastore, 1) := by decide +kernel
theorem dX7_snap_162 : decode cX7_snap 162 = .ok (.iinc 4 1, 3) := by decide +kernel
theorem dX7_snap_165 : decode cX7_snap 165 = .ok (.goto (-58), 3) := by decide +kernel
theorem dX7_snap_168 : decode cX7_snap 168 = .ok (.aload_n 0, 1) := by decide +kernel
theorem dX7_snap_169 : decode cX7_snap 169 = .ok (.getfield 7, 3) := by decide +kernel
theorem dX7_snap_172 : decode cX7_snap 172 = .ok (.iload_n 1, 1) := by decide +kernel
theorem dX7_snap_173 : decode cX7_snap 173 = .ok (.iconst 4, 1) := by decide +kernel
theorem dX7_snap_174 : decode cX7_snap 174 = .ok (.iastore, 1) := by decide +kernel
theorem dX7_snap_175 : decode cX7_snap 175 = .ok (.aload_n 0, 1) := by decide +kernel
theorem dX7_snap_176 : decode cX7_snap 176 = .ok (.getfield 13, 3) := by decide +kernel
theorem dX7_snap_179 : decode cX7_snap 179 = .ok (.iload_n 1, 1) := by decide +kernel
theorem dX7_snap_180 : decode cX7_snap 180 = .ok (.lconst 0, 1) := by decide +kernel
theorem dX7_snap_181 : decode cX7_snap 181 = .ok (.lastore, 1) := by decide +kernel
theorem dX7_snap_182 : decode cX7_snap 182 = .ok (.lload_n 2, 1) := by decide +kernel
theorem dX7_snap_183 : decode cX7_snap 183 = .ok (.l2i, 1) := by decide +kernel
theorem dX7_snap_184 : decode cX7_snap 184 = .ok (.ireturn, 1) := by decide +kernel
theorem dX7_anew_0 : decode cX7_anew 0 = .ok (.aload_n 0, 1) := by decide +kernel
theorem dX7_anew_1 : decode cX7_anew 1 = .ok (.iload_n 1, 1) := by decide +kernel
theorem dX7_anew_2 : decode cX7_anew 2 = .ok (.invokevirtual 79, 3) := by decide +kernel
theorem dX7_anew_5 : decode cX7_anew 5 = .ok (.ifCond .eq 20, 3) := by decide +kernel
theorem dX7_anew_8 : decode cX7_anew 8 = .ok (.iload_n 2, 1) := by decide +kernel
theorem dX7_anew_9 : decode cX7_anew 9 = .ok (.invokestatic 82, 3) := by decide +kernel
theorem dX7_anew_12 : decode cX7_anew 12 = .ok (.ifCond .eq 13, 3) := by decide +kernel
theorem dX7_anew_15 : decode cX7_anew 15 = .ok (.iload_n 3, 1) := by decide +kernel
theorem dX7_anew_16 : decode cX7_anew 16 = .ok (.iconst 0, 1) := by decide +kernel
theorem dX7_anew_17 : decode cX7_anew 17 = .ok (.ldc 90, 2) := by decide +kernel
theorem dX7_anew_19 : decode cX7_anew 19 = .ok (.invokestatic 70, 3) := by decide +kernel
theorem dX7_anew_22 : decode cX7_anew 22 = .ok (.ifCond .ne 6, 3) := by decide +kernel
theorem dX7_anew_25 : decode cX7_anew 25 = .ok (.ldc 78, 2) := by decide +kernel
theorem dX7_anew_27 : decode cX7_anew 27 = .ok (.ireturn, 1) := by decide +kernel
theorem dX7_anew_28 : decode cX7_anew 28 = .ok (.aload_n 0, 1) := by decide +kernel
theorem dX7_anew_29 : decode cX7_anew 29 = .ok (.iload_n 1, 1) := by decide +kernel
theorem dX7_anew_30 : decode cX7_anew 30 = .ok (.invokevirtual 74, 3) := by decide +kernel
theorem dX7_anew_33 : decode cX7_anew 33 = .ok (.ifCond .ne 6, 3) := by decide +kernel
theorem dX7_anew_36 : decode cX7_anew 36 = .ok (.ldc 85, 2) := by decide +kernel
theorem dX7_anew_38 : decode cX7_anew 38 = .ok (.ireturn, 1) := by decide +kernel
theorem dX7_anew_39 : decode cX7_anew 39 = .ok (.aload_n 0, 1) := by decide +kernel
theorem dX7_anew_40 : decode cX7_anew 40 = .ok (.getfield 7, 3) := by decide +kernel
theorem dX7_anew_43 : decode cX7_anew 43 = .ok (.iload_n 1, 1) := by decide +kernel
theorem dX7_anew_44 : decode cX7_anew 44 = .ok (.iload_n 2, 1) := by decide +kernel
theorem dX7_anew_45 : decode cX7_anew 45 = .ok (.iastore, 1) := by decide +kernel
theorem dX7_anew_46 : decode cX7_anew 46 = .ok (.aload_n 0, 1) := by decide +kernel
theorem dX7_anew_47 : decode cX7_anew 47 = .ok (.getfield 13, 3) := by decide +kernel
theorem dX7_anew_50 : decode cX7_anew 50 = .ok (.iload_n 1, 1) := by decide +kernel
theorem dX7_anew_51 : decode cX7_anew 51 = .ok (.iload_n 3, 1) := by decide +kernel
theorem dX7_anew_52 : decode cX7_anew 52 = .ok (.i2l, 1) := by decide +kernel
theorem dX7_anew_53 : decode cX7_anew 53 = .ok (.lastore, 1) := by decide +kernel
theorem dX7_anew_54 : decode cX7_anew 54 = .ok (.iconst 0, 1) := by decide +kernel
theorem dX7_anew_55 : decode cX7_anew 55 = .ok (.ireturn, 1) := by decide +kernel
theorem dX7_pullWith_0 : decode cX7_pullWith 0 = .ok (.aload_n 0, 1) := by decide +kernel
theorem dX7_pullWith_1 : decode cX7_pullWith 1 = .ok (.getfield 13, 3) := by decide +kernel
theorem dX7_pullWith_4 : decode cX7_pullWith 4 = .ok (.iload_n 3, 1) := by decide +kernel
theorem dX7_pullWith_5 : decode cX7_pullWith 5 = .ok (.laload, 1) := by decide +kernel
theorem dX7_pullWith_6 : decode cX7_pullWith 6 = .ok (.iload_n 1, 1) := by decide +kernel
theorem dX7_pullWith_7 : decode cX7_pullWith 7 = .ok (.i2l, 1) := by decide +kernel
theorem dX7_pullWith_8 : decode cX7_pullWith 8 = .ok (.aload_n 0, 1) := by decide +kernel
theorem dX7_pullWith_9 : decode cX7_pullWith 9 = .ok (.iconst 5, 1) := by decide +kernel
theorem dX7_pullWith_10 : decode cX7_pullWith 10 = .ok (.aload_n 0, 1) := by decide +kernel
theorem dX7_pullWith_11 : decode cX7_pullWith 11 = .ok (.iload_n 2, 1) := by decide +kernel
theorem dX7_pullWith_12 : decode cX7_pullWith 12 = .ok (.iload_n 3, 1) := by decide +kernel
theorem dX7_pullWith_13 : decode cX7_pullWith 13 = .ok (.invokevirtual 154, 3) := by decide +kernel
theorem dX7_pullWith_16 : decode cX7_pullWith 16 = .ok (.invokevirtual 98, 3) := by decide +kernel
theorem dX7_pullWith_19 : decode cX7_pullWith 19 = .ok (.i2l, 1) := by decide +kernel
theorem dX7_pullWith_20 : decode cX7_pullWith 20 = .ok (.lmul, 1) := by decide +kernel
theorem dX7_pullWith_21 : decode cX7_pullWith 21 = .ok (.ldc2_w 120, 3) := by decide +kernel
theorem dX7_pullWith_24 : decode cX7_pullWith 24 = .ok (.invokestatic 110, 3) := by decide +kernel
theorem dX7_pullWith_27 : decode cX7_pullWith 27 = .ok (.lsub, 1) := by decide +kernel
theorem dX7_pullWith_28 : decode cX7_pullWith 28 = .ok (.lreturn, 1) := by decide +kernel
theorem dX7_loaded_0 : decode cX7_loaded 0 = .ok (.iload_n 1, 1) := by decide +kernel
theorem dX7_loaded_1 : decode cX7_loaded 1 = .ok (.iconst 0, 1) := by decide +kernel
theorem dX7_loaded_2 : decode cX7_loaded 2 = .ok (.ldc 90, 2) := by decide +kernel
theorem dX7_loaded_4 : decode cX7_loaded 4 = .ok (.invokestatic 70, 3) := by decide +kernel
theorem dX7_loaded_7 : decode cX7_loaded 7 = .ok (.ifCond .eq 19, 3) := by decide +kernel
theorem dX7_loaded_10 : decode cX7_loaded 10 = .ok (.aload_n 0, 1) := by decide +kernel
theorem dX7_loaded_11 : decode cX7_loaded 11 = .ok (.iload_n 2, 1) := by decide +kernel
theorem dX7_loaded_12 : decode cX7_loaded 12 = .ok (.invokevirtual 79, 3) := by decide +kernel
theorem dX7_loaded_15 : decode cX7_loaded 15 = .ok (.ifCond .eq 11, 3) := by decide +kernel
theorem dX7_loaded_18 : decode cX7_loaded 18 = .ok (.aload_n 0, 1) := by decide +kernel
theorem dX7_loaded_19 : decode cX7_loaded 19 = .ok (.iload_n 3, 1) := by decide +kernel
theorem dX7_loaded_20 : decode cX7_loaded 20 = .ok (.invokevirtual 79, 3) := by decide +kernel
theorem dX7_loaded_23 : decode cX7_loaded 23 = .ok (.ifCond .ne 6, 3) := by decide +kernel
theorem dX7_loaded_26 : decode cX7_loaded 26 = .ok (.ldc 78, 2) := by decide +kernel
theorem dX7_loaded_28 : decode cX7_loaded 28 = .ok (.ireturn, 1) := by decide +kernel
theorem dX7_loaded_29 : decode cX7_loaded 29 = .ok (.aload_n 0, 1) := by decide +kernel
theorem dX7_loaded_30 : decode cX7_loaded 30 = .ok (.iload_n 3, 1) := by decide +kernel
theorem dX7_loaded_31 : decode cX7_loaded 31 = .ok (.invokevirtual 74, 3) := by decide +kernel
theorem dX7_loaded_34 : decode cX7_loaded 34 = .ok (.ifCond .eq 7, 3) := by decide +kernel
theorem dX7_loaded_37 : decode cX7_loaded 37 = .ok (.iconst 0, 1) := by decide +kernel
theorem dX7_loaded_38 : decode cX7_loaded 38 = .ok (.goto 11, 3) := by decide +kernel
theorem dX7_loaded_41 : decode cX7_loaded 41 = .ok (.aload_n 0, 1) := by decide +kernel
theorem dX7_loaded_42 : decode cX7_loaded 42 = .ok (.iload_n 1, 1) := by decide +kernel
theorem dX7_loaded_43 : decode cX7_loaded 43 = .ok (.iload_n 2, 1) := by decide +kernel
theorem dX7_loaded_44 : decode cX7_loaded 44 = .ok (.iload_n 3, 1) := by decide +kernel
theorem dX7_loaded_45 : decode cX7_loaded 45 = .ok (.invokevirtual 208, 3) := by decide +kernel
theorem dX7_loaded_48 : decode cX7_loaded 48 = .ok (.l2i, 1) := by decide +kernel
theorem dX7_loaded_49 : decode cX7_loaded 49 = .ok (.ireturn, 1) := by decide +kernel
theorem dX7_worstAt_0 : decode cX7_worstAt 0 = .ok (.iload_n 1, 1) := by decide +kernel
theorem dX7_worstAt_1 : decode cX7_worstAt 1 = .ok (.iconst 0, 1) := by decide +kernel
theorem dX7_worstAt_2 : decode cX7_worstAt 2 = .ok (.ldc 90, 2) := by decide +kernel
theorem dX7_worstAt_4 : decode cX7_worstAt 4 = .ok (.invokestatic 70, 3) := by decide +kernel
theorem dX7_worstAt_7 : decode cX7_worstAt 7 = .ok (.ifCond .ne 6, 3) := by decide +kernel
theorem dX7_worstAt_10 : decode cX7_worstAt 10 = .ok (.ldc 78, 2) := by decide +kernel
theorem dX7_worstAt_12 : decode cX7_worstAt 12 = .ok (.ireturn, 1) := by decide +kernel
theorem dX7_worstAt_13 : decode cX7_worstAt 13 = .ok (.iconst 0, 1) := by decide +kernel
theorem dX7_worstAt_14 : decode cX7_worstAt 14 = .ok (.istore_n 2, 1) := by decide +kernel
theorem dX7_worstAt_15 : decode cX7_worstAt 15 = .ok (.iconst (-1), 1) := by decide +kernel
theorem dX7_worstAt_16 : decode cX7_worstAt 16 = .ok (.istore_n 3, 1) := by decide +kernel
theorem dX7_worstAt_17 : decode cX7_worstAt 17 = .ok (.iconst 0, 1) := by decide +kernel
theorem dX7_worstAt_18 : decode cX7_worstAt 18 = .ok (.istore 4, 2) := by decide +kernel
theorem dX7_worstAt_20 : decode cX7_worstAt 20 = .ok (.iload 4, 2) := by decide +kernel
theorem dX7_worstAt_22 : decode cX7_worstAt 22 = .ok (.aload_n 0, 1) := by decide +kernel
theorem dX7_worstAt_23 : decode cX7_worstAt 23 = .ok (.getfield 58, 3) := by decide +kernel
theorem dX7_worstAt_26 : decode cX7_worstAt 26 = .ok (.if_icmp .ge 75, 3) := by decide +kernel
theorem dX7_worstAt_29 : decode cX7_worstAt 29 = .ok (.iconst 0, 1) := by decide +kernel
theorem dX7_worstAt_30 : decode cX7_worstAt 30 = .ok (.istore 5, 2) := by decide +kernel
theorem dX7_worstAt_32 : decode cX7_worstAt 32 = .ok (.iconst 0, 1) := by decide +kernel
theorem dX7_worstAt_33 : decode cX7_worstAt 33 = .ok (.istore 6, 2) := by decide +kernel
theorem dX7_worstAt_35 : decode cX7_worstAt 35 = .ok (.iload 6, 2) := by decide +kernel
theorem dX7_worstAt_37 : decode cX7_worstAt 37 = .ok (.aload_n 0, 1) := by decide +kernel
theorem dX7_worstAt_38 : decode cX7_worstAt 38 = .ok (.getfield 58, 3) := by decide +kernel
theorem dX7_worstAt_41 : decode cX7_worstAt 41 = .ok (.if_icmp .ge 42, 3) := by decide +kernel
theorem dX7_worstAt_44 : decode cX7_worstAt 44 = .ok (.iload 5, 2) := by decide +kernel
theorem dX7_worstAt_46 : decode cX7_worstAt 46 = .ok (.aload_n 0, 1) := by decide +kernel
theorem dX7_worstAt_47 : decode cX7_worstAt 47 = .ok (.iload 6, 2) := by decide +kernel
theorem dX7_worstAt_49 : decode cX7_worstAt 49 = .ok (.invokevirtual 74, 3) := by decide +kernel
theorem dX7_worstAt_52 : decode cX7_worstAt 52 = .ok (.ifCond .ne 21, 3) := by decide +kernel
theorem dX7_worstAt_55 : decode cX7_worstAt 55 = .ok (.aload_n 0, 1) := by decide +kernel
theorem dX7_worstAt_56 : decode cX7_worstAt 56 = .ok (.iload_n 1, 1) := by decide +kernel
theorem dX7_worstAt_57 : decode cX7_worstAt 57 = .ok (.iload 4, 2) := by decide +kernel
theorem dX7_worstAt_59 : decode cX7_worstAt 59 = .ok (.iload 6, 2) := by decide +kernel
theorem dX7_worstAt_61 : decode cX7_worstAt 61 = .ok (.invokevirtual 208, 3) := by decide +kernel
theorem dX7_worstAt_64 : decode cX7_worstAt 64 = .ok (.lconst 0, 1) := by decide +kernel
theorem dX7_worstAt_65 : decode cX7_worstAt 65 = .ok (.lcmp, 1) := by decide +kernel
theorem dX7_worstAt_66 : decode cX7_worstAt 66 = .ok (.ifCond .ge 7, 3) := by decide +kernel
theorem dX7_worstAt_69 : decode cX7_worstAt 69 = .ok (.iconst 1, 1) := by decide +kernel
theorem dX7_worstAt_70 : decode cX7_worstAt 70 = .ok (.goto 4, 3) := by decide +kernel
theorem dX7_worstAt_73 : decode cX7_worstAt 73 = .ok (.iconst 0, 1) := by decide +kernel
theorem dX7_worstAt_74 : decode cX7_worstAt 74 = .ok (.iadd, 1) := by decide +kernel
theorem dX7_worstAt_75 : decode cX7_worstAt 75 = .ok (.istore 5, 2) := by decide +kernel
theorem dX7_worstAt_77 : decode cX7_worstAt 77 = .ok (.iinc 6 1, 3) := by decide +kernel
theorem dX7_worstAt_80 : decode cX7_worstAt 80 = .ok (.goto (-45), 3) := by decide +kernel
theorem dX7_worstAt_83 : decode cX7_worstAt 83 = .ok (.iload 5, 2) := by decide +kernel
theorem dX7_worstAt_85 : decode cX7_worstAt 85 = .ok (.iload_n 3, 1) := by decide +kernel
theorem dX7_worstAt_86 : decode cX7_worstAt 86 = .ok (.if_icmp .le 9, 3) := by decide +kernel
theorem dX7_worstAt_89 : decode cX7_worstAt 89 = .ok (.iload 5, 2) := by decide +kernel
theorem dX7_worstAt_91 : decode cX7_worstAt 91 = .ok (.istore_n 3, 1) := by decide +kernel
theorem dX7_worstAt_92 : decode cX7_worstAt 92 = .ok (.iload 4, 2) := by decide +kernel
theorem dX7_worstAt_94 : decode cX7_worstAt 94 = .ok (.istore_n 2, 1) := by decide +kernel
theorem dX7_worstAt_95 : decode cX7_worstAt 95 = .ok (.iinc 4 1, 3) := by decide +kernel
theorem dX7_worstAt_98 : decode cX7_worstAt 98 = .ok (.goto (-78), 3) := by decide +kernel
theorem dX7_worstAt_101 : decode cX7_worstAt 101 = .ok (.iload_n 2, 1) := by decide +kernel
theorem dX7_worstAt_102 : decode cX7_worstAt 102 = .ok (.ireturn, 1) := by decide +kernel
theorem dX7_lace_0 : decode cX7_lace 0 = .ok (.iload_n 1, 1) := by decide +kernel
theorem dX7_lace_1 : decode cX7_lace 1 = .ok (.iconst 1, 1) := by decide +kernel
theorem dX7_lace_2 : decode cX7_lace 2 = .ok (.sipush 200, 3) := by decide +kernel
theorem dX7_lace_5 : decode cX7_lace 5 = .ok (.invokestatic 70, 3) := by decide +kernel
theorem dX7_lace_8 : decode cX7_lace 8 = .ok (.ifCond .eq 36, 3) := by decide +kernel
theorem dX7_lace_11 : decode cX7_lace 11 = .ok (.iload_n 2, 1) := by decide +kernel
theorem dX7_lace_12 : decode cX7_lace 12 = .ok (.iconst 0, 1) := by decide +kernel
theorem dX7_lace_13 : decode cX7_lace 13 = .ok (.sipush 200, 3) := by decide +kernel
theorem dX7_lace_16 : decode cX7_lace 16 = .ok (.invokestatic 70, 3) := by decide +kernel
theorem dX7_lace_19 : decode cX7_lace 19 = .ok (.ifCond .eq 25, 3) := by decide +kernel
theorem dX7_lace_22 : decode cX7_lace 22 = .ok (.iload_n 3, 1) := by decide +kernel
theorem dX7_lace_23 : decode cX7_lace 23 = .ok (.iconst 1, 1) := by decide +kernel
theorem dX7_lace_24 : decode cX7_lace 24 = .ok (.sipush 1000, 3) := by decide +kernel
theorem dX7_lace_27 : decode cX7_lace 27 = .ok (.invokestatic 70, 3) := by decide +kernel
theorem dX7_lace_30 : decode cX7_lace 30 = .ok (.ifCond .eq 14, 3) := by decide +kernel
theorem dX7_lace_33 : decode cX7_lace 33 = .ok (.iload 4, 2) := by decide +kernel
theorem dX7_lace_35 : decode cX7_lace 35 = .ok (.iconst 0, 1) := by decide +kernel
theorem dX7_lace_36 : decode cX7_lace 36 = .ok (.bipush 7, 2) := by decide +kernel
theorem dX7_lace_38 : decode cX7_lace 38 = .ok (.invokestatic 70, 3) := by decide +kernel
theorem dX7_lace_41 : decode cX7_lace 41 = .ok (.ifCond .ne 6, 3) := by decide +kernel
theorem dX7_lace_44 : decode cX7_lace 44 = .ok (.ldc 78, 2) := by decide +kernel
theorem dX7_lace_46 : decode cX7_lace 46 = .ok (.ireturn, 1) := by decide +kernel
theorem dX7_lace_47 : decode cX7_lace 47 = .ok (.aload_n 0, 1) := by decide +kernel
theorem dX7_lace_48 : decode cX7_lace 48 = .ok (.iload_n 1, 1) := by decide +kernel
theorem dX7_lace_49 : decode cX7_lace 49 = .ok (.putfield 35, 3) := by decide +kernel
theorem dX7_lace_52 : decode cX7_lace 52 = .ok (.aload_n 0, 1) := by decide +kernel
theorem dX7_lace_53 : decode cX7_lace 53 = .ok (.iload_n 2, 1) := by decide +kernel
theorem dX7_lace_54 : decode cX7_lace 54 = .ok (.putfield 39, 3) := by decide +kernel
theorem dX7_lace_57 : decode cX7_lace 57 = .ok (.aload_n 0, 1) := by decide +kernel
theorem dX7_lace_58 : decode cX7_lace 58 = .ok (.iload_n 3, 1) := by decide +kernel
theorem dX7_lace_59 : decode cX7_lace 59 = .ok (.putfield 42, 3) := by decide +kernel
theorem dX7_lace_62 : decode cX7_lace 62 = .ok (.aload_n 0, 1) := by decide +kernel
theorem dX7_lace_63 : decode cX7_lace 63 = .ok (.iload 4, 2) := by decide +kernel
theorem dX7_lace_65 : decode cX7_lace 65 = .ok (.putfield 45, 3) := by decide +kernel
theorem dX7_lace_68 : decode cX7_lace 68 = .ok (.iconst 0, 1) := by decide +kernel
theorem dX7_lace_69 : decode cX7_lace 69 = .ok (.ireturn, 1) := by decide +kernel
theorem dX7_sine16_0 : decode cX7_sine16 0 = .ok (.iload_n 1, 1) := by decide +kernel
theorem dX7_sine16_1 : decode cX7_sine16 1 = .ok (.tableswitch 140 0 15 #[79, 81, 84, 88, 92, 96, 100, 104, 108, 112, 116, 120, 124, 128, 132, 136], 79) := by decide +kernel
theorem dX7_sine16_80 : decode cX7_sine16 80 = .ok (.iconst 0, 1) := by decide +kernel
theorem dX7_sine16_81 : decode cX7_sine16 81 = .ok (.ireturn, 1) := by decide +kernel
theorem dX7_sine16_82 : decode cX7_sine16 82 = .ok (.bipush 100, 2) := by decide +kernel
theorem dX7_sine16_84 : decode cX7_sine16 84 = .ok (.ireturn, 1) := by decide +kernel
theorem dX7_sine16_85 : decode cX7_sine16 85 = .ok (.sipush 200, 3) := by decide +kernel
theorem dX7_sine16_88 : decode cX7_sine16 88 = .ok (.ireturn, 1) := by decide +kernel
theorem dX7_sine16_89 : decode cX7_sine16 89 = .ok (.sipush 297, 3) := by decide +kernel
theorem dX7_sine16_92 : decode cX7_sine16 92 = .ok (.ireturn, 1) := by decide +kernel
theorem dX7_sine16_93 : decode cX7_sine16 93 = .ok (.sipush 392, 3) := by decide +kernel
theorem dX7_sine16_96 : decode cX7_sine16 96 = .ok (.ireturn, 1) := by decide +kernel
theorem dX7_sine16_97 : decode cX7_sine16 97 = .ok (.sipush 483, 3) := by decide +kernel
theorem dX7_sine16_100 : decode cX7_sine16 100 = .ok (.ireturn, 1) := by decide +kernel
theorem dX7_sine16_101 : decode cX7_sine16 101 = .ok (.sipush 569, 3) := by decide +kernel
theorem dX7_sine16_104 : decode cX7_sine16 104 = .ok (.ireturn, 1) := by decide +kernel
theorem dX7_sine16_105 : decode cX7_sine16 105 = .ok (.sipush 650, 3) := by decide +kernel
theorem dX7_sine16_108 : decode cX7_sine16 108 = .ok (.ireturn, 1) := by decide +kernel
theorem dX7_sine16_109 : decode cX7_sine16 109 = .ok (.sipush 724, 3) := by decide +kernel
theorem dX7_sine16_112 : decode cX7_sine16 112 = .ok (.ireturn, 1) := by decide +kernel
theorem dX7_sine16_113 : decode cX7_sine16 113 = .ok (.sipush 792, 3) := by decide +kernel
theorem dX7_sine16_116 : decode cX7_sine16 116 = .ok (.ireturn, 1) := by decide +kernel
theorem dX7_sine16_117 : decode cX7_sine16 117 = .ok (.sipush 851, 3) := by decide +kernel
theorem dX7_sine16_120 : decode cX7_sine16 120 = .ok (.ireturn, 1) := by decide +kernel
theorem dX7_sine16_121 : decode cX7_sine16 121 = .ok (.sipush 903, 3) := by decide +kernel
theorem dX7_sine16_124 : decode cX7_sine16 124 = .ok (.ireturn, 1) := by decide +kernel
theorem dX7_sine16_125 : decode cX7_sine16 125 = .ok (.sipush 946, 3) := by decide +kernel
theorem dX7_sine16_128 : decode cX7_sine16 128 = .ok (.ireturn, 1) := by decide +kernel
theorem dX7_sine16_129 : decode cX7_sine16 129 = .ok (.sipush 980, 3) := by decide +kernel
theorem dX7_sine16_132 : decode cX7_sine16 132 = .ok (.ireturn, 1) := by decide +kernel
theorem dX7_sine16_133 : decode cX7_sine16 133 = .ok (.sipush 1004, 3) := by decide +kernel
theorem dX7_sine16_136 : decode cX7_sine16 136 = .ok (.ireturn, 1) := by decide +kernel
theorem dX7_sine16_137 : decode cX7_sine16 137 = .ok (.sipush 1019, 3) := by decide +kernel
theorem dX7_sine16_140 : decode cX7_sine16 140 = .ok (.ireturn, 1) := by decide +kernel
theorem dX7_sine16_141 : decode cX7_sine16 141 = .ok (.sipush 1024, 3) := by decide +kernel
theorem dX7_sine16_144 : decode cX7_sine16 144 = .ok (.ireturn, 1) := by decide +kernel
theorem dX7_sine_0 : decode cX7_sine 0 = .ok (.iload_n 1, 1) := by decide +kernel
theorem dX7_sine_1 : decode cX7_sine 1 = .ok (.bipush 63, 2) := by decide +kernel
theorem dX7_sine_3 : decode cX7_sine 3 = .ok (.iand, 1) := by decide +kernel
theorem dX7_sine_4 : decode cX7_sine 4 = .ok (.istore_n 2, 1) := by decide +kernel
theorem dX7_sine_5 : decode cX7_sine 5 = .ok (.iload_n 2, 1) := by decide +kernel
theorem dX7_sine_6 : decode cX7_sine 6 = .ok (.bipush 31, 2) := by decide +kernel
theorem dX7_sine_8 : decode cX7_sine 8 = .ok (.iand, 1) := by decide +kernel
theorem dX7_sine_9 : decode cX7_sine 9 = .ok (.istore_n 3, 1) := by decide +kernel
theorem dX7_sine_10 : decode cX7_sine 10 = .ok (.aload_n 0, 1) := by decide +kernel
theorem dX7_sine_11 : decode cX7_sine 11 = .ok (.iload_n 3, 1) := by decide +kernel
theorem dX7_sine_12 : decode cX7_sine 12 = .ok (.bipush 16, 2) := by decide +kernel
theorem dX7_sine_14 : decode cX7_sine 14 = .ok (.if_icmp .le 10, 3) := by decide +kernel
theorem dX7_sine_17 : decode cX7_sine 17 = .ok (.bipush 32, 2) := by decide +kernel
theorem dX7_sine_19 : decode cX7_sine 19 = .ok (.iload_n 3, 1) := by decide +kernel
theorem dX7_sine_20 : decode cX7_sine 20 = .ok (.isub, 1) := by decide +kernel
theorem dX7_sine_21 : decode cX7_sine 21 = .ok (.goto 4, 3) := by decide +kernel
theorem dX7_sine_24 : decode cX7_sine 24 = .ok (.iload_n 3, 1) := by decide +kernel
theorem dX7_sine_25 : decode cX7_sine 25 = .ok (.invokevirtual 212, 3) := by decide +kernel
theorem dX7_sine_28 : decode cX7_sine 28 = .ok (.istore 4, 2) := by decide +kernel
theorem dX7_sine_30 : decode cX7_sine 30 = .ok (.iload_n 2, 1) := by decide +kernel
theorem dX7_sine_31 : decode cX7_sine 31 = .ok (.bipush 32, 2) := by decide +kernel
theorem dX7_sine_33 : decode cX7_sine 33 = .ok (.if_icmp .ge 8, 3) := by decide +kernel
theorem dX7_sine_36 : decode cX7_sine 36 = .ok (.iload 4, 2) := by decide +kernel
theorem dX7_sine_38 : decode cX7_sine 38 = .ok (.goto 6, 3) := by decide +kernel
theorem dX7_sine_41 : decode cX7_sine 41 = .ok (.iload 4, 2) := by decide +kernel
theorem dX7_sine_43 : decode cX7_sine 43 = .ok (.ineg, 1) := by decide +kernel
theorem dX7_sine_44 : decode cX7_sine 44 = .ok (.ireturn, 1) := by decide +kernel
theorem dX7_round_0 : decode cX7_round 0 = .ok (.aload_n 0, 1) := by decide +kernel
theorem dX7_round_1 : decode cX7_round 1 = .ok (.getfield 7, 3) := by decide +kernel
theorem dX7_round_4 : decode cX7_round 4 = .ok (.iload_n 1, 1) := by decide +kernel
theorem dX7_round_5 : decode cX7_round 5 = .ok (.iaload, 1) := by decide +kernel
theorem dX7_round_6 : decode cX7_round 6 = .ok (.iconst 5, 1) := by decide +kernel
theorem dX7_round_7 : decode cX7_round 7 = .ok (.if_icmp .ne 7, 3) := by decide +kernel
theorem dX7_round_10 : decode cX7_round 10 = .ok (.iconst 0, 1) := by decide +kernel
theorem dX7_round_11 : decode cX7_round 11 = .ok (.goto 17, 3) := by decide +kernel
theorem dX7_round_14 : decode cX7_round 14 = .ok (.iconst 2, 1) := by decide +kernel
theorem dX7_round_15 : decode cX7_round 15 = .ok (.aload_n 0, 1) := by decide +kernel
theorem dX7_round_16 : decode cX7_round 16 = .ok (.getfield 45, 3) := by decide +kernel
theorem dX7_round_19 : decode cX7_round 19 = .ok (.imul, 1) := by decide +kernel
theorem dX7_round_20 : decode cX7_round 20 = .ok (.bipush 64, 2) := by decide +kernel
theorem dX7_round_22 : decode cX7_round 22 = .ok (.imul, 1) := by decide +kernel
theorem dX7_round_23 : decode cX7_round 23 = .ok (.aload_n 0, 1) := by decide +kernel
theorem dX7_round_24 : decode cX7_round 24 = .ok (.getfield 58, 3) := by decide +kernel
theorem dX7_round_27 : decode cX7_round 27 = .ok (.idiv, 1) := by decide +kernel
theorem dX7_round_28 : decode cX7_round 28 = .ok (.istore_n 2, 1) := by decide +kernel
theorem dX7_round_29 : decode cX7_round 29 = .ok (.iload_n 1, 1) := by decide +kernel
theorem dX7_round_30 : decode cX7_round 30 = .ok (.iconst 2, 1) := by decide +kernel
theorem dX7_round_31 : decode cX7_round 31 = .ok (.idiv, 1) := by decide +kernel
theorem dX7_round_32 : decode cX7_round 32 = .ok (.iconst 2, 1) := by decide +kernel
theorem dX7_round_33 : decode cX7_round 33 = .ok (.irem, 1) := by decide +kernel
theorem dX7_round_34 : decode cX7_round 34 = .ok (.ifCond .ne 7, 3) := by decide +kernel
theorem dX7_round_37 : decode cX7_round 37 = .ok (.iload_n 2, 1) := by decide +kernel
theorem dX7_round_38 : decode cX7_round 38 = .ok (.goto 5, 3) := by decide +kernel
theorem dX7_round_41 : decode cX7_round 41 = .ok (.iload_n 2, 1) := by decide +kernel
theorem dX7_round_42 : decode cX7_round 42 = .ok (.ineg, 1) := by decide +kernel
theorem dX7_round_43 : decode cX7_round 43 = .ok (.ireturn, 1) := by decide +kernel
theorem dX7_length_0 : decode cX7_length 0 = .ok (.aload_n 0, 1) := by decide +kernel
theorem dX7_length_1 : decode cX7_length 1 = .ok (.iload_n 1, 1) := by decide +kernel
theorem dX7_length_2 : decode cX7_length 2 = .ok (.invokevirtual 79, 3) := by decide +kernel
theorem dX7_length_5 : decode cX7_length 5 = .ok (.ifCond .ne 6, 3) := by decide +kernel
theorem dX7_length_8 : decode cX7_length 8 = .ok (.ldc 78, 2) := by decide +kernel
theorem dX7_length_10 : decode cX7_length 10 = .ok (.ireturn, 1) := by decide +kernel
theorem dX7_length_11 : decode cX7_length 11 = .ok (.ldc2_w 215, 3) := by decide +kernel
theorem dX7_length_14 : decode cX7_length 14 = .ok (.aload_n 0, 1) := by decide +kernel
theorem dX7_length_15 : decode cX7_length 15 = .ok (.getfield 42, 3) := by decide +kernel
theorem dX7_length_18 : decode cX7_length 18 = .ok (.i2l, 1) := by decide +kernel
theorem dX7_length_19 : decode cX7_length 19 = .ok (.aload_n 0, 1) := by decide +kernel
theorem dX7_length_20 : decode cX7_length 20 = .ok (.getfield 42, 3) := by decide +kernel
theorem dX7_length_23 : decode cX7_length 23 = .ok (.i2l, 1) := by decide +kernel
theorem dX7_length_24 : decode cX7_length 24 = .ok (.lmul, 1) := by decide +kernel
theorem dX7_length_25 : decode cX7_length 25 = .ok (.aload_n 0, 1) := by decide +kernel
theorem dX7_length_26 : decode cX7_length 26 = .ok (.getfield 35, 3) := by decide +kernel
theorem dX7_length_29 : decode cX7_length 29 = .ok (.i2l, 1) := by decide +kernel
theorem dX7_length_30 : decode cX7_length 30 = .ok (.aload_n 0, 1) := by decide +kernel
theorem dX7_length_31 : decode cX7_length 31 = .ok (.getfield 35, 3) := by decide +kernel
theorem dX7_length_34 : decode cX7_length 34 = .ok (.i2l, 1) := by decide +kernel
theorem dX7_length_35 : decode cX7_length 35 = .ok (.lmul, 1) := by decide +kernel
theorem dX7_length_36 : decode cX7_length 36 = .ok (.ladd, 1) := by decide +kernel
theorem dX7_length_37 : decode cX7_length 37 = .ok (.aload_n 0, 1) := by decide +kernel
theorem dX7_length_38 : decode cX7_length 38 = .ok (.getfield 39, 3) := by decide +kernel
theorem dX7_length_41 : decode cX7_length 41 = .ok (.i2l, 1) := by decide +kernel
theorem dX7_length_42 : decode cX7_length 42 = .ok (.aload_n 0, 1) := by decide +kernel
theorem dX7_length_43 : decode cX7_length 43 = .ok (.getfield 39, 3) := by decide +kernel
theorem dX7_length_46 : decode cX7_length 46 = .ok (.i2l, 1) := by decide +kernel
theorem dX7_length_47 : decode cX7_length 47 = .ok (.lmul, 1) := by decide +kernel
theorem dX7_length_48 : decode cX7_length 48 = .ok (.ladd, 1) := by decide +kernel
theorem dX7_length_49 : decode cX7_length 49 = .ok (.lmul, 1) := by decide +kernel
theorem dX7_length_50 : decode cX7_length 50 = .ok (.ldc2_w 217, 3) := by decide +kernel
theorem dX7_length_53 : decode cX7_length 53 = .ok (.aload_n 0, 1) := by decide +kernel
theorem dX7_length_54 : decode cX7_length 54 = .ok (.getfield 42, 3) := by decide +kernel
theorem dX7_length_57 : decode cX7_length 57 = .ok (.i2l, 1) := by decide +kernel
theorem dX7_length_58 : decode cX7_length 58 = .ok (.lmul, 1) := by decide +kernel
theorem dX7_length_59 : decode cX7_length 59 = .ok (.aload_n 0, 1) := by decide +kernel
theorem dX7_length_60 : decode cX7_length 60 = .ok (.getfield 35, 3) := by decide +kernel
theorem dX7_length_63 : decode cX7_length 63 = .ok (.i2l, 1) := by decide +kernel
theorem dX7_length_64 : decode cX7_length 64 = .ok (.lmul, 1) := by decide +kernel
theorem dX7_length_65 : decode cX7_length 65 = .ok (.aload_n 0, 1) := by decide +kernel
theorem dX7_length_66 : decode cX7_length 66 = .ok (.bipush 16, 2) := by decide +kernel
theorem dX7_length_68 : decode cX7_length 68 = .ok (.aload_n 0, 1) := by decide +kernel
theorem dX7_length_69 : decode cX7_length 69 = .ok (.iload_n 1, 1) := by decide +kernel
theorem dX7_length_70 : decode cX7_length 70 = .ok (.invokevirtual 219, 3) := by decide +kernel
theorem dX7_length_73 : decode cX7_length 73 = .ok (.iadd, 1) := by decide +kernel
theorem dX7_length_74 : decode cX7_length 74 = .ok (.invokevirtual 222, 3) := by decide +kernel
theorem dX7_length_77 : decode cX7_length 77 = .ok (.i2l, 1) := by decide +kernel
theorem dX7_length_78 : decode cX7_length 78 = .ok (.lmul, 1) := by decide +kernel
theorem dX7_length_79 : decode cX7_length 79 = .ok (.ldc2_w 225, 3) := by decide +kernel
theorem dX7_length_82 : decode cX7_length 82 = .ok (.invokestatic 110, 3) := by decide +kernel
theorem dX7_length_85 : decode cX7_length 85 = .ok (.lsub, 1) := by decide +kernel
theorem dX7_length_86 : decode cX7_length 86 = .ok (.lstore_n 2, 1) := by decide +kernel
theorem dX7_length_87 : decode cX7_length 87 = .ok (.lload_n 2, 1) := by decide +kernel
theorem dX7_length_88 : decode cX7_length 88 = .ok (.lconst 0, 1) := by decide +kernel
theorem dX7_length_89 : decode cX7_length 89 = .ok (.lcmp, 1) := by decide +kernel
theorem dX7_length_90 : decode cX7_length 90 = .ok (.ifCond .ge 7, 3) := by decide +kernel
theorem dX7_length_93 : decode cX7_length 93 = .ok (.lconst 0, 1) := by decide +kernel
theorem dX7_length_94 : decode cX7_length 94 = .ok (.goto 4, 3) := by decide +kernel
theorem dX7_length_97 : decode cX7_length 97 = .ok (.lload_n 2, 1) := by decide +kernel
theorem dX7_length_98 : decode cX7_length 98 = .ok (.lstore 4, 2) := by decide +kernel
theorem dX7_length_100 : decode cX7_length 100 = .ok (.lconst 0, 1) := by decide +kernel
theorem dX7_length_101 : decode cX7_length 101 = .ok (.lstore 6, 2) := by decide +kernel
theorem dX7_length_103 : decode cX7_length 103 = .ok (.lload 6, 2) := by decide +kernel
theorem dX7_length_105 : decode cX7_length 105 = .ok (.lconst 1, 1) := by decide +kernel
theorem dX7_length_106 : decode cX7_length 106 = .ok (.ladd, 1) := by decide +kernel
theorem dX7_length_107 : decode cX7_length 107 = .ok (.lload 6, 2) := by decide +kernel
theorem dX7_length_109 : decode cX7_length 109 = .ok (.lconst 1, 1) := by decide +kernel
theorem dX7_length_110 : decode cX7_length 110 = .ok (.ladd, 1) := by decide +kernel
theorem dX7_length_111 : decode cX7_length 111 = .ok (.lmul, 1) := by decide +kernel
theorem dX7_length_112 : decode cX7_length 112 = .ok (.lload 4, 2) := by decide +kernel
theorem dX7_length_114 : decode cX7_length 114 = .ok (.lcmp, 1) := by decide +kernel
theorem dX7_length_115 : decode cX7_length 115 = .ok (.ifCond .gt 12, 3) := by decide +kernel
theorem dX7_length_118 : decode cX7_length 118 = .ok (.lload 6, 2) := by decide +kernel
theorem dX7_length_120 : decode cX7_length 120 = .ok (.lconst 1, 1) := by decide +kernel
theorem dX7_length_121 : decode cX7_length 121 = .ok (.ladd, 1) := by decide +kernel
theorem dX7_length_122 : decode cX7_length 122 = .ok (.lstore 6, 2) := by decide +kernel
theorem dX7_length_124 : decode cX7_length 124 = .ok (.goto (-21), 3) := by decide +kernel
theorem dX7_length_127 : decode cX7_length 127 = .ok (.lload 6, 2) := by decide +kernel
theorem dX7_length_129 : decode cX7_length 129 = .ok (.l2i, 1) := by decide +kernel
theorem dX7_length_130 : decode cX7_length 130 = .ok (.ireturn, 1) := by decide +kernel
theorem dX7_hub_0 : decode cX7_hub 0 = .ok (.aload_n 0, 1) := by decide +kernel
theorem dX7_hub_1 : decode cX7_hub 1 = .ok (.iload_n 1, 1) := by decide +kernel
theorem dX7_hub_2 : decode cX7_hub 2 = .ok (.invokevirtual 79, 3) := by decide +kernel
theorem dX7_hub_5 : decode cX7_hub 5 = .ok (.ifCond .eq 24, 3) := by decide +kernel
theorem dX7_hub_8 : decode cX7_hub 8 = .ok (.iload_n 1, 1) := by decide +kernel
theorem dX7_hub_9 : decode cX7_hub 9 = .ok (.bipush 64, 2) := by decide +kernel
theorem dX7_hub_11 : decode cX7_hub 11 = .ok (.imul, 1) := by decide +kernel
theorem dX7_hub_12 : decode cX7_hub 12 = .ok (.aload_n 0, 1) := by decide +kernel
theorem dX7_hub_13 : decode cX7_hub 13 = .ok (.getfield 58, 3) := by decide +kernel
theorem dX7_hub_16 : decode cX7_hub 16 = .ok (.idiv, 1) := by decide +kernel
theorem dX7_hub_17 : decode cX7_hub 17 = .ok (.aload_n 0, 1) := by decide +kernel
theorem dX7_hub_18 : decode cX7_hub 18 = .ok (.iload_n 1, 1) := by decide +kernel
theorem dX7_hub_19 : decode cX7_hub 19 = .ok (.invokevirtual 219, 3) := by decide +kernel
theorem dX7_hub_22 : decode cX7_hub 22 = .ok (.iadd, 1) := by decide +kernel
theorem dX7_hub_23 : decode cX7_hub 23 = .ok (.bipush 63, 2) := by decide +kernel
theorem dX7_hub_25 : decode cX7_hub 25 = .ok (.iand, 1) := by decide +kernel
theorem dX7_hub_26 : decode cX7_hub 26 = .ok (.goto 5, 3) := by decide +kernel
theorem dX7_hub_29 : decode cX7_hub 29 = .ok (.ldc 78, 2) := by decide +kernel
theorem dX7_hub_31 : decode cX7_hub 31 = .ok (.ireturn, 1) := by decide +kernel
theorem dX7_isCross_0 : decode cX7_isCross 0 = .ok (.aload_n 0, 1) := by decide +kernel
theorem dX7_isCross_1 : decode cX7_isCross 1 = .ok (.iload_n 1, 1) := by decide +kernel
theorem dX7_isCross_2 : decode cX7_isCross 2 = .ok (.invokevirtual 91, 3) := by decide +kernel
theorem dX7_isCross_5 : decode cX7_isCross 5 = .ok (.ifCond .eq 16, 3) := by decide +kernel
theorem dX7_isCross_8 : decode cX7_isCross 8 = .ok (.aload_n 0, 1) := by decide +kernel
theorem dX7_isCross_9 : decode cX7_isCross 9 = .ok (.iload_n 1, 1) := by decide +kernel
theorem dX7_isCross_10 : decode cX7_isCross 10 = .ok (.invokevirtual 91, 3) := by decide +kernel
theorem dX7_isCross_13 : decode cX7_isCross 13 = .ok (.aload_n 0, 1) := by decide +kernel
theorem dX7_isCross_14 : decode cX7_isCross 14 = .ok (.iload_n 2, 1) := by decide +kernel
theorem dX7_isCross_15 : decode cX7_isCross 15 = .ok (.invokevirtual 91, 3) := by decide +kernel
theorem dX7_isCross_18 : decode cX7_isCross 18 = .ok (.if_icmp .eq 5, 3) := by decide +kernel
theorem dX7_isCross_21 : decode cX7_isCross 21 = .ok (.iconst 0, 1) := by decide +kernel
theorem dX7_isCross_22 : decode cX7_isCross 22 = .ok (.ireturn, 1) := by decide +kernel
theorem dX7_isCross_23 : decode cX7_isCross 23 = .ok (.iload_n 2, 1) := by decide +kernel
theorem dX7_isCross_24 : decode cX7_isCross 24 = .ok (.bipush 64, 2) := by decide +kernel
theorem dX7_isCross_26 : decode cX7_isCross 26 = .ok (.imul, 1) := by decide +kernel
theorem dX7_isCross_27 : decode cX7_isCross 27 = .ok (.aload_n 0, 1) := by decide +kernel
theorem dX7_isCross_28 : decode cX7_isCross 28 = .ok (.getfield 58, 3) := by decide +kernel
theorem dX7_isCross_31 : decode cX7_isCross 31 = .ok (.idiv, 1) := by decide +kernel
theorem dX7_isCross_32 : decode cX7_isCross 32 = .ok (.iload_n 1, 1) := by decide +kernel
theorem dX7_isCross_33 : decode cX7_isCross 33 = .ok (.bipush 64, 2) := by decide +kernel
theorem dX7_isCross_35 : decode cX7_isCross 35 = .ok (.imul, 1) := by decide +kernel
theorem dX7_isCross_36 : decode cX7_isCross 36 = .ok (.aload_n 0, 1) := by decide +kernel
theorem dX7_isCross_37 : decode cX7_isCross 37 = .ok (.getfield 58, 3) := by decide +kernel
theorem dX7_isCross_40 : decode cX7_isCross 40 = .ok (.idiv, 1) := by decide +kernel
theorem dX7_isCross_41 : decode cX7_isCross 41 = .ok (.isub, 1) := by decide +kernel
theorem dX7_isCross_42 : decode cX7_isCross 42 = .ok (.bipush 63, 2) := by decide +kernel
theorem dX7_isCross_44 : decode cX7_isCross 44 = .ok (.iand, 1) := by decide +kernel
theorem dX7_isCross_45 : decode cX7_isCross 45 = .ok (.istore_n 3, 1) := by decide +kernel
theorem dX7_isCross_46 : decode cX7_isCross 46 = .ok (.iload_n 3, 1) := by decide +kernel
theorem dX7_isCross_47 : decode cX7_isCross 47 = .ok (.aload_n 0, 1) := by decide +kernel
theorem dX7_isCross_48 : decode cX7_isCross 48 = .ok (.iload_n 2, 1) := by decide +kernel
theorem dX7_isCross_49 : decode cX7_isCross 49 = .ok (.invokevirtual 219, 3) := by decide +kernel
theorem dX7_isCross_52 : decode cX7_isCross 52 = .ok (.iadd, 1) := by decide +kernel
theorem dX7_isCross_53 : decode cX7_isCross 53 = .ok (.aload_n 0, 1) := by decide +kernel
theorem dX7_isCross_54 : decode cX7_isCross 54 = .ok (.iload_n 1, 1) := by decide +kernel
theorem dX7_isCross_55 : decode cX7_isCross 55 = .ok (.invokevirtual 219, 3) := by decide +kernel
theorem dX7_isCross_58 : decode cX7_isCross 58 = .ok (.isub, 1) := by decide +kernel
theorem dX7_isCross_59 : decode cX7_isCross 59 = .ok (.istore 4, 2) := by decide +kernel
theorem dX7_isCross_61 : decode cX7_isCross 61 = .ok (.iload 4, 2) := by decide +kernel
theorem dX7_isCross_63 : decode cX7_isCross 63 = .ok (.ifCond .lt 10, 3) := by decide +kernel
theorem dX7_isCross_66 : decode cX7_isCross 66 = .ok (.iload 4, 2) := by decide +kernel
theorem dX7_isCross_68 : decode cX7_isCross 68 = .ok (.bipush 64, 2) := by decide +kernel
theorem dX7_isCross_70 : decode cX7_isCross 70 = .ok (.if_icmp .le 7, 3) := by decide +kernel
theorem dX7_isCross_73 : decode cX7_isCross 73 = .ok (.iconst 1, 1) := by decide +kernel
theorem dX7_isCross_74 : decode cX7_isCross 74 = .ok (.goto 4, 3) := by decide +kernel
theorem dX7_isCross_77 : decode cX7_isCross 77 = .ok (.iconst 0, 1) := by decide +kernel
theorem dX7_isCross_78 : decode cX7_isCross 78 = .ok (.ireturn, 1) := by decide +kernel
theorem dX7_crosses_0 : decode cX7_crosses 0 = .ok (.aload_n 0, 1) := by decide +kernel
theorem dX7_crosses_1 : decode cX7_crosses 1 = .ok (.iload_n 1, 1) := by decide +kernel
theorem dX7_crosses_2 : decode cX7_crosses 2 = .ok (.invokevirtual 79, 3) := by decide +kernel
theorem dX7_crosses_5 : decode cX7_crosses 5 = .ok (.ifCond .eq 16, 3) := by decide +kernel
theorem dX7_crosses_8 : decode cX7_crosses 8 = .ok (.aload_n 0, 1) := by decide +kernel
theorem dX7_crosses_9 : decode cX7_crosses 9 = .ok (.iload_n 2, 1) := by decide +kernel
theorem dX7_crosses_10 : decode cX7_crosses 10 = .ok (.invokevirtual 79, 3) := by decide +kernel
theorem dX7_crosses_13 : decode cX7_crosses 13 = .ok (.ifCond .eq 8, 3) := by decide +kernel
theorem dX7_crosses_16 : decode cX7_crosses 16 = .ok (.iload_n 1, 1) := by decide +kernel
theorem dX7_crosses_17 : decode cX7_crosses 17 = .ok (.iload_n 2, 1) := by decide +kernel
theorem dX7_crosses_18 : decode cX7_crosses 18 = .ok (.if_icmp .ne 6, 3) := by decide +kernel
theorem dX7_crosses_21 : decode cX7_crosses 21 = .ok (.ldc 78, 2) := by decide +kernel
theorem dX7_crosses_23 : decode cX7_crosses 23 = .ok (.ireturn, 1) := by decide +kernel
theorem dX7_crosses_24 : decode cX7_crosses 24 = .ok (.aload_n 0, 1) := by decide +kernel
theorem dX7_crosses_25 : decode cX7_crosses 25 = .ok (.iload_n 1, 1) := by decide +kernel
theorem dX7_crosses_26 : decode cX7_crosses 26 = .ok (.iload_n 2, 1) := by decide +kernel
theorem dX7_crosses_27 : decode cX7_crosses 27 = .ok (.invokevirtual 227, 3) := by decide +kernel
theorem dX7_crosses_30 : decode cX7_crosses 30 = .ok (.ifCond .eq 7, 3) := by decide +kernel
theorem dX7_crosses_33 : decode cX7_crosses 33 = .ok (.iconst 1, 1) := by decide +kernel
theorem dX7_crosses_34 : decode cX7_crosses 34 = .ok (.goto 4, 3) := by decide +kernel
theorem dX7_crosses_37 : decode cX7_crosses 37 = .ok (.iconst 0, 1) := by decide +kernel
theorem dX7_crosses_38 : decode cX7_crosses 38 = .ok (.ireturn, 1) := by decide +kernel
theorem dX7_crossings_0 : decode cX7_crossings 0 = .ok (.aload_n 0, 1) := by decide +kernel
theorem dX7_crossings_1 : decode cX7_crossings 1 = .ok (.iload_n 1, 1) := by decide +kernel
theorem dX7_crossings_2 : decode cX7_crossings 2 = .ok (.invokevirtual 79, 3) := by decide +kernel
theorem dX7_crossings_5 : decode cX7_crossings 5 = .ok (.ifCond .ne 6, 3) := by decide +kernel
theorem dX7_crossings_8 : decode cX7_crossings 8 = .ok (.ldc 78, 2) := by decide +kernel
theorem dX7_crossings_10 : decode cX7_crossings 10 = .ok (.ireturn, 1) := by decide +kernel
theorem dX7_crossings_11 : decode cX7_crossings 11 = .ok (.iconst 0, 1) := by decide +kernel
theorem dX7_crossings_12 : decode cX7_crossings 12 = .ok (.istore_n 2, 1) := by decide +kernel
theorem dX7_crossings_13 : decode cX7_crossings 13 = .ok (.iconst 0, 1) := by decide +kernel
theorem dX7_crossings_14 : decode cX7_crossings 14 = .ok (.istore_n 3, 1) := by decide +kernel
theorem dX7_crossings_15 : decode cX7_crossings 15 = .ok (.iload_n 3, 1) := by decide +kernel
theorem dX7_crossings_16 : decode cX7_crossings 16 = .ok (.aload_n 0, 1) := by decide +kernel
theorem dX7_crossings_17 : decode cX7_crossings 17 = .ok (.getfield 58, 3) := by decide +kernel
theorem dX7_crossings_20 : decode cX7_crossings 20 = .ok (.if_icmp .ge 31, 3) := by decide +kernel
theorem dX7_crossings_23 : decode cX7_crossings 23 = .ok (.iload_n 2, 1) := by decide +kernel
theorem dX7_crossings_24 : decode cX7_crossings 24 = .ok (.iload_n 3, 1) := by decide +kernel
theorem dX7_crossings_25 : decode cX7_crossings 25 = .ok (.iload_n 1, 1) := by decide +kernel
theorem dX7_crossings_26 : decode cX7_crossings 26 = .ok (.if_icmp .eq 16, 3) := by decide +kernel
theorem dX7_crossings_29 : decode cX7_crossings 29 = .ok (.aload_n 0, 1) := by decide +kernel
theorem dX7_crossings_30 : decode cX7_crossings 30 = .ok (.iload_n 1, 1) := by decide +kernel
theorem dX7_crossings_31 : decode cX7_crossings 31 = .ok (.iload_n 3, 1) := by decide +kernel
theorem dX7_crossings_32 : decode cX7_crossings 32 = .ok (.invokevirtual 227, 3) := by decide +kernel
theorem dX7_crossings_35 : decode cX7_crossings 35 = .ok (.ifCond .eq 7, 3) := by decide +kernel
theorem dX7_crossings_38 : decode cX7_crossings 38 = .ok (.iconst 1, 1) := by decide +kernel
theorem dX7_crossings_39 : decode cX7_crossings 39 = .ok (.goto 4, 3) := by decide +kernel
theorem dX7_crossings_42 : decode cX7_crossings 42 = .ok (.iconst 0, 1) := by decide +kernel
theorem dX7_crossings_43 : decode cX7_crossings 43 = .ok (.iadd, 1) := by decide +kernel
theorem dX7_crossings_44 : decode cX7_crossings 44 = .ok (.istore_n 2, 1) := by decide +kernel
theorem dX7_crossings_45 : decode cX7_crossings 45 = .ok (.iinc 3 1, 3) := by decide +kernel
theorem dX7_crossings_48 : decode cX7_crossings 48 = .ok (.goto (-33), 3) := by decide +kernel
theorem dX7_crossings_51 : decode cX7_crossings 51 = .ok (.iload_n 2, 1) := by decide +kernel
theorem dX7_crossings_52 : decode cX7_crossings 52 = .ok (.ireturn, 1) := by decide +kernel
theorem dX7_count_0 : decode cX7_count 0 = .ok (.iconst 0, 1) := by decide +kernel
theorem dX7_count_1 : decode cX7_count 1 = .ok (.istore_n 2, 1) := by decide +kernel
theorem dX7_count_2 : decode cX7_count 2 = .ok (.iload_n 1, 1) := by decide +kernel
theorem dX7_count_3 : decode cX7_count 3 = .ok (.tableswitch 184 0 5 #[37, 42, 76, 81, 139, 139], 37) := by decide +kernel
theorem dX7_count_40 : decode cX7_count 40 = .ok (.aload_n 0, 1) := by decide +kernel
theorem dX7_count_41 : decode cX7_count 41 = .ok (.getfield 58, 3) := by decide +kernel
theorem dX7_count_44 : decode cX7_count 44 = .ok (.ireturn, 1) := by decide +kernel
theorem dX7_count_45 : decode cX7_count 45 = .ok (.iconst 0, 1) := by decide +kernel
theorem dX7_count_46 : decode cX7_count 46 = .ok (.istore_n 3, 1) := by decide +kernel
theorem dX7_count_47 : decode cX7_count 47 = .ok (.iload_n 3, 1) := by decide +kernel
theorem dX7_count_48 : decode cX7_count 48 = .ok (.aload_n 0, 1) := by decide +kernel
theorem dX7_count_49 : decode cX7_count 49 = .ok (.getfield 58, 3) := by decide +kernel
theorem dX7_count_52 : decode cX7_count 52 = .ok (.if_icmp .ge 25, 3) := by decide +kernel
theorem dX7_count_55 : decode cX7_count 55 = .ok (.iload_n 2, 1) := by decide +kernel
theorem dX7_count_56 : decode cX7_count 56 = .ok (.aload_n 0, 1) := by decide +kernel
theorem dX7_count_57 : decode cX7_count 57 = .ok (.iload_n 3, 1) := by decide +kernel
theorem dX7_count_58 : decode cX7_count 58 = .ok (.invokevirtual 74, 3) := by decide +kernel
theorem dX7_count_61 : decode cX7_count 61 = .ok (.ifCond .eq 7, 3) := by decide +kernel
theorem dX7_count_64 : decode cX7_count 64 = .ok (.iconst 0, 1) := by decide +kernel
theorem dX7_count_65 : decode cX7_count 65 = .ok (.goto 4, 3) := by decide +kernel
theorem dX7_count_68 : decode cX7_count 68 = .ok (.iconst 1, 1) := by decide +kernel
theorem dX7_count_69 : decode cX7_count 69 = .ok (.iadd, 1) := by decide +kernel
theorem dX7_count_70 : decode cX7_count 70 = .ok (.istore_n 2, 1) := by decide +kernel
theorem dX7_count_71 : decode cX7_count 71 = .ok (.iinc 3 1, 3) := by decide +kernel
theorem dX7_count_74 : decode cX7_count 74 = .ok (.goto (-27), 3) := by decide +kernel
theorem dX7_count_77 : decode cX7_count 77 = .ok (.iload_n 2, 1) := by decide +kernel
theorem dX7_count_78 : decode cX7_count 78 = .ok (.ireturn, 1) := by decide +kernel
theorem dX7_count_79 : decode cX7_count 79 = .ok (.aload_n 0, 1) := by decide +kernel
theorem dX7_count_80 : decode cX7_count 80 = .ok (.getfield 61, 3) := by decide +kernel
theorem dX7_count_83 : decode cX7_count 83 = .ok (.ireturn, 1) := by decide +kernel
theorem dX7_count_84 : decode cX7_count 84 = .ok (.iconst 0, 1) := by decide +kernel
theorem dX7_count_85 : decode cX7_count 85 = .ok (.istore_n 3, 1) := by decide +kernel
theorem dX7_count_86 : decode cX7_count 86 = .ok (.iload_n 3, 1) := by decide +kernel
theorem dX7_count_87 : decode cX7_count 87 = .ok (.aload_n 0, 1) := by decide +kernel
theorem dX7_count_88 : decode cX7_count 88 = .ok (.getfield 61, 3) := by decide +kernel
theorem dX7_count_91 : decode cX7_count 91 = .ok (.if_icmp .ge 49, 3) := by decide +kernel
theorem dX7_count_94 : decode cX7_count 94 = .ok (.iload_n 2, 1) := by decide +kernel
theorem dX7_count_95 : decode cX7_count 95 = .ok (.aload_n 0, 1) := by decide +kernel
theorem dX7_count_96 : decode cX7_count 96 = .ok (.getfield 32, 3) := by decide +kernel
theorem dX7_count_99 : decode cX7_count 99 = .ok (.iconst 2, 1) := by decide +kernel
theorem dX7_count_100 : decode cX7_count 100 = .ok (.iload_n 3, 1) := by decide +kernel
theorem dX7_count_101 : decode cX7_count 101 = .ok (.imul, 1) := by decide +kernel
theorem dX7_count_102 : decode cX7_count 102 = .ok (.iconst 1, 1) := by decide +kernel
theorem dX7_count_103 : decode cX7_count 103 = .ok (.iadd, 1) := by decide +kernel
theorem dX7_count_104 : decode cX7_count 104 = .ok (.iaload, 1) := by decide +kernel
theorem dX7_count_105 : decode cX7_count 105 = .ok (.ifCond .ge 17, 3) := by decide +kernel
theorem dX7_count_108 : decode cX7_count 108 = .ok (.aload_n 0, 1) := by decide +kernel
theorem dX7_count_109 : decode cX7_count 109 = .ok (.getfield 32, 3) := by decide +kernel
theorem dX7_count_112 : decode cX7_count 112 = .ok (.iconst 2, 1) := by decide +kernel
theorem dX7_count_113 : decode cX7_count 113 = .ok (.iload_n 3, 1) := by decide +kernel
theorem dX7_count_114 : decode cX7_count 114 = .ok (.imul, 1) := by decide +kernel
theorem dX7_count_115 : decode cX7_count 115 = .ok (.iconst 1, 1) := by decide +kernel
theorem dX7_count_116 : decode cX7_count 116 = .ok (.iadd, 1) := by decide +kernel
theorem dX7_count_117 : decode cX7_count 117 = .ok (.iaload, 1) := by decide +kernel
theorem dX7_count_118 : decode cX7_count 118 = .ok (.ineg, 1) := by decide +kernel
theorem dX7_count_119 : decode cX7_count 119 = .ok (.goto 13, 3) := by decide +kernel
theorem dX7_count_122 : decode cX7_count 122 = .ok (.aload_n 0, 1) := by decide +kernel
theorem dX7_count_123 : decode cX7_count 123 = .ok (.getfield 32, 3) := by decide +kernel
theorem dX7_count_126 : decode cX7_count 126 = .ok (.iconst 2, 1) := by decide +kernel
theorem dX7_count_127 : decode cX7_count 127 = .ok (.iload_n 3, 1) := by decide +kernel
theorem dX7_count_128 : decode cX7_count 128 = .ok (.imul, 1) := by decide +kernel
theorem dX7_count_129 : decode cX7_count 129 = .ok (.iconst 1, 1) := by decide +kernel
theorem dX7_count_130 : decode cX7_count 130 = .ok (.iadd, 1) := by decide +kernel
theorem dX7_count_131 : decode cX7_count 131 = .ok (.iaload, 1) := by decide +kernel
theorem dX7_count_132 : decode cX7_count 132 = .ok (.iadd, 1) := by decide +kernel
theorem dX7_count_133 : decode cX7_count 133 = .ok (.istore_n 2, 1) := by decide +kernel
theorem dX7_count_134 : decode cX7_count 134 = .ok (.iinc 3 1, 3) := by decide +kernel
theorem dX7_count_137 : decode cX7_count 137 = .ok (.goto (-51), 3) := by decide +kernel
theorem dX7_count_140 : decode cX7_count 140 = .ok (.iload_n 2, 1) := by decide +kernel
theorem dX7_count_141 : decode cX7_count 141 = .ok (.ireturn, 1) := by decide +kernel
theorem dX7_count_142 : decode cX7_count 142 = .ok (.iconst 0, 1) := by decide +kernel
theorem dX7_count_143 : decode cX7_count 143 = .ok (.istore_n 3, 1) := by decide +kernel
theorem dX7_count_144 : decode cX7_count 144 = .ok (.iload_n 3, 1) := by decide +kernel
theorem dX7_count_145 : decode cX7_count 145 = .ok (.aload_n 0, 1) := by decide +kernel
theorem dX7_count_146 : decode cX7_count 146 = .ok (.getfield 58, 3) := by decide +kernel
theorem dX7_count_149 : decode cX7_count 149 = .ok (.if_icmp .ge 36, 3) := by decide +kernel
theorem dX7_count_152 : decode cX7_count 152 = .ok (.iload_n 2, 1) := by decide +kernel
theorem dX7_count_153 : decode cX7_count 153 = .ok (.aload_n 0, 1) := by decide +kernel
theorem dX7_count_154 : decode cX7_count 154 = .ok (.getfield 20, 3) := by decide +kernel
theorem dX7_count_157 : decode cX7_count 157 = .ok (.bipush 32, 2) := by decide +kernel
theorem dX7_count_159 : decode cX7_count 159 = .ok (.iload_n 1, 1) := by decide +kernel
theorem dX7_count_160 : decode cX7_count 160 = .ok (.iconst 4, 1) := by decide +kernel
theorem dX7_count_161 : decode cX7_count 161 = .ok (.isub, 1) := by decide +kernel
theorem dX7_count_162 : decode cX7_count 162 = .ok (.imul, 1) := by decide +kernel
theorem dX7_count_163 : decode cX7_count 163 = .ok (.iload_n 3, 1) := by decide +kernel
theorem dX7_count_164 : decode cX7_count 164 = .ok (.iadd, 1) := by decide +kernel
theorem dX7_count_165 : decode cX7_count 165 = .ok (.iaload, 1) := by decide +kernel
theorem dX7_count_166 : decode cX7_count 166 = .ok (.sipush (-10000), 3) := by decide +kernel
theorem dX7_count_169 : decode cX7_count 169 = .ok (.if_icmp .eq 7, 3) := by decide +kernel
theorem dX7_count_172 : decode cX7_count 172 = .ok (.iconst 1, 1) := by decide +kernel
theorem dX7_count_173 : decode cX7_count 173 = .ok (.goto 4, 3) := by decide +kernel
theorem dX7_count_176 : decode cX7_count 176 = .ok (.iconst 0, 1) := by decide +kernel
theorem dX7_count_177 : decode cX7_count 177 = .ok (.iadd, 1) := by decide +kernel
theorem dX7_count_178 : decode cX7_count 178 = .ok (.istore_n 2, 1) := by decide +kernel
theorem dX7_count_179 : decode cX7_count 179 = .ok (.iinc 3 1, 3) := by decide +kernel
theorem dX7_count_182 : decode cX7_count 182 = .ok (.goto (-38), 3) := by decide +kernel
theorem dX7_count_185 : decode cX7_count 185 = .ok (.iload_n 2, 1) := by decide +kernel
theorem dX7_count_186 : decode cX7_count 186 = .ok (.ireturn, 1) := by decide +kernel
theorem dX7_count_187 : decode cX7_count 187 = .ok (.ldc 78, 2) := by decide +kernel
theorem dX7_count_189 : decode cX7_count 189 = .ok (.ireturn, 1) := by decide +kernel
