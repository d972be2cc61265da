/-! decode rows: the reference and the law -/
theorem dX7_init_0 : decode cX7_init 0 = .ok (.aload_n 0, 1) := by decide +kernel
theorem dX7_init_1 : decode cX7_init 1 = .ok (.invokespecial 1, 3) := by decide +kernel
theorem dX7_init_4 : decode cX7_init 4 = .ok (.aload_n 0, 1) := by decide +kernel
theorem dX7_init_5 : decode cX7_init 5 = .ok (.sipush 150, 3) := by decide +kernel
theorem dX7_init_8 : decode cX7_init 8 = .ok (.newarray .int, 2) := by decide +kernel
theorem dX7_init_10 : decode cX7_init 10 = .ok (.putfield 7, 3) := by decide +kernel
theorem dX7_init_13 : decode cX7_init 13 = .ok (.aload_n 0, 1) := by decide +kernel
theorem dX7_init_14 : decode cX7_init 14 = .ok (.sipush 1200, 3) := by decide +kernel
theorem dX7_init_17 : decode cX7_init 17 = .ok (.newarray .int, 2) := by decide +kernel
theorem dX7_init_19 : decode cX7_init 19 = .ok (.putfield 13, 3) := by decide +kernel
theorem dX7_init_22 : decode cX7_init 22 = .ok (.iconst 0, 1) := by decide +kernel
theorem dX7_init_23 : decode cX7_init 23 = .ok (.istore_n 1, 1) := by decide +kernel
theorem dX7_init_24 : decode cX7_init 24 = .ok (.iload_n 1, 1) := by decide +kernel
theorem dX7_init_25 : decode cX7_init 25 = .ok (.iconst 4, 1) := by decide +kernel
theorem dX7_init_26 : decode cX7_init 26 = .ok (.if_icmp .ge 58, 3) := by decide +kernel
theorem dX7_init_29 : decode cX7_init 29 = .ok (.aload_n 0, 1) := by decide +kernel
theorem dX7_init_30 : decode cX7_init 30 = .ok (.getfield 7, 3) := by decide +kernel
theorem dX7_init_33 : decode cX7_init 33 = .ok (.bipush 88, 2) := by decide +kernel
theorem dX7_init_35 : decode cX7_init 35 = .ok (.iload_n 1, 1) := by decide +kernel
theorem dX7_init_36 : decode cX7_init 36 = .ok (.iadd, 1) := by decide +kernel
theorem dX7_init_37 : decode cX7_init 37 = .ok (.iload_n 1, 1) := by decide +kernel
theorem dX7_init_38 : decode cX7_init 38 = .ok (.ifCond .ne 7, 3) := by decide +kernel
theorem dX7_init_41 : decode cX7_init 41 = .ok (.iconst 1, 1) := by decide +kernel
theorem dX7_init_42 : decode cX7_init 42 = .ok (.goto 25, 3) := by decide +kernel
theorem dX7_init_45 : decode cX7_init 45 = .ok (.iload_n 1, 1) := by decide +kernel
theorem dX7_init_46 : decode cX7_init 46 = .ok (.iconst 1, 1) := by decide +kernel
theorem dX7_init_47 : decode cX7_init 47 = .ok (.if_icmp .ne 8, 3) := by decide +kernel
theorem dX7_init_50 : decode cX7_init 50 = .ok (.bipush 6, 2) := by decide +kernel
theorem dX7_init_52 : decode cX7_init 52 = .ok (.goto 15, 3) := by decide +kernel
theorem dX7_init_55 : decode cX7_init 55 = .ok (.iload_n 1, 1) := by decide +kernel
theorem dX7_init_56 : decode cX7_init 56 = .ok (.iconst 2, 1) := by decide +kernel
theorem dX7_init_57 : decode cX7_init 57 = .ok (.if_icmp .ne 8, 3) := by decide +kernel
theorem dX7_init_60 : decode cX7_init 60 = .ok (.bipush 10, 2) := by decide +kernel
theorem dX7_init_62 : decode cX7_init 62 = .ok (.goto 5, 3) := by decide +kernel
theorem dX7_init_65 : decode cX7_init 65 = .ok (.bipush 14, 2) := by decide +kernel
theorem dX7_init_67 : decode cX7_init 67 = .ok (.iastore, 1) := by decide +kernel
theorem dX7_init_68 : decode cX7_init 68 = .ok (.aload_n 0, 1) := by decide +kernel
theorem dX7_init_69 : decode cX7_init 69 = .ok (.getfield 7, 3) := by decide +kernel
theorem dX7_init_72 : decode cX7_init 72 = .ok (.bipush 92, 2) := by decide +kernel
theorem dX7_init_74 : decode cX7_init 74 = .ok (.iload_n 1, 1) := by decide +kernel
theorem dX7_init_75 : decode cX7_init 75 = .ok (.iadd, 1) := by decide +kernel
theorem dX7_init_76 : decode cX7_init 76 = .ok (.iconst (-1), 1) := by decide +kernel
theorem dX7_init_77 : decode cX7_init 77 = .ok (.iastore, 1) := by decide +kernel
theorem dX7_init_78 : decode cX7_init 78 = .ok (.iinc 1 1, 3) := by decide +kernel
theorem dX7_init_81 : decode cX7_init 81 = .ok (.goto (-57), 3) := by decide +kernel
theorem dX7_init_84 : decode cX7_init 84 = .ok (.iconst 0, 1) := by decide +kernel
theorem dX7_init_85 : decode cX7_init 85 = .ok (.istore_n 1, 1) := by decide +kernel
theorem dX7_init_86 : decode cX7_init 86 = .ok (.iload_n 1, 1) := by decide +kernel
theorem dX7_init_87 : decode cX7_init 87 = .ok (.iconst 3, 1) := by decide +kernel
theorem dX7_init_88 : decode cX7_init 88 = .ok (.if_icmp .ge 21, 3) := by decide +kernel
theorem dX7_init_91 : decode cX7_init 91 = .ok (.aload_n 0, 1) := by decide +kernel
theorem dX7_init_92 : decode cX7_init 92 = .ok (.getfield 7, 3) := by decide +kernel
theorem dX7_init_95 : decode cX7_init 95 = .ok (.bipush 76, 2) := by decide +kernel
theorem dX7_init_97 : decode cX7_init 97 = .ok (.iload_n 1, 1) := by decide +kernel
theorem dX7_init_98 : decode cX7_init 98 = .ok (.iadd, 1) := by decide +kernel
theorem dX7_init_99 : decode cX7_init 99 = .ok (.sipush 1150, 3) := by decide +kernel
theorem dX7_init_102 : decode cX7_init 102 = .ok (.iastore, 1) := by decide +kernel
theorem dX7_init_103 : decode cX7_init 103 = .ok (.iinc 1 1, 3) := by decide +kernel
theorem dX7_init_106 : decode cX7_init 106 = .ok (.goto (-20), 3) := by decide +kernel
theorem dX7_init_109 : decode cX7_init 109 = .ok (.aload_n 0, 1) := by decide +kernel
theorem dX7_init_110 : decode cX7_init 110 = .ok (.getfield 7, 3) := by decide +kernel
theorem dX7_init_113 : decode cX7_init 113 = .ok (.bipush 100, 2) := by decide +kernel
theorem dX7_init_115 : decode cX7_init 115 = .ok (.iconst 3, 1) := by decide +kernel
theorem dX7_init_116 : decode cX7_init 116 = .ok (.iastore, 1) := by decide +kernel
theorem dX7_init_117 : decode cX7_init 117 = .ok (.aload_n 0, 1) := by decide +kernel
theorem dX7_init_118 : decode cX7_init 118 = .ok (.getfield 7, 3) := by decide +kernel
theorem dX7_init_121 : decode cX7_init 121 = .ok (.bipush 101, 2) := by decide +kernel
theorem dX7_init_123 : decode cX7_init 123 = .ok (.bipush 11, 2) := by decide +kernel
theorem dX7_init_125 : decode cX7_init 125 = .ok (.iastore, 1) := by decide +kernel
theorem dX7_init_126 : decode cX7_init 126 = .ok (.aload_n 0, 1) := by decide +kernel
theorem dX7_init_127 : decode cX7_init 127 = .ok (.getfield 7, 3) := by decide +kernel
theorem dX7_init_130 : decode cX7_init 130 = .ok (.bipush 102, 2) := by decide +kernel
theorem dX7_init_132 : decode cX7_init 132 = .ok (.iconst (-1), 1) := by decide +kernel
theorem dX7_init_133 : decode cX7_init 133 = .ok (.iastore, 1) := by decide +kernel
theorem dX7_init_134 : decode cX7_init 134 = .ok (.aload_n 0, 1) := by decide +kernel
theorem dX7_init_135 : decode cX7_init 135 = .ok (.getfield 7, 3) := by decide +kernel
theorem dX7_init_138 : decode cX7_init 138 = .ok (.bipush 103, 2) := by decide +kernel
theorem dX7_init_140 : decode cX7_init 140 = .ok (.iconst (-1), 1) := by decide +kernel
theorem dX7_init_141 : decode cX7_init 141 = .ok (.iastore, 1) := by decide +kernel
theorem dX7_init_142 : decode cX7_init 142 = .ok (.aload_n 0, 1) := by decide +kernel
theorem dX7_init_143 : decode cX7_init 143 = .ok (.getfield 7, 3) := by decide +kernel
theorem dX7_init_146 : decode cX7_init 146 = .ok (.sipush 148, 3) := by decide +kernel
theorem dX7_init_149 : decode cX7_init 149 = .ok (.bipush 12, 2) := by decide +kernel
theorem dX7_init_151 : decode cX7_init 151 = .ok (.iastore, 1) := by decide +kernel
theorem dX7_init_152 : decode cX7_init 152 = .ok (.return_, 1) := by decide +kernel
theorem dX7_in_0 : decode cX7_in 0 = .ok (.iload_n 0, 1) := by decide +kernel
theorem dX7_in_1 : decode cX7_in 1 = .ok (.iload_n 1, 1) := by decide +kernel
theorem dX7_in_2 : decode cX7_in 2 = .ok (.if_icmp .lt 12, 3) := by decide +kernel
theorem dX7_in_5 : decode cX7_in 5 = .ok (.iload_n 0, 1) := by decide +kernel
theorem dX7_in_6 : decode cX7_in 6 = .ok (.iload_n 2, 1) := by decide +kernel
theorem dX7_in_7 : decode cX7_in 7 = .ok (.if_icmp .gt 7, 3) := by decide +kernel
theorem dX7_in_10 : decode cX7_in 10 = .ok (.iconst 1, 1) := by decide +kernel
theorem dX7_in_11 : decode cX7_in 11 = .ok (.goto 4, 3) := by decide +kernel
theorem dX7_in_14 : decode cX7_in 14 = .ok (.iconst 0, 1) := by decide +kernel
theorem dX7_in_15 : decode cX7_in 15 = .ok (.ireturn, 1) := by decide +kernel
theorem dX7_fed_0 : decode cX7_fed 0 = .ok (.aload_n 0, 1) := by decide +kernel
theorem dX7_fed_1 : decode cX7_fed 1 = .ok (.getfield 7, 3) := by decide +kernel
theorem dX7_fed_4 : decode cX7_fed 4 = .ok (.sipush 149, 3) := by decide +kernel
theorem dX7_fed_7 : decode cX7_fed 7 = .ok (.iaload, 1) := by decide +kernel
theorem dX7_fed_8 : decode cX7_fed 8 = .ok (.istore_n 2, 1) := by decide +kernel
theorem dX7_fed_9 : decode cX7_fed 9 = .ok (.aload_n 0, 1) := by decide +kernel
theorem dX7_fed_10 : decode cX7_fed 10 = .ok (.getfield 7, 3) := by decide +kernel
theorem dX7_fed_13 : decode cX7_fed 13 = .ok (.sipush 149, 3) := by decide +kernel
theorem dX7_fed_16 : decode cX7_fed 16 = .ok (.iload_n 1, 1) := by decide +kernel
theorem dX7_fed_17 : decode cX7_fed 17 = .ok (.ifCond .eq 7, 3) := by decide +kernel
theorem dX7_fed_20 : decode cX7_fed 20 = .ok (.iconst 1, 1) := by decide +kernel
theorem dX7_fed_21 : decode cX7_fed 21 = .ok (.goto 4, 3) := by decide +kernel
theorem dX7_fed_24 : decode cX7_fed 24 = .ok (.iconst 0, 1) := by decide +kernel
theorem dX7_fed_25 : decode cX7_fed 25 = .ok (.iastore, 1) := by decide +kernel
theorem dX7_fed_26 : decode cX7_fed 26 = .ok (.iload_n 2, 1) := by decide +kernel
theorem dX7_fed_27 : decode cX7_fed 27 = .ok (.ireturn, 1) := by decide +kernel
theorem dX7_limit_0 : decode cX7_limit 0 = .ok (.iload_n 1, 1) := by decide +kernel
theorem dX7_limit_1 : decode cX7_limit 1 = .ok (.iconst 0, 1) := by decide +kernel
theorem dX7_limit_2 : decode cX7_limit 2 = .ok (.bipush 30, 2) := by decide +kernel
theorem dX7_limit_4 : decode cX7_limit 4 = .ok (.invokestatic 16, 3) := by decide +kernel
theorem dX7_limit_7 : decode cX7_limit 7 = .ok (.ifCond .ne 5, 3) := by decide +kernel
theorem dX7_limit_10 : decode cX7_limit 10 = .ok (.iconst (-1), 1) := by decide +kernel
theorem dX7_limit_11 : decode cX7_limit 11 = .ok (.ireturn, 1) := by decide +kernel
theorem dX7_limit_12 : decode cX7_limit 12 = .ok (.aload_n 0, 1) := by decide +kernel
theorem dX7_limit_13 : decode cX7_limit 13 = .ok (.getfield 7, 3) := by decide +kernel
theorem dX7_limit_16 : decode cX7_limit 16 = .ok (.sipush 148, 3) := by decide +kernel
theorem dX7_limit_19 : decode cX7_limit 19 = .ok (.iaload, 1) := by decide +kernel
theorem dX7_limit_20 : decode cX7_limit 20 = .ok (.istore_n 2, 1) := by decide +kernel
theorem dX7_limit_21 : decode cX7_limit 21 = .ok (.aload_n 0, 1) := by decide +kernel
theorem dX7_limit_22 : decode cX7_limit 22 = .ok (.getfield 7, 3) := by decide +kernel
theorem dX7_limit_25 : decode cX7_limit 25 = .ok (.sipush 148, 3) := by decide +kernel
theorem dX7_limit_28 : decode cX7_limit 28 = .ok (.iload_n 1, 1) := by decide +kernel
theorem dX7_limit_29 : decode cX7_limit 29 = .ok (.iastore, 1) := by decide +kernel
theorem dX7_limit_30 : decode cX7_limit 30 = .ok (.iload_n 2, 1) := by decide +kernel
theorem dX7_limit_31 : decode cX7_limit 31 = .ok (.ireturn, 1) := by decide +kernel
theorem dX7_sum_0 : decode cX7_sum 0 = .ok (.aload_n 0, 1) := by decide +kernel
theorem dX7_sum_1 : decode cX7_sum 1 = .ok (.getfield 7, 3) := by decide +kernel
theorem dX7_sum_4 : decode cX7_sum 4 = .ok (.iload_n 1, 1) := by decide +kernel
theorem dX7_sum_5 : decode cX7_sum 5 = .ok (.iaload, 1) := by decide +kernel
theorem dX7_sum_6 : decode cX7_sum 6 = .ok (.aload_n 0, 1) := by decide +kernel
theorem dX7_sum_7 : decode cX7_sum 7 = .ok (.getfield 7, 3) := by decide +kernel
theorem dX7_sum_10 : decode cX7_sum 10 = .ok (.iload_n 1, 1) := by decide +kernel
theorem dX7_sum_11 : decode cX7_sum 11 = .ok (.iconst 1, 1) := by decide +kernel
theorem dX7_sum_12 : decode cX7_sum 12 = .ok (.iadd, 1) := by decide +kernel
theorem dX7_sum_13 : decode cX7_sum 13 = .ok (.iaload, 1) := by decide +kernel
theorem dX7_sum_14 : decode cX7_sum 14 = .ok (.iadd, 1) := by decide +kernel
theorem dX7_sum_15 : decode cX7_sum 15 = .ok (.aload_n 0, 1) := by decide +kernel
theorem dX7_sum_16 : decode cX7_sum 16 = .ok (.getfield 7, 3) := by decide +kernel
theorem dX7_sum_19 : decode cX7_sum 19 = .ok (.iload_n 1, 1) := by decide +kernel
theorem dX7_sum_20 : decode cX7_sum 20 = .ok (.iconst 2, 1) := by decide +kernel
theorem dX7_sum_21 : decode cX7_sum 21 = .ok (.iadd, 1) := by decide +kernel
theorem dX7_sum_22 : decode cX7_sum 22 = .ok (.iaload, 1) := by decide +kernel
theorem dX7_sum_23 : decode cX7_sum 23 = .ok (.iadd, 1) := by decide +kernel
theorem dX7_sum_24 : decode cX7_sum 24 = .ok (.aload_n 0, 1) := by decide +kernel
theorem dX7_sum_25 : decode cX7_sum 25 = .ok (.getfield 7, 3) := by decide +kernel
theorem dX7_sum_28 : decode cX7_sum 28 = .ok (.iload_n 1, 1) := by decide +kernel
theorem dX7_sum_29 : decode cX7_sum 29 = .ok (.iconst 3, 1) := by decide +kernel
theorem dX7_sum_30 : decode cX7_sum 30 = .ok (.iadd, 1) := by decide +kernel
theorem dX7_sum_31 : decode cX7_sum 31 = .ok (.iaload, 1) := by decide +kernel
theorem dX7_sum_32 : decode cX7_sum 32 = .ok (.iadd, 1) := by decide +kernel
theorem dX7_sum_33 : decode cX7_sum 33 = .ok (.ireturn, 1) := by decide +kernel
theorem dX7_blow_0 : decode cX7_blow 0 = .ok (.iload_n 1, 1) := by decide +kernel
theorem dX7_blow_1 : decode cX7_blow 1 = .ok (.iconst 0, 1) := by decide +kernel
theorem dX7_blow_2 : decode cX7_blow 2 = .ok (.iconst 2, 1) := by decide +kernel
theorem dX7_blow_3 : decode cX7_blow 3 = .ok (.invokestatic 16, 3) := by decide +kernel
theorem dX7_blow_6 : decode cX7_blow 6 = .ok (.ifCond .ne 5, 3) := by decide +kernel
theorem dX7_blow_9 : decode cX7_blow 9 = .ok (.iconst (-1), 1) := by decide +kernel
theorem dX7_blow_10 : decode cX7_blow 10 = .ok (.ireturn, 1) := by decide +kernel
theorem dX7_blow_11 : decode cX7_blow 11 = .ok (.iload_n 2, 1) := by decide +kernel
theorem dX7_blow_12 : decode cX7_blow 12 = .ok (.ifCond .eq 18, 3) := by decide +kernel
theorem dX7_blow_15 : decode cX7_blow 15 = .ok (.aload_n 0, 1) := by decide +kernel
theorem dX7_blow_16 : decode cX7_blow 16 = .ok (.iconst 4, 1) := by decide +kernel
theorem dX7_blow_17 : decode cX7_blow 17 = .ok (.iconst 4, 1) := by decide +kernel
theorem dX7_blow_18 : decode cX7_blow 18 = .ok (.iload_n 1, 1) := by decide +kernel
theorem dX7_blow_19 : decode cX7_blow 19 = .ok (.imul, 1) := by decide +kernel
theorem dX7_blow_20 : decode cX7_blow 20 = .ok (.iadd, 1) := by decide +kernel
theorem dX7_blow_21 : decode cX7_blow 21 = .ok (.invokevirtual 20, 3) := by decide +kernel
theorem dX7_blow_24 : decode cX7_blow 24 = .ok (.ifCond .ne 6, 3) := by decide +kernel
theorem dX7_blow_27 : decode cX7_blow 27 = .ok (.bipush (-2), 2) := by decide +kernel
theorem dX7_blow_29 : decode cX7_blow 29 = .ok (.ireturn, 1) := by decide +kernel
theorem dX7_blow_30 : decode cX7_blow 30 = .ok (.aload_n 0, 1) := by decide +kernel
theorem dX7_blow_31 : decode cX7_blow 31 = .ok (.getfield 7, 3) := by decide +kernel
theorem dX7_blow_34 : decode cX7_blow 34 = .ok (.bipush 79, 2) := by decide +kernel
theorem dX7_blow_36 : decode cX7_blow 36 = .ok (.iload_n 1, 1) := by decide +kernel
theorem dX7_blow_37 : decode cX7_blow 37 = .ok (.iadd, 1) := by decide +kernel
theorem dX7_blow_38 : decode cX7_blow 38 = .ok (.iaload, 1) := by decide +kernel
theorem dX7_blow_39 : decode cX7_blow 39 = .ok (.istore_n 3, 1) := by decide +kernel
theorem dX7_blow_40 : decode cX7_blow 40 = .ok (.aload_n 0, 1) := by decide +kernel
theorem dX7_blow_41 : decode cX7_blow 41 = .ok (.getfield 7, 3) := by decide +kernel
theorem dX7_blow_44 : decode cX7_blow 44 = .ok (.bipush 79, 2) := by decide +kernel
theorem dX7_blow_46 : decode cX7_blow 46 = .ok (.iload_n 1, 1) := by decide +kernel
theorem dX7_blow_47 : decode cX7_blow 47 = .ok (.iadd, 1) := by decide +kernel
theorem dX7_blow_48 : decode cX7_blow 48 = .ok (.iload_n 2, 1) := by decide +kernel
theorem dX7_blow_49 : decode cX7_blow 49 = .ok (.ifCond .eq 7, 3) := by decide +kernel
theorem dX7_blow_52 : decode cX7_blow 52 = .ok (.iconst 1, 1) := by decide +kernel
theorem dX7_blow_53 : decode cX7_blow 53 = .ok (.goto 4, 3) := by decide +kernel
theorem dX7_blow_56 : decode cX7_blow 56 = .ok (.iconst 0, 1) := by decide +kernel
theorem dX7_blow_57 : decode cX7_blow 57 = .ok (.iastore, 1) := by decide +kernel
theorem dX7_blow_58 : decode cX7_blow 58 = .ok (.iload_n 3, 1) := by decide +kernel
theorem dX7_blow_59 : decode cX7_blow 59 = .ok (.ireturn, 1) := by decide +kernel
theorem dX7_cold_0 : decode cX7_cold 0 = .ok (.iload_n 1, 1) := by decide +kernel
theorem dX7_cold_1 : decode cX7_cold 1 = .ok (.iconst 0, 1) := by decide +kernel
theorem dX7_cold_2 : decode cX7_cold 2 = .ok (.iconst 2, 1) := by decide +kernel
theorem dX7_cold_3 : decode cX7_cold 3 = .ok (.invokestatic 16, 3) := by decide +kernel
theorem dX7_cold_6 : decode cX7_cold 6 = .ok (.ifCond .eq 13, 3) := by decide +kernel
theorem dX7_cold_9 : decode cX7_cold 9 = .ok (.iload_n 2, 1) := by decide +kernel
theorem dX7_cold_10 : decode cX7_cold 10 = .ok (.iconst 1, 1) := by decide +kernel
theorem dX7_cold_11 : decode cX7_cold 11 = .ok (.bipush 50, 2) := by decide +kernel
theorem dX7_cold_13 : decode cX7_cold 13 = .ok (.invokestatic 16, 3) := by decide +kernel
theorem dX7_cold_16 : decode cX7_cold 16 = .ok (.ifCond .ne 5, 3) := by decide +kernel
theorem dX7_cold_19 : decode cX7_cold 19 = .ok (.iconst (-1), 1) := by decide +kernel
theorem dX7_cold_20 : decode cX7_cold 20 = .ok (.ireturn, 1) := by decide +kernel
theorem dX7_cold_21 : decode cX7_cold 21 = .ok (.aload_n 0, 1) := by decide +kernel
theorem dX7_cold_22 : decode cX7_cold 22 = .ok (.iconst 4, 1) := by decide +kernel
theorem dX7_cold_23 : decode cX7_cold 23 = .ok (.iconst 4, 1) := by decide +kernel
theorem dX7_cold_24 : decode cX7_cold 24 = .ok (.iload_n 1, 1) := by decide +kernel
theorem dX7_cold_25 : decode cX7_cold 25 = .ok (.imul, 1) := by decide +kernel
theorem dX7_cold_26 : decode cX7_cold 26 = .ok (.iadd, 1) := by decide +kernel
theorem dX7_cold_27 : decode cX7_cold 27 = .ok (.invokevirtual 20, 3) := by decide +kernel
theorem dX7_cold_30 : decode cX7_cold 30 = .ok (.istore_n 3, 1) := by decide +kernel
theorem dX7_cold_31 : decode cX7_cold 31 = .ok (.iload_n 3, 1) := by decide +kernel
theorem dX7_cold_32 : decode cX7_cold 32 = .ok (.ifCond .eq 12, 3) := by decide +kernel
theorem dX7_cold_35 : decode cX7_cold 35 = .ok (.iload_n 3, 1) := by decide +kernel
theorem dX7_cold_36 : decode cX7_cold 36 = .ok (.iload_n 2, 1) := by decide +kernel
theorem dX7_cold_37 : decode cX7_cold 37 = .ok (.iadd, 1) := by decide +kernel
theorem dX7_cold_38 : decode cX7_cold 38 = .ok (.sipush 300, 3) := by decide +kernel
theorem dX7_cold_41 : decode cX7_cold 41 = .ok (.if_icmp .le 6, 3) := by decide +kernel
theorem dX7_cold_44 : decode cX7_cold 44 = .ok (.bipush (-2), 2) := by decide +kernel
theorem dX7_cold_46 : decode cX7_cold 46 = .ok (.ireturn, 1) := by decide +kernel
theorem dX7_cold_47 : decode cX7_cold 47 = .ok (.aload_n 0, 1) := by decide +kernel
theorem dX7_cold_48 : decode cX7_cold 48 = .ok (.getfield 7, 3) := by decide +kernel
theorem dX7_cold_51 : decode cX7_cold 51 = .ok (.bipush 76, 2) := by decide +kernel
theorem dX7_cold_53 : decode cX7_cold 53 = .ok (.iload_n 1, 1) := by decide +kernel
theorem dX7_cold_54 : decode cX7_cold 54 = .ok (.iadd, 1) := by decide +kernel
theorem dX7_cold_55 : decode cX7_cold 55 = .ok (.aload_n 0, 1) := by decide +kernel
theorem dX7_cold_56 : decode cX7_cold 56 = .ok (.getfield 7, 3) := by decide +kernel
theorem dX7_cold_59 : decode cX7_cold 59 = .ok (.bipush 76, 2) := by decide +kernel
theorem dX7_cold_61 : decode cX7_cold 61 = .ok (.iload_n 1, 1) := by decide +kernel
theorem dX7_cold_62 : decode cX7_cold 62 = .ok (.iadd, 1) := by decide +kernel
theorem dX7_cold_63 : decode cX7_cold 63 = .ok (.iaload, 1) := by decide +kernel
theorem dX7_cold_64 : decode cX7_cold 64 = .ok (.iload_n 3, 1) := by decide +kernel
theorem dX7_cold_65 : decode cX7_cold 65 = .ok (.imul, 1) := by decide +kernel
theorem dX7_cold_66 : decode cX7_cold 66 = .ok (.iload_n 3, 1) := by decide +kernel
theorem dX7_cold_67 : decode cX7_cold 67 = .ok (.iload_n 2, 1) := by decide +kernel
theorem dX7_cold_68 : decode cX7_cold 68 = .ok (.iadd, 1) := by decide +kernel
theorem dX7_cold_69 : decode cX7_cold 69 = .ok (.idiv, 1) := by decide +kernel
theorem dX7_cold_70 : decode cX7_cold 70 = .ok (.iastore, 1) := by decide +kernel
theorem dX7_cold_71 : decode cX7_cold 71 = .ok (.aload_n 0, 1) := by decide +kernel
theorem dX7_cold_72 : decode cX7_cold 72 = .ok (.getfield 7, 3) := by decide +kernel
theorem dX7_cold_75 : decode cX7_cold 75 = .ok (.iconst 4, 1) := by decide +kernel
theorem dX7_cold_76 : decode cX7_cold 76 = .ok (.iconst 4, 1) := by decide +kernel
theorem dX7_cold_77 : decode cX7_cold 77 = .ok (.iload_n 1, 1) := by decide +kernel
theorem dX7_cold_78 : decode cX7_cold 78 = .ok (.imul, 1) := by decide +kernel
theorem dX7_cold_79 : decode cX7_cold 79 = .ok (.iadd, 1) := by decide +kernel
theorem dX7_cold_80 : decode cX7_cold 80 = .ok (.dup2, 1) := by decide +kernel
theorem dX7_cold_81 : decode cX7_cold 81 = .ok (.iaload, 1) := by decide +kernel
theorem dX7_cold_82 : decode cX7_cold 82 = .ok (.iload_n 2, 1) := by decide +kernel
theorem dX7_cold_83 : decode cX7_cold 83 = .ok (.iadd, 1) := by decide +kernel
theorem dX7_cold_84 : decode cX7_cold 84 = .ok (.iastore, 1) := by decide +kernel
theorem dX7_cold_85 : decode cX7_cold 85 = .ok (.aload_n 0, 1) := by decide +kernel
theorem dX7_cold_86 : decode cX7_cold 86 = .ok (.getfield 7, 3) := by decide +kernel
theorem dX7_cold_89 : decode cX7_cold 89 = .ok (.bipush 64, 2) := by decide +kernel
theorem dX7_cold_91 : decode cX7_cold 91 = .ok (.dup2, 1) := by decide +kernel
theorem dX7_cold_92 : decode cX7_cold 92 = .ok (.iaload, 1) := by decide +kernel
theorem dX7_cold_93 : decode cX7_cold 93 = .ok (.iload_n 2, 1) := by decide +kernel
theorem dX7_cold_94 : decode cX7_cold 94 = .ok (.iadd, 1) := by decide +kernel
theorem dX7_cold_95 : decode cX7_cold 95 = .ok (.iastore, 1) := by decide +kernel
theorem dX7_cold_96 : decode cX7_cold 96 = .ok (.aload_n 0, 1) := by decide +kernel
theorem dX7_cold_97 : decode cX7_cold 97 = .ok (.getfield 7, 3) := by decide +kernel
theorem dX7_cold_100 : decode cX7_cold 100 = .ok (.bipush 76, 2) := by decide +kernel
theorem dX7_cold_102 : decode cX7_cold 102 = .ok (.iload_n 1, 1) := by decide +kernel
theorem dX7_cold_103 : decode cX7_cold 103 = .ok (.iadd, 1) := by decide +kernel
theorem dX7_cold_104 : decode cX7_cold 104 = .ok (.iaload, 1) := by decide +kernel
theorem dX7_cold_105 : decode cX7_cold 105 = .ok (.ireturn, 1) := by decide +kernel
theorem dX7_order_0 : decode cX7_order 0 = .ok (.iload_n 1, 1) := by decide +kernel
theorem dX7_order_1 : decode cX7_order 1 = .ok (.iconst 0, 1) := by decide +kernel
theorem dX7_order_2 : decode cX7_order 2 = .ok (.iconst 1, 1) := by decide +kernel
theorem dX7_order_3 : decode cX7_order 3 = .ok (.invokestatic 16, 3) := by decide +kernel
theorem dX7_order_6 : decode cX7_order 6 = .ok (.ifCond .eq 27, 3) := by decide +kernel
theorem dX7_order_9 : decode cX7_order 9 = .ok (.iload_n 2, 1) := by decide +kernel
theorem dX7_order_10 : decode cX7_order 10 = .ok (.iconst 0, 1) := by decide +kernel
theorem dX7_order_11 : decode cX7_order 11 = .ok (.bipush 7, 2) := by decide +kernel
theorem dX7_order_13 : decode cX7_order 13 = .ok (.invokestatic 16, 3) := by decide +kernel
theorem dX7_order_16 : decode cX7_order 16 = .ok (.ifCond .eq 17, 3) := by decide +kernel
theorem dX7_order_19 : decode cX7_order 19 = .ok (.iload_n 2, 1) := by decide +kernel
theorem dX7_order_20 : decode cX7_order 20 = .ok (.ifCond .ne 15, 3) := by decide +kernel
theorem dX7_order_23 : decode cX7_order 23 = .ok (.iload_n 3, 1) := by decide +kernel
theorem dX7_order_24 : decode cX7_order 24 = .ok (.iconst 0, 1) := by decide +kernel
theorem dX7_order_25 : decode cX7_order 25 = .ok (.bipush 15, 2) := by decide +kernel
theorem dX7_order_27 : decode cX7_order 27 = .ok (.invokestatic 16, 3) := by decide +kernel
theorem dX7_order_30 : decode cX7_order 30 = .ok (.ifCond .ne 5, 3) := by decide +kernel
theorem dX7_order_33 : decode cX7_order 33 = .ok (.iconst (-1), 1) := by decide +kernel
theorem dX7_order_34 : decode cX7_order 34 = .ok (.ireturn, 1) := by decide +kernel
theorem dX7_order_35 : decode cX7_order 35 = .ok (.aload_n 0, 1) := by decide +kernel
theorem dX7_order_36 : decode cX7_order 36 = .ok (.getfield 7, 3) := by decide +kernel
theorem dX7_order_39 : decode cX7_order 39 = .ok (.bipush 104, 2) := by decide +kernel
theorem dX7_order_41 : decode cX7_order 41 = .ok (.iload_n 1, 1) := by decide +kernel
theorem dX7_order_42 : decode cX7_order 42 = .ok (.iadd, 1) := by decide +kernel
theorem dX7_order_43 : decode cX7_order 43 = .ok (.iaload, 1) := by decide +kernel
theorem dX7_order_44 : decode cX7_order 44 = .ok (.bipush 8, 2) := by decide +kernel
theorem dX7_order_46 : decode cX7_order 46 = .ok (.if_icmp .ne 6, 3) := by decide +kernel
theorem dX7_order_49 : decode cX7_order 49 = .ok (.bipush (-3), 2) := by decide +kernel
theorem dX7_order_51 : decode cX7_order 51 = .ok (.ireturn, 1) := by decide +kernel
theorem dX7_order_52 : decode cX7_order 52 = .ok (.aload_n 0, 1) := by decide +kernel
theorem dX7_order_53 : decode cX7_order 53 = .ok (.getfield 7, 3) := by decide +kernel
theorem dX7_order_56 : decode cX7_order 56 = .ok (.bipush 108, 2) := by decide +kernel
theorem dX7_order_58 : decode cX7_order 58 = .ok (.bipush 16, 2) := by decide +kernel
theorem dX7_order_60 : decode cX7_order 60 = .ok (.iload_n 1, 1) := by decide +kernel
theorem dX7_order_61 : decode cX7_order 61 = .ok (.imul, 1) := by decide +kernel
theorem dX7_order_62 : decode cX7_order 62 = .ok (.iadd, 1) := by decide +kernel
theorem dX7_order_63 : decode cX7_order 63 = .ok (.iconst 2, 1) := by decide +kernel
theorem dX7_order_64 : decode cX7_order 64 = .ok (.aload_n 0, 1) := by decide +kernel
theorem dX7_order_65 : decode cX7_order 65 = .ok (.getfield 7, 3) := by decide +kernel
theorem dX7_order_68 : decode cX7_order 68 = .ok (.bipush 104, 2) := by decide +kernel
theorem dX7_order_70 : decode cX7_order 70 = .ok (.iload_n 1, 1) := by decide +kernel
theorem dX7_order_71 : decode cX7_order 71 = .ok (.iadd, 1) := by decide +kernel
theorem dX7_order_72 : decode cX7_order 72 = .ok (.iaload, 1) := by decide +kernel
theorem dX7_order_73 : decode cX7_order 73 = .ok (.imul, 1) := by decide +kernel
theorem dX7_order_74 : decode cX7_order 74 = .ok (.iadd, 1) := by decide +kernel
theorem dX7_order_75 : decode cX7_order 75 = .ok (.iload_n 2, 1) := by decide +kernel
theorem dX7_order_76 : decode cX7_order 76 = .ok (.iastore, 1) := by decide +kernel
theorem dX7_order_77 : decode cX7_order 77 = .ok (.aload_n 0, 1) := by decide +kernel
theorem dX7_order_78 : decode cX7_order 78 = .ok (.getfield 7, 3) := by decide +kernel
theorem dX7_order_81 : decode cX7_order 81 = .ok (.bipush 108, 2) := by decide +kernel
theorem dX7_order_83 : decode cX7_order 83 = .ok (.bipush 16, 2) := by decide +kernel
theorem dX7_order_85 : decode cX7_order 85 = .ok (.iload_n 1, 1) := by decide +kernel
theorem dX7_order_86 : decode cX7_order 86 = .ok (.imul, 1) := by decide +kernel
theorem dX7_order_87 : decode cX7_order 87 = .ok (.iadd, 1) := by decide +kernel
theorem dX7_order_88 : decode cX7_order 88 = .ok (.iconst 2, 1) := by decide +kernel
theorem dX7_order_89 : decode cX7_order 89 = .ok (.aload_n 0, 1) := by decide +kernel
theorem dX7_order_90 : decode cX7_order 90 = .ok (.getfield 7, 3) := by decide +kernel
theorem dX7_order_93 : decode cX7_order 93 = .ok (.bipush 104, 2) := by decide +kernel
theorem dX7_order_95 : decode cX7_order 95 = .ok (.iload_n 1, 1) := by decide +kernel
theorem dX7_order_96 : decode cX7_order 96 = .ok (.iadd, 1) := by decide +kernel
theorem dX7_order_97 : decode cX7_order 97 = .ok (.iaload, 1) := by decide +kernel
theorem dX7_order_98 : decode cX7_order 98 = .ok (.imul, 1) := by decide +kernel
theorem dX7_order_99 : decode cX7_order 99 = .ok (.iadd, 1) := by decide +kernel
theorem dX7_order_100 : decode cX7_order 100 = .ok (.iconst 1, 1) := by decide +kernel
theorem dX7_order_101 : decode cX7_order 101 = .ok (.iadd, 1) := by decide +kernel
theorem dX7_order_102 : decode cX7_order 102 = .ok (.iload_n 3, 1) := by decide +kernel
theorem dX7_order_103 : decode cX7_order 103 = .ok (.iastore, 1) := by decide +kernel
theorem dX7_order_104 : decode cX7_order 104 = .ok (.aload_n 0, 1) := by decide +kernel
theorem dX7_order_105 : decode cX7_order 105 = .ok (.getfield 7, 3) := by decide +kernel
theorem dX7_order_108 : decode cX7_order 108 = .ok (.bipush 104, 2) := by decide +kernel
theorem dX7_order_110 : decode cX7_order 110 = .ok (.iload_n 1, 1) := by decide +kernel
theorem dX7_order_111 : decode cX7_order 111 = .ok (.iadd, 1) := by decide +kernel
theorem dX7_order_112 : decode cX7_order 112 = .ok (.dup2, 1) := by decide +kernel
theorem dX7_order_113 : decode cX7_order 113 = .ok (.iaload, 1) := by decide +kernel
theorem dX7_order_114 : decode cX7_order 114 = .ok (.iconst 1, 1) := by decide +kernel
theorem dX7_order_115 : decode cX7_order 115 = .ok (.iadd, 1) := by decide +kernel
theorem dX7_order_116 : decode cX7_order 116 = .ok (.iastore, 1) := by decide +kernel
theorem dX7_order_117 : decode cX7_order 117 = .ok (.aload_n 0, 1) := by decide +kernel
theorem dX7_order_118 : decode cX7_order 118 = .ok (.getfield 7, 3) := by decide +kernel
theorem dX7_order_121 : decode cX7_order 121 = .ok (.bipush 104, 2) := by decide +kernel
theorem dX7_order_123 : decode cX7_order 123 = .ok (.iload_n 1, 1) := by decide +kernel
theorem dX7_order_124 : decode cX7_order 124 = .ok (.iadd, 1) := by decide +kernel
theorem dX7_order_125 : decode cX7_order 125 = .ok (.iaload, 1) := by decide +kernel
theorem dX7_order_126 : decode cX7_order 126 = .ok (.ireturn, 1) := by decide +kernel
theorem dX7_drop_0 : decode cX7_drop 0 = .ok (.iload_n 1, 1) := by decide +kernel
theorem dX7_drop_1 : decode cX7_drop 1 = .ok (.iconst 0, 1) := by decide +kernel
theorem dX7_drop_2 : decode cX7_drop 2 = .ok (.iconst 1, 1) := by decide +kernel
theorem dX7_drop_3 : decode cX7_drop 3 = .ok (.invokestatic 16, 3) := by decide +kernel
theorem dX7_drop_6 : decode cX7_drop 6 = .ok (.ifCond .ne 5, 3) := by decide +kernel
theorem dX7_drop_9 : decode cX7_drop 9 = .ok (.iconst (-1), 1) := by decide +kernel
theorem dX7_drop_10 : decode cX7_drop 10 = .ok (.ireturn, 1) := by decide +kernel
theorem dX7_drop_11 : decode cX7_drop 11 = .ok (.aload_n 0, 1) := by decide +kernel
theorem dX7_drop_12 : decode cX7_drop 12 = .ok (.getfield 7, 3) := by decide +kernel
theorem dX7_drop_15 : decode cX7_drop 15 = .ok (.bipush 104, 2) := by decide +kernel
theorem dX7_drop_17 : decode cX7_drop 17 = .ok (.iload_n 1, 1) := by decide +kernel
theorem dX7_drop_18 : decode cX7_drop 18 = .ok (.iadd, 1) := by decide +kernel
theorem dX7_drop_19 : decode cX7_drop 19 = .ok (.iaload, 1) := by decide +kernel
theorem dX7_drop_20 : decode cX7_drop 20 = .ok (.istore_n 2, 1) := by decide +kernel
theorem dX7_drop_21 : decode cX7_drop 21 = .ok (.aload_n 0, 1) := by decide +kernel
theorem dX7_drop_22 : decode cX7_drop 22 = .ok (.getfield 7, 3) := by decide +kernel
theorem dX7_drop_25 : decode cX7_drop 25 = .ok (.bipush 104, 2) := by decide +kernel
theorem dX7_drop_27 : decode cX7_drop 27 = .ok (.iload_n 1, 1) := by decide +kernel
theorem dX7_drop_28 : decode cX7_drop 28 = .ok (.iadd, 1) := by decide +kernel
theorem dX7_drop_29 : decode cX7_drop 29 = .ok (.iconst 0, 1) := by decide +kernel
theorem dX7_drop_30 : decode cX7_drop 30 = .ok (.iastore, 1) := by decide +kernel
theorem dX7_drop_31 : decode cX7_drop 31 = .ok (.iload_n 2, 1) := by decide +kernel
theorem dX7_drop_32 : decode cX7_drop 32 = .ok (.ireturn, 1) := by decide +kernel
theorem dX7_feeds_0 : decode cX7_feeds 0 = .ok (.aload_n 0, 1) := by decide +kernel
theorem dX7_feeds_1 : decode cX7_feeds 1 = .ok (.getfield 7, 3) := by decide +kernel
theorem dX7_feeds_4 : decode cX7_feeds 4 = .ok (.sipush 149, 3) := by decide +kernel
theorem dX7_feeds_7 : decode cX7_feeds 7 = .ok (.iaload, 1) := by decide +kernel
theorem dX7_feeds_8 : decode cX7_feeds 8 = .ok (.ifCond .ne 4, 3) := by decide +kernel
theorem dX7_feeds_11 : decode cX7_feeds 11 = .ok (.return_, 1) := by decide +kernel
theorem dX7_feeds_12 : decode cX7_feeds 12 = .ok (.aload_n 0, 1) := by decide +kernel
theorem dX7_feeds_13 : decode cX7_feeds 13 = .ok (.iconst 0, 1) := by decide +kernel
theorem dX7_feeds_14 : decode cX7_feeds 14 = .ok (.invokevirtual 20, 3) := by decide +kernel
theorem dX7_feeds_17 : decode cX7_feeds 17 = .ok (.bipush 9, 2) := by decide +kernel
theorem dX7_feeds_19 : decode cX7_feeds 19 = .ok (.iadd, 1) := by decide +kernel
theorem dX7_feeds_20 : decode cX7_feeds 20 = .ok (.sipush 600, 3) := by decide +kernel
theorem dX7_feeds_23 : decode cX7_feeds 23 = .ok (.if_icmp .le 16, 3) := by decide +kernel
theorem dX7_feeds_26 : decode cX7_feeds 26 = .ok (.aload_n 0, 1) := by decide +kernel
theorem dX7_feeds_27 : decode cX7_feeds 27 = .ok (.getfield 7, 3) := by decide +kernel
theorem dX7_feeds_30 : decode cX7_feeds 30 = .ok (.sipush 145, 3) := by decide +kernel
theorem dX7_feeds_33 : decode cX7_feeds 33 = .ok (.dup2, 1) := by decide +kernel
theorem dX7_feeds_34 : decode cX7_feeds 34 = .ok (.iaload, 1) := by decide +kernel
theorem dX7_feeds_35 : decode cX7_feeds 35 = .ok (.iconst 1, 1) := by decide +kernel
theorem dX7_feeds_36 : decode cX7_feeds 36 = .ok (.iadd, 1) := by decide +kernel
theorem dX7_feeds_37 : decode cX7_feeds 37 = .ok (.iastore, 1) := by decide +kernel
theorem dX7_feeds_38 : decode cX7_feeds 38 = .ok (.return_, 1) := by decide +kernel
theorem dX7_feeds_39 : decode cX7_feeds 39 = .ok (.iconst 0, 1) := by decide +kernel
theorem dX7_feeds_40 : decode cX7_feeds 40 = .ok (.istore_n 1, 1) := by decide +kernel
theorem dX7_feeds_41 : decode cX7_feeds 41 = .ok (.iload_n 1, 1) := by decide +kernel
theorem dX7_feeds_42 : decode cX7_feeds 42 = .ok (.iconst 3, 1) := by decide +kernel
theorem dX7_feeds_43 : decode cX7_feeds 43 = .ok (.if_icmp .ge 38, 3) := by decide +kernel
theorem dX7_feeds_46 : decode cX7_feeds 46 = .ok (.aload_n 0, 1) := by decide +kernel
theorem dX7_feeds_47 : decode cX7_feeds 47 = .ok (.getfield 7, 3) := by decide +kernel
theorem dX7_feeds_50 : decode cX7_feeds 50 = .ok (.iconst 0, 1) := by decide +kernel
theorem dX7_feeds_51 : decode cX7_feeds 51 = .ok (.iload_n 1, 1) := by decide +kernel
theorem dX7_feeds_52 : decode cX7_feeds 52 = .ok (.iadd, 1) := by decide +kernel
theorem dX7_feeds_53 : decode cX7_feeds 53 = .ok (.dup2, 1) := by decide +kernel
theorem dX7_feeds_54 : decode cX7_feeds 54 = .ok (.iaload, 1) := by decide +kernel
theorem dX7_feeds_55 : decode cX7_feeds 55 = .ok (.iconst 4, 1) := by decide +kernel
theorem dX7_feeds_56 : decode cX7_feeds 56 = .ok (.iload_n 1, 1) := by decide +kernel
theorem dX7_feeds_57 : decode cX7_feeds 57 = .ok (.isub, 1) := by decide +kernel
theorem dX7_feeds_58 : decode cX7_feeds 58 = .ok (.iadd, 1) := by decide +kernel
theorem dX7_feeds_59 : decode cX7_feeds 59 = .ok (.iastore, 1) := by decide +kernel
theorem dX7_feeds_60 : decode cX7_feeds 60 = .ok (.aload_n 0, 1) := by decide +kernel
theorem dX7_feeds_61 : decode cX7_feeds 61 = .ok (.getfield 7, 3) := by decide +kernel
theorem dX7_feeds_64 : decode cX7_feeds 64 = .ok (.bipush 64, 2) := by decide +kernel
theorem dX7_feeds_66 : decode cX7_feeds 66 = .ok (.iload_n 1, 1) := by decide +kernel
theorem dX7_feeds_67 : decode cX7_feeds 67 = .ok (.iadd, 1) := by decide +kernel
theorem dX7_feeds_68 : decode cX7_feeds 68 = .ok (.dup2, 1) := by decide +kernel
theorem dX7_feeds_69 : decode cX7_feeds 69 = .ok (.iaload, 1) := by decide +kernel
theorem dX7_feeds_70 : decode cX7_feeds 70 = .ok (.iconst 4, 1) := by decide +kernel
theorem dX7_feeds_71 : decode cX7_feeds 71 = .ok (.iload_n 1, 1) := by decide +kernel
theorem dX7_feeds_72 : decode cX7_feeds 72 = .ok (.isub, 1) := by decide +kernel
theorem dX7_feeds_73 : decode cX7_feeds 73 = .ok (.iadd, 1) := by decide +kernel
theorem dX7_feeds_74 : decode cX7_feeds 74 = .ok (.iastore, 1) := by decide +kernel
theorem dX7_feeds_75 : decode cX7_feeds 75 = .ok (.iinc 1 1, 3) := by decide +kernel
theorem dX7_feeds_78 : decode cX7_feeds 78 = .ok (.goto (-37), 3) := by decide +kernel
theorem dX7_feeds_81 : decode cX7_feeds 81 = .ok (.return_, 1) := by decide +kernel
theorem dX7_blows_0 : decode cX7_blows 0 = .ok (.aload_n 0, 1) := by decide +kernel
theorem dX7_blows_1 : decode cX7_blows 1 = .ok (.getfield 7, 3) := by decide +kernel
theorem dX7_blows_4 : decode cX7_blows 4 = .ok (.bipush 76, 2) := by decide +kernel
theorem dX7_blows_6 : decode cX7_blows 6 = .ok (.iload_n 1, 1) := by decide +kernel
theorem dX7_blows_7 : decode cX7_blows 7 = .ok (.iadd, 1) := by decide +kernel
theorem dX7_blows_8 : decode cX7_blows 8 = .ok (.iaload, 1) := by decide +kernel
theorem dX7_blows_9 : decode cX7_blows 9 = .ok (.sipush 1000, 3) := by decide +kernel
theorem dX7_blows_12 : decode cX7_blows 12 = .ok (.if_icmp .lt 18, 3) := by decide +kernel
theorem dX7_blows_15 : decode cX7_blows 15 = .ok (.aload_n 0, 1) := by decide +kernel
theorem dX7_blows_16 : decode cX7_blows 16 = .ok (.getfield 7, 3) := by decide +kernel
theorem dX7_blows_19 : decode cX7_blows 19 = .ok (.bipush 76, 2) := by decide +kernel
theorem dX7_blows_21 : decode cX7_blows 21 = .ok (.iload_n 1, 1) := by decide +kernel
theorem dX7_blows_22 : decode cX7_blows 22 = .ok (.iadd, 1) := by decide +kernel
theorem dX7_blows_23 : decode cX7_blows 23 = .ok (.iaload, 1) := by decide +kernel
theorem dX7_blows_24 : decode cX7_blows 24 = .ok (.sipush 1300, 3) := by decide +kernel
theorem dX7_blows_27 : decode cX7_blows 27 = .ok (.if_icmp .le 27, 3) := by decide +kernel
theorem dX7_blows_30 : decode cX7_blows 30 = .ok (.aload_n 0, 1) := by decide +kernel
theorem dX7_blows_31 : decode cX7_blows 31 = .ok (.getfield 7, 3) := by decide +kernel
theorem dX7_blows_34 : decode cX7_blows 34 = .ok (.bipush 79, 2) := by decide +kernel
theorem dX7_blows_36 : decode cX7_blows 36 = .ok (.iload_n 1, 1) := by decide +kernel
theorem dX7_blows_37 : decode cX7_blows 37 = .ok (.iadd, 1) := by decide +kernel
theorem dX7_blows_38 : decode cX7_blows 38 = .ok (.iconst 0, 1) := by decide +kernel
theorem dX7_blows_39 : decode cX7_blows 39 = .ok (.iastore, 1) := by decide +kernel
theorem dX7_blows_40 : decode cX7_blows 40 = .ok (.aload_n 0, 1) := by decide +kernel
theorem dX7_blows_41 : decode cX7_blows 41 = .ok (.getfield 7, 3) := by decide +kernel
theorem dX7_blows_44 : decode cX7_blows 44 = .ok (.bipush 85, 2) := by decide +kernel
theorem dX7_blows_46 : decode cX7_blows 46 = .ok (.iload_n 1, 1) := by decide +kernel
theorem dX7_blows_47 : decode cX7_blows 47 = .ok (.iadd, 1) := by decide +kernel
theorem dX7_blows_48 : decode cX7_blows 48 = .ok (.dup2, 1) := by decide +kernel
theorem dX7_blows_49 : decode cX7_blows 49 = .ok (.iaload, 1) := by decide +kernel
theorem dX7_blows_50 : decode cX7_blows 50 = .ok (.iconst 1, 1) := by decide +kernel
theorem dX7_blows_51 : decode cX7_blows 51 = .ok (.iadd, 1) := by decide +kernel
theorem dX7_blows_52 : decode cX7_blows 52 = .ok (.iastore, 1) := by decide +kernel
theorem dX7_blows_53 : decode cX7_blows 53 = .ok (.return_, 1) := by decide +kernel
theorem dX7_blows_54 : decode cX7_blows 54 = .ok (.iconst 4, 1) := by decide +kernel
theorem dX7_blows_55 : decode cX7_blows 55 = .ok (.iconst 4, 1) := by decide +kernel
theorem dX7_blows_56 : decode cX7_blows 56 = .ok (.iload_n 1, 1) := by decide +kernel
theorem dX7_blows_57 : decode cX7_blows 57 = .ok (.imul, 1) := by decide +kernel
theorem dX7_blows_58 : decode cX7_blows 58 = .ok (.iadd, 1) := by decide +kernel
theorem dX7_blows_59 : decode cX7_blows 59 = .ok (.istore_n 2, 1) := by decide +kernel
theorem dX7_blows_60 : decode cX7_blows 60 = .ok (.aload_n 0, 1) := by decide +kernel
theorem dX7_blows_61 : decode cX7_blows 61 = .ok (.getfield 7, 3) := by decide +kernel
theorem dX7_blows_64 : decode cX7_blows 64 = .ok (.iload_n 2, 1) := by decide +kernel
theorem dX7_blows_65 : decode cX7_blows 65 = .ok (.iconst 1, 1) := by decide +kernel
theorem dX7_blows_66 : decode cX7_blows 66 = .ok (.iadd, 1) := by decide +kernel
theorem dX7_blows_67 : decode cX7_blows 67 = .ok (.iaload, 1) := by decide +kernel
theorem dX7_blows_68 : decode cX7_blows 68 = .ok (.bipush 6, 2) := by decide +kernel
theorem dX7_blows_70 : decode cX7_blows 70 = .ok (.if_icmp .ge 14, 3) := by decide +kernel
theorem dX7_blows_73 : decode cX7_blows 73 = .ok (.aload_n 0, 1) := by decide +kernel
theorem dX7_blows_74 : decode cX7_blows 74 = .ok (.getfield 7, 3) := by decide +kernel
theorem dX7_blows_77 : decode cX7_blows 77 = .ok (.iload_n 2, 1) := by decide +kernel
theorem dX7_blows_78 : decode cX7_blows 78 = .ok (.iconst 1, 1) := by decide +kernel
theorem dX7_blows_79 : decode cX7_blows 79 = .ok (.iadd, 1) := by decide +kernel
theorem dX7_blows_80 : decode cX7_blows 80 = .ok (.iaload, 1) := by decide +kernel
theorem dX7_blows_81 : decode cX7_blows 81 = .ok (.goto 5, 3) := by decide +kernel
theorem dX7_blows_84 : decode cX7_blows 84 = .ok (.bipush 6, 2) := by decide +kernel
theorem dX7_blows_86 : decode cX7_blows 86 = .ok (.istore_n 3, 1) := by decide +kernel
theorem dX7_blows_87 : decode cX7_blows 87 = .ok (.aload_n 0, 1) := by decide +kernel
theorem dX7_blows_88 : decode cX7_blows 88 = .ok (.getfield 7, 3) := by decide +kernel
theorem dX7_blows_91 : decode cX7_blows 91 = .ok (.iload_n 2, 1) := by decide +kernel
theorem dX7_blows_92 : decode cX7_blows 92 = .ok (.iconst 2, 1) := by decide +kernel
theorem dX7_blows_93 : decode cX7_blows 93 = .ok (.iadd, 1) := by decide +kernel
theorem dX7_blows_94 : decode cX7_blows 94 = .ok (.iaload, 1) := by decide +kernel
theorem dX7_blows_95 : decode cX7_blows 95 = .ok (.bipush 6, 2) := by decide +kernel
theorem dX7_blows_97 : decode cX7_blows 97 = .ok (.iload_n 3, 1) := by decide +kernel
theorem dX7_blows_98 : decode cX7_blows 98 = .ok (.isub, 1) := by decide +kernel
theorem dX7_blows_99 : decode cX7_blows 99 = .ok (.if_icmp .ge 14, 3) := by decide +kernel
theorem dX7_blows_102 : decode cX7_blows 102 = .ok (.aload_n 0, 1) := by decide +kernel
theorem dX7_blows_103 : decode cX7_blows 103 = .ok (.getfield 7, 3) := by decide +kernel
theorem dX7_blows_106 : decode cX7_blows 106 = .ok (.iload_n 2, 1) := by decide +kernel
theorem dX7_blows_107 : decode cX7_blows 107 = .ok (.iconst 2, 1) := by decide +kernel
theorem dX7_blows_108 : decode cX7_blows 108 = .ok (.iadd, 1) := by decide +kernel
theorem dX7_blows_109 : decode cX7_blows 109 = .ok (.iaload, 1) := by decide +kernel
theorem dX7_blows_110 : decode cX7_blows 110 = .ok (.goto 7, 3) := by decide +kernel
theorem dX7_blows_113 : decode cX7_blows 113 = .ok (.bipush 6, 2) := by decide +kernel
theorem dX7_blows_115 : decode cX7_blows 115 = .ok (.iload_n 3, 1) := by decide +kernel
theorem dX7_blows_116 : decode cX7_blows 116 = .ok (.isub, 1) := by decide +kernel
theorem dX7_blows_117 : decode cX7_blows 117 = .ok (.istore 4, 2) := by decide +kernel
theorem dX7_blows_119 : decode cX7_blows 119 = .ok (.aload_n 0, 1) := by decide +kernel
theorem dX7_blows_120 : decode cX7_blows 120 = .ok (.getfield 7, 3) := by decide +kernel
theorem dX7_blows_123 : decode cX7_blows 123 = .ok (.iload_n 2, 1) := by decide +kernel
theorem dX7_blows_124 : decode cX7_blows 124 = .ok (.iaload, 1) := by decide +kernel
theorem dX7_blows_125 : decode cX7_blows 125 = .ok (.bipush 6, 2) := by decide +kernel
theorem dX7_blows_127 : decode cX7_blows 127 = .ok (.iload_n 3, 1) := by decide +kernel
theorem dX7_blows_128 : decode cX7_blows 128 = .ok (.isub, 1) := by decide +kernel
theorem dX7_blows_129 : decode cX7_blows 129 = .ok (.iload 4, 2) := by decide +kernel
theorem dX7_blows_131 : decode cX7_blows 131 = .ok (.isub, 1) := by decide +kernel
theorem dX7_blows_132 : decode cX7_blows 132 = .ok (.if_icmp .ge 12, 3) := by decide +kernel
theorem dX7_blows_135 : decode cX7_blows 135 = .ok (.aload_n 0, 1) := by decide +kernel
theorem dX7_blows_136 : decode cX7_blows 136 = .ok (.getfield 7, 3) := by decide +kernel
theorem dX7_blows_139 : decode cX7_blows 139 = .ok (.iload_n 2, 1) := by decide +kernel
theorem dX7_blows_140 : decode cX7_blows 140 = .ok (.iaload, 1) := by decide +kernel
theorem dX7_blows_141 : decode cX7_blows 141 = .ok (.goto 10, 3) := by decide +kernel
theorem dX7_blows_144 : decode cX7_blows 144 = .ok (.bipush 6, 2) := by decide +kernel
theorem dX7_blows_146 : decode cX7_blows 146 = .ok (.iload_n 3, 1) := by decide +kernel
theorem dX7_blows_147 : decode cX7_blows 147 = .ok (.isub, 1) := by decide +kernel
theorem dX7_blows_148 : decode cX7_blows 148 = .ok (.iload 4, 2) := by decide +kernel
theorem dX7_blows_150 : decode cX7_blows 150 = .ok (.isub, 1) := by decide +kernel
theorem dX7_blows_151 : decode cX7_blows 151 = .ok (.istore 5, 2) := by decide +kernel
theorem dX7_blows_153 : decode cX7_blows 153 = .ok (.aload_n 0, 1) := by decide +kernel
theorem dX7_blows_154 : decode cX7_blows 154 = .ok (.getfield 7, 3) := by decide +kernel
theorem dX7_blows_157 : decode cX7_blows 157 = .ok (.sipush 142, 3) := by decide +kernel
theorem dX7_blows_160 : decode cX7_blows 160 = .ok (.iaload, 1) := by decide +kernel
theorem dX7_blows_161 : decode cX7_blows 161 = .ok (.iload 4, 2) := by decide +kernel
theorem dX7_blows_163 : decode cX7_blows 163 = .ok (.iadd, 1) := by decide +kernel
theorem dX7_blows_164 : decode cX7_blows 164 = .ok (.aload_n 0, 1) := by decide +kernel
theorem dX7_blows_165 : decode cX7_blows 165 = .ok (.getfield 7, 3) := by decide +kernel
theorem dX7_blows_168 : decode cX7_blows 168 = .ok (.sipush 148, 3) := by decide +kernel
theorem dX7_blows_171 : decode cX7_blows 171 = .ok (.iaload, 1) := by decide +kernel
theorem dX7_blows_172 : decode cX7_blows 172 = .ok (.if_icmp .le 17, 3) := by decide +kernel
theorem dX7_blows_175 : decode cX7_blows 175 = .ok (.aload_n 0, 1) := by decide +kernel
theorem dX7_blows_176 : decode cX7_blows 176 = .ok (.getfield 7, 3) := by decide +kernel
theorem dX7_blows_179 : decode cX7_blows 179 = .ok (.bipush 82, 2) := by decide +kernel
theorem dX7_blows_181 : decode cX7_blows 181 = .ok (.iload_n 1, 1) := by decide +kernel
theorem dX7_blows_182 : decode cX7_blows 182 = .ok (.iadd, 1) := by decide +kernel
theorem dX7_blows_183 : decode cX7_blows 183 = .ok (.dup2, 1) := by decide +kernel
theorem dX7_blows_184 : decode cX7_blows 184 = .ok (.iaload, 1) := by decide +kernel
theorem dX7_blows_185 : decode cX7_blows 185 = .ok (.iconst 1, 1) := by decide +kernel
theorem dX7_blows_186 : decode cX7_blows 186 = .ok (.iadd, 1) := by decide +kernel
theorem dX7_blows_187 : decode cX7_blows 187 = .ok (.iastore, 1) := by decide +kernel
theorem dX7_blows_188 : decode cX7_blows 188 = .ok (.return_, 1) := by decide +kernel
theorem dX7_blows_189 : decode cX7_blows 189 = .ok (.aload_n 0, 1) := by decide +kernel
theorem dX7_blows_190 : decode cX7_blows 190 = .ok (.getfield 7, 3) := by decide +kernel
theorem dX7_blows_193 : decode cX7_blows 193 = .ok (.iload_n 2, 1) := by decide +kernel
theorem dX7_blows_194 : decode cX7_blows 194 = .ok (.dup2, 1) := by decide +kernel
theorem dX7_blows_195 : decode cX7_blows 195 = .ok (.iaload, 1) := by decide +kernel
theorem dX7_blows_196 : decode cX7_blows 196 = .ok (.iload 5, 2) := by decide +kernel
theorem dX7_blows_198 : decode cX7_blows 198 = .ok (.isub, 1) := by decide +kernel
theorem dX7_blows_199 : decode cX7_blows 199 = .ok (.iastore, 1) := by decide +kernel
theorem dX7_blows_200 : decode cX7_blows 200 = .ok (.aload_n 0, 1) := by decide +kernel
theorem dX7_blows_201 : decode cX7_blows 201 = .ok (.getfield 7, 3) := by decide +kernel
theorem dX7_blows_204 : decode cX7_blows 204 = .ok (.iload_n 2, 1) := by decide +kernel
theorem dX7_blows_205 : decode cX7_blows 205 = .ok (.iconst 1, 1) := by decide +kernel
theorem dX7_blows_206 : decode cX7_blows 206 = .ok (.iadd, 1) := by decide +kernel
theorem dX7_blows_207 : decode cX7_blows 207 = .ok (.dup2, 1) := by decide +kernel
theorem dX7_blows_208 : decode cX7_blows 208 = .ok (.iaload, 1) := by decide +kernel
theorem dX7_blows_209 : decode cX7_blows 209 = .ok (.iload_n 3, 1) := by decide +kernel
theorem dX7_blows_210 : decode cX7_blows 210 = .ok (.isub, 1) := by decide +kernel
theorem dX7_blows_211 : decode cX7_blows 211 = .ok (.iastore, 1) := by decide +kernel
theorem dX7_blows_212 : decode cX7_blows 212 = .ok (.aload_n 0, 1) := by decide +kernel
theorem dX7_blows_213 : decode cX7_blows 213 = .ok (.getfield 7, 3) := by decide +kernel
theorem dX7_blows_216 : decode cX7_blows 216 = .ok (.iload_n 2, 1) := by decide +kernel
theorem dX7_blows_217 : decode cX7_blows 217 = .ok (.iconst 2, 1) := by decide +kernel
theorem dX7_blows_218 : decode cX7_blows 218 = .ok (.iadd, 1) := by decide +kernel
theorem dX7_blows_219 : decode cX7_blows 219 = .ok (.dup2, 1) := by decide +kernel
theorem dX7_blows_220 : decode cX7_blows 220 = .ok (.iaload, 1) := by decide +kernel
theorem dX7_blows_221 : decode cX7_blows 221 = .ok (.iload 4, 2) := by decide +kernel
theorem dX7_blows_223 : decode cX7_blows 223 = .ok (.isub, 1) := by decide +kernel
theorem dX7_blows_224 : decode cX7_blows 224 = .ok (.iastore, 1) := by decide +kernel
theorem dX7_blows_225 : decode cX7_blows 225 = .ok (.aload_n 0, 1) := by decide +kernel
theorem dX7_blows_226 : decode cX7_blows 226 = .ok (.getfield 7, 3) := by decide +kernel
theorem dX7_blows_229 : decode cX7_blows 229 = .ok (.iload_n 2, 1) := by decide +kernel
theorem dX7_blows_230 : decode cX7_blows 230 = .ok (.iconst 3, 1) := by decide +kernel
theorem dX7_blows_231 : decode cX7_blows 231 = .ok (.iadd, 1) := by decide +kernel
theorem dX7_blows_232 : decode cX7_blows 232 = .ok (.dup2, 1) := by decide +kernel
theorem dX7_blows_233 : decode cX7_blows 233 = .ok (.iaload, 1) := by decide +kernel
theorem dX7_blows_234 : decode cX7_blows 234 = .ok (.iload_n 3, 1) := by decide +kernel
theorem dX7_blows_235 : decode cX7_blows 235 = .ok (.iload 5, 2) := by decide +kernel
theorem dX7_blows_237 : decode cX7_blows 237 = .ok (.iadd, 1) := by decide +kernel
theorem dX7_blows_238 : decode cX7_blows 238 = .ok (.iadd, 1) := by decide +kernel
theorem dX7_blows_239 : decode cX7_blows 239 = .ok (.iastore, 1) := by decide +kernel
theorem dX7_blows_240 : decode cX7_blows 240 = .ok (.aload_n 0, 1) := by decide +kernel
theorem dX7_blows_241 : decode cX7_blows 241 = .ok (.getfield 7, 3) := by decide +kernel
theorem dX7_blows_244 : decode cX7_blows 244 = .ok (.bipush 68, 2) := by decide +kernel
theorem dX7_blows_246 : decode cX7_blows 246 = .ok (.dup2, 1) := by decide +kernel
theorem dX7_blows_247 : decode cX7_blows 247 = .ok (.iaload, 1) := by decide +kernel
theorem dX7_blows_248 : decode cX7_blows 248 = .ok (.iload 5, 2) := by decide +kernel
theorem dX7_blows_250 : decode cX7_blows 250 = .ok (.iadd, 1) := by decide +kernel
theorem dX7_blows_251 : decode cX7_blows 251 = .ok (.iastore, 1) := by decide +kernel
theorem dX7_blows_252 : decode cX7_blows 252 = .ok (.aload_n 0, 1) := by decide +kernel
theorem dX7_blows_253 : decode cX7_blows 253 = .ok (.getfield 7, 3) := by decide +kernel
theorem dX7_blows_256 : decode cX7_blows 256 = .ok (.bipush 69, 2) := by decide +kernel
theorem dX7_blows_258 : decode cX7_blows 258 = .ok (.dup2, 1) := by decide +kernel
theorem dX7_blows_259 : decode cX7_blows 259 = .ok (.iaload, 1) := by decide +kernel
theorem dX7_blows_260 : decode cX7_blows 260 = .ok (.iload_n 3, 1) := by decide +kernel
theorem dX7_blows_261 : decode cX7_blows 261 = .ok (.iadd, 1) := by decide +kernel
theorem dX7_blows_262 : decode cX7_blows 262 = .ok (.iastore, 1) := by decide +kernel
theorem dX7_blows_263 : decode cX7_blows 263 = .ok (.aload_n 0, 1) := by decide +kernel
theorem dX7_blows_264 : decode cX7_blows 264 = .ok (.getfield 7, 3) := by decide +kernel
theorem dX7_blows_267 : decode cX7_blows 267 = .ok (.bipush 70, 2) := by decide +kernel
theorem dX7_blows_269 : decode cX7_blows 269 = .ok (.dup2, 1) := by decide +kernel
theorem dX7_blows_270 : decode cX7_blows 270 = .ok (.iaload, 1) := by decide +kernel
theorem dX7_blows_271 : decode cX7_blows 271 = .ok (.iload 4, 2) := by decide +kernel
theorem dX7_blows_273 : decode cX7_blows 273 = .ok (.iadd, 1) := by decide +kernel
theorem dX7_blows_274 : decode cX7_blows 274 = .ok (.iastore, 1) := by decide +kernel
theorem dX7_blows_275 : decode cX7_blows 275 = .ok (.aload_n 0, 1) := by decide +kernel
theorem dX7_blows_276 : decode cX7_blows 276 = .ok (.getfield 7, 3) := by decide +kernel
theorem dX7_blows_279 : decode cX7_blows 279 = .ok (.bipush 75, 2) := by decide +kernel
theorem dX7_blows_281 : decode cX7_blows 281 = .ok (.dup2, 1) := by decide +kernel
theorem dX7_blows_282 : decode cX7_blows 282 = .ok (.iaload, 1) := by decide +kernel
theorem dX7_blows_283 : decode cX7_blows 283 = .ok (.iload_n 3, 1) := by decide +kernel
theorem dX7_blows_284 : decode cX7_blows 284 = .ok (.iload 5, 2) := by decide +kernel
theorem dX7_blows_286 : decode cX7_blows 286 = .ok (.iadd, 1) := by decide +kernel
theorem dX7_blows_287 : decode cX7_blows 287 = .ok (.iadd, 1) := by decide +kernel
theorem dX7_blows_288 : decode cX7_blows 288 = .ok (.iastore, 1) := by decide +kernel
theorem dX7_blows_289 : decode cX7_blows 289 = .ok (.aload_n 0, 1) := by decide +kernel
theorem dX7_blows_290 : decode cX7_blows 290 = .ok (.getfield 7, 3) := by decide +kernel
theorem dX7_blows_293 : decode cX7_blows 293 = .ok (.bipush 76, 2) := by decide +kernel
theorem dX7_blows_295 : decode cX7_blows 295 = .ok (.iload_n 1, 1) := by decide +kernel
theorem dX7_blows_296 : decode cX7_blows 296 = .ok (.iadd, 1) := by decide +kernel
theorem dX7_blows_297 : decode cX7_blows 297 = .ok (.dup2, 1) := by decide +kernel
theorem dX7_blows_298 : decode cX7_blows 298 = .ok (.iaload, 1) := by decide +kernel
theorem dX7_blows_299 : decode cX7_blows 299 = .ok (.iconst 4, 1) := by decide +kernel
theorem dX7_blows_300 : decode cX7_blows 300 = .ok (.iload_n 3, 1) := by decide +kernel
theorem dX7_blows_301 : decode cX7_blows 301 = .ok (.imul, 1) := by decide +kernel
theorem dX7_blows_302 : decode cX7_blows 302 = .ok (.iconst 3, 1) := by decide +kernel
theorem dX7_blows_303 : decode cX7_blows 303 = .ok (.iload 4, 2) := by decide +kernel
theorem dX7_blows_305 : decode cX7_blows 305 = .ok (.imul, 1) := by decide +kernel
theorem dX7_blows_306 : decode cX7_blows 306 = .ok (.iadd, 1) := by decide +kernel
theorem dX7_blows_307 : decode cX7_blows 307 = .ok (.iconst 2, 1) := by decide +kernel
theorem dX7_blows_308 : decode cX7_blows 308 = .ok (.iload 5, 2) := by decide +kernel
theorem dX7_blows_310 : decode cX7_blows 310 = .ok (.imul, 1) := by decide +kernel
theorem dX7_blows_311 : decode cX7_blows 311 = .ok (.iadd, 1) := by decide +kernel
theorem dX7_blows_312 : decode cX7_blows 312 = .ok (.iadd, 1) := by decide +kernel
theorem dX7_blows_313 : decode cX7_blows 313 = .ok (.iastore, 1) := by decide +kernel
theorem dX7_blows_314 : decode cX7_blows 314 = .ok (.aload_n 0, 1) := by decide +kernel
theorem dX7_blows_315 : decode cX7_blows 315 = .ok (.getfield 7, 3) := by decide +kernel
theorem dX7_blows_318 : decode cX7_blows 318 = .ok (.sipush 142, 3) := by decide +kernel
theorem dX7_blows_321 : decode cX7_blows 321 = .ok (.dup2, 1) := by decide +kernel
theorem dX7_blows_322 : decode cX7_blows 322 = .ok (.iaload, 1) := by decide +kernel
theorem dX7_blows_323 : decode cX7_blows 323 = .ok (.iload 4, 2) := by decide +kernel
theorem dX7_blows_325 : decode cX7_blows 325 = .ok (.iadd, 1) := by decide +kernel
theorem dX7_blows_326 : decode cX7_blows 326 = .ok (.iastore, 1) := by decide +kernel
theorem dX7_blows_327 : decode cX7_blows 327 = .ok (.aload_n 0, 1) := by decide +kernel
theorem dX7_blows_328 : decode cX7_blows 328 = .ok (.getfield 7, 3) := by decide +kernel
theorem dX7_blows_331 : decode cX7_blows 331 = .ok (.sipush 141, 3) := by decide +kernel
theorem dX7_blows_334 : decode cX7_blows 334 = .ok (.dup2, 1) := by decide +kernel
theorem dX7_blows_335 : decode cX7_blows 335 = .ok (.iaload, 1) := by decide +kernel
theorem dX7_blows_336 : decode cX7_blows 336 = .ok (.iload 4, 2) := by decide +kernel
theorem dX7_blows_338 : decode cX7_blows 338 = .ok (.iadd, 1) := by decide +kernel
theorem dX7_blows_339 : decode cX7_blows 339 = .ok (.iastore, 1) := by decide +kernel
theorem dX7_blows_340 : decode cX7_blows 340 = .ok (.return_, 1) := by decide +kernel
theorem dX7_vesselAt_0 : decode cX7_vesselAt 0 = .ok (.iload_n 0, 1) := by decide +kernel
theorem dX7_vesselAt_1 : decode cX7_vesselAt 1 = .ok (.iconst 4, 1) := by decide +kernel
theorem dX7_vesselAt_2 : decode cX7_vesselAt 2 = .ok (.if_icmp .ne 7, 3) := by decide +kernel
theorem dX7_vesselAt_5 : decode cX7_vesselAt 5 = .ok (.iconst 0, 1) := by decide +kernel
theorem dX7_vesselAt_6 : decode cX7_vesselAt 6 = .ok (.goto 24, 3) := by decide +kernel
theorem dX7_vesselAt_9 : decode cX7_vesselAt 9 = .ok (.iload_n 0, 1) := by decide +kernel
theorem dX7_vesselAt_10 : decode cX7_vesselAt 10 = .ok (.bipush 8, 2) := by decide +kernel
theorem dX7_vesselAt_12 : decode cX7_vesselAt 12 = .ok (.if_icmp .ne 7, 3) := by decide +kernel
theorem dX7_vesselAt_15 : decode cX7_vesselAt 15 = .ok (.iconst 1, 1) := by decide +kernel
theorem dX7_vesselAt_16 : decode cX7_vesselAt 16 = .ok (.goto 14, 3) := by decide +kernel
theorem dX7_vesselAt_19 : decode cX7_vesselAt 19 = .ok (.iload_n 0, 1) := by decide +kernel
theorem dX7_vesselAt_20 : decode cX7_vesselAt 20 = .ok (.bipush 12, 2) := by decide +kernel
theorem dX7_vesselAt_22 : decode cX7_vesselAt 22 = .ok (.if_icmp .ne 7, 3) := by decide +kernel
theorem dX7_vesselAt_25 : decode cX7_vesselAt 25 = .ok (.iconst 2, 1) := by decide +kernel
theorem dX7_vesselAt_26 : decode cX7_vesselAt 26 = .ok (.goto 4, 3) := by decide +kernel
theorem dX7_vesselAt_29 : decode cX7_vesselAt 29 = .ok (.iconst (-1), 1) := by decide +kernel
theorem dX7_vesselAt_30 : decode cX7_vesselAt 30 = .ok (.ireturn, 1) := by decide +kernel
theorem dX7_isFloor_0 : decode cX7_isFloor 0 = .ok (.iload_n 0, 1) := by decide +kernel
theorem dX7_isFloor_1 : decode cX7_isFloor 1 = .ok (.ifCond .eq 25, 3) := by decide +kernel
theorem dX7_isFloor_4 : decode cX7_isFloor 4 = .ok (.iload_n 0, 1) := by decide +kernel
theorem dX7_isFloor_5 : decode cX7_isFloor 5 = .ok (.iconst 2, 1) := by decide +kernel
theorem dX7_isFloor_6 : decode cX7_isFloor 6 = .ok (.if_icmp .eq 20, 3) := by decide +kernel
theorem dX7_isFloor_9 : decode cX7_isFloor 9 = .ok (.iload_n 0, 1) := by decide +kernel
theorem dX7_isFloor_10 : decode cX7_isFloor 10 = .ok (.bipush 15, 2) := by decide +kernel
theorem dX7_isFloor_12 : decode cX7_isFloor 12 = .ok (.if_icmp .eq 14, 3) := by decide +kernel
theorem dX7_isFloor_15 : decode cX7_isFloor 15 = .ok (.iload_n 0, 1) := by decide +kernel
theorem dX7_isFloor_16 : decode cX7_isFloor 16 = .ok (.invokestatic 24, 3) := by decide +kernel
theorem dX7_isFloor_19 : decode cX7_isFloor 19 = .ok (.ifCond .ge 7, 3) := by decide +kernel
theorem dX7_isFloor_22 : decode cX7_isFloor 22 = .ok (.iconst 1, 1) := by decide +kernel
theorem dX7_isFloor_23 : decode cX7_isFloor 23 = .ok (.goto 4, 3) := by decide +kernel
theorem dX7_isFloor_26 : decode cX7_isFloor 26 = .ok (.iconst 0, 1) := by decide +kernel
theorem dX7_isFloor_27 : decode cX7_isFloor 27 = .ok (.ireturn, 1) := by decide +kernel
theorem dX7_standsAt_0 : decode cX7_standsAt 0 = .ok (.iconst 0, 1) := by decide +kernel
theorem dX7_standsAt_1 : decode cX7_standsAt 1 = .ok (.istore_n 2, 1) := by decide +kernel
theorem dX7_standsAt_2 : decode cX7_standsAt 2 = .ok (.iload_n 2, 1) := by decide +kernel
theorem dX7_standsAt_3 : decode cX7_standsAt 3 = .ok (.iconst 4, 1) := by decide +kernel
theorem dX7_standsAt_4 : decode cX7_standsAt 4 = .ok (.if_icmp .ge 36, 3) := by decide +kernel
theorem dX7_standsAt_7 : decode cX7_standsAt 7 = .ok (.aload_n 0, 1) := by decide +kernel
theorem dX7_standsAt_8 : decode cX7_standsAt 8 = .ok (.getfield 7, 3) := by decide +kernel
theorem dX7_standsAt_11 : decode cX7_standsAt 11 = .ok (.bipush 88, 2) := by decide +kernel
theorem dX7_standsAt_13 : decode cX7_standsAt 13 = .ok (.iload_n 2, 1) := by decide +kernel
theorem dX7_standsAt_14 : decode cX7_standsAt 14 = .ok (.iadd, 1) := by decide +kernel
theorem dX7_standsAt_15 : decode cX7_standsAt 15 = .ok (.iaload, 1) := by decide +kernel
theorem dX7_standsAt_16 : decode cX7_standsAt 16 = .ok (.iload_n 1, 1) := by decide +kernel
theorem dX7_standsAt_17 : decode cX7_standsAt 17 = .ok (.if_icmp .ne 17, 3) := by decide +kernel
theorem dX7_standsAt_20 : decode cX7_standsAt 20 = .ok (.aload_n 0, 1) := by decide +kernel
theorem dX7_standsAt_21 : decode cX7_standsAt 21 = .ok (.getfield 7, 3) := by decide +kernel
theorem dX7_standsAt_24 : decode cX7_standsAt 24 = .ok (.bipush 92, 2) := by decide +kernel
theorem dX7_standsAt_26 : decode cX7_standsAt 26 = .ok (.iload_n 2, 1) := by decide +kernel
theorem dX7_standsAt_27 : decode cX7_standsAt 27 = .ok (.iadd, 1) := by decide +kernel
theorem dX7_standsAt_28 : decode cX7_standsAt 28 = .ok (.iaload, 1) := by decide +kernel
theorem dX7_standsAt_29 : decode cX7_standsAt 29 = .ok (.ifCond .ge 5, 3) := by decide +kernel
theorem dX7_standsAt_32 : decode cX7_standsAt 32 = .ok (.iload_n 2, 1) := by decide +kernel
theorem dX7_standsAt_33 : decode cX7_standsAt 33 = .ok (.ireturn, 1) := by decide +kernel
theorem dX7_standsAt_34 : decode cX7_standsAt 34 = .ok (.iinc 2 1, 3) := by decide +kernel
theorem dX7_standsAt_37 : decode cX7_standsAt 37 = .ok (.goto (-35), 3) := by decide +kernel
theorem dX7_standsAt_40 : decode cX7_standsAt 40 = .ok (.iconst (-1), 1) := by decide +kernel
theorem dX7_standsAt_41 : decode cX7_standsAt 41 = .ok (.ireturn, 1) := by decide +kernel
theorem dX7_room_0 : decode cX7_room 0 = .ok (.bipush 100, 2) := by decide +kernel
theorem dX7_room_2 : decode cX7_room 2 = .ok (.aload_n 0, 1) := by decide +kernel
theorem dX7_room_3 : decode cX7_room 3 = .ok (.bipush 32, 2) := by decide +kernel
theorem dX7_room_5 : decode cX7_room 5 = .ok (.iconst 4, 1) := by decide +kernel
theorem dX7_room_6 : decode cX7_room 6 = .ok (.iload_n 1, 1) := by decide +kernel
theorem dX7_room_7 : decode cX7_room 7 = .ok (.imul, 1) := by decide +kernel
theorem dX7_room_8 : decode cX7_room 8 = .ok (.iadd, 1) := by decide +kernel
theorem dX7_room_9 : decode cX7_room 9 = .ok (.invokevirtual 20, 3) := by decide +kernel
theorem dX7_room_12 : decode cX7_room 12 = .ok (.isub, 1) := by decide +kernel
theorem dX7_room_13 : decode cX7_room 13 = .ok (.aload_n 0, 1) := by decide +kernel
theorem dX7_room_14 : decode cX7_room 14 = .ok (.bipush 16, 2) := by decide +kernel
theorem dX7_room_16 : decode cX7_room 16 = .ok (.iconst 4, 1) := by decide +kernel
theorem dX7_room_17 : decode cX7_room 17 = .ok (.iload_n 1, 1) := by decide +kernel
theorem dX7_room_18 : decode cX7_room 18 = .ok (.imul, 1) := by decide +kernel
theorem dX7_room_19 : decode cX7_room 19 = .ok (.iadd, 1) := by decide +kernel
theorem dX7_room_20 : decode cX7_room 20 = .ok (.invokevirtual 20, 3) := by decide +kernel
theorem dX7_room_23 : decode cX7_room 23 = .ok (.isub, 1) := by decide +kernel
theorem dX7_room_24 : decode cX7_room 24 = .ok (.ireturn, 1) := by decide +kernel
theorem dX7_takes_0 : decode cX7_takes 0 = .ok (.aload_n 0, 1) := by decide +kernel
theorem dX7_takes_1 : decode cX7_takes 1 = .ok (.iload_n 2, 1) := by decide +kernel
theorem dX7_takes_2 : decode cX7_takes 2 = .ok (.invokevirtual 27, 3) := by decide +kernel
theorem dX7_takes_5 : decode cX7_takes 5 = .ok (.istore_n 3, 1) := by decide +kernel
theorem dX7_takes_6 : decode cX7_takes 6 = .ok (.aload_n 0, 1) := by decide +kernel
theorem dX7_takes_7 : decode cX7_takes 7 = .ok (.getfield 7, 3) := by decide +kernel
theorem dX7_takes_10 : decode cX7_takes 10 = .ok (.bipush 102, 2) := by decide +kernel
theorem dX7_takes_12 : decode cX7_takes 12 = .ok (.iload_n 1, 1) := by decide +kernel
theorem dX7_takes_13 : decode cX7_takes 13 = .ok (.iadd, 1) := by decide +kernel
theorem dX7_takes_14 : decode cX7_takes 14 = .ok (.iaload, 1) := by decide +kernel
theorem dX7_takes_15 : decode cX7_takes 15 = .ok (.ifCond .ge 7, 3) := by decide +kernel
theorem dX7_takes_18 : decode cX7_takes 18 = .ok (.iload_n 3, 1) := by decide +kernel
theorem dX7_takes_19 : decode cX7_takes 19 = .ok (.ifCond .ge 5, 3) := by decide +kernel
theorem dX7_takes_22 : decode cX7_takes 22 = .ok (.iconst 0, 1) := by decide +kernel
theorem dX7_takes_23 : decode cX7_takes 23 = .ok (.ireturn, 1) := by decide +kernel
theorem dX7_takes_24 : decode cX7_takes 24 = .ok (.aload_n 0, 1) := by decide +kernel
theorem dX7_takes_25 : decode cX7_takes 25 = .ok (.getfield 7, 3) := by decide +kernel
theorem dX7_takes_28 : decode cX7_takes 28 = .ok (.bipush 102, 2) := by decide +kernel
theorem dX7_takes_30 : decode cX7_takes 30 = .ok (.iload_n 1, 1) := by decide +kernel
theorem dX7_takes_31 : decode cX7_takes 31 = .ok (.iadd, 1) := by decide +kernel
theorem dX7_takes_32 : decode cX7_takes 32 = .ok (.iload_n 3, 1) := by decide +kernel
theorem dX7_takes_33 : decode cX7_takes 33 = .ok (.iastore, 1) := by decide +kernel
theorem dX7_takes_34 : decode cX7_takes 34 = .ok (.aload_n 0, 1) := by decide +kernel
theorem dX7_takes_35 : decode cX7_takes 35 = .ok (.getfield 7, 3) := by decide +kernel
theorem dX7_takes_38 : decode cX7_takes 38 = .ok (.bipush 92, 2) := by decide +kernel
theorem dX7_takes_40 : decode cX7_takes 40 = .ok (.iload_n 3, 1) := by decide +kernel
theorem dX7_takes_41 : decode cX7_takes 41 = .ok (.iadd, 1) := by decide +kernel
theorem dX7_takes_42 : decode cX7_takes 42 = .ok (.iload_n 1, 1) := by decide +kernel
theorem dX7_takes_43 : decode cX7_takes 43 = .ok (.iastore, 1) := by decide +kernel
theorem dX7_takes_44 : decode cX7_takes 44 = .ok (.iconst 1, 1) := by decide +kernel
theorem dX7_takes_45 : decode cX7_takes 45 = .ok (.ireturn, 1) := by decide +kernel
theorem dX7_sets_0 : decode cX7_sets 0 = .ok (.aload_n 0, 1) := by decide +kernel
theorem dX7_sets_1 : decode cX7_sets 1 = .ok (.getfield 7, 3) := by decide +kernel
theorem dX7_sets_4 : decode cX7_sets 4 = .ok (.bipush 102, 2) := by decide +kernel
theorem dX7_sets_6 : decode cX7_sets 6 = .ok (.iload_n 1, 1) := by decide +kernel
theorem dX7_sets_7 : decode cX7_sets 7 = .ok (.iadd, 1) := by decide +kernel
theorem dX7_sets_8 : decode cX7_sets 8 = .ok (.iaload, 1) := by decide +kernel
theorem dX7_sets_9 : decode cX7_sets 9 = .ok (.istore_n 3, 1) := by decide +kernel
theorem dX7_sets_10 : decode cX7_sets 10 = .ok (.iload_n 2, 1) := by decide +kernel
theorem dX7_sets_11 : decode cX7_sets 11 = .ok (.invokestatic 30, 3) := by decide +kernel
theorem dX7_sets_14 : decode cX7_sets 14 = .ok (.ifCond .eq 11, 3) := by decide +kernel
theorem dX7_sets_17 : decode cX7_sets 17 = .ok (.aload_n 0, 1) := by decide +kernel
theorem dX7_sets_18 : decode cX7_sets 18 = .ok (.iload_n 2, 1) := by decide +kernel
theorem dX7_sets_19 : decode cX7_sets 19 = .ok (.invokevirtual 27, 3) := by decide +kernel
theorem dX7_sets_22 : decode cX7_sets 22 = .ok (.ifCond .lt 5, 3) := by decide +kernel
theorem dX7_sets_25 : decode cX7_sets 25 = .ok (.iconst 0, 1) := by decide +kernel
theorem dX7_sets_26 : decode cX7_sets 26 = .ok (.ireturn, 1) := by decide +kernel
theorem dX7_sets_27 : decode cX7_sets 27 = .ok (.aload_n 0, 1) := by decide +kernel
theorem dX7_sets_28 : decode cX7_sets 28 = .ok (.getfield 7, 3) := by decide +kernel
theorem dX7_sets_31 : decode cX7_sets 31 = .ok (.bipush 102, 2) := by decide +kernel
theorem dX7_sets_33 : decode cX7_sets 33 = .ok (.iload_n 1, 1) := by decide +kernel
theorem dX7_sets_34 : decode cX7_sets 34 = .ok (.iadd, 1) := by decide +kernel
theorem dX7_sets_35 : decode cX7_sets 35 = .ok (.iconst (-1), 1) := by decide +kernel
theorem dX7_sets_36 : decode cX7_sets 36 = .ok (.iastore, 1) := by decide +kernel
theorem dX7_sets_37 : decode cX7_sets 37 = .ok (.aload_n 0, 1) := by decide +kernel
theorem dX7_sets_38 : decode cX7_sets 38 = .ok (.getfield 7, 3) := by decide +kernel
theorem dX7_sets_41 : decode cX7_sets 41 = .ok (.bipush 92, 2) := by decide +kernel
theorem dX7_sets_43 : decode cX7_sets 43 = .ok (.iload_n 3, 1) := by decide +kernel
theorem dX7_sets_44 : decode cX7_sets 44 = .ok (.iadd, 1) := by decide +kernel
theorem dX7_sets_45 : decode cX7_sets 45 = .ok (.iconst (-1), 1) := by decide +kernel
theorem dX7_sets_46 : decode cX7_sets 46 = .ok (.iastore, 1) := by decide +kernel
theorem dX7_sets_47 : decode cX7_sets 47 = .ok (.iconst 1, 1) := by decide +kernel
theorem dX7_sets_48 : decode cX7_sets 48 = .ok (.ireturn, 1) := by decide +kernel
theorem dX7_taps_0 : decode cX7_taps 0 = .ok (.aload_n 0, 1) := by decide +kernel
theorem dX7_taps_1 : decode cX7_taps 1 = .ok (.iconst 0, 1) := by decide +kernel
theorem dX7_taps_2 : decode cX7_taps 2 = .ok (.invokevirtual 20, 3) := by decide +kernel
theorem dX7_taps_5 : decode cX7_taps 5 = .ok (.istore_n 3, 1) := by decide +kernel
theorem dX7_taps_6 : decode cX7_taps 6 = .ok (.iload_n 3, 1) := by decide +kernel
theorem dX7_taps_7 : decode cX7_taps 7 = .ok (.aload_n 0, 1) := by decide +kernel
theorem dX7_taps_8 : decode cX7_taps 8 = .ok (.iload_n 1, 1) := by decide +kernel
theorem dX7_taps_9 : decode cX7_taps 9 = .ok (.invokevirtual 34, 3) := by decide +kernel
theorem dX7_taps_12 : decode cX7_taps 12 = .ok (.if_icmp .ge 7, 3) := by decide +kernel
theorem dX7_taps_15 : decode cX7_taps 15 = .ok (.iload_n 3, 1) := by decide +kernel
theorem dX7_taps_16 : decode cX7_taps 16 = .ok (.goto 8, 3) := by decide +kernel
theorem dX7_taps_19 : decode cX7_taps 19 = .ok (.aload_n 0, 1) := by decide +kernel
theorem dX7_taps_20 : decode cX7_taps 20 = .ok (.iload_n 1, 1) := by decide +kernel
theorem dX7_taps_21 : decode cX7_taps 21 = .ok (.invokevirtual 34, 3) := by decide +kernel
theorem dX7_taps_24 : decode cX7_taps 24 = .ok (.istore 4, 2) := by decide +kernel
theorem dX7_taps_26 : decode cX7_taps 26 = .ok (.iload_n 2, 1) := by decide +kernel
theorem dX7_taps_27 : decode cX7_taps 27 = .ok (.ifCond .ne 20, 3) := by decide +kernel
theorem dX7_taps_30 : decode cX7_taps 30 = .ok (.aload_n 0, 1) := by decide +kernel
theorem dX7_taps_31 : decode cX7_taps 31 = .ok (.getfield 7, 3) := by decide +kernel
theorem dX7_taps_34 : decode cX7_taps 34 = .ok (.bipush 96, 2) := by decide +kernel
theorem dX7_taps_36 : decode cX7_taps 36 = .ok (.iload_n 1, 1) := by decide +kernel
theorem dX7_taps_37 : decode cX7_taps 37 = .ok (.iadd, 1) := by decide +kernel
theorem dX7_taps_38 : decode cX7_taps 38 = .ok (.iaload, 1) := by decide +kernel
theorem dX7_taps_39 : decode cX7_taps 39 = .ok (.ifCond .ne 8, 3) := by decide +kernel
theorem dX7_taps_42 : decode cX7_taps 42 = .ok (.iload 4, 2) := by decide +kernel
theorem dX7_taps_44 : decode cX7_taps 44 = .ok (.ifCond .ne 5, 3) := by decide +kernel
theorem dX7_taps_47 : decode cX7_taps 47 = .ok (.iconst 0, 1) := by decide +kernel
theorem dX7_taps_48 : decode cX7_taps 48 = .ok (.ireturn, 1) := by decide +kernel
theorem dX7_taps_49 : decode cX7_taps 49 = .ok (.aload_n 0, 1) := by decide +kernel
theorem dX7_taps_50 : decode cX7_taps 50 = .ok (.getfield 7, 3) := by decide +kernel
theorem dX7_taps_53 : decode cX7_taps 53 = .ok (.iconst 0, 1) := by decide +kernel
theorem dX7_taps_54 : decode cX7_taps 54 = .ok (.iaload, 1) := by decide +kernel
theorem dX7_taps_55 : decode cX7_taps 55 = .ok (.iload 4, 2) := by decide +kernel
theorem dX7_taps_57 : decode cX7_taps 57 = .ok (.imul, 1) := by decide +kernel
theorem dX7_taps_58 : decode cX7_taps 58 = .ok (.iload_n 3, 1) := by decide +kernel
theorem dX7_taps_59 : decode cX7_taps 59 = .ok (.idiv, 1) := by decide +kernel
theorem dX7_taps_60 : decode cX7_taps 60 = .ok (.istore 5, 2) := by decide +kernel
theorem dX7_taps_62 : decode cX7_taps 62 = .ok (.aload_n 0, 1) := by decide +kernel
theorem dX7_taps_63 : decode cX7_taps 63 = .ok (.getfield 7, 3) := by decide +kernel
theorem dX7_taps_66 : decode cX7_taps 66 = .ok (.iconst 1, 1) := by decide +kernel
theorem dX7_taps_67 : decode cX7_taps 67 = .ok (.iaload, 1) := by decide +kernel
theorem dX7_taps_68 : decode cX7_taps 68 = .ok (.iload 4, 2) := by decide +kernel
theorem dX7_taps_70 : decode cX7_taps 70 = .ok (.imul, 1) := by decide +kernel
theorem dX7_taps_71 : decode cX7_taps 71 = .ok (.iload_n 3, 1) := by decide +kernel
theorem dX7_taps_72 : decode cX7_taps 72 = .ok (.idiv, 1) := by decide +kernel
theorem dX7_taps_73 : decode cX7_taps 73 = .ok (.istore 6, 2) := by decide +kernel
theorem dX7_taps_75 : decode cX7_taps 75 = .ok (.iload 4, 2) := by decide +kernel
theorem dX7_taps_77 : decode cX7_taps 77 = .ok (.iload 5, 2) := by decide +kernel
theorem dX7_taps_79 : decode cX7_taps 79 = .ok (.isub, 1) := by decide +kernel
theorem dX7_taps_80 : decode cX7_taps 80 = .ok (.iload 6, 2) := by decide +kernel
theorem dX7_taps_82 : decode cX7_taps 82 = .ok (.isub, 1) := by decide +kernel
theorem dX7_taps_83 : decode cX7_taps 83 = .ok (.istore 7, 2) := by decide +kernel
theorem dX7_taps_85 : decode cX7_taps 85 = .ok (.iload 7, 2) := by decide +kernel
theorem dX7_taps_87 : decode cX7_taps 87 = .ok (.aload_n 0, 1) := by decide +kernel
theorem dX7_taps_88 : decode cX7_taps 88 = .ok (.getfield 7, 3) := by decide +kernel
theorem dX7_taps_91 : decode cX7_taps 91 = .ok (.iconst 2, 1) := by decide +kernel
theorem dX7_taps_92 : decode cX7_taps 92 = .ok (.iaload, 1) := by decide +kernel
theorem dX7_taps_93 : decode cX7_taps 93 = .ok (.if_icmp .le 69, 3) := by decide +kernel
theorem dX7_taps_96 : decode cX7_taps 96 = .ok (.iload 7, 2) := by decide +kernel
theorem dX7_taps_98 : decode cX7_taps 98 = .ok (.aload_n 0, 1) := by decide +kernel
theorem dX7_taps_99 : decode cX7_taps 99 = .ok (.getfield 7, 3) := by decide +kernel
theorem dX7_taps_102 : decode cX7_taps 102 = .ok (.iconst 2, 1) := by decide +kernel
theorem dX7_taps_103 : decode cX7_taps 103 = .ok (.iaload, 1) := by decide +kernel
theorem dX7_taps_104 : decode cX7_taps 104 = .ok (.isub, 1) := by decide +kernel
theorem dX7_taps_105 : decode cX7_taps 105 = .ok (.istore 8, 2) := by decide +kernel
theorem dX7_taps_107 : decode cX7_taps 107 = .ok (.aload_n 0, 1) := by decide +kernel
theorem dX7_taps_108 : decode cX7_taps 108 = .ok (.getfield 7, 3) := by decide +kernel
theorem dX7_taps_111 : decode cX7_taps 111 = .ok (.iconst 2, 1) := by decide +kernel
theorem dX7_taps_112 : decode cX7_taps 112 = .ok (.iaload, 1) := by decide +kernel
theorem dX7_taps_113 : decode cX7_taps 113 = .ok (.istore 7, 2) := by decide +kernel
theorem dX7_taps_115 : decode cX7_taps 115 = .ok (.iload 8, 2) := by decide +kernel
theorem dX7_taps_117 : decode cX7_taps 117 = .ok (.aload_n 0, 1) := by decide +kernel
theorem dX7_taps_118 : decode cX7_taps 118 = .ok (.getfield 7, 3) := by decide +kernel
theorem dX7_taps_121 : decode cX7_taps 121 = .ok (.iconst 1, 1) := by decide +kernel
theorem dX7_taps_122 : decode cX7_taps 122 = .ok (.iaload, 1) := by decide +kernel
theorem dX7_taps_123 : decode cX7_taps 123 = .ok (.iload 6, 2) := by decide +kernel
theorem dX7_taps_125 : decode cX7_taps 125 = .ok (.isub, 1) := by decide +kernel
theorem dX7_taps_126 : decode cX7_taps 126 = .ok (.if_icmp .ge 8, 3) := by decide +kernel
theorem dX7_taps_129 : decode cX7_taps 129 = .ok (.iload 8, 2) := by decide +kernel
theorem dX7_taps_131 : decode cX7_taps 131 = .ok (.goto 12, 3) := by decide +kernel
theorem dX7_taps_134 : decode cX7_taps 134 = .ok (.aload_n 0, 1) := by decide +kernel
theorem dX7_taps_135 : decode cX7_taps 135 = .ok (.getfield 7, 3) := by decide +kernel
theorem dX7_taps_138 : decode cX7_taps 138 = .ok (.iconst 1, 1) := by decide +kernel
theorem dX7_taps_139 : decode cX7_taps 139 = .ok (.iaload, 1) := by decide +kernel
theorem dX7_taps_140 : decode cX7_taps 140 = .ok (.iload 6, 2) := by decide +kernel
theorem dX7_taps_142 : decode cX7_taps 142 = .ok (.isub, 1) := by decide +kernel
theorem dX7_taps_143 : decode cX7_taps 143 = .ok (.istore 9, 2) := by decide +kernel
theorem dX7_taps_145 : decode cX7_taps 145 = .ok (.iload 6, 2) := by decide +kernel
theorem dX7_taps_147 : decode cX7_taps 147 = .ok (.iload 9, 2) := by decide +kernel
theorem dX7_taps_149 : decode cX7_taps 149 = .ok (.iadd, 1) := by decide +kernel
theorem dX7_taps_150 : decode cX7_taps 150 = .ok (.istore 6, 2) := by decide +kernel
theorem dX7_taps_152 : decode cX7_taps 152 = .ok (.iload 5, 2) := by decide +kernel
theorem dX7_taps_154 : decode cX7_taps 154 = .ok (.iload 8, 2) := by decide +kernel
theorem dX7_taps_156 : decode cX7_taps 156 = .ok (.iload 9, 2) := by decide +kernel
theorem dX7_taps_158 : decode cX7_taps 158 = .ok (.isub, 1) := by decide +kernel
theorem dX7_taps_159 : decode cX7_taps 159 = .ok (.iadd, 1) := by decide +kernel
theorem dX7_taps_160 : decode cX7_taps 160 = .ok (.istore 5, 2) := by decide +kernel
theorem dX7_taps_162 : decode cX7_taps 162 = .ok (.aload_n 0, 1) := by decide +kernel
theorem dX7_taps_163 : decode cX7_taps 163 = .ok (.iconst 0, 1) := by decide +kernel
theorem dX7_taps_164 : decode cX7_taps 164 = .ok (.bipush 16, 2) := by decide +kernel
theorem dX7_taps_166 : decode cX7_taps 166 = .ok (.iconst 4, 1) := by decide +kernel
theorem dX7_taps_167 : decode cX7_taps 167 = .ok (.iload_n 1, 1) := by decide +kernel
theorem dX7_taps_168 : decode cX7_taps 168 = .ok (.imul, 1) := by decide +kernel
theorem dX7_taps_169 : decode cX7_taps 169 = .ok (.iadd, 1) := by decide +kernel
theorem dX7_taps_170 : decode cX7_taps 170 = .ok (.iconst 0, 1) := by decide +kernel
theorem dX7_taps_171 : decode cX7_taps 171 = .ok (.iload 5, 2) := by decide +kernel
theorem dX7_taps_173 : decode cX7_taps 173 = .ok (.invokevirtual 37, 3) := by decide +kernel
theorem dX7_taps_176 : decode cX7_taps 176 = .ok (.aload_n 0, 1) := by decide +kernel
theorem dX7_taps_177 : decode cX7_taps 177 = .ok (.iconst 0, 1) := by decide +kernel
theorem dX7_taps_178 : decode cX7_taps 178 = .ok (.bipush 16, 2) := by decide +kernel
theorem dX7_taps_180 : decode cX7_taps 180 = .ok (.iconst 4, 1) := by decide +kernel
theorem dX7_taps_181 : decode cX7_taps 181 = .ok (.iload_n 1, 1) := by decide +kernel
theorem dX7_taps_182 : decode cX7_taps 182 = .ok (.imul, 1) := by decide +kernel
theorem dX7_taps_183 : decode cX7_taps 183 = .ok (.iadd, 1) := by decide +kernel
theorem dX7_taps_184 : decode cX7_taps 184 = .ok (.iconst 1, 1) := by decide +kernel
theorem dX7_taps_185 : decode cX7_taps 185 = .ok (.iload 6, 2) := by decide +kernel
theorem dX7_taps_187 : decode cX7_taps 187 = .ok (.invokevirtual 37, 3) := by decide +kernel
theorem dX7_taps_190 : decode cX7_taps 190 = .ok (.aload_n 0, 1) := by decide +kernel
theorem dX7_taps_191 : decode cX7_taps 191 = .ok (.iconst 0, 1) := by decide +kernel
theorem dX7_taps_192 : decode cX7_taps 192 = .ok (.bipush 16, 2) := by decide +kernel
theorem dX7_taps_194 : decode cX7_taps 194 = .ok (.iconst 4, 1) := by decide +kernel
theorem dX7_taps_195 : decode cX7_taps 195 = .ok (.iload_n 1, 1) := by decide +kernel
theorem dX7_taps_196 : decode cX7_taps 196 = .ok (.imul, 1) := by decide +kernel
theorem dX7_taps_197 : decode cX7_taps 197 = .ok (.iadd, 1) := by decide +kernel
theorem dX7_taps_198 : decode cX7_taps 198 = .ok (.iconst 2, 1) := by decide +kernel
theorem dX7_taps_199 : decode cX7_taps 199 = .ok (.iload 7, 2) := by decide +kernel
theorem dX7_taps_201 : decode cX7_taps 201 = .ok (.invokevirtual 37, 3) := by decide +kernel
theorem dX7_taps_204 : decode cX7_taps 204 = .ok (.aload_n 0, 1) := by decide +kernel
theorem dX7_taps_205 : decode cX7_taps 205 = .ok (.getfield 7, 3) := by decide +kernel
theorem dX7_taps_208 : decode cX7_taps 208 = .ok (.bipush 96, 2) := by decide +kernel
theorem dX7_taps_210 : decode cX7_taps 210 = .ok (.iload_n 1, 1) := by decide +kernel
theorem dX7_taps_211 : decode cX7_taps 211 = .ok (.iadd, 1) := by decide +kernel
theorem dX7_taps_212 : decode cX7_taps 212 = .ok (.iconst 1, 1) := by decide +kernel
theorem dX7_taps_213 : decode cX7_taps 213 = .ok (.iastore, 1) := by decide +kernel
theorem dX7_taps_214 : decode cX7_taps 214 = .ok (.iconst 1, 1) := by decide +kernel
theorem dX7_taps_215 : decode cX7_taps 215 = .ok (.ireturn, 1) := by decide +kernel
theorem dX7_moves_0 : decode cX7_moves 0 = .ok (.aload_n 0, 1) := by decide +kernel
theorem dX7_moves_1 : decode cX7_moves 1 = .ok (.getfield 7, 3) := by decide +kernel
theorem dX7_moves_4 : decode cX7_moves 4 = .ok (.iload_n 1, 1) := by decide +kernel
theorem dX7_moves_5 : decode cX7_moves 5 = .ok (.iload_n 3, 1) := by decide +kernel
theorem dX7_moves_6 : decode cX7_moves 6 = .ok (.iadd, 1) := by decide +kernel
theorem dX7_moves_7 : decode cX7_moves 7 = .ok (.dup2, 1) := by decide +kernel
theorem dX7_moves_8 : decode cX7_moves 8 = .ok (.iaload, 1) := by decide +kernel
theorem dX7_moves_9 : decode cX7_moves 9 = .ok (.iload 4, 2) := by decide +kernel
theorem dX7_moves_11 : decode cX7_moves 11 = .ok (.isub, 1) := by decide +kernel
theorem dX7_moves_12 : decode cX7_moves 12 = .ok (.iastore, 1) := by decide +kernel
theorem dX7_moves_13 : decode cX7_moves 13 = .ok (.aload_n 0, 1) := by decide +kernel
theorem dX7_moves_14 : decode cX7_moves 14 = .ok (.getfield 7, 3) := by decide +kernel
theorem dX7_moves_17 : decode cX7_moves 17 = .ok (.iload_n 2, 1) := by decide +kernel
theorem dX7_moves_18 : decode cX7_moves 18 = .ok (.iload_n 3, 1) := by decide +kernel
theorem dX7_moves_19 : decode cX7_moves 19 = .ok (.iadd, 1) := by decide +kernel
theorem dX7_moves_20 : decode cX7_moves 20 = .ok (.dup2, 1) := by decide +kernel
theorem dX7_moves_21 : decode cX7_moves 21 = .ok (.iaload, 1) := by decide +kernel
theorem dX7_moves_22 : decode cX7_moves 22 = .ok (.iload 4, 2) := by decide +kernel
theorem dX7_moves_24 : decode cX7_moves 24 = .ok (.iadd, 1) := by decide +kernel
theorem dX7_moves_25 : decode cX7_moves 25 = .ok (.iastore, 1) := by decide +kernel
theorem dX7_moves_26 : decode cX7_moves 26 = .ok (.return_, 1) := by decide +kernel
theorem dX7_skulls_0 : decode cX7_skulls 0 = .ok (.iload_n 2, 1) := by decide +kernel
theorem dX7_skulls_1 : decode cX7_skulls 1 = .ok (.istore_n 3, 1) := by decide +kernel
theorem dX7_skulls_2 : decode cX7_skulls 2 = .ok (.iconst 0, 1) := by decide +kernel
theorem dX7_skulls_3 : decode cX7_skulls 3 = .ok (.istore 4, 2) := by decide +kernel
theorem dX7_skulls_5 : decode cX7_skulls 5 = .ok (.iload 4, 2) := by decide +kernel
theorem dX7_skulls_7 : decode cX7_skulls 7 = .ok (.iconst 4, 1) := by decide +kernel
theorem dX7_skulls_8 : decode cX7_skulls 8 = .ok (.if_icmp .ge 72, 3) := by decide +kernel
theorem dX7_skulls_11 : decode cX7_skulls 11 = .ok (.aload_n 0, 1) := by decide +kernel
theorem dX7_skulls_12 : decode cX7_skulls 12 = .ok (.getfield 7, 3) := by decide +kernel
theorem dX7_skulls_15 : decode cX7_skulls 15 = .ok (.bipush 16, 2) := by decide +kernel
theorem dX7_skulls_17 : decode cX7_skulls 17 = .ok (.iconst 4, 1) := by decide +kernel
theorem dX7_skulls_18 : decode cX7_skulls 18 = .ok (.iload_n 1, 1) := by decide +kernel
theorem dX7_skulls_19 : decode cX7_skulls 19 = .ok (.imul, 1) := by decide +kernel
theorem dX7_skulls_20 : decode cX7_skulls 20 = .ok (.iadd, 1) := by decide +kernel
theorem dX7_skulls_21 : decode cX7_skulls 21 = .ok (.iload 4, 2) := by decide +kernel
theorem dX7_skulls_23 : decode cX7_skulls 23 = .ok (.iadd, 1) := by decide +kernel
theorem dX7_skulls_24 : decode cX7_skulls 24 = .ok (.iaload, 1) := by decide +kernel
theorem dX7_skulls_25 : decode cX7_skulls 25 = .ok (.iload_n 3, 1) := by decide +kernel
theorem dX7_skulls_26 : decode cX7_skulls 26 = .ok (.if_icmp .ge 20, 3) := by decide +kernel
theorem dX7_skulls_29 : decode cX7_skulls 29 = .ok (.aload_n 0, 1) := by decide +kernel
theorem dX7_skulls_30 : decode cX7_skulls 30 = .ok (.getfield 7, 3) := by decide +kernel
theorem dX7_skulls_33 : decode cX7_skulls 33 = .ok (.bipush 16, 2) := by decide +kernel
theorem dX7_skulls_35 : decode cX7_skulls 35 = .ok (.iconst 4, 1) := by decide +kernel
theorem dX7_skulls_36 : decode cX7_skulls 36 = .ok (.iload_n 1, 1) := by decide +kernel
theorem dX7_skulls_37 : decode cX7_skulls 37 = .ok (.imul, 1) := by decide +kernel
theorem dX7_skulls_38 : decode cX7_skulls 38 = .ok (.iadd, 1) := by decide +kernel
theorem dX7_skulls_39 : decode cX7_skulls 39 = .ok (.iload 4, 2) := by decide +kernel
theorem dX7_skulls_41 : decode cX7_skulls 41 = .ok (.iadd, 1) := by decide +kernel
theorem dX7_skulls_42 : decode cX7_skulls 42 = .ok (.iaload, 1) := by decide +kernel
theorem dX7_skulls_43 : decode cX7_skulls 43 = .ok (.goto 4, 3) := by decide +kernel
theorem dX7_skulls_46 : decode cX7_skulls 46 = .ok (.iload_n 3, 1) := by decide +kernel
theorem dX7_skulls_47 : decode cX7_skulls 47 = .ok (.istore 5, 2) := by decide +kernel
theorem dX7_skulls_49 : decode cX7_skulls 49 = .ok (.aload_n 0, 1) := by decide +kernel
theorem dX7_skulls_50 : decode cX7_skulls 50 = .ok (.bipush 16, 2) := by decide +kernel
theorem dX7_skulls_52 : decode cX7_skulls 52 = .ok (.iconst 4, 1) := by decide +kernel
theorem dX7_skulls_53 : decode cX7_skulls 53 = .ok (.iload_n 1, 1) := by decide +kernel
theorem dX7_skulls_54 : decode cX7_skulls 54 = .ok (.imul, 1) := by decide +kernel
theorem dX7_skulls_55 : decode cX7_skulls 55 = .ok (.iadd, 1) := by decide +kernel
theorem dX7_skulls_56 : decode cX7_skulls 56 = .ok (.bipush 32, 2) := by decide +kernel
theorem dX7_skulls_58 : decode cX7_skulls 58 = .ok (.iconst 4, 1) := by decide +kernel
theorem dX7_skulls_59 : decode cX7_skulls 59 = .ok (.iload_n 1, 1) := by decide +kernel
theorem dX7_skulls_60 : decode cX7_skulls 60 = .ok (.imul, 1) := by decide +kernel
theorem dX7_skulls_61 : decode cX7_skulls 61 = .ok (.iadd, 1) := by decide +kernel
theorem dX7_skulls_62 : decode cX7_skulls 62 = .ok (.iload 4, 2) := by decide +kernel
theorem dX7_skulls_64 : decode cX7_skulls 64 = .ok (.iload 5, 2) := by decide +kernel
theorem dX7_skulls_66 : decode cX7_skulls 66 = .ok (.invokevirtual 37, 3) := by decide +kernel
theorem dX7_skulls_69 : decode cX7_skulls 69 = .ok (.iload_n 3, 1) := by decide +kernel
theorem dX7_skulls_70 : decode cX7_skulls 70 = .ok (.iload 5, 2) := by decide +kernel
theorem dX7_skulls_72 : decode cX7_skulls 72 = .ok (.isub, 1) := by decide +kernel
theorem dX7_skulls_73 : decode cX7_skulls 73 = .ok (.istore_n 3, 1) := by decide +kernel
theorem dX7_skulls_74 : decode cX7_skulls 74 = .ok (.iinc 4 1, 3) := by decide +kernel
theorem dX7_skulls_77 : decode cX7_skulls 77 = .ok (.goto (-72), 3) := by decide +kernel
theorem dX7_skulls_80 : decode cX7_skulls 80 = .ok (.return_, 1) := by decide +kernel
theorem dX7_pours_0 : decode cX7_pours 0 = .ok (.aload_n 0, 1) := by decide +kernel
theorem dX7_pours_1 : decode cX7_pours 1 = .ok (.bipush 16, 2) := by decide +kernel
theorem dX7_pours_3 : decode cX7_pours 3 = .ok (.iconst 4, 1) := by decide +kernel
theorem dX7_pours_4 : decode cX7_pours 4 = .ok (.iload_n 1, 1) := by decide +kernel
theorem dX7_pours_5 : decode cX7_pours 5 = .ok (.imul, 1) := by decide +kernel
theorem dX7_pours_6 : decode cX7_pours 6 = .ok (.iadd, 1) := by decide +kernel
theorem dX7_pours_7 : decode cX7_pours 7 = .ok (.invokevirtual 20, 3) := by decide +kernel
theorem dX7_pours_10 : decode cX7_pours 10 = .ok (.istore_n 3, 1) := by decide +kernel
theorem dX7_pours_11 : decode cX7_pours 11 = .ok (.iload_n 3, 1) := by decide +kernel
theorem dX7_pours_12 : decode cX7_pours 12 = .ok (.iconst 2, 1) := by decide +kernel
theorem dX7_pours_13 : decode cX7_pours 13 = .ok (.if_icmp .ge 7, 3) := by decide +kernel
theorem dX7_pours_16 : decode cX7_pours 16 = .ok (.iload_n 3, 1) := by decide +kernel
theorem dX7_pours_17 : decode cX7_pours 17 = .ok (.goto 4, 3) := by decide +kernel
theorem dX7_pours_20 : decode cX7_pours 20 = .ok (.iconst 2, 1) := by decide +kernel
theorem dX7_pours_21 : decode cX7_pours 21 = .ok (.istore 4, 2) := by decide +kernel
theorem dX7_pours_23 : decode cX7_pours 23 = .ok (.bipush 20, 2) := by decide +kernel
theorem dX7_pours_25 : decode cX7_pours 25 = .ok (.aload_n 0, 1) := by decide +kernel
theorem dX7_pours_26 : decode cX7_pours 26 = .ok (.bipush 32, 2) := by decide +kernel
theorem dX7_pours_28 : decode cX7_pours 28 = .ok (.iconst 4, 1) := by decide +kernel
theorem dX7_pours_29 : decode cX7_pours 29 = .ok (.iload_n 1, 1) := by decide +kernel
theorem dX7_pours_30 : decode cX7_pours 30 = .ok (.imul, 1) := by decide +kernel
theorem dX7_pours_31 : decode cX7_pours 31 = .ok (.iadd, 1) := by decide +kernel
theorem dX7_pours_32 : decode cX7_pours 32 = .ok (.invokevirtual 20, 3) := by decide +kernel
theorem dX7_pours_35 : decode cX7_pours 35 = .ok (.isub, 1) := by decide +kernel
theorem dX7_pours_36 : decode cX7_pours 36 = .ok (.istore 5, 2) := by decide +kernel
theorem dX7_pours_38 : decode cX7_pours 38 = .ok (.iload 5, 2) := by decide +kernel
theorem dX7_pours_40 : decode cX7_pours 40 = .ok (.iload 4, 2) := by decide +kernel
theorem dX7_pours_42 : decode cX7_pours 42 = .ok (.if_icmp .ge 8, 3) := by decide +kernel
theorem dX7_pours_45 : decode cX7_pours 45 = .ok (.iload 5, 2) := by decide +kernel
theorem dX7_pours_47 : decode cX7_pours 47 = .ok (.goto 5, 3) := by decide +kernel
theorem dX7_pours_50 : decode cX7_pours 50 = .ok (.iload 4, 2) := by decide +kernel
theorem dX7_pours_52 : decode cX7_pours 52 = .ok (.istore 4, 2) := by decide +kernel
theorem dX7_pours_54 : decode cX7_pours 54 = .ok (.iload_n 3, 1) := by decide +kernel
theorem dX7_pours_55 : decode cX7_pours 55 = .ok (.iload 4, 2) := by decide +kernel
theorem dX7_pours_57 : decode cX7_pours 57 = .ok (.isub, 1) := by decide +kernel
theorem dX7_pours_58 : decode cX7_pours 58 = .ok (.istore 6, 2) := by decide +kernel
theorem dX7_pours_60 : decode cX7_pours 60 = .ok (.iload_n 2, 1) := by decide +kernel
theorem dX7_pours_61 : decode cX7_pours 61 = .ok (.invokestatic 24, 3) := by decide +kernel
theorem dX7_pours_64 : decode cX7_pours 64 = .ok (.istore 7, 2) := by decide +kernel
theorem dX7_pours_66 : decode cX7_pours 66 = .ok (.aload_n 0, 1) := by decide +kernel
theorem dX7_pours_67 : decode cX7_pours 67 = .ok (.getfield 7, 3) := by decide +kernel
theorem dX7_pours_70 : decode cX7_pours 70 = .ok (.bipush 96, 2) := by decide +kernel
theorem dX7_pours_72 : decode cX7_pours 72 = .ok (.iload_n 1, 1) := by decide +kernel
theorem dX7_pours_73 : decode cX7_pours 73 = .ok (.iadd, 1) := by decide +kernel
theorem dX7_pours_74 : decode cX7_pours 74 = .ok (.iaload, 1) := by decide +kernel
theorem dX7_pours_75 : decode cX7_pours 75 = .ok (.iconst 1, 1) := by decide +kernel
theorem dX7_pours_76 : decode cX7_pours 76 = .ok (.if_icmp .ne 17, 3) := by decide +kernel
theorem dX7_pours_79 : decode cX7_pours 79 = .ok (.iload 7, 2) := by decide +kernel
theorem dX7_pours_81 : decode cX7_pours 81 = .ok (.ifCond .lt 12, 3) := by decide +kernel
theorem dX7_pours_84 : decode cX7_pours 84 = .ok (.iconst 4, 1) := by decide +kernel
theorem dX7_pours_85 : decode cX7_pours 85 = .ok (.iconst 4, 1) := by decide +kernel
theorem dX7_pours_86 : decode cX7_pours 86 = .ok (.iload 7, 2) := by decide +kernel
theorem dX7_pours_88 : decode cX7_pours 88 = .ok (.imul, 1) := by decide +kernel
theorem dX7_pours_89 : decode cX7_pours 89 = .ok (.iadd, 1) := by decide +kernel
theorem dX7_pours_90 : decode cX7_pours 90 = .ok (.goto 73, 3) := by decide +kernel
theorem dX7_pours_93 : decode cX7_pours 93 = .ok (.aload_n 0, 1) := by decide +kernel
theorem dX7_pours_94 : decode cX7_pours 94 = .ok (.getfield 7, 3) := by decide +kernel
theorem dX7_pours_97 : decode cX7_pours 97 = .ok (.bipush 96, 2) := by decide +kernel
theorem dX7_pours_99 : decode cX7_pours 99 = .ok (.iload_n 1, 1) := by decide +kernel
theorem dX7_pours_100 : decode cX7_pours 100 = .ok (.iadd, 1) := by decide +kernel
theorem dX7_pours_101 : decode cX7_pours 101 = .ok (.iaload, 1) := by decide +kernel
theorem dX7_pours_102 : decode cX7_pours 102 = .ok (.iconst 2, 1) := by decide +kernel
theorem dX7_pours_103 : decode cX7_pours 103 = .ok (.if_icmp .ne 13, 3) := by decide +kernel
theorem dX7_pours_106 : decode cX7_pours 106 = .ok (.iload_n 2, 1) := by decide +kernel
theorem dX7_pours_107 : decode cX7_pours 107 = .ok (.iconst 2, 1) := by decide +kernel
theorem dX7_pours_108 : decode cX7_pours 108 = .ok (.if_icmp .ne 8, 3) := by decide +kernel
theorem dX7_pours_111 : decode cX7_pours 111 = .ok (.bipush 52, 2) := by decide +kernel
theorem dX7_pours_113 : decode cX7_pours 113 = .ok (.goto 50, 3) := by decide +kernel
theorem dX7_pours_116 : decode cX7_pours 116 = .ok (.aload_n 0, 1) := by decide +kernel
theorem dX7_pours_117 : decode cX7_pours 117 = .ok (.getfield 7, 3) := by decide +kernel
theorem dX7_pours_120 : decode cX7_pours 120 = .ok (.bipush 96, 2) := by decide +kernel
theorem dX7_pours_122 : decode cX7_pours 122 = .ok (.iload_n 1, 1) := by decide +kernel
theorem dX7_pours_123 : decode cX7_pours 123 = .ok (.iadd, 1) := by decide +kernel
theorem dX7_pours_124 : decode cX7_pours 124 = .ok (.iaload, 1) := by decide +kernel
theorem dX7_pours_125 : decode cX7_pours 125 = .ok (.iconst 2, 1) := by decide +kernel
theorem dX7_pours_126 : decode cX7_pours 126 = .ok (.if_icmp .ne 12, 3) := by decide +kernel
theorem dX7_pours_129 : decode cX7_pours 129 = .ok (.iload_n 2, 1) := by decide +kernel
theorem dX7_pours_130 : decode cX7_pours 130 = .ok (.ifCond .ne 8, 3) := by decide +kernel
theorem dX7_pours_133 : decode cX7_pours 133 = .ok (.bipush 56, 2) := by decide +kernel
theorem dX7_pours_135 : decode cX7_pours 135 = .ok (.goto 28, 3) := by decide +kernel
theorem dX7_pours_138 : decode cX7_pours 138 = .ok (.aload_n 0, 1) := by decide +kernel
theorem dX7_pours_139 : decode cX7_pours 139 = .ok (.getfield 7, 3) := by decide +kernel
theorem dX7_pours_142 : decode cX7_pours 142 = .ok (.bipush 96, 2) := by decide +kernel
theorem dX7_pours_144 : decode cX7_pours 144 = .ok (.iload_n 1, 1) := by decide +kernel
theorem dX7_pours_145 : decode cX7_pours 145 = .ok (.iadd, 1) := by decide +kernel
theorem dX7_pours_146 : decode cX7_pours 146 = .ok (.iaload, 1) := by decide +kernel
theorem dX7_pours_147 : decode cX7_pours 147 = .ok (.iconst 3, 1) := by decide +kernel
theorem dX7_pours_148 : decode cX7_pours 148 = .ok (.if_icmp .ne 14, 3) := by decide +kernel
theorem dX7_pours_151 : decode cX7_pours 151 = .ok (.iload_n 2, 1) := by decide +kernel
theorem dX7_pours_152 : decode cX7_pours 152 = .ok (.bipush 15, 2) := by decide +kernel
theorem dX7_pours_154 : decode cX7_pours 154 = .ok (.if_icmp .ne 8, 3) := by decide +kernel
theorem dX7_pours_157 : decode cX7_pours 157 = .ok (.bipush 48, 2) := by decide +kernel
theorem dX7_pours_159 : decode cX7_pours 159 = .ok (.goto 4, 3) := by decide +kernel
theorem dX7_pours_162 : decode cX7_pours 162 = .ok (.iconst (-1), 1) := by decide +kernel
theorem dX7_pours_163 : decode cX7_pours 163 = .ok (.istore 8, 2) := by decide +kernel
theorem dX7_pours_165 : decode cX7_pours 165 = .ok (.iload 8, 2) := by decide +kernel
theorem dX7_pours_167 : decode cX7_pours 167 = .ok (.ifCond .lt 23, 3) := by decide +kernel
theorem dX7_pours_170 : decode cX7_pours 170 = .ok (.iload 7, 2) := by decide +kernel
theorem dX7_pours_172 : decode cX7_pours 172 = .ok (.ifCond .lt 20, 3) := by decide +kernel
theorem dX7_pours_175 : decode cX7_pours 175 = .ok (.aload_n 0, 1) := by decide +kernel
theorem dX7_pours_176 : decode cX7_pours 176 = .ok (.iload 8, 2) := by decide +kernel
theorem dX7_pours_178 : decode cX7_pours 178 = .ok (.invokevirtual 20, 3) := by decide +kernel
theorem dX7_pours_181 : decode cX7_pours 181 = .ok (.iload 6, 2) := by decide +kernel
theorem dX7_pours_183 : decode cX7_pours 183 = .ok (.iadd, 1) := by decide +kernel
theorem dX7_pours_184 : decode cX7_pours 184 = .ok (.sipush 300, 3) := by decide +kernel
theorem dX7_pours_187 : decode cX7_pours 187 = .ok (.if_icmp .le 5, 3) := by decide +kernel
theorem dX7_pours_190 : decode cX7_pours 190 = .ok (.iconst 0, 1) := by decide +kernel
theorem dX7_pours_191 : decode cX7_pours 191 = .ok (.ireturn, 1) := by decide +kernel
theorem dX7_pours_192 : decode cX7_pours 192 = .ok (.iload 7, 2) := by decide +kernel
theorem dX7_pours_194 : decode cX7_pours 194 = .ok (.ifCond .lt 52, 3) := by decide +kernel
theorem dX7_pours_197 : decode cX7_pours 197 = .ok (.iload 6, 2) := by decide +kernel
theorem dX7_pours_199 : decode cX7_pours 199 = .ok (.ifCond .le 47, 3) := by decide +kernel
theorem dX7_pours_202 : decode cX7_pours 202 = .ok (.aload_n 0, 1) := by decide +kernel
theorem dX7_pours_203 : decode cX7_pours 203 = .ok (.getfield 7, 3) := by decide +kernel
theorem dX7_pours_206 : decode cX7_pours 206 = .ok (.bipush 76, 2) := by decide +kernel
theorem dX7_pours_208 : decode cX7_pours 208 = .ok (.iload 7, 2) := by decide +kernel
theorem dX7_pours_210 : decode cX7_pours 210 = .ok (.iadd, 1) := by decide +kernel
theorem dX7_pours_211 : decode cX7_pours 211 = .ok (.aload_n 0, 1) := by decide +kernel
theorem dX7_pours_212 : decode cX7_pours 212 = .ok (.getfield 7, 3) := by decide +kernel
theorem dX7_pours_215 : decode cX7_pours 215 = .ok (.bipush 76, 2) := by decide +kernel
theorem dX7_pours_217 : decode cX7_pours 217 = .ok (.iload 7, 2) := by decide +kernel
theorem dX7_pours_219 : decode cX7_pours 219 = .ok (.iadd, 1) := by decide +kernel
theorem dX7_pours_220 : decode cX7_pours 220 = .ok (.iaload, 1) := by decide +kernel
theorem dX7_pours_221 : decode cX7_pours 221 = .ok (.aload_n 0, 1) := by decide +kernel
theorem dX7_pours_222 : decode cX7_pours 222 = .ok (.iload 8, 2) := by decide +kernel
theorem dX7_pours_224 : decode cX7_pours 224 = .ok (.invokevirtual 20, 3) := by decide +kernel
theorem dX7_pours_227 : decode cX7_pours 227 = .ok (.imul, 1) := by decide +kernel
theorem dX7_pours_228 : decode cX7_pours 228 = .ok (.sipush 1150, 3) := by decide +kernel
theorem dX7_pours_231 : decode cX7_pours 231 = .ok (.iload 6, 2) := by decide +kernel
theorem dX7_pours_233 : decode cX7_pours 233 = .ok (.imul, 1) := by decide +kernel
theorem dX7_pours_234 : decode cX7_pours 234 = .ok (.iadd, 1) := by decide +kernel
theorem dX7_pours_235 : decode cX7_pours 235 = .ok (.aload_n 0, 1) := by decide +kernel
theorem dX7_pours_236 : decode cX7_pours 236 = .ok (.iload 8, 2) := by decide +kernel
theorem dX7_pours_238 : decode cX7_pours 238 = .ok (.invokevirtual 20, 3) := by decide +kernel
theorem dX7_pours_241 : decode cX7_pours 241 = .ok (.iload 6, 2) := by decide +kernel
theorem dX7_pours_243 : decode cX7_pours 243 = .ok (.iadd, 1) := by decide +kernel
theorem dX7_pours_244 : decode cX7_pours 244 = .ok (.idiv, 1) := by decide +kernel
theorem dX7_pours_245 : decode cX7_pours 245 = .ok (.iastore, 1) := by decide +kernel
theorem dX7_pours_246 : decode cX7_pours 246 = .ok (.aload_n 0, 1) := by decide +kernel
theorem dX7_pours_247 : decode cX7_pours 247 = .ok (.iload_n 1, 1) := by decide +kernel
theorem dX7_pours_248 : decode cX7_pours 248 = .ok (.iload 4, 2) := by decide +kernel
theorem dX7_pours_250 : decode cX7_pours 250 = .ok (.invokevirtual 41, 3) := by decide +kernel
theorem dX7_pours_253 : decode cX7_pours 253 = .ok (.iconst 0, 1) := by decide +kernel
theorem dX7_pours_254 : decode cX7_pours 254 = .ok (.istore 9, 2) := by decide +kernel
theorem dX7_pours_256 : decode cX7_pours 256 = .ok (.iload 9, 2) := by decide +kernel
theorem dX7_pours_258 : decode cX7_pours 258 = .ok (.iconst 4, 1) := by decide +kernel
theorem dX7_pours_259 : decode cX7_pours 259 = .ok (.if_icmp .ge 37, 3) := by decide +kernel
theorem dX7_pours_262 : decode cX7_pours 262 = .ok (.aload_n 0, 1) := by decide +kernel
theorem dX7_pours_263 : decode cX7_pours 263 = .ok (.bipush 16, 2) := by decide +kernel
theorem dX7_pours_265 : decode cX7_pours 265 = .ok (.iconst 4, 1) := by decide +kernel
theorem dX7_pours_266 : decode cX7_pours 266 = .ok (.iload_n 1, 1) := by decide +kernel
theorem dX7_pours_267 : decode cX7_pours 267 = .ok (.imul, 1) := by decide +kernel
theorem dX7_pours_268 : decode cX7_pours 268 = .ok (.iadd, 1) := by decide +kernel
theorem dX7_pours_269 : decode cX7_pours 269 = .ok (.iload 8, 2) := by decide +kernel
theorem dX7_pours_271 : decode cX7_pours 271 = .ok (.iload 9, 2) := by decide +kernel
theorem dX7_pours_273 : decode cX7_pours 273 = .ok (.aload_n 0, 1) := by decide +kernel
theorem dX7_pours_274 : decode cX7_pours 274 = .ok (.getfield 7, 3) := by decide +kernel
theorem dX7_pours_277 : decode cX7_pours 277 = .ok (.bipush 16, 2) := by decide +kernel
theorem dX7_pours_279 : decode cX7_pours 279 = .ok (.iconst 4, 1) := by decide +kernel
theorem dX7_pours_280 : decode cX7_pours 280 = .ok (.iload_n 1, 1) := by decide +kernel
theorem dX7_pours_281 : decode cX7_pours 281 = .ok (.imul, 1) := by decide +kernel
theorem dX7_pours_282 : decode cX7_pours 282 = .ok (.iadd, 1) := by decide +kernel
theorem dX7_pours_283 : decode cX7_pours 283 = .ok (.iload 9, 2) := by decide +kernel
theorem dX7_pours_285 : decode cX7_pours 285 = .ok (.iadd, 1) := by decide +kernel
theorem dX7_pours_286 : decode cX7_pours 286 = .ok (.iaload, 1) := by decide +kernel
theorem dX7_pours_287 : decode cX7_pours 287 = .ok (.invokevirtual 37, 3) := by decide +kernel
theorem dX7_pours_290 : decode cX7_pours 290 = .ok (.iinc 9 1, 3) := by decide +kernel
theorem dX7_pours_293 : decode cX7_pours 293 = .ok (.goto (-37), 3) := by decide +kernel
theorem dX7_pours_296 : decode cX7_pours 296 = .ok (.aload_n 0, 1) := by decide +kernel
theorem dX7_pours_297 : decode cX7_pours 297 = .ok (.getfield 7, 3) := by decide +kernel
theorem dX7_pours_300 : decode cX7_pours 300 = .ok (.bipush 96, 2) := by decide +kernel
theorem dX7_pours_302 : decode cX7_pours 302 = .ok (.iload_n 1, 1) := by decide +kernel
theorem dX7_pours_303 : decode cX7_pours 303 = .ok (.iadd, 1) := by decide +kernel
theorem dX7_pours_304 : decode cX7_pours 304 = .ok (.iconst 0, 1) := by decide +kernel
theorem dX7_pours_305 : decode cX7_pours 305 = .ok (.iastore, 1) := by decide +kernel
theorem dX7_pours_306 : decode cX7_pours 306 = .ok (.iconst 1, 1) := by decide +kernel
theorem dX7_pours_307 : decode cX7_pours 307 = .ok (.ireturn, 1) := by decide +kernel
theorem dX7_skims_0 : decode cX7_skims 0 = .ok (.iload_n 2, 1) := by decide +kernel
theorem dX7_skims_1 : decode cX7_skims 1 = .ok (.invokestatic 24, 3) := by decide +kernel
theorem dX7_skims_4 : decode cX7_skims 4 = .ok (.istore_n 3, 1) := by decide +kernel
theorem dX7_skims_5 : decode cX7_skims 5 = .ok (.iload_n 3, 1) := by decide +kernel
theorem dX7_skims_6 : decode cX7_skims 6 = .ok (.ifCond .lt 28, 3) := by decide +kernel
theorem dX7_skims_9 : decode cX7_skims 9 = .ok (.aload_n 0, 1) := by decide +kernel
theorem dX7_skims_10 : decode cX7_skims 10 = .ok (.getfield 7, 3) := by decide +kernel
theorem dX7_skims_13 : decode cX7_skims 13 = .ok (.bipush 96, 2) := by decide +kernel
theorem dX7_skims_15 : decode cX7_skims 15 = .ok (.iload_n 1, 1) := by decide +kernel
theorem dX7_skims_16 : decode cX7_skims 16 = .ok (.iadd, 1) := by decide +kernel
theorem dX7_skims_17 : decode cX7_skims 17 = .ok (.iaload, 1) := by decide +kernel
theorem dX7_skims_18 : decode cX7_skims 18 = .ok (.ifCond .eq 18, 3) := by decide +kernel
theorem dX7_skims_21 : decode cX7_skims 21 = .ok (.aload_n 0, 1) := by decide +kernel
theorem dX7_skims_22 : decode cX7_skims 22 = .ok (.getfield 7, 3) := by decide +kernel
theorem dX7_skims_25 : decode cX7_skims 25 = .ok (.bipush 96, 2) := by decide +kernel
theorem dX7_skims_27 : decode cX7_skims 27 = .ok (.iload_n 1, 1) := by decide +kernel
theorem dX7_skims_28 : decode cX7_skims 28 = .ok (.iadd, 1) := by decide +kernel
theorem dX7_skims_29 : decode cX7_skims 29 = .ok (.iaload, 1) := by decide +kernel
theorem dX7_skims_30 : decode cX7_skims 30 = .ok (.iconst 2, 1) := by decide +kernel
theorem dX7_skims_31 : decode cX7_skims 31 = .ok (.if_icmp .eq 5, 3) := by decide +kernel
theorem dX7_skims_34 : decode cX7_skims 34 = .ok (.iconst 0, 1) := by decide +kernel
theorem dX7_skims_35 : decode cX7_skims 35 = .ok (.ireturn, 1) := by decide +kernel
theorem dX7_skims_36 : decode cX7_skims 36 = .ok (.aload_n 0, 1) := by decide +kernel
theorem dX7_skims_37 : decode cX7_skims 37 = .ok (.getfield 7, 3) := by decide +kernel
theorem dX7_skims_40 : decode cX7_skims 40 = .ok (.iconst 4, 1) := by decide +kernel
theorem dX7_skims_41 : decode cX7_skims 41 = .ok (.iconst 4, 1) := by decide +kernel
theorem dX7_skims_42 : decode cX7_skims 42 = .ok (.iload_n 3, 1) := by decide +kernel
theorem dX7_skims_43 : decode cX7_skims 43 = .ok (.imul, 1) := by decide +kernel
theorem dX7_skims_44 : decode cX7_skims 44 = .ok (.iadd, 1) := by decide +kernel
theorem dX7_skims_45 : decode cX7_skims 45 = .ok (.iconst 3, 1) := by decide +kernel
theorem dX7_skims_46 : decode cX7_skims 46 = .ok (.iadd, 1) := by decide +kernel
theorem dX7_skims_47 : decode cX7_skims 47 = .ok (.iaload, 1) := by decide +kernel
theorem dX7_skims_48 : decode cX7_skims 48 = .ok (.aload_n 0, 1) := by decide +kernel
theorem dX7_skims_49 : decode cX7_skims 49 = .ok (.iload_n 1, 1) := by decide +kernel
theorem dX7_skims_50 : decode cX7_skims 50 = .ok (.invokevirtual 34, 3) := by decide +kernel
theorem dX7_skims_53 : decode cX7_skims 53 = .ok (.if_icmp .ge 18, 3) := by decide +kernel
theorem dX7_skims_56 : decode cX7_skims 56 = .ok (.aload_n 0, 1) := by decide +kernel
theorem dX7_skims_57 : decode cX7_skims 57 = .ok (.getfield 7, 3) := by decide +kernel
theorem dX7_skims_60 : decode cX7_skims 60 = .ok (.iconst 4, 1) := by decide +kernel
theorem dX7_skims_61 : decode cX7_skims 61 = .ok (.iconst 4, 1) := by decide +kernel
theorem dX7_skims_62 : decode cX7_skims 62 = .ok (.iload_n 3, 1) := by decide +kernel
theorem dX7_skims_63 : decode cX7_skims 63 = .ok (.imul, 1) := by decide +kernel
theorem dX7_skims_64 : decode cX7_skims 64 = .ok (.iadd, 1) := by decide +kernel
theorem dX7_skims_65 : decode cX7_skims 65 = .ok (.iconst 3, 1) := by decide +kernel
theorem dX7_skims_66 : decode cX7_skims 66 = .ok (.iadd, 1) := by decide +kernel
theorem dX7_skims_67 : decode cX7_skims 67 = .ok (.iaload, 1) := by decide +kernel
theorem dX7_skims_68 : decode cX7_skims 68 = .ok (.goto 8, 3) := by decide +kernel
theorem dX7_skims_71 : decode cX7_skims 71 = .ok (.aload_n 0, 1) := by decide +kernel
theorem dX7_skims_72 : decode cX7_skims 72 = .ok (.iload_n 1, 1) := by decide +kernel
theorem dX7_skims_73 : decode cX7_skims 73 = .ok (.invokevirtual 34, 3) := by decide +kernel
theorem dX7_skims_76 : decode cX7_skims 76 = .ok (.istore 4, 2) := by decide +kernel
theorem dX7_skims_78 : decode cX7_skims 78 = .ok (.iload 4, 2) := by decide +kernel
theorem dX7_skims_80 : decode cX7_skims 80 = .ok (.ifCond .ne 5, 3) := by decide +kernel
theorem dX7_skims_83 : decode cX7_skims 83 = .ok (.iconst 0, 1) := by decide +kernel
theorem dX7_skims_84 : decode cX7_skims 84 = .ok (.ireturn, 1) := by decide +kernel
theorem dX7_skims_85 : decode cX7_skims 85 = .ok (.aload_n 0, 1) := by decide +kernel
theorem dX7_skims_86 : decode cX7_skims 86 = .ok (.iconst 4, 1) := by decide +kernel
theorem dX7_skims_87 : decode cX7_skims 87 = .ok (.iconst 4, 1) := by decide +kernel
theorem dX7_skims_88 : decode cX7_skims 88 = .ok (.iload_n 3, 1) := by decide +kernel
theorem dX7_skims_89 : decode cX7_skims 89 = .ok (.imul, 1) := by decide +kernel
theorem dX7_skims_90 : decode cX7_skims 90 = .ok (.iadd, 1) := by decide +kernel
theorem dX7_skims_91 : decode cX7_skims 91 = .ok (.bipush 16, 2) := by decide +kernel
theorem dX7_skims_93 : decode cX7_skims 93 = .ok (.iconst 4, 1) := by decide +kernel
theorem dX7_skims_94 : decode cX7_skims 94 = .ok (.iload_n 1, 1) := by decide +kernel
theorem dX7_skims_95 : decode cX7_skims 95 = .ok (.imul, 1) := by decide +kernel
theorem dX7_skims_96 : decode cX7_skims 96 = .ok (.iadd, 1) := by decide +kernel
theorem dX7_skims_97 : decode cX7_skims 97 = .ok (.iconst 3, 1) := by decide +kernel
theorem dX7_skims_98 : decode cX7_skims 98 = .ok (.iload 4, 2) := by decide +kernel
theorem dX7_skims_100 : decode cX7_skims 100 = .ok (.invokevirtual 37, 3) := by decide +kernel
theorem dX7_skims_103 : decode cX7_skims 103 = .ok (.aload_n 0, 1) := by decide +kernel
theorem dX7_skims_104 : decode cX7_skims 104 = .ok (.getfield 7, 3) := by decide +kernel
theorem dX7_skims_107 : decode cX7_skims 107 = .ok (.bipush 96, 2) := by decide +kernel
theorem dX7_skims_109 : decode cX7_skims 109 = .ok (.iload_n 1, 1) := by decide +kernel
theorem dX7_skims_110 : decode cX7_skims 110 = .ok (.iadd, 1) := by decide +kernel
theorem dX7_skims_111 : decode cX7_skims 111 = .ok (.iconst 2, 1) := by decide +kernel
theorem dX7_skims_112 : decode cX7_skims 112 = .ok (.iastore, 1) := by decide +kernel
theorem dX7_skims_113 : decode cX7_skims 113 = .ok (.iconst 1, 1) := by decide +kernel
theorem dX7_skims_114 : decode cX7_skims 114 = .ok (.ireturn, 1) := by decide +kernel
theorem dX7_draws_0 : decode cX7_draws 0 = .ok (.iload_n 2, 1) := by decide +kernel
theorem dX7_draws_1 : decode cX7_draws 1 = .ok (.invokestatic 24, 3) := by decide +kernel
theorem dX7_draws_4 : decode cX7_draws 4 = .ok (.istore_n 3, 1) := by decide +kernel
theorem dX7_draws_5 : decode cX7_draws 5 = .ok (.iload_n 3, 1) := by decide +kernel
theorem dX7_draws_6 : decode cX7_draws 6 = .ok (.ifCond .lt 28, 3) := by decide +kernel
theorem dX7_draws_9 : decode cX7_draws 9 = .ok (.aload_n 0, 1) := by decide +kernel
theorem dX7_draws_10 : decode cX7_draws 10 = .ok (.getfield 7, 3) := by decide +kernel
theorem dX7_draws_13 : decode cX7_draws 13 = .ok (.bipush 96, 2) := by decide +kernel
theorem dX7_draws_15 : decode cX7_draws 15 = .ok (.iload_n 1, 1) := by decide +kernel
theorem dX7_draws_16 : decode cX7_draws 16 = .ok (.iadd, 1) := by decide +kernel
theorem dX7_draws_17 : decode cX7_draws 17 = .ok (.iaload, 1) := by decide +kernel
theorem dX7_draws_18 : decode cX7_draws 18 = .ok (.ifCond .ne 16, 3) := by decide +kernel
theorem dX7_draws_21 : decode cX7_draws 21 = .ok (.aload_n 0, 1) := by decide +kernel
theorem dX7_draws_22 : decode cX7_draws 22 = .ok (.getfield 7, 3) := by decide +kernel
theorem dX7_draws_25 : decode cX7_draws 25 = .ok (.bipush 79, 2) := by decide +kernel
theorem dX7_draws_27 : decode cX7_draws 27 = .ok (.iload_n 3, 1) := by decide +kernel
theorem dX7_draws_28 : decode cX7_draws 28 = .ok (.iadd, 1) := by decide +kernel
theorem dX7_draws_29 : decode cX7_draws 29 = .ok (.iaload, 1) := by decide +kernel
theorem dX7_draws_30 : decode cX7_draws 30 = .ok (.iconst 1, 1) := by decide +kernel
theorem dX7_draws_31 : decode cX7_draws 31 = .ok (.if_icmp .ne 5, 3) := by decide +kernel
theorem dX7_draws_34 : decode cX7_draws 34 = .ok (.iconst 0, 1) := by decide +kernel
theorem dX7_draws_35 : decode cX7_draws 35 = .ok (.ireturn, 1) := by decide +kernel
theorem dX7_draws_36 : decode cX7_draws 36 = .ok (.aload_n 0, 1) := by decide +kernel
theorem dX7_draws_37 : decode cX7_draws 37 = .ok (.getfield 7, 3) := by decide +kernel
theorem dX7_draws_40 : decode cX7_draws 40 = .ok (.iconst 4, 1) := by decide +kernel
theorem dX7_draws_41 : decode cX7_draws 41 = .ok (.iconst 4, 1) := by decide +kernel
theorem dX7_draws_42 : decode cX7_draws 42 = .ok (.iload_n 3, 1) := by decide +kernel
theorem dX7_draws_43 : decode cX7_draws 43 = .ok (.imul, 1) := by decide +kernel
theorem dX7_draws_44 : decode cX7_draws 44 = .ok (.iadd, 1) := by decide +kernel
theorem dX7_draws_45 : decode cX7_draws 45 = .ok (.iaload, 1) := by decide +kernel
theorem dX7_draws_46 : decode cX7_draws 46 = .ok (.istore 4, 2) := by decide +kernel
theorem dX7_draws_48 : decode cX7_draws 48 = .ok (.iload 4, 2) := by decide +kernel
theorem dX7_draws_50 : decode cX7_draws 50 = .ok (.ifCond .eq 17, 3) := by decide +kernel
theorem dX7_draws_53 : decode cX7_draws 53 = .ok (.iload 4, 2) := by decide +kernel
theorem dX7_draws_55 : decode cX7_draws 55 = .ok (.aload_n 0, 1) := by decide +kernel
theorem dX7_draws_56 : decode cX7_draws 56 = .ok (.iconst 4, 1) := by decide +kernel
theorem dX7_draws_57 : decode cX7_draws 57 = .ok (.iconst 4, 1) := by decide +kernel
theorem dX7_draws_58 : decode cX7_draws 58 = .ok (.iload_n 3, 1) := by decide +kernel
theorem dX7_draws_59 : decode cX7_draws 59 = .ok (.imul, 1) := by decide +kernel
theorem dX7_draws_60 : decode cX7_draws 60 = .ok (.iadd, 1) := by decide +kernel
theorem dX7_draws_61 : decode cX7_draws 61 = .ok (.invokevirtual 20, 3) := by decide +kernel
theorem dX7_draws_64 : decode cX7_draws 64 = .ok (.if_icmp .eq 5, 3) := by decide +kernel
theorem dX7_draws_67 : decode cX7_draws 67 = .ok (.iconst 0, 1) := by decide +kernel
theorem dX7_draws_68 : decode cX7_draws 68 = .ok (.ireturn, 1) := by decide +kernel
theorem dX7_draws_69 : decode cX7_draws 69 = .ok (.aload_n 0, 1) := by decide +kernel
theorem dX7_draws_70 : decode cX7_draws 70 = .ok (.iconst 4, 1) := by decide +kernel
theorem dX7_draws_71 : decode cX7_draws 71 = .ok (.iconst 4, 1) := by decide +kernel
theorem dX7_draws_72 : decode cX7_draws 72 = .ok (.iload_n 3, 1) := by decide +kernel
theorem dX7_draws_73 : decode cX7_draws 73 = .ok (.imul, 1) := by decide +kernel
theorem dX7_draws_74 : decode cX7_draws 74 = .ok (.iadd, 1) := by decide +kernel
theorem dX7_draws_75 : decode cX7_draws 75 = .ok (.bipush 16, 2) := by decide +kernel
theorem dX7_draws_77 : decode cX7_draws 77 = .ok (.iconst 4, 1) := by decide +kernel
theorem dX7_draws_78 : decode cX7_draws 78 = .ok (.iload_n 1, 1) := by decide +kernel
theorem dX7_draws_79 : decode cX7_draws 79 = .ok (.imul, 1) := by decide +kernel
theorem dX7_draws_80 : decode cX7_draws 80 = .ok (.iadd, 1) := by decide +kernel
theorem dX7_draws_81 : decode cX7_draws 81 = .ok (.iconst 0, 1) := by decide +kernel
theorem dX7_draws_82 : decode cX7_draws 82 = .ok (.iload 4, 2) := by decide +kernel
theorem dX7_draws_84 : decode cX7_draws 84 = .ok (.aload_n 0, 1) := by decide +kernel
theorem dX7_draws_85 : decode cX7_draws 85 = .ok (.iload_n 1, 1) := by decide +kernel
theorem dX7_draws_86 : decode cX7_draws 86 = .ok (.invokevirtual 34, 3) := by decide +kernel
theorem dX7_draws_89 : decode cX7_draws 89 = .ok (.if_icmp .ge 8, 3) := by decide +kernel
theorem dX7_draws_92 : decode cX7_draws 92 = .ok (.iload 4, 2) := by decide +kernel
theorem dX7_draws_94 : decode cX7_draws 94 = .ok (.goto 8, 3) := by decide +kernel
theorem dX7_draws_97 : decode cX7_draws 97 = .ok (.aload_n 0, 1) := by decide +kernel
theorem dX7_draws_98 : decode cX7_draws 98 = .ok (.iload_n 1, 1) := by decide +kernel
theorem dX7_draws_99 : decode cX7_draws 99 = .ok (.invokevirtual 34, 3) := by decide +kernel
theorem dX7_draws_102 : decode cX7_draws 102 = .ok (.invokevirtual 37, 3) := by decide +kernel
theorem dX7_draws_105 : decode cX7_draws 105 = .ok (.aload_n 0, 1) := by decide +kernel
theorem dX7_draws_106 : decode cX7_draws 106 = .ok (.getfield 7, 3) := by decide +kernel
theorem dX7_draws_109 : decode cX7_draws 109 = .ok (.bipush 96, 2) := by decide +kernel
theorem dX7_draws_111 : decode cX7_draws 111 = .ok (.iload_n 1, 1) := by decide +kernel
theorem dX7_draws_112 : decode cX7_draws 112 = .ok (.iadd, 1) := by decide +kernel
theorem dX7_draws_113 : decode cX7_draws 113 = .ok (.iconst 3, 1) := by decide +kernel
theorem dX7_draws_114 : decode cX7_draws 114 = .ok (.iastore, 1) := by decide +kernel
theorem dX7_draws_115 : decode cX7_draws 115 = .ok (.iconst 1, 1) := by decide +kernel
theorem dX7_draws_116 : decode cX7_draws 116 = .ok (.ireturn, 1) := by decide +kernel
theorem dX7_cleans_0 : decode cX7_cleans 0 = .ok (.iload_n 2, 1) := by decide +kernel
theorem dX7_cleans_1 : decode cX7_cleans 1 = .ok (.iconst 1, 1) := by decide +kernel
theorem dX7_cleans_2 : decode cX7_cleans 2 = .ok (.if_icmp .eq 9, 3) := by decide +kernel
theorem dX7_cleans_5 : decode cX7_cleans 5 = .ok (.iload_n 2, 1) := by decide +kernel
theorem dX7_cleans_6 : decode cX7_cleans 6 = .ok (.bipush 14, 2) := by decide +kernel
theorem dX7_cleans_8 : decode cX7_cleans 8 = .ok (.if_icmp .ne 28, 3) := by decide +kernel
theorem dX7_cleans_11 : decode cX7_cleans 11 = .ok (.aload_n 0, 1) := by decide +kernel
theorem dX7_cleans_12 : decode cX7_cleans 12 = .ok (.getfield 7, 3) := by decide +kernel
theorem dX7_cleans_15 : decode cX7_cleans 15 = .ok (.bipush 96, 2) := by decide +kernel
theorem dX7_cleans_17 : decode cX7_cleans 17 = .ok (.iload_n 1, 1) := by decide +kernel
theorem dX7_cleans_18 : decode cX7_cleans 18 = .ok (.iadd, 1) := by decide +kernel
theorem dX7_cleans_19 : decode cX7_cleans 19 = .ok (.iaload, 1) := by decide +kernel
theorem dX7_cleans_20 : decode cX7_cleans 20 = .ok (.ifCond .ne 16, 3) := by decide +kernel
theorem dX7_cleans_23 : decode cX7_cleans 23 = .ok (.aload_n 0, 1) := by decide +kernel
theorem dX7_cleans_24 : decode cX7_cleans 24 = .ok (.bipush 32, 2) := by decide +kernel
theorem dX7_cleans_26 : decode cX7_cleans 26 = .ok (.iconst 4, 1) := by decide +kernel
theorem dX7_cleans_27 : decode cX7_cleans 27 = .ok (.iload_n 1, 1) := by decide +kernel
theorem dX7_cleans_28 : decode cX7_cleans 28 = .ok (.imul, 1) := by decide +kernel
theorem dX7_cleans_29 : decode cX7_cleans 29 = .ok (.iadd, 1) := by decide +kernel
theorem dX7_cleans_30 : decode cX7_cleans 30 = .ok (.invokevirtual 20, 3) := by decide +kernel
theorem dX7_cleans_33 : decode cX7_cleans 33 = .ok (.ifCond .ne 5, 3) := by decide +kernel
theorem dX7_cleans_36 : decode cX7_cleans 36 = .ok (.iconst 0, 1) := by decide +kernel
theorem dX7_cleans_37 : decode cX7_cleans 37 = .ok (.ireturn, 1) := by decide +kernel
theorem dX7_cleans_38 : decode cX7_cleans 38 = .ok (.iconst 0, 1) := by decide +kernel
theorem dX7_cleans_39 : decode cX7_cleans 39 = .ok (.istore_n 3, 1) := by decide +kernel
theorem dX7_cleans_40 : decode cX7_cleans 40 = .ok (.iload_n 3, 1) := by decide +kernel
theorem dX7_cleans_41 : decode cX7_cleans 41 = .ok (.iconst 4, 1) := by decide +kernel
theorem dX7_cleans_42 : decode cX7_cleans 42 = .ok (.if_icmp .ge 35, 3) := by decide +kernel
theorem dX7_cleans_45 : decode cX7_cleans 45 = .ok (.aload_n 0, 1) := by decide +kernel
theorem dX7_cleans_46 : decode cX7_cleans 46 = .ok (.bipush 32, 2) := by decide +kernel
theorem dX7_cleans_48 : decode cX7_cleans 48 = .ok (.iconst 4, 1) := by decide +kernel
theorem dX7_cleans_49 : decode cX7_cleans 49 = .ok (.iload_n 1, 1) := by decide +kernel
theorem dX7_cleans_50 : decode cX7_cleans 50 = .ok (.imul, 1) := by decide +kernel
theorem dX7_cleans_51 : decode cX7_cleans 51 = .ok (.iadd, 1) := by decide +kernel
theorem dX7_cleans_52 : decode cX7_cleans 52 = .ok (.bipush 60, 2) := by decide +kernel
theorem dX7_cleans_54 : decode cX7_cleans 54 = .ok (.iload_n 3, 1) := by decide +kernel
theorem dX7_cleans_55 : decode cX7_cleans 55 = .ok (.aload_n 0, 1) := by decide +kernel
theorem dX7_cleans_56 : decode cX7_cleans 56 = .ok (.getfield 7, 3) := by decide +kernel
theorem dX7_cleans_59 : decode cX7_cleans 59 = .ok (.bipush 32, 2) := by decide +kernel
theorem dX7_cleans_61 : decode cX7_cleans 61 = .ok (.iconst 4, 1) := by decide +kernel
theorem dX7_cleans_62 : decode cX7_cleans 62 = .ok (.iload_n 1, 1) := by decide +kernel
theorem dX7_cleans_63 : decode cX7_cleans 63 = .ok (.imul, 1) := by decide +kernel
theorem dX7_cleans_64 : decode cX7_cleans 64 = .ok (.iadd, 1) := by decide +kernel
theorem dX7_cleans_65 : decode cX7_cleans 65 = .ok (.iload_n 3, 1) := by decide +kernel
theorem dX7_cleans_66 : decode cX7_cleans 66 = .ok (.iadd, 1) := by decide +kernel
theorem dX7_cleans_67 : decode cX7_cleans 67 = .ok (.iaload, 1) := by decide +kernel
theorem dX7_cleans_68 : decode cX7_cleans 68 = .ok (.invokevirtual 37, 3) := by decide +kernel
theorem dX7_cleans_71 : decode cX7_cleans 71 = .ok (.iinc 3 1, 3) := by decide +kernel
theorem dX7_cleans_74 : decode cX7_cleans 74 = .ok (.goto (-34), 3) := by decide +kernel
theorem dX7_cleans_77 : decode cX7_cleans 77 = .ok (.iconst 1, 1) := by decide +kernel
theorem dX7_cleans_78 : decode cX7_cleans 78 = .ok (.ireturn, 1) := by decide +kernel
theorem dX7_does_0 : decode cX7_does 0 = .ok (.aload_n 0, 1) := by decide +kernel
theorem dX7_does_1 : decode cX7_does 1 = .ok (.getfield 7, 3) := by decide +kernel
theorem dX7_does_4 : decode cX7_does 4 = .ok (.bipush 100, 2) := by decide +kernel
theorem dX7_does_6 : decode cX7_does 6 = .ok (.iload_n 1, 1) := by decide +kernel
theorem dX7_does_7 : decode cX7_does 7 = .ok (.iadd, 1) := by decide +kernel
theorem dX7_does_8 : decode cX7_does 8 = .ok (.iaload, 1) := by decide +kernel
theorem dX7_does_9 : decode cX7_does 9 = .ok (.istore_n 3, 1) := by decide +kernel
theorem dX7_does_10 : decode cX7_does 10 = .ok (.aload_n 0, 1) := by decide +kernel
theorem dX7_does_11 : decode cX7_does 11 = .ok (.getfield 7, 3) := by decide +kernel
theorem dX7_does_14 : decode cX7_does 14 = .ok (.bipush 102, 2) := by decide +kernel
theorem dX7_does_16 : decode cX7_does 16 = .ok (.iload_n 1, 1) := by decide +kernel
theorem dX7_does_17 : decode cX7_does 17 = .ok (.iadd, 1) := by decide +kernel
theorem dX7_does_18 : decode cX7_does 18 = .ok (.iaload, 1) := by decide +kernel
theorem dX7_does_19 : decode cX7_does 19 = .ok (.istore 4, 2) := by decide +kernel
theorem dX7_does_21 : decode cX7_does 21 = .ok (.iload_n 2, 1) := by decide +kernel
theorem dX7_does_22 : decode cX7_does 22 = .ok (.iconst 1, 1) := by decide +kernel
theorem dX7_does_23 : decode cX7_does 23 = .ok (.if_icmp .ne 10, 3) := by decide +kernel
theorem dX7_does_26 : decode cX7_does 26 = .ok (.aload_n 0, 1) := by decide +kernel
theorem dX7_does_27 : decode cX7_does 27 = .ok (.iload_n 1, 1) := by decide +kernel
theorem dX7_does_28 : decode cX7_does 28 = .ok (.iload_n 3, 1) := by decide +kernel
theorem dX7_does_29 : decode cX7_does 29 = .ok (.invokevirtual 45, 3) := by decide +kernel
theorem dX7_does_32 : decode cX7_does 32 = .ok (.ireturn, 1) := by decide +kernel
theorem dX7_does_33 : decode cX7_does 33 = .ok (.iload 4, 2) := by decide +kernel
theorem dX7_does_35 : decode cX7_does 35 = .ok (.ifCond .ge 5, 3) := by decide +kernel
theorem dX7_does_38 : decode cX7_does 38 = .ok (.iconst 0, 1) := by decide +kernel
theorem dX7_does_39 : decode cX7_does 39 = .ok (.ireturn, 1) := by decide +kernel
theorem dX7_does_40 : decode cX7_does 40 = .ok (.iload_n 2, 1) := by decide +kernel
theorem dX7_does_41 : decode cX7_does 41 = .ok (.tableswitch 74 2 6 #[35, 42, 50, 58, 66], 35) := by decide +kernel
theorem dX7_does_76 : decode cX7_does 76 = .ok (.aload_n 0, 1) := by decide +kernel
theorem dX7_does_77 : decode cX7_does 77 = .ok (.iload_n 1, 1) := by decide +kernel
theorem dX7_does_78 : decode cX7_does 78 = .ok (.iload_n 3, 1) := by decide +kernel
theorem dX7_does_79 : decode cX7_does 79 = .ok (.invokevirtual 49, 3) := by decide +kernel
theorem dX7_does_82 : decode cX7_does 82 = .ok (.ireturn, 1) := by decide +kernel
theorem dX7_does_83 : decode cX7_does 83 = .ok (.aload_n 0, 1) := by decide +kernel
theorem dX7_does_84 : decode cX7_does 84 = .ok (.iload 4, 2) := by decide +kernel
theorem dX7_does_86 : decode cX7_does 86 = .ok (.iload_n 3, 1) := by decide +kernel
theorem dX7_does_87 : decode cX7_does 87 = .ok (.invokevirtual 52, 3) := by decide +kernel
theorem dX7_does_90 : decode cX7_does 90 = .ok (.ireturn, 1) := by decide +kernel
theorem dX7_does_91 : decode cX7_does 91 = .ok (.aload_n 0, 1) := by decide +kernel
theorem dX7_does_92 : decode cX7_does 92 = .ok (.iload 4, 2) := by decide +kernel
theorem dX7_does_94 : decode cX7_does 94 = .ok (.iload_n 3, 1) := by decide +kernel
theorem dX7_does_95 : decode cX7_does 95 = .ok (.invokevirtual 55, 3) := by decide +kernel
theorem dX7_does_98 : decode cX7_does 98 = .ok (.ireturn, 1) := by decide +kernel
theorem dX7_does_99 : decode cX7_does 99 = .ok (.aload_n 0, 1) := by decide +kernel
theorem dX7_does_100 : decode cX7_does 100 = .ok (.iload 4, 2) := by decide +kernel
theorem dX7_does_102 : decode cX7_does 102 = .ok (.iload_n 3, 1) := by decide +kernel
theorem dX7_does_103 : decode cX7_does 103 = .ok (.invokevirtual 58, 3) := by decide +kernel
theorem dX7_does_106 : decode cX7_does 106 = .ok (.ireturn, 1) := by decide +kernel
theorem dX7_does_107 : decode cX7_does 107 = .ok (.aload_n 0, 1) := by decide +kernel
theorem dX7_does_108 : decode cX7_does 108 = .ok (.iload 4, 2) := by decide +kernel
theorem dX7_does_110 : decode cX7_does 110 = .ok (.iload_n 3, 1) := by decide +kernel
theorem dX7_does_111 : decode cX7_does 111 = .ok (.invokevirtual 61, 3) := by decide +kernel
theorem dX7_does_114 : decode cX7_does 114 = .ok (.ireturn, 1) := by decide +kernel
theorem dX7_does_115 : decode cX7_does 115 = .ok (.aload_n 0, 1) := by decide +kernel
theorem dX7_does_116 : decode cX7_does 116 = .ok (.iload 4, 2) := by decide +kernel
theorem dX7_does_118 : decode cX7_does 118 = .ok (.iload_n 3, 1) := by decide +kernel
theorem dX7_does_119 : decode cX7_does 119 = .ok (.invokevirtual 64, 3) := by decide +kernel
theorem dX7_does_122 : decode cX7_does 122 = .ok (.ireturn, 1) := by decide +kernel
theorem dX7_finishes_0 : decode cX7_finishes 0 = .ok (.bipush 108, 2) := by decide +kernel
theorem dX7_finishes_2 : decode cX7_finishes 2 = .ok (.bipush 16, 2) := by decide +kernel
theorem dX7_finishes_4 : decode cX7_finishes 4 = .ok (.iload_n 1, 1) := by decide +kernel
theorem dX7_finishes_5 : decode cX7_finishes 5 = .ok (.imul, 1) := by decide +kernel
theorem dX7_finishes_6 : decode cX7_finishes 6 = .ok (.iadd, 1) := by decide +kernel
theorem dX7_finishes_7 : decode cX7_finishes 7 = .ok (.istore_n 2, 1) := by decide +kernel
theorem dX7_finishes_8 : decode cX7_finishes 8 = .ok (.iconst 0, 1) := by decide +kernel
theorem dX7_finishes_9 : decode cX7_finishes 9 = .ok (.istore_n 3, 1) := by decide +kernel
theorem dX7_finishes_10 : decode cX7_finishes 10 = .ok (.iload_n 3, 1) := by decide +kernel
theorem dX7_finishes_11 : decode cX7_finishes 11 = .ok (.bipush 14, 2) := by decide +kernel
theorem dX7_finishes_13 : decode cX7_finishes 13 = .ok (.if_icmp .ge 27, 3) := by decide +kernel
theorem dX7_finishes_16 : decode cX7_finishes 16 = .ok (.aload_n 0, 1) := by decide +kernel
theorem dX7_finishes_17 : decode cX7_finishes 17 = .ok (.getfield 7, 3) := by decide +kernel
theorem dX7_finishes_20 : decode cX7_finishes 20 = .ok (.iload_n 2, 1) := by decide +kernel
theorem dX7_finishes_21 : decode cX7_finishes 21 = .ok (.iload_n 3, 1) := by decide +kernel
theorem dX7_finishes_22 : decode cX7_finishes 22 = .ok (.iadd, 1) := by decide +kernel
theorem dX7_finishes_23 : decode cX7_finishes 23 = .ok (.aload_n 0, 1) := by decide +kernel
theorem dX7_finishes_24 : decode cX7_finishes 24 = .ok (.getfield 7, 3) := by decide +kernel
theorem dX7_finishes_27 : decode cX7_finishes 27 = .ok (.iload_n 2, 1) := by decide +kernel
theorem dX7_finishes_28 : decode cX7_finishes 28 = .ok (.iload_n 3, 1) := by decide +kernel
theorem dX7_finishes_29 : decode cX7_finishes 29 = .ok (.iadd, 1) := by decide +kernel
theorem dX7_finishes_30 : decode cX7_finishes 30 = .ok (.iconst 2, 1) := by decide +kernel
theorem dX7_finishes_31 : decode cX7_finishes 31 = .ok (.iadd, 1) := by decide +kernel
theorem dX7_finishes_32 : decode cX7_finishes 32 = .ok (.iaload, 1) := by decide +kernel
theorem dX7_finishes_33 : decode cX7_finishes 33 = .ok (.iastore, 1) := by decide +kernel
theorem dX7_finishes_34 : decode cX7_finishes 34 = .ok (.iinc 3 1, 3) := by decide +kernel
theorem dX7_finishes_37 : decode cX7_finishes 37 = .ok (.goto (-27), 3) := by decide +kernel
theorem dX7_finishes_40 : decode cX7_finishes 40 = .ok (.aload_n 0, 1) := by decide +kernel
theorem dX7_finishes_41 : decode cX7_finishes 41 = .ok (.getfield 7, 3) := by decide +kernel
theorem dX7_finishes_44 : decode cX7_finishes 44 = .ok (.bipush 104, 2) := by decide +kernel
theorem dX7_finishes_46 : decode cX7_finishes 46 = .ok (.iload_n 1, 1) := by decide +kernel
theorem dX7_finishes_47 : decode cX7_finishes 47 = .ok (.iadd, 1) := by decide +kernel
theorem dX7_finishes_48 : decode cX7_finishes 48 = .ok (.dup2, 1) := by decide +kernel
theorem dX7_finishes_49 : decode cX7_finishes 49 = .ok (.iaload, 1) := by decide +kernel
theorem dX7_finishes_50 : decode cX7_finishes 50 = .ok (.iconst 1, 1) := by decide +kernel
theorem dX7_finishes_51 : decode cX7_finishes 51 = .ok (.isub, 1) := by decide +kernel
theorem dX7_finishes_52 : decode cX7_finishes 52 = .ok (.iastore, 1) := by decide +kernel
theorem dX7_finishes_53 : decode cX7_finishes 53 = .ok (.aload_n 0, 1) := by decide +kernel
theorem dX7_finishes_54 : decode cX7_finishes 54 = .ok (.getfield 7, 3) := by decide +kernel
theorem dX7_finishes_57 : decode cX7_finishes 57 = .ok (.sipush 146, 3) := by decide +kernel
theorem dX7_finishes_60 : decode cX7_finishes 60 = .ok (.dup2, 1) := by decide +kernel
theorem dX7_finishes_61 : decode cX7_finishes 61 = .ok (.iaload, 1) := by decide +kernel
theorem dX7_finishes_62 : decode cX7_finishes 62 = .ok (.iconst 1, 1) := by decide +kernel
theorem dX7_finishes_63 : decode cX7_finishes 63 = .ok (.iadd, 1) := by decide +kernel
theorem dX7_finishes_64 : decode cX7_finishes 64 = .ok (.iastore, 1) := by decide +kernel
theorem dX7_finishes_65 : decode cX7_finishes 65 = .ok (.return_, 1) := by decide +kernel
theorem dX7_goes_0 : decode cX7_goes 0 = .ok (.bipush 108, 2) := by decide +kernel
theorem dX7_goes_2 : decode cX7_goes 2 = .ok (.bipush 16, 2) := by decide +kernel
theorem dX7_goes_4 : decode cX7_goes 4 = .ok (.iload_n 1, 1) := by decide +kernel
theorem dX7_goes_5 : decode cX7_goes 5 = .ok (.imul, 1) := by decide +kernel
theorem dX7_goes_6 : decode cX7_goes 6 = .ok (.iadd, 1) := by decide +kernel
theorem dX7_goes_7 : decode cX7_goes 7 = .ok (.istore_n 2, 1) := by decide +kernel
theorem dX7_goes_8 : decode cX7_goes 8 = .ok (.aload_n 0, 1) := by decide +kernel
theorem dX7_goes_9 : decode cX7_goes 9 = .ok (.getfield 7, 3) := by decide +kernel
theorem dX7_goes_12 : decode cX7_goes 12 = .ok (.bipush 104, 2) := by decide +kernel
theorem dX7_goes_14 : decode cX7_goes 14 = .ok (.iload_n 1, 1) := by decide +kernel
theorem dX7_goes_15 : decode cX7_goes 15 = .ok (.iadd, 1) := by decide +kernel
theorem dX7_goes_16 : decode cX7_goes 16 = .ok (.iaload, 1) := by decide +kernel
theorem dX7_goes_17 : decode cX7_goes 17 = .ok (.ifCond .le 40, 3) := by decide +kernel
theorem dX7_goes_20 : decode cX7_goes 20 = .ok (.aload_n 0, 1) := by decide +kernel
theorem dX7_goes_21 : decode cX7_goes 21 = .ok (.getfield 7, 3) := by decide +kernel
theorem dX7_goes_24 : decode cX7_goes 24 = .ok (.iload_n 2, 1) := by decide +kernel
theorem dX7_goes_25 : decode cX7_goes 25 = .ok (.iaload, 1) := by decide +kernel
theorem dX7_goes_26 : decode cX7_goes 26 = .ok (.ifCond .ne 31, 3) := by decide +kernel
theorem dX7_goes_29 : decode cX7_goes 29 = .ok (.aload_n 0, 1) := by decide +kernel
theorem dX7_goes_30 : decode cX7_goes 30 = .ok (.getfield 7, 3) := by decide +kernel
theorem dX7_goes_33 : decode cX7_goes 33 = .ok (.iload_n 2, 1) := by decide +kernel
theorem dX7_goes_34 : decode cX7_goes 34 = .ok (.iconst 1, 1) := by decide +kernel
theorem dX7_goes_35 : decode cX7_goes 35 = .ok (.iadd, 1) := by decide +kernel
theorem dX7_goes_36 : decode cX7_goes 36 = .ok (.iaload, 1) := by decide +kernel
theorem dX7_goes_37 : decode cX7_goes 37 = .ok (.aload_n 0, 1) := by decide +kernel
theorem dX7_goes_38 : decode cX7_goes 38 = .ok (.getfield 7, 3) := by decide +kernel
theorem dX7_goes_41 : decode cX7_goes 41 = .ok (.bipush 100, 2) := by decide +kernel
theorem dX7_goes_43 : decode cX7_goes 43 = .ok (.iload_n 1, 1) := by decide +kernel
theorem dX7_goes_44 : decode cX7_goes 44 = .ok (.iadd, 1) := by decide +kernel
theorem dX7_goes_45 : decode cX7_goes 45 = .ok (.iaload, 1) := by decide +kernel
theorem dX7_goes_46 : decode cX7_goes 46 = .ok (.if_icmp .ne 11, 3) := by decide +kernel
theorem dX7_goes_49 : decode cX7_goes 49 = .ok (.aload_n 0, 1) := by decide +kernel
theorem dX7_goes_50 : decode cX7_goes 50 = .ok (.iload_n 1, 1) := by decide +kernel
theorem dX7_goes_51 : decode cX7_goes 51 = .ok (.invokevirtual 67, 3) := by decide +kernel
theorem dX7_goes_54 : decode cX7_goes 54 = .ok (.goto (-46), 3) := by decide +kernel
theorem dX7_goes_57 : decode cX7_goes 57 = .ok (.aload_n 0, 1) := by decide +kernel
theorem dX7_goes_58 : decode cX7_goes 58 = .ok (.getfield 7, 3) := by decide +kernel
theorem dX7_goes_61 : decode cX7_goes 61 = .ok (.bipush 104, 2) := by decide +kernel
theorem dX7_goes_63 : decode cX7_goes 63 = .ok (.iload_n 1, 1) := by decide +kernel
theorem dX7_goes_64 : decode cX7_goes 64 = .ok (.iadd, 1) := by decide +kernel
theorem dX7_goes_65 : decode cX7_goes 65 = .ok (.iaload, 1) := by decide +kernel
theorem dX7_goes_66 : decode cX7_goes 66 = .ok (.ifCond .ne 4, 3) := by decide +kernel
theorem dX7_goes_69 : decode cX7_goes 69 = .ok (.return_, 1) := by decide +kernel
theorem dX7_goes_70 : decode cX7_goes 70 = .ok (.aload_n 0, 1) := by decide +kernel
theorem dX7_goes_71 : decode cX7_goes 71 = .ok (.getfield 7, 3) := by decide +kernel
theorem dX7_goes_74 : decode cX7_goes 74 = .ok (.iload_n 2, 1) := by decide +kernel
theorem dX7_goes_75 : decode cX7_goes 75 = .ok (.iaload, 1) := by decide +kernel
theorem dX7_goes_76 : decode cX7_goes 76 = .ok (.ifCond .le 39, 3) := by decide +kernel
theorem dX7_goes_79 : decode cX7_goes 79 = .ok (.aload_n 0, 1) := by decide +kernel
theorem dX7_goes_80 : decode cX7_goes 80 = .ok (.iload_n 1, 1) := by decide +kernel
theorem dX7_goes_81 : decode cX7_goes 81 = .ok (.aload_n 0, 1) := by decide +kernel
theorem dX7_goes_82 : decode cX7_goes 82 = .ok (.getfield 7, 3) := by decide +kernel
theorem dX7_goes_85 : decode cX7_goes 85 = .ok (.iload_n 2, 1) := by decide +kernel
theorem dX7_goes_86 : decode cX7_goes 86 = .ok (.iaload, 1) := by decide +kernel
theorem dX7_goes_87 : decode cX7_goes 87 = .ok (.invokevirtual 71, 3) := by decide +kernel
theorem dX7_goes_90 : decode cX7_goes 90 = .ok (.ifCond .eq 11, 3) := by decide +kernel
theorem dX7_goes_93 : decode cX7_goes 93 = .ok (.aload_n 0, 1) := by decide +kernel
theorem dX7_goes_94 : decode cX7_goes 94 = .ok (.iload_n 1, 1) := by decide +kernel
theorem dX7_goes_95 : decode cX7_goes 95 = .ok (.invokevirtual 67, 3) := by decide +kernel
theorem dX7_goes_98 : decode cX7_goes 98 = .ok (.goto 16, 3) := by decide +kernel
theorem dX7_goes_101 : decode cX7_goes 101 = .ok (.aload_n 0, 1) := by decide +kernel
theorem dX7_goes_102 : decode cX7_goes 102 = .ok (.getfield 7, 3) := by decide +kernel
theorem dX7_goes_105 : decode cX7_goes 105 = .ok (.bipush 106, 2) := by decide +kernel
theorem dX7_goes_107 : decode cX7_goes 107 = .ok (.iload_n 1, 1) := by decide +kernel
theorem dX7_goes_108 : decode cX7_goes 108 = .ok (.iadd, 1) := by decide +kernel
theorem dX7_goes_109 : decode cX7_goes 109 = .ok (.dup2, 1) := by decide +kernel
theorem dX7_goes_110 : decode cX7_goes 110 = .ok (.iaload, 1) := by decide +kernel
theorem dX7_goes_111 : decode cX7_goes 111 = .ok (.iconst 1, 1) := by decide +kernel
theorem dX7_goes_112 : decode cX7_goes 112 = .ok (.iadd, 1) := by decide +kernel
theorem dX7_goes_113 : decode cX7_goes 113 = .ok (.iastore, 1) := by decide +kernel
theorem dX7_goes_114 : decode cX7_goes 114 = .ok (.return_, 1) := by decide +kernel
theorem dX7_goes_115 : decode cX7_goes 115 = .ok (.aload_n 0, 1) := by decide +kernel
theorem dX7_goes_116 : decode cX7_goes 116 = .ok (.getfield 7, 3) := by decide +kernel
theorem dX7_goes_119 : decode cX7_goes 119 = .ok (.bipush 100, 2) := by decide +kernel
theorem dX7_goes_121 : decode cX7_goes 121 = .ok (.iload_n 1, 1) := by decide +kernel
theorem dX7_goes_122 : decode cX7_goes 122 = .ok (.iadd, 1) := by decide +kernel
theorem dX7_goes_123 : decode cX7_goes 123 = .ok (.iaload, 1) := by decide +kernel
theorem dX7_goes_124 : decode cX7_goes 124 = .ok (.aload_n 0, 1) := by decide +kernel
theorem dX7_goes_125 : decode cX7_goes 125 = .ok (.getfield 7, 3) := by decide +kernel
theorem dX7_goes_128 : decode cX7_goes 128 = .ok (.iload_n 2, 1) := by decide +kernel
theorem dX7_goes_129 : decode cX7_goes 129 = .ok (.iconst 1, 1) := by decide +kernel
theorem dX7_goes_130 : decode cX7_goes 130 = .ok (.iadd, 1) := by decide +kernel
theorem dX7_goes_131 : decode cX7_goes 131 = .ok (.iaload, 1) := by decide +kernel
theorem dX7_goes_132 : decode cX7_goes 132 = .ok (.aload_n 0, 1) := by decide +kernel
theorem dX7_goes_133 : decode cX7_goes 133 = .ok (.getfield 7, 3) := by decide +kernel
theorem dX7_goes_136 : decode cX7_goes 136 = .ok (.bipush 100, 2) := by decide +kernel
theorem dX7_goes_138 : decode cX7_goes 138 = .ok (.iload_n 1, 1) := by decide +kernel
theorem dX7_goes_139 : decode cX7_goes 139 = .ok (.iadd, 1) := by decide +kernel
theorem dX7_goes_140 : decode cX7_goes 140 = .ok (.iaload, 1) := by decide +kernel
theorem dX7_goes_141 : decode cX7_goes 141 = .ok (.if_icmp .le 7, 3) := by decide +kernel
theorem dX7_goes_144 : decode cX7_goes 144 = .ok (.iconst 1, 1) := by decide +kernel
theorem dX7_goes_145 : decode cX7_goes 145 = .ok (.goto 4, 3) := by decide +kernel
theorem dX7_goes_148 : decode cX7_goes 148 = .ok (.iconst (-1), 1) := by decide +kernel
theorem dX7_goes_149 : decode cX7_goes 149 = .ok (.iadd, 1) := by decide +kernel
theorem dX7_goes_150 : decode cX7_goes 150 = .ok (.istore_n 3, 1) := by decide +kernel
theorem dX7_goes_151 : decode cX7_goes 151 = .ok (.iload_n 3, 1) := by decide +kernel
theorem dX7_goes_152 : decode cX7_goes 152 = .ok (.aload_n 0, 1) := by decide +kernel
theorem dX7_goes_153 : decode cX7_goes 153 = .ok (.getfield 7, 3) := by decide +kernel
theorem dX7_goes_156 : decode cX7_goes 156 = .ok (.bipush 101, 2) := by decide +kernel
theorem dX7_goes_158 : decode cX7_goes 158 = .ok (.iload_n 1, 1) := by decide +kernel
theorem dX7_goes_159 : decode cX7_goes 159 = .ok (.isub, 1) := by decide +kernel
theorem dX7_goes_160 : decode cX7_goes 160 = .ok (.iaload, 1) := by decide +kernel
theorem dX7_goes_161 : decode cX7_goes 161 = .ok (.if_icmp .ne 17, 3) := by decide +kernel
theorem dX7_goes_164 : decode cX7_goes 164 = .ok (.aload_n 0, 1) := by decide +kernel
theorem dX7_goes_165 : decode cX7_goes 165 = .ok (.getfield 7, 3) := by decide +kernel
theorem dX7_goes_168 : decode cX7_goes 168 = .ok (.bipush 106, 2) := by decide +kernel
theorem dX7_goes_170 : decode cX7_goes 170 = .ok (.iload_n 1, 1) := by decide +kernel
theorem dX7_goes_171 : decode cX7_goes 171 = .ok (.iadd, 1) := by decide +kernel
theorem dX7_goes_172 : decode cX7_goes 172 = .ok (.dup2, 1) := by decide +kernel
theorem dX7_goes_173 : decode cX7_goes 173 = .ok (.iaload, 1) := by decide +kernel
theorem dX7_goes_174 : decode cX7_goes 174 = .ok (.iconst 1, 1) := by decide +kernel
theorem dX7_goes_175 : decode cX7_goes 175 = .ok (.iadd, 1) := by decide +kernel
theorem dX7_goes_176 : decode cX7_goes 176 = .ok (.iastore, 1) := by decide +kernel
theorem dX7_goes_177 : decode cX7_goes 177 = .ok (.return_, 1) := by decide +kernel
theorem dX7_goes_178 : decode cX7_goes 178 = .ok (.aload_n 0, 1) := by decide +kernel
theorem dX7_goes_179 : decode cX7_goes 179 = .ok (.getfield 7, 3) := by decide +kernel
theorem dX7_goes_182 : decode cX7_goes 182 = .ok (.bipush 100, 2) := by decide +kernel
theorem dX7_goes_184 : decode cX7_goes 184 = .ok (.iload_n 1, 1) := by decide +kernel
theorem dX7_goes_185 : decode cX7_goes 185 = .ok (.iadd, 1) := by decide +kernel
theorem dX7_goes_186 : decode cX7_goes 186 = .ok (.iload_n 3, 1) := by decide +kernel
theorem dX7_goes_187 : decode cX7_goes 187 = .ok (.iastore, 1) := by decide +kernel
theorem dX7_goes_188 : decode cX7_goes 188 = .ok (.aload_n 0, 1) := by decide +kernel
theorem dX7_goes_189 : decode cX7_goes 189 = .ok (.getfield 7, 3) := by decide +kernel
theorem dX7_goes_192 : decode cX7_goes 192 = .ok (.bipush 102, 2) := by decide +kernel
theorem dX7_goes_194 : decode cX7_goes 194 = .ok (.iload_n 1, 1) := by decide +kernel
theorem dX7_goes_195 : decode cX7_goes 195 = .ok (.iadd, 1) := by decide +kernel
theorem dX7_goes_196 : decode cX7_goes 196 = .ok (.iaload, 1) := by decide +kernel
theorem dX7_goes_197 : decode cX7_goes 197 = .ok (.ifCond .lt 21, 3) := by decide +kernel
theorem dX7_goes_200 : decode cX7_goes 200 = .ok (.aload_n 0, 1) := by decide +kernel
theorem dX7_goes_201 : decode cX7_goes 201 = .ok (.getfield 7, 3) := by decide +kernel
theorem dX7_goes_204 : decode cX7_goes 204 = .ok (.bipush 88, 2) := by decide +kernel
theorem dX7_goes_206 : decode cX7_goes 206 = .ok (.aload_n 0, 1) := by decide +kernel
theorem dX7_goes_207 : decode cX7_goes 207 = .ok (.getfield 7, 3) := by decide +kernel
theorem dX7_goes_210 : decode cX7_goes 210 = .ok (.bipush 102, 2) := by decide +kernel
theorem dX7_goes_212 : decode cX7_goes 212 = .ok (.iload_n 1, 1) := by decide +kernel
theorem dX7_goes_213 : decode cX7_goes 213 = .ok (.iadd, 1) := by decide +kernel
theorem dX7_goes_214 : decode cX7_goes 214 = .ok (.iaload, 1) := by decide +kernel
theorem dX7_goes_215 : decode cX7_goes 215 = .ok (.iadd, 1) := by decide +kernel
theorem dX7_goes_216 : decode cX7_goes 216 = .ok (.iload_n 3, 1) := by decide +kernel
theorem dX7_goes_217 : decode cX7_goes 217 = .ok (.iastore, 1) := by decide +kernel
theorem dX7_goes_218 : decode cX7_goes 218 = .ok (.return_, 1) := by decide +kernel
theorem dX7_minute_0 : decode cX7_minute 0 = .ok (.aload_n 0, 1) := by decide +kernel
theorem dX7_minute_1 : decode cX7_minute 1 = .ok (.getfield 7, 3) := by decide +kernel
theorem dX7_minute_4 : decode cX7_minute 4 = .ok (.sipush 140, 3) := by decide +kernel
theorem dX7_minute_7 : decode cX7_minute 7 = .ok (.dup2, 1) := by decide +kernel
theorem dX7_minute_8 : decode cX7_minute 8 = .ok (.iaload, 1) := by decide +kernel
theorem dX7_minute_9 : decode cX7_minute 9 = .ok (.iconst 1, 1) := by decide +kernel
theorem dX7_minute_10 : decode cX7_minute 10 = .ok (.iadd, 1) := by decide +kernel
theorem dX7_minute_11 : decode cX7_minute 11 = .ok (.iastore, 1) := by decide +kernel
theorem dX7_minute_12 : decode cX7_minute 12 = .ok (.aload_n 0, 1) := by decide +kernel
theorem dX7_minute_13 : decode cX7_minute 13 = .ok (.getfield 7, 3) := by decide +kernel
theorem dX7_minute_16 : decode cX7_minute 16 = .ok (.sipush 142, 3) := by decide +kernel
theorem dX7_minute_19 : decode cX7_minute 19 = .ok (.iconst 0, 1) := by decide +kernel
theorem dX7_minute_20 : decode cX7_minute 20 = .ok (.iastore, 1) := by decide +kernel
theorem dX7_minute_21 : decode cX7_minute 21 = .ok (.aload_n 0, 1) := by decide +kernel
theorem dX7_minute_22 : decode cX7_minute 22 = .ok (.invokevirtual 74, 3) := by decide +kernel
theorem dX7_minute_25 : decode cX7_minute 25 = .ok (.iconst 0, 1) := by decide +kernel
theorem dX7_minute_26 : decode cX7_minute 26 = .ok (.istore_n 1, 1) := by decide +kernel
theorem dX7_minute_27 : decode cX7_minute 27 = .ok (.iload_n 1, 1) := by decide +kernel
theorem dX7_minute_28 : decode cX7_minute 28 = .ok (.iconst 3, 1) := by decide +kernel
theorem dX7_minute_29 : decode cX7_minute 29 = .ok (.if_icmp .ge 27, 3) := by decide +kernel
theorem dX7_minute_32 : decode cX7_minute 32 = .ok (.aload_n 0, 1) := by decide +kernel
theorem dX7_minute_33 : decode cX7_minute 33 = .ok (.getfield 7, 3) := by decide +kernel
theorem dX7_minute_36 : decode cX7_minute 36 = .ok (.bipush 79, 2) := by decide +kernel
theorem dX7_minute_38 : decode cX7_minute 38 = .ok (.iload_n 1, 1) := by decide +kernel
theorem dX7_minute_39 : decode cX7_minute 39 = .ok (.iadd, 1) := by decide +kernel
theorem dX7_minute_40 : decode cX7_minute 40 = .ok (.iaload, 1) := by decide +kernel
theorem dX7_minute_41 : decode cX7_minute 41 = .ok (.iconst 1, 1) := by decide +kernel
theorem dX7_minute_42 : decode cX7_minute 42 = .ok (.if_icmp .ne 8, 3) := by decide +kernel
theorem dX7_minute_45 : decode cX7_minute 45 = .ok (.aload_n 0, 1) := by decide +kernel
theorem dX7_minute_46 : decode cX7_minute 46 = .ok (.iload_n 1, 1) := by decide +kernel
theorem dX7_minute_47 : decode cX7_minute 47 = .ok (.invokevirtual 77, 3) := by decide +kernel
theorem dX7_minute_50 : decode cX7_minute 50 = .ok (.iinc 1 1, 3) := by decide +kernel
theorem dX7_minute_53 : decode cX7_minute 53 = .ok (.goto (-26), 3) := by decide +kernel
theorem dX7_minute_56 : decode cX7_minute 56 = .ok (.iconst 0, 1) := by decide +kernel
theorem dX7_minute_57 : decode cX7_minute 57 = .ok (.istore_n 1, 1) := by decide +kernel
theorem dX7_minute_58 : decode cX7_minute 58 = .ok (.iload_n 1, 1) := by decide +kernel
theorem dX7_minute_59 : decode cX7_minute 59 = .ok (.iconst 3, 1) := by decide +kernel
theorem dX7_minute_60 : decode cX7_minute 60 = .ok (.if_icmp .ge 60, 3) := by decide +kernel
theorem dX7_minute_63 : decode cX7_minute 63 = .ok (.aload_n 0, 1) := by decide +kernel
theorem dX7_minute_64 : decode cX7_minute 64 = .ok (.iconst 4, 1) := by decide +kernel
theorem dX7_minute_65 : decode cX7_minute 65 = .ok (.iconst 4, 1) := by decide +kernel
theorem dX7_minute_66 : decode cX7_minute 66 = .ok (.iload_n 1, 1) := by decide +kernel
theorem dX7_minute_67 : decode cX7_minute 67 = .ok (.imul, 1) := by decide +kernel
theorem dX7_minute_68 : decode cX7_minute 68 = .ok (.iadd, 1) := by decide +kernel
theorem dX7_minute_69 : decode cX7_minute 69 = .ok (.invokevirtual 20, 3) := by decide +kernel
theorem dX7_minute_72 : decode cX7_minute 72 = .ok (.ifCond .le 42, 3) := by decide +kernel
theorem dX7_minute_75 : decode cX7_minute 75 = .ok (.aload_n 0, 1) := by decide +kernel
theorem dX7_minute_76 : decode cX7_minute 76 = .ok (.getfield 7, 3) := by decide +kernel
theorem dX7_minute_79 : decode cX7_minute 79 = .ok (.bipush 76, 2) := by decide +kernel
theorem dX7_minute_81 : decode cX7_minute 81 = .ok (.iload_n 1, 1) := by decide +kernel
theorem dX7_minute_82 : decode cX7_minute 82 = .ok (.iadd, 1) := by decide +kernel
theorem dX7_minute_83 : decode cX7_minute 83 = .ok (.aload_n 0, 1) := by decide +kernel
theorem dX7_minute_84 : decode cX7_minute 84 = .ok (.getfield 7, 3) := by decide +kernel
theorem dX7_minute_87 : decode cX7_minute 87 = .ok (.bipush 76, 2) := by decide +kernel
theorem dX7_minute_89 : decode cX7_minute 89 = .ok (.iload_n 1, 1) := by decide +kernel
theorem dX7_minute_90 : decode cX7_minute 90 = .ok (.iadd, 1) := by decide +kernel
theorem dX7_minute_91 : decode cX7_minute 91 = .ok (.iaload, 1) := by decide +kernel
theorem dX7_minute_92 : decode cX7_minute 92 = .ok (.bipush 8, 2) := by decide +kernel
theorem dX7_minute_94 : decode cX7_minute 94 = .ok (.if_icmp .ge 7, 3) := by decide +kernel
theorem dX7_minute_97 : decode cX7_minute 97 = .ok (.iconst 0, 1) := by decide +kernel
theorem dX7_minute_98 : decode cX7_minute 98 = .ok (.goto 15, 3) := by decide +kernel
theorem dX7_minute_101 : decode cX7_minute 101 = .ok (.aload_n 0, 1) := by decide +kernel
theorem dX7_minute_102 : decode cX7_minute 102 = .ok (.getfield 7, 3) := by decide +kernel
theorem dX7_minute_105 : decode cX7_minute 105 = .ok (.bipush 76, 2) := by decide +kernel
theorem dX7_minute_107 : decode cX7_minute 107 = .ok (.iload_n 1, 1) := by decide +kernel
theorem dX7_minute_108 : decode cX7_minute 108 = .ok (.iadd, 1) := by decide +kernel
theorem dX7_minute_109 : decode cX7_minute 109 = .ok (.iaload, 1) := by decide +kernel
theorem dX7_minute_110 : decode cX7_minute 110 = .ok (.bipush 8, 2) := by decide +kernel
theorem dX7_minute_112 : decode cX7_minute 112 = .ok (.isub, 1) := by decide +kernel
theorem dX7_minute_113 : decode cX7_minute 113 = .ok (.iastore, 1) := by decide +kernel
theorem dX7_minute_114 : decode cX7_minute 114 = .ok (.iinc 1 1, 3) := by decide +kernel
theorem dX7_minute_117 : decode cX7_minute 117 = .ok (.goto (-59), 3) := by decide +kernel
theorem dX7_minute_120 : decode cX7_minute 120 = .ok (.aload_n 0, 1) := by decide +kernel
theorem dX7_minute_121 : decode cX7_minute 121 = .ok (.getfield 7, 3) := by decide +kernel
theorem dX7_minute_124 : decode cX7_minute 124 = .ok (.bipush 48, 2) := by decide +kernel
theorem dX7_minute_126 : decode cX7_minute 126 = .ok (.iaload, 1) := by decide +kernel
theorem dX7_minute_127 : decode cX7_minute 127 = .ok (.iconst 5, 1) := by decide +kernel
theorem dX7_minute_128 : decode cX7_minute 128 = .ok (.aload_n 0, 1) := by decide +kernel
theorem dX7_minute_129 : decode cX7_minute 129 = .ok (.getfield 7, 3) := by decide +kernel
theorem dX7_minute_132 : decode cX7_minute 132 = .ok (.sipush 143, 3) := by decide +kernel
theorem dX7_minute_135 : decode cX7_minute 135 = .ok (.iaload, 1) := by decide +kernel
theorem dX7_minute_136 : decode cX7_minute 136 = .ok (.imul, 1) := by decide +kernel
theorem dX7_minute_137 : decode cX7_minute 137 = .ok (.isub, 1) := by decide +kernel
theorem dX7_minute_138 : decode cX7_minute 138 = .ok (.iconst 5, 1) := by decide +kernel
theorem dX7_minute_139 : decode cX7_minute 139 = .ok (.if_icmp .lt 18, 3) := by decide +kernel
theorem dX7_minute_142 : decode cX7_minute 142 = .ok (.aload_n 0, 1) := by decide +kernel
theorem dX7_minute_143 : decode cX7_minute 143 = .ok (.getfield 7, 3) := by decide +kernel
theorem dX7_minute_146 : decode cX7_minute 146 = .ok (.sipush 143, 3) := by decide +kernel
theorem dX7_minute_149 : decode cX7_minute 149 = .ok (.dup2, 1) := by decide +kernel
theorem dX7_minute_150 : decode cX7_minute 150 = .ok (.iaload, 1) := by decide +kernel
theorem dX7_minute_151 : decode cX7_minute 151 = .ok (.iconst 1, 1) := by decide +kernel
theorem dX7_minute_152 : decode cX7_minute 152 = .ok (.iadd, 1) := by decide +kernel
theorem dX7_minute_153 : decode cX7_minute 153 = .ok (.iastore, 1) := by decide +kernel
theorem dX7_minute_154 : decode cX7_minute 154 = .ok (.goto 15, 3) := by decide +kernel
theorem dX7_minute_157 : decode cX7_minute 157 = .ok (.aload_n 0, 1) := by decide +kernel
theorem dX7_minute_158 : decode cX7_minute 158 = .ok (.getfield 7, 3) := by decide +kernel
theorem dX7_minute_161 : decode cX7_minute 161 = .ok (.sipush 144, 3) := by decide +kernel
theorem dX7_minute_164 : decode cX7_minute 164 = .ok (.dup2, 1) := by decide +kernel
theorem dX7_minute_165 : decode cX7_minute 165 = .ok (.iaload, 1) := by decide +kernel
theorem dX7_minute_166 : decode cX7_minute 166 = .ok (.iconst 1, 1) := by decide +kernel
theorem dX7_minute_167 : decode cX7_minute 167 = .ok (.iadd, 1) := by decide +kernel
theorem dX7_minute_168 : decode cX7_minute 168 = .ok (.iastore, 1) := by decide +kernel
theorem dX7_minute_169 : decode cX7_minute 169 = .ok (.aload_n 0, 1) := by decide +kernel
theorem dX7_minute_170 : decode cX7_minute 170 = .ok (.iconst 0, 1) := by decide +kernel
theorem dX7_minute_171 : decode cX7_minute 171 = .ok (.invokevirtual 80, 3) := by decide +kernel
theorem dX7_minute_174 : decode cX7_minute 174 = .ok (.aload_n 0, 1) := by decide +kernel
theorem dX7_minute_175 : decode cX7_minute 175 = .ok (.iconst 1, 1) := by decide +kernel
theorem dX7_minute_176 : decode cX7_minute 176 = .ok (.invokevirtual 80, 3) := by decide +kernel
theorem dX7_minute_179 : decode cX7_minute 179 = .ok (.return_, 1) := by decide +kernel
theorem dX7_minutes_0 : decode cX7_minutes 0 = .ok (.iload_n 1, 1) := by decide +kernel
theorem dX7_minutes_1 : decode cX7_minutes 1 = .ok (.iconst 1, 1) := by decide +kernel
theorem dX7_minutes_2 : decode cX7_minutes 2 = .ok (.bipush 60, 2) := by decide +kernel
theorem dX7_minutes_4 : decode cX7_minutes 4 = .ok (.invokestatic 16, 3) := by decide +kernel
theorem dX7_minutes_7 : decode cX7_minutes 7 = .ok (.ifCond .ne 5, 3) := by decide +kernel
theorem dX7_minutes_10 : decode cX7_minutes 10 = .ok (.iconst (-1), 1) := by decide +kernel
theorem dX7_minutes_11 : decode cX7_minutes 11 = .ok (.ireturn, 1) := by decide +kernel
theorem dX7_minutes_12 : decode cX7_minutes 12 = .ok (.aload_n 0, 1) := by decide +kernel
theorem dX7_minutes_13 : decode cX7_minutes 13 = .ok (.getfield 7, 3) := by decide +kernel
theorem dX7_minutes_16 : decode cX7_minutes 16 = .ok (.sipush 146, 3) := by decide +kernel
theorem dX7_minutes_19 : decode cX7_minutes 19 = .ok (.iaload, 1) := by decide +kernel
theorem dX7_minutes_20 : decode cX7_minutes 20 = .ok (.istore_n 2, 1) := by decide +kernel
theorem dX7_minutes_21 : decode cX7_minutes 21 = .ok (.iconst 0, 1) := by decide +kernel
theorem dX7_minutes_22 : decode cX7_minutes 22 = .ok (.istore_n 3, 1) := by decide +kernel
theorem dX7_minutes_23 : decode cX7_minutes 23 = .ok (.iload_n 3, 1) := by decide +kernel
theorem dX7_minutes_24 : decode cX7_minutes 24 = .ok (.iload_n 1, 1) := by decide +kernel
theorem dX7_minutes_25 : decode cX7_minutes 25 = .ok (.if_icmp .ge 13, 3) := by decide +kernel
theorem dX7_minutes_28 : decode cX7_minutes 28 = .ok (.aload_n 0, 1) := by decide +kernel
theorem dX7_minutes_29 : decode cX7_minutes 29 = .ok (.invokevirtual 83, 3) := by decide +kernel
theorem dX7_minutes_32 : decode cX7_minutes 32 = .ok (.iinc 3 1, 3) := by decide +kernel
theorem dX7_minutes_35 : decode cX7_minutes 35 = .ok (.goto (-12), 3) := by decide +kernel
theorem dX7_minutes_38 : decode cX7_minutes 38 = .ok (.aload_n 0, 1) := by decide +kernel
theorem dX7_minutes_39 : decode cX7_minutes 39 = .ok (.getfield 7, 3) := by decide +kernel
theorem dX7_minutes_42 : decode cX7_minutes 42 = .ok (.sipush 146, 3) := by decide +kernel
theorem dX7_minutes_45 : decode cX7_minutes 45 = .ok (.iaload, 1) := by decide +kernel
theorem dX7_minutes_46 : decode cX7_minutes 46 = .ok (.iload_n 2, 1) := by decide +kernel
theorem dX7_minutes_47 : decode cX7_minutes 47 = .ok (.isub, 1) := by decide +kernel
theorem dX7_minutes_48 : decode cX7_minutes 48 = .ok (.ireturn, 1) := by decide +kernel
theorem dX7_until_0 : decode cX7_until 0 = .ok (.iload_n 1, 1) := by decide +kernel
theorem dX7_until_1 : decode cX7_until 1 = .ok (.iconst 1, 1) := by decide +kernel
theorem dX7_until_2 : decode cX7_until 2 = .ok (.sipush 200, 3) := by decide +kernel
theorem dX7_until_5 : decode cX7_until 5 = .ok (.invokestatic 16, 3) := by decide +kernel
theorem dX7_until_8 : decode cX7_until 8 = .ok (.ifCond .ne 5, 3) := by decide +kernel
theorem dX7_until_11 : decode cX7_until 11 = .ok (.iconst (-1), 1) := by decide +kernel
theorem dX7_until_12 : decode cX7_until 12 = .ok (.ireturn, 1) := by decide +kernel
theorem dX7_until_13 : decode cX7_until 13 = .ok (.iconst 0, 1) := by decide +kernel
theorem dX7_until_14 : decode cX7_until 14 = .ok (.istore_n 2, 1) := by decide +kernel
theorem dX7_until_15 : decode cX7_until 15 = .ok (.iload_n 2, 1) := by decide +kernel
theorem dX7_until_16 : decode cX7_until 16 = .ok (.iload_n 1, 1) := by decide +kernel
theorem dX7_until_17 : decode cX7_until 17 = .ok (.if_icmp .ge 31, 3) := by decide +kernel
theorem dX7_until_20 : decode cX7_until 20 = .ok (.aload_n 0, 1) := by decide +kernel
theorem dX7_until_21 : decode cX7_until 21 = .ok (.getfield 7, 3) := by decide +kernel
theorem dX7_until_24 : decode cX7_until 24 = .ok (.bipush 104, 2) := by decide +kernel
theorem dX7_until_26 : decode cX7_until 26 = .ok (.iaload, 1) := by decide +kernel
theorem dX7_until_27 : decode cX7_until 27 = .ok (.aload_n 0, 1) := by decide +kernel
theorem dX7_until_28 : decode cX7_until 28 = .ok (.getfield 7, 3) := by decide +kernel
theorem dX7_until_31 : decode cX7_until 31 = .ok (.bipush 105, 2) := by decide +kernel
theorem dX7_until_33 : decode cX7_until 33 = .ok (.iaload, 1) := by decide +kernel
theorem dX7_until_34 : decode cX7_until 34 = .ok (.iadd, 1) := by decide +kernel
theorem dX7_until_35 : decode cX7_until 35 = .ok (.ifCond .le 13, 3) := by decide +kernel
theorem dX7_until_38 : decode cX7_until 38 = .ok (.aload_n 0, 1) := by decide +kernel
theorem dX7_until_39 : decode cX7_until 39 = .ok (.invokevirtual 83, 3) := by decide +kernel
theorem dX7_until_42 : decode cX7_until 42 = .ok (.iinc 2 1, 3) := by decide +kernel
theorem dX7_until_45 : decode cX7_until 45 = .ok (.goto (-30), 3) := by decide +kernel
theorem dX7_until_48 : decode cX7_until 48 = .ok (.iload_n 2, 1) := by decide +kernel
theorem dX7_until_49 : decode cX7_until 49 = .ok (.ireturn, 1) := by decide +kernel
theorem dX7_crane_0 : decode cX7_crane 0 = .ok (.iload_n 1, 1) := by decide +kernel
theorem dX7_crane_1 : decode cX7_crane 1 = .ok (.iconst 0, 1) := by decide +kernel
theorem dX7_crane_2 : decode cX7_crane 2 = .ok (.iconst 1, 1) := by decide +kernel
theorem dX7_crane_3 : decode cX7_crane 3 = .ok (.invokestatic 16, 3) := by decide +kernel
theorem dX7_crane_6 : decode cX7_crane 6 = .ok (.ifCond .eq 12, 3) := by decide +kernel
theorem dX7_crane_9 : decode cX7_crane 9 = .ok (.iload_n 2, 1) := by decide +kernel
theorem dX7_crane_10 : decode cX7_crane 10 = .ok (.iconst 0, 1) := by decide +kernel
theorem dX7_crane_11 : decode cX7_crane 11 = .ok (.iconst 4, 1) := by decide +kernel
theorem dX7_crane_12 : decode cX7_crane 12 = .ok (.invokestatic 16, 3) := by decide +kernel
theorem dX7_crane_15 : decode cX7_crane 15 = .ok (.ifCond .ne 5, 3) := by decide +kernel
theorem dX7_crane_18 : decode cX7_crane 18 = .ok (.iconst (-1), 1) := by decide +kernel
theorem dX7_crane_19 : decode cX7_crane 19 = .ok (.ireturn, 1) := by decide +kernel
theorem dX7_crane_20 : decode cX7_crane 20 = .ok (.iload_n 2, 1) := by decide +kernel
theorem dX7_crane_21 : decode cX7_crane 21 = .ok (.tableswitch 108 0 3 #[31, 41, 68, 78], 31) := by decide +kernel
theorem dX7_crane_52 : decode cX7_crane 52 = .ok (.aload_n 0, 1) := by decide +kernel
theorem dX7_crane_53 : decode cX7_crane 53 = .ok (.getfield 7, 3) := by decide +kernel
theorem dX7_crane_56 : decode cX7_crane 56 = .ok (.bipush 100, 2) := by decide +kernel
theorem dX7_crane_58 : decode cX7_crane 58 = .ok (.iload_n 1, 1) := by decide +kernel
theorem dX7_crane_59 : decode cX7_crane 59 = .ok (.iadd, 1) := by decide +kernel
theorem dX7_crane_60 : decode cX7_crane 60 = .ok (.iaload, 1) := by decide +kernel
theorem dX7_crane_61 : decode cX7_crane 61 = .ok (.ireturn, 1) := by decide +kernel
theorem dX7_crane_62 : decode cX7_crane 62 = .ok (.aload_n 0, 1) := by decide +kernel
theorem dX7_crane_63 : decode cX7_crane 63 = .ok (.getfield 7, 3) := by decide +kernel
theorem dX7_crane_66 : decode cX7_crane 66 = .ok (.bipush 102, 2) := by decide +kernel
theorem dX7_crane_68 : decode cX7_crane 68 = .ok (.iload_n 1, 1) := by decide +kernel
theorem dX7_crane_69 : decode cX7_crane 69 = .ok (.iadd, 1) := by decide +kernel
theorem dX7_crane_70 : decode cX7_crane 70 = .ok (.iaload, 1) := by decide +kernel
theorem dX7_crane_71 : decode cX7_crane 71 = .ok (.ifCond .ge 8, 3) := by decide +kernel
theorem dX7_crane_74 : decode cX7_crane 74 = .ok (.bipush (-4), 2) := by decide +kernel
theorem dX7_crane_76 : decode cX7_crane 76 = .ok (.goto 12, 3) := by decide +kernel
theorem dX7_crane_79 : decode cX7_crane 79 = .ok (.aload_n 0, 1) := by decide +kernel
theorem dX7_crane_80 : decode cX7_crane 80 = .ok (.getfield 7, 3) := by decide +kernel
theorem dX7_crane_83 : decode cX7_crane 83 = .ok (.bipush 102, 2) := by decide +kernel
theorem dX7_crane_85 : decode cX7_crane 85 = .ok (.iload_n 1, 1) := by decide +kernel
theorem dX7_crane_86 : decode cX7_crane 86 = .ok (.iadd, 1) := by decide +kernel
theorem dX7_crane_87 : decode cX7_crane 87 = .ok (.iaload, 1) := by decide +kernel
theorem dX7_crane_88 : decode cX7_crane 88 = .ok (.ireturn, 1) := by decide +kernel
theorem dX7_crane_89 : decode cX7_crane 89 = .ok (.aload_n 0, 1) := by decide +kernel
theorem dX7_crane_90 : decode cX7_crane 90 = .ok (.getfield 7, 3) := by decide +kernel
theorem dX7_crane_93 : decode cX7_crane 93 = .ok (.bipush 104, 2) := by decide +kernel
theorem dX7_crane_95 : decode cX7_crane 95 = .ok (.iload_n 1, 1) := by decide +kernel
theorem dX7_crane_96 : decode cX7_crane 96 = .ok (.iadd, 1) := by decide +kernel
theorem dX7_crane_97 : decode cX7_crane 97 = .ok (.iaload, 1) := by decide +kernel
theorem dX7_crane_98 : decode cX7_crane 98 = .ok (.ireturn, 1) := by decide +kernel
theorem dX7_crane_99 : decode cX7_crane 99 = .ok (.aload_n 0, 1) := by decide +kernel
theorem dX7_crane_100 : decode cX7_crane 100 = .ok (.getfield 7, 3) := by decide +kernel
theorem dX7_crane_103 : decode cX7_crane 103 = .ok (.bipush 104, 2) := by decide +kernel
theorem dX7_crane_105 : decode cX7_crane 105 = .ok (.iload_n 1, 1) := by decide +kernel
theorem dX7_crane_106 : decode cX7_crane 106 = .ok (.iadd, 1) := by decide +kernel
theorem dX7_crane_107 : decode cX7_crane 107 = .ok (.iaload, 1) := by decide +kernel
theorem dX7_crane_108 : decode cX7_crane 108 = .ok (.ifCond .ne 8, 3) := by decide +kernel
theorem dX7_crane_111 : decode cX7_crane 111 = .ok (.bipush (-4), 2) := by decide +kernel
theorem dX7_crane_113 : decode cX7_crane 113 = .ok (.goto 15, 3) := by decide +kernel
theorem dX7_crane_116 : decode cX7_crane 116 = .ok (.aload_n 0, 1) := by decide +kernel
theorem dX7_crane_117 : decode cX7_crane 117 = .ok (.getfield 7, 3) := by decide +kernel
theorem dX7_crane_120 : decode cX7_crane 120 = .ok (.bipush 108, 2) := by decide +kernel
theorem dX7_crane_122 : decode cX7_crane 122 = .ok (.bipush 16, 2) := by decide +kernel
theorem dX7_crane_124 : decode cX7_crane 124 = .ok (.iload_n 1, 1) := by decide +kernel
theorem dX7_crane_125 : decode cX7_crane 125 = .ok (.imul, 1) := by decide +kernel
theorem dX7_crane_126 : decode cX7_crane 126 = .ok (.iadd, 1) := by decide +kernel
theorem dX7_crane_127 : decode cX7_crane 127 = .ok (.iaload, 1) := by decide +kernel
theorem dX7_crane_128 : decode cX7_crane 128 = .ok (.ireturn, 1) := by decide +kernel
theorem dX7_crane_129 : decode cX7_crane 129 = .ok (.aload_n 0, 1) := by decide +kernel
theorem dX7_crane_130 : decode cX7_crane 130 = .ok (.getfield 7, 3) := by decide +kernel
theorem dX7_crane_133 : decode cX7_crane 133 = .ok (.bipush 106, 2) := by decide +kernel
theorem dX7_crane_135 : decode cX7_crane 135 = .ok (.iload_n 1, 1) := by decide +kernel
theorem dX7_crane_136 : decode cX7_crane 136 = .ok (.iadd, 1) := by decide +kernel
theorem dX7_crane_137 : decode cX7_crane 137 = .ok (.iaload, 1) := by decide +kernel
theorem dX7_crane_138 : decode cX7_crane 138 = .ok (.ireturn, 1) := by decide +kernel
theorem dX7_ladle_0 : decode cX7_ladle 0 = .ok (.iload_n 1, 1) := by decide +kernel
theorem dX7_ladle_1 : decode cX7_ladle 1 = .ok (.iconst 0, 1) := by decide +kernel
theorem dX7_ladle_2 : decode cX7_ladle 2 = .ok (.iconst 3, 1) := by decide +kernel
theorem dX7_ladle_3 : decode cX7_ladle 3 = .ok (.invokestatic 16, 3) := by decide +kernel
theorem dX7_ladle_6 : decode cX7_ladle 6 = .ok (.ifCond .eq 18, 3) := by decide +kernel
theorem dX7_ladle_9 : decode cX7_ladle 9 = .ok (.iload_n 2, 1) := by decide +kernel
theorem dX7_ladle_10 : decode cX7_ladle 10 = .ok (.iconst 0, 1) := by decide +kernel
theorem dX7_ladle_11 : decode cX7_ladle 11 = .ok (.bipush 11, 2) := by decide +kernel
theorem dX7_ladle_13 : decode cX7_ladle 13 = .ok (.invokestatic 16, 3) := by decide +kernel
theorem dX7_ladle_16 : decode cX7_ladle 16 = .ok (.ifCond .eq 8, 3) := by decide +kernel
theorem dX7_ladle_19 : decode cX7_ladle 19 = .ok (.iload_n 2, 1) := by decide +kernel
theorem dX7_ladle_20 : decode cX7_ladle 20 = .ok (.iconst 3, 1) := by decide +kernel
theorem dX7_ladle_21 : decode cX7_ladle 21 = .ok (.if_icmp .ne 5, 3) := by decide +kernel
theorem dX7_ladle_24 : decode cX7_ladle 24 = .ok (.iconst (-1), 1) := by decide +kernel
theorem dX7_ladle_25 : decode cX7_ladle 25 = .ok (.ireturn, 1) := by decide +kernel
theorem dX7_ladle_26 : decode cX7_ladle 26 = .ok (.iload_n 2, 1) := by decide +kernel
theorem dX7_ladle_27 : decode cX7_ladle 27 = .ok (.tableswitch 72 0 2 #[25, 35, 62], 25) := by decide +kernel
theorem dX7_ladle_52 : decode cX7_ladle 52 = .ok (.aload_n 0, 1) := by decide +kernel
theorem dX7_ladle_53 : decode cX7_ladle 53 = .ok (.getfield 7, 3) := by decide +kernel
theorem dX7_ladle_56 : decode cX7_ladle 56 = .ok (.bipush 88, 2) := by decide +kernel
theorem dX7_ladle_58 : decode cX7_ladle 58 = .ok (.iload_n 1, 1) := by decide +kernel
theorem dX7_ladle_59 : decode cX7_ladle 59 = .ok (.iadd, 1) := by decide +kernel
theorem dX7_ladle_60 : decode cX7_ladle 60 = .ok (.iaload, 1) := by decide +kernel
theorem dX7_ladle_61 : decode cX7_ladle 61 = .ok (.ireturn, 1) := by decide +kernel
theorem dX7_ladle_62 : decode cX7_ladle 62 = .ok (.aload_n 0, 1) := by decide +kernel
theorem dX7_ladle_63 : decode cX7_ladle 63 = .ok (.getfield 7, 3) := by decide +kernel
theorem dX7_ladle_66 : decode cX7_ladle 66 = .ok (.bipush 92, 2) := by decide +kernel
theorem dX7_ladle_68 : decode cX7_ladle 68 = .ok (.iload_n 1, 1) := by decide +kernel
theorem dX7_ladle_69 : decode cX7_ladle 69 = .ok (.iadd, 1) := by decide +kernel
theorem dX7_ladle_70 : decode cX7_ladle 70 = .ok (.iaload, 1) := by decide +kernel
theorem dX7_ladle_71 : decode cX7_ladle 71 = .ok (.ifCond .ge 8, 3) := by decide +kernel
theorem dX7_ladle_74 : decode cX7_ladle 74 = .ok (.bipush (-4), 2) := by decide +kernel
theorem dX7_ladle_76 : decode cX7_ladle 76 = .ok (.goto 12, 3) := by decide +kernel
theorem dX7_ladle_79 : decode cX7_ladle 79 = .ok (.aload_n 0, 1) := by decide +kernel
theorem dX7_ladle_80 : decode cX7_ladle 80 = .ok (.getfield 7, 3) := by decide +kernel
theorem dX7_ladle_83 : decode cX7_ladle 83 = .ok (.bipush 92, 2) := by decide +kernel
theorem dX7_ladle_85 : decode cX7_ladle 85 = .ok (.iload_n 1, 1) := by decide +kernel
theorem dX7_ladle_86 : decode cX7_ladle 86 = .ok (.iadd, 1) := by decide +kernel
theorem dX7_ladle_87 : decode cX7_ladle 87 = .ok (.iaload, 1) := by decide +kernel
theorem dX7_ladle_88 : decode cX7_ladle 88 = .ok (.ireturn, 1) := by decide +kernel
theorem dX7_ladle_89 : decode cX7_ladle 89 = .ok (.aload_n 0, 1) := by decide +kernel
theorem dX7_ladle_90 : decode cX7_ladle 90 = .ok (.getfield 7, 3) := by decide +kernel
theorem dX7_ladle_93 : decode cX7_ladle 93 = .ok (.bipush 96, 2) := by decide +kernel
theorem dX7_ladle_95 : decode cX7_ladle 95 = .ok (.iload_n 1, 1) := by decide +kernel
theorem dX7_ladle_96 : decode cX7_ladle 96 = .ok (.iadd, 1) := by decide +kernel
theorem dX7_ladle_97 : decode cX7_ladle 97 = .ok (.iaload, 1) := by decide +kernel
theorem dX7_ladle_98 : decode cX7_ladle 98 = .ok (.ireturn, 1) := by decide +kernel
theorem dX7_ladle_99 : decode cX7_ladle 99 = .ok (.iload_n 2, 1) := by decide +kernel
theorem dX7_ladle_100 : decode cX7_ladle 100 = .ok (.bipush 8, 2) := by decide +kernel
theorem dX7_ladle_102 : decode cX7_ladle 102 = .ok (.if_icmp .ge 21, 3) := by decide +kernel
theorem dX7_ladle_105 : decode cX7_ladle 105 = .ok (.aload_n 0, 1) := by decide +kernel
theorem dX7_ladle_106 : decode cX7_ladle 106 = .ok (.getfield 7, 3) := by decide +kernel
theorem dX7_ladle_109 : decode cX7_ladle 109 = .ok (.bipush 16, 2) := by decide +kernel
theorem dX7_ladle_111 : decode cX7_ladle 111 = .ok (.iconst 4, 1) := by decide +kernel
theorem dX7_ladle_112 : decode cX7_ladle 112 = .ok (.iload_n 1, 1) := by decide +kernel
theorem dX7_ladle_113 : decode cX7_ladle 113 = .ok (.imul, 1) := by decide +kernel
theorem dX7_ladle_114 : decode cX7_ladle 114 = .ok (.iadd, 1) := by decide +kernel
theorem dX7_ladle_115 : decode cX7_ladle 115 = .ok (.iload_n 2, 1) := by decide +kernel
theorem dX7_ladle_116 : decode cX7_ladle 116 = .ok (.iadd, 1) := by decide +kernel
theorem dX7_ladle_117 : decode cX7_ladle 117 = .ok (.iconst 4, 1) := by decide +kernel
theorem dX7_ladle_118 : decode cX7_ladle 118 = .ok (.isub, 1) := by decide +kernel
theorem dX7_ladle_119 : decode cX7_ladle 119 = .ok (.iaload, 1) := by decide +kernel
theorem dX7_ladle_120 : decode cX7_ladle 120 = .ok (.goto 19, 3) := by decide +kernel
theorem dX7_ladle_123 : decode cX7_ladle 123 = .ok (.aload_n 0, 1) := by decide +kernel
theorem dX7_ladle_124 : decode cX7_ladle 124 = .ok (.getfield 7, 3) := by decide +kernel
theorem dX7_ladle_127 : decode cX7_ladle 127 = .ok (.bipush 32, 2) := by decide +kernel
theorem dX7_ladle_129 : decode cX7_ladle 129 = .ok (.iconst 4, 1) := by decide +kernel
theorem dX7_ladle_130 : decode cX7_ladle 130 = .ok (.iload_n 1, 1) := by decide +kernel
theorem dX7_ladle_131 : decode cX7_ladle 131 = .ok (.imul, 1) := by decide +kernel
theorem dX7_ladle_132 : decode cX7_ladle 132 = .ok (.iadd, 1) := by decide +kernel
theorem dX7_ladle_133 : decode cX7_ladle 133 = .ok (.iload_n 2, 1) := by decide +kernel
theorem dX7_ladle_134 : decode cX7_ladle 134 = .ok (.iadd, 1) := by decide +kernel
theorem dX7_ladle_135 : decode cX7_ladle 135 = .ok (.bipush 8, 2) := by decide +kernel
theorem dX7_ladle_137 : decode cX7_ladle 137 = .ok (.isub, 1) := by decide +kernel
theorem dX7_ladle_138 : decode cX7_ladle 138 = .ok (.iaload, 1) := by decide +kernel
theorem dX7_ladle_139 : decode cX7_ladle 139 = .ok (.ireturn, 1) := by decide +kernel
theorem dX7_vessel_0 : decode cX7_vessel 0 = .ok (.iload_n 1, 1) := by decide +kernel
theorem dX7_vessel_1 : decode cX7_vessel 1 = .ok (.iconst 0, 1) := by decide +kernel
theorem dX7_vessel_2 : decode cX7_vessel 2 = .ok (.iconst 2, 1) := by decide +kernel
theorem dX7_vessel_3 : decode cX7_vessel 3 = .ok (.invokestatic 16, 3) := by decide +kernel
theorem dX7_vessel_6 : decode cX7_vessel 6 = .ok (.ifCond .eq 13, 3) := by decide +kernel
theorem dX7_vessel_9 : decode cX7_vessel 9 = .ok (.iload_n 2, 1) := by decide +kernel
theorem dX7_vessel_10 : decode cX7_vessel 10 = .ok (.iconst 0, 1) := by decide +kernel
theorem dX7_vessel_11 : decode cX7_vessel 11 = .ok (.bipush 7, 2) := by decide +kernel
theorem dX7_vessel_13 : decode cX7_vessel 13 = .ok (.invokestatic 16, 3) := by decide +kernel
theorem dX7_vessel_16 : decode cX7_vessel 16 = .ok (.ifCond .ne 5, 3) := by decide +kernel
theorem dX7_vessel_19 : decode cX7_vessel 19 = .ok (.iconst (-1), 1) := by decide +kernel
theorem dX7_vessel_20 : decode cX7_vessel 20 = .ok (.ireturn, 1) := by decide +kernel
theorem dX7_vessel_21 : decode cX7_vessel 21 = .ok (.iload_n 2, 1) := by decide +kernel
theorem dX7_vessel_22 : decode cX7_vessel 22 = .ok (.tableswitch 86 0 7 #[46, 56, 86, 86, 86, 86, 66, 76], 46) := by decide +kernel
theorem dX7_vessel_68 : decode cX7_vessel 68 = .ok (.aload_n 0, 1) := by decide +kernel
theorem dX7_vessel_69 : decode cX7_vessel 69 = .ok (.getfield 7, 3) := by decide +kernel
theorem dX7_vessel_72 : decode cX7_vessel 72 = .ok (.bipush 76, 2) := by decide +kernel
theorem dX7_vessel_74 : decode cX7_vessel 74 = .ok (.iload_n 1, 1) := by decide +kernel
theorem dX7_vessel_75 : decode cX7_vessel 75 = .ok (.iadd, 1) := by decide +kernel
theorem dX7_vessel_76 : decode cX7_vessel 76 = .ok (.iaload, 1) := by decide +kernel
theorem dX7_vessel_77 : decode cX7_vessel 77 = .ok (.ireturn, 1) := by decide +kernel
theorem dX7_vessel_78 : decode cX7_vessel 78 = .ok (.aload_n 0, 1) := by decide +kernel
theorem dX7_vessel_79 : decode cX7_vessel 79 = .ok (.getfield 7, 3) := by decide +kernel
theorem dX7_vessel_82 : decode cX7_vessel 82 = .ok (.bipush 79, 2) := by decide +kernel
theorem dX7_vessel_84 : decode cX7_vessel 84 = .ok (.iload_n 1, 1) := by decide +kernel
theorem dX7_vessel_85 : decode cX7_vessel 85 = .ok (.iadd, 1) := by decide +kernel
theorem dX7_vessel_86 : decode cX7_vessel 86 = .ok (.iaload, 1) := by decide +kernel
theorem dX7_vessel_87 : decode cX7_vessel 87 = .ok (.ireturn, 1) := by decide +kernel
theorem dX7_vessel_88 : decode cX7_vessel 88 = .ok (.aload_n 0, 1) := by decide +kernel
theorem dX7_vessel_89 : decode cX7_vessel 89 = .ok (.getfield 7, 3) := by decide +kernel
theorem dX7_vessel_92 : decode cX7_vessel 92 = .ok (.bipush 82, 2) := by decide +kernel
theorem dX7_vessel_94 : decode cX7_vessel 94 = .ok (.iload_n 1, 1) := by decide +kernel
theorem dX7_vessel_95 : decode cX7_vessel 95 = .ok (.iadd, 1) := by decide +kernel
theorem dX7_vessel_96 : decode cX7_vessel 96 = .ok (.iaload, 1) := by decide +kernel
theorem dX7_vessel_97 : decode cX7_vessel 97 = .ok (.ireturn, 1) := by decide +kernel
theorem dX7_vessel_98 : decode cX7_vessel 98 = .ok (.aload_n 0, 1) := by decide +kernel
theorem dX7_vessel_99 : decode cX7_vessel 99 = .ok (.getfield 7, 3) := by decide +kernel
theorem dX7_vessel_102 : decode cX7_vessel 102 = .ok (.bipush 85, 2) := by decide +kernel
theorem dX7_vessel_104 : decode cX7_vessel 104 = .ok (.iload_n 1, 1) := by decide +kernel
theorem dX7_vessel_105 : decode cX7_vessel 105 = .ok (.iadd, 1) := by decide +kernel
theorem dX7_vessel_106 : decode cX7_vessel 106 = .ok (.iaload, 1) := by decide +kernel
theorem dX7_vessel_107 : decode cX7_vessel 107 = .ok (.ireturn, 1) := by decide +kernel
theorem dX7_vessel_108 : decode cX7_vessel 108 = .ok (.aload_n 0, 1) := by decide +kernel
theorem dX7_vessel_109 : decode cX7_vessel 109 = .ok (.getfield 7, 3) := by decide +kernel
theorem dX7_vessel_112 : decode cX7_vessel 112 = .ok (.iconst 4, 1) := by decide +kernel
theorem dX7_vessel_113 : decode cX7_vessel 113 = .ok (.iconst 4, 1) := by decide +kernel
theorem dX7_vessel_114 : decode cX7_vessel 114 = .ok (.iload_n 1, 1) := by decide +kernel
theorem dX7_vessel_115 : decode cX7_vessel 115 = .ok (.imul, 1) := by decide +kernel
theorem dX7_vessel_116 : decode cX7_vessel 116 = .ok (.iadd, 1) := by decide +kernel
theorem dX7_vessel_117 : decode cX7_vessel 117 = .ok (.iload_n 2, 1) := by decide +kernel
theorem dX7_vessel_118 : decode cX7_vessel 118 = .ok (.iadd, 1) := by decide +kernel
theorem dX7_vessel_119 : decode cX7_vessel 119 = .ok (.iconst 2, 1) := by decide +kernel
theorem dX7_vessel_120 : decode cX7_vessel 120 = .ok (.isub, 1) := by decide +kernel
theorem dX7_vessel_121 : decode cX7_vessel 121 = .ok (.iaload, 1) := by decide +kernel
theorem dX7_vessel_122 : decode cX7_vessel 122 = .ok (.ireturn, 1) := by decide +kernel
theorem dX7_several_0 : decode cX7_several 0 = .ok (.iconst 0, 1) := by decide +kernel
theorem dX7_several_1 : decode cX7_several 1 = .ok (.istore 4, 2) := by decide +kernel
theorem dX7_several_3 : decode cX7_several 3 = .ok (.iconst 0, 1) := by decide +kernel
theorem dX7_several_4 : decode cX7_several 4 = .ok (.istore 5, 2) := by decide +kernel
theorem dX7_several_6 : decode cX7_several 6 = .ok (.iload 5, 2) := by decide +kernel
theorem dX7_several_8 : decode cX7_several 8 = .ok (.iload_n 2, 1) := by decide +kernel
theorem dX7_several_9 : decode cX7_several 9 = .ok (.if_icmp .ge 27, 3) := by decide +kernel
theorem dX7_several_12 : decode cX7_several 12 = .ok (.iload 4, 2) := by decide +kernel
theorem dX7_several_14 : decode cX7_several 14 = .ok (.aload_n 0, 1) := by decide +kernel
theorem dX7_several_15 : decode cX7_several 15 = .ok (.getfield 7, 3) := by decide +kernel
theorem dX7_several_18 : decode cX7_several 18 = .ok (.iload_n 1, 1) := by decide +kernel
theorem dX7_several_19 : decode cX7_several 19 = .ok (.iconst 4, 1) := by decide +kernel
theorem dX7_several_20 : decode cX7_several 20 = .ok (.iload 5, 2) := by decide +kernel
theorem dX7_several_22 : decode cX7_several 22 = .ok (.imul, 1) := by decide +kernel
theorem dX7_several_23 : decode cX7_several 23 = .ok (.iadd, 1) := by decide +kernel
theorem dX7_several_24 : decode cX7_several 24 = .ok (.iload_n 3, 1) := by decide +kernel
theorem dX7_several_25 : decode cX7_several 25 = .ok (.iadd, 1) := by decide +kernel
theorem dX7_several_26 : decode cX7_several 26 = .ok (.iaload, 1) := by decide +kernel
theorem dX7_several_27 : decode cX7_several 27 = .ok (.iadd, 1) := by decide +kernel
theorem dX7_several_28 : decode cX7_several 28 = .ok (.istore 4, 2) := by decide +kernel
theorem dX7_several_30 : decode cX7_several 30 = .ok (.iinc 5 1, 3) := by decide +kernel
theorem dX7_several_33 : decode cX7_several 33 = .ok (.goto (-27), 3) := by decide +kernel
theorem dX7_several_36 : decode cX7_several 36 = .ok (.iload 4, 2) := by decide +kernel
theorem dX7_several_38 : decode cX7_several 38 = .ok (.ireturn, 1) := by decide +kernel
theorem dX7_book_0 : decode cX7_book 0 = .ok (.iload_n 1, 1) := by decide +kernel
theorem dX7_book_1 : decode cX7_book 1 = .ok (.iconst 0, 1) := by decide +kernel
theorem dX7_book_2 : decode cX7_book 2 = .ok (.bipush 10, 2) := by decide +kernel
theorem dX7_book_4 : decode cX7_book 4 = .ok (.invokestatic 16, 3) := by decide +kernel
theorem dX7_book_7 : decode cX7_book 7 = .ok (.ifCond .eq 12, 3) := by decide +kernel
theorem dX7_book_10 : decode cX7_book 10 = .ok (.iload_n 2, 1) := by decide +kernel
theorem dX7_book_11 : decode cX7_book 11 = .ok (.iconst 1, 1) := by decide +kernel
theorem dX7_book_12 : decode cX7_book 12 = .ok (.iconst 4, 1) := by decide +kernel
theorem dX7_book_13 : decode cX7_book 13 = .ok (.invokestatic 16, 3) := by decide +kernel
theorem dX7_book_16 : decode cX7_book 16 = .ok (.ifCond .ne 5, 3) := by decide +kernel
theorem dX7_book_19 : decode cX7_book 19 = .ok (.iconst (-1), 1) := by decide +kernel
theorem dX7_book_20 : decode cX7_book 20 = .ok (.ireturn, 1) := by decide +kernel
theorem dX7_book_21 : decode cX7_book 21 = .ok (.iload_n 1, 1) := by decide +kernel
theorem dX7_book_22 : decode cX7_book 22 = .ok (.tableswitch 72 0 3 #[30, 40, 50, 61], 30) := by decide +kernel
theorem dX7_book_52 : decode cX7_book 52 = .ok (.aload_n 0, 1) := by decide +kernel
theorem dX7_book_53 : decode cX7_book 53 = .ok (.iconst 0, 1) := by decide +kernel
theorem dX7_book_54 : decode cX7_book 54 = .ok (.iconst 1, 1) := by decide +kernel
theorem dX7_book_55 : decode cX7_book 55 = .ok (.iload_n 2, 1) := by decide +kernel
theorem dX7_book_56 : decode cX7_book 56 = .ok (.iconst 1, 1) := by decide +kernel
theorem dX7_book_57 : decode cX7_book 57 = .ok (.isub, 1) := by decide +kernel
theorem dX7_book_58 : decode cX7_book 58 = .ok (.invokevirtual 86, 3) := by decide +kernel
theorem dX7_book_61 : decode cX7_book 61 = .ok (.ireturn, 1) := by decide +kernel
theorem dX7_book_62 : decode cX7_book 62 = .ok (.aload_n 0, 1) := by decide +kernel
theorem dX7_book_63 : decode cX7_book 63 = .ok (.iconst 4, 1) := by decide +kernel
theorem dX7_book_64 : decode cX7_book 64 = .ok (.iconst 3, 1) := by decide +kernel
theorem dX7_book_65 : decode cX7_book 65 = .ok (.iload_n 2, 1) := by decide +kernel
theorem dX7_book_66 : decode cX7_book 66 = .ok (.iconst 1, 1) := by decide +kernel
theorem dX7_book_67 : decode cX7_book 67 = .ok (.isub, 1) := by decide +kernel
theorem dX7_book_68 : decode cX7_book 68 = .ok (.invokevirtual 86, 3) := by decide +kernel
theorem dX7_book_71 : decode cX7_book 71 = .ok (.ireturn, 1) := by decide +kernel
theorem dX7_book_72 : decode cX7_book 72 = .ok (.aload_n 0, 1) := by decide +kernel
theorem dX7_book_73 : decode cX7_book 73 = .ok (.bipush 16, 2) := by decide +kernel
theorem dX7_book_75 : decode cX7_book 75 = .ok (.iconst 4, 1) := by decide +kernel
theorem dX7_book_76 : decode cX7_book 76 = .ok (.iload_n 2, 1) := by decide +kernel
theorem dX7_book_77 : decode cX7_book 77 = .ok (.iconst 1, 1) := by decide +kernel
theorem dX7_book_78 : decode cX7_book 78 = .ok (.isub, 1) := by decide +kernel
theorem dX7_book_79 : decode cX7_book 79 = .ok (.invokevirtual 86, 3) := by decide +kernel
theorem dX7_book_82 : decode cX7_book 82 = .ok (.ireturn, 1) := by decide +kernel
theorem dX7_book_83 : decode cX7_book 83 = .ok (.aload_n 0, 1) := by decide +kernel
theorem dX7_book_84 : decode cX7_book 84 = .ok (.bipush 32, 2) := by decide +kernel
theorem dX7_book_86 : decode cX7_book 86 = .ok (.iconst 4, 1) := by decide +kernel
theorem dX7_book_87 : decode cX7_book 87 = .ok (.iload_n 2, 1) := by decide +kernel
theorem dX7_book_88 : decode cX7_book 88 = .ok (.iconst 1, 1) := by decide +kernel
theorem dX7_book_89 : decode cX7_book 89 = .ok (.isub, 1) := by decide +kernel
theorem dX7_book_90 : decode cX7_book 90 = .ok (.invokevirtual 86, 3) := by decide +kernel
theorem dX7_book_93 : decode cX7_book 93 = .ok (.ireturn, 1) := by decide +kernel
theorem dX7_book_94 : decode cX7_book 94 = .ok (.aload_n 0, 1) := by decide +kernel
theorem dX7_book_95 : decode cX7_book 95 = .ok (.getfield 7, 3) := by decide +kernel
theorem dX7_book_98 : decode cX7_book 98 = .ok (.bipush 48, 2) := by decide +kernel
theorem dX7_book_100 : decode cX7_book 100 = .ok (.iconst 4, 1) := by decide +kernel
theorem dX7_book_101 : decode cX7_book 101 = .ok (.iload_n 1, 1) := by decide +kernel
theorem dX7_book_102 : decode cX7_book 102 = .ok (.iconst 4, 1) := by decide +kernel
theorem dX7_book_103 : decode cX7_book 103 = .ok (.isub, 1) := by decide +kernel
theorem dX7_book_104 : decode cX7_book 104 = .ok (.imul, 1) := by decide +kernel
theorem dX7_book_105 : decode cX7_book 105 = .ok (.iadd, 1) := by decide +kernel
theorem dX7_book_106 : decode cX7_book 106 = .ok (.iload_n 2, 1) := by decide +kernel
theorem dX7_book_107 : decode cX7_book 107 = .ok (.iadd, 1) := by decide +kernel
theorem dX7_book_108 : decode cX7_book 108 = .ok (.iconst 1, 1) := by decide +kernel
theorem dX7_book_109 : decode cX7_book 109 = .ok (.isub, 1) := by decide +kernel
theorem dX7_book_110 : decode cX7_book 110 = .ok (.iaload, 1) := by decide +kernel
theorem dX7_book_111 : decode cX7_book 111 = .ok (.ireturn, 1) := by decide +kernel
theorem dX7_count_0 : decode cX7_count 0 = .ok (.iload_n 1, 1) := by decide +kernel
theorem dX7_count_1 : decode cX7_count 1 = .ok (.iconst 0, 1) := by decide +kernel
theorem dX7_count_2 : decode cX7_count 2 = .ok (.bipush 9, 2) := by decide +kernel
theorem dX7_count_4 : decode cX7_count 4 = .ok (.invokestatic 16, 3) := by decide +kernel
theorem dX7_count_7 : decode cX7_count 7 = .ok (.ifCond .ne 5, 3) := by decide +kernel
theorem dX7_count_10 : decode cX7_count 10 = .ok (.iconst (-1), 1) := by decide +kernel
theorem dX7_count_11 : decode cX7_count 11 = .ok (.ireturn, 1) := by decide +kernel
theorem dX7_count_12 : decode cX7_count 12 = .ok (.iload_n 1, 1) := by decide +kernel
theorem dX7_count_13 : decode cX7_count 13 = .ok (.bipush 7, 2) := by decide +kernel
theorem dX7_count_15 : decode cX7_count 15 = .ok (.if_icmp .ne 10, 3) := by decide +kernel
theorem dX7_count_18 : decode cX7_count 18 = .ok (.aload_n 0, 1) := by decide +kernel
theorem dX7_count_19 : decode cX7_count 19 = .ok (.getfield 90, 3) := by decide +kernel
theorem dX7_count_22 : decode cX7_count 22 = .ok (.goto 13, 3) := by decide +kernel
theorem dX7_count_25 : decode cX7_count 25 = .ok (.aload_n 0, 1) := by decide +kernel
theorem dX7_count_26 : decode cX7_count 26 = .ok (.getfield 7, 3) := by decide +kernel
theorem dX7_count_29 : decode cX7_count 29 = .ok (.sipush 140, 3) := by decide +kernel
theorem dX7_count_32 : decode cX7_count 32 = .ok (.iload_n 1, 1) := by decide +kernel
theorem dX7_count_33 : decode cX7_count 33 = .ok (.iadd, 1) := by decide +kernel
theorem dX7_count_34 : decode cX7_count 34 = .ok (.iaload, 1) := by decide +kernel
theorem dX7_count_35 : decode cX7_count 35 = .ok (.ireturn, 1) := by decide +kernel
theorem dX7_keep_0 : decode cX7_keep 0 = .ok (.aload_n 0, 1) := by decide +kernel
theorem dX7_keep_1 : decode cX7_keep 1 = .ok (.getfield 90, 3) := by decide +kernel
theorem dX7_keep_4 : decode cX7_keep 4 = .ok (.bipush 8, 2) := by decide +kernel
theorem dX7_keep_6 : decode cX7_keep 6 = .ok (.if_icmp .ne 6, 3) := by decide +kernel
theorem dX7_keep_9 : decode cX7_keep 9 = .ok (.bipush (-3), 2) := by decide +kernel
theorem dX7_keep_11 : decode cX7_keep 11 = .ok (.ireturn, 1) := by decide +kernel
theorem dX7_keep_12 : decode cX7_keep 12 = .ok (.iconst 0, 1) := by decide +kernel
theorem dX7_keep_13 : decode cX7_keep 13 = .ok (.istore_n 1, 1) := by decide +kernel
theorem dX7_keep_14 : decode cX7_keep 14 = .ok (.iload_n 1, 1) := by decide +kernel
theorem dX7_keep_15 : decode cX7_keep 15 = .ok (.sipush 150, 3) := by decide +kernel
theorem dX7_keep_18 : decode cX7_keep 18 = .ok (.if_icmp .ge 30, 3) := by decide +kernel
theorem dX7_keep_21 : decode cX7_keep 21 = .ok (.aload_n 0, 1) := by decide +kernel
theorem dX7_keep_22 : decode cX7_keep 22 = .ok (.getfield 13, 3) := by decide +kernel
theorem dX7_keep_25 : decode cX7_keep 25 = .ok (.sipush 150, 3) := by decide +kernel
theorem dX7_keep_28 : decode cX7_keep 28 = .ok (.aload_n 0, 1) := by decide +kernel
theorem dX7_keep_29 : decode cX7_keep 29 = .ok (.getfield 90, 3) := by decide +kernel
theorem dX7_keep_32 : decode cX7_keep 32 = .ok (.imul, 1) := by decide +kernel
theorem dX7_keep_33 : decode cX7_keep 33 = .ok (.iload_n 1, 1) := by decide +kernel
theorem dX7_keep_34 : decode cX7_keep 34 = .ok (.iadd, 1) := by decide +kernel
theorem dX7_keep_35 : decode cX7_keep 35 = .ok (.aload_n 0, 1) := by decide +kernel
theorem dX7_keep_36 : decode cX7_keep 36 = .ok (.getfield 7, 3) := by decide +kernel
theorem dX7_keep_39 : decode cX7_keep 39 = .ok (.iload_n 1, 1) := by decide +kernel
theorem dX7_keep_40 : decode cX7_keep 40 = .ok (.iaload, 1) := by decide +kernel
theorem dX7_keep_41 : decode cX7_keep 41 = .ok (.iastore, 1) := by decide +kernel
theorem dX7_keep_42 : decode cX7_keep 42 = .ok (.iinc 1 1, 3) := by decide +kernel
theorem dX7_keep_45 : decode cX7_keep 45 = .ok (.goto (-31), 3) := by decide +kernel
theorem dX7_keep_48 : decode cX7_keep 48 = .ok (.aload_n 0, 1) := by decide +kernel
theorem dX7_keep_49 : decode cX7_keep 49 = .ok (.dup, 1) := by decide +kernel
theorem dX7_keep_50 : decode cX7_keep 50 = .ok (.getfield 90, 3) := by decide +kernel
theorem dX7_keep_53 : decode cX7_keep 53 = .ok (.iconst 1, 1) := by decide +kernel
theorem dX7_keep_54 : decode cX7_keep 54 = .ok (.iadd, 1) := by decide +kernel
theorem dX7_keep_55 : decode cX7_keep 55 = .ok (.putfield 90, 3) := by decide +kernel
theorem dX7_keep_58 : decode cX7_keep 58 = .ok (.aload_n 0, 1) := by decide +kernel
theorem dX7_keep_59 : decode cX7_keep 59 = .ok (.getfield 90, 3) := by decide +kernel
theorem dX7_keep_62 : decode cX7_keep 62 = .ok (.ireturn, 1) := by decide +kernel
theorem dX7_back_0 : decode cX7_back 0 = .ok (.aload_n 0, 1) := by decide +kernel
theorem dX7_back_1 : decode cX7_back 1 = .ok (.getfield 90, 3) := by decide +kernel
theorem dX7_back_4 : decode cX7_back 4 = .ok (.ifCond .ne 6, 3) := by decide +kernel
theorem dX7_back_7 : decode cX7_back 7 = .ok (.bipush (-2), 2) := by decide +kernel
theorem dX7_back_9 : decode cX7_back 9 = .ok (.ireturn, 1) := by decide +kernel
theorem dX7_back_10 : decode cX7_back 10 = .ok (.aload_n 0, 1) := by decide +kernel
theorem dX7_back_11 : decode cX7_back 11 = .ok (.dup, 1) := by decide +kernel
theorem dX7_back_12 : decode cX7_back 12 = .ok (.getfield 90, 3) := by decide +kernel
theorem dX7_back_15 : decode cX7_back 15 = .ok (.iconst 1, 1) := by decide +kernel
theorem dX7_back_16 : decode cX7_back 16 = .ok (.isub, 1) := by decide +kernel
theorem dX7_back_17 : decode cX7_back 17 = .ok (.putfield 90, 3) := by decide +kernel
theorem dX7_back_20 : decode cX7_back 20 = .ok (.iconst 0, 1) := by decide +kernel
theorem dX7_back_21 : decode cX7_back 21 = .ok (.istore_n 1, 1) := by decide +kernel
theorem dX7_back_22 : decode cX7_back 22 = .ok (.iload_n 1, 1) := by decide +kernel
theorem dX7_back_23 : decode cX7_back 23 = .ok (.sipush 150, 3) := by decide +kernel
theorem dX7_back_26 : decode cX7_back 26 = .ok (.if_icmp .ge 30, 3) := by decide +kernel
theorem dX7_back_29 : decode cX7_back 29 = .ok (.aload_n 0, 1) := by decide +kernel
theorem dX7_back_30 : decode cX7_back 30 = .ok (.getfield 7, 3) := by decide +kernel
theorem dX7_back_33 : decode cX7_back 33 = .ok (.iload_n 1, 1) := by decide +kernel
theorem dX7_back_34 : decode cX7_back 34 = .ok (.aload_n 0, 1) := by decide +kernel
theorem dX7_back_35 : decode cX7_back 35 = .ok (.getfield 13, 3) := by decide +kernel
theorem dX7_back_38 : decode cX7_back 38 = .ok (.sipush 150, 3) := by decide +kernel
theorem dX7_back_41 : decode cX7_back 41 = .ok (.aload_n 0, 1) := by decide +kernel
theorem dX7_back_42 : decode cX7_back 42 = .ok (.getfield 90, 3) := by decide +kernel
theorem dX7_back_45 : decode cX7_back 45 = .ok (.imul, 1) := by decide +kernel
theorem dX7_back_46 : decode cX7_back 46 = .ok (.iload_n 1, 1) := by decide +kernel
theorem dX7_back_47 : decode cX7_back 47 = .ok (.iadd, 1) := by decide +kernel
theorem dX7_back_48 : decode cX7_back 48 = .ok (.iaload, 1) := by decide +kernel
theorem dX7_back_49 : decode cX7_back 49 = .ok (.iastore, 1) := by decide +kernel
theorem dX7_back_50 : decode cX7_back 50 = .ok (.iinc 1 1, 3) := by decide +kernel
theorem dX7_back_53 : decode cX7_back 53 = .ok (.goto (-31), 3) := by decide +kernel
theorem dX7_back_56 : decode cX7_back 56 = .ok (.aload_n 0, 1) := by decide +kernel
theorem dX7_back_57 : decode cX7_back 57 = .ok (.getfield 7, 3) := by decide +kernel
theorem dX7_back_60 : decode cX7_back 60 = .ok (.sipush 140, 3) := by decide +kernel
theorem dX7_back_63 : decode cX7_back 63 = .ok (.iaload, 1) := by decide +kernel
theorem dX7_back_64 : decode cX7_back 64 = .ok (.ireturn, 1) := by decide +kernel
theorem dL_law_0 : decode cL_law 0 = .ok (.new 7, 3) := by decide +kernel
theorem dL_law_3 : decode cL_law 3 = .ok (.dup, 1) := by decide +kernel
theorem dL_law_4 : decode cL_law 4 = .ok (.invokespecial 9, 3) := by decide +kernel
theorem dL_law_7 : decode cL_law 7 = .ok (.astore_n 1, 1) := by decide +kernel
theorem dL_law_8 : decode cL_law 8 = .ok (.new 10, 3) := by decide +kernel
theorem dL_law_11 : decode cL_law 11 = .ok (.dup, 1) := by decide +kernel
theorem dL_law_12 : decode cL_law 12 = .ok (.invokespecial 12, 3) := by decide +kernel
theorem dL_law_15 : decode cL_law 15 = .ok (.astore_n 2, 1) := by decide +kernel
theorem dL_law_16 : decode cL_law 16 = .ok (.iconst 0, 1) := by decide +kernel
theorem dL_law_17 : decode cL_law 17 = .ok (.istore_n 3, 1) := by decide +kernel
theorem dL_law_18 : decode cL_law 18 = .ok (.iload_n 3, 1) := by decide +kernel
theorem dL_law_19 : decode cL_law 19 = .ok (.aload_n 0, 1) := by decide +kernel
theorem dL_law_20 : decode cL_law 20 = .ok (.arraylength, 1) := by decide +kernel
theorem dL_law_21 : decode cL_law 21 = .ok (.iconst 4, 1) := by decide +kernel
theorem dL_law_22 : decode cL_law 22 = .ok (.isub, 1) := by decide +kernel
theorem dL_law_23 : decode cL_law 23 = .ok (.if_icmp .gt 528, 3) := by decide +kernel
theorem dL_law_26 : decode cL_law 26 = .ok (.aload_n 0, 1) := by decide +kernel
theorem dL_law_27 : decode cL_law 27 = .ok (.iload_n 3, 1) := by decide +kernel
theorem dL_law_28 : decode cL_law 28 = .ok (.iaload, 1) := by decide +kernel
theorem dL_law_29 : decode cL_law 29 = .ok (.bipush 15, 2) := by decide +kernel
theorem dL_law_31 : decode cL_law 31 = .ok (.iand, 1) := by decide +kernel
theorem dL_law_32 : decode cL_law 32 = .ok (.tableswitch 513 0 14 #[76, 115, 138, 187, 220, 263, 286, 309, 332, 365, 398, 431, 464, 487, 500], 76) := by decide +kernel
theorem dL_law_108 : decode cL_law 108 = .ok (.aload_n 1, 1) := by decide +kernel
theorem dL_law_109 : decode cL_law 109 = .ok (.aload_n 0, 1) := by decide +kernel
theorem dL_law_110 : decode cL_law 110 = .ok (.iload_n 3, 1) := by decide +kernel
theorem dL_law_111 : decode cL_law 111 = .ok (.iconst 1, 1) := by decide +kernel
theorem dL_law_112 : decode cL_law 112 = .ok (.iadd, 1) := by decide +kernel
theorem dL_law_113 : decode cL_law 113 = .ok (.iaload, 1) := by decide +kernel
theorem dL_law_114 : decode cL_law 114 = .ok (.ifCond .eq 7, 3) := by decide +kernel
theorem dL_law_117 : decode cL_law 117 = .ok (.iconst 1, 1) := by decide +kernel
theorem dL_law_118 : decode cL_law 118 = .ok (.goto 4, 3) := by decide +kernel
theorem dL_law_121 : decode cL_law 121 = .ok (.iconst 0, 1) := by decide +kernel
theorem dL_law_122 : decode cL_law 122 = .ok (.invokevirtual 13, 3) := by decide +kernel
theorem dL_law_125 : decode cL_law 125 = .ok (.aload_n 2, 1) := by decide +kernel
theorem dL_law_126 : decode cL_law 126 = .ok (.aload_n 0, 1) := by decide +kernel
theorem dL_law_127 : decode cL_law 127 = .ok (.iload_n 3, 1) := by decide +kernel
theorem dL_law_128 : decode cL_law 128 = .ok (.iconst 1, 1) := by decide +kernel
theorem dL_law_129 : decode cL_law 129 = .ok (.iadd, 1) := by decide +kernel
theorem dL_law_130 : decode cL_law 130 = .ok (.iaload, 1) := by decide +kernel
theorem dL_law_131 : decode cL_law 131 = .ok (.ifCond .eq 7, 3) := by decide +kernel
theorem dL_law_134 : decode cL_law 134 = .ok (.iconst 1, 1) := by decide +kernel
theorem dL_law_135 : decode cL_law 135 = .ok (.goto 4, 3) := by decide +kernel
theorem dL_law_138 : decode cL_law 138 = .ok (.iconst 0, 1) := by decide +kernel
theorem dL_law_139 : decode cL_law 139 = .ok (.invokevirtual 17, 3) := by decide +kernel
theorem dL_law_142 : decode cL_law 142 = .ok (.if_icmp .eq 403, 3) := by decide +kernel
theorem dL_law_145 : decode cL_law 145 = .ok (.iconst 0, 1) := by decide +kernel
theorem dL_law_146 : decode cL_law 146 = .ok (.ireturn, 1) := by decide +kernel
theorem dL_law_147 : decode cL_law 147 = .ok (.aload_n 1, 1) := by decide +kernel
theorem dL_law_148 : decode cL_law 148 = .ok (.aload_n 0, 1) := by decide +kernel
theorem dL_law_149 : decode cL_law 149 = .ok (.iload_n 3, 1) := by decide +kernel
theorem dL_law_150 : decode cL_law 150 = .ok (.iconst 1, 1) := by decide +kernel
theorem dL_law_151 : decode cL_law 151 = .ok (.iadd, 1) := by decide +kernel
theorem dL_law_152 : decode cL_law 152 = .ok (.iaload, 1) := by decide +kernel
theorem dL_law_153 : decode cL_law 153 = .ok (.invokevirtual 18, 3) := by decide +kernel
theorem dL_law_156 : decode cL_law 156 = .ok (.aload_n 2, 1) := by decide +kernel
theorem dL_law_157 : decode cL_law 157 = .ok (.aload_n 0, 1) := by decide +kernel
theorem dL_law_158 : decode cL_law 158 = .ok (.iload_n 3, 1) := by decide +kernel
theorem dL_law_159 : decode cL_law 159 = .ok (.iconst 1, 1) := by decide +kernel
theorem dL_law_160 : decode cL_law 160 = .ok (.iadd, 1) := by decide +kernel
theorem dL_law_161 : decode cL_law 161 = .ok (.iaload, 1) := by decide +kernel
theorem dL_law_162 : decode cL_law 162 = .ok (.invokevirtual 22, 3) := by decide +kernel
theorem dL_law_165 : decode cL_law 165 = .ok (.if_icmp .eq 380, 3) := by decide +kernel
theorem dL_law_168 : decode cL_law 168 = .ok (.iconst 0, 1) := by decide +kernel
theorem dL_law_169 : decode cL_law 169 = .ok (.ireturn, 1) := by decide +kernel
theorem dL_law_170 : decode cL_law 170 = .ok (.aload_n 1, 1) := by decide +kernel
theorem dL_law_171 : decode cL_law 171 = .ok (.aload_n 0, 1) := by decide +kernel
theorem dL_law_172 : decode cL_law 172 = .ok (.iload_n 3, 1) := by decide +kernel
theorem dL_law_173 : decode cL_law 173 = .ok (.iconst 1, 1) := by decide +kernel
theorem dL_law_174 : decode cL_law 174 = .ok (.iadd, 1) := by decide +kernel
theorem dL_law_175 : decode cL_law 175 = .ok (.iaload, 1) := by decide +kernel
theorem dL_law_176 : decode cL_law 176 = .ok (.aload_n 0, 1) := by decide +kernel
theorem dL_law_177 : decode cL_law 177 = .ok (.iload_n 3, 1) := by decide +kernel
theorem dL_law_178 : decode cL_law 178 = .ok (.iconst 2, 1) := by decide +kernel
theorem dL_law_179 : decode cL_law 179 = .ok (.iadd, 1) := by decide +kernel
theorem dL_law_180 : decode cL_law 180 = .ok (.iaload, 1) := by decide +kernel
theorem dL_law_181 : decode cL_law 181 = .ok (.ifCond .eq 7, 3) := by decide +kernel
theorem dL_law_184 : decode cL_law 184 = .ok (.iconst 1, 1) := by decide +kernel
theorem dL_law_185 : decode cL_law 185 = .ok (.goto 4, 3) := by decide +kernel
theorem dL_law_188 : decode cL_law 188 = .ok (.iconst 0, 1) := by decide +kernel
theorem dL_law_189 : decode cL_law 189 = .ok (.invokevirtual 23, 3) := by decide +kernel
theorem dL_law_192 : decode cL_law 192 = .ok (.aload_n 2, 1) := by decide +kernel
theorem dL_law_193 : decode cL_law 193 = .ok (.aload_n 0, 1) := by decide +kernel
theorem dL_law_194 : decode cL_law 194 = .ok (.iload_n 3, 1) := by decide +kernel
theorem dL_law_195 : decode cL_law 195 = .ok (.iconst 1, 1) := by decide +kernel
theorem dL_law_196 : decode cL_law 196 = .ok (.iadd, 1) := by decide +kernel
theorem dL_law_197 : decode cL_law 197 = .ok (.iaload, 1) := by decide +kernel
theorem dL_law_198 : decode cL_law 198 = .ok (.aload_n 0, 1) := by decide +kernel
theorem dL_law_199 : decode cL_law 199 = .ok (.iload_n 3, 1) := by decide +kernel
theorem dL_law_200 : decode cL_law 200 = .ok (.iconst 2, 1) := by decide +kernel
theorem dL_law_201 : decode cL_law 201 = .ok (.iadd, 1) := by decide +kernel
theorem dL_law_202 : decode cL_law 202 = .ok (.iaload, 1) := by decide +kernel
theorem dL_law_203 : decode cL_law 203 = .ok (.ifCond .eq 7, 3) := by decide +kernel
theorem dL_law_206 : decode cL_law 206 = .ok (.iconst 1, 1) := by decide +kernel
theorem dL_law_207 : decode cL_law 207 = .ok (.goto 4, 3) := by decide +kernel
theorem dL_law_210 : decode cL_law 210 = .ok (.iconst 0, 1) := by decide +kernel
theorem dL_law_211 : decode cL_law 211 = .ok (.invokevirtual 27, 3) := by decide +kernel
theorem dL_law_214 : decode cL_law 214 = .ok (.if_icmp .eq 331, 3) := by decide +kernel
theorem dL_law_217 : decode cL_law 217 = .ok (.iconst 0, 1) := by decide +kernel
theorem dL_law_218 : decode cL_law 218 = .ok (.ireturn, 1) := by decide +kernel
theorem dL_law_219 : decode cL_law 219 = .ok (.aload_n 1, 1) := by decide +kernel
theorem dL_law_220 : decode cL_law 220 = .ok (.aload_n 0, 1) := by decide +kernel
theorem dL_law_221 : decode cL_law 221 = .ok (.iload_n 3, 1) := by decide +kernel
theorem dL_law_222 : decode cL_law 222 = .ok (.iconst 1, 1) := by decide +kernel
theorem dL_law_223 : decode cL_law 223 = .ok (.iadd, 1) := by decide +kernel
theorem dL_law_224 : decode cL_law 224 = .ok (.iaload, 1) := by decide +kernel
theorem dL_law_225 : decode cL_law 225 = .ok (.aload_n 0, 1) := by decide +kernel
theorem dL_law_226 : decode cL_law 226 = .ok (.iload_n 3, 1) := by decide +kernel
theorem dL_law_227 : decode cL_law 227 = .ok (.iconst 2, 1) := by decide +kernel
theorem dL_law_228 : decode cL_law 228 = .ok (.iadd, 1) := by decide +kernel
theorem dL_law_229 : decode cL_law 229 = .ok (.iaload, 1) := by decide +kernel
theorem dL_law_230 : decode cL_law 230 = .ok (.invokevirtual 28, 3) := by decide +kernel
theorem dL_law_233 : decode cL_law 233 = .ok (.aload_n 2, 1) := by decide +kernel
theorem dL_law_234 : decode cL_law 234 = .ok (.aload_n 0, 1) := by decide +kernel
theorem dL_law_235 : decode cL_law 235 = .ok (.iload_n 3, 1) := by decide +kernel
theorem dL_law_236 : decode cL_law 236 = .ok (.iconst 1, 1) := by decide +kernel
theorem dL_law_237 : decode cL_law 237 = .ok (.iadd, 1) := by decide +kernel
theorem dL_law_238 : decode cL_law 238 = .ok (.iaload, 1) := by decide +kernel
theorem dL_law_239 : decode cL_law 239 = .ok (.aload_n 0, 1) := by decide +kernel
theorem dL_law_240 : decode cL_law 240 = .ok (.iload_n 3, 1) := by decide +kernel
theorem dL_law_241 : decode cL_law 241 = .ok (.iconst 2, 1) := by decide +kernel
theorem dL_law_242 : decode cL_law 242 = .ok (.iadd, 1) := by decide +kernel
theorem dL_law_243 : decode cL_law 243 = .ok (.iaload, 1) := by decide +kernel
theorem dL_law_244 : decode cL_law 244 = .ok (.invokevirtual 32, 3) := by decide +kernel
theorem dL_law_247 : decode cL_law 247 = .ok (.if_icmp .eq 298, 3) := by decide +kernel
theorem dL_law_250 : decode cL_law 250 = .ok (.iconst 0, 1) := by decide +kernel
theorem dL_law_251 : decode cL_law 251 = .ok (.ireturn, 1) := by decide +kernel
theorem dL_law_252 : decode cL_law 252 = .ok (.aload_n 1, 1) := by decide +kernel
theorem dL_law_253 : decode cL_law 253 = .ok (.aload_n 0, 1) := by decide +kernel
theorem dL_law_254 : decode cL_law 254 = .ok (.iload_n 3, 1) := by decide +kernel
theorem dL_law_255 : decode cL_law 255 = .ok (.iconst 1, 1) := by decide +kernel
theorem dL_law_256 : decode cL_law 256 = .ok (.iadd, 1) := by decide +kernel
theorem dL_law_257 : decode cL_law 257 = .ok (.iaload, 1) := by decide +kernel
theorem dL_law_258 : decode cL_law 258 = .ok (.aload_n 0, 1) := by decide +kernel
theorem dL_law_259 : decode cL_law 259 = .ok (.iload_n 3, 1) := by decide +kernel
theorem dL_law_260 : decode cL_law 260 = .ok (.iconst 2, 1) := by decide +kernel
theorem dL_law_261 : decode cL_law 261 = .ok (.iadd, 1) := by decide +kernel
theorem dL_law_262 : decode cL_law 262 = .ok (.iaload, 1) := by decide +kernel
theorem dL_law_263 : decode cL_law 263 = .ok (.aload_n 0, 1) := by decide +kernel
theorem dL_law_264 : decode cL_law 264 = .ok (.iload_n 3, 1) := by decide +kernel
theorem dL_law_265 : decode cL_law 265 = .ok (.iconst 3, 1) := by decide +kernel
theorem dL_law_266 : decode cL_law 266 = .ok (.iadd, 1) := by decide +kernel
theorem dL_law_267 : decode cL_law 267 = .ok (.iaload, 1) := by decide +kernel
theorem dL_law_268 : decode cL_law 268 = .ok (.invokevirtual 33, 3) := by decide +kernel
theorem dL_law_271 : decode cL_law 271 = .ok (.aload_n 2, 1) := by decide +kernel
theorem dL_law_272 : decode cL_law 272 = .ok (.aload_n 0, 1) := by decide +kernel
theorem dL_law_273 : decode cL_law 273 = .ok (.iload_n 3, 1) := by decide +kernel
theorem dL_law_274 : decode cL_law 274 = .ok (.iconst 1, 1) := by decide +kernel
theorem dL_law_275 : decode cL_law 275 = .ok (.iadd, 1) := by decide +kernel
theorem dL_law_276 : decode cL_law 276 = .ok (.iaload, 1) := by decide +kernel
theorem dL_law_277 : decode cL_law 277 = .ok (.aload_n 0, 1) := by decide +kernel
theorem dL_law_278 : decode cL_law 278 = .ok (.iload_n 3, 1) := by decide +kernel
theorem dL_law_279 : decode cL_law 279 = .ok (.iconst 2, 1) := by decide +kernel
theorem dL_law_280 : decode cL_law 280 = .ok (.iadd, 1) := by decide +kernel
theorem dL_law_281 : decode cL_law 281 = .ok (.iaload, 1) := by decide +kernel
theorem dL_law_282 : decode cL_law 282 = .ok (.aload_n 0, 1) := by decide +kernel
theorem dL_law_283 : decode cL_law 283 = .ok (.iload_n 3, 1) := by decide +kernel
theorem dL_law_284 : decode cL_law 284 = .ok (.iconst 3, 1) := by decide +kernel
theorem dL_law_285 : decode cL_law 285 = .ok (.iadd, 1) := by decide +kernel
theorem dL_law_286 : decode cL_law 286 = .ok (.iaload, 1) := by decide +kernel
theorem dL_law_287 : decode cL_law 287 = .ok (.invokevirtual 37, 3) := by decide +kernel
theorem dL_law_290 : decode cL_law 290 = .ok (.if_icmp .eq 255, 3) := by decide +kernel
theorem dL_law_293 : decode cL_law 293 = .ok (.iconst 0, 1) := by decide +kernel
theorem dL_law_294 : decode cL_law 294 = .ok (.ireturn, 1) := by decide +kernel
theorem dL_law_295 : decode cL_law 295 = .ok (.aload_n 1, 1) := by decide +kernel
theorem dL_law_296 : decode cL_law 296 = .ok (.aload_n 0, 1) := by decide +kernel
theorem dL_law_297 : decode cL_law 297 = .ok (.iload_n 3, 1) := by decide +kernel
theorem dL_law_298 : decode cL_law 298 = .ok (.iconst 1, 1) := by decide +kernel
theorem dL_law_299 : decode cL_law 299 = .ok (.iadd, 1) := by decide +kernel
theorem dL_law_300 : decode cL_law 300 = .ok (.iaload, 1) := by decide +kernel
theorem dL_law_301 : decode cL_law 301 = .ok (.invokevirtual 38, 3) := by decide +kernel
theorem dL_law_304 : decode cL_law 304 = .ok (.aload_n 2, 1) := by decide +kernel
theorem dL_law_305 : decode cL_law 305 = .ok (.aload_n 0, 1) := by decide +kernel
theorem dL_law_306 : decode cL_law 306 = .ok (.iload_n 3, 1) := by decide +kernel
theorem dL_law_307 : decode cL_law 307 = .ok (.iconst 1, 1) := by decide +kernel
theorem dL_law_308 : decode cL_law 308 = .ok (.iadd, 1) := by decide +kernel
theorem dL_law_309 : decode cL_law 309 = .ok (.iaload, 1) := by decide +kernel
theorem dL_law_310 : decode cL_law 310 = .ok (.invokevirtual 41, 3) := by decide +kernel
theorem dL_law_313 : decode cL_law 313 = .ok (.if_icmp .eq 232, 3) := by decide +kernel
theorem dL_law_316 : decode cL_law 316 = .ok (.iconst 0, 1) := by decide +kernel
theorem dL_law_317 : decode cL_law 317 = .ok (.ireturn, 1) := by decide +kernel
theorem dL_law_318 : decode cL_law 318 = .ok (.aload_n 1, 1) := by decide +kernel
theorem dL_law_319 : decode cL_law 319 = .ok (.aload_n 0, 1) := by decide +kernel
theorem dL_law_320 : decode cL_law 320 = .ok (.iload_n 3, 1) := by decide +kernel
theorem dL_law_321 : decode cL_law 321 = .ok (.iconst 1, 1) := by decide +kernel
theorem dL_law_322 : decode cL_law 322 = .ok (.iadd, 1) := by decide +kernel
theorem dL_law_323 : decode cL_law 323 = .ok (.iaload, 1) := by decide +kernel
theorem dL_law_324 : decode cL_law 324 = .ok (.invokevirtual 42, 3) := by decide +kernel
theorem dL_law_327 : decode cL_law 327 = .ok (.aload_n 2, 1) := by decide +kernel
theorem dL_law_328 : decode cL_law 328 = .ok (.aload_n 0, 1) := by decide +kernel
theorem dL_law_329 : decode cL_law 329 = .ok (.iload_n 3, 1) := by decide +kernel
theorem dL_law_330 : decode cL_law 330 = .ok (.iconst 1, 1) := by decide +kernel
theorem dL_law_331 : decode cL_law 331 = .ok (.iadd, 1) := by decide +kernel
theorem dL_law_332 : decode cL_law 332 = .ok (.iaload, 1) := by decide +kernel
theorem dL_law_333 : decode cL_law 333 = .ok (.invokevirtual 45, 3) := by decide +kernel
theorem dL_law_336 : decode cL_law 336 = .ok (.if_icmp .eq 209, 3) := by decide +kernel
theorem dL_law_339 : decode cL_law 339 = .ok (.iconst 0, 1) := by decide +kernel
theorem dL_law_340 : decode cL_law 340 = .ok (.ireturn, 1) := by decide +kernel
theorem dL_law_341 : decode cL_law 341 = .ok (.aload_n 1, 1) := by decide +kernel
theorem dL_law_342 : decode cL_law 342 = .ok (.aload_n 0, 1) := by decide +kernel
theorem dL_law_343 : decode cL_law 343 = .ok (.iload_n 3, 1) := by decide +kernel
theorem dL_law_344 : decode cL_law 344 = .ok (.iconst 1, 1) := by decide +kernel
theorem dL_law_345 : decode cL_law 345 = .ok (.iadd, 1) := by decide +kernel
theorem dL_law_346 : decode cL_law 346 = .ok (.iaload, 1) := by decide +kernel
theorem dL_law_347 : decode cL_law 347 = .ok (.invokevirtual 46, 3) := by decide +kernel
theorem dL_law_350 : decode cL_law 350 = .ok (.aload_n 2, 1) := by decide +kernel
theorem dL_law_351 : decode cL_law 351 = .ok (.aload_n 0, 1) := by decide +kernel
theorem dL_law_352 : decode cL_law 352 = .ok (.iload_n 3, 1) := by decide +kernel
theorem dL_law_353 : decode cL_law 353 = .ok (.iconst 1, 1) := by decide +kernel
theorem dL_law_354 : decode cL_law 354 = .ok (.iadd, 1) := by decide +kernel
theorem dL_law_355 : decode cL_law 355 = .ok (.iaload, 1) := by decide +kernel
theorem dL_law_356 : decode cL_law 356 = .ok (.invokevirtual 49, 3) := by decide +kernel
theorem dL_law_359 : decode cL_law 359 = .ok (.if_icmp .eq 186, 3) := by decide +kernel
theorem dL_law_362 : decode cL_law 362 = .ok (.iconst 0, 1) := by decide +kernel
theorem dL_law_363 : decode cL_law 363 = .ok (.ireturn, 1) := by decide +kernel
theorem dL_law_364 : decode cL_law 364 = .ok (.aload_n 1, 1) := by decide +kernel
theorem dL_law_365 : decode cL_law 365 = .ok (.aload_n 0, 1) := by decide +kernel
theorem dL_law_366 : decode cL_law 366 = .ok (.iload_n 3, 1) := by decide +kernel
theorem dL_law_367 : decode cL_law 367 = .ok (.iconst 1, 1) := by decide +kernel
theorem dL_law_368 : decode cL_law 368 = .ok (.iadd, 1) := by decide +kernel
theorem dL_law_369 : decode cL_law 369 = .ok (.iaload, 1) := by decide +kernel
theorem dL_law_370 : decode cL_law 370 = .ok (.aload_n 0, 1) := by decide +kernel
theorem dL_law_371 : decode cL_law 371 = .ok (.iload_n 3, 1) := by decide +kernel
theorem dL_law_372 : decode cL_law 372 = .ok (.iconst 2, 1) := by decide +kernel
theorem dL_law_373 : decode cL_law 373 = .ok (.iadd, 1) := by decide +kernel
theorem dL_law_374 : decode cL_law 374 = .ok (.iaload, 1) := by decide +kernel
theorem dL_law_375 : decode cL_law 375 = .ok (.invokevirtual 50, 3) := by decide +kernel
theorem dL_law_378 : decode cL_law 378 = .ok (.aload_n 2, 1) := by decide +kernel
theorem dL_law_379 : decode cL_law 379 = .ok (.aload_n 0, 1) := by decide +kernel
theorem dL_law_380 : decode cL_law 380 = .ok (.iload_n 3, 1) := by decide +kernel
theorem dL_law_381 : decode cL_law 381 = .ok (.iconst 1, 1) := by decide +kernel
theorem dL_law_382 : decode cL_law 382 = .ok (.iadd, 1) := by decide +kernel
theorem dL_law_383 : decode cL_law 383 = .ok (.iaload, 1) := by decide +kernel
theorem dL_law_384 : decode cL_law 384 = .ok (.aload_n 0, 1) := by decide +kernel
theorem dL_law_385 : decode cL_law 385 = .ok (.iload_n 3, 1) := by decide +kernel
theorem dL_law_386 : decode cL_law 386 = .ok (.iconst 2, 1) := by decide +kernel
theorem dL_law_387 : decode cL_law 387 = .ok (.iadd, 1) := by decide +kernel
theorem dL_law_388 : decode cL_law 388 = .ok (.iaload, 1) := by decide +kernel
theorem dL_law_389 : decode cL_law 389 = .ok (.invokevirtual 53, 3) := by decide +kernel
theorem dL_law_392 : decode cL_law 392 = .ok (.if_icmp .eq 153, 3) := by decide +kernel
theorem dL_law_395 : decode cL_law 395 = .ok (.iconst 0, 1) := by decide +kernel
theorem dL_law_396 : decode cL_law 396 = .ok (.ireturn, 1) := by decide +kernel
theorem dL_law_397 : decode cL_law 397 = .ok (.aload_n 1, 1) := by decide +kernel
theorem dL_law_398 : decode cL_law 398 = .ok (.aload_n 0, 1) := by decide +kernel
theorem dL_law_399 : decode cL_law 399 = .ok (.iload_n 3, 1) := by decide +kernel
theorem dL_law_400 : decode cL_law 400 = .ok (.iconst 1, 1) := by decide +kernel
theorem dL_law_401 : decode cL_law 401 = .ok (.iadd, 1) := by decide +kernel
theorem dL_law_402 : decode cL_law 402 = .ok (.iaload, 1) := by decide +kernel
theorem dL_law_403 : decode cL_law 403 = .ok (.aload_n 0, 1) := by decide +kernel
theorem dL_law_404 : decode cL_law 404 = .ok (.iload_n 3, 1) := by decide +kernel
theorem dL_law_405 : decode cL_law 405 = .ok (.iconst 2, 1) := by decide +kernel
theorem dL_law_406 : decode cL_law 406 = .ok (.iadd, 1) := by decide +kernel
theorem dL_law_407 : decode cL_law 407 = .ok (.iaload, 1) := by decide +kernel
theorem dL_law_408 : decode cL_law 408 = .ok (.invokevirtual 54, 3) := by decide +kernel
theorem dL_law_411 : decode cL_law 411 = .ok (.aload_n 2, 1) := by decide +kernel
theorem dL_law_412 : decode cL_law 412 = .ok (.aload_n 0, 1) := by decide +kernel
theorem dL_law_413 : decode cL_law 413 = .ok (.iload_n 3, 1) := by decide +kernel
theorem dL_law_414 : decode cL_law 414 = .ok (.iconst 1, 1) := by decide +kernel
theorem dL_law_415 : decode cL_law 415 = .ok (.iadd, 1) := by decide +kernel
theorem dL_law_416 : decode cL_law 416 = .ok (.iaload, 1) := by decide +kernel
theorem dL_law_417 : decode cL_law 417 = .ok (.aload_n 0, 1) := by decide +kernel
theorem dL_law_418 : decode cL_law 418 = .ok (.iload_n 3, 1) := by decide +kernel
theorem dL_law_419 : decode cL_law 419 = .ok (.iconst 2, 1) := by decide +kernel
theorem dL_law_420 : decode cL_law 420 = .ok (.iadd, 1) := by decide +kernel
theorem dL_law_421 : decode cL_law 421 = .ok (.iaload, 1) := by decide +kernel
theorem dL_law_422 : decode cL_law 422 = .ok (.invokevirtual 57, 3) := by decide +kernel
theorem dL_law_425 : decode cL_law 425 = .ok (.if_icmp .eq 120, 3) := by decide +kernel
theorem dL_law_428 : decode cL_law 428 = .ok (.iconst 0, 1) := by decide +kernel
theorem dL_law_429 : decode cL_law 429 = .ok (.ireturn, 1) := by decide +kernel
theorem dL_law_430 : decode cL_law 430 = .ok (.aload_n 1, 1) := by decide +kernel
theorem dL_law_431 : decode cL_law 431 = .ok (.aload_n 0, 1) := by decide +kernel
theorem dL_law_432 : decode cL_law 432 = .ok (.iload_n 3, 1) := by decide +kernel
theorem dL_law_433 : decode cL_law 433 = .ok (.iconst 1, 1) := by decide +kernel
theorem dL_law_434 : decode cL_law 434 = .ok (.iadd, 1) := by decide +kernel
theorem dL_law_435 : decode cL_law 435 = .ok (.iaload, 1) := by decide +kernel
theorem dL_law_436 : decode cL_law 436 = .ok (.aload_n 0, 1) := by decide +kernel
theorem dL_law_437 : decode cL_law 437 = .ok (.iload_n 3, 1) := by decide +kernel
theorem dL_law_438 : decode cL_law 438 = .ok (.iconst 2, 1) := by decide +kernel
theorem dL_law_439 : decode cL_law 439 = .ok (.iadd, 1) := by decide +kernel
theorem dL_law_440 : decode cL_law 440 = .ok (.iaload, 1) := by decide +kernel
theorem dL_law_441 : decode cL_law 441 = .ok (.invokevirtual 58, 3) := by decide +kernel
theorem dL_law_444 : decode cL_law 444 = .ok (.aload_n 2, 1) := by decide +kernel
theorem dL_law_445 : decode cL_law 445 = .ok (.aload_n 0, 1) := by decide +kernel
theorem dL_law_446 : decode cL_law 446 = .ok (.iload_n 3, 1) := by decide +kernel
theorem dL_law_447 : decode cL_law 447 = .ok (.iconst 1, 1) := by decide +kernel
theorem dL_law_448 : decode cL_law 448 = .ok (.iadd, 1) := by decide +kernel
theorem dL_law_449 : decode cL_law 449 = .ok (.iaload, 1) := by decide +kernel
theorem dL_law_450 : decode cL_law 450 = .ok (.aload_n 0, 1) := by decide +kernel
theorem dL_law_451 : decode cL_law 451 = .ok (.iload_n 3, 1) := by decide +kernel
theorem dL_law_452 : decode cL_law 452 = .ok (.iconst 2, 1) := by decide +kernel
theorem dL_law_453 : decode cL_law 453 = .ok (.iadd, 1) := by decide +kernel
theorem dL_law_454 : decode cL_law 454 = .ok (.iaload, 1) := by decide +kernel
theorem dL_law_455 : decode cL_law 455 = .ok (.invokevirtual 61, 3) := by decide +kernel
theorem dL_law_458 : decode cL_law 458 = .ok (.if_icmp .eq 87, 3) := by decide +kernel
theorem dL_law_461 : decode cL_law 461 = .ok (.iconst 0, 1) := by decide +kernel
theorem dL_law_462 : decode cL_law 462 = .ok (.ireturn, 1) := by decide +kernel
theorem dL_law_463 : decode cL_law 463 = .ok (.aload_n 1, 1) := by decide +kernel
theorem dL_law_464 : decode cL_law 464 = .ok (.aload_n 0, 1) := by decide +kernel
theorem dL_law_465 : decode cL_law 465 = .ok (.iload_n 3, 1) := by decide +kernel
theorem dL_law_466 : decode cL_law 466 = .ok (.iconst 1, 1) := by decide +kernel
theorem dL_law_467 : decode cL_law 467 = .ok (.iadd, 1) := by decide +kernel
theorem dL_law_468 : decode cL_law 468 = .ok (.iaload, 1) := by decide +kernel
theorem dL_law_469 : decode cL_law 469 = .ok (.aload_n 0, 1) := by decide +kernel
theorem dL_law_470 : decode cL_law 470 = .ok (.iload_n 3, 1) := by decide +kernel
theorem dL_law_471 : decode cL_law 471 = .ok (.iconst 2, 1) := by decide +kernel
theorem dL_law_472 : decode cL_law 472 = .ok (.iadd, 1) := by decide +kernel
theorem dL_law_473 : decode cL_law 473 = .ok (.iaload, 1) := by decide +kernel
theorem dL_law_474 : decode cL_law 474 = .ok (.invokevirtual 62, 3) := by decide +kernel
theorem dL_law_477 : decode cL_law 477 = .ok (.aload_n 2, 1) := by decide +kernel
theorem dL_law_478 : decode cL_law 478 = .ok (.aload_n 0, 1) := by decide +kernel
theorem dL_law_479 : decode cL_law 479 = .ok (.iload_n 3, 1) := by decide +kernel
theorem dL_law_480 : decode cL_law 480 = .ok (.iconst 1, 1) := by decide +kernel
theorem dL_law_481 : decode cL_law 481 = .ok (.iadd, 1) := by decide +kernel
theorem dL_law_482 : decode cL_law 482 = .ok (.iaload, 1) := by decide +kernel
theorem dL_law_483 : decode cL_law 483 = .ok (.aload_n 0, 1) := by decide +kernel
theorem dL_law_484 : decode cL_law 484 = .ok (.iload_n 3, 1) := by decide +kernel
theorem dL_law_485 : decode cL_law 485 = .ok (.iconst 2, 1) := by decide +kernel
theorem dL_law_486 : decode cL_law 486 = .ok (.iadd, 1) := by decide +kernel
theorem dL_law_487 : decode cL_law 487 = .ok (.iaload, 1) := by decide +kernel
theorem dL_law_488 : decode cL_law 488 = .ok (.invokevirtual 65, 3) := by decide +kernel
theorem dL_law_491 : decode cL_law 491 = .ok (.if_icmp .eq 54, 3) := by decide +kernel
theorem dL_law_494 : decode cL_law 494 = .ok (.iconst 0, 1) := by decide +kernel
theorem dL_law_495 : decode cL_law 495 = .ok (.ireturn, 1) := by decide +kernel
theorem dL_law_496 : decode cL_law 496 = .ok (.aload_n 1, 1) := by decide +kernel
theorem dL_law_497 : decode cL_law 497 = .ok (.aload_n 0, 1) := by decide +kernel
theorem dL_law_498 : decode cL_law 498 = .ok (.iload_n 3, 1) := by decide +kernel
theorem dL_law_499 : decode cL_law 499 = .ok (.iconst 1, 1) := by decide +kernel
theorem dL_law_500 : decode cL_law 500 = .ok (.iadd, 1) := by decide +kernel
theorem dL_law_501 : decode cL_law 501 = .ok (.iaload, 1) := by decide +kernel
theorem dL_law_502 : decode cL_law 502 = .ok (.invokevirtual 66, 3) := by decide +kernel
theorem dL_law_505 : decode cL_law 505 = .ok (.aload_n 2, 1) := by decide +kernel
theorem dL_law_506 : decode cL_law 506 = .ok (.aload_n 0, 1) := by decide +kernel
theorem dL_law_507 : decode cL_law 507 = .ok (.iload_n 3, 1) := by decide +kernel
theorem dL_law_508 : decode cL_law 508 = .ok (.iconst 1, 1) := by decide +kernel
theorem dL_law_509 : decode cL_law 509 = .ok (.iadd, 1) := by decide +kernel
theorem dL_law_510 : decode cL_law 510 = .ok (.iaload, 1) := by decide +kernel
theorem dL_law_511 : decode cL_law 511 = .ok (.invokevirtual 69, 3) := by decide +kernel
theorem dL_law_514 : decode cL_law 514 = .ok (.if_icmp .eq 31, 3) := by decide +kernel
theorem dL_law_517 : decode cL_law 517 = .ok (.iconst 0, 1) := by decide +kernel
theorem dL_law_518 : decode cL_law 518 = .ok (.ireturn, 1) := by decide +kernel
theorem dL_law_519 : decode cL_law 519 = .ok (.aload_n 1, 1) := by decide +kernel
theorem dL_law_520 : decode cL_law 520 = .ok (.invokevirtual 70, 3) := by decide +kernel
theorem dL_law_523 : decode cL_law 523 = .ok (.aload_n 2, 1) := by decide +kernel
theorem dL_law_524 : decode cL_law 524 = .ok (.invokevirtual 74, 3) := by decide +kernel
theorem dL_law_527 : decode cL_law 527 = .ok (.if_icmp .eq 18, 3) := by decide +kernel
theorem dL_law_530 : decode cL_law 530 = .ok (.iconst 0, 1) := by decide +kernel
theorem dL_law_531 : decode cL_law 531 = .ok (.ireturn, 1) := by decide +kernel
theorem dL_law_532 : decode cL_law 532 = .ok (.aload_n 1, 1) := by decide +kernel
theorem dL_law_533 : decode cL_law 533 = .ok (.invokevirtual 75, 3) := by decide +kernel
theorem dL_law_536 : decode cL_law 536 = .ok (.aload_n 2, 1) := by decide +kernel
theorem dL_law_537 : decode cL_law 537 = .ok (.invokevirtual 78, 3) := by decide +kernel
theorem dL_law_540 : decode cL_law 540 = .ok (.if_icmp .eq 5, 3) := by decide +kernel
theorem dL_law_543 : decode cL_law 543 = .ok (.iconst 0, 1) := by decide +kernel
theorem dL_law_544 : decode cL_law 544 = .ok (.ireturn, 1) := by decide +kernel
theorem dL_law_545 : decode cL_law 545 = .ok (.iinc 3 4, 3) := by decide +kernel
theorem dL_law_548 : decode cL_law 548 = .ok (.goto (-530), 3) := by decide +kernel
theorem dL_law_551 : decode cL_law 551 = .ok (.iconst 1, 1) := by decide +kernel
theorem dL_law_552 : decode cL_law 552 = .ok (.ireturn, 1) := by decide +kernel
