/-! decode rows: the class -/
theorem dX0_init_0 : decode cX0_init 0 = .ok (.aload_n 0, 1) := by decide +kernel
theorem dX0_init_1 : decode cX0_init 1 = .ok (.invokespecial 3, 3) := by decide +kernel
theorem dX0_init_4 : decode cX0_init 4 = .ok (.aload_n 0, 1) := by decide +kernel
theorem dX0_init_5 : decode cX0_init 5 = .ok (.new 9, 3) := by decide +kernel
theorem dX0_init_8 : decode cX0_init 8 = .ok (.dup, 1) := by decide +kernel
theorem dX0_init_9 : decode cX0_init 9 = .ok (.invokespecial 11, 3) := by decide +kernel
theorem dX0_init_12 : decode cX0_init 12 = .ok (.putfield 12, 3) := by decide +kernel
theorem dX0_init_15 : decode cX0_init 15 = .ok (.aload_n 0, 1) := by decide +kernel
theorem dX0_init_16 : decode cX0_init 16 = .ok (.getstatic 18, 3) := by decide +kernel
theorem dX0_init_19 : decode cX0_init 19 = .ok (.arraylength, 1) := by decide +kernel
theorem dX0_init_20 : decode cX0_init 20 = .ok (.anewarray 22, 3) := by decide +kernel
theorem dX0_init_23 : decode cX0_init 23 = .ok (.putfield 24, 3) := by decide +kernel
theorem dX0_init_26 : decode cX0_init 26 = .ok (.aload_n 0, 1) := by decide +kernel
theorem dX0_init_27 : decode cX0_init 27 = .ok (.getstatic 28, 3) := by decide +kernel
theorem dX0_init_30 : decode cX0_init 30 = .ok (.arraylength, 1) := by decide +kernel
theorem dX0_init_31 : decode cX0_init 31 = .ok (.anewarray 31, 3) := by decide +kernel
theorem dX0_init_34 : decode cX0_init 34 = .ok (.putfield 33, 3) := by decide +kernel
theorem dX0_init_37 : decode cX0_init 37 = .ok (.aload_n 0, 1) := by decide +kernel
theorem dX0_init_38 : decode cX0_init 38 = .ok (.new 37, 3) := by decide +kernel
theorem dX0_init_41 : decode cX0_init 41 = .ok (.dup, 1) := by decide +kernel
theorem dX0_init_42 : decode cX0_init 42 = .ok (.iconst 0, 1) := by decide +kernel
theorem dX0_init_43 : decode cX0_init 43 = .ok (.iconst 3, 1) := by decide +kernel
theorem dX0_init_44 : decode cX0_init 44 = .ok (.invokespecial 39, 3) := by decide +kernel
theorem dX0_init_47 : decode cX0_init 47 = .ok (.putfield 42, 3) := by decide +kernel
theorem dX0_init_50 : decode cX0_init 50 = .ok (.aload_n 0, 1) := by decide +kernel
theorem dX0_init_51 : decode cX0_init 51 = .ok (.new 37, 3) := by decide +kernel
theorem dX0_init_54 : decode cX0_init 54 = .ok (.dup, 1) := by decide +kernel
theorem dX0_init_55 : decode cX0_init 55 = .ok (.iconst 1, 1) := by decide +kernel
theorem dX0_init_56 : decode cX0_init 56 = .ok (.bipush 11, 2) := by decide +kernel
theorem dX0_init_58 : decode cX0_init 58 = .ok (.invokespecial 39, 3) := by decide +kernel
theorem dX0_init_61 : decode cX0_init 61 = .ok (.putfield 46, 3) := by decide +kernel
theorem dX0_init_64 : decode cX0_init 64 = .ok (.aload_n 0, 1) := by decide +kernel
theorem dX0_init_65 : decode cX0_init 65 = .ok (.new 49, 3) := by decide +kernel
theorem dX0_init_68 : decode cX0_init 68 = .ok (.dup, 1) := by decide +kernel
theorem dX0_init_69 : decode cX0_init 69 = .ok (.invokespecial 51, 3) := by decide +kernel
theorem dX0_init_72 : decode cX0_init 72 = .ok (.putfield 52, 3) := by decide +kernel
theorem dX0_init_75 : decode cX0_init 75 = .ok (.aload_n 0, 1) := by decide +kernel
theorem dX0_init_76 : decode cX0_init 76 = .ok (.bipush 12, 2) := by decide +kernel
theorem dX0_init_78 : decode cX0_init 78 = .ok (.putfield 56, 3) := by decide +kernel
theorem dX0_init_81 : decode cX0_init 81 = .ok (.iconst 0, 1) := by decide +kernel
theorem dX0_init_82 : decode cX0_init 82 = .ok (.istore_n 1, 1) := by decide +kernel
theorem dX0_init_83 : decode cX0_init 83 = .ok (.iload_n 1, 1) := by decide +kernel
theorem dX0_init_84 : decode cX0_init 84 = .ok (.aload_n 0, 1) := by decide +kernel
theorem dX0_init_85 : decode cX0_init 85 = .ok (.getfield 24, 3) := by decide +kernel
theorem dX0_init_88 : decode cX0_init 88 = .ok (.arraylength, 1) := by decide +kernel
theorem dX0_init_89 : decode cX0_init 89 = .ok (.if_icmp .ge 35, 3) := by decide +kernel
theorem dX0_init_92 : decode cX0_init 92 = .ok (.iload_n 1, 1) := by decide +kernel
theorem dX0_init_93 : decode cX0_init 93 = .ok (.getstatic 18, 3) := by decide +kernel
theorem dX0_init_96 : decode cX0_init 96 = .ok (.arraylength, 1) := by decide +kernel
theorem dX0_init_97 : decode cX0_init 97 = .ok (.if_icmp .ge 27, 3) := by decide +kernel
theorem dX0_init_100 : decode cX0_init 100 = .ok (.aload_n 0, 1) := by decide +kernel
theorem dX0_init_101 : decode cX0_init 101 = .ok (.getfield 24, 3) := by decide +kernel
theorem dX0_init_104 : decode cX0_init 104 = .ok (.iload_n 1, 1) := by decide +kernel
theorem dX0_init_105 : decode cX0_init 105 = .ok (.new 22, 3) := by decide +kernel
theorem dX0_init_108 : decode cX0_init 108 = .ok (.dup, 1) := by decide +kernel
theorem dX0_init_109 : decode cX0_init 109 = .ok (.getstatic 18, 3) := by decide +kernel
theorem dX0_init_112 : decode cX0_init 112 = .ok (.iload_n 1, 1) := by decide +kernel
theorem dX0_init_113 : decode cX0_init 113 = .ok (.iaload, 1) := by decide +kernel
theorem dX0_init_114 : decode cX0_init 114 = .ok (.invokespecial 60, 3) := by decide +kernel
theorem dX0_init_117 : decode cX0_init 117 = .ok (.aastore, 1) := by decide +kernel
theorem dX0_init_118 : decode cX0_init 118 = .ok (.iinc 1 1, 3) := by decide +kernel
theorem dX0_init_121 : decode cX0_init 121 = .ok (.goto (-38), 3) := by decide +kernel
theorem dX0_init_124 : decode cX0_init 124 = .ok (.iconst 0, 1) := by decide +kernel
theorem dX0_init_125 : decode cX0_init 125 = .ok (.istore_n 1, 1) := by decide +kernel
theorem dX0_init_126 : decode cX0_init 126 = .ok (.iload_n 1, 1) := by decide +kernel
theorem dX0_init_127 : decode cX0_init 127 = .ok (.aload_n 0, 1) := by decide +kernel
theorem dX0_init_128 : decode cX0_init 128 = .ok (.getfield 33, 3) := by decide +kernel
theorem dX0_init_131 : decode cX0_init 131 = .ok (.arraylength, 1) := by decide +kernel
theorem dX0_init_132 : decode cX0_init 132 = .ok (.if_icmp .ge 35, 3) := by decide +kernel
theorem dX0_init_135 : decode cX0_init 135 = .ok (.iload_n 1, 1) := by decide +kernel
theorem dX0_init_136 : decode cX0_init 136 = .ok (.getstatic 28, 3) := by decide +kernel
theorem dX0_init_139 : decode cX0_init 139 = .ok (.arraylength, 1) := by decide +kernel
theorem dX0_init_140 : decode cX0_init 140 = .ok (.if_icmp .ge 27, 3) := by decide +kernel
theorem dX0_init_143 : decode cX0_init 143 = .ok (.aload_n 0, 1) := by decide +kernel
theorem dX0_init_144 : decode cX0_init 144 = .ok (.getfield 33, 3) := by decide +kernel
theorem dX0_init_147 : decode cX0_init 147 = .ok (.iload_n 1, 1) := by decide +kernel
theorem dX0_init_148 : decode cX0_init 148 = .ok (.new 31, 3) := by decide +kernel
theorem dX0_init_151 : decode cX0_init 151 = .ok (.dup, 1) := by decide +kernel
theorem dX0_init_152 : decode cX0_init 152 = .ok (.getstatic 28, 3) := by decide +kernel
theorem dX0_init_155 : decode cX0_init 155 = .ok (.iload_n 1, 1) := by decide +kernel
theorem dX0_init_156 : decode cX0_init 156 = .ok (.iaload, 1) := by decide +kernel
theorem dX0_init_157 : decode cX0_init 157 = .ok (.invokespecial 63, 3) := by decide +kernel
theorem dX0_init_160 : decode cX0_init 160 = .ok (.aastore, 1) := by decide +kernel
theorem dX0_init_161 : decode cX0_init 161 = .ok (.iinc 1 1, 3) := by decide +kernel
theorem dX0_init_164 : decode cX0_init 164 = .ok (.goto (-38), 3) := by decide +kernel
theorem dX0_init_167 : decode cX0_init 167 = .ok (.return_, 1) := by decide +kernel
theorem dX0_copyFrom_0 : decode cX0_copyFrom 0 = .ok (.aload_n 0, 1) := by decide +kernel
theorem dX0_copyFrom_1 : decode cX0_copyFrom 1 = .ok (.getfield 12, 3) := by decide +kernel
theorem dX0_copyFrom_4 : decode cX0_copyFrom 4 = .ok (.aload_n 1, 1) := by decide +kernel
theorem dX0_copyFrom_5 : decode cX0_copyFrom 5 = .ok (.getfield 12, 3) := by decide +kernel
theorem dX0_copyFrom_8 : decode cX0_copyFrom 8 = .ok (.invokevirtual 64, 3) := by decide +kernel
theorem dX0_copyFrom_11 : decode cX0_copyFrom 11 = .ok (.iconst 0, 1) := by decide +kernel
theorem dX0_copyFrom_12 : decode cX0_copyFrom 12 = .ok (.istore_n 2, 1) := by decide +kernel
theorem dX0_copyFrom_13 : decode cX0_copyFrom 13 = .ok (.iload_n 2, 1) := by decide +kernel
theorem dX0_copyFrom_14 : decode cX0_copyFrom 14 = .ok (.aload_n 0, 1) := by decide +kernel
theorem dX0_copyFrom_15 : decode cX0_copyFrom 15 = .ok (.getfield 24, 3) := by decide +kernel
theorem dX0_copyFrom_18 : decode cX0_copyFrom 18 = .ok (.arraylength, 1) := by decide +kernel
theorem dX0_copyFrom_19 : decode cX0_copyFrom 19 = .ok (.if_icmp .ge 33, 3) := by decide +kernel
theorem dX0_copyFrom_22 : decode cX0_copyFrom 22 = .ok (.iload_n 2, 1) := by decide +kernel
theorem dX0_copyFrom_23 : decode cX0_copyFrom 23 = .ok (.aload_n 1, 1) := by decide +kernel
theorem dX0_copyFrom_24 : decode cX0_copyFrom 24 = .ok (.getfield 24, 3) := by decide +kernel
theorem dX0_copyFrom_27 : decode cX0_copyFrom 27 = .ok (.arraylength, 1) := by decide +kernel
theorem dX0_copyFrom_28 : decode cX0_copyFrom 28 = .ok (.if_icmp .ge 24, 3) := by decide +kernel
theorem dX0_copyFrom_31 : decode cX0_copyFrom 31 = .ok (.aload_n 0, 1) := by decide +kernel
theorem dX0_copyFrom_32 : decode cX0_copyFrom 32 = .ok (.getfield 24, 3) := by decide +kernel
theorem dX0_copyFrom_35 : decode cX0_copyFrom 35 = .ok (.iload_n 2, 1) := by decide +kernel
theorem dX0_copyFrom_36 : decode cX0_copyFrom 36 = .ok (.aaload, 1) := by decide +kernel
theorem dX0_copyFrom_37 : decode cX0_copyFrom 37 = .ok (.aload_n 1, 1) := by decide +kernel
theorem dX0_copyFrom_38 : decode cX0_copyFrom 38 = .ok (.getfield 24, 3) := by decide +kernel
theorem dX0_copyFrom_41 : decode cX0_copyFrom 41 = .ok (.iload_n 2, 1) := by decide +kernel
theorem dX0_copyFrom_42 : decode cX0_copyFrom 42 = .ok (.aaload, 1) := by decide +kernel
theorem dX0_copyFrom_43 : decode cX0_copyFrom 43 = .ok (.invokevirtual 68, 3) := by decide +kernel
theorem dX0_copyFrom_46 : decode cX0_copyFrom 46 = .ok (.iinc 2 1, 3) := by decide +kernel
theorem dX0_copyFrom_49 : decode cX0_copyFrom 49 = .ok (.goto (-36), 3) := by decide +kernel
theorem dX0_copyFrom_52 : decode cX0_copyFrom 52 = .ok (.iconst 0, 1) := by decide +kernel
theorem dX0_copyFrom_53 : decode cX0_copyFrom 53 = .ok (.istore_n 2, 1) := by decide +kernel
theorem dX0_copyFrom_54 : decode cX0_copyFrom 54 = .ok (.iload_n 2, 1) := by decide +kernel
theorem dX0_copyFrom_55 : decode cX0_copyFrom 55 = .ok (.aload_n 0, 1) := by decide +kernel
theorem dX0_copyFrom_56 : decode cX0_copyFrom 56 = .ok (.getfield 33, 3) := by decide +kernel
theorem dX0_copyFrom_59 : decode cX0_copyFrom 59 = .ok (.arraylength, 1) := by decide +kernel
theorem dX0_copyFrom_60 : decode cX0_copyFrom 60 = .ok (.if_icmp .ge 33, 3) := by decide +kernel
theorem dX0_copyFrom_63 : decode cX0_copyFrom 63 = .ok (.iload_n 2, 1) := by decide +kernel
theorem dX0_copyFrom_64 : decode cX0_copyFrom 64 = .ok (.aload_n 1, 1) := by decide +kernel
theorem dX0_copyFrom_65 : decode cX0_copyFrom 65 = .ok (.getfield 33, 3) := by decide +kernel
theorem dX0_copyFrom_68 : decode cX0_copyFrom 68 = .ok (.arraylength, 1) := by decide +kernel
theorem dX0_copyFrom_69 : decode cX0_copyFrom 69 = .ok (.if_icmp .ge 24, 3) := by decide +kernel
theorem dX0_copyFrom_72 : decode cX0_copyFrom 72 = .ok (.aload_n 0, 1) := by decide +kernel
theorem dX0_copyFrom_73 : decode cX0_copyFrom 73 = .ok (.getfield 33, 3) := by decide +kernel
theorem dX0_copyFrom_76 : decode cX0_copyFrom 76 = .ok (.iload_n 2, 1) := by decide +kernel
theorem dX0_copyFrom_77 : decode cX0_copyFrom 77 = .ok (.aaload, 1) := by decide +kernel
theorem dX0_copyFrom_78 : decode cX0_copyFrom 78 = .ok (.aload_n 1, 1) := by decide +kernel
theorem dX0_copyFrom_79 : decode cX0_copyFrom 79 = .ok (.getfield 33, 3) := by decide +kernel
theorem dX0_copyFrom_82 : decode cX0_copyFrom 82 = .ok (.iload_n 2, 1) := by decide +kernel
theorem dX0_copyFrom_83 : decode cX0_copyFrom 83 = .ok (.aaload, 1) := by decide +kernel
theorem dX0_copyFrom_84 : decode cX0_copyFrom 84 = .ok (.invokevirtual 71, 3) := by decide +kernel
theorem dX0_copyFrom_87 : decode cX0_copyFrom 87 = .ok (.iinc 2 1, 3) := by decide +kernel
theorem dX0_copyFrom_90 : decode cX0_copyFrom 90 = .ok (.goto (-36), 3) := by decide +kernel
theorem dX0_copyFrom_93 : decode cX0_copyFrom 93 = .ok (.aload_n 0, 1) := by decide +kernel
theorem dX0_copyFrom_94 : decode cX0_copyFrom 94 = .ok (.getfield 42, 3) := by decide +kernel
theorem dX0_copyFrom_97 : decode cX0_copyFrom 97 = .ok (.aload_n 1, 1) := by decide +kernel
theorem dX0_copyFrom_98 : decode cX0_copyFrom 98 = .ok (.getfield 42, 3) := by decide +kernel
theorem dX0_copyFrom_101 : decode cX0_copyFrom 101 = .ok (.invokevirtual 74, 3) := by decide +kernel
theorem dX0_copyFrom_104 : decode cX0_copyFrom 104 = .ok (.aload_n 0, 1) := by decide +kernel
theorem dX0_copyFrom_105 : decode cX0_copyFrom 105 = .ok (.getfield 46, 3) := by decide +kernel
theorem dX0_copyFrom_108 : decode cX0_copyFrom 108 = .ok (.aload_n 1, 1) := by decide +kernel
theorem dX0_copyFrom_109 : decode cX0_copyFrom 109 = .ok (.getfield 46, 3) := by decide +kernel
theorem dX0_copyFrom_112 : decode cX0_copyFrom 112 = .ok (.invokevirtual 74, 3) := by decide +kernel
theorem dX0_copyFrom_115 : decode cX0_copyFrom 115 = .ok (.aload_n 0, 1) := by decide +kernel
theorem dX0_copyFrom_116 : decode cX0_copyFrom 116 = .ok (.getfield 52, 3) := by decide +kernel
theorem dX0_copyFrom_119 : decode cX0_copyFrom 119 = .ok (.aload_n 1, 1) := by decide +kernel
theorem dX0_copyFrom_120 : decode cX0_copyFrom 120 = .ok (.getfield 52, 3) := by decide +kernel
theorem dX0_copyFrom_123 : decode cX0_copyFrom 123 = .ok (.invokevirtual 77, 3) := by decide +kernel
theorem dX0_copyFrom_126 : decode cX0_copyFrom 126 = .ok (.aload_n 0, 1) := by decide +kernel
theorem dX0_copyFrom_127 : decode cX0_copyFrom 127 = .ok (.aload_n 1, 1) := by decide +kernel
theorem dX0_copyFrom_128 : decode cX0_copyFrom 128 = .ok (.getfield 80, 3) := by decide +kernel
theorem dX0_copyFrom_131 : decode cX0_copyFrom 131 = .ok (.putfield 80, 3) := by decide +kernel
theorem dX0_copyFrom_134 : decode cX0_copyFrom 134 = .ok (.aload_n 0, 1) := by decide +kernel
theorem dX0_copyFrom_135 : decode cX0_copyFrom 135 = .ok (.aload_n 1, 1) := by decide +kernel
theorem dX0_copyFrom_136 : decode cX0_copyFrom 136 = .ok (.getfield 56, 3) := by decide +kernel
theorem dX0_copyFrom_139 : decode cX0_copyFrom 139 = .ok (.putfield 56, 3) := by decide +kernel
theorem dX0_copyFrom_142 : decode cX0_copyFrom 142 = .ok (.aload_n 0, 1) := by decide +kernel
theorem dX0_copyFrom_143 : decode cX0_copyFrom 143 = .ok (.aload_n 1, 1) := by decide +kernel
theorem dX0_copyFrom_144 : decode cX0_copyFrom 144 = .ok (.getfield 83, 3) := by decide +kernel
theorem dX0_copyFrom_147 : decode cX0_copyFrom 147 = .ok (.putfield 83, 3) := by decide +kernel
theorem dX0_copyFrom_150 : decode cX0_copyFrom 150 = .ok (.return_, 1) := by decide +kernel
theorem dX0_vesselNumbered_0 : decode cX0_vesselNumbered 0 = .ok (.iconst 0, 1) := by decide +kernel
theorem dX0_vesselNumbered_1 : decode cX0_vesselNumbered 1 = .ok (.iload_n 1, 1) := by decide +kernel
theorem dX0_vesselNumbered_2 : decode cX0_vesselNumbered 2 = .ok (.aload_n 0, 1) := by decide +kernel
theorem dX0_vesselNumbered_3 : decode cX0_vesselNumbered 3 = .ok (.getfield 24, 3) := by decide +kernel
theorem dX0_vesselNumbered_6 : decode cX0_vesselNumbered 6 = .ok (.arraylength, 1) := by decide +kernel
theorem dX0_vesselNumbered_7 : decode cX0_vesselNumbered 7 = .ok (.iconst 1, 1) := by decide +kernel
theorem dX0_vesselNumbered_8 : decode cX0_vesselNumbered 8 = .ok (.isub, 1) := by decide +kernel
theorem dX0_vesselNumbered_9 : decode cX0_vesselNumbered 9 = .ok (.invokestatic 87, 3) := by decide +kernel
theorem dX0_vesselNumbered_12 : decode cX0_vesselNumbered 12 = .ok (.ifCond .eq 12, 3) := by decide +kernel
theorem dX0_vesselNumbered_15 : decode cX0_vesselNumbered 15 = .ok (.aload_n 0, 1) := by decide +kernel
theorem dX0_vesselNumbered_16 : decode cX0_vesselNumbered 16 = .ok (.getfield 24, 3) := by decide +kernel
theorem dX0_vesselNumbered_19 : decode cX0_vesselNumbered 19 = .ok (.iload_n 1, 1) := by decide +kernel
theorem dX0_vesselNumbered_20 : decode cX0_vesselNumbered 20 = .ok (.aaload, 1) := by decide +kernel
theorem dX0_vesselNumbered_21 : decode cX0_vesselNumbered 21 = .ok (.goto 4, 3) := by decide +kernel
theorem dX0_vesselNumbered_24 : decode cX0_vesselNumbered 24 = .ok (.aconst_null, 1) := by decide +kernel
theorem dX0_vesselNumbered_25 : decode cX0_vesselNumbered 25 = .ok (.areturn, 1) := by decide +kernel
theorem dX0_vesselAt_0 : decode cX0_vesselAt 0 = .ok (.aload_n 0, 1) := by decide +kernel
theorem dX0_vesselAt_1 : decode cX0_vesselAt 1 = .ok (.getfield 24, 3) := by decide +kernel
theorem dX0_vesselAt_4 : decode cX0_vesselAt 4 = .ok (.astore_n 2, 1) := by decide +kernel
theorem dX0_vesselAt_5 : decode cX0_vesselAt 5 = .ok (.aload_n 2, 1) := by decide +kernel
theorem dX0_vesselAt_6 : decode cX0_vesselAt 6 = .ok (.arraylength, 1) := by decide +kernel
theorem dX0_vesselAt_7 : decode cX0_vesselAt 7 = .ok (.istore_n 3, 1) := by decide +kernel
theorem dX0_vesselAt_8 : decode cX0_vesselAt 8 = .ok (.iconst 0, 1) := by decide +kernel
theorem dX0_vesselAt_9 : decode cX0_vesselAt 9 = .ok (.istore 4, 2) := by decide +kernel
theorem dX0_vesselAt_11 : decode cX0_vesselAt 11 = .ok (.iload 4, 2) := by decide +kernel
theorem dX0_vesselAt_13 : decode cX0_vesselAt 13 = .ok (.iload_n 3, 1) := by decide +kernel
theorem dX0_vesselAt_14 : decode cX0_vesselAt 14 = .ok (.if_icmp .ge 27, 3) := by decide +kernel
theorem dX0_vesselAt_17 : decode cX0_vesselAt 17 = .ok (.aload_n 2, 1) := by decide +kernel
theorem dX0_vesselAt_18 : decode cX0_vesselAt 18 = .ok (.iload 4, 2) := by decide +kernel
theorem dX0_vesselAt_20 : decode cX0_vesselAt 20 = .ok (.aaload, 1) := by decide +kernel
theorem dX0_vesselAt_21 : decode cX0_vesselAt 21 = .ok (.astore 5, 2) := by decide +kernel
theorem dX0_vesselAt_23 : decode cX0_vesselAt 23 = .ok (.aload 5, 2) := by decide +kernel
theorem dX0_vesselAt_25 : decode cX0_vesselAt 25 = .ok (.getfield 91, 3) := by decide +kernel
theorem dX0_vesselAt_28 : decode cX0_vesselAt 28 = .ok (.iload_n 1, 1) := by decide +kernel
theorem dX0_vesselAt_29 : decode cX0_vesselAt 29 = .ok (.if_icmp .ne 6, 3) := by decide +kernel
theorem dX0_vesselAt_32 : decode cX0_vesselAt 32 = .ok (.aload 5, 2) := by decide +kernel
theorem dX0_vesselAt_34 : decode cX0_vesselAt 34 = .ok (.areturn, 1) := by decide +kernel
theorem dX0_vesselAt_35 : decode cX0_vesselAt 35 = .ok (.iinc 4 1, 3) := by decide +kernel
theorem dX0_vesselAt_38 : decode cX0_vesselAt 38 = .ok (.goto (-27), 3) := by decide +kernel
theorem dX0_vesselAt_41 : decode cX0_vesselAt 41 = .ok (.aconst_null, 1) := by decide +kernel
theorem dX0_vesselAt_42 : decode cX0_vesselAt 42 = .ok (.areturn, 1) := by decide +kernel
theorem dX0_isFloor_0 : decode cX0_isFloor 0 = .ok (.iload_n 1, 1) := by decide +kernel
theorem dX0_isFloor_1 : decode cX0_isFloor 1 = .ok (.ifCond .eq 26, 3) := by decide +kernel
theorem dX0_isFloor_4 : decode cX0_isFloor 4 = .ok (.iload_n 1, 1) := by decide +kernel
theorem dX0_isFloor_5 : decode cX0_isFloor 5 = .ok (.iconst 2, 1) := by decide +kernel
theorem dX0_isFloor_6 : decode cX0_isFloor 6 = .ok (.if_icmp .eq 21, 3) := by decide +kernel
theorem dX0_isFloor_9 : decode cX0_isFloor 9 = .ok (.iload_n 1, 1) := by decide +kernel
theorem dX0_isFloor_10 : decode cX0_isFloor 10 = .ok (.bipush 15, 2) := by decide +kernel
theorem dX0_isFloor_12 : decode cX0_isFloor 12 = .ok (.if_icmp .eq 15, 3) := by decide +kernel
theorem dX0_isFloor_15 : decode cX0_isFloor 15 = .ok (.aload_n 0, 1) := by decide +kernel
theorem dX0_isFloor_16 : decode cX0_isFloor 16 = .ok (.iload_n 1, 1) := by decide +kernel
theorem dX0_isFloor_17 : decode cX0_isFloor 17 = .ok (.invokevirtual 94, 3) := by decide +kernel
theorem dX0_isFloor_20 : decode cX0_isFloor 20 = .ok (.ifnonnull 7, 3) := by decide +kernel
theorem dX0_isFloor_23 : decode cX0_isFloor 23 = .ok (.iconst 1, 1) := by decide +kernel
theorem dX0_isFloor_24 : decode cX0_isFloor 24 = .ok (.goto 4, 3) := by decide +kernel
theorem dX0_isFloor_27 : decode cX0_isFloor 27 = .ok (.iconst 0, 1) := by decide +kernel
theorem dX0_isFloor_28 : decode cX0_isFloor 28 = .ok (.ireturn, 1) := by decide +kernel
theorem dX0_ladleNumbered_0 : decode cX0_ladleNumbered 0 = .ok (.iconst 0, 1) := by decide +kernel
theorem dX0_ladleNumbered_1 : decode cX0_ladleNumbered 1 = .ok (.iload_n 1, 1) := by decide +kernel
theorem dX0_ladleNumbered_2 : decode cX0_ladleNumbered 2 = .ok (.aload_n 0, 1) := by decide +kernel
theorem dX0_ladleNumbered_3 : decode cX0_ladleNumbered 3 = .ok (.getfield 33, 3) := by decide +kernel
theorem dX0_ladleNumbered_6 : decode cX0_ladleNumbered 6 = .ok (.arraylength, 1) := by decide +kernel
theorem dX0_ladleNumbered_7 : decode cX0_ladleNumbered 7 = .ok (.iconst 1, 1) := by decide +kernel
theorem dX0_ladleNumbered_8 : decode cX0_ladleNumbered 8 = .ok (.isub, 1) := by decide +kernel
theorem dX0_ladleNumbered_9 : decode cX0_ladleNumbered 9 = .ok (.invokestatic 87, 3) := by decide +kernel
theorem dX0_ladleNumbered_12 : decode cX0_ladleNumbered 12 = .ok (.ifCond .eq 12, 3) := by decide +kernel
theorem dX0_ladleNumbered_15 : decode cX0_ladleNumbered 15 = .ok (.aload_n 0, 1) := by decide +kernel
theorem dX0_ladleNumbered_16 : decode cX0_ladleNumbered 16 = .ok (.getfield 33, 3) := by decide +kernel
theorem dX0_ladleNumbered_19 : decode cX0_ladleNumbered 19 = .ok (.iload_n 1, 1) := by decide +kernel
theorem dX0_ladleNumbered_20 : decode cX0_ladleNumbered 20 = .ok (.aaload, 1) := by decide +kernel
theorem dX0_ladleNumbered_21 : decode cX0_ladleNumbered 21 = .ok (.goto 4, 3) := by decide +kernel
theorem dX0_ladleNumbered_24 : decode cX0_ladleNumbered 24 = .ok (.aconst_null, 1) := by decide +kernel
theorem dX0_ladleNumbered_25 : decode cX0_ladleNumbered 25 = .ok (.areturn, 1) := by decide +kernel
theorem dX0_numberOfLadleOn_0 : decode cX0_numberOfLadleOn 0 = .ok (.iconst 0, 1) := by decide +kernel
theorem dX0_numberOfLadleOn_1 : decode cX0_numberOfLadleOn 1 = .ok (.istore_n 2, 1) := by decide +kernel
theorem dX0_numberOfLadleOn_2 : decode cX0_numberOfLadleOn 2 = .ok (.iload_n 2, 1) := by decide +kernel
theorem dX0_numberOfLadleOn_3 : decode cX0_numberOfLadleOn 3 = .ok (.aload_n 0, 1) := by decide +kernel
theorem dX0_numberOfLadleOn_4 : decode cX0_numberOfLadleOn 4 = .ok (.getfield 33, 3) := by decide +kernel
theorem dX0_numberOfLadleOn_7 : decode cX0_numberOfLadleOn 7 = .ok (.arraylength, 1) := by decide +kernel
theorem dX0_numberOfLadleOn_8 : decode cX0_numberOfLadleOn 8 = .ok (.if_icmp .ge 27, 3) := by decide +kernel
theorem dX0_numberOfLadleOn_11 : decode cX0_numberOfLadleOn 11 = .ok (.aload_n 0, 1) := by decide +kernel
theorem dX0_numberOfLadleOn_12 : decode cX0_numberOfLadleOn 12 = .ok (.getfield 33, 3) := by decide +kernel
theorem dX0_numberOfLadleOn_15 : decode cX0_numberOfLadleOn 15 = .ok (.iload_n 2, 1) := by decide +kernel
theorem dX0_numberOfLadleOn_16 : decode cX0_numberOfLadleOn 16 = .ok (.aaload, 1) := by decide +kernel
theorem dX0_numberOfLadleOn_17 : decode cX0_numberOfLadleOn 17 = .ok (.getfield 98, 3) := by decide +kernel
theorem dX0_numberOfLadleOn_20 : decode cX0_numberOfLadleOn 20 = .ok (.aload_n 1, 1) := by decide +kernel
theorem dX0_numberOfLadleOn_21 : decode cX0_numberOfLadleOn 21 = .ok (.getfield 101, 3) := by decide +kernel
theorem dX0_numberOfLadleOn_24 : decode cX0_numberOfLadleOn 24 = .ok (.if_icmp .ne 5, 3) := by decide +kernel
theorem dX0_numberOfLadleOn_27 : decode cX0_numberOfLadleOn 27 = .ok (.iload_n 2, 1) := by decide +kernel
theorem dX0_numberOfLadleOn_28 : decode cX0_numberOfLadleOn 28 = .ok (.ireturn, 1) := by decide +kernel
theorem dX0_numberOfLadleOn_29 : decode cX0_numberOfLadleOn 29 = .ok (.iinc 2 1, 3) := by decide +kernel
theorem dX0_numberOfLadleOn_32 : decode cX0_numberOfLadleOn 32 = .ok (.goto (-30), 3) := by decide +kernel
theorem dX0_numberOfLadleOn_35 : decode cX0_numberOfLadleOn 35 = .ok (.bipush (-4), 2) := by decide +kernel
theorem dX0_numberOfLadleOn_37 : decode cX0_numberOfLadleOn 37 = .ok (.ireturn, 1) := by decide +kernel
theorem dX0_ladleStandingAt_0 : decode cX0_ladleStandingAt 0 = .ok (.aload_n 0, 1) := by decide +kernel
theorem dX0_ladleStandingAt_1 : decode cX0_ladleStandingAt 1 = .ok (.getfield 33, 3) := by decide +kernel
theorem dX0_ladleStandingAt_4 : decode cX0_ladleStandingAt 4 = .ok (.astore_n 2, 1) := by decide +kernel
theorem dX0_ladleStandingAt_5 : decode cX0_ladleStandingAt 5 = .ok (.aload_n 2, 1) := by decide +kernel
theorem dX0_ladleStandingAt_6 : decode cX0_ladleStandingAt 6 = .ok (.arraylength, 1) := by decide +kernel
theorem dX0_ladleStandingAt_7 : decode cX0_ladleStandingAt 7 = .ok (.istore_n 3, 1) := by decide +kernel
theorem dX0_ladleStandingAt_8 : decode cX0_ladleStandingAt 8 = .ok (.iconst 0, 1) := by decide +kernel
theorem dX0_ladleStandingAt_9 : decode cX0_ladleStandingAt 9 = .ok (.istore 4, 2) := by decide +kernel
theorem dX0_ladleStandingAt_11 : decode cX0_ladleStandingAt 11 = .ok (.iload 4, 2) := by decide +kernel
theorem dX0_ladleStandingAt_13 : decode cX0_ladleStandingAt 13 = .ok (.iload_n 3, 1) := by decide +kernel
theorem dX0_ladleStandingAt_14 : decode cX0_ladleStandingAt 14 = .ok (.if_icmp .ge 37, 3) := by decide +kernel
theorem dX0_ladleStandingAt_17 : decode cX0_ladleStandingAt 17 = .ok (.aload_n 2, 1) := by decide +kernel
theorem dX0_ladleStandingAt_18 : decode cX0_ladleStandingAt 18 = .ok (.iload 4, 2) := by decide +kernel
theorem dX0_ladleStandingAt_20 : decode cX0_ladleStandingAt 20 = .ok (.aaload, 1) := by decide +kernel
theorem dX0_ladleStandingAt_21 : decode cX0_ladleStandingAt 21 = .ok (.astore 5, 2) := by decide +kernel
theorem dX0_ladleStandingAt_23 : decode cX0_ladleStandingAt 23 = .ok (.aload 5, 2) := by decide +kernel
theorem dX0_ladleStandingAt_25 : decode cX0_ladleStandingAt 25 = .ok (.getfield 98, 3) := by decide +kernel
theorem dX0_ladleStandingAt_28 : decode cX0_ladleStandingAt 28 = .ok (.bipush (-4), 2) := by decide +kernel
theorem dX0_ladleStandingAt_30 : decode cX0_ladleStandingAt 30 = .ok (.if_icmp .ne 15, 3) := by decide +kernel
theorem dX0_ladleStandingAt_33 : decode cX0_ladleStandingAt 33 = .ok (.aload 5, 2) := by decide +kernel
theorem dX0_ladleStandingAt_35 : decode cX0_ladleStandingAt 35 = .ok (.getfield 104, 3) := by decide +kernel
theorem dX0_ladleStandingAt_38 : decode cX0_ladleStandingAt 38 = .ok (.iload_n 1, 1) := by decide +kernel
theorem dX0_ladleStandingAt_39 : decode cX0_ladleStandingAt 39 = .ok (.if_icmp .ne 6, 3) := by decide +kernel
theorem dX0_ladleStandingAt_42 : decode cX0_ladleStandingAt 42 = .ok (.aload 5, 2) := by decide +kernel
theorem dX0_ladleStandingAt_44 : decode cX0_ladleStandingAt 44 = .ok (.areturn, 1) := by decide +kernel
theorem dX0_ladleStandingAt_45 : decode cX0_ladleStandingAt 45 = .ok (.iinc 4 1, 3) := by decide +kernel
theorem dX0_ladleStandingAt_48 : decode cX0_ladleStandingAt 48 = .ok (.goto (-37), 3) := by decide +kernel
theorem dX0_ladleStandingAt_51 : decode cX0_ladleStandingAt 51 = .ok (.aconst_null, 1) := by decide +kernel
theorem dX0_ladleStandingAt_52 : decode cX0_ladleStandingAt 52 = .ok (.areturn, 1) := by decide +kernel
theorem dX0_craneNumbered_0 : decode cX0_craneNumbered 0 = .ok (.iload_n 1, 1) := by decide +kernel
theorem dX0_craneNumbered_1 : decode cX0_craneNumbered 1 = .ok (.lookupswitch 37 #[(0, 27), (1, 32)], 27) := by decide +kernel
theorem dX0_craneNumbered_28 : decode cX0_craneNumbered 28 = .ok (.aload_n 0, 1) := by decide +kernel
theorem dX0_craneNumbered_29 : decode cX0_craneNumbered 29 = .ok (.getfield 42, 3) := by decide +kernel
theorem dX0_craneNumbered_32 : decode cX0_craneNumbered 32 = .ok (.areturn, 1) := by decide +kernel
theorem dX0_craneNumbered_33 : decode cX0_craneNumbered 33 = .ok (.aload_n 0, 1) := by decide +kernel
theorem dX0_craneNumbered_34 : decode cX0_craneNumbered 34 = .ok (.getfield 46, 3) := by decide +kernel
theorem dX0_craneNumbered_37 : decode cX0_craneNumbered 37 = .ok (.areturn, 1) := by decide +kernel
theorem dX0_craneNumbered_38 : decode cX0_craneNumbered 38 = .ok (.aconst_null, 1) := by decide +kernel
theorem dX0_craneNumbered_39 : decode cX0_craneNumbered 39 = .ok (.areturn, 1) := by decide +kernel
theorem dX0_hasOrders_0 : decode cX0_hasOrders 0 = .ok (.aload_n 0, 1) := by decide +kernel
theorem dX0_hasOrders_1 : decode cX0_hasOrders 1 = .ok (.getfield 42, 3) := by decide +kernel
theorem dX0_hasOrders_4 : decode cX0_hasOrders 4 = .ok (.getfield 105, 3) := by decide +kernel
theorem dX0_hasOrders_7 : decode cX0_hasOrders 7 = .ok (.ifCond .gt 13, 3) := by decide +kernel
theorem dX0_hasOrders_10 : decode cX0_hasOrders 10 = .ok (.aload_n 0, 1) := by decide +kernel
theorem dX0_hasOrders_11 : decode cX0_hasOrders 11 = .ok (.getfield 46, 3) := by decide +kernel
theorem dX0_hasOrders_14 : decode cX0_hasOrders 14 = .ok (.getfield 105, 3) := by decide +kernel
theorem dX0_hasOrders_17 : decode cX0_hasOrders 17 = .ok (.ifCond .le 7, 3) := by decide +kernel
theorem dX0_hasOrders_20 : decode cX0_hasOrders 20 = .ok (.iconst 1, 1) := by decide +kernel
theorem dX0_hasOrders_21 : decode cX0_hasOrders 21 = .ok (.goto 4, 3) := by decide +kernel
theorem dX0_hasOrders_24 : decode cX0_hasOrders 24 = .ok (.iconst 0, 1) := by decide +kernel
theorem dX0_hasOrders_25 : decode cX0_hasOrders 25 = .ok (.ireturn, 1) := by decide +kernel
theorem dX0_stuffAt_0 : decode cX0_stuffAt 0 = .ok (.iload_n 1, 1) := by decide +kernel
theorem dX0_stuffAt_1 : decode cX0_stuffAt 1 = .ok (.tableswitch 182 0 10 #[59, 68, 74, 80, 86, 110, 122, 134, 146, 158, 170], 59) := by decide +kernel
theorem dX0_stuffAt_60 : decode cX0_stuffAt 60 = .ok (.aload_n 0, 1) := by decide +kernel
theorem dX0_stuffAt_61 : decode cX0_stuffAt 61 = .ok (.getfield 12, 3) := by decide +kernel
theorem dX0_stuffAt_64 : decode cX0_stuffAt 64 = .ok (.iload_n 2, 1) := by decide +kernel
theorem dX0_stuffAt_65 : decode cX0_stuffAt 65 = .ok (.invokevirtual 108, 3) := by decide +kernel
theorem dX0_stuffAt_68 : decode cX0_stuffAt 68 = .ok (.ireturn, 1) := by decide +kernel
theorem dX0_stuffAt_69 : decode cX0_stuffAt 69 = .ok (.aload_n 0, 1) := by decide +kernel
theorem dX0_stuffAt_70 : decode cX0_stuffAt 70 = .ok (.iload_n 2, 1) := by decide +kernel
theorem dX0_stuffAt_71 : decode cX0_stuffAt 71 = .ok (.invokevirtual 112, 3) := by decide +kernel
theorem dX0_stuffAt_74 : decode cX0_stuffAt 74 = .ok (.ireturn, 1) := by decide +kernel
theorem dX0_stuffAt_75 : decode cX0_stuffAt 75 = .ok (.aload_n 0, 1) := by decide +kernel
theorem dX0_stuffAt_76 : decode cX0_stuffAt 76 = .ok (.iload_n 2, 1) := by decide +kernel
theorem dX0_stuffAt_77 : decode cX0_stuffAt 77 = .ok (.invokevirtual 115, 3) := by decide +kernel
theorem dX0_stuffAt_80 : decode cX0_stuffAt 80 = .ok (.ireturn, 1) := by decide +kernel
theorem dX0_stuffAt_81 : decode cX0_stuffAt 81 = .ok (.aload_n 0, 1) := by decide +kernel
theorem dX0_stuffAt_82 : decode cX0_stuffAt 82 = .ok (.iload_n 2, 1) := by decide +kernel
theorem dX0_stuffAt_83 : decode cX0_stuffAt 83 = .ok (.invokevirtual 118, 3) := by decide +kernel
theorem dX0_stuffAt_86 : decode cX0_stuffAt 86 = .ok (.ireturn, 1) := by decide +kernel
theorem dX0_stuffAt_87 : decode cX0_stuffAt 87 = .ok (.iload_n 2, 1) := by decide +kernel
theorem dX0_stuffAt_88 : decode cX0_stuffAt 88 = .ok (.iconst 1, 1) := by decide +kernel
theorem dX0_stuffAt_89 : decode cX0_stuffAt 89 = .ok (.if_icmp .ne 20, 3) := by decide +kernel
theorem dX0_stuffAt_92 : decode cX0_stuffAt 92 = .ok (.aload_n 0, 1) := by decide +kernel
theorem dX0_stuffAt_93 : decode cX0_stuffAt 93 = .ok (.getfield 80, 3) := by decide +kernel
theorem dX0_stuffAt_96 : decode cX0_stuffAt 96 = .ok (.iconst 5, 1) := by decide +kernel
theorem dX0_stuffAt_97 : decode cX0_stuffAt 97 = .ok (.aload_n 0, 1) := by decide +kernel
theorem dX0_stuffAt_98 : decode cX0_stuffAt 98 = .ok (.getfield 52, 3) := by decide +kernel
theorem dX0_stuffAt_101 : decode cX0_stuffAt 101 = .ok (.getfield 121, 3) := by decide +kernel
theorem dX0_stuffAt_104 : decode cX0_stuffAt 104 = .ok (.imul, 1) := by decide +kernel
theorem dX0_stuffAt_105 : decode cX0_stuffAt 105 = .ok (.iadd, 1) := by decide +kernel
theorem dX0_stuffAt_106 : decode cX0_stuffAt 106 = .ok (.goto 4, 3) := by decide +kernel
theorem dX0_stuffAt_109 : decode cX0_stuffAt 109 = .ok (.iconst 0, 1) := by decide +kernel
theorem dX0_stuffAt_110 : decode cX0_stuffAt 110 = .ok (.ireturn, 1) := by decide +kernel
theorem dX0_stuffAt_111 : decode cX0_stuffAt 111 = .ok (.aload_n 0, 1) := by decide +kernel
theorem dX0_stuffAt_112 : decode cX0_stuffAt 112 = .ok (.getfield 52, 3) := by decide +kernel
theorem dX0_stuffAt_115 : decode cX0_stuffAt 115 = .ok (.getfield 124, 3) := by decide +kernel
theorem dX0_stuffAt_118 : decode cX0_stuffAt 118 = .ok (.iload_n 2, 1) := by decide +kernel
theorem dX0_stuffAt_119 : decode cX0_stuffAt 119 = .ok (.invokevirtual 108, 3) := by decide +kernel
theorem dX0_stuffAt_122 : decode cX0_stuffAt 122 = .ok (.ireturn, 1) := by decide +kernel
theorem dX0_stuffAt_123 : decode cX0_stuffAt 123 = .ok (.aload_n 0, 1) := by decide +kernel
theorem dX0_stuffAt_124 : decode cX0_stuffAt 124 = .ok (.getfield 52, 3) := by decide +kernel
theorem dX0_stuffAt_127 : decode cX0_stuffAt 127 = .ok (.getfield 127, 3) := by decide +kernel
theorem dX0_stuffAt_130 : decode cX0_stuffAt 130 = .ok (.iload_n 2, 1) := by decide +kernel
theorem dX0_stuffAt_131 : decode cX0_stuffAt 131 = .ok (.invokevirtual 108, 3) := by decide +kernel
theorem dX0_stuffAt_134 : decode cX0_stuffAt 134 = .ok (.ireturn, 1) := by decide +kernel
theorem dX0_stuffAt_135 : decode cX0_stuffAt 135 = .ok (.aload_n 0, 1) := by decide +kernel
theorem dX0_stuffAt_136 : decode cX0_stuffAt 136 = .ok (.getfield 52, 3) := by decide +kernel
theorem dX0_stuffAt_139 : decode cX0_stuffAt 139 = .ok (.getfield 130, 3) := by decide +kernel
theorem dX0_stuffAt_142 : decode cX0_stuffAt 142 = .ok (.iload_n 2, 1) := by decide +kernel
theorem dX0_stuffAt_143 : decode cX0_stuffAt 143 = .ok (.invokevirtual 108, 3) := by decide +kernel
theorem dX0_stuffAt_146 : decode cX0_stuffAt 146 = .ok (.ireturn, 1) := by decide +kernel
theorem dX0_stuffAt_147 : decode cX0_stuffAt 147 = .ok (.aload_n 0, 1) := by decide +kernel
theorem dX0_stuffAt_148 : decode cX0_stuffAt 148 = .ok (.getfield 52, 3) := by decide +kernel
theorem dX0_stuffAt_151 : decode cX0_stuffAt 151 = .ok (.getfield 133, 3) := by decide +kernel
theorem dX0_stuffAt_154 : decode cX0_stuffAt 154 = .ok (.iload_n 2, 1) := by decide +kernel
theorem dX0_stuffAt_155 : decode cX0_stuffAt 155 = .ok (.invokevirtual 108, 3) := by decide +kernel
theorem dX0_stuffAt_158 : decode cX0_stuffAt 158 = .ok (.ireturn, 1) := by decide +kernel
theorem dX0_stuffAt_159 : decode cX0_stuffAt 159 = .ok (.aload_n 0, 1) := by decide +kernel
theorem dX0_stuffAt_160 : decode cX0_stuffAt 160 = .ok (.getfield 52, 3) := by decide +kernel
theorem dX0_stuffAt_163 : decode cX0_stuffAt 163 = .ok (.getfield 136, 3) := by decide +kernel
theorem dX0_stuffAt_166 : decode cX0_stuffAt 166 = .ok (.iload_n 2, 1) := by decide +kernel
theorem dX0_stuffAt_167 : decode cX0_stuffAt 167 = .ok (.invokevirtual 108, 3) := by decide +kernel
theorem dX0_stuffAt_170 : decode cX0_stuffAt 170 = .ok (.ireturn, 1) := by decide +kernel
theorem dX0_stuffAt_171 : decode cX0_stuffAt 171 = .ok (.aload_n 0, 1) := by decide +kernel
theorem dX0_stuffAt_172 : decode cX0_stuffAt 172 = .ok (.getfield 52, 3) := by decide +kernel
theorem dX0_stuffAt_175 : decode cX0_stuffAt 175 = .ok (.getfield 139, 3) := by decide +kernel
theorem dX0_stuffAt_178 : decode cX0_stuffAt 178 = .ok (.iload_n 2, 1) := by decide +kernel
theorem dX0_stuffAt_179 : decode cX0_stuffAt 179 = .ok (.invokevirtual 108, 3) := by decide +kernel
theorem dX0_stuffAt_182 : decode cX0_stuffAt 182 = .ok (.ireturn, 1) := by decide +kernel
theorem dX0_stuffAt_183 : decode cX0_stuffAt 183 = .ok (.iconst (-1), 1) := by decide +kernel
theorem dX0_stuffAt_184 : decode cX0_stuffAt 184 = .ok (.ireturn, 1) := by decide +kernel
theorem dX0_inVessels_0 : decode cX0_inVessels 0 = .ok (.iconst 0, 1) := by decide +kernel
theorem dX0_inVessels_1 : decode cX0_inVessels 1 = .ok (.istore_n 2, 1) := by decide +kernel
theorem dX0_inVessels_2 : decode cX0_inVessels 2 = .ok (.aload_n 0, 1) := by decide +kernel
theorem dX0_inVessels_3 : decode cX0_inVessels 3 = .ok (.getfield 24, 3) := by decide +kernel
theorem dX0_inVessels_6 : decode cX0_inVessels 6 = .ok (.astore_n 3, 1) := by decide +kernel
theorem dX0_inVessels_7 : decode cX0_inVessels 7 = .ok (.aload_n 3, 1) := by decide +kernel
theorem dX0_inVessels_8 : decode cX0_inVessels 8 = .ok (.arraylength, 1) := by decide +kernel
theorem dX0_inVessels_9 : decode cX0_inVessels 9 = .ok (.istore 4, 2) := by decide +kernel
theorem dX0_inVessels_11 : decode cX0_inVessels 11 = .ok (.iconst 0, 1) := by decide +kernel
theorem dX0_inVessels_12 : decode cX0_inVessels 12 = .ok (.istore 5, 2) := by decide +kernel
theorem dX0_inVessels_14 : decode cX0_inVessels 14 = .ok (.iload 5, 2) := by decide +kernel
theorem dX0_inVessels_16 : decode cX0_inVessels 16 = .ok (.iload 4, 2) := by decide +kernel
theorem dX0_inVessels_18 : decode cX0_inVessels 18 = .ok (.if_icmp .ge 27, 3) := by decide +kernel
theorem dX0_inVessels_21 : decode cX0_inVessels 21 = .ok (.aload_n 3, 1) := by decide +kernel
theorem dX0_inVessels_22 : decode cX0_inVessels 22 = .ok (.iload 5, 2) := by decide +kernel
theorem dX0_inVessels_24 : decode cX0_inVessels 24 = .ok (.aaload, 1) := by decide +kernel
theorem dX0_inVessels_25 : decode cX0_inVessels 25 = .ok (.astore 6, 2) := by decide +kernel
theorem dX0_inVessels_27 : decode cX0_inVessels 27 = .ok (.iload_n 2, 1) := by decide +kernel
theorem dX0_inVessels_28 : decode cX0_inVessels 28 = .ok (.aload 6, 2) := by decide +kernel
theorem dX0_inVessels_30 : decode cX0_inVessels 30 = .ok (.getfield 142, 3) := by decide +kernel
theorem dX0_inVessels_33 : decode cX0_inVessels 33 = .ok (.iload_n 1, 1) := by decide +kernel
theorem dX0_inVessels_34 : decode cX0_inVessels 34 = .ok (.invokevirtual 108, 3) := by decide +kernel
theorem dX0_inVessels_37 : decode cX0_inVessels 37 = .ok (.iadd, 1) := by decide +kernel
theorem dX0_inVessels_38 : decode cX0_inVessels 38 = .ok (.istore_n 2, 1) := by decide +kernel
theorem dX0_inVessels_39 : decode cX0_inVessels 39 = .ok (.iinc 5 1, 3) := by decide +kernel
theorem dX0_inVessels_42 : decode cX0_inVessels 42 = .ok (.goto (-28), 3) := by decide +kernel
theorem dX0_inVessels_45 : decode cX0_inVessels 45 = .ok (.iload_n 2, 1) := by decide +kernel
theorem dX0_inVessels_46 : decode cX0_inVessels 46 = .ok (.ireturn, 1) := by decide +kernel
theorem dX0_inLadles_0 : decode cX0_inLadles 0 = .ok (.iconst 0, 1) := by decide +kernel
theorem dX0_inLadles_1 : decode cX0_inLadles 1 = .ok (.istore_n 2, 1) := by decide +kernel
theorem dX0_inLadles_2 : decode cX0_inLadles 2 = .ok (.aload_n 0, 1) := by decide +kernel
theorem dX0_inLadles_3 : decode cX0_inLadles 3 = .ok (.getfield 33, 3) := by decide +kernel
theorem dX0_inLadles_6 : decode cX0_inLadles 6 = .ok (.astore_n 3, 1) := by decide +kernel
theorem dX0_inLadles_7 : decode cX0_inLadles 7 = .ok (.aload_n 3, 1) := by decide +kernel
theorem dX0_inLadles_8 : decode cX0_inLadles 8 = .ok (.arraylength, 1) := by decide +kernel
theorem dX0_inLadles_9 : decode cX0_inLadles 9 = .ok (.istore 4, 2) := by decide +kernel
theorem dX0_inLadles_11 : decode cX0_inLadles 11 = .ok (.iconst 0, 1) := by decide +kernel
theorem dX0_inLadles_12 : decode cX0_inLadles 12 = .ok (.istore 5, 2) := by decide +kernel
theorem dX0_inLadles_14 : decode cX0_inLadles 14 = .ok (.iload 5, 2) := by decide +kernel
theorem dX0_inLadles_16 : decode cX0_inLadles 16 = .ok (.iload 4, 2) := by decide +kernel
theorem dX0_inLadles_18 : decode cX0_inLadles 18 = .ok (.if_icmp .ge 27, 3) := by decide +kernel
theorem dX0_inLadles_21 : decode cX0_inLadles 21 = .ok (.aload_n 3, 1) := by decide +kernel
theorem dX0_inLadles_22 : decode cX0_inLadles 22 = .ok (.iload 5, 2) := by decide +kernel
theorem dX0_inLadles_24 : decode cX0_inLadles 24 = .ok (.aaload, 1) := by decide +kernel
theorem dX0_inLadles_25 : decode cX0_inLadles 25 = .ok (.astore 6, 2) := by decide +kernel
theorem dX0_inLadles_27 : decode cX0_inLadles 27 = .ok (.iload_n 2, 1) := by decide +kernel
theorem dX0_inLadles_28 : decode cX0_inLadles 28 = .ok (.aload 6, 2) := by decide +kernel
theorem dX0_inLadles_30 : decode cX0_inLadles 30 = .ok (.getfield 145, 3) := by decide +kernel
theorem dX0_inLadles_33 : decode cX0_inLadles 33 = .ok (.iload_n 1, 1) := by decide +kernel
theorem dX0_inLadles_34 : decode cX0_inLadles 34 = .ok (.invokevirtual 108, 3) := by decide +kernel
theorem dX0_inLadles_37 : decode cX0_inLadles 37 = .ok (.iadd, 1) := by decide +kernel
theorem dX0_inLadles_38 : decode cX0_inLadles 38 = .ok (.istore_n 2, 1) := by decide +kernel
theorem dX0_inLadles_39 : decode cX0_inLadles 39 = .ok (.iinc 5 1, 3) := by decide +kernel
theorem dX0_inLadles_42 : decode cX0_inLadles 42 = .ok (.goto (-28), 3) := by decide +kernel
theorem dX0_inLadles_45 : decode cX0_inLadles 45 = .ok (.iload_n 2, 1) := by decide +kernel
theorem dX0_inLadles_46 : decode cX0_inLadles 46 = .ok (.ireturn, 1) := by decide +kernel
theorem dX0_inSkulls_0 : decode cX0_inSkulls 0 = .ok (.iconst 0, 1) := by decide +kernel
theorem dX0_inSkulls_1 : decode cX0_inSkulls 1 = .ok (.istore_n 2, 1) := by decide +kernel
theorem dX0_inSkulls_2 : decode cX0_inSkulls 2 = .ok (.aload_n 0, 1) := by decide +kernel
theorem dX0_inSkulls_3 : decode cX0_inSkulls 3 = .ok (.getfield 33, 3) := by decide +kernel
theorem dX0_inSkulls_6 : decode cX0_inSkulls 6 = .ok (.astore_n 3, 1) := by decide +kernel
theorem dX0_inSkulls_7 : decode cX0_inSkulls 7 = .ok (.aload_n 3, 1) := by decide +kernel
theorem dX0_inSkulls_8 : decode cX0_inSkulls 8 = .ok (.arraylength, 1) := by decide +kernel
theorem dX0_inSkulls_9 : decode cX0_inSkulls 9 = .ok (.istore 4, 2) := by decide +kernel
theorem dX0_inSkulls_11 : decode cX0_inSkulls 11 = .ok (.iconst 0, 1) := by decide +kernel
theorem dX0_inSkulls_12 : decode cX0_inSkulls 12 = .ok (.istore 5, 2) := by decide +kernel
theorem dX0_inSkulls_14 : decode cX0_inSkulls 14 = .ok (.iload 5, 2) := by decide +kernel
theorem dX0_inSkulls_16 : decode cX0_inSkulls 16 = .ok (.iload 4, 2) := by decide +kernel
theorem dX0_inSkulls_18 : decode cX0_inSkulls 18 = .ok (.if_icmp .ge 27, 3) := by decide +kernel
theorem dX0_inSkulls_21 : decode cX0_inSkulls 21 = .ok (.aload_n 3, 1) := by decide +kernel
theorem dX0_inSkulls_22 : decode cX0_inSkulls 22 = .ok (.iload 5, 2) := by decide +kernel
theorem dX0_inSkulls_24 : decode cX0_inSkulls 24 = .ok (.aaload, 1) := by decide +kernel
theorem dX0_inSkulls_25 : decode cX0_inSkulls 25 = .ok (.astore 6, 2) := by decide +kernel
theorem dX0_inSkulls_27 : decode cX0_inSkulls 27 = .ok (.iload_n 2, 1) := by decide +kernel
theorem dX0_inSkulls_28 : decode cX0_inSkulls 28 = .ok (.aload 6, 2) := by decide +kernel
theorem dX0_inSkulls_30 : decode cX0_inSkulls 30 = .ok (.getfield 146, 3) := by decide +kernel
theorem dX0_inSkulls_33 : decode cX0_inSkulls 33 = .ok (.iload_n 1, 1) := by decide +kernel
theorem dX0_inSkulls_34 : decode cX0_inSkulls 34 = .ok (.invokevirtual 108, 3) := by decide +kernel
theorem dX0_inSkulls_37 : decode cX0_inSkulls 37 = .ok (.iadd, 1) := by decide +kernel
theorem dX0_inSkulls_38 : decode cX0_inSkulls 38 = .ok (.istore_n 2, 1) := by decide +kernel
theorem dX0_inSkulls_39 : decode cX0_inSkulls 39 = .ok (.iinc 5 1, 3) := by decide +kernel
theorem dX0_inSkulls_42 : decode cX0_inSkulls 42 = .ok (.goto (-28), 3) := by decide +kernel
theorem dX0_inSkulls_45 : decode cX0_inSkulls 45 = .ok (.iload_n 2, 1) := by decide +kernel
theorem dX0_inSkulls_46 : decode cX0_inSkulls 46 = .ok (.ireturn, 1) := by decide +kernel
theorem dX0_passMinute_0 : decode cX0_passMinute 0 = .ok (.aload_n 0, 1) := by decide +kernel
theorem dX0_passMinute_1 : decode cX0_passMinute 1 = .ok (.getfield 52, 3) := by decide +kernel
theorem dX0_passMinute_4 : decode cX0_passMinute 4 = .ok (.dup, 1) := by decide +kernel
theorem dX0_passMinute_5 : decode cX0_passMinute 5 = .ok (.getfield 149, 3) := by decide +kernel
theorem dX0_passMinute_8 : decode cX0_passMinute 8 = .ok (.iconst 1, 1) := by decide +kernel
theorem dX0_passMinute_9 : decode cX0_passMinute 9 = .ok (.iadd, 1) := by decide +kernel
theorem dX0_passMinute_10 : decode cX0_passMinute 10 = .ok (.putfield 149, 3) := by decide +kernel
theorem dX0_passMinute_13 : decode cX0_passMinute 13 = .ok (.aload_n 0, 1) := by decide +kernel
theorem dX0_passMinute_14 : decode cX0_passMinute 14 = .ok (.invokevirtual 152, 3) := by decide +kernel
theorem dX0_passMinute_17 : decode cX0_passMinute 17 = .ok (.aload_n 0, 1) := by decide +kernel
theorem dX0_passMinute_18 : decode cX0_passMinute 18 = .ok (.invokevirtual 155, 3) := by decide +kernel
theorem dX0_passMinute_21 : decode cX0_passMinute 21 = .ok (.aload_n 0, 1) := by decide +kernel
theorem dX0_passMinute_22 : decode cX0_passMinute 22 = .ok (.invokevirtual 158, 3) := by decide +kernel
theorem dX0_passMinute_25 : decode cX0_passMinute 25 = .ok (.aload_n 0, 1) := by decide +kernel
theorem dX0_passMinute_26 : decode cX0_passMinute 26 = .ok (.aload_n 0, 1) := by decide +kernel
theorem dX0_passMinute_27 : decode cX0_passMinute 27 = .ok (.getfield 42, 3) := by decide +kernel
theorem dX0_passMinute_30 : decode cX0_passMinute 30 = .ok (.aload_n 0, 1) := by decide +kernel
theorem dX0_passMinute_31 : decode cX0_passMinute 31 = .ok (.getfield 46, 3) := by decide +kernel
theorem dX0_passMinute_34 : decode cX0_passMinute 34 = .ok (.invokevirtual 161, 3) := by decide +kernel
theorem dX0_passMinute_37 : decode cX0_passMinute 37 = .ok (.aload_n 0, 1) := by decide +kernel
theorem dX0_passMinute_38 : decode cX0_passMinute 38 = .ok (.aload_n 0, 1) := by decide +kernel
theorem dX0_passMinute_39 : decode cX0_passMinute 39 = .ok (.getfield 46, 3) := by decide +kernel
theorem dX0_passMinute_42 : decode cX0_passMinute 42 = .ok (.aload_n 0, 1) := by decide +kernel
theorem dX0_passMinute_43 : decode cX0_passMinute 43 = .ok (.getfield 42, 3) := by decide +kernel
theorem dX0_passMinute_46 : decode cX0_passMinute 46 = .ok (.invokevirtual 161, 3) := by decide +kernel
theorem dX0_passMinute_49 : decode cX0_passMinute 49 = .ok (.return_, 1) := by decide +kernel
theorem dX0_feedFurnace_0 : decode cX0_feedFurnace 0 = .ok (.aload_n 0, 1) := by decide +kernel
theorem dX0_feedFurnace_1 : decode cX0_feedFurnace 1 = .ok (.getfield 83, 3) := by decide +kernel
theorem dX0_feedFurnace_4 : decode cX0_feedFurnace 4 = .ok (.ifCond .ne 4, 3) := by decide +kernel
theorem dX0_feedFurnace_7 : decode cX0_feedFurnace 7 = .ok (.return_, 1) := by decide +kernel
theorem dX0_feedFurnace_8 : decode cX0_feedFurnace 8 = .ok (.aload_n 0, 1) := by decide +kernel
theorem dX0_feedFurnace_9 : decode cX0_feedFurnace 9 = .ok (.getfield 12, 3) := by decide +kernel
theorem dX0_feedFurnace_12 : decode cX0_feedFurnace 12 = .ok (.invokevirtual 165, 3) := by decide +kernel
theorem dX0_feedFurnace_15 : decode cX0_feedFurnace 15 = .ok (.iconst 4, 1) := by decide +kernel
theorem dX0_feedFurnace_16 : decode cX0_feedFurnace 16 = .ok (.iadd, 1) := by decide +kernel
theorem dX0_feedFurnace_17 : decode cX0_feedFurnace 17 = .ok (.iconst 3, 1) := by decide +kernel
theorem dX0_feedFurnace_18 : decode cX0_feedFurnace 18 = .ok (.iadd, 1) := by decide +kernel
theorem dX0_feedFurnace_19 : decode cX0_feedFurnace 19 = .ok (.iconst 2, 1) := by decide +kernel
theorem dX0_feedFurnace_20 : decode cX0_feedFurnace 20 = .ok (.iadd, 1) := by decide +kernel
theorem dX0_feedFurnace_21 : decode cX0_feedFurnace 21 = .ok (.sipush 600, 3) := by decide +kernel
theorem dX0_feedFurnace_24 : decode cX0_feedFurnace 24 = .ok (.if_icmp .le 17, 3) := by decide +kernel
theorem dX0_feedFurnace_27 : decode cX0_feedFurnace 27 = .ok (.aload_n 0, 1) := by decide +kernel
theorem dX0_feedFurnace_28 : decode cX0_feedFurnace 28 = .ok (.getfield 52, 3) := by decide +kernel
theorem dX0_feedFurnace_31 : decode cX0_feedFurnace 31 = .ok (.dup, 1) := by decide +kernel
theorem dX0_feedFurnace_32 : decode cX0_feedFurnace 32 = .ok (.getfield 169, 3) := by decide +kernel
theorem dX0_feedFurnace_35 : decode cX0_feedFurnace 35 = .ok (.iconst 1, 1) := by decide +kernel
theorem dX0_feedFurnace_36 : decode cX0_feedFurnace 36 = .ok (.iadd, 1) := by decide +kernel
theorem dX0_feedFurnace_37 : decode cX0_feedFurnace 37 = .ok (.putfield 169, 3) := by decide +kernel
theorem dX0_feedFurnace_40 : decode cX0_feedFurnace 40 = .ok (.return_, 1) := by decide +kernel
theorem dX0_feedFurnace_41 : decode cX0_feedFurnace 41 = .ok (.aload_n 0, 1) := by decide +kernel
theorem dX0_feedFurnace_42 : decode cX0_feedFurnace 42 = .ok (.iconst 1, 1) := by decide +kernel
theorem dX0_feedFurnace_43 : decode cX0_feedFurnace 43 = .ok (.iconst 4, 1) := by decide +kernel
theorem dX0_feedFurnace_44 : decode cX0_feedFurnace 44 = .ok (.invokevirtual 172, 3) := by decide +kernel
theorem dX0_feedFurnace_47 : decode cX0_feedFurnace 47 = .ok (.aload_n 0, 1) := by decide +kernel
theorem dX0_feedFurnace_48 : decode cX0_feedFurnace 48 = .ok (.iconst 2, 1) := by decide +kernel
theorem dX0_feedFurnace_49 : decode cX0_feedFurnace 49 = .ok (.iconst 3, 1) := by decide +kernel
theorem dX0_feedFurnace_50 : decode cX0_feedFurnace 50 = .ok (.invokevirtual 172, 3) := by decide +kernel
theorem dX0_feedFurnace_53 : decode cX0_feedFurnace 53 = .ok (.aload_n 0, 1) := by decide +kernel
theorem dX0_feedFurnace_54 : decode cX0_feedFurnace 54 = .ok (.iconst 3, 1) := by decide +kernel
theorem dX0_feedFurnace_55 : decode cX0_feedFurnace 55 = .ok (.iconst 2, 1) := by decide +kernel
theorem dX0_feedFurnace_56 : decode cX0_feedFurnace 56 = .ok (.invokevirtual 172, 3) := by decide +kernel
theorem dX0_feedFurnace_59 : decode cX0_feedFurnace 59 = .ok (.return_, 1) := by decide +kernel
theorem dX0_feed_0 : decode cX0_feed 0 = .ok (.aload_n 0, 1) := by decide +kernel
theorem dX0_feed_1 : decode cX0_feed 1 = .ok (.getfield 12, 3) := by decide +kernel
theorem dX0_feed_4 : decode cX0_feed 4 = .ok (.iload_n 1, 1) := by decide +kernel
theorem dX0_feed_5 : decode cX0_feed 5 = .ok (.iload_n 2, 1) := by decide +kernel
theorem dX0_feed_6 : decode cX0_feed 6 = .ok (.invokevirtual 175, 3) := by decide +kernel
theorem dX0_feed_9 : decode cX0_feed 9 = .ok (.aload_n 0, 1) := by decide +kernel
theorem dX0_feed_10 : decode cX0_feed 10 = .ok (.getfield 52, 3) := by decide +kernel
theorem dX0_feed_13 : decode cX0_feed 13 = .ok (.getfield 133, 3) := by decide +kernel
theorem dX0_feed_16 : decode cX0_feed 16 = .ok (.iload_n 1, 1) := by decide +kernel
theorem dX0_feed_17 : decode cX0_feed 17 = .ok (.iload_n 2, 1) := by decide +kernel
theorem dX0_feed_18 : decode cX0_feed 18 = .ok (.invokevirtual 175, 3) := by decide +kernel
theorem dX0_feed_21 : decode cX0_feed 21 = .ok (.return_, 1) := by decide +kernel
theorem dX0_blowVessels_0 : decode cX0_blowVessels 0 = .ok (.aload_n 0, 1) := by decide +kernel
theorem dX0_blowVessels_1 : decode cX0_blowVessels 1 = .ok (.getfield 52, 3) := by decide +kernel
theorem dX0_blowVessels_4 : decode cX0_blowVessels 4 = .ok (.iconst 0, 1) := by decide +kernel
theorem dX0_blowVessels_5 : decode cX0_blowVessels 5 = .ok (.putfield 178, 3) := by decide +kernel
theorem dX0_blowVessels_8 : decode cX0_blowVessels 8 = .ok (.aload_n 0, 1) := by decide +kernel
theorem dX0_blowVessels_9 : decode cX0_blowVessels 9 = .ok (.getfield 24, 3) := by decide +kernel
theorem dX0_blowVessels_12 : decode cX0_blowVessels 12 = .ok (.astore_n 1, 1) := by decide +kernel
theorem dX0_blowVessels_13 : decode cX0_blowVessels 13 = .ok (.aload_n 1, 1) := by decide +kernel
theorem dX0_blowVessels_14 : decode cX0_blowVessels 14 = .ok (.arraylength, 1) := by decide +kernel
theorem dX0_blowVessels_15 : decode cX0_blowVessels 15 = .ok (.istore_n 2, 1) := by decide +kernel
theorem dX0_blowVessels_16 : decode cX0_blowVessels 16 = .ok (.iconst 0, 1) := by decide +kernel
theorem dX0_blowVessels_17 : decode cX0_blowVessels 17 = .ok (.istore_n 3, 1) := by decide +kernel
theorem dX0_blowVessels_18 : decode cX0_blowVessels 18 = .ok (.iload_n 3, 1) := by decide +kernel
theorem dX0_blowVessels_19 : decode cX0_blowVessels 19 = .ok (.iload_n 2, 1) := by decide +kernel
theorem dX0_blowVessels_20 : decode cX0_blowVessels 20 = .ok (.if_icmp .ge 28, 3) := by decide +kernel
theorem dX0_blowVessels_23 : decode cX0_blowVessels 23 = .ok (.aload_n 1, 1) := by decide +kernel
theorem dX0_blowVessels_24 : decode cX0_blowVessels 24 = .ok (.iload_n 3, 1) := by decide +kernel
theorem dX0_blowVessels_25 : decode cX0_blowVessels 25 = .ok (.aaload, 1) := by decide +kernel
theorem dX0_blowVessels_26 : decode cX0_blowVessels 26 = .ok (.astore 4, 2) := by decide +kernel
theorem dX0_blowVessels_28 : decode cX0_blowVessels 28 = .ok (.aload 4, 2) := by decide +kernel
theorem dX0_blowVessels_30 : decode cX0_blowVessels 30 = .ok (.getfield 181, 3) := by decide +kernel
theorem dX0_blowVessels_33 : decode cX0_blowVessels 33 = .ok (.ifCond .eq 9, 3) := by decide +kernel
theorem dX0_blowVessels_36 : decode cX0_blowVessels 36 = .ok (.aload_n 0, 1) := by decide +kernel
theorem dX0_blowVessels_37 : decode cX0_blowVessels 37 = .ok (.aload 4, 2) := by decide +kernel
theorem dX0_blowVessels_39 : decode cX0_blowVessels 39 = .ok (.invokevirtual 184, 3) := by decide +kernel
theorem dX0_blowVessels_42 : decode cX0_blowVessels 42 = .ok (.iinc 3 1, 3) := by decide +kernel
theorem dX0_blowVessels_45 : decode cX0_blowVessels 45 = .ok (.goto (-27), 3) := by decide +kernel
theorem dX0_blowVessels_48 : decode cX0_blowVessels 48 = .ok (.aload_n 0, 1) := by decide +kernel
theorem dX0_blowVessels_49 : decode cX0_blowVessels 49 = .ok (.getfield 24, 3) := by decide +kernel
theorem dX0_blowVessels_52 : decode cX0_blowVessels 52 = .ok (.astore_n 1, 1) := by decide +kernel
theorem dX0_blowVessels_53 : decode cX0_blowVessels 53 = .ok (.aload_n 1, 1) := by decide +kernel
theorem dX0_blowVessels_54 : decode cX0_blowVessels 54 = .ok (.arraylength, 1) := by decide +kernel
theorem dX0_blowVessels_55 : decode cX0_blowVessels 55 = .ok (.istore_n 2, 1) := by decide +kernel
theorem dX0_blowVessels_56 : decode cX0_blowVessels 56 = .ok (.iconst 0, 1) := by decide +kernel
theorem dX0_blowVessels_57 : decode cX0_blowVessels 57 = .ok (.istore_n 3, 1) := by decide +kernel
theorem dX0_blowVessels_58 : decode cX0_blowVessels 58 = .ok (.iload_n 3, 1) := by decide +kernel
theorem dX0_blowVessels_59 : decode cX0_blowVessels 59 = .ok (.iload_n 2, 1) := by decide +kernel
theorem dX0_blowVessels_60 : decode cX0_blowVessels 60 = .ok (.if_icmp .ge 19, 3) := by decide +kernel
theorem dX0_blowVessels_63 : decode cX0_blowVessels 63 = .ok (.aload_n 1, 1) := by decide +kernel
theorem dX0_blowVessels_64 : decode cX0_blowVessels 64 = .ok (.iload_n 3, 1) := by decide +kernel
theorem dX0_blowVessels_65 : decode cX0_blowVessels 65 = .ok (.aaload, 1) := by decide +kernel
theorem dX0_blowVessels_66 : decode cX0_blowVessels 66 = .ok (.astore 4, 2) := by decide +kernel
theorem dX0_blowVessels_68 : decode cX0_blowVessels 68 = .ok (.aload 4, 2) := by decide +kernel
theorem dX0_blowVessels_70 : decode cX0_blowVessels 70 = .ok (.invokevirtual 187, 3) := by decide +kernel
theorem dX0_blowVessels_73 : decode cX0_blowVessels 73 = .ok (.iinc 3 1, 3) := by decide +kernel
theorem dX0_blowVessels_76 : decode cX0_blowVessels 76 = .ok (.goto (-18), 3) := by decide +kernel
theorem dX0_blowVessels_79 : decode cX0_blowVessels 79 = .ok (.return_, 1) := by decide +kernel
theorem dX0_blowParts_0 : decode cX0_blowParts 0 = .ok (.aload_n 1, 1) := by decide +kernel
theorem dX0_blowParts_1 : decode cX0_blowParts 1 = .ok (.invokevirtual 190, 3) := by decide +kernel
theorem dX0_blowParts_4 : decode cX0_blowParts 4 = .ok (.ifCond .eq 19, 3) := by decide +kernel
theorem dX0_blowParts_7 : decode cX0_blowParts 7 = .ok (.aload_n 1, 1) := by decide +kernel
theorem dX0_blowParts_8 : decode cX0_blowParts 8 = .ok (.iconst 0, 1) := by decide +kernel
theorem dX0_blowParts_9 : decode cX0_blowParts 9 = .ok (.putfield 181, 3) := by decide +kernel
theorem dX0_blowParts_12 : decode cX0_blowParts 12 = .ok (.aload_n 1, 1) := by decide +kernel
theorem dX0_blowParts_13 : decode cX0_blowParts 13 = .ok (.dup, 1) := by decide +kernel
theorem dX0_blowParts_14 : decode cX0_blowParts 14 = .ok (.getfield 194, 3) := by decide +kernel
theorem dX0_blowParts_17 : decode cX0_blowParts 17 = .ok (.iconst 1, 1) := by decide +kernel
theorem dX0_blowParts_18 : decode cX0_blowParts 18 = .ok (.iadd, 1) := by decide +kernel
theorem dX0_blowParts_19 : decode cX0_blowParts 19 = .ok (.putfield 194, 3) := by decide +kernel
theorem dX0_blowParts_22 : decode cX0_blowParts 22 = .ok (.return_, 1) := by decide +kernel
theorem dX0_blowParts_23 : decode cX0_blowParts 23 = .ok (.bipush 6, 2) := by decide +kernel
theorem dX0_blowParts_25 : decode cX0_blowParts 25 = .ok (.aload_n 1, 1) := by decide +kernel
theorem dX0_blowParts_26 : decode cX0_blowParts 26 = .ok (.getfield 142, 3) := by decide +kernel
theorem dX0_blowParts_29 : decode cX0_blowParts 29 = .ok (.getfield 197, 3) := by decide +kernel
theorem dX0_blowParts_32 : decode cX0_blowParts 32 = .ok (.invokestatic 200, 3) := by decide +kernel
theorem dX0_blowParts_35 : decode cX0_blowParts 35 = .ok (.istore_n 2, 1) := by decide +kernel
theorem dX0_blowParts_36 : decode cX0_blowParts 36 = .ok (.bipush 6, 2) := by decide +kernel
theorem dX0_blowParts_38 : decode cX0_blowParts 38 = .ok (.iload_n 2, 1) := by decide +kernel
theorem dX0_blowParts_39 : decode cX0_blowParts 39 = .ok (.isub, 1) := by decide +kernel
theorem dX0_blowParts_40 : decode cX0_blowParts 40 = .ok (.aload_n 1, 1) := by decide +kernel
theorem dX0_blowParts_41 : decode cX0_blowParts 41 = .ok (.getfield 142, 3) := by decide +kernel
theorem dX0_blowParts_44 : decode cX0_blowParts 44 = .ok (.getfield 206, 3) := by decide +kernel
theorem dX0_blowParts_47 : decode cX0_blowParts 47 = .ok (.invokestatic 200, 3) := by decide +kernel
theorem dX0_blowParts_50 : decode cX0_blowParts 50 = .ok (.istore_n 3, 1) := by decide +kernel
theorem dX0_blowParts_51 : decode cX0_blowParts 51 = .ok (.bipush 6, 2) := by decide +kernel
theorem dX0_blowParts_53 : decode cX0_blowParts 53 = .ok (.iload_n 2, 1) := by decide +kernel
theorem dX0_blowParts_54 : decode cX0_blowParts 54 = .ok (.isub, 1) := by decide +kernel
theorem dX0_blowParts_55 : decode cX0_blowParts 55 = .ok (.iload_n 3, 1) := by decide +kernel
theorem dX0_blowParts_56 : decode cX0_blowParts 56 = .ok (.isub, 1) := by decide +kernel
theorem dX0_blowParts_57 : decode cX0_blowParts 57 = .ok (.aload_n 1, 1) := by decide +kernel
theorem dX0_blowParts_58 : decode cX0_blowParts 58 = .ok (.getfield 142, 3) := by decide +kernel
theorem dX0_blowParts_61 : decode cX0_blowParts 61 = .ok (.getfield 209, 3) := by decide +kernel
theorem dX0_blowParts_64 : decode cX0_blowParts 64 = .ok (.invokestatic 200, 3) := by decide +kernel
theorem dX0_blowParts_67 : decode cX0_blowParts 67 = .ok (.istore 4, 2) := by decide +kernel
theorem dX0_blowParts_69 : decode cX0_blowParts 69 = .ok (.aload_n 0, 1) := by decide +kernel
theorem dX0_blowParts_70 : decode cX0_blowParts 70 = .ok (.getfield 52, 3) := by decide +kernel
theorem dX0_blowParts_73 : decode cX0_blowParts 73 = .ok (.getfield 178, 3) := by decide +kernel
theorem dX0_blowParts_76 : decode cX0_blowParts 76 = .ok (.iload_n 3, 1) := by decide +kernel
theorem dX0_blowParts_77 : decode cX0_blowParts 77 = .ok (.iadd, 1) := by decide +kernel
theorem dX0_blowParts_78 : decode cX0_blowParts 78 = .ok (.aload_n 0, 1) := by decide +kernel
theorem dX0_blowParts_79 : decode cX0_blowParts 79 = .ok (.getfield 56, 3) := by decide +kernel
theorem dX0_blowParts_82 : decode cX0_blowParts 82 = .ok (.if_icmp .le 14, 3) := by decide +kernel
theorem dX0_blowParts_85 : decode cX0_blowParts 85 = .ok (.aload_n 1, 1) := by decide +kernel
theorem dX0_blowParts_86 : decode cX0_blowParts 86 = .ok (.dup, 1) := by decide +kernel
theorem dX0_blowParts_87 : decode cX0_blowParts 87 = .ok (.getfield 212, 3) := by decide +kernel
theorem dX0_blowParts_90 : decode cX0_blowParts 90 = .ok (.iconst 1, 1) := by decide +kernel
theorem dX0_blowParts_91 : decode cX0_blowParts 91 = .ok (.iadd, 1) := by decide +kernel
theorem dX0_blowParts_92 : decode cX0_blowParts 92 = .ok (.putfield 212, 3) := by decide +kernel
theorem dX0_blowParts_95 : decode cX0_blowParts 95 = .ok (.return_, 1) := by decide +kernel
theorem dX0_blowParts_96 : decode cX0_blowParts 96 = .ok (.aload_n 0, 1) := by decide +kernel
theorem dX0_blowParts_97 : decode cX0_blowParts 97 = .ok (.getfield 52, 3) := by decide +kernel
theorem dX0_blowParts_100 : decode cX0_blowParts 100 = .ok (.dup, 1) := by decide +kernel
theorem dX0_blowParts_101 : decode cX0_blowParts 101 = .ok (.getfield 178, 3) := by decide +kernel
theorem dX0_blowParts_104 : decode cX0_blowParts 104 = .ok (.iload_n 3, 1) := by decide +kernel
theorem dX0_blowParts_105 : decode cX0_blowParts 105 = .ok (.iadd, 1) := by decide +kernel
theorem dX0_blowParts_106 : decode cX0_blowParts 106 = .ok (.putfield 178, 3) := by decide +kernel
theorem dX0_blowParts_109 : decode cX0_blowParts 109 = .ok (.aload_n 1, 1) := by decide +kernel
theorem dX0_blowParts_110 : decode cX0_blowParts 110 = .ok (.dup, 1) := by decide +kernel
theorem dX0_blowParts_111 : decode cX0_blowParts 111 = .ok (.getfield 215, 3) := by decide +kernel
theorem dX0_blowParts_114 : decode cX0_blowParts 114 = .ok (.iconst 4, 1) := by decide +kernel
theorem dX0_blowParts_115 : decode cX0_blowParts 115 = .ok (.iload_n 2, 1) := by decide +kernel
theorem dX0_blowParts_116 : decode cX0_blowParts 116 = .ok (.imul, 1) := by decide +kernel
theorem dX0_blowParts_117 : decode cX0_blowParts 117 = .ok (.iconst 3, 1) := by decide +kernel
theorem dX0_blowParts_118 : decode cX0_blowParts 118 = .ok (.iload_n 3, 1) := by decide +kernel
theorem dX0_blowParts_119 : decode cX0_blowParts 119 = .ok (.imul, 1) := by decide +kernel
theorem dX0_blowParts_120 : decode cX0_blowParts 120 = .ok (.iadd, 1) := by decide +kernel
theorem dX0_blowParts_121 : decode cX0_blowParts 121 = .ok (.iconst 2, 1) := by decide +kernel
theorem dX0_blowParts_122 : decode cX0_blowParts 122 = .ok (.iload 4, 2) := by decide +kernel
theorem dX0_blowParts_124 : decode cX0_blowParts 124 = .ok (.imul, 1) := by decide +kernel
theorem dX0_blowParts_125 : decode cX0_blowParts 125 = .ok (.iadd, 1) := by decide +kernel
theorem dX0_blowParts_126 : decode cX0_blowParts 126 = .ok (.iadd, 1) := by decide +kernel
theorem dX0_blowParts_127 : decode cX0_blowParts 127 = .ok (.putfield 215, 3) := by decide +kernel
theorem dX0_blowParts_130 : decode cX0_blowParts 130 = .ok (.aload_n 0, 1) := by decide +kernel
theorem dX0_blowParts_131 : decode cX0_blowParts 131 = .ok (.aload_n 1, 1) := by decide +kernel
theorem dX0_blowParts_132 : decode cX0_blowParts 132 = .ok (.iconst 2, 1) := by decide +kernel
theorem dX0_blowParts_133 : decode cX0_blowParts 133 = .ok (.iload_n 2, 1) := by decide +kernel
theorem dX0_blowParts_134 : decode cX0_blowParts 134 = .ok (.invokevirtual 218, 3) := by decide +kernel
theorem dX0_blowParts_137 : decode cX0_blowParts 137 = .ok (.aload_n 0, 1) := by decide +kernel
theorem dX0_blowParts_138 : decode cX0_blowParts 138 = .ok (.aload_n 1, 1) := by decide +kernel
theorem dX0_blowParts_139 : decode cX0_blowParts 139 = .ok (.iconst 3, 1) := by decide +kernel
theorem dX0_blowParts_140 : decode cX0_blowParts 140 = .ok (.iload_n 3, 1) := by decide +kernel
theorem dX0_blowParts_141 : decode cX0_blowParts 141 = .ok (.invokevirtual 218, 3) := by decide +kernel
theorem dX0_blowParts_144 : decode cX0_blowParts 144 = .ok (.aload_n 0, 1) := by decide +kernel
theorem dX0_blowParts_145 : decode cX0_blowParts 145 = .ok (.aload_n 1, 1) := by decide +kernel
theorem dX0_blowParts_146 : decode cX0_blowParts 146 = .ok (.iconst 1, 1) := by decide +kernel
theorem dX0_blowParts_147 : decode cX0_blowParts 147 = .ok (.iload 4, 2) := by decide +kernel
theorem dX0_blowParts_149 : decode cX0_blowParts 149 = .ok (.invokevirtual 218, 3) := by decide +kernel
theorem dX0_blowParts_152 : decode cX0_blowParts 152 = .ok (.aload_n 1, 1) := by decide +kernel
theorem dX0_blowParts_153 : decode cX0_blowParts 153 = .ok (.getfield 142, 3) := by decide +kernel
theorem dX0_blowParts_156 : decode cX0_blowParts 156 = .ok (.dup, 1) := by decide +kernel
theorem dX0_blowParts_157 : decode cX0_blowParts 157 = .ok (.getfield 222, 3) := by decide +kernel
theorem dX0_blowParts_160 : decode cX0_blowParts 160 = .ok (.iload_n 2, 1) := by decide +kernel
theorem dX0_blowParts_161 : decode cX0_blowParts 161 = .ok (.iload 4, 2) := by decide +kernel
theorem dX0_blowParts_163 : decode cX0_blowParts 163 = .ok (.iadd, 1) := by decide +kernel
theorem dX0_blowParts_164 : decode cX0_blowParts 164 = .ok (.iadd, 1) := by decide +kernel
theorem dX0_blowParts_165 : decode cX0_blowParts 165 = .ok (.putfield 222, 3) := by decide +kernel
theorem dX0_blowParts_168 : decode cX0_blowParts 168 = .ok (.aload_n 0, 1) := by decide +kernel
theorem dX0_blowParts_169 : decode cX0_blowParts 169 = .ok (.getfield 52, 3) := by decide +kernel
theorem dX0_blowParts_172 : decode cX0_blowParts 172 = .ok (.getfield 139, 3) := by decide +kernel
theorem dX0_blowParts_175 : decode cX0_blowParts 175 = .ok (.dup, 1) := by decide +kernel
theorem dX0_blowParts_176 : decode cX0_blowParts 176 = .ok (.getfield 222, 3) := by decide +kernel
theorem dX0_blowParts_179 : decode cX0_blowParts 179 = .ok (.iload_n 2, 1) := by decide +kernel
theorem dX0_blowParts_180 : decode cX0_blowParts 180 = .ok (.iload 4, 2) := by decide +kernel
theorem dX0_blowParts_182 : decode cX0_blowParts 182 = .ok (.iadd, 1) := by decide +kernel
theorem dX0_blowParts_183 : decode cX0_blowParts 183 = .ok (.iadd, 1) := by decide +kernel
theorem dX0_blowParts_184 : decode cX0_blowParts 184 = .ok (.putfield 222, 3) := by decide +kernel
theorem dX0_blowParts_187 : decode cX0_blowParts 187 = .ok (.return_, 1) := by decide +kernel
theorem dX0_burn_0 : decode cX0_burn 0 = .ok (.aload_n 1, 1) := by decide +kernel
theorem dX0_burn_1 : decode cX0_burn 1 = .ok (.getfield 142, 3) := by decide +kernel
theorem dX0_burn_4 : decode cX0_burn 4 = .ok (.iload_n 2, 1) := by decide +kernel
theorem dX0_burn_5 : decode cX0_burn 5 = .ok (.iload_n 3, 1) := by decide +kernel
theorem dX0_burn_6 : decode cX0_burn 6 = .ok (.ineg, 1) := by decide +kernel
theorem dX0_burn_7 : decode cX0_burn 7 = .ok (.invokevirtual 175, 3) := by decide +kernel
theorem dX0_burn_10 : decode cX0_burn 10 = .ok (.aload_n 0, 1) := by decide +kernel
theorem dX0_burn_11 : decode cX0_burn 11 = .ok (.getfield 52, 3) := by decide +kernel
theorem dX0_burn_14 : decode cX0_burn 14 = .ok (.getfield 136, 3) := by decide +kernel
theorem dX0_burn_17 : decode cX0_burn 17 = .ok (.iload_n 2, 1) := by decide +kernel
theorem dX0_burn_18 : decode cX0_burn 18 = .ok (.iload_n 3, 1) := by decide +kernel
theorem dX0_burn_19 : decode cX0_burn 19 = .ok (.invokevirtual 175, 3) := by decide +kernel
theorem dX0_burn_22 : decode cX0_burn 22 = .ok (.return_, 1) := by decide +kernel
theorem dX0_castAnode_0 : decode cX0_castAnode 0 = .ok (.aload_n 0, 1) := by decide +kernel
theorem dX0_castAnode_1 : decode cX0_castAnode 1 = .ok (.getfield 80, 3) := by decide +kernel
theorem dX0_castAnode_4 : decode cX0_castAnode 4 = .ok (.iconst 5, 1) := by decide +kernel
theorem dX0_castAnode_5 : decode cX0_castAnode 5 = .ok (.if_icmp .lt 29, 3) := by decide +kernel
theorem dX0_castAnode_8 : decode cX0_castAnode 8 = .ok (.aload_n 0, 1) := by decide +kernel
theorem dX0_castAnode_9 : decode cX0_castAnode 9 = .ok (.dup, 1) := by decide +kernel
theorem dX0_castAnode_10 : decode cX0_castAnode 10 = .ok (.getfield 80, 3) := by decide +kernel
theorem dX0_castAnode_13 : decode cX0_castAnode 13 = .ok (.iconst 5, 1) := by decide +kernel
theorem dX0_castAnode_14 : decode cX0_castAnode 14 = .ok (.isub, 1) := by decide +kernel
theorem dX0_castAnode_15 : decode cX0_castAnode 15 = .ok (.putfield 80, 3) := by decide +kernel
theorem dX0_castAnode_18 : decode cX0_castAnode 18 = .ok (.aload_n 0, 1) := by decide +kernel
theorem dX0_castAnode_19 : decode cX0_castAnode 19 = .ok (.getfield 52, 3) := by decide +kernel
theorem dX0_castAnode_22 : decode cX0_castAnode 22 = .ok (.dup, 1) := by decide +kernel
theorem dX0_castAnode_23 : decode cX0_castAnode 23 = .ok (.getfield 121, 3) := by decide +kernel
theorem dX0_castAnode_26 : decode cX0_castAnode 26 = .ok (.iconst 1, 1) := by decide +kernel
theorem dX0_castAnode_27 : decode cX0_castAnode 27 = .ok (.iadd, 1) := by decide +kernel
theorem dX0_castAnode_28 : decode cX0_castAnode 28 = .ok (.putfield 121, 3) := by decide +kernel
theorem dX0_castAnode_31 : decode cX0_castAnode 31 = .ok (.goto 16, 3) := by decide +kernel
theorem dX0_castAnode_34 : decode cX0_castAnode 34 = .ok (.aload_n 0, 1) := by decide +kernel
theorem dX0_castAnode_35 : decode cX0_castAnode 35 = .ok (.getfield 52, 3) := by decide +kernel
theorem dX0_castAnode_38 : decode cX0_castAnode 38 = .ok (.dup, 1) := by decide +kernel
theorem dX0_castAnode_39 : decode cX0_castAnode 39 = .ok (.getfield 225, 3) := by decide +kernel
theorem dX0_castAnode_42 : decode cX0_castAnode 42 = .ok (.iconst 1, 1) := by decide +kernel
theorem dX0_castAnode_43 : decode cX0_castAnode 43 = .ok (.iadd, 1) := by decide +kernel
theorem dX0_castAnode_44 : decode cX0_castAnode 44 = .ok (.putfield 225, 3) := by decide +kernel
theorem dX0_castAnode_47 : decode cX0_castAnode 47 = .ok (.return_, 1) := by decide +kernel
theorem dX0_work_0 : decode cX0_work 0 = .ok (.iconst 0, 1) := by decide +kernel
theorem dX0_work_1 : decode cX0_work 1 = .ok (.istore_n 3, 1) := by decide +kernel
theorem dX0_work_2 : decode cX0_work 2 = .ok (.iload_n 3, 1) := by decide +kernel
theorem dX0_work_3 : decode cX0_work 3 = .ok (.bipush 8, 2) := by decide +kernel
theorem dX0_work_5 : decode cX0_work 5 = .ok (.if_icmp .ge 21, 3) := by decide +kernel
theorem dX0_work_8 : decode cX0_work 8 = .ok (.aload_n 1, 1) := by decide +kernel
theorem dX0_work_9 : decode cX0_work 9 = .ok (.invokevirtual 228, 3) := by decide +kernel
theorem dX0_work_12 : decode cX0_work 12 = .ok (.ifCond .eq 14, 3) := by decide +kernel
theorem dX0_work_15 : decode cX0_work 15 = .ok (.aload_n 0, 1) := by decide +kernel
theorem dX0_work_16 : decode cX0_work 16 = .ok (.aload_n 1, 1) := by decide +kernel
theorem dX0_work_17 : decode cX0_work 17 = .ok (.invokevirtual 231, 3) := by decide +kernel
theorem dX0_work_20 : decode cX0_work 20 = .ok (.iinc 3 1, 3) := by decide +kernel
theorem dX0_work_23 : decode cX0_work 23 = .ok (.goto (-21), 3) := by decide +kernel
theorem dX0_work_26 : decode cX0_work 26 = .ok (.aload_n 1, 1) := by decide +kernel
theorem dX0_work_27 : decode cX0_work 27 = .ok (.getfield 105, 3) := by decide +kernel
theorem dX0_work_30 : decode cX0_work 30 = .ok (.ifCond .ne 4, 3) := by decide +kernel
theorem dX0_work_33 : decode cX0_work 33 = .ok (.return_, 1) := by decide +kernel
theorem dX0_work_34 : decode cX0_work 34 = .ok (.aload_n 1, 1) := by decide +kernel
theorem dX0_work_35 : decode cX0_work 35 = .ok (.invokevirtual 234, 3) := by decide +kernel
theorem dX0_work_38 : decode cX0_work 38 = .ok (.ifCond .ne 12, 3) := by decide +kernel
theorem dX0_work_41 : decode cX0_work 41 = .ok (.aload_n 0, 1) := by decide +kernel
theorem dX0_work_42 : decode cX0_work 42 = .ok (.aload_n 1, 1) := by decide +kernel
theorem dX0_work_43 : decode cX0_work 43 = .ok (.aload_n 2, 1) := by decide +kernel
theorem dX0_work_44 : decode cX0_work 44 = .ok (.invokevirtual 237, 3) := by decide +kernel
theorem dX0_work_47 : decode cX0_work 47 = .ok (.goto 29, 3) := by decide +kernel
theorem dX0_work_50 : decode cX0_work 50 = .ok (.aload_n 0, 1) := by decide +kernel
theorem dX0_work_51 : decode cX0_work 51 = .ok (.aload_n 1, 1) := by decide +kernel
theorem dX0_work_52 : decode cX0_work 52 = .ok (.invokevirtual 240, 3) := by decide +kernel
theorem dX0_work_55 : decode cX0_work 55 = .ok (.ifCond .eq 11, 3) := by decide +kernel
theorem dX0_work_58 : decode cX0_work 58 = .ok (.aload_n 0, 1) := by decide +kernel
theorem dX0_work_59 : decode cX0_work 59 = .ok (.aload_n 1, 1) := by decide +kernel
theorem dX0_work_60 : decode cX0_work 60 = .ok (.invokevirtual 231, 3) := by decide +kernel
theorem dX0_work_63 : decode cX0_work 63 = .ok (.goto 13, 3) := by decide +kernel
theorem dX0_work_66 : decode cX0_work 66 = .ok (.aload_n 1, 1) := by decide +kernel
theorem dX0_work_67 : decode cX0_work 67 = .ok (.dup, 1) := by decide +kernel
theorem dX0_work_68 : decode cX0_work 68 = .ok (.getfield 244, 3) := by decide +kernel
theorem dX0_work_71 : decode cX0_work 71 = .ok (.iconst 1, 1) := by decide +kernel
theorem dX0_work_72 : decode cX0_work 72 = .ok (.iadd, 1) := by decide +kernel
theorem dX0_work_73 : decode cX0_work 73 = .ok (.putfield 244, 3) := by decide +kernel
theorem dX0_work_76 : decode cX0_work 76 = .ok (.return_, 1) := by decide +kernel
theorem dX0_finishFirst_0 : decode cX0_finishFirst 0 = .ok (.aload_n 1, 1) := by decide +kernel
theorem dX0_finishFirst_1 : decode cX0_finishFirst 1 = .ok (.invokevirtual 247, 3) := by decide +kernel
theorem dX0_finishFirst_4 : decode cX0_finishFirst 4 = .ok (.aload_n 0, 1) := by decide +kernel
theorem dX0_finishFirst_5 : decode cX0_finishFirst 5 = .ok (.getfield 52, 3) := by decide +kernel
theorem dX0_finishFirst_8 : decode cX0_finishFirst 8 = .ok (.dup, 1) := by decide +kernel
theorem dX0_finishFirst_9 : decode cX0_finishFirst 9 = .ok (.getfield 250, 3) := by decide +kernel
theorem dX0_finishFirst_12 : decode cX0_finishFirst 12 = .ok (.iconst 1, 1) := by decide +kernel
theorem dX0_finishFirst_13 : decode cX0_finishFirst 13 = .ok (.iadd, 1) := by decide +kernel
theorem dX0_finishFirst_14 : decode cX0_finishFirst 14 = .ok (.putfield 250, 3) := by decide +kernel
theorem dX0_finishFirst_17 : decode cX0_finishFirst 17 = .ok (.return_, 1) := by decide +kernel
theorem dX0_stepOrWait_0 : decode cX0_stepOrWait 0 = .ok (.aload_n 1, 1) := by decide +kernel
theorem dX0_stepOrWait_1 : decode cX0_stepOrWait 1 = .ok (.invokevirtual 253, 3) := by decide +kernel
theorem dX0_stepOrWait_4 : decode cX0_stepOrWait 4 = .ok (.istore_n 3, 1) := by decide +kernel
theorem dX0_stepOrWait_5 : decode cX0_stepOrWait 5 = .ok (.iload_n 3, 1) := by decide +kernel
theorem dX0_stepOrWait_6 : decode cX0_stepOrWait 6 = .ok (.aload_n 2, 1) := by decide +kernel
theorem dX0_stepOrWait_7 : decode cX0_stepOrWait 7 = .ok (.getfield 256, 3) := by decide +kernel
theorem dX0_stepOrWait_10 : decode cX0_stepOrWait 10 = .ok (.if_icmp .ne 14, 3) := by decide +kernel
theorem dX0_stepOrWait_13 : decode cX0_stepOrWait 13 = .ok (.aload_n 1, 1) := by decide +kernel
theorem dX0_stepOrWait_14 : decode cX0_stepOrWait 14 = .ok (.dup, 1) := by decide +kernel
theorem dX0_stepOrWait_15 : decode cX0_stepOrWait 15 = .ok (.getfield 244, 3) := by decide +kernel
theorem dX0_stepOrWait_18 : decode cX0_stepOrWait 18 = .ok (.iconst 1, 1) := by decide +kernel
theorem dX0_stepOrWait_19 : decode cX0_stepOrWait 19 = .ok (.iadd, 1) := by decide +kernel
theorem dX0_stepOrWait_20 : decode cX0_stepOrWait 20 = .ok (.putfield 244, 3) := by decide +kernel
theorem dX0_stepOrWait_23 : decode cX0_stepOrWait 23 = .ok (.return_, 1) := by decide +kernel
theorem dX0_stepOrWait_24 : decode cX0_stepOrWait 24 = .ok (.aload_n 1, 1) := by decide +kernel
theorem dX0_stepOrWait_25 : decode cX0_stepOrWait 25 = .ok (.iload_n 3, 1) := by decide +kernel
theorem dX0_stepOrWait_26 : decode cX0_stepOrWait 26 = .ok (.putfield 256, 3) := by decide +kernel
theorem dX0_stepOrWait_29 : decode cX0_stepOrWait 29 = .ok (.aload_n 0, 1) := by decide +kernel
theorem dX0_stepOrWait_30 : decode cX0_stepOrWait 30 = .ok (.aload_n 0, 1) := by decide +kernel
theorem dX0_stepOrWait_31 : decode cX0_stepOrWait 31 = .ok (.aload_n 1, 1) := by decide +kernel
theorem dX0_stepOrWait_32 : decode cX0_stepOrWait 32 = .ok (.invokevirtual 257, 3) := by decide +kernel
theorem dX0_stepOrWait_35 : decode cX0_stepOrWait 35 = .ok (.invokevirtual 261, 3) := by decide +kernel
theorem dX0_stepOrWait_38 : decode cX0_stepOrWait 38 = .ok (.astore 4, 2) := by decide +kernel
theorem dX0_stepOrWait_40 : decode cX0_stepOrWait 40 = .ok (.aload 4, 2) := by decide +kernel
theorem dX0_stepOrWait_42 : decode cX0_stepOrWait 42 = .ok (.ifnull 9, 3) := by decide +kernel
theorem dX0_stepOrWait_45 : decode cX0_stepOrWait 45 = .ok (.aload 4, 2) := by decide +kernel
theorem dX0_stepOrWait_47 : decode cX0_stepOrWait 47 = .ok (.iload_n 3, 1) := by decide +kernel
theorem dX0_stepOrWait_48 : decode cX0_stepOrWait 48 = .ok (.putfield 104, 3) := by decide +kernel
theorem dX0_stepOrWait_51 : decode cX0_stepOrWait 51 = .ok (.return_, 1) := by decide +kernel
theorem dX0_isCarriedOut_0 : decode cX0_isCarriedOut 0 = .ok (.aload_n 0, 1) := by decide +kernel
theorem dX0_isCarriedOut_1 : decode cX0_isCarriedOut 1 = .ok (.aload_n 0, 1) := by decide +kernel
theorem dX0_isCarriedOut_2 : decode cX0_isCarriedOut 2 = .ok (.aload_n 1, 1) := by decide +kernel
theorem dX0_isCarriedOut_3 : decode cX0_isCarriedOut 3 = .ok (.invokevirtual 257, 3) := by decide +kernel
theorem dX0_isCarriedOut_6 : decode cX0_isCarriedOut 6 = .ok (.invokevirtual 261, 3) := by decide +kernel
theorem dX0_isCarriedOut_9 : decode cX0_isCarriedOut 9 = .ok (.astore_n 2, 1) := by decide +kernel
theorem dX0_isCarriedOut_10 : decode cX0_isCarriedOut 10 = .ok (.aload_n 1, 1) := by decide +kernel
theorem dX0_isCarriedOut_11 : decode cX0_isCarriedOut 11 = .ok (.invokevirtual 234, 3) := by decide +kernel
theorem dX0_isCarriedOut_14 : decode cX0_isCarriedOut 14 = .ok (.iconst 1, 1) := by decide +kernel
theorem dX0_isCarriedOut_15 : decode cX0_isCarriedOut 15 = .ok (.if_icmp .ne 21, 3) := by decide +kernel
theorem dX0_isCarriedOut_18 : decode cX0_isCarriedOut 18 = .ok (.aload_n 2, 1) := by decide +kernel
theorem dX0_isCarriedOut_19 : decode cX0_isCarriedOut 19 = .ok (.ifnonnull 15, 3) := by decide +kernel
theorem dX0_isCarriedOut_22 : decode cX0_isCarriedOut 22 = .ok (.aload_n 0, 1) := by decide +kernel
theorem dX0_isCarriedOut_23 : decode cX0_isCarriedOut 23 = .ok (.aload_n 1, 1) := by decide +kernel
theorem dX0_isCarriedOut_24 : decode cX0_isCarriedOut 24 = .ok (.invokevirtual 265, 3) := by decide +kernel
theorem dX0_isCarriedOut_27 : decode cX0_isCarriedOut 27 = .ok (.ifCond .eq 7, 3) := by decide +kernel
theorem dX0_isCarriedOut_30 : decode cX0_isCarriedOut 30 = .ok (.iconst 1, 1) := by decide +kernel
theorem dX0_isCarriedOut_31 : decode cX0_isCarriedOut 31 = .ok (.goto 4, 3) := by decide +kernel
theorem dX0_isCarriedOut_34 : decode cX0_isCarriedOut 34 = .ok (.iconst 0, 1) := by decide +kernel
theorem dX0_isCarriedOut_35 : decode cX0_isCarriedOut 35 = .ok (.ireturn, 1) := by decide +kernel
theorem dX0_isCarriedOut_36 : decode cX0_isCarriedOut 36 = .ok (.aload_n 2, 1) := by decide +kernel
theorem dX0_isCarriedOut_37 : decode cX0_isCarriedOut 37 = .ok (.ifnonnull 5, 3) := by decide +kernel
theorem dX0_isCarriedOut_40 : decode cX0_isCarriedOut 40 = .ok (.iconst 0, 1) := by decide +kernel
theorem dX0_isCarriedOut_41 : decode cX0_isCarriedOut 41 = .ok (.ireturn, 1) := by decide +kernel
theorem dX0_isCarriedOut_42 : decode cX0_isCarriedOut 42 = .ok (.aload_n 0, 1) := by decide +kernel
theorem dX0_isCarriedOut_43 : decode cX0_isCarriedOut 43 = .ok (.aload_n 1, 1) := by decide +kernel
theorem dX0_isCarriedOut_44 : decode cX0_isCarriedOut 44 = .ok (.getfield 256, 3) := by decide +kernel
theorem dX0_isCarriedOut_47 : decode cX0_isCarriedOut 47 = .ok (.invokevirtual 94, 3) := by decide +kernel
theorem dX0_isCarriedOut_50 : decode cX0_isCarriedOut 50 = .ok (.astore_n 3, 1) := by decide +kernel
theorem dX0_isCarriedOut_51 : decode cX0_isCarriedOut 51 = .ok (.aload_n 1, 1) := by decide +kernel
theorem dX0_isCarriedOut_52 : decode cX0_isCarriedOut 52 = .ok (.invokevirtual 234, 3) := by decide +kernel
theorem dX0_isCarriedOut_55 : decode cX0_isCarriedOut 55 = .ok (.tableswitch 98 2 7 #[37, 43, 49, 56, 74, 92], 37) := by decide +kernel
theorem dX0_isCarriedOut_92 : decode cX0_isCarriedOut 92 = .ok (.aload_n 0, 1) := by decide +kernel
theorem dX0_isCarriedOut_93 : decode cX0_isCarriedOut 93 = .ok (.aload_n 2, 1) := by decide +kernel
theorem dX0_isCarriedOut_94 : decode cX0_isCarriedOut 94 = .ok (.invokevirtual 268, 3) := by decide +kernel
theorem dX0_isCarriedOut_97 : decode cX0_isCarriedOut 97 = .ok (.ireturn, 1) := by decide +kernel
theorem dX0_isCarriedOut_98 : decode cX0_isCarriedOut 98 = .ok (.aload_n 0, 1) := by decide +kernel
theorem dX0_isCarriedOut_99 : decode cX0_isCarriedOut 99 = .ok (.aload_n 2, 1) := by decide +kernel
theorem dX0_isCarriedOut_100 : decode cX0_isCarriedOut 100 = .ok (.invokevirtual 272, 3) := by decide +kernel
theorem dX0_isCarriedOut_103 : decode cX0_isCarriedOut 103 = .ok (.ireturn, 1) := by decide +kernel
theorem dX0_isCarriedOut_104 : decode cX0_isCarriedOut 104 = .ok (.aload_n 0, 1) := by decide +kernel
theorem dX0_isCarriedOut_105 : decode cX0_isCarriedOut 105 = .ok (.aload_n 2, 1) := by decide +kernel
theorem dX0_isCarriedOut_106 : decode cX0_isCarriedOut 106 = .ok (.aload_n 3, 1) := by decide +kernel
theorem dX0_isCarriedOut_107 : decode cX0_isCarriedOut 107 = .ok (.invokevirtual 275, 3) := by decide +kernel
theorem dX0_isCarriedOut_110 : decode cX0_isCarriedOut 110 = .ok (.ireturn, 1) := by decide +kernel
theorem dX0_isCarriedOut_111 : decode cX0_isCarriedOut 111 = .ok (.aload_n 3, 1) := by decide +kernel
theorem dX0_isCarriedOut_112 : decode cX0_isCarriedOut 112 = .ok (.ifnull 15, 3) := by decide +kernel
theorem dX0_isCarriedOut_115 : decode cX0_isCarriedOut 115 = .ok (.aload_n 2, 1) := by decide +kernel
theorem dX0_isCarriedOut_116 : decode cX0_isCarriedOut 116 = .ok (.aload_n 3, 1) := by decide +kernel
theorem dX0_isCarriedOut_117 : decode cX0_isCarriedOut 117 = .ok (.invokestatic 279, 3) := by decide +kernel
theorem dX0_isCarriedOut_120 : decode cX0_isCarriedOut 120 = .ok (.ifCond .eq 7, 3) := by decide +kernel
theorem dX0_isCarriedOut_123 : decode cX0_isCarriedOut 123 = .ok (.iconst 1, 1) := by decide +kernel
theorem dX0_isCarriedOut_124 : decode cX0_isCarriedOut 124 = .ok (.goto 4, 3) := by decide +kernel
theorem dX0_isCarriedOut_127 : decode cX0_isCarriedOut 127 = .ok (.iconst 0, 1) := by decide +kernel
theorem dX0_isCarriedOut_128 : decode cX0_isCarriedOut 128 = .ok (.ireturn, 1) := by decide +kernel
theorem dX0_isCarriedOut_129 : decode cX0_isCarriedOut 129 = .ok (.aload_n 3, 1) := by decide +kernel
theorem dX0_isCarriedOut_130 : decode cX0_isCarriedOut 130 = .ok (.ifnull 15, 3) := by decide +kernel
theorem dX0_isCarriedOut_133 : decode cX0_isCarriedOut 133 = .ok (.aload_n 2, 1) := by decide +kernel
theorem dX0_isCarriedOut_134 : decode cX0_isCarriedOut 134 = .ok (.aload_n 3, 1) := by decide +kernel
theorem dX0_isCarriedOut_135 : decode cX0_isCarriedOut 135 = .ok (.invokestatic 282, 3) := by decide +kernel
theorem dX0_isCarriedOut_138 : decode cX0_isCarriedOut 138 = .ok (.ifCond .eq 7, 3) := by decide +kernel
theorem dX0_isCarriedOut_141 : decode cX0_isCarriedOut 141 = .ok (.iconst 1, 1) := by decide +kernel
theorem dX0_isCarriedOut_142 : decode cX0_isCarriedOut 142 = .ok (.goto 4, 3) := by decide +kernel
theorem dX0_isCarriedOut_145 : decode cX0_isCarriedOut 145 = .ok (.iconst 0, 1) := by decide +kernel
theorem dX0_isCarriedOut_146 : decode cX0_isCarriedOut 146 = .ok (.ireturn, 1) := by decide +kernel
theorem dX0_isCarriedOut_147 : decode cX0_isCarriedOut 147 = .ok (.aload_n 0, 1) := by decide +kernel
theorem dX0_isCarriedOut_148 : decode cX0_isCarriedOut 148 = .ok (.aload_n 2, 1) := by decide +kernel
theorem dX0_isCarriedOut_149 : decode cX0_isCarriedOut 149 = .ok (.invokevirtual 285, 3) := by decide +kernel
theorem dX0_isCarriedOut_152 : decode cX0_isCarriedOut 152 = .ok (.ireturn, 1) := by decide +kernel
theorem dX0_isCarriedOut_153 : decode cX0_isCarriedOut 153 = .ok (.iconst 0, 1) := by decide +kernel
theorem dX0_isCarriedOut_154 : decode cX0_isCarriedOut 154 = .ok (.ireturn, 1) := by decide +kernel
theorem dX0_take_0 : decode cX0_take 0 = .ok (.aload_n 0, 1) := by decide +kernel
theorem dX0_take_1 : decode cX0_take 1 = .ok (.aload_n 1, 1) := by decide +kernel
theorem dX0_take_2 : decode cX0_take 2 = .ok (.getfield 256, 3) := by decide +kernel
theorem dX0_take_5 : decode cX0_take 5 = .ok (.invokevirtual 288, 3) := by decide +kernel
theorem dX0_take_8 : decode cX0_take 8 = .ok (.astore_n 2, 1) := by decide +kernel
theorem dX0_take_9 : decode cX0_take 9 = .ok (.aload_n 2, 1) := by decide +kernel
theorem dX0_take_10 : decode cX0_take 10 = .ok (.ifnonnull 5, 3) := by decide +kernel
theorem dX0_take_13 : decode cX0_take 13 = .ok (.iconst 0, 1) := by decide +kernel
theorem dX0_take_14 : decode cX0_take 14 = .ok (.ireturn, 1) := by decide +kernel
theorem dX0_take_15 : decode cX0_take 15 = .ok (.aload_n 2, 1) := by decide +kernel
theorem dX0_take_16 : decode cX0_take 16 = .ok (.aload_n 1, 1) := by decide +kernel
theorem dX0_take_17 : decode cX0_take 17 = .ok (.getfield 101, 3) := by decide +kernel
theorem dX0_take_20 : decode cX0_take 20 = .ok (.putfield 98, 3) := by decide +kernel
theorem dX0_take_23 : decode cX0_take 23 = .ok (.iconst 1, 1) := by decide +kernel
theorem dX0_take_24 : decode cX0_take 24 = .ok (.ireturn, 1) := by decide +kernel
theorem dX0_set_0 : decode cX0_set 0 = .ok (.aload_n 0, 1) := by decide +kernel
theorem dX0_set_1 : decode cX0_set 1 = .ok (.aload_n 1, 1) := by decide +kernel
theorem dX0_set_2 : decode cX0_set 2 = .ok (.getfield 104, 3) := by decide +kernel
theorem dX0_set_5 : decode cX0_set 5 = .ok (.invokevirtual 291, 3) := by decide +kernel
theorem dX0_set_8 : decode cX0_set 8 = .ok (.ifCond .eq 14, 3) := by decide +kernel
theorem dX0_set_11 : decode cX0_set 11 = .ok (.aload_n 0, 1) := by decide +kernel
theorem dX0_set_12 : decode cX0_set 12 = .ok (.aload_n 1, 1) := by decide +kernel
theorem dX0_set_13 : decode cX0_set 13 = .ok (.getfield 104, 3) := by decide +kernel
theorem dX0_set_16 : decode cX0_set 16 = .ok (.invokevirtual 288, 3) := by decide +kernel
theorem dX0_set_19 : decode cX0_set 19 = .ok (.ifnull 5, 3) := by decide +kernel
theorem dX0_set_22 : decode cX0_set 22 = .ok (.iconst 0, 1) := by decide +kernel
theorem dX0_set_23 : decode cX0_set 23 = .ok (.ireturn, 1) := by decide +kernel
theorem dX0_set_24 : decode cX0_set 24 = .ok (.aload_n 1, 1) := by decide +kernel
theorem dX0_set_25 : decode cX0_set 25 = .ok (.bipush (-4), 2) := by decide +kernel
theorem dX0_set_27 : decode cX0_set 27 = .ok (.putfield 98, 3) := by decide +kernel
theorem dX0_set_30 : decode cX0_set 30 = .ok (.iconst 1, 1) := by decide +kernel
theorem dX0_set_31 : decode cX0_set 31 = .ok (.ireturn, 1) := by decide +kernel
theorem dX0_tap_0 : decode cX0_tap 0 = .ok (.aload_n 0, 1) := by decide +kernel
theorem dX0_tap_1 : decode cX0_tap 1 = .ok (.getfield 12, 3) := by decide +kernel
theorem dX0_tap_4 : decode cX0_tap 4 = .ok (.invokevirtual 165, 3) := by decide +kernel
theorem dX0_tap_7 : decode cX0_tap 7 = .ok (.istore_n 2, 1) := by decide +kernel
theorem dX0_tap_8 : decode cX0_tap 8 = .ok (.iload_n 2, 1) := by decide +kernel
theorem dX0_tap_9 : decode cX0_tap 9 = .ok (.aload_n 1, 1) := by decide +kernel
theorem dX0_tap_10 : decode cX0_tap 10 = .ok (.invokevirtual 295, 3) := by decide +kernel
theorem dX0_tap_13 : decode cX0_tap 13 = .ok (.invokestatic 200, 3) := by decide +kernel
theorem dX0_tap_16 : decode cX0_tap 16 = .ok (.istore_n 3, 1) := by decide +kernel
theorem dX0_tap_17 : decode cX0_tap 17 = .ok (.aload_n 1, 1) := by decide +kernel
theorem dX0_tap_18 : decode cX0_tap 18 = .ok (.getfield 104, 3) := by decide +kernel
theorem dX0_tap_21 : decode cX0_tap 21 = .ok (.ifCond .ne 20, 3) := by decide +kernel
theorem dX0_tap_24 : decode cX0_tap 24 = .ok (.aload_n 1, 1) := by decide +kernel
theorem dX0_tap_25 : decode cX0_tap 25 = .ok (.getfield 298, 3) := by decide +kernel
theorem dX0_tap_28 : decode cX0_tap 28 = .ok (.ifCond .ne 13, 3) := by decide +kernel
theorem dX0_tap_31 : decode cX0_tap 31 = .ok (.iload_n 2, 1) := by decide +kernel
theorem dX0_tap_32 : decode cX0_tap 32 = .ok (.iconst 1, 1) := by decide +kernel
theorem dX0_tap_33 : decode cX0_tap 33 = .ok (.if_icmp .lt 8, 3) := by decide +kernel
theorem dX0_tap_36 : decode cX0_tap 36 = .ok (.iload_n 3, 1) := by decide +kernel
theorem dX0_tap_37 : decode cX0_tap 37 = .ok (.iconst 1, 1) := by decide +kernel
theorem dX0_tap_38 : decode cX0_tap 38 = .ok (.if_icmp .ge 5, 3) := by decide +kernel
theorem dX0_tap_41 : decode cX0_tap 41 = .ok (.iconst 0, 1) := by decide +kernel
theorem dX0_tap_42 : decode cX0_tap 42 = .ok (.ireturn, 1) := by decide +kernel
theorem dX0_tap_43 : decode cX0_tap 43 = .ok (.aload_n 0, 1) := by decide +kernel
theorem dX0_tap_44 : decode cX0_tap 44 = .ok (.getfield 12, 3) := by decide +kernel
theorem dX0_tap_47 : decode cX0_tap 47 = .ok (.getfield 209, 3) := by decide +kernel
theorem dX0_tap_50 : decode cX0_tap 50 = .ok (.iload_n 3, 1) := by decide +kernel
theorem dX0_tap_51 : decode cX0_tap 51 = .ok (.imul, 1) := by decide +kernel
theorem dX0_tap_52 : decode cX0_tap 52 = .ok (.iload_n 2, 1) := by decide +kernel
theorem dX0_tap_53 : decode cX0_tap 53 = .ok (.idiv, 1) := by decide +kernel
theorem dX0_tap_54 : decode cX0_tap 54 = .ok (.istore 4, 2) := by decide +kernel
theorem dX0_tap_56 : decode cX0_tap 56 = .ok (.aload_n 0, 1) := by decide +kernel
theorem dX0_tap_57 : decode cX0_tap 57 = .ok (.getfield 12, 3) := by decide +kernel
theorem dX0_tap_60 : decode cX0_tap 60 = .ok (.getfield 197, 3) := by decide +kernel
theorem dX0_tap_63 : decode cX0_tap 63 = .ok (.iload_n 3, 1) := by decide +kernel
theorem dX0_tap_64 : decode cX0_tap 64 = .ok (.imul, 1) := by decide +kernel
theorem dX0_tap_65 : decode cX0_tap 65 = .ok (.iload_n 2, 1) := by decide +kernel
theorem dX0_tap_66 : decode cX0_tap 66 = .ok (.idiv, 1) := by decide +kernel
theorem dX0_tap_67 : decode cX0_tap 67 = .ok (.istore 5, 2) := by decide +kernel
theorem dX0_tap_69 : decode cX0_tap 69 = .ok (.iload_n 3, 1) := by decide +kernel
theorem dX0_tap_70 : decode cX0_tap 70 = .ok (.iload 4, 2) := by decide +kernel
theorem dX0_tap_72 : decode cX0_tap 72 = .ok (.isub, 1) := by decide +kernel
theorem dX0_tap_73 : decode cX0_tap 73 = .ok (.iload 5, 2) := by decide +kernel
theorem dX0_tap_75 : decode cX0_tap 75 = .ok (.isub, 1) := by decide +kernel
theorem dX0_tap_76 : decode cX0_tap 76 = .ok (.aload_n 0, 1) := by decide +kernel
theorem dX0_tap_77 : decode cX0_tap 77 = .ok (.getfield 12, 3) := by decide +kernel
theorem dX0_tap_80 : decode cX0_tap 80 = .ok (.getfield 206, 3) := by decide +kernel
theorem dX0_tap_83 : decode cX0_tap 83 = .ok (.invokestatic 200, 3) := by decide +kernel
theorem dX0_tap_86 : decode cX0_tap 86 = .ok (.istore 6, 2) := by decide +kernel
theorem dX0_tap_88 : decode cX0_tap 88 = .ok (.iload_n 3, 1) := by decide +kernel
theorem dX0_tap_89 : decode cX0_tap 89 = .ok (.iload 4, 2) := by decide +kernel
theorem dX0_tap_91 : decode cX0_tap 91 = .ok (.isub, 1) := by decide +kernel
theorem dX0_tap_92 : decode cX0_tap 92 = .ok (.iload 5, 2) := by decide +kernel
theorem dX0_tap_94 : decode cX0_tap 94 = .ok (.isub, 1) := by decide +kernel
theorem dX0_tap_95 : decode cX0_tap 95 = .ok (.iload 6, 2) := by decide +kernel
theorem dX0_tap_97 : decode cX0_tap 97 = .ok (.isub, 1) := by decide +kernel
theorem dX0_tap_98 : decode cX0_tap 98 = .ok (.istore 7, 2) := by decide +kernel
theorem dX0_tap_100 : decode cX0_tap 100 = .ok (.iload 5, 2) := by decide +kernel
theorem dX0_tap_102 : decode cX0_tap 102 = .ok (.iload 7, 2) := by decide +kernel
theorem dX0_tap_104 : decode cX0_tap 104 = .ok (.aload_n 0, 1) := by decide +kernel
theorem dX0_tap_105 : decode cX0_tap 105 = .ok (.getfield 12, 3) := by decide +kernel
theorem dX0_tap_108 : decode cX0_tap 108 = .ok (.getfield 197, 3) := by decide +kernel
theorem dX0_tap_111 : decode cX0_tap 111 = .ok (.iload 5, 2) := by decide +kernel
theorem dX0_tap_113 : decode cX0_tap 113 = .ok (.isub, 1) := by decide +kernel
theorem dX0_tap_114 : decode cX0_tap 114 = .ok (.invokestatic 200, 3) := by decide +kernel
theorem dX0_tap_117 : decode cX0_tap 117 = .ok (.iadd, 1) := by decide +kernel
theorem dX0_tap_118 : decode cX0_tap 118 = .ok (.istore 5, 2) := by decide +kernel
theorem dX0_tap_120 : decode cX0_tap 120 = .ok (.iload_n 3, 1) := by decide +kernel
theorem dX0_tap_121 : decode cX0_tap 121 = .ok (.iload 5, 2) := by decide +kernel
theorem dX0_tap_123 : decode cX0_tap 123 = .ok (.isub, 1) := by decide +kernel
theorem dX0_tap_124 : decode cX0_tap 124 = .ok (.iload 6, 2) := by decide +kernel
theorem dX0_tap_126 : decode cX0_tap 126 = .ok (.isub, 1) := by decide +kernel
theorem dX0_tap_127 : decode cX0_tap 127 = .ok (.istore 4, 2) := by decide +kernel
theorem dX0_tap_129 : decode cX0_tap 129 = .ok (.aload_n 1, 1) := by decide +kernel
theorem dX0_tap_130 : decode cX0_tap 130 = .ok (.iconst 1, 1) := by decide +kernel
theorem dX0_tap_131 : decode cX0_tap 131 = .ok (.putfield 298, 3) := by decide +kernel
theorem dX0_tap_134 : decode cX0_tap 134 = .ok (.aload_n 0, 1) := by decide +kernel
theorem dX0_tap_135 : decode cX0_tap 135 = .ok (.aload_n 1, 1) := by decide +kernel
theorem dX0_tap_136 : decode cX0_tap 136 = .ok (.iconst 1, 1) := by decide +kernel
theorem dX0_tap_137 : decode cX0_tap 137 = .ok (.iload 4, 2) := by decide +kernel
theorem dX0_tap_139 : decode cX0_tap 139 = .ok (.invokevirtual 301, 3) := by decide +kernel
theorem dX0_tap_142 : decode cX0_tap 142 = .ok (.aload_n 0, 1) := by decide +kernel
theorem dX0_tap_143 : decode cX0_tap 143 = .ok (.aload_n 1, 1) := by decide +kernel
theorem dX0_tap_144 : decode cX0_tap 144 = .ok (.iconst 2, 1) := by decide +kernel
theorem dX0_tap_145 : decode cX0_tap 145 = .ok (.iload 5, 2) := by decide +kernel
theorem dX0_tap_147 : decode cX0_tap 147 = .ok (.invokevirtual 301, 3) := by decide +kernel
theorem dX0_tap_150 : decode cX0_tap 150 = .ok (.aload_n 0, 1) := by decide +kernel
theorem dX0_tap_151 : decode cX0_tap 151 = .ok (.aload_n 1, 1) := by decide +kernel
theorem dX0_tap_152 : decode cX0_tap 152 = .ok (.iconst 3, 1) := by decide +kernel
theorem dX0_tap_153 : decode cX0_tap 153 = .ok (.iload 6, 2) := by decide +kernel
theorem dX0_tap_155 : decode cX0_tap 155 = .ok (.invokevirtual 301, 3) := by decide +kernel
theorem dX0_tap_158 : decode cX0_tap 158 = .ok (.iconst 1, 1) := by decide +kernel
theorem dX0_tap_159 : decode cX0_tap 159 = .ok (.ireturn, 1) := by decide +kernel
theorem dX0_tapStuff_0 : decode cX0_tapStuff 0 = .ok (.aload_n 0, 1) := by decide +kernel
theorem dX0_tapStuff_1 : decode cX0_tapStuff 1 = .ok (.getfield 12, 3) := by decide +kernel
theorem dX0_tapStuff_4 : decode cX0_tapStuff 4 = .ok (.iload_n 2, 1) := by decide +kernel
theorem dX0_tapStuff_5 : decode cX0_tapStuff 5 = .ok (.iload_n 3, 1) := by decide +kernel
theorem dX0_tapStuff_6 : decode cX0_tapStuff 6 = .ok (.ineg, 1) := by decide +kernel
theorem dX0_tapStuff_7 : decode cX0_tapStuff 7 = .ok (.invokevirtual 175, 3) := by decide +kernel
theorem dX0_tapStuff_10 : decode cX0_tapStuff 10 = .ok (.aload_n 1, 1) := by decide +kernel
theorem dX0_tapStuff_11 : decode cX0_tapStuff 11 = .ok (.getfield 145, 3) := by decide +kernel
theorem dX0_tapStuff_14 : decode cX0_tapStuff 14 = .ok (.iload_n 2, 1) := by decide +kernel
theorem dX0_tapStuff_15 : decode cX0_tapStuff 15 = .ok (.iload_n 3, 1) := by decide +kernel
theorem dX0_tapStuff_16 : decode cX0_tapStuff 16 = .ok (.invokevirtual 175, 3) := by decide +kernel
theorem dX0_tapStuff_19 : decode cX0_tapStuff 19 = .ok (.return_, 1) := by decide +kernel
theorem dX0_pour_0 : decode cX0_pour 0 = .ok (.aload_n 1, 1) := by decide +kernel
theorem dX0_pour_1 : decode cX0_pour 1 = .ok (.invokevirtual 305, 3) := by decide +kernel
theorem dX0_pour_4 : decode cX0_pour 4 = .ok (.istore_n 3, 1) := by decide +kernel
theorem dX0_pour_5 : decode cX0_pour 5 = .ok (.aload_n 1, 1) := by decide +kernel
theorem dX0_pour_6 : decode cX0_pour 6 = .ok (.getfield 145, 3) := by decide +kernel
theorem dX0_pour_9 : decode cX0_pour 9 = .ok (.invokevirtual 165, 3) := by decide +kernel
theorem dX0_pour_12 : decode cX0_pour 12 = .ok (.iload_n 3, 1) := by decide +kernel
theorem dX0_pour_13 : decode cX0_pour 13 = .ok (.isub, 1) := by decide +kernel
theorem dX0_pour_14 : decode cX0_pour 14 = .ok (.istore 4, 2) := by decide +kernel
theorem dX0_pour_16 : decode cX0_pour 16 = .ok (.aload_n 1, 1) := by decide +kernel
theorem dX0_pour_17 : decode cX0_pour 17 = .ok (.aload_n 2, 1) := by decide +kernel
theorem dX0_pour_18 : decode cX0_pour 18 = .ok (.iload 4, 2) := by decide +kernel
theorem dX0_pour_20 : decode cX0_pour 20 = .ok (.invokestatic 308, 3) := by decide +kernel
theorem dX0_pour_23 : decode cX0_pour 23 = .ok (.ifCond .ne 5, 3) := by decide +kernel
theorem dX0_pour_26 : decode cX0_pour 26 = .ok (.iconst 0, 1) := by decide +kernel
theorem dX0_pour_27 : decode cX0_pour 27 = .ok (.ireturn, 1) := by decide +kernel
theorem dX0_pour_28 : decode cX0_pour 28 = .ok (.aload_n 1, 1) := by decide +kernel
theorem dX0_pour_29 : decode cX0_pour 29 = .ok (.iload_n 3, 1) := by decide +kernel
theorem dX0_pour_30 : decode cX0_pour 30 = .ok (.invokevirtual 312, 3) := by decide +kernel
theorem dX0_pour_33 : decode cX0_pour 33 = .ok (.aload_n 2, 1) := by decide +kernel
theorem dX0_pour_34 : decode cX0_pour 34 = .ok (.ifnull 26, 3) := by decide +kernel
theorem dX0_pour_37 : decode cX0_pour 37 = .ok (.aload_n 2, 1) := by decide +kernel
theorem dX0_pour_38 : decode cX0_pour 38 = .ok (.sipush 1150, 3) := by decide +kernel
theorem dX0_pour_41 : decode cX0_pour 41 = .ok (.iload 4, 2) := by decide +kernel
theorem dX0_pour_43 : decode cX0_pour 43 = .ok (.invokevirtual 315, 3) := by decide +kernel
theorem dX0_pour_46 : decode cX0_pour 46 = .ok (.aload_n 2, 1) := by decide +kernel
theorem dX0_pour_47 : decode cX0_pour 47 = .ok (.getfield 142, 3) := by decide +kernel
theorem dX0_pour_50 : decode cX0_pour 50 = .ok (.aload_n 1, 1) := by decide +kernel
theorem dX0_pour_51 : decode cX0_pour 51 = .ok (.getfield 145, 3) := by decide +kernel
theorem dX0_pour_54 : decode cX0_pour 54 = .ok (.invokevirtual 318, 3) := by decide +kernel
theorem dX0_pour_57 : decode cX0_pour 57 = .ok (.goto 68, 3) := by decide +kernel
theorem dX0_pour_60 : decode cX0_pour 60 = .ok (.aload_n 1, 1) := by decide +kernel
theorem dX0_pour_61 : decode cX0_pour 61 = .ok (.getfield 104, 3) := by decide +kernel
theorem dX0_pour_64 : decode cX0_pour 64 = .ok (.iconst 2, 1) := by decide +kernel
theorem dX0_pour_65 : decode cX0_pour 65 = .ok (.if_icmp .ne 20, 3) := by decide +kernel
theorem dX0_pour_68 : decode cX0_pour 68 = .ok (.aload_n 0, 1) := by decide +kernel
theorem dX0_pour_69 : decode cX0_pour 69 = .ok (.getfield 52, 3) := by decide +kernel
theorem dX0_pour_72 : decode cX0_pour 72 = .ok (.getfield 124, 3) := by decide +kernel
theorem dX0_pour_75 : decode cX0_pour 75 = .ok (.aload_n 1, 1) := by decide +kernel
theorem dX0_pour_76 : decode cX0_pour 76 = .ok (.getfield 145, 3) := by decide +kernel
theorem dX0_pour_79 : decode cX0_pour 79 = .ok (.invokevirtual 318, 3) := by decide +kernel
theorem dX0_pour_82 : decode cX0_pour 82 = .ok (.goto 43, 3) := by decide +kernel
theorem dX0_pour_85 : decode cX0_pour 85 = .ok (.aload_n 1, 1) := by decide +kernel
theorem dX0_pour_86 : decode cX0_pour 86 = .ok (.getfield 104, 3) := by decide +kernel
theorem dX0_pour_89 : decode cX0_pour 89 = .ok (.ifCond .ne 20, 3) := by decide +kernel
theorem dX0_pour_92 : decode cX0_pour 92 = .ok (.aload_n 0, 1) := by decide +kernel
theorem dX0_pour_93 : decode cX0_pour 93 = .ok (.getfield 52, 3) := by decide +kernel
theorem dX0_pour_96 : decode cX0_pour 96 = .ok (.getfield 127, 3) := by decide +kernel
theorem dX0_pour_99 : decode cX0_pour 99 = .ok (.aload_n 1, 1) := by decide +kernel
theorem dX0_pour_100 : decode cX0_pour 100 = .ok (.getfield 145, 3) := by decide +kernel
theorem dX0_pour_103 : decode cX0_pour 103 = .ok (.invokevirtual 318, 3) := by decide +kernel
theorem dX0_pour_106 : decode cX0_pour 106 = .ok (.goto 19, 3) := by decide +kernel
theorem dX0_pour_109 : decode cX0_pour 109 = .ok (.aload_n 0, 1) := by decide +kernel
theorem dX0_pour_110 : decode cX0_pour 110 = .ok (.dup, 1) := by decide +kernel
theorem dX0_pour_111 : decode cX0_pour 111 = .ok (.getfield 80, 3) := by decide +kernel
theorem dX0_pour_114 : decode cX0_pour 114 = .ok (.aload_n 1, 1) := by decide +kernel
theorem dX0_pour_115 : decode cX0_pour 115 = .ok (.getfield 145, 3) := by decide +kernel
theorem dX0_pour_118 : decode cX0_pour 118 = .ok (.getfield 209, 3) := by decide +kernel
theorem dX0_pour_121 : decode cX0_pour 121 = .ok (.iadd, 1) := by decide +kernel
theorem dX0_pour_122 : decode cX0_pour 122 = .ok (.putfield 80, 3) := by decide +kernel
theorem dX0_pour_125 : decode cX0_pour 125 = .ok (.aload_n 1, 1) := by decide +kernel
theorem dX0_pour_126 : decode cX0_pour 126 = .ok (.invokevirtual 321, 3) := by decide +kernel
theorem dX0_pour_129 : decode cX0_pour 129 = .ok (.iconst 1, 1) := by decide +kernel
theorem dX0_pour_130 : decode cX0_pour 130 = .ok (.ireturn, 1) := by decide +kernel
theorem dX0_canPour_0 : decode cX0_canPour 0 = .ok (.aload_n 0, 1) := by decide +kernel
theorem dX0_canPour_1 : decode cX0_canPour 1 = .ok (.getfield 298, 3) := by decide +kernel
theorem dX0_canPour_4 : decode cX0_canPour 4 = .ok (.tableswitch 89 1 3 #[28, 53, 74], 28) := by decide +kernel
theorem dX0_canPour_32 : decode cX0_canPour 32 = .ok (.aload_n 1, 1) := by decide +kernel
theorem dX0_canPour_33 : decode cX0_canPour 33 = .ok (.ifnull 22, 3) := by decide +kernel
theorem dX0_canPour_36 : decode cX0_canPour 36 = .ok (.aload_n 1, 1) := by decide +kernel
theorem dX0_canPour_37 : decode cX0_canPour 37 = .ok (.getfield 142, 3) := by decide +kernel
theorem dX0_canPour_40 : decode cX0_canPour 40 = .ok (.invokevirtual 165, 3) := by decide +kernel
theorem dX0_canPour_43 : decode cX0_canPour 43 = .ok (.iload_n 2, 1) := by decide +kernel
theorem dX0_canPour_44 : decode cX0_canPour 44 = .ok (.iadd, 1) := by decide +kernel
theorem dX0_canPour_45 : decode cX0_canPour 45 = .ok (.sipush 300, 3) := by decide +kernel
theorem dX0_canPour_48 : decode cX0_canPour 48 = .ok (.if_icmp .gt 7, 3) := by decide +kernel
theorem dX0_canPour_51 : decode cX0_canPour 51 = .ok (.iconst 1, 1) := by decide +kernel
theorem dX0_canPour_52 : decode cX0_canPour 52 = .ok (.goto 4, 3) := by decide +kernel
theorem dX0_canPour_55 : decode cX0_canPour 55 = .ok (.iconst 0, 1) := by decide +kernel
theorem dX0_canPour_56 : decode cX0_canPour 56 = .ok (.ireturn, 1) := by decide +kernel
theorem dX0_canPour_57 : decode cX0_canPour 57 = .ok (.aload_n 0, 1) := by decide +kernel
theorem dX0_canPour_58 : decode cX0_canPour 58 = .ok (.getfield 104, 3) := by decide +kernel
theorem dX0_canPour_61 : decode cX0_canPour 61 = .ok (.iconst 2, 1) := by decide +kernel
theorem dX0_canPour_62 : decode cX0_canPour 62 = .ok (.if_icmp .eq 10, 3) := by decide +kernel
theorem dX0_canPour_65 : decode cX0_canPour 65 = .ok (.aload_n 0, 1) := by decide +kernel
theorem dX0_canPour_66 : decode cX0_canPour 66 = .ok (.getfield 104, 3) := by decide +kernel
theorem dX0_canPour_69 : decode cX0_canPour 69 = .ok (.ifCond .ne 7, 3) := by decide +kernel
theorem dX0_canPour_72 : decode cX0_canPour 72 = .ok (.iconst 1, 1) := by decide +kernel
theorem dX0_canPour_73 : decode cX0_canPour 73 = .ok (.goto 4, 3) := by decide +kernel
theorem dX0_canPour_76 : decode cX0_canPour 76 = .ok (.iconst 0, 1) := by decide +kernel
theorem dX0_canPour_77 : decode cX0_canPour 77 = .ok (.ireturn, 1) := by decide +kernel
theorem dX0_canPour_78 : decode cX0_canPour 78 = .ok (.aload_n 0, 1) := by decide +kernel
theorem dX0_canPour_79 : decode cX0_canPour 79 = .ok (.getfield 104, 3) := by decide +kernel
theorem dX0_canPour_82 : decode cX0_canPour 82 = .ok (.bipush 15, 2) := by decide +kernel
theorem dX0_canPour_84 : decode cX0_canPour 84 = .ok (.if_icmp .ne 7, 3) := by decide +kernel
theorem dX0_canPour_87 : decode cX0_canPour 87 = .ok (.iconst 1, 1) := by decide +kernel
theorem dX0_canPour_88 : decode cX0_canPour 88 = .ok (.goto 4, 3) := by decide +kernel
theorem dX0_canPour_91 : decode cX0_canPour 91 = .ok (.iconst 0, 1) := by decide +kernel
theorem dX0_canPour_92 : decode cX0_canPour 92 = .ok (.ireturn, 1) := by decide +kernel
theorem dX0_canPour_93 : decode cX0_canPour 93 = .ok (.iconst 0, 1) := by decide +kernel
theorem dX0_canPour_94 : decode cX0_canPour 94 = .ok (.ireturn, 1) := by decide +kernel
theorem dX0_skim_0 : decode cX0_skim 0 = .ok (.aload_n 0, 1) := by decide +kernel
theorem dX0_skim_1 : decode cX0_skim 1 = .ok (.getfield 298, 3) := by decide +kernel
theorem dX0_skim_4 : decode cX0_skim 4 = .ok (.ifCond .eq 11, 3) := by decide +kernel
theorem dX0_skim_7 : decode cX0_skim 7 = .ok (.aload_n 0, 1) := by decide +kernel
theorem dX0_skim_8 : decode cX0_skim 8 = .ok (.getfield 298, 3) := by decide +kernel
theorem dX0_skim_11 : decode cX0_skim 11 = .ok (.iconst 2, 1) := by decide +kernel
theorem dX0_skim_12 : decode cX0_skim 12 = .ok (.if_icmp .ne 7, 3) := by decide +kernel
theorem dX0_skim_15 : decode cX0_skim 15 = .ok (.iconst 1, 1) := by decide +kernel
theorem dX0_skim_16 : decode cX0_skim 16 = .ok (.goto 4, 3) := by decide +kernel
theorem dX0_skim_19 : decode cX0_skim 19 = .ok (.iconst 0, 1) := by decide +kernel
theorem dX0_skim_20 : decode cX0_skim 20 = .ok (.istore_n 2, 1) := by decide +kernel
theorem dX0_skim_21 : decode cX0_skim 21 = .ok (.aload_n 1, 1) := by decide +kernel
theorem dX0_skim_22 : decode cX0_skim 22 = .ok (.getfield 142, 3) := by decide +kernel
theorem dX0_skim_25 : decode cX0_skim 25 = .ok (.getfield 222, 3) := by decide +kernel
theorem dX0_skim_28 : decode cX0_skim 28 = .ok (.aload_n 0, 1) := by decide +kernel
theorem dX0_skim_29 : decode cX0_skim 29 = .ok (.invokevirtual 295, 3) := by decide +kernel
theorem dX0_skim_32 : decode cX0_skim 32 = .ok (.invokestatic 200, 3) := by decide +kernel
theorem dX0_skim_35 : decode cX0_skim 35 = .ok (.istore_n 3, 1) := by decide +kernel
theorem dX0_skim_36 : decode cX0_skim 36 = .ok (.iload_n 2, 1) := by decide +kernel
theorem dX0_skim_37 : decode cX0_skim 37 = .ok (.ifCond .eq 8, 3) := by decide +kernel
theorem dX0_skim_40 : decode cX0_skim 40 = .ok (.iload_n 3, 1) := by decide +kernel
theorem dX0_skim_41 : decode cX0_skim 41 = .ok (.iconst 1, 1) := by decide +kernel
theorem dX0_skim_42 : decode cX0_skim 42 = .ok (.if_icmp .ge 5, 3) := by decide +kernel
theorem dX0_skim_45 : decode cX0_skim 45 = .ok (.iconst 0, 1) := by decide +kernel
theorem dX0_skim_46 : decode cX0_skim 46 = .ok (.ireturn, 1) := by decide +kernel
theorem dX0_skim_47 : decode cX0_skim 47 = .ok (.aload_n 1, 1) := by decide +kernel
theorem dX0_skim_48 : decode cX0_skim 48 = .ok (.getfield 142, 3) := by decide +kernel
theorem dX0_skim_51 : decode cX0_skim 51 = .ok (.dup, 1) := by decide +kernel
theorem dX0_skim_52 : decode cX0_skim 52 = .ok (.getfield 222, 3) := by decide +kernel
theorem dX0_skim_55 : decode cX0_skim 55 = .ok (.iload_n 3, 1) := by decide +kernel
theorem dX0_skim_56 : decode cX0_skim 56 = .ok (.isub, 1) := by decide +kernel
theorem dX0_skim_57 : decode cX0_skim 57 = .ok (.putfield 222, 3) := by decide +kernel
theorem dX0_skim_60 : decode cX0_skim 60 = .ok (.aload_n 0, 1) := by decide +kernel
theorem dX0_skim_61 : decode cX0_skim 61 = .ok (.getfield 145, 3) := by decide +kernel
theorem dX0_skim_64 : decode cX0_skim 64 = .ok (.dup, 1) := by decide +kernel
theorem dX0_skim_65 : decode cX0_skim 65 = .ok (.getfield 222, 3) := by decide +kernel
theorem dX0_skim_68 : decode cX0_skim 68 = .ok (.iload_n 3, 1) := by decide +kernel
theorem dX0_skim_69 : decode cX0_skim 69 = .ok (.iadd, 1) := by decide +kernel
theorem dX0_skim_70 : decode cX0_skim 70 = .ok (.putfield 222, 3) := by decide +kernel
theorem dX0_skim_73 : decode cX0_skim 73 = .ok (.aload_n 0, 1) := by decide +kernel
theorem dX0_skim_74 : decode cX0_skim 74 = .ok (.iconst 2, 1) := by decide +kernel
theorem dX0_skim_75 : decode cX0_skim 75 = .ok (.putfield 298, 3) := by decide +kernel
theorem dX0_skim_78 : decode cX0_skim 78 = .ok (.iconst 1, 1) := by decide +kernel
theorem dX0_skim_79 : decode cX0_skim 79 = .ok (.ireturn, 1) := by decide +kernel
theorem dX0_draw_0 : decode cX0_draw 0 = .ok (.aload_n 1, 1) := by decide +kernel
theorem dX0_draw_1 : decode cX0_draw 1 = .ok (.getfield 181, 3) := by decide +kernel
theorem dX0_draw_4 : decode cX0_draw 4 = .ok (.ifCond .ne 17, 3) := by decide +kernel
theorem dX0_draw_7 : decode cX0_draw 7 = .ok (.aload_n 1, 1) := by decide +kernel
theorem dX0_draw_8 : decode cX0_draw 8 = .ok (.invokevirtual 324, 3) := by decide +kernel
theorem dX0_draw_11 : decode cX0_draw 11 = .ok (.ifCond .eq 10, 3) := by decide +kernel
theorem dX0_draw_14 : decode cX0_draw 14 = .ok (.aload_n 0, 1) := by decide +kernel
theorem dX0_draw_15 : decode cX0_draw 15 = .ok (.getfield 298, 3) := by decide +kernel
theorem dX0_draw_18 : decode cX0_draw 18 = .ok (.ifCond .eq 5, 3) := by decide +kernel
theorem dX0_draw_21 : decode cX0_draw 21 = .ok (.iconst 0, 1) := by decide +kernel
theorem dX0_draw_22 : decode cX0_draw 22 = .ok (.ireturn, 1) := by decide +kernel
theorem dX0_draw_23 : decode cX0_draw 23 = .ok (.aload_n 1, 1) := by decide +kernel
theorem dX0_draw_24 : decode cX0_draw 24 = .ok (.getfield 142, 3) := by decide +kernel
theorem dX0_draw_27 : decode cX0_draw 27 = .ok (.getfield 209, 3) := by decide +kernel
theorem dX0_draw_30 : decode cX0_draw 30 = .ok (.aload_n 0, 1) := by decide +kernel
theorem dX0_draw_31 : decode cX0_draw 31 = .ok (.invokevirtual 295, 3) := by decide +kernel
theorem dX0_draw_34 : decode cX0_draw 34 = .ok (.invokestatic 200, 3) := by decide +kernel
theorem dX0_draw_37 : decode cX0_draw 37 = .ok (.istore_n 2, 1) := by decide +kernel
theorem dX0_draw_38 : decode cX0_draw 38 = .ok (.aload_n 1, 1) := by decide +kernel
theorem dX0_draw_39 : decode cX0_draw 39 = .ok (.getfield 142, 3) := by decide +kernel
theorem dX0_draw_42 : decode cX0_draw 42 = .ok (.dup, 1) := by decide +kernel
theorem dX0_draw_43 : decode cX0_draw 43 = .ok (.getfield 209, 3) := by decide +kernel
theorem dX0_draw_46 : decode cX0_draw 46 = .ok (.iload_n 2, 1) := by decide +kernel
theorem dX0_draw_47 : decode cX0_draw 47 = .ok (.isub, 1) := by decide +kernel
theorem dX0_draw_48 : decode cX0_draw 48 = .ok (.putfield 209, 3) := by decide +kernel
theorem dX0_draw_51 : decode cX0_draw 51 = .ok (.aload_n 0, 1) := by decide +kernel
theorem dX0_draw_52 : decode cX0_draw 52 = .ok (.getfield 145, 3) := by decide +kernel
theorem dX0_draw_55 : decode cX0_draw 55 = .ok (.dup, 1) := by decide +kernel
theorem dX0_draw_56 : decode cX0_draw 56 = .ok (.getfield 209, 3) := by decide +kernel
theorem dX0_draw_59 : decode cX0_draw 59 = .ok (.iload_n 2, 1) := by decide +kernel
theorem dX0_draw_60 : decode cX0_draw 60 = .ok (.iadd, 1) := by decide +kernel
theorem dX0_draw_61 : decode cX0_draw 61 = .ok (.putfield 209, 3) := by decide +kernel
theorem dX0_draw_64 : decode cX0_draw 64 = .ok (.aload_n 0, 1) := by decide +kernel
theorem dX0_draw_65 : decode cX0_draw 65 = .ok (.iconst 3, 1) := by decide +kernel
theorem dX0_draw_66 : decode cX0_draw 66 = .ok (.putfield 298, 3) := by decide +kernel
theorem dX0_draw_69 : decode cX0_draw 69 = .ok (.iconst 1, 1) := by decide +kernel
theorem dX0_draw_70 : decode cX0_draw 70 = .ok (.ireturn, 1) := by decide +kernel
theorem dX0_clean_0 : decode cX0_clean 0 = .ok (.aload_n 1, 1) := by decide +kernel
theorem dX0_clean_1 : decode cX0_clean 1 = .ok (.getfield 104, 3) := by decide +kernel
theorem dX0_clean_4 : decode cX0_clean 4 = .ok (.iconst 1, 1) := by decide +kernel
theorem dX0_clean_5 : decode cX0_clean 5 = .ok (.if_icmp .eq 12, 3) := by decide +kernel
theorem dX0_clean_8 : decode cX0_clean 8 = .ok (.aload_n 1, 1) := by decide +kernel
theorem dX0_clean_9 : decode cX0_clean 9 = .ok (.getfield 104, 3) := by decide +kernel
theorem dX0_clean_12 : decode cX0_clean 12 = .ok (.bipush 14, 2) := by decide +kernel
theorem dX0_clean_14 : decode cX0_clean 14 = .ok (.if_icmp .ne 7, 3) := by decide +kernel
theorem dX0_clean_17 : decode cX0_clean 17 = .ok (.iconst 1, 1) := by decide +kernel
theorem dX0_clean_18 : decode cX0_clean 18 = .ok (.goto 4, 3) := by decide +kernel
theorem dX0_clean_21 : decode cX0_clean 21 = .ok (.iconst 0, 1) := by decide +kernel
theorem dX0_clean_22 : decode cX0_clean 22 = .ok (.istore_n 2, 1) := by decide +kernel
theorem dX0_clean_23 : decode cX0_clean 23 = .ok (.iload_n 2, 1) := by decide +kernel
theorem dX0_clean_24 : decode cX0_clean 24 = .ok (.ifCond .eq 20, 3) := by decide +kernel
theorem dX0_clean_27 : decode cX0_clean 27 = .ok (.aload_n 1, 1) := by decide +kernel
theorem dX0_clean_28 : decode cX0_clean 28 = .ok (.getfield 298, 3) := by decide +kernel
theorem dX0_clean_31 : decode cX0_clean 31 = .ok (.ifCond .ne 13, 3) := by decide +kernel
theorem dX0_clean_34 : decode cX0_clean 34 = .ok (.aload_n 1, 1) := by decide +kernel
theorem dX0_clean_35 : decode cX0_clean 35 = .ok (.getfield 146, 3) := by decide +kernel
theorem dX0_clean_38 : decode cX0_clean 38 = .ok (.invokevirtual 165, 3) := by decide +kernel
theorem dX0_clean_41 : decode cX0_clean 41 = .ok (.ifCond .ne 5, 3) := by decide +kernel
theorem dX0_clean_44 : decode cX0_clean 44 = .ok (.iconst 0, 1) := by decide +kernel
theorem dX0_clean_45 : decode cX0_clean 45 = .ok (.ireturn, 1) := by decide +kernel
theorem dX0_clean_46 : decode cX0_clean 46 = .ok (.aload_n 0, 1) := by decide +kernel
theorem dX0_clean_47 : decode cX0_clean 47 = .ok (.getfield 52, 3) := by decide +kernel
theorem dX0_clean_50 : decode cX0_clean 50 = .ok (.getfield 130, 3) := by decide +kernel
theorem dX0_clean_53 : decode cX0_clean 53 = .ok (.aload_n 1, 1) := by decide +kernel
theorem dX0_clean_54 : decode cX0_clean 54 = .ok (.getfield 146, 3) := by decide +kernel
theorem dX0_clean_57 : decode cX0_clean 57 = .ok (.invokevirtual 318, 3) := by decide +kernel
theorem dX0_clean_60 : decode cX0_clean 60 = .ok (.aload_n 1, 1) := by decide +kernel
theorem dX0_clean_61 : decode cX0_clean 61 = .ok (.getfield 146, 3) := by decide +kernel
theorem dX0_clean_64 : decode cX0_clean 64 = .ok (.invokevirtual 327, 3) := by decide +kernel
theorem dX0_clean_67 : decode cX0_clean 67 = .ok (.iconst 1, 1) := by decide +kernel
theorem dX0_clean_68 : decode cX0_clean 68 = .ok (.ireturn, 1) := by decide +kernel
theorem dX1_init_0 : decode cX1_init 0 = .ok (.aload_n 0, 1) := by decide +kernel
theorem dX1_init_1 : decode cX1_init 1 = .ok (.invokespecial 3, 3) := by decide +kernel
theorem dX1_init_4 : decode cX1_init 4 = .ok (.aload_n 0, 1) := by decide +kernel
theorem dX1_init_5 : decode cX1_init 5 = .ok (.new 9, 3) := by decide +kernel
theorem dX1_init_8 : decode cX1_init 8 = .ok (.dup, 1) := by decide +kernel
theorem dX1_init_9 : decode cX1_init 9 = .ok (.invokespecial 11, 3) := by decide +kernel
theorem dX1_init_12 : decode cX1_init 12 = .ok (.putfield 12, 3) := by decide +kernel
theorem dX1_init_15 : decode cX1_init 15 = .ok (.aload_n 0, 1) := by decide +kernel
theorem dX1_init_16 : decode cX1_init 16 = .ok (.new 9, 3) := by decide +kernel
theorem dX1_init_19 : decode cX1_init 19 = .ok (.dup, 1) := by decide +kernel
theorem dX1_init_20 : decode cX1_init 20 = .ok (.invokespecial 11, 3) := by decide +kernel
theorem dX1_init_23 : decode cX1_init 23 = .ok (.putfield 18, 3) := by decide +kernel
theorem dX1_init_26 : decode cX1_init 26 = .ok (.aload_n 0, 1) := by decide +kernel
theorem dX1_init_27 : decode cX1_init 27 = .ok (.new 9, 3) := by decide +kernel
theorem dX1_init_30 : decode cX1_init 30 = .ok (.dup, 1) := by decide +kernel
theorem dX1_init_31 : decode cX1_init 31 = .ok (.invokespecial 11, 3) := by decide +kernel
theorem dX1_init_34 : decode cX1_init 34 = .ok (.putfield 21, 3) := by decide +kernel
theorem dX1_init_37 : decode cX1_init 37 = .ok (.aload_n 0, 1) := by decide +kernel
theorem dX1_init_38 : decode cX1_init 38 = .ok (.new 9, 3) := by decide +kernel
theorem dX1_init_41 : decode cX1_init 41 = .ok (.dup, 1) := by decide +kernel
theorem dX1_init_42 : decode cX1_init 42 = .ok (.invokespecial 11, 3) := by decide +kernel
theorem dX1_init_45 : decode cX1_init 45 = .ok (.putfield 24, 3) := by decide +kernel
theorem dX1_init_48 : decode cX1_init 48 = .ok (.aload_n 0, 1) := by decide +kernel
theorem dX1_init_49 : decode cX1_init 49 = .ok (.new 9, 3) := by decide +kernel
theorem dX1_init_52 : decode cX1_init 52 = .ok (.dup, 1) := by decide +kernel
theorem dX1_init_53 : decode cX1_init 53 = .ok (.invokespecial 11, 3) := by decide +kernel
theorem dX1_init_56 : decode cX1_init 56 = .ok (.putfield 27, 3) := by decide +kernel
theorem dX1_init_59 : decode cX1_init 59 = .ok (.aload_n 0, 1) := by decide +kernel
theorem dX1_init_60 : decode cX1_init 60 = .ok (.new 9, 3) := by decide +kernel
theorem dX1_init_63 : decode cX1_init 63 = .ok (.dup, 1) := by decide +kernel
theorem dX1_init_64 : decode cX1_init 64 = .ok (.invokespecial 11, 3) := by decide +kernel
theorem dX1_init_67 : decode cX1_init 67 = .ok (.putfield 30, 3) := by decide +kernel
theorem dX1_init_70 : decode cX1_init 70 = .ok (.return_, 1) := by decide +kernel
theorem dX1_answer_0 : decode cX1_answer 0 = .ok (.iload_n 1, 1) := by decide +kernel
theorem dX1_answer_1 : decode cX1_answer 1 = .ok (.tableswitch 81 0 6 #[43, 48, 56, 61, 66, 71, 76], 43) := by decide +kernel
theorem dX1_answer_44 : decode cX1_answer 44 = .ok (.aload_n 0, 1) := by decide +kernel
theorem dX1_answer_45 : decode cX1_answer 45 = .ok (.getfield 33, 3) := by decide +kernel
theorem dX1_answer_48 : decode cX1_answer 48 = .ok (.ireturn, 1) := by decide +kernel
theorem dX1_answer_49 : decode cX1_answer 49 = .ok (.aload_n 0, 1) := by decide +kernel
theorem dX1_answer_50 : decode cX1_answer 50 = .ok (.getfield 27, 3) := by decide +kernel
theorem dX1_answer_53 : decode cX1_answer 53 = .ok (.getfield 37, 3) := by decide +kernel
theorem dX1_answer_56 : decode cX1_answer 56 = .ok (.ireturn, 1) := by decide +kernel
theorem dX1_answer_57 : decode cX1_answer 57 = .ok (.aload_n 0, 1) := by decide +kernel
theorem dX1_answer_58 : decode cX1_answer 58 = .ok (.getfield 40, 3) := by decide +kernel
theorem dX1_answer_61 : decode cX1_answer 61 = .ok (.ireturn, 1) := by decide +kernel
theorem dX1_answer_62 : decode cX1_answer 62 = .ok (.aload_n 0, 1) := by decide +kernel
theorem dX1_answer_63 : decode cX1_answer 63 = .ok (.getfield 43, 3) := by decide +kernel
theorem dX1_answer_66 : decode cX1_answer 66 = .ok (.ireturn, 1) := by decide +kernel
theorem dX1_answer_67 : decode cX1_answer 67 = .ok (.aload_n 0, 1) := by decide +kernel
theorem dX1_answer_68 : decode cX1_answer 68 = .ok (.getfield 46, 3) := by decide +kernel
theorem dX1_answer_71 : decode cX1_answer 71 = .ok (.ireturn, 1) := by decide +kernel
theorem dX1_answer_72 : decode cX1_answer 72 = .ok (.aload_n 0, 1) := by decide +kernel
theorem dX1_answer_73 : decode cX1_answer 73 = .ok (.getfield 49, 3) := by decide +kernel
theorem dX1_answer_76 : decode cX1_answer 76 = .ok (.ireturn, 1) := by decide +kernel
theorem dX1_answer_77 : decode cX1_answer 77 = .ok (.aload_n 0, 1) := by decide +kernel
theorem dX1_answer_78 : decode cX1_answer 78 = .ok (.getfield 52, 3) := by decide +kernel
theorem dX1_answer_81 : decode cX1_answer 81 = .ok (.ireturn, 1) := by decide +kernel
theorem dX1_answer_82 : decode cX1_answer 82 = .ok (.iconst (-1), 1) := by decide +kernel
theorem dX1_answer_83 : decode cX1_answer 83 = .ok (.ireturn, 1) := by decide +kernel
theorem dX1_copyFrom_0 : decode cX1_copyFrom 0 = .ok (.aload_n 0, 1) := by decide +kernel
theorem dX1_copyFrom_1 : decode cX1_copyFrom 1 = .ok (.getfield 12, 3) := by decide +kernel
theorem dX1_copyFrom_4 : decode cX1_copyFrom 4 = .ok (.aload_n 1, 1) := by decide +kernel
theorem dX1_copyFrom_5 : decode cX1_copyFrom 5 = .ok (.getfield 12, 3) := by decide +kernel
theorem dX1_copyFrom_8 : decode cX1_copyFrom 8 = .ok (.invokevirtual 55, 3) := by decide +kernel
theorem dX1_copyFrom_11 : decode cX1_copyFrom 11 = .ok (.aload_n 0, 1) := by decide +kernel
theorem dX1_copyFrom_12 : decode cX1_copyFrom 12 = .ok (.getfield 18, 3) := by decide +kernel
theorem dX1_copyFrom_15 : decode cX1_copyFrom 15 = .ok (.aload_n 1, 1) := by decide +kernel
theorem dX1_copyFrom_16 : decode cX1_copyFrom 16 = .ok (.getfield 18, 3) := by decide +kernel
theorem dX1_copyFrom_19 : decode cX1_copyFrom 19 = .ok (.invokevirtual 55, 3) := by decide +kernel
theorem dX1_copyFrom_22 : decode cX1_copyFrom 22 = .ok (.aload_n 0, 1) := by decide +kernel
theorem dX1_copyFrom_23 : decode cX1_copyFrom 23 = .ok (.getfield 21, 3) := by decide +kernel
theorem dX1_copyFrom_26 : decode cX1_copyFrom 26 = .ok (.aload_n 1, 1) := by decide +kernel
theorem dX1_copyFrom_27 : decode cX1_copyFrom 27 = .ok (.getfield 21, 3) := by decide +kernel
theorem dX1_copyFrom_30 : decode cX1_copyFrom 30 = .ok (.invokevirtual 55, 3) := by decide +kernel
theorem dX1_copyFrom_33 : decode cX1_copyFrom 33 = .ok (.aload_n 0, 1) := by decide +kernel
theorem dX1_copyFrom_34 : decode cX1_copyFrom 34 = .ok (.getfield 24, 3) := by decide +kernel
theorem dX1_copyFrom_37 : decode cX1_copyFrom 37 = .ok (.aload_n 1, 1) := by decide +kernel
theorem dX1_copyFrom_38 : decode cX1_copyFrom 38 = .ok (.getfield 24, 3) := by decide +kernel
theorem dX1_copyFrom_41 : decode cX1_copyFrom 41 = .ok (.invokevirtual 55, 3) := by decide +kernel
theorem dX1_copyFrom_44 : decode cX1_copyFrom 44 = .ok (.aload_n 0, 1) := by decide +kernel
theorem dX1_copyFrom_45 : decode cX1_copyFrom 45 = .ok (.getfield 27, 3) := by decide +kernel
theorem dX1_copyFrom_48 : decode cX1_copyFrom 48 = .ok (.aload_n 1, 1) := by decide +kernel
theorem dX1_copyFrom_49 : decode cX1_copyFrom 49 = .ok (.getfield 27, 3) := by decide +kernel
theorem dX1_copyFrom_52 : decode cX1_copyFrom 52 = .ok (.invokevirtual 55, 3) := by decide +kernel
theorem dX1_copyFrom_55 : decode cX1_copyFrom 55 = .ok (.aload_n 0, 1) := by decide +kernel
theorem dX1_copyFrom_56 : decode cX1_copyFrom 56 = .ok (.getfield 30, 3) := by decide +kernel
theorem dX1_copyFrom_59 : decode cX1_copyFrom 59 = .ok (.aload_n 1, 1) := by decide +kernel
theorem dX1_copyFrom_60 : decode cX1_copyFrom 60 = .ok (.getfield 30, 3) := by decide +kernel
theorem dX1_copyFrom_63 : decode cX1_copyFrom 63 = .ok (.invokevirtual 55, 3) := by decide +kernel
theorem dX1_copyFrom_66 : decode cX1_copyFrom 66 = .ok (.aload_n 0, 1) := by decide +kernel
theorem dX1_copyFrom_67 : decode cX1_copyFrom 67 = .ok (.aload_n 1, 1) := by decide +kernel
theorem dX1_copyFrom_68 : decode cX1_copyFrom 68 = .ok (.getfield 33, 3) := by decide +kernel
theorem dX1_copyFrom_71 : decode cX1_copyFrom 71 = .ok (.putfield 33, 3) := by decide +kernel
theorem dX1_copyFrom_74 : decode cX1_copyFrom 74 = .ok (.aload_n 0, 1) := by decide +kernel
theorem dX1_copyFrom_75 : decode cX1_copyFrom 75 = .ok (.aload_n 1, 1) := by decide +kernel
theorem dX1_copyFrom_76 : decode cX1_copyFrom 76 = .ok (.getfield 40, 3) := by decide +kernel
theorem dX1_copyFrom_79 : decode cX1_copyFrom 79 = .ok (.putfield 40, 3) := by decide +kernel
theorem dX1_copyFrom_82 : decode cX1_copyFrom 82 = .ok (.aload_n 0, 1) := by decide +kernel
theorem dX1_copyFrom_83 : decode cX1_copyFrom 83 = .ok (.aload_n 1, 1) := by decide +kernel
theorem dX1_copyFrom_84 : decode cX1_copyFrom 84 = .ok (.getfield 43, 3) := by decide +kernel
theorem dX1_copyFrom_87 : decode cX1_copyFrom 87 = .ok (.putfield 43, 3) := by decide +kernel
theorem dX1_copyFrom_90 : decode cX1_copyFrom 90 = .ok (.aload_n 0, 1) := by decide +kernel
theorem dX1_copyFrom_91 : decode cX1_copyFrom 91 = .ok (.aload_n 1, 1) := by decide +kernel
theorem dX1_copyFrom_92 : decode cX1_copyFrom 92 = .ok (.getfield 46, 3) := by decide +kernel
theorem dX1_copyFrom_95 : decode cX1_copyFrom 95 = .ok (.putfield 46, 3) := by decide +kernel
theorem dX1_copyFrom_98 : decode cX1_copyFrom 98 = .ok (.aload_n 0, 1) := by decide +kernel
theorem dX1_copyFrom_99 : decode cX1_copyFrom 99 = .ok (.aload_n 1, 1) := by decide +kernel
theorem dX1_copyFrom_100 : decode cX1_copyFrom 100 = .ok (.getfield 49, 3) := by decide +kernel
theorem dX1_copyFrom_103 : decode cX1_copyFrom 103 = .ok (.putfield 49, 3) := by decide +kernel
theorem dX1_copyFrom_106 : decode cX1_copyFrom 106 = .ok (.aload_n 0, 1) := by decide +kernel
theorem dX1_copyFrom_107 : decode cX1_copyFrom 107 = .ok (.aload_n 1, 1) := by decide +kernel
theorem dX1_copyFrom_108 : decode cX1_copyFrom 108 = .ok (.getfield 52, 3) := by decide +kernel
theorem dX1_copyFrom_111 : decode cX1_copyFrom 111 = .ok (.putfield 52, 3) := by decide +kernel
theorem dX1_copyFrom_114 : decode cX1_copyFrom 114 = .ok (.return_, 1) := by decide +kernel
theorem dX2_init_0 : decode cX2_init 0 = .ok (.aload_n 0, 1) := by decide +kernel
theorem dX2_init_1 : decode cX2_init 1 = .ok (.invokespecial 3, 3) := by decide +kernel
theorem dX2_init_4 : decode cX2_init 4 = .ok (.aload_n 0, 1) := by decide +kernel
theorem dX2_init_5 : decode cX2_init 5 = .ok (.bipush 8, 2) := by decide +kernel
theorem dX2_init_7 : decode cX2_init 7 = .ok (.newarray .int, 2) := by decide +kernel
theorem dX2_init_9 : decode cX2_init 9 = .ok (.putfield 9, 3) := by decide +kernel
theorem dX2_init_12 : decode cX2_init 12 = .ok (.aload_n 0, 1) := by decide +kernel
theorem dX2_init_13 : decode cX2_init 13 = .ok (.bipush 8, 2) := by decide +kernel
theorem dX2_init_15 : decode cX2_init 15 = .ok (.newarray .int, 2) := by decide +kernel
theorem dX2_init_17 : decode cX2_init 17 = .ok (.putfield 15, 3) := by decide +kernel
theorem dX2_init_20 : decode cX2_init 20 = .ok (.aload_n 0, 1) := by decide +kernel
theorem dX2_init_21 : decode cX2_init 21 = .ok (.iload_n 1, 1) := by decide +kernel
theorem dX2_init_22 : decode cX2_init 22 = .ok (.putfield 18, 3) := by decide +kernel
theorem dX2_init_25 : decode cX2_init 25 = .ok (.aload_n 0, 1) := by decide +kernel
theorem dX2_init_26 : decode cX2_init 26 = .ok (.iload_n 2, 1) := by decide +kernel
theorem dX2_init_27 : decode cX2_init 27 = .ok (.putfield 22, 3) := by decide +kernel
theorem dX2_init_30 : decode cX2_init 30 = .ok (.return_, 1) := by decide +kernel
theorem dX2_answer_0 : decode cX2_answer 0 = .ok (.iload_n 1, 1) := by decide +kernel
theorem dX2_answer_1 : decode cX2_answer 1 = .ok (.tableswitch 55 0 4 #[35, 55, 40, 45, 50], 35) := by decide +kernel
theorem dX2_answer_36 : decode cX2_answer 36 = .ok (.aload_n 0, 1) := by decide +kernel
theorem dX2_answer_37 : decode cX2_answer 37 = .ok (.getfield 22, 3) := by decide +kernel
theorem dX2_answer_40 : decode cX2_answer 40 = .ok (.ireturn, 1) := by decide +kernel
theorem dX2_answer_41 : decode cX2_answer 41 = .ok (.aload_n 0, 1) := by decide +kernel
theorem dX2_answer_42 : decode cX2_answer 42 = .ok (.getfield 25, 3) := by decide +kernel
theorem dX2_answer_45 : decode cX2_answer 45 = .ok (.ireturn, 1) := by decide +kernel
theorem dX2_answer_46 : decode cX2_answer 46 = .ok (.aload_n 0, 1) := by decide +kernel
theorem dX2_answer_47 : decode cX2_answer 47 = .ok (.invokevirtual 28, 3) := by decide +kernel
theorem dX2_answer_50 : decode cX2_answer 50 = .ok (.ireturn, 1) := by decide +kernel
theorem dX2_answer_51 : decode cX2_answer 51 = .ok (.aload_n 0, 1) := by decide +kernel
theorem dX2_answer_52 : decode cX2_answer 52 = .ok (.getfield 32, 3) := by decide +kernel
theorem dX2_answer_55 : decode cX2_answer 55 = .ok (.ireturn, 1) := by decide +kernel
theorem dX2_answer_56 : decode cX2_answer 56 = .ok (.iconst (-1), 1) := by decide +kernel
theorem dX2_answer_57 : decode cX2_answer 57 = .ok (.ireturn, 1) := by decide +kernel
theorem dX2_firstWhat_0 : decode cX2_firstWhat 0 = .ok (.aload_n 0, 1) := by decide +kernel
theorem dX2_firstWhat_1 : decode cX2_firstWhat 1 = .ok (.getfield 25, 3) := by decide +kernel
theorem dX2_firstWhat_4 : decode cX2_firstWhat 4 = .ok (.ifCond .le 12, 3) := by decide +kernel
theorem dX2_firstWhat_7 : decode cX2_firstWhat 7 = .ok (.aload_n 0, 1) := by decide +kernel
theorem dX2_firstWhat_8 : decode cX2_firstWhat 8 = .ok (.getfield 9, 3) := by decide +kernel
theorem dX2_firstWhat_11 : decode cX2_firstWhat 11 = .ok (.iconst 0, 1) := by decide +kernel
theorem dX2_firstWhat_12 : decode cX2_firstWhat 12 = .ok (.iaload, 1) := by decide +kernel
theorem dX2_firstWhat_13 : decode cX2_firstWhat 13 = .ok (.goto 5, 3) := by decide +kernel
theorem dX2_firstWhat_16 : decode cX2_firstWhat 16 = .ok (.bipush (-4), 2) := by decide +kernel
theorem dX2_firstWhat_18 : decode cX2_firstWhat 18 = .ok (.ireturn, 1) := by decide +kernel
theorem dX2_goesWhereItIs_0 : decode cX2_goesWhereItIs 0 = .ok (.aload_n 0, 1) := by decide +kernel
theorem dX2_goesWhereItIs_1 : decode cX2_goesWhereItIs 1 = .ok (.invokevirtual 28, 3) := by decide +kernel
theorem dX2_goesWhereItIs_4 : decode cX2_goesWhereItIs 4 = .ok (.ifCond .ne 20, 3) := by decide +kernel
theorem dX2_goesWhereItIs_7 : decode cX2_goesWhereItIs 7 = .ok (.aload_n 0, 1) := by decide +kernel
theorem dX2_goesWhereItIs_8 : decode cX2_goesWhereItIs 8 = .ok (.getfield 15, 3) := by decide +kernel
theorem dX2_goesWhereItIs_11 : decode cX2_goesWhereItIs 11 = .ok (.iconst 0, 1) := by decide +kernel
theorem dX2_goesWhereItIs_12 : decode cX2_goesWhereItIs 12 = .ok (.iaload, 1) := by decide +kernel
theorem dX2_goesWhereItIs_13 : decode cX2_goesWhereItIs 13 = .ok (.aload_n 0, 1) := by decide +kernel
theorem dX2_goesWhereItIs_14 : decode cX2_goesWhereItIs 14 = .ok (.getfield 22, 3) := by decide +kernel
theorem dX2_goesWhereItIs_17 : decode cX2_goesWhereItIs 17 = .ok (.if_icmp .ne 7, 3) := by decide +kernel
theorem dX2_goesWhereItIs_20 : decode cX2_goesWhereItIs 20 = .ok (.iconst 1, 1) := by decide +kernel
theorem dX2_goesWhereItIs_21 : decode cX2_goesWhereItIs 21 = .ok (.goto 4, 3) := by decide +kernel
theorem dX2_goesWhereItIs_24 : decode cX2_goesWhereItIs 24 = .ok (.iconst 0, 1) := by decide +kernel
theorem dX2_goesWhereItIs_25 : decode cX2_goesWhereItIs 25 = .ok (.ireturn, 1) := by decide +kernel
theorem dX2_nextPlace_0 : decode cX2_nextPlace 0 = .ok (.aload_n 0, 1) := by decide +kernel
theorem dX2_nextPlace_1 : decode cX2_nextPlace 1 = .ok (.getfield 15, 3) := by decide +kernel
theorem dX2_nextPlace_4 : decode cX2_nextPlace 4 = .ok (.iconst 0, 1) := by decide +kernel
theorem dX2_nextPlace_5 : decode cX2_nextPlace 5 = .ok (.iaload, 1) := by decide +kernel
theorem dX2_nextPlace_6 : decode cX2_nextPlace 6 = .ok (.aload_n 0, 1) := by decide +kernel
theorem dX2_nextPlace_7 : decode cX2_nextPlace 7 = .ok (.getfield 22, 3) := by decide +kernel
theorem dX2_nextPlace_10 : decode cX2_nextPlace 10 = .ok (.if_icmp .le 12, 3) := by decide +kernel
theorem dX2_nextPlace_13 : decode cX2_nextPlace 13 = .ok (.aload_n 0, 1) := by decide +kernel
theorem dX2_nextPlace_14 : decode cX2_nextPlace 14 = .ok (.getfield 22, 3) := by decide +kernel
theorem dX2_nextPlace_17 : decode cX2_nextPlace 17 = .ok (.iconst 1, 1) := by decide +kernel
theorem dX2_nextPlace_18 : decode cX2_nextPlace 18 = .ok (.iadd, 1) := by decide +kernel
theorem dX2_nextPlace_19 : decode cX2_nextPlace 19 = .ok (.goto 9, 3) := by decide +kernel
theorem dX2_nextPlace_22 : decode cX2_nextPlace 22 = .ok (.aload_n 0, 1) := by decide +kernel
theorem dX2_nextPlace_23 : decode cX2_nextPlace 23 = .ok (.getfield 22, 3) := by decide +kernel
theorem dX2_nextPlace_26 : decode cX2_nextPlace 26 = .ok (.iconst 1, 1) := by decide +kernel
theorem dX2_nextPlace_27 : decode cX2_nextPlace 27 = .ok (.isub, 1) := by decide +kernel
theorem dX2_nextPlace_28 : decode cX2_nextPlace 28 = .ok (.ireturn, 1) := by decide +kernel
theorem dX2_addOrder_0 : decode cX2_addOrder 0 = .ok (.aload_n 0, 1) := by decide +kernel
theorem dX2_addOrder_1 : decode cX2_addOrder 1 = .ok (.getfield 25, 3) := by decide +kernel
theorem dX2_addOrder_4 : decode cX2_addOrder 4 = .ok (.ifCond .lt 27, 3) := by decide +kernel
theorem dX2_addOrder_7 : decode cX2_addOrder 7 = .ok (.aload_n 0, 1) := by decide +kernel
theorem dX2_addOrder_8 : decode cX2_addOrder 8 = .ok (.getfield 25, 3) := by decide +kernel
theorem dX2_addOrder_11 : decode cX2_addOrder 11 = .ok (.aload_n 0, 1) := by decide +kernel
theorem dX2_addOrder_12 : decode cX2_addOrder 12 = .ok (.getfield 9, 3) := by decide +kernel
theorem dX2_addOrder_15 : decode cX2_addOrder 15 = .ok (.arraylength, 1) := by decide +kernel
theorem dX2_addOrder_16 : decode cX2_addOrder 16 = .ok (.if_icmp .ge 15, 3) := by decide +kernel
theorem dX2_addOrder_19 : decode cX2_addOrder 19 = .ok (.aload_n 0, 1) := by decide +kernel
theorem dX2_addOrder_20 : decode cX2_addOrder 20 = .ok (.getfield 25, 3) := by decide +kernel
theorem dX2_addOrder_23 : decode cX2_addOrder 23 = .ok (.aload_n 0, 1) := by decide +kernel
theorem dX2_addOrder_24 : decode cX2_addOrder 24 = .ok (.getfield 15, 3) := by decide +kernel
theorem dX2_addOrder_27 : decode cX2_addOrder 27 = .ok (.arraylength, 1) := by decide +kernel
theorem dX2_addOrder_28 : decode cX2_addOrder 28 = .ok (.if_icmp .lt 5, 3) := by decide +kernel
theorem dX2_addOrder_31 : decode cX2_addOrder 31 = .ok (.iconst 0, 1) := by decide +kernel
theorem dX2_addOrder_32 : decode cX2_addOrder 32 = .ok (.ireturn, 1) := by decide +kernel
theorem dX2_addOrder_33 : decode cX2_addOrder 33 = .ok (.aload_n 0, 1) := by decide +kernel
theorem dX2_addOrder_34 : decode cX2_addOrder 34 = .ok (.getfield 9, 3) := by decide +kernel
theorem dX2_addOrder_37 : decode cX2_addOrder 37 = .ok (.aload_n 0, 1) := by decide +kernel
theorem dX2_addOrder_38 : decode cX2_addOrder 38 = .ok (.getfield 25, 3) := by decide +kernel
theorem dX2_addOrder_41 : decode cX2_addOrder 41 = .ok (.iload_n 1, 1) := by decide +kernel
theorem dX2_addOrder_42 : decode cX2_addOrder 42 = .ok (.iastore, 1) := by decide +kernel
theorem dX2_addOrder_43 : decode cX2_addOrder 43 = .ok (.aload_n 0, 1) := by decide +kernel
theorem dX2_addOrder_44 : decode cX2_addOrder 44 = .ok (.getfield 15, 3) := by decide +kernel
theorem dX2_addOrder_47 : decode cX2_addOrder 47 = .ok (.aload_n 0, 1) := by decide +kernel
theorem dX2_addOrder_48 : decode cX2_addOrder 48 = .ok (.getfield 25, 3) := by decide +kernel
theorem dX2_addOrder_51 : decode cX2_addOrder 51 = .ok (.iload_n 2, 1) := by decide +kernel
theorem dX2_addOrder_52 : decode cX2_addOrder 52 = .ok (.iastore, 1) := by decide +kernel
theorem dX2_addOrder_53 : decode cX2_addOrder 53 = .ok (.aload_n 0, 1) := by decide +kernel
theorem dX2_addOrder_54 : decode cX2_addOrder 54 = .ok (.dup, 1) := by decide +kernel
theorem dX2_addOrder_55 : decode cX2_addOrder 55 = .ok (.getfield 25, 3) := by decide +kernel
theorem dX2_addOrder_58 : decode cX2_addOrder 58 = .ok (.iconst 1, 1) := by decide +kernel
theorem dX2_addOrder_59 : decode cX2_addOrder 59 = .ok (.iadd, 1) := by decide +kernel
theorem dX2_addOrder_60 : decode cX2_addOrder 60 = .ok (.putfield 25, 3) := by decide +kernel
theorem dX2_addOrder_63 : decode cX2_addOrder 63 = .ok (.iconst 1, 1) := by decide +kernel
theorem dX2_addOrder_64 : decode cX2_addOrder 64 = .ok (.ireturn, 1) := by decide +kernel
theorem dX2_removeFirst_0 : decode cX2_removeFirst 0 = .ok (.iconst 1, 1) := by decide +kernel
theorem dX2_removeFirst_1 : decode cX2_removeFirst 1 = .ok (.istore_n 1, 1) := by decide +kernel
theorem dX2_removeFirst_2 : decode cX2_removeFirst 2 = .ok (.iload_n 1, 1) := by decide +kernel
theorem dX2_removeFirst_3 : decode cX2_removeFirst 3 = .ok (.aload_n 0, 1) := by decide +kernel
theorem dX2_removeFirst_4 : decode cX2_removeFirst 4 = .ok (.getfield 25, 3) := by decide +kernel
theorem dX2_removeFirst_7 : decode cX2_removeFirst 7 = .ok (.if_icmp .ge 55, 3) := by decide +kernel
theorem dX2_removeFirst_10 : decode cX2_removeFirst 10 = .ok (.iload_n 1, 1) := by decide +kernel
theorem dX2_removeFirst_11 : decode cX2_removeFirst 11 = .ok (.aload_n 0, 1) := by decide +kernel
theorem dX2_removeFirst_12 : decode cX2_removeFirst 12 = .ok (.getfield 9, 3) := by decide +kernel
theorem dX2_removeFirst_15 : decode cX2_removeFirst 15 = .ok (.arraylength, 1) := by decide +kernel
theorem dX2_removeFirst_16 : decode cX2_removeFirst 16 = .ok (.if_icmp .ge 46, 3) := by decide +kernel
theorem dX2_removeFirst_19 : decode cX2_removeFirst 19 = .ok (.iload_n 1, 1) := by decide +kernel
theorem dX2_removeFirst_20 : decode cX2_removeFirst 20 = .ok (.aload_n 0, 1) := by decide +kernel
theorem dX2_removeFirst_21 : decode cX2_removeFirst 21 = .ok (.getfield 15, 3) := by decide +kernel
theorem dX2_removeFirst_24 : decode cX2_removeFirst 24 = .ok (.arraylength, 1) := by decide +kernel
theorem dX2_removeFirst_25 : decode cX2_removeFirst 25 = .ok (.if_icmp .ge 37, 3) := by decide +kernel
theorem dX2_removeFirst_28 : decode cX2_removeFirst 28 = .ok (.aload_n 0, 1) := by decide +kernel
theorem dX2_removeFirst_29 : decode cX2_removeFirst 29 = .ok (.getfield 9, 3) := by decide +kernel
theorem dX2_removeFirst_32 : decode cX2_removeFirst 32 = .ok (.iload_n 1, 1) := by decide +kernel
theorem dX2_removeFirst_33 : decode cX2_removeFirst 33 = .ok (.iconst 1, 1) := by decide +kernel
theorem dX2_removeFirst_34 : decode cX2_removeFirst 34 = .ok (.isub, 1) := by decide +kernel
theorem dX2_removeFirst_35 : decode cX2_removeFirst 35 = .ok (.aload_n 0, 1) := by decide +kernel
theorem dX2_removeFirst_36 : decode cX2_removeFirst 36 = .ok (.getfield 9, 3) := by decide +kernel
theorem dX2_removeFirst_39 : decode cX2_removeFirst 39 = .ok (.iload_n 1, 1) := by decide +kernel
theorem dX2_removeFirst_40 : decode cX2_removeFirst 40 = .ok (.iaload, 1) := by decide +kernel
theorem dX2_removeFirst_41 : decode cX2_removeFirst 41 = .ok (.iastore, 1) := by decide +kernel
theorem dX2_removeFirst_42 : decode cX2_removeFirst 42 = .ok (.aload_n 0, 1) := by decide +kernel
theorem dX2_removeFirst_43 : decode cX2_removeFirst 43 = .ok (.getfield 15, 3) := by decide +kernel
theorem dX2_removeFirst_46 : decode cX2_removeFirst 46 = .ok (.iload_n 1, 1) := by decide +kernel
theorem dX2_removeFirst_47 : decode cX2_removeFirst 47 = .ok (.iconst 1, 1) := by decide +kernel
theorem dX2_removeFirst_48 : decode cX2_removeFirst 48 = .ok (.isub, 1) := by decide +kernel
theorem dX2_removeFirst_49 : decode cX2_removeFirst 49 = .ok (.aload_n 0, 1) := by decide +kernel
theorem dX2_removeFirst_50 : decode cX2_removeFirst 50 = .ok (.getfield 15, 3) := by decide +kernel
theorem dX2_removeFirst_53 : decode cX2_removeFirst 53 = .ok (.iload_n 1, 1) := by decide +kernel
theorem dX2_removeFirst_54 : decode cX2_removeFirst 54 = .ok (.iaload, 1) := by decide +kernel
theorem dX2_removeFirst_55 : decode cX2_removeFirst 55 = .ok (.iastore, 1) := by decide +kernel
theorem dX2_removeFirst_56 : decode cX2_removeFirst 56 = .ok (.iinc 1 1, 3) := by decide +kernel
theorem dX2_removeFirst_59 : decode cX2_removeFirst 59 = .ok (.goto (-57), 3) := by decide +kernel
theorem dX2_removeFirst_62 : decode cX2_removeFirst 62 = .ok (.aload_n 0, 1) := by decide +kernel
theorem dX2_removeFirst_63 : decode cX2_removeFirst 63 = .ok (.iconst 0, 1) := by decide +kernel
theorem dX2_removeFirst_64 : decode cX2_removeFirst 64 = .ok (.aload_n 0, 1) := by decide +kernel
theorem dX2_removeFirst_65 : decode cX2_removeFirst 65 = .ok (.getfield 25, 3) := by decide +kernel
theorem dX2_removeFirst_68 : decode cX2_removeFirst 68 = .ok (.iconst 1, 1) := by decide +kernel
theorem dX2_removeFirst_69 : decode cX2_removeFirst 69 = .ok (.isub, 1) := by decide +kernel
theorem dX2_removeFirst_70 : decode cX2_removeFirst 70 = .ok (.invokestatic 35, 3) := by decide +kernel
theorem dX2_removeFirst_73 : decode cX2_removeFirst 73 = .ok (.putfield 25, 3) := by decide +kernel
theorem dX2_removeFirst_76 : decode cX2_removeFirst 76 = .ok (.return_, 1) := by decide +kernel
theorem dX2_copyFrom_0 : decode cX2_copyFrom 0 = .ok (.aload_n 1, 1) := by decide +kernel
theorem dX2_copyFrom_1 : decode cX2_copyFrom 1 = .ok (.getfield 9, 3) := by decide +kernel
theorem dX2_copyFrom_4 : decode cX2_copyFrom 4 = .ok (.aload_n 0, 1) := by decide +kernel
theorem dX2_copyFrom_5 : decode cX2_copyFrom 5 = .ok (.getfield 9, 3) := by decide +kernel
theorem dX2_copyFrom_8 : decode cX2_copyFrom 8 = .ok (.invokestatic 41, 3) := by decide +kernel
theorem dX2_copyFrom_11 : decode cX2_copyFrom 11 = .ok (.aload_n 1, 1) := by decide +kernel
theorem dX2_copyFrom_12 : decode cX2_copyFrom 12 = .ok (.getfield 15, 3) := by decide +kernel
theorem dX2_copyFrom_15 : decode cX2_copyFrom 15 = .ok (.aload_n 0, 1) := by decide +kernel
theorem dX2_copyFrom_16 : decode cX2_copyFrom 16 = .ok (.getfield 15, 3) := by decide +kernel
theorem dX2_copyFrom_19 : decode cX2_copyFrom 19 = .ok (.invokestatic 41, 3) := by decide +kernel
theorem dX2_copyFrom_22 : decode cX2_copyFrom 22 = .ok (.aload_n 0, 1) := by decide +kernel
theorem dX2_copyFrom_23 : decode cX2_copyFrom 23 = .ok (.aload_n 1, 1) := by decide +kernel
theorem dX2_copyFrom_24 : decode cX2_copyFrom 24 = .ok (.getfield 22, 3) := by decide +kernel
theorem dX2_copyFrom_27 : decode cX2_copyFrom 27 = .ok (.putfield 22, 3) := by decide +kernel
theorem dX2_copyFrom_30 : decode cX2_copyFrom 30 = .ok (.aload_n 0, 1) := by decide +kernel
theorem dX2_copyFrom_31 : decode cX2_copyFrom 31 = .ok (.aload_n 1, 1) := by decide +kernel
theorem dX2_copyFrom_32 : decode cX2_copyFrom 32 = .ok (.getfield 25, 3) := by decide +kernel
theorem dX2_copyFrom_35 : decode cX2_copyFrom 35 = .ok (.putfield 25, 3) := by decide +kernel
theorem dX2_copyFrom_38 : decode cX2_copyFrom 38 = .ok (.aload_n 0, 1) := by decide +kernel
theorem dX2_copyFrom_39 : decode cX2_copyFrom 39 = .ok (.aload_n 1, 1) := by decide +kernel
theorem dX2_copyFrom_40 : decode cX2_copyFrom 40 = .ok (.getfield 32, 3) := by decide +kernel
theorem dX2_copyFrom_43 : decode cX2_copyFrom 43 = .ok (.putfield 32, 3) := by decide +kernel
theorem dX2_copyFrom_46 : decode cX2_copyFrom 46 = .ok (.return_, 1) := by decide +kernel
theorem dX3_init_0 : decode cX3_init 0 = .ok (.aload_n 0, 1) := by decide +kernel
theorem dX3_init_1 : decode cX3_init 1 = .ok (.invokespecial 3, 3) := by decide +kernel
theorem dX3_init_4 : decode cX3_init 4 = .ok (.aload_n 0, 1) := by decide +kernel
theorem dX3_init_5 : decode cX3_init 5 = .ok (.new 9, 3) := by decide +kernel
theorem dX3_init_8 : decode cX3_init 8 = .ok (.dup, 1) := by decide +kernel
theorem dX3_init_9 : decode cX3_init 9 = .ok (.invokespecial 11, 3) := by decide +kernel
theorem dX3_init_12 : decode cX3_init 12 = .ok (.putfield 12, 3) := by decide +kernel
theorem dX3_init_15 : decode cX3_init 15 = .ok (.aload_n 0, 1) := by decide +kernel
theorem dX3_init_16 : decode cX3_init 16 = .ok (.new 9, 3) := by decide +kernel
theorem dX3_init_19 : decode cX3_init 19 = .ok (.dup, 1) := by decide +kernel
theorem dX3_init_20 : decode cX3_init 20 = .ok (.invokespecial 11, 3) := by decide +kernel
theorem dX3_init_23 : decode cX3_init 23 = .ok (.putfield 18, 3) := by decide +kernel
theorem dX3_init_26 : decode cX3_init 26 = .ok (.aload_n 0, 1) := by decide +kernel
theorem dX3_init_27 : decode cX3_init 27 = .ok (.bipush (-4), 2) := by decide +kernel
theorem dX3_init_29 : decode cX3_init 29 = .ok (.putfield 21, 3) := by decide +kernel
theorem dX3_init_32 : decode cX3_init 32 = .ok (.aload_n 0, 1) := by decide +kernel
theorem dX3_init_33 : decode cX3_init 33 = .ok (.iconst 0, 1) := by decide +kernel
theorem dX3_init_34 : decode cX3_init 34 = .ok (.putfield 25, 3) := by decide +kernel
theorem dX3_init_37 : decode cX3_init 37 = .ok (.aload_n 0, 1) := by decide +kernel
theorem dX3_init_38 : decode cX3_init 38 = .ok (.iload_n 1, 1) := by decide +kernel
theorem dX3_init_39 : decode cX3_init 39 = .ok (.putfield 28, 3) := by decide +kernel
theorem dX3_init_42 : decode cX3_init 42 = .ok (.return_, 1) := by decide +kernel
theorem dX3_answer_0 : decode cX3_answer 0 = .ok (.iload_n 1, 1) := by decide +kernel
theorem dX3_answer_1 : decode cX3_answer 1 = .ok (.tableswitch 101 0 11 #[63, 68, 73, 101, 78, 78, 78, 78, 89, 89, 89, 89], 63) := by decide +kernel
theorem dX3_answer_64 : decode cX3_answer 64 = .ok (.aload_n 0, 1) := by decide +kernel
theorem dX3_answer_65 : decode cX3_answer 65 = .ok (.getfield 28, 3) := by decide +kernel
theorem dX3_answer_68 : decode cX3_answer 68 = .ok (.ireturn, 1) := by decide +kernel
theorem dX3_answer_69 : decode cX3_answer 69 = .ok (.aload_n 0, 1) := by decide +kernel
theorem dX3_answer_70 : decode cX3_answer 70 = .ok (.getfield 21, 3) := by decide +kernel
theorem dX3_answer_73 : decode cX3_answer 73 = .ok (.ireturn, 1) := by decide +kernel
theorem dX3_answer_74 : decode cX3_answer 74 = .ok (.aload_n 0, 1) := by decide +kernel
theorem dX3_answer_75 : decode cX3_answer 75 = .ok (.getfield 25, 3) := by decide +kernel
theorem dX3_answer_78 : decode cX3_answer 78 = .ok (.ireturn, 1) := by decide +kernel
theorem dX3_answer_79 : decode cX3_answer 79 = .ok (.aload_n 0, 1) := by decide +kernel
theorem dX3_answer_80 : decode cX3_answer 80 = .ok (.getfield 12, 3) := by decide +kernel
theorem dX3_answer_83 : decode cX3_answer 83 = .ok (.iload_n 1, 1) := by decide +kernel
theorem dX3_answer_84 : decode cX3_answer 84 = .ok (.iconst 3, 1) := by decide +kernel
theorem dX3_answer_85 : decode cX3_answer 85 = .ok (.isub, 1) := by decide +kernel
theorem dX3_answer_86 : decode cX3_answer 86 = .ok (.invokevirtual 31, 3) := by decide +kernel
theorem dX3_answer_89 : decode cX3_answer 89 = .ok (.ireturn, 1) := by decide +kernel
theorem dX3_answer_90 : decode cX3_answer 90 = .ok (.aload_n 0, 1) := by decide +kernel
theorem dX3_answer_91 : decode cX3_answer 91 = .ok (.getfield 18, 3) := by decide +kernel
theorem dX3_answer_94 : decode cX3_answer 94 = .ok (.iload_n 1, 1) := by decide +kernel
theorem dX3_answer_95 : decode cX3_answer 95 = .ok (.bipush 7, 2) := by decide +kernel
theorem dX3_answer_97 : decode cX3_answer 97 = .ok (.isub, 1) := by decide +kernel
theorem dX3_answer_98 : decode cX3_answer 98 = .ok (.invokevirtual 31, 3) := by decide +kernel
theorem dX3_answer_101 : decode cX3_answer 101 = .ok (.ireturn, 1) := by decide +kernel
theorem dX3_answer_102 : decode cX3_answer 102 = .ok (.iconst (-1), 1) := by decide +kernel
theorem dX3_answer_103 : decode cX3_answer 103 = .ok (.ireturn, 1) := by decide +kernel
theorem dX3_room_0 : decode cX3_room 0 = .ok (.bipush 100, 2) := by decide +kernel
theorem dX3_room_2 : decode cX3_room 2 = .ok (.aload_n 0, 1) := by decide +kernel
theorem dX3_room_3 : decode cX3_room 3 = .ok (.getfield 18, 3) := by decide +kernel
theorem dX3_room_6 : decode cX3_room 6 = .ok (.invokevirtual 35, 3) := by decide +kernel
theorem dX3_room_9 : decode cX3_room 9 = .ok (.isub, 1) := by decide +kernel
theorem dX3_room_10 : decode cX3_room 10 = .ok (.aload_n 0, 1) := by decide +kernel
theorem dX3_room_11 : decode cX3_room 11 = .ok (.getfield 12, 3) := by decide +kernel
theorem dX3_room_14 : decode cX3_room 14 = .ok (.invokevirtual 35, 3) := by decide +kernel
theorem dX3_room_17 : decode cX3_room 17 = .ok (.isub, 1) := by decide +kernel
theorem dX3_room_18 : decode cX3_room 18 = .ok (.ireturn, 1) := by decide +kernel
theorem dX3_stuffThatFreezes_0 : decode cX3_stuffThatFreezes 0 = .ok (.iconst 2, 1) := by decide +kernel
theorem dX3_stuffThatFreezes_1 : decode cX3_stuffThatFreezes 1 = .ok (.aload_n 0, 1) := by decide +kernel
theorem dX3_stuffThatFreezes_2 : decode cX3_stuffThatFreezes 2 = .ok (.getfield 12, 3) := by decide +kernel
theorem dX3_stuffThatFreezes_5 : decode cX3_stuffThatFreezes 5 = .ok (.invokevirtual 35, 3) := by decide +kernel
theorem dX3_stuffThatFreezes_8 : decode cX3_stuffThatFreezes 8 = .ok (.invokestatic 39, 3) := by decide +kernel
theorem dX3_stuffThatFreezes_11 : decode cX3_stuffThatFreezes 11 = .ok (.bipush 20, 2) := by decide +kernel
theorem dX3_stuffThatFreezes_13 : decode cX3_stuffThatFreezes 13 = .ok (.aload_n 0, 1) := by decide +kernel
theorem dX3_stuffThatFreezes_14 : decode cX3_stuffThatFreezes 14 = .ok (.getfield 18, 3) := by decide +kernel
theorem dX3_stuffThatFreezes_17 : decode cX3_stuffThatFreezes 17 = .ok (.invokevirtual 35, 3) := by decide +kernel
theorem dX3_stuffThatFreezes_20 : decode cX3_stuffThatFreezes 20 = .ok (.isub, 1) := by decide +kernel
theorem dX3_stuffThatFreezes_21 : decode cX3_stuffThatFreezes 21 = .ok (.invokestatic 39, 3) := by decide +kernel
theorem dX3_stuffThatFreezes_24 : decode cX3_stuffThatFreezes 24 = .ok (.ireturn, 1) := by decide +kernel
theorem dX3_freeze_0 : decode cX3_freeze 0 = .ok (.iload_n 1, 1) := by decide +kernel
theorem dX3_freeze_1 : decode cX3_freeze 1 = .ok (.istore_n 2, 1) := by decide +kernel
theorem dX3_freeze_2 : decode cX3_freeze 2 = .ok (.iconst 1, 1) := by decide +kernel
theorem dX3_freeze_3 : decode cX3_freeze 3 = .ok (.istore_n 3, 1) := by decide +kernel
theorem dX3_freeze_4 : decode cX3_freeze 4 = .ok (.iload_n 3, 1) := by decide +kernel
theorem dX3_freeze_5 : decode cX3_freeze 5 = .ok (.iconst 4, 1) := by decide +kernel
theorem dX3_freeze_6 : decode cX3_freeze 6 = .ok (.if_icmp .gt 49, 3) := by decide +kernel
theorem dX3_freeze_9 : decode cX3_freeze 9 = .ok (.iload_n 2, 1) := by decide +kernel
theorem dX3_freeze_10 : decode cX3_freeze 10 = .ok (.aload_n 0, 1) := by decide +kernel
theorem dX3_freeze_11 : decode cX3_freeze 11 = .ok (.getfield 12, 3) := by decide +kernel
theorem dX3_freeze_14 : decode cX3_freeze 14 = .ok (.iload_n 3, 1) := by decide +kernel
theorem dX3_freeze_15 : decode cX3_freeze 15 = .ok (.invokevirtual 31, 3) := by decide +kernel
theorem dX3_freeze_18 : decode cX3_freeze 18 = .ok (.invokestatic 39, 3) := by decide +kernel
theorem dX3_freeze_21 : decode cX3_freeze 21 = .ok (.istore 4, 2) := by decide +kernel
theorem dX3_freeze_23 : decode cX3_freeze 23 = .ok (.aload_n 0, 1) := by decide +kernel
theorem dX3_freeze_24 : decode cX3_freeze 24 = .ok (.getfield 12, 3) := by decide +kernel
theorem dX3_freeze_27 : decode cX3_freeze 27 = .ok (.iload_n 3, 1) := by decide +kernel
theorem dX3_freeze_28 : decode cX3_freeze 28 = .ok (.iload 4, 2) := by decide +kernel
theorem dX3_freeze_30 : decode cX3_freeze 30 = .ok (.ineg, 1) := by decide +kernel
theorem dX3_freeze_31 : decode cX3_freeze 31 = .ok (.invokevirtual 45, 3) := by decide +kernel
theorem dX3_freeze_34 : decode cX3_freeze 34 = .ok (.aload_n 0, 1) := by decide +kernel
theorem dX3_freeze_35 : decode cX3_freeze 35 = .ok (.getfield 18, 3) := by decide +kernel
theorem dX3_freeze_38 : decode cX3_freeze 38 = .ok (.iload_n 3, 1) := by decide +kernel
theorem dX3_freeze_39 : decode cX3_freeze 39 = .ok (.iload 4, 2) := by decide +kernel
theorem dX3_freeze_41 : decode cX3_freeze 41 = .ok (.invokevirtual 45, 3) := by decide +kernel
theorem dX3_freeze_44 : decode cX3_freeze 44 = .ok (.iload_n 2, 1) := by decide +kernel
theorem dX3_freeze_45 : decode cX3_freeze 45 = .ok (.iload 4, 2) := by decide +kernel
theorem dX3_freeze_47 : decode cX3_freeze 47 = .ok (.isub, 1) := by decide +kernel
theorem dX3_freeze_48 : decode cX3_freeze 48 = .ok (.istore_n 2, 1) := by decide +kernel
theorem dX3_freeze_49 : decode cX3_freeze 49 = .ok (.iinc 3 1, 3) := by decide +kernel
theorem dX3_freeze_52 : decode cX3_freeze 52 = .ok (.goto (-48), 3) := by decide +kernel
theorem dX3_freeze_55 : decode cX3_freeze 55 = .ok (.return_, 1) := by decide +kernel
theorem dX3_empty_0 : decode cX3_empty 0 = .ok (.aload_n 0, 1) := by decide +kernel
theorem dX3_empty_1 : decode cX3_empty 1 = .ok (.getfield 12, 3) := by decide +kernel
theorem dX3_empty_4 : decode cX3_empty 4 = .ok (.invokevirtual 49, 3) := by decide +kernel
theorem dX3_empty_7 : decode cX3_empty 7 = .ok (.aload_n 0, 1) := by decide +kernel
theorem dX3_empty_8 : decode cX3_empty 8 = .ok (.iconst 0, 1) := by decide +kernel
theorem dX3_empty_9 : decode cX3_empty 9 = .ok (.putfield 25, 3) := by decide +kernel
theorem dX3_empty_12 : decode cX3_empty 12 = .ok (.return_, 1) := by decide +kernel
theorem dX3_copyFrom_0 : decode cX3_copyFrom 0 = .ok (.aload_n 0, 1) := by decide +kernel
theorem dX3_copyFrom_1 : decode cX3_copyFrom 1 = .ok (.getfield 12, 3) := by decide +kernel
theorem dX3_copyFrom_4 : decode cX3_copyFrom 4 = .ok (.aload_n 1, 1) := by decide +kernel
theorem dX3_copyFrom_5 : decode cX3_copyFrom 5 = .ok (.getfield 12, 3) := by decide +kernel
theorem dX3_copyFrom_8 : decode cX3_copyFrom 8 = .ok (.invokevirtual 52, 3) := by decide +kernel
theorem dX3_copyFrom_11 : decode cX3_copyFrom 11 = .ok (.aload_n 0, 1) := by decide +kernel
theorem dX3_copyFrom_12 : decode cX3_copyFrom 12 = .ok (.getfield 18, 3) := by decide +kernel
theorem dX3_copyFrom_15 : decode cX3_copyFrom 15 = .ok (.aload_n 1, 1) := by decide +kernel
theorem dX3_copyFrom_16 : decode cX3_copyFrom 16 = .ok (.getfield 18, 3) := by decide +kernel
theorem dX3_copyFrom_19 : decode cX3_copyFrom 19 = .ok (.invokevirtual 52, 3) := by decide +kernel
theorem dX3_copyFrom_22 : decode cX3_copyFrom 22 = .ok (.aload_n 0, 1) := by decide +kernel
theorem dX3_copyFrom_23 : decode cX3_copyFrom 23 = .ok (.aload_n 1, 1) := by decide +kernel
theorem dX3_copyFrom_24 : decode cX3_copyFrom 24 = .ok (.getfield 28, 3) := by decide +kernel
theorem dX3_copyFrom_27 : decode cX3_copyFrom 27 = .ok (.putfield 28, 3) := by decide +kernel
theorem dX3_copyFrom_30 : decode cX3_copyFrom 30 = .ok (.aload_n 0, 1) := by decide +kernel
theorem dX3_copyFrom_31 : decode cX3_copyFrom 31 = .ok (.aload_n 1, 1) := by decide +kernel
theorem dX3_copyFrom_32 : decode cX3_copyFrom 32 = .ok (.getfield 21, 3) := by decide +kernel
theorem dX3_copyFrom_35 : decode cX3_copyFrom 35 = .ok (.putfield 21, 3) := by decide +kernel
theorem dX3_copyFrom_38 : decode cX3_copyFrom 38 = .ok (.aload_n 0, 1) := by decide +kernel
theorem dX3_copyFrom_39 : decode cX3_copyFrom 39 = .ok (.aload_n 1, 1) := by decide +kernel
theorem dX3_copyFrom_40 : decode cX3_copyFrom 40 = .ok (.getfield 25, 3) := by decide +kernel
theorem dX3_copyFrom_43 : decode cX3_copyFrom 43 = .ok (.putfield 25, 3) := by decide +kernel
theorem dX3_copyFrom_46 : decode cX3_copyFrom 46 = .ok (.return_, 1) := by decide +kernel
theorem dX4_init_0 : decode cX4_init 0 = .ok (.aload_n 0, 1) := by decide +kernel
theorem dX4_init_1 : decode cX4_init 1 = .ok (.invokespecial 3, 3) := by decide +kernel
theorem dX4_init_4 : decode cX4_init 4 = .ok (.return_, 1) := by decide +kernel
theorem dX4_of_0 : decode cX4_of 0 = .ok (.iload_n 1, 1) := by decide +kernel
theorem dX4_of_1 : decode cX4_of 1 = .ok (.tableswitch 51 1 4 #[31, 36, 41, 46], 31) := by decide +kernel
theorem dX4_of_32 : decode cX4_of 32 = .ok (.aload_n 0, 1) := by decide +kernel
theorem dX4_of_33 : decode cX4_of 33 = .ok (.getfield 9, 3) := by decide +kernel
theorem dX4_of_36 : decode cX4_of 36 = .ok (.ireturn, 1) := by decide +kernel
theorem dX4_of_37 : decode cX4_of 37 = .ok (.aload_n 0, 1) := by decide +kernel
theorem dX4_of_38 : decode cX4_of 38 = .ok (.getfield 15, 3) := by decide +kernel
theorem dX4_of_41 : decode cX4_of 41 = .ok (.ireturn, 1) := by decide +kernel
theorem dX4_of_42 : decode cX4_of 42 = .ok (.aload_n 0, 1) := by decide +kernel
theorem dX4_of_43 : decode cX4_of 43 = .ok (.getfield 18, 3) := by decide +kernel
theorem dX4_of_46 : decode cX4_of 46 = .ok (.ireturn, 1) := by decide +kernel
theorem dX4_of_47 : decode cX4_of 47 = .ok (.aload_n 0, 1) := by decide +kernel
theorem dX4_of_48 : decode cX4_of 48 = .ok (.getfield 21, 3) := by decide +kernel
theorem dX4_of_51 : decode cX4_of 51 = .ok (.ireturn, 1) := by decide +kernel
theorem dX4_of_52 : decode cX4_of 52 = .ok (.iconst 0, 1) := by decide +kernel
theorem dX4_of_53 : decode cX4_of 53 = .ok (.ireturn, 1) := by decide +kernel
theorem dX4_add_0 : decode cX4_add 0 = .ok (.iload_n 1, 1) := by decide +kernel
theorem dX4_add_1 : decode cX4_add 1 = .ok (.tableswitch 83 1 4 #[31, 44, 57, 70], 31) := by decide +kernel
theorem dX4_add_32 : decode cX4_add 32 = .ok (.aload_n 0, 1) := by decide +kernel
theorem dX4_add_33 : decode cX4_add 33 = .ok (.dup, 1) := by decide +kernel
theorem dX4_add_34 : decode cX4_add 34 = .ok (.getfield 9, 3) := by decide +kernel
theorem dX4_add_37 : decode cX4_add 37 = .ok (.iload_n 2, 1) := by decide +kernel
theorem dX4_add_38 : decode cX4_add 38 = .ok (.iadd, 1) := by decide +kernel
theorem dX4_add_39 : decode cX4_add 39 = .ok (.putfield 9, 3) := by decide +kernel
theorem dX4_add_42 : decode cX4_add 42 = .ok (.goto 42, 3) := by decide +kernel
theorem dX4_add_45 : decode cX4_add 45 = .ok (.aload_n 0, 1) := by decide +kernel
theorem dX4_add_46 : decode cX4_add 46 = .ok (.dup, 1) := by decide +kernel
theorem dX4_add_47 : decode cX4_add 47 = .ok (.getfield 15, 3) := by decide +kernel
theorem dX4_add_50 : decode cX4_add 50 = .ok (.iload_n 2, 1) := by decide +kernel
theorem dX4_add_51 : decode cX4_add 51 = .ok (.iadd, 1) := by decide +kernel
theorem dX4_add_52 : decode cX4_add 52 = .ok (.putfield 15, 3) := by decide +kernel
theorem dX4_add_55 : decode cX4_add 55 = .ok (.goto 29, 3) := by decide +kernel
theorem dX4_add_58 : decode cX4_add 58 = .ok (.aload_n 0, 1) := by decide +kernel
theorem dX4_add_59 : decode cX4_add 59 = .ok (.dup, 1) := by decide +kernel
theorem dX4_add_60 : decode cX4_add 60 = .ok (.getfield 18, 3) := by decide +kernel
theorem dX4_add_63 : decode cX4_add 63 = .ok (.iload_n 2, 1) := by decide +kernel
theorem dX4_add_64 : decode cX4_add 64 = .ok (.iadd, 1) := by decide +kernel
theorem dX4_add_65 : decode cX4_add 65 = .ok (.putfield 18, 3) := by decide +kernel
theorem dX4_add_68 : decode cX4_add 68 = .ok (.goto 16, 3) := by decide +kernel
theorem dX4_add_71 : decode cX4_add 71 = .ok (.aload_n 0, 1) := by decide +kernel
theorem dX4_add_72 : decode cX4_add 72 = .ok (.dup, 1) := by decide +kernel
theorem dX4_add_73 : decode cX4_add 73 = .ok (.getfield 21, 3) := by decide +kernel
theorem dX4_add_76 : decode cX4_add 76 = .ok (.iload_n 2, 1) := by decide +kernel
theorem dX4_add_77 : decode cX4_add 77 = .ok (.iadd, 1) := by decide +kernel
theorem dX4_add_78 : decode cX4_add 78 = .ok (.putfield 21, 3) := by decide +kernel
theorem dX4_add_81 : decode cX4_add 81 = .ok (.goto 3, 3) := by decide +kernel
theorem dX4_add_84 : decode cX4_add 84 = .ok (.return_, 1) := by decide +kernel
theorem dX4_all_0 : decode cX4_all 0 = .ok (.aload_n 0, 1) := by decide +kernel
theorem dX4_all_1 : decode cX4_all 1 = .ok (.getfield 9, 3) := by decide +kernel
theorem dX4_all_4 : decode cX4_all 4 = .ok (.aload_n 0, 1) := by decide +kernel
theorem dX4_all_5 : decode cX4_all 5 = .ok (.getfield 15, 3) := by decide +kernel
theorem dX4_all_8 : decode cX4_all 8 = .ok (.iadd, 1) := by decide +kernel
theorem dX4_all_9 : decode cX4_all 9 = .ok (.aload_n 0, 1) := by decide +kernel
theorem dX4_all_10 : decode cX4_all 10 = .ok (.getfield 18, 3) := by decide +kernel
theorem dX4_all_13 : decode cX4_all 13 = .ok (.iadd, 1) := by decide +kernel
theorem dX4_all_14 : decode cX4_all 14 = .ok (.aload_n 0, 1) := by decide +kernel
theorem dX4_all_15 : decode cX4_all 15 = .ok (.getfield 21, 3) := by decide +kernel
theorem dX4_all_18 : decode cX4_all 18 = .ok (.iadd, 1) := by decide +kernel
theorem dX4_all_19 : decode cX4_all 19 = .ok (.ireturn, 1) := by decide +kernel
theorem dX4_addAll_0 : decode cX4_addAll 0 = .ok (.aload_n 0, 1) := by decide +kernel
theorem dX4_addAll_1 : decode cX4_addAll 1 = .ok (.dup, 1) := by decide +kernel
theorem dX4_addAll_2 : decode cX4_addAll 2 = .ok (.getfield 9, 3) := by decide +kernel
theorem dX4_addAll_5 : decode cX4_addAll 5 = .ok (.aload_n 1, 1) := by decide +kernel
theorem dX4_addAll_6 : decode cX4_addAll 6 = .ok (.getfield 9, 3) := by decide +kernel
theorem dX4_addAll_9 : decode cX4_addAll 9 = .ok (.iadd, 1) := by decide +kernel
theorem dX4_addAll_10 : decode cX4_addAll 10 = .ok (.putfield 9, 3) := by decide +kernel
theorem dX4_addAll_13 : decode cX4_addAll 13 = .ok (.aload_n 0, 1) := by decide +kernel
theorem dX4_addAll_14 : decode cX4_addAll 14 = .ok (.dup, 1) := by decide +kernel
theorem dX4_addAll_15 : decode cX4_addAll 15 = .ok (.getfield 15, 3) := by decide +kernel
theorem dX4_addAll_18 : decode cX4_addAll 18 = .ok (.aload_n 1, 1) := by decide +kernel
theorem dX4_addAll_19 : decode cX4_addAll 19 = .ok (.getfield 15, 3) := by decide +kernel
theorem dX4_addAll_22 : decode cX4_addAll 22 = .ok (.iadd, 1) := by decide +kernel
theorem dX4_addAll_23 : decode cX4_addAll 23 = .ok (.putfield 15, 3) := by decide +kernel
theorem dX4_addAll_26 : decode cX4_addAll 26 = .ok (.aload_n 0, 1) := by decide +kernel
theorem dX4_addAll_27 : decode cX4_addAll 27 = .ok (.dup, 1) := by decide +kernel
theorem dX4_addAll_28 : decode cX4_addAll 28 = .ok (.getfield 18, 3) := by decide +kernel
theorem dX4_addAll_31 : decode cX4_addAll 31 = .ok (.aload_n 1, 1) := by decide +kernel
theorem dX4_addAll_32 : decode cX4_addAll 32 = .ok (.getfield 18, 3) := by decide +kernel
theorem dX4_addAll_35 : decode cX4_addAll 35 = .ok (.iadd, 1) := by decide +kernel
theorem dX4_addAll_36 : decode cX4_addAll 36 = .ok (.putfield 18, 3) := by decide +kernel
theorem dX4_addAll_39 : decode cX4_addAll 39 = .ok (.aload_n 0, 1) := by decide +kernel
theorem dX4_addAll_40 : decode cX4_addAll 40 = .ok (.dup, 1) := by decide +kernel
theorem dX4_addAll_41 : decode cX4_addAll 41 = .ok (.getfield 21, 3) := by decide +kernel
theorem dX4_addAll_44 : decode cX4_addAll 44 = .ok (.aload_n 1, 1) := by decide +kernel
theorem dX4_addAll_45 : decode cX4_addAll 45 = .ok (.getfield 21, 3) := by decide +kernel
theorem dX4_addAll_48 : decode cX4_addAll 48 = .ok (.iadd, 1) := by decide +kernel
theorem dX4_addAll_49 : decode cX4_addAll 49 = .ok (.putfield 21, 3) := by decide +kernel
theorem dX4_addAll_52 : decode cX4_addAll 52 = .ok (.return_, 1) := by decide +kernel
theorem dX4_clear_0 : decode cX4_clear 0 = .ok (.aload_n 0, 1) := by decide +kernel
theorem dX4_clear_1 : decode cX4_clear 1 = .ok (.iconst 0, 1) := by decide +kernel
theorem dX4_clear_2 : decode cX4_clear 2 = .ok (.putfield 9, 3) := by decide +kernel
theorem dX4_clear_5 : decode cX4_clear 5 = .ok (.aload_n 0, 1) := by decide +kernel
theorem dX4_clear_6 : decode cX4_clear 6 = .ok (.iconst 0, 1) := by decide +kernel
theorem dX4_clear_7 : decode cX4_clear 7 = .ok (.putfield 15, 3) := by decide +kernel
theorem dX4_clear_10 : decode cX4_clear 10 = .ok (.aload_n 0, 1) := by decide +kernel
theorem dX4_clear_11 : decode cX4_clear 11 = .ok (.iconst 0, 1) := by decide +kernel
theorem dX4_clear_12 : decode cX4_clear 12 = .ok (.putfield 18, 3) := by decide +kernel
theorem dX4_clear_15 : decode cX4_clear 15 = .ok (.aload_n 0, 1) := by decide +kernel
theorem dX4_clear_16 : decode cX4_clear 16 = .ok (.iconst 0, 1) := by decide +kernel
theorem dX4_clear_17 : decode cX4_clear 17 = .ok (.putfield 21, 3) := by decide +kernel
theorem dX4_clear_20 : decode cX4_clear 20 = .ok (.return_, 1) := by decide +kernel
theorem dX4_copyFrom_0 : decode cX4_copyFrom 0 = .ok (.aload_n 0, 1) := by decide +kernel
theorem dX4_copyFrom_1 : decode cX4_copyFrom 1 = .ok (.invokevirtual 24, 3) := by decide +kernel
theorem dX4_copyFrom_4 : decode cX4_copyFrom 4 = .ok (.aload_n 0, 1) := by decide +kernel
theorem dX4_copyFrom_5 : decode cX4_copyFrom 5 = .ok (.aload_n 1, 1) := by decide +kernel
theorem dX4_copyFrom_6 : decode cX4_copyFrom 6 = .ok (.invokevirtual 27, 3) := by decide +kernel
theorem dX4_copyFrom_9 : decode cX4_copyFrom 9 = .ok (.return_, 1) := by decide +kernel
theorem dX5_init_0 : decode cX5_init 0 = .ok (.aload_n 0, 1) := by decide +kernel
theorem dX5_init_1 : decode cX5_init 1 = .ok (.invokespecial 3, 3) := by decide +kernel
theorem dX5_init_4 : decode cX5_init 4 = .ok (.aload_n 0, 1) := by decide +kernel
theorem dX5_init_5 : decode cX5_init 5 = .ok (.new 9, 3) := by decide +kernel
theorem dX5_init_8 : decode cX5_init 8 = .ok (.dup, 1) := by decide +kernel
theorem dX5_init_9 : decode cX5_init 9 = .ok (.invokespecial 11, 3) := by decide +kernel
theorem dX5_init_12 : decode cX5_init 12 = .ok (.putfield 12, 3) := by decide +kernel
theorem dX5_init_15 : decode cX5_init 15 = .ok (.aload_n 0, 1) := by decide +kernel
theorem dX5_init_16 : decode cX5_init 16 = .ok (.sipush 1150, 3) := by decide +kernel
theorem dX5_init_19 : decode cX5_init 19 = .ok (.putfield 18, 3) := by decide +kernel
theorem dX5_init_22 : decode cX5_init 22 = .ok (.aload_n 0, 1) := by decide +kernel
theorem dX5_init_23 : decode cX5_init 23 = .ok (.iload_n 1, 1) := by decide +kernel
theorem dX5_init_24 : decode cX5_init 24 = .ok (.putfield 22, 3) := by decide +kernel
theorem dX5_init_27 : decode cX5_init 27 = .ok (.return_, 1) := by decide +kernel
theorem dX5_answer_0 : decode cX5_answer 0 = .ok (.iload_n 1, 1) := by decide +kernel
theorem dX5_answer_1 : decode cX5_answer 1 = .ok (.tableswitch 81 0 7 #[47, 52, 60, 60, 60, 60, 71, 76], 47) := by decide +kernel
theorem dX5_answer_48 : decode cX5_answer 48 = .ok (.aload_n 0, 1) := by decide +kernel
theorem dX5_answer_49 : decode cX5_answer 49 = .ok (.getfield 18, 3) := by decide +kernel
theorem dX5_answer_52 : decode cX5_answer 52 = .ok (.ireturn, 1) := by decide +kernel
theorem dX5_answer_53 : decode cX5_answer 53 = .ok (.aload_n 0, 1) := by decide +kernel
theorem dX5_answer_54 : decode cX5_answer 54 = .ok (.getfield 25, 3) := by decide +kernel
theorem dX5_answer_57 : decode cX5_answer 57 = .ok (.invokestatic 29, 3) := by decide +kernel
theorem dX5_answer_60 : decode cX5_answer 60 = .ok (.ireturn, 1) := by decide +kernel
theorem dX5_answer_61 : decode cX5_answer 61 = .ok (.aload_n 0, 1) := by decide +kernel
theorem dX5_answer_62 : decode cX5_answer 62 = .ok (.getfield 12, 3) := by decide +kernel
theorem dX5_answer_65 : decode cX5_answer 65 = .ok (.iload_n 1, 1) := by decide +kernel
theorem dX5_answer_66 : decode cX5_answer 66 = .ok (.iconst 1, 1) := by decide +kernel
theorem dX5_answer_67 : decode cX5_answer 67 = .ok (.isub, 1) := by decide +kernel
theorem dX5_answer_68 : decode cX5_answer 68 = .ok (.invokevirtual 33, 3) := by decide +kernel
theorem dX5_answer_71 : decode cX5_answer 71 = .ok (.ireturn, 1) := by decide +kernel
theorem dX5_answer_72 : decode cX5_answer 72 = .ok (.aload_n 0, 1) := by decide +kernel
theorem dX5_answer_73 : decode cX5_answer 73 = .ok (.getfield 37, 3) := by decide +kernel
theorem dX5_answer_76 : decode cX5_answer 76 = .ok (.ireturn, 1) := by decide +kernel
theorem dX5_answer_77 : decode cX5_answer 77 = .ok (.aload_n 0, 1) := by decide +kernel
theorem dX5_answer_78 : decode cX5_answer 78 = .ok (.getfield 40, 3) := by decide +kernel
theorem dX5_answer_81 : decode cX5_answer 81 = .ok (.ireturn, 1) := by decide +kernel
theorem dX5_answer_82 : decode cX5_answer 82 = .ok (.iconst (-1), 1) := by decide +kernel
theorem dX5_answer_83 : decode cX5_answer 83 = .ok (.ireturn, 1) := by decide +kernel
theorem dX5_mixHeat_0 : decode cX5_mixHeat 0 = .ok (.aload_n 0, 1) := by decide +kernel
theorem dX5_mixHeat_1 : decode cX5_mixHeat 1 = .ok (.getfield 12, 3) := by decide +kernel
theorem dX5_mixHeat_4 : decode cX5_mixHeat 4 = .ok (.invokevirtual 43, 3) := by decide +kernel
theorem dX5_mixHeat_7 : decode cX5_mixHeat 7 = .ok (.istore_n 3, 1) := by decide +kernel
theorem dX5_mixHeat_8 : decode cX5_mixHeat 8 = .ok (.iload_n 3, 1) := by decide +kernel
theorem dX5_mixHeat_9 : decode cX5_mixHeat 9 = .ok (.iload_n 2, 1) := by decide +kernel
theorem dX5_mixHeat_10 : decode cX5_mixHeat 10 = .ok (.iadd, 1) := by decide +kernel
theorem dX5_mixHeat_11 : decode cX5_mixHeat 11 = .ok (.istore 4, 2) := by decide +kernel
theorem dX5_mixHeat_13 : decode cX5_mixHeat 13 = .ok (.iload_n 2, 1) := by decide +kernel
theorem dX5_mixHeat_14 : decode cX5_mixHeat 14 = .ok (.ifCond .le 25, 3) := by decide +kernel
theorem dX5_mixHeat_17 : decode cX5_mixHeat 17 = .ok (.iload 4, 2) := by decide +kernel
theorem dX5_mixHeat_19 : decode cX5_mixHeat 19 = .ok (.ifCond .le 20, 3) := by decide +kernel
theorem dX5_mixHeat_22 : decode cX5_mixHeat 22 = .ok (.aload_n 0, 1) := by decide +kernel
theorem dX5_mixHeat_23 : decode cX5_mixHeat 23 = .ok (.aload_n 0, 1) := by decide +kernel
theorem dX5_mixHeat_24 : decode cX5_mixHeat 24 = .ok (.getfield 18, 3) := by decide +kernel
theorem dX5_mixHeat_27 : decode cX5_mixHeat 27 = .ok (.iload_n 3, 1) := by decide +kernel
theorem dX5_mixHeat_28 : decode cX5_mixHeat 28 = .ok (.imul, 1) := by decide +kernel
theorem dX5_mixHeat_29 : decode cX5_mixHeat 29 = .ok (.iload_n 1, 1) := by decide +kernel
theorem dX5_mixHeat_30 : decode cX5_mixHeat 30 = .ok (.iload_n 2, 1) := by decide +kernel
theorem dX5_mixHeat_31 : decode cX5_mixHeat 31 = .ok (.imul, 1) := by decide +kernel
theorem dX5_mixHeat_32 : decode cX5_mixHeat 32 = .ok (.iadd, 1) := by decide +kernel
theorem dX5_mixHeat_33 : decode cX5_mixHeat 33 = .ok (.iload 4, 2) := by decide +kernel
theorem dX5_mixHeat_35 : decode cX5_mixHeat 35 = .ok (.idiv, 1) := by decide +kernel
theorem dX5_mixHeat_36 : decode cX5_mixHeat 36 = .ok (.putfield 18, 3) := by decide +kernel
theorem dX5_mixHeat_39 : decode cX5_mixHeat 39 = .ok (.return_, 1) := by decide +kernel
theorem dX5_isTooColdOrTooHot_0 : decode cX5_isTooColdOrTooHot 0 = .ok (.sipush 1000, 3) := by decide +kernel
theorem dX5_isTooColdOrTooHot_3 : decode cX5_isTooColdOrTooHot 3 = .ok (.aload_n 0, 1) := by decide +kernel
theorem dX5_isTooColdOrTooHot_4 : decode cX5_isTooColdOrTooHot 4 = .ok (.getfield 18, 3) := by decide +kernel
theorem dX5_isTooColdOrTooHot_7 : decode cX5_isTooColdOrTooHot 7 = .ok (.sipush 1300, 3) := by decide +kernel
theorem dX5_isTooColdOrTooHot_10 : decode cX5_isTooColdOrTooHot 10 = .ok (.invokestatic 47, 3) := by decide +kernel
theorem dX5_isTooColdOrTooHot_13 : decode cX5_isTooColdOrTooHot 13 = .ok (.ifCond .ne 7, 3) := by decide +kernel
theorem dX5_isTooColdOrTooHot_16 : decode cX5_isTooColdOrTooHot 16 = .ok (.iconst 1, 1) := by decide +kernel
theorem dX5_isTooColdOrTooHot_17 : decode cX5_isTooColdOrTooHot 17 = .ok (.goto 4, 3) := by decide +kernel
theorem dX5_isTooColdOrTooHot_20 : decode cX5_isTooColdOrTooHot 20 = .ok (.iconst 0, 1) := by decide +kernel
theorem dX5_isTooColdOrTooHot_21 : decode cX5_isTooColdOrTooHot 21 = .ok (.ireturn, 1) := by decide +kernel
theorem dX5_holdsCopperAlone_0 : decode cX5_holdsCopperAlone 0 = .ok (.aload_n 0, 1) := by decide +kernel
theorem dX5_holdsCopperAlone_1 : decode cX5_holdsCopperAlone 1 = .ok (.getfield 12, 3) := by decide +kernel
theorem dX5_holdsCopperAlone_4 : decode cX5_holdsCopperAlone 4 = .ok (.getfield 51, 3) := by decide +kernel
theorem dX5_holdsCopperAlone_7 : decode cX5_holdsCopperAlone 7 = .ok (.ifCond .le 24, 3) := by decide +kernel
theorem dX5_holdsCopperAlone_10 : decode cX5_holdsCopperAlone 10 = .ok (.aload_n 0, 1) := by decide +kernel
theorem dX5_holdsCopperAlone_11 : decode cX5_holdsCopperAlone 11 = .ok (.getfield 12, 3) := by decide +kernel
theorem dX5_holdsCopperAlone_14 : decode cX5_holdsCopperAlone 14 = .ok (.getfield 51, 3) := by decide +kernel
theorem dX5_holdsCopperAlone_17 : decode cX5_holdsCopperAlone 17 = .ok (.aload_n 0, 1) := by decide +kernel
theorem dX5_holdsCopperAlone_18 : decode cX5_holdsCopperAlone 18 = .ok (.getfield 12, 3) := by decide +kernel
theorem dX5_holdsCopperAlone_21 : decode cX5_holdsCopperAlone 21 = .ok (.invokevirtual 43, 3) := by decide +kernel
theorem dX5_holdsCopperAlone_24 : decode cX5_holdsCopperAlone 24 = .ok (.if_icmp .ne 7, 3) := by decide +kernel
theorem dX5_holdsCopperAlone_27 : decode cX5_holdsCopperAlone 27 = .ok (.iconst 1, 1) := by decide +kernel
theorem dX5_holdsCopperAlone_28 : decode cX5_holdsCopperAlone 28 = .ok (.goto 4, 3) := by decide +kernel
theorem dX5_holdsCopperAlone_31 : decode cX5_holdsCopperAlone 31 = .ok (.iconst 0, 1) := by decide +kernel
theorem dX5_holdsCopperAlone_32 : decode cX5_holdsCopperAlone 32 = .ok (.ireturn, 1) := by decide +kernel
theorem dX5_cool_0 : decode cX5_cool 0 = .ok (.aload_n 0, 1) := by decide +kernel
theorem dX5_cool_1 : decode cX5_cool 1 = .ok (.getfield 12, 3) := by decide +kernel
theorem dX5_cool_4 : decode cX5_cool 4 = .ok (.invokevirtual 43, 3) := by decide +kernel
theorem dX5_cool_7 : decode cX5_cool 7 = .ok (.ifCond .le 18, 3) := by decide +kernel
theorem dX5_cool_10 : decode cX5_cool 10 = .ok (.aload_n 0, 1) := by decide +kernel
theorem dX5_cool_11 : decode cX5_cool 11 = .ok (.iconst 0, 1) := by decide +kernel
theorem dX5_cool_12 : decode cX5_cool 12 = .ok (.aload_n 0, 1) := by decide +kernel
theorem dX5_cool_13 : decode cX5_cool 13 = .ok (.getfield 18, 3) := by decide +kernel
theorem dX5_cool_16 : decode cX5_cool 16 = .ok (.bipush 8, 2) := by decide +kernel
theorem dX5_cool_18 : decode cX5_cool 18 = .ok (.isub, 1) := by decide +kernel
theorem dX5_cool_19 : decode cX5_cool 19 = .ok (.invokestatic 54, 3) := by decide +kernel
theorem dX5_cool_22 : decode cX5_cool 22 = .ok (.putfield 18, 3) := by decide +kernel
theorem dX5_cool_25 : decode cX5_cool 25 = .ok (.return_, 1) := by decide +kernel
theorem dX5_copyFrom_0 : decode cX5_copyFrom 0 = .ok (.aload_n 0, 1) := by decide +kernel
theorem dX5_copyFrom_1 : decode cX5_copyFrom 1 = .ok (.getfield 12, 3) := by decide +kernel
theorem dX5_copyFrom_4 : decode cX5_copyFrom 4 = .ok (.aload_n 1, 1) := by decide +kernel
theorem dX5_copyFrom_5 : decode cX5_copyFrom 5 = .ok (.getfield 12, 3) := by decide +kernel
theorem dX5_copyFrom_8 : decode cX5_copyFrom 8 = .ok (.invokevirtual 60, 3) := by decide +kernel
theorem dX5_copyFrom_11 : decode cX5_copyFrom 11 = .ok (.aload_n 0, 1) := by decide +kernel
theorem dX5_copyFrom_12 : decode cX5_copyFrom 12 = .ok (.aload_n 1, 1) := by decide +kernel
theorem dX5_copyFrom_13 : decode cX5_copyFrom 13 = .ok (.getfield 18, 3) := by decide +kernel
theorem dX5_copyFrom_16 : decode cX5_copyFrom 16 = .ok (.putfield 18, 3) := by decide +kernel
theorem dX5_copyFrom_19 : decode cX5_copyFrom 19 = .ok (.aload_n 0, 1) := by decide +kernel
theorem dX5_copyFrom_20 : decode cX5_copyFrom 20 = .ok (.aload_n 1, 1) := by decide +kernel
theorem dX5_copyFrom_21 : decode cX5_copyFrom 21 = .ok (.getfield 37, 3) := by decide +kernel
theorem dX5_copyFrom_24 : decode cX5_copyFrom 24 = .ok (.putfield 37, 3) := by decide +kernel
theorem dX5_copyFrom_27 : decode cX5_copyFrom 27 = .ok (.aload_n 0, 1) := by decide +kernel
theorem dX5_copyFrom_28 : decode cX5_copyFrom 28 = .ok (.aload_n 1, 1) := by decide +kernel
theorem dX5_copyFrom_29 : decode cX5_copyFrom 29 = .ok (.getfield 40, 3) := by decide +kernel
theorem dX5_copyFrom_32 : decode cX5_copyFrom 32 = .ok (.putfield 40, 3) := by decide +kernel
theorem dX5_copyFrom_35 : decode cX5_copyFrom 35 = .ok (.aload_n 0, 1) := by decide +kernel
theorem dX5_copyFrom_36 : decode cX5_copyFrom 36 = .ok (.aload_n 1, 1) := by decide +kernel
theorem dX5_copyFrom_37 : decode cX5_copyFrom 37 = .ok (.getfield 25, 3) := by decide +kernel
theorem dX5_copyFrom_40 : decode cX5_copyFrom 40 = .ok (.putfield 25, 3) := by decide +kernel
theorem dX5_copyFrom_43 : decode cX5_copyFrom 43 = .ok (.return_, 1) := by decide +kernel
theorem dX6_init_0 : decode cX6_init 0 = .ok (.aload_n 0, 1) := by decide +kernel
theorem dX6_init_1 : decode cX6_init 1 = .ok (.invokespecial 1, 3) := by decide +kernel
theorem dX6_init_4 : decode cX6_init 4 = .ok (.aload_n 0, 1) := by decide +kernel
theorem dX6_init_5 : decode cX6_init 5 = .ok (.new 7, 3) := by decide +kernel
theorem dX6_init_8 : decode cX6_init 8 = .ok (.dup, 1) := by decide +kernel
theorem dX6_init_9 : decode cX6_init 9 = .ok (.invokespecial 9, 3) := by decide +kernel
theorem dX6_init_12 : decode cX6_init 12 = .ok (.putfield 10, 3) := by decide +kernel
theorem dX6_init_15 : decode cX6_init 15 = .ok (.aload_n 0, 1) := by decide +kernel
theorem dX6_init_16 : decode cX6_init 16 = .ok (.bipush 8, 2) := by decide +kernel
theorem dX6_init_18 : decode cX6_init 18 = .ok (.anewarray 7, 3) := by decide +kernel
theorem dX6_init_21 : decode cX6_init 21 = .ok (.putfield 16, 3) := by decide +kernel
theorem dX6_init_24 : decode cX6_init 24 = .ok (.iconst 0, 1) := by decide +kernel
theorem dX6_init_25 : decode cX6_init 25 = .ok (.istore_n 1, 1) := by decide +kernel
theorem dX6_init_26 : decode cX6_init 26 = .ok (.iload_n 1, 1) := by decide +kernel
theorem dX6_init_27 : decode cX6_init 27 = .ok (.aload_n 0, 1) := by decide +kernel
theorem dX6_init_28 : decode cX6_init 28 = .ok (.getfield 16, 3) := by decide +kernel
theorem dX6_init_31 : decode cX6_init 31 = .ok (.arraylength, 1) := by decide +kernel
theorem dX6_init_32 : decode cX6_init 32 = .ok (.if_icmp .ge 22, 3) := by decide +kernel
theorem dX6_init_35 : decode cX6_init 35 = .ok (.aload_n 0, 1) := by decide +kernel
theorem dX6_init_36 : decode cX6_init 36 = .ok (.getfield 16, 3) := by decide +kernel
theorem dX6_init_39 : decode cX6_init 39 = .ok (.iload_n 1, 1) := by decide +kernel
theorem dX6_init_40 : decode cX6_init 40 = .ok (.new 7, 3) := by decide +kernel
theorem dX6_init_43 : decode cX6_init 43 = .ok (.dup, 1) := by decide +kernel
theorem dX6_init_44 : decode cX6_init 44 = .ok (.invokespecial 9, 3) := by decide +kernel
theorem dX6_init_47 : decode cX6_init 47 = .ok (.aastore, 1) := by decide +kernel
theorem dX6_init_48 : decode cX6_init 48 = .ok (.iinc 1 1, 3) := by decide +kernel
theorem dX6_init_51 : decode cX6_init 51 = .ok (.goto (-25), 3) := by decide +kernel
theorem dX6_init_54 : decode cX6_init 54 = .ok (.return_, 1) := by decide +kernel
theorem dX6_fed_0 : decode cX6_fed 0 = .ok (.aload_n 0, 1) := by decide +kernel
theorem dX6_fed_1 : decode cX6_fed 1 = .ok (.getfield 10, 3) := by decide +kernel
theorem dX6_fed_4 : decode cX6_fed 4 = .ok (.getfield 20, 3) := by decide +kernel
theorem dX6_fed_7 : decode cX6_fed 7 = .ok (.invokestatic 24, 3) := by decide +kernel
theorem dX6_fed_10 : decode cX6_fed 10 = .ok (.istore_n 2, 1) := by decide +kernel
theorem dX6_fed_11 : decode cX6_fed 11 = .ok (.aload_n 0, 1) := by decide +kernel
theorem dX6_fed_12 : decode cX6_fed 12 = .ok (.getfield 10, 3) := by decide +kernel
theorem dX6_fed_15 : decode cX6_fed 15 = .ok (.iload_n 1, 1) := by decide +kernel
theorem dX6_fed_16 : decode cX6_fed 16 = .ok (.putfield 20, 3) := by decide +kernel
theorem dX6_fed_19 : decode cX6_fed 19 = .ok (.iload_n 2, 1) := by decide +kernel
theorem dX6_fed_20 : decode cX6_fed 20 = .ok (.ireturn, 1) := by decide +kernel
theorem dX6_limit_0 : decode cX6_limit 0 = .ok (.iconst 0, 1) := by decide +kernel
theorem dX6_limit_1 : decode cX6_limit 1 = .ok (.iload_n 1, 1) := by decide +kernel
theorem dX6_limit_2 : decode cX6_limit 2 = .ok (.bipush 30, 2) := by decide +kernel
theorem dX6_limit_4 : decode cX6_limit 4 = .ok (.invokestatic 28, 3) := by decide +kernel
theorem dX6_limit_7 : decode cX6_limit 7 = .ok (.ifCond .ne 5, 3) := by decide +kernel
theorem dX6_limit_10 : decode cX6_limit 10 = .ok (.iconst (-1), 1) := by decide +kernel
theorem dX6_limit_11 : decode cX6_limit 11 = .ok (.ireturn, 1) := by decide +kernel
theorem dX6_limit_12 : decode cX6_limit 12 = .ok (.aload_n 0, 1) := by decide +kernel
theorem dX6_limit_13 : decode cX6_limit 13 = .ok (.getfield 10, 3) := by decide +kernel
theorem dX6_limit_16 : decode cX6_limit 16 = .ok (.getfield 32, 3) := by decide +kernel
theorem dX6_limit_19 : decode cX6_limit 19 = .ok (.istore_n 2, 1) := by decide +kernel
theorem dX6_limit_20 : decode cX6_limit 20 = .ok (.aload_n 0, 1) := by decide +kernel
theorem dX6_limit_21 : decode cX6_limit 21 = .ok (.getfield 10, 3) := by decide +kernel
theorem dX6_limit_24 : decode cX6_limit 24 = .ok (.iload_n 1, 1) := by decide +kernel
theorem dX6_limit_25 : decode cX6_limit 25 = .ok (.putfield 32, 3) := by decide +kernel
theorem dX6_limit_28 : decode cX6_limit 28 = .ok (.iload_n 2, 1) := by decide +kernel
theorem dX6_limit_29 : decode cX6_limit 29 = .ok (.ireturn, 1) := by decide +kernel
theorem dX6_blow_0 : decode cX6_blow 0 = .ok (.aload_n 0, 1) := by decide +kernel
theorem dX6_blow_1 : decode cX6_blow 1 = .ok (.getfield 10, 3) := by decide +kernel
theorem dX6_blow_4 : decode cX6_blow 4 = .ok (.iload_n 1, 1) := by decide +kernel
theorem dX6_blow_5 : decode cX6_blow 5 = .ok (.invokevirtual 36, 3) := by decide +kernel
theorem dX6_blow_8 : decode cX6_blow 8 = .ok (.astore_n 3, 1) := by decide +kernel
theorem dX6_blow_9 : decode cX6_blow 9 = .ok (.aload_n 3, 1) := by decide +kernel
theorem dX6_blow_10 : decode cX6_blow 10 = .ok (.ifnonnull 5, 3) := by decide +kernel
theorem dX6_blow_13 : decode cX6_blow 13 = .ok (.iconst (-1), 1) := by decide +kernel
theorem dX6_blow_14 : decode cX6_blow 14 = .ok (.ireturn, 1) := by decide +kernel
theorem dX6_blow_15 : decode cX6_blow 15 = .ok (.iload_n 2, 1) := by decide +kernel
theorem dX6_blow_16 : decode cX6_blow 16 = .ok (.ifCond .eq 16, 3) := by decide +kernel
theorem dX6_blow_19 : decode cX6_blow 19 = .ok (.aload_n 3, 1) := by decide +kernel
theorem dX6_blow_20 : decode cX6_blow 20 = .ok (.getfield 40, 3) := by decide +kernel
theorem dX6_blow_23 : decode cX6_blow 23 = .ok (.invokevirtual 46, 3) := by decide +kernel
theorem dX6_blow_26 : decode cX6_blow 26 = .ok (.ifCond .ne 6, 3) := by decide +kernel
theorem dX6_blow_29 : decode cX6_blow 29 = .ok (.bipush (-2), 2) := by decide +kernel
theorem dX6_blow_31 : decode cX6_blow 31 = .ok (.ireturn, 1) := by decide +kernel
theorem dX6_blow_32 : decode cX6_blow 32 = .ok (.aload_n 3, 1) := by decide +kernel
theorem dX6_blow_33 : decode cX6_blow 33 = .ok (.getfield 52, 3) := by decide +kernel
theorem dX6_blow_36 : decode cX6_blow 36 = .ok (.invokestatic 24, 3) := by decide +kernel
theorem dX6_blow_39 : decode cX6_blow 39 = .ok (.istore 4, 2) := by decide +kernel
theorem dX6_blow_41 : decode cX6_blow 41 = .ok (.aload_n 3, 1) := by decide +kernel
theorem dX6_blow_42 : decode cX6_blow 42 = .ok (.iload_n 2, 1) := by decide +kernel
theorem dX6_blow_43 : decode cX6_blow 43 = .ok (.putfield 52, 3) := by decide +kernel
theorem dX6_blow_46 : decode cX6_blow 46 = .ok (.iload 4, 2) := by decide +kernel
theorem dX6_blow_48 : decode cX6_blow 48 = .ok (.ireturn, 1) := by decide +kernel
theorem dX6_cold_0 : decode cX6_cold 0 = .ok (.aload_n 0, 1) := by decide +kernel
theorem dX6_cold_1 : decode cX6_cold 1 = .ok (.getfield 10, 3) := by decide +kernel
theorem dX6_cold_4 : decode cX6_cold 4 = .ok (.iload_n 1, 1) := by decide +kernel
theorem dX6_cold_5 : decode cX6_cold 5 = .ok (.invokevirtual 36, 3) := by decide +kernel
theorem dX6_cold_8 : decode cX6_cold 8 = .ok (.astore_n 3, 1) := by decide +kernel
theorem dX6_cold_9 : decode cX6_cold 9 = .ok (.aload_n 3, 1) := by decide +kernel
theorem dX6_cold_10 : decode cX6_cold 10 = .ok (.ifnull 13, 3) := by decide +kernel
theorem dX6_cold_13 : decode cX6_cold 13 = .ok (.iconst 1, 1) := by decide +kernel
theorem dX6_cold_14 : decode cX6_cold 14 = .ok (.iload_n 2, 1) := by decide +kernel
theorem dX6_cold_15 : decode cX6_cold 15 = .ok (.bipush 50, 2) := by decide +kernel
theorem dX6_cold_17 : decode cX6_cold 17 = .ok (.invokestatic 28, 3) := by decide +kernel
theorem dX6_cold_20 : decode cX6_cold 20 = .ok (.ifCond .ne 5, 3) := by decide +kernel
theorem dX6_cold_23 : decode cX6_cold 23 = .ok (.iconst (-1), 1) := by decide +kernel
theorem dX6_cold_24 : decode cX6_cold 24 = .ok (.ireturn, 1) := by decide +kernel
theorem dX6_cold_25 : decode cX6_cold 25 = .ok (.aload_n 3, 1) := by decide +kernel
theorem dX6_cold_26 : decode cX6_cold 26 = .ok (.getfield 40, 3) := by decide +kernel
theorem dX6_cold_29 : decode cX6_cold 29 = .ok (.invokevirtual 46, 3) := by decide +kernel
theorem dX6_cold_32 : decode cX6_cold 32 = .ok (.istore 4, 2) := by decide +kernel
theorem dX6_cold_34 : decode cX6_cold 34 = .ok (.iload 4, 2) := by decide +kernel
theorem dX6_cold_36 : decode cX6_cold 36 = .ok (.ifCond .eq 13, 3) := by decide +kernel
theorem dX6_cold_39 : decode cX6_cold 39 = .ok (.iload 4, 2) := by decide +kernel
theorem dX6_cold_41 : decode cX6_cold 41 = .ok (.iload_n 2, 1) := by decide +kernel
theorem dX6_cold_42 : decode cX6_cold 42 = .ok (.iadd, 1) := by decide +kernel
theorem dX6_cold_43 : decode cX6_cold 43 = .ok (.sipush 300, 3) := by decide +kernel
theorem dX6_cold_46 : decode cX6_cold 46 = .ok (.if_icmp .le 6, 3) := by decide +kernel
theorem dX6_cold_49 : decode cX6_cold 49 = .ok (.bipush (-2), 2) := by decide +kernel
theorem dX6_cold_51 : decode cX6_cold 51 = .ok (.ireturn, 1) := by decide +kernel
theorem dX6_cold_52 : decode cX6_cold 52 = .ok (.aload_n 3, 1) := by decide +kernel
theorem dX6_cold_53 : decode cX6_cold 53 = .ok (.iconst 0, 1) := by decide +kernel
theorem dX6_cold_54 : decode cX6_cold 54 = .ok (.iload_n 2, 1) := by decide +kernel
theorem dX6_cold_55 : decode cX6_cold 55 = .ok (.invokevirtual 55, 3) := by decide +kernel
theorem dX6_cold_58 : decode cX6_cold 58 = .ok (.aload_n 3, 1) := by decide +kernel
theorem dX6_cold_59 : decode cX6_cold 59 = .ok (.getfield 40, 3) := by decide +kernel
theorem dX6_cold_62 : decode cX6_cold 62 = .ok (.dup, 1) := by decide +kernel
theorem dX6_cold_63 : decode cX6_cold 63 = .ok (.getfield 59, 3) := by decide +kernel
theorem dX6_cold_66 : decode cX6_cold 66 = .ok (.iload_n 2, 1) := by decide +kernel
theorem dX6_cold_67 : decode cX6_cold 67 = .ok (.iadd, 1) := by decide +kernel
theorem dX6_cold_68 : decode cX6_cold 68 = .ok (.putfield 59, 3) := by decide +kernel
theorem dX6_cold_71 : decode cX6_cold 71 = .ok (.aload_n 0, 1) := by decide +kernel
theorem dX6_cold_72 : decode cX6_cold 72 = .ok (.getfield 10, 3) := by decide +kernel
theorem dX6_cold_75 : decode cX6_cold 75 = .ok (.getfield 62, 3) := by decide +kernel
theorem dX6_cold_78 : decode cX6_cold 78 = .ok (.getfield 66, 3) := by decide +kernel
theorem dX6_cold_81 : decode cX6_cold 81 = .ok (.dup, 1) := by decide +kernel
theorem dX6_cold_82 : decode cX6_cold 82 = .ok (.getfield 59, 3) := by decide +kernel
theorem dX6_cold_85 : decode cX6_cold 85 = .ok (.iload_n 2, 1) := by decide +kernel
theorem dX6_cold_86 : decode cX6_cold 86 = .ok (.iadd, 1) := by decide +kernel
theorem dX6_cold_87 : decode cX6_cold 87 = .ok (.putfield 59, 3) := by decide +kernel
theorem dX6_cold_90 : decode cX6_cold 90 = .ok (.aload_n 3, 1) := by decide +kernel
theorem dX6_cold_91 : decode cX6_cold 91 = .ok (.getfield 71, 3) := by decide +kernel
theorem dX6_cold_94 : decode cX6_cold 94 = .ok (.ireturn, 1) := by decide +kernel
theorem dX6_order_0 : decode cX6_order 0 = .ok (.aload_n 0, 1) := by decide +kernel
theorem dX6_order_1 : decode cX6_order 1 = .ok (.getfield 10, 3) := by decide +kernel
theorem dX6_order_4 : decode cX6_order 4 = .ok (.iload_n 1, 1) := by decide +kernel
theorem dX6_order_5 : decode cX6_order 5 = .ok (.invokevirtual 74, 3) := by decide +kernel
theorem dX6_order_8 : decode cX6_order 8 = .ok (.astore 4, 2) := by decide +kernel
theorem dX6_order_10 : decode cX6_order 10 = .ok (.aload 4, 2) := by decide +kernel
theorem dX6_order_12 : decode cX6_order 12 = .ok (.ifnull 13, 3) := by decide +kernel
theorem dX6_order_15 : decode cX6_order 15 = .ok (.iconst 0, 1) := by decide +kernel
theorem dX6_order_16 : decode cX6_order 16 = .ok (.iload_n 2, 1) := by decide +kernel
theorem dX6_order_17 : decode cX6_order 17 = .ok (.bipush 7, 2) := by decide +kernel
theorem dX6_order_19 : decode cX6_order 19 = .ok (.invokestatic 28, 3) := by decide +kernel
theorem dX6_order_22 : decode cX6_order 22 = .ok (.ifCond .ne 5, 3) := by decide +kernel
theorem dX6_order_25 : decode cX6_order 25 = .ok (.iconst (-1), 1) := by decide +kernel
theorem dX6_order_26 : decode cX6_order 26 = .ok (.ireturn, 1) := by decide +kernel
theorem dX6_order_27 : decode cX6_order 27 = .ok (.iload_n 2, 1) := by decide +kernel
theorem dX6_order_28 : decode cX6_order 28 = .ok (.ifCond .ne 15, 3) := by decide +kernel
theorem dX6_order_31 : decode cX6_order 31 = .ok (.iconst 0, 1) := by decide +kernel
theorem dX6_order_32 : decode cX6_order 32 = .ok (.iload_n 3, 1) := by decide +kernel
theorem dX6_order_33 : decode cX6_order 33 = .ok (.bipush 15, 2) := by decide +kernel
theorem dX6_order_35 : decode cX6_order 35 = .ok (.invokestatic 28, 3) := by decide +kernel
theorem dX6_order_38 : decode cX6_order 38 = .ok (.ifCond .ne 5, 3) := by decide +kernel
theorem dX6_order_41 : decode cX6_order 41 = .ok (.iconst (-1), 1) := by decide +kernel
theorem dX6_order_42 : decode cX6_order 42 = .ok (.ireturn, 1) := by decide +kernel
theorem dX6_order_43 : decode cX6_order 43 = .ok (.aload 4, 2) := by decide +kernel
theorem dX6_order_45 : decode cX6_order 45 = .ok (.iload_n 2, 1) := by decide +kernel
theorem dX6_order_46 : decode cX6_order 46 = .ok (.iload_n 3, 1) := by decide +kernel
theorem dX6_order_47 : decode cX6_order 47 = .ok (.invokevirtual 78, 3) := by decide +kernel
theorem dX6_order_50 : decode cX6_order 50 = .ok (.ifCond .eq 11, 3) := by decide +kernel
theorem dX6_order_53 : decode cX6_order 53 = .ok (.aload 4, 2) := by decide +kernel
theorem dX6_order_55 : decode cX6_order 55 = .ok (.getfield 84, 3) := by decide +kernel
theorem dX6_order_58 : decode cX6_order 58 = .ok (.goto 5, 3) := by decide +kernel
theorem dX6_order_61 : decode cX6_order 61 = .ok (.bipush (-3), 2) := by decide +kernel
theorem dX6_order_63 : decode cX6_order 63 = .ok (.ireturn, 1) := by decide +kernel
theorem dX6_drop_0 : decode cX6_drop 0 = .ok (.aload_n 0, 1) := by decide +kernel
theorem dX6_drop_1 : decode cX6_drop 1 = .ok (.getfield 10, 3) := by decide +kernel
theorem dX6_drop_4 : decode cX6_drop 4 = .ok (.iload_n 1, 1) := by decide +kernel
theorem dX6_drop_5 : decode cX6_drop 5 = .ok (.invokevirtual 74, 3) := by decide +kernel
theorem dX6_drop_8 : decode cX6_drop 8 = .ok (.astore_n 2, 1) := by decide +kernel
theorem dX6_drop_9 : decode cX6_drop 9 = .ok (.aload_n 2, 1) := by decide +kernel
theorem dX6_drop_10 : decode cX6_drop 10 = .ok (.ifnonnull 5, 3) := by decide +kernel
theorem dX6_drop_13 : decode cX6_drop 13 = .ok (.iconst (-1), 1) := by decide +kernel
theorem dX6_drop_14 : decode cX6_drop 14 = .ok (.ireturn, 1) := by decide +kernel
theorem dX6_drop_15 : decode cX6_drop 15 = .ok (.aload_n 2, 1) := by decide +kernel
theorem dX6_drop_16 : decode cX6_drop 16 = .ok (.getfield 84, 3) := by decide +kernel
theorem dX6_drop_19 : decode cX6_drop 19 = .ok (.istore_n 3, 1) := by decide +kernel
theorem dX6_drop_20 : decode cX6_drop 20 = .ok (.aload_n 2, 1) := by decide +kernel
theorem dX6_drop_21 : decode cX6_drop 21 = .ok (.iconst 0, 1) := by decide +kernel
theorem dX6_drop_22 : decode cX6_drop 22 = .ok (.putfield 84, 3) := by decide +kernel
theorem dX6_drop_25 : decode cX6_drop 25 = .ok (.iload_n 3, 1) := by decide +kernel
theorem dX6_drop_26 : decode cX6_drop 26 = .ok (.ireturn, 1) := by decide +kernel
theorem dX6_minutes_0 : decode cX6_minutes 0 = .ok (.iconst 1, 1) := by decide +kernel
theorem dX6_minutes_1 : decode cX6_minutes 1 = .ok (.iload_n 1, 1) := by decide +kernel
theorem dX6_minutes_2 : decode cX6_minutes 2 = .ok (.bipush 60, 2) := by decide +kernel
theorem dX6_minutes_4 : decode cX6_minutes 4 = .ok (.invokestatic 28, 3) := by decide +kernel
theorem dX6_minutes_7 : decode cX6_minutes 7 = .ok (.ifCond .ne 5, 3) := by decide +kernel
theorem dX6_minutes_10 : decode cX6_minutes 10 = .ok (.iconst (-1), 1) := by decide +kernel
theorem dX6_minutes_11 : decode cX6_minutes 11 = .ok (.ireturn, 1) := by decide +kernel
theorem dX6_minutes_12 : decode cX6_minutes 12 = .ok (.aload_n 0, 1) := by decide +kernel
theorem dX6_minutes_13 : decode cX6_minutes 13 = .ok (.getfield 10, 3) := by decide +kernel
theorem dX6_minutes_16 : decode cX6_minutes 16 = .ok (.getfield 62, 3) := by decide +kernel
theorem dX6_minutes_19 : decode cX6_minutes 19 = .ok (.getfield 87, 3) := by decide +kernel
theorem dX6_minutes_22 : decode cX6_minutes 22 = .ok (.istore_n 2, 1) := by decide +kernel
theorem dX6_minutes_23 : decode cX6_minutes 23 = .ok (.iconst 0, 1) := by decide +kernel
theorem dX6_minutes_24 : decode cX6_minutes 24 = .ok (.istore_n 3, 1) := by decide +kernel
theorem dX6_minutes_25 : decode cX6_minutes 25 = .ok (.iload_n 3, 1) := by decide +kernel
theorem dX6_minutes_26 : decode cX6_minutes 26 = .ok (.iload_n 1, 1) := by decide +kernel
theorem dX6_minutes_27 : decode cX6_minutes 27 = .ok (.if_icmp .ge 16, 3) := by decide +kernel
theorem dX6_minutes_30 : decode cX6_minutes 30 = .ok (.aload_n 0, 1) := by decide +kernel
theorem dX6_minutes_31 : decode cX6_minutes 31 = .ok (.getfield 10, 3) := by decide +kernel
theorem dX6_minutes_34 : decode cX6_minutes 34 = .ok (.invokevirtual 90, 3) := by decide +kernel
theorem dX6_minutes_37 : decode cX6_minutes 37 = .ok (.iinc 3 1, 3) := by decide +kernel
theorem dX6_minutes_40 : decode cX6_minutes 40 = .ok (.goto (-15), 3) := by decide +kernel
theorem dX6_minutes_43 : decode cX6_minutes 43 = .ok (.aload_n 0, 1) := by decide +kernel
theorem dX6_minutes_44 : decode cX6_minutes 44 = .ok (.getfield 10, 3) := by decide +kernel
theorem dX6_minutes_47 : decode cX6_minutes 47 = .ok (.getfield 62, 3) := by decide +kernel
theorem dX6_minutes_50 : decode cX6_minutes 50 = .ok (.getfield 87, 3) := by decide +kernel
theorem dX6_minutes_53 : decode cX6_minutes 53 = .ok (.iload_n 2, 1) := by decide +kernel
theorem dX6_minutes_54 : decode cX6_minutes 54 = .ok (.isub, 1) := by decide +kernel
theorem dX6_minutes_55 : decode cX6_minutes 55 = .ok (.ireturn, 1) := by decide +kernel
theorem dX6_until_0 : decode cX6_until 0 = .ok (.iconst 1, 1) := by decide +kernel
theorem dX6_until_1 : decode cX6_until 1 = .ok (.iload_n 1, 1) := by decide +kernel
theorem dX6_until_2 : decode cX6_until 2 = .ok (.sipush 200, 3) := by decide +kernel
theorem dX6_until_5 : decode cX6_until 5 = .ok (.invokestatic 28, 3) := by decide +kernel
theorem dX6_until_8 : decode cX6_until 8 = .ok (.ifCond .ne 5, 3) := by decide +kernel
theorem dX6_until_11 : decode cX6_until 11 = .ok (.iconst (-1), 1) := by decide +kernel
theorem dX6_until_12 : decode cX6_until 12 = .ok (.ireturn, 1) := by decide +kernel
theorem dX6_until_13 : decode cX6_until 13 = .ok (.iconst 0, 1) := by decide +kernel
theorem dX6_until_14 : decode cX6_until 14 = .ok (.istore_n 2, 1) := by decide +kernel
theorem dX6_until_15 : decode cX6_until 15 = .ok (.iload_n 2, 1) := by decide +kernel
theorem dX6_until_16 : decode cX6_until 16 = .ok (.iload_n 1, 1) := by decide +kernel
theorem dX6_until_17 : decode cX6_until 17 = .ok (.if_icmp .ge 26, 3) := by decide +kernel
theorem dX6_until_20 : decode cX6_until 20 = .ok (.aload_n 0, 1) := by decide +kernel
theorem dX6_until_21 : decode cX6_until 21 = .ok (.getfield 10, 3) := by decide +kernel
theorem dX6_until_24 : decode cX6_until 24 = .ok (.invokevirtual 93, 3) := by decide +kernel
theorem dX6_until_27 : decode cX6_until 27 = .ok (.ifCond .eq 16, 3) := by decide +kernel
theorem dX6_until_30 : decode cX6_until 30 = .ok (.aload_n 0, 1) := by decide +kernel
theorem dX6_until_31 : decode cX6_until 31 = .ok (.getfield 10, 3) := by decide +kernel
theorem dX6_until_34 : decode cX6_until 34 = .ok (.invokevirtual 90, 3) := by decide +kernel
theorem dX6_until_37 : decode cX6_until 37 = .ok (.iinc 2 1, 3) := by decide +kernel
theorem dX6_until_40 : decode cX6_until 40 = .ok (.goto (-25), 3) := by decide +kernel
theorem dX6_until_43 : decode cX6_until 43 = .ok (.iload_n 2, 1) := by decide +kernel
theorem dX6_until_44 : decode cX6_until 44 = .ok (.ireturn, 1) := by decide +kernel
theorem dX6_crane_0 : decode cX6_crane 0 = .ok (.aload_n 0, 1) := by decide +kernel
theorem dX6_crane_1 : decode cX6_crane 1 = .ok (.getfield 10, 3) := by decide +kernel
theorem dX6_crane_4 : decode cX6_crane 4 = .ok (.iload_n 1, 1) := by decide +kernel
theorem dX6_crane_5 : decode cX6_crane 5 = .ok (.invokevirtual 74, 3) := by decide +kernel
theorem dX6_crane_8 : decode cX6_crane 8 = .ok (.astore_n 3, 1) := by decide +kernel
theorem dX6_crane_9 : decode cX6_crane 9 = .ok (.aload_n 3, 1) := by decide +kernel
theorem dX6_crane_10 : decode cX6_crane 10 = .ok (.ifnonnull 5, 3) := by decide +kernel
theorem dX6_crane_13 : decode cX6_crane 13 = .ok (.iconst (-1), 1) := by decide +kernel
theorem dX6_crane_14 : decode cX6_crane 14 = .ok (.ireturn, 1) := by decide +kernel
theorem dX6_crane_15 : decode cX6_crane 15 = .ok (.iload_n 2, 1) := by decide +kernel
theorem dX6_crane_16 : decode cX6_crane 16 = .ok (.iconst 1, 1) := by decide +kernel
theorem dX6_crane_17 : decode cX6_crane 17 = .ok (.if_icmp .ne 14, 3) := by decide +kernel
theorem dX6_crane_20 : decode cX6_crane 20 = .ok (.aload_n 0, 1) := by decide +kernel
theorem dX6_crane_21 : decode cX6_crane 21 = .ok (.getfield 10, 3) := by decide +kernel
theorem dX6_crane_24 : decode cX6_crane 24 = .ok (.aload_n 3, 1) := by decide +kernel
theorem dX6_crane_25 : decode cX6_crane 25 = .ok (.invokevirtual 97, 3) := by decide +kernel
theorem dX6_crane_28 : decode cX6_crane 28 = .ok (.goto 8, 3) := by decide +kernel
theorem dX6_crane_31 : decode cX6_crane 31 = .ok (.aload_n 3, 1) := by decide +kernel
theorem dX6_crane_32 : decode cX6_crane 32 = .ok (.iload_n 2, 1) := by decide +kernel
theorem dX6_crane_33 : decode cX6_crane 33 = .ok (.invokevirtual 101, 3) := by decide +kernel
theorem dX6_crane_36 : decode cX6_crane 36 = .ok (.ireturn, 1) := by decide +kernel
theorem dX6_ladle_0 : decode cX6_ladle 0 = .ok (.aload_n 0, 1) := by decide +kernel
theorem dX6_ladle_1 : decode cX6_ladle 1 = .ok (.getfield 10, 3) := by decide +kernel
theorem dX6_ladle_4 : decode cX6_ladle 4 = .ok (.iload_n 1, 1) := by decide +kernel
theorem dX6_ladle_5 : decode cX6_ladle 5 = .ok (.invokevirtual 105, 3) := by decide +kernel
theorem dX6_ladle_8 : decode cX6_ladle 8 = .ok (.astore_n 3, 1) := by decide +kernel
theorem dX6_ladle_9 : decode cX6_ladle 9 = .ok (.aload_n 3, 1) := by decide +kernel
theorem dX6_ladle_10 : decode cX6_ladle 10 = .ok (.ifnonnull 7, 3) := by decide +kernel
theorem dX6_ladle_13 : decode cX6_ladle 13 = .ok (.iconst (-1), 1) := by decide +kernel
theorem dX6_ladle_14 : decode cX6_ladle 14 = .ok (.goto 8, 3) := by decide +kernel
theorem dX6_ladle_17 : decode cX6_ladle 17 = .ok (.aload_n 3, 1) := by decide +kernel
theorem dX6_ladle_18 : decode cX6_ladle 18 = .ok (.iload_n 2, 1) := by decide +kernel
theorem dX6_ladle_19 : decode cX6_ladle 19 = .ok (.invokevirtual 109, 3) := by decide +kernel
theorem dX6_ladle_22 : decode cX6_ladle 22 = .ok (.ireturn, 1) := by decide +kernel
theorem dX6_vessel_0 : decode cX6_vessel 0 = .ok (.aload_n 0, 1) := by decide +kernel
theorem dX6_vessel_1 : decode cX6_vessel 1 = .ok (.getfield 10, 3) := by decide +kernel
theorem dX6_vessel_4 : decode cX6_vessel 4 = .ok (.iload_n 1, 1) := by decide +kernel
theorem dX6_vessel_5 : decode cX6_vessel 5 = .ok (.invokevirtual 36, 3) := by decide +kernel
theorem dX6_vessel_8 : decode cX6_vessel 8 = .ok (.astore_n 3, 1) := by decide +kernel
theorem dX6_vessel_9 : decode cX6_vessel 9 = .ok (.aload_n 3, 1) := by decide +kernel
theorem dX6_vessel_10 : decode cX6_vessel 10 = .ok (.ifnonnull 7, 3) := by decide +kernel
theorem dX6_vessel_13 : decode cX6_vessel 13 = .ok (.iconst (-1), 1) := by decide +kernel
theorem dX6_vessel_14 : decode cX6_vessel 14 = .ok (.goto 8, 3) := by decide +kernel
theorem dX6_vessel_17 : decode cX6_vessel 17 = .ok (.aload_n 3, 1) := by decide +kernel
theorem dX6_vessel_18 : decode cX6_vessel 18 = .ok (.iload_n 2, 1) := by decide +kernel
theorem dX6_vessel_19 : decode cX6_vessel 19 = .ok (.invokevirtual 112, 3) := by decide +kernel
theorem dX6_vessel_22 : decode cX6_vessel 22 = .ok (.ireturn, 1) := by decide +kernel
theorem dX6_book_0 : decode cX6_book 0 = .ok (.iconst 1, 1) := by decide +kernel
theorem dX6_book_1 : decode cX6_book 1 = .ok (.iload_n 2, 1) := by decide +kernel
theorem dX6_book_2 : decode cX6_book 2 = .ok (.iconst 4, 1) := by decide +kernel
theorem dX6_book_3 : decode cX6_book 3 = .ok (.invokestatic 28, 3) := by decide +kernel
theorem dX6_book_6 : decode cX6_book 6 = .ok (.ifCond .eq 15, 3) := by decide +kernel
theorem dX6_book_9 : decode cX6_book 9 = .ok (.aload_n 0, 1) := by decide +kernel
theorem dX6_book_10 : decode cX6_book 10 = .ok (.getfield 10, 3) := by decide +kernel
theorem dX6_book_13 : decode cX6_book 13 = .ok (.iload_n 1, 1) := by decide +kernel
theorem dX6_book_14 : decode cX6_book 14 = .ok (.iload_n 2, 1) := by decide +kernel
theorem dX6_book_15 : decode cX6_book 15 = .ok (.invokevirtual 113, 3) := by decide +kernel
theorem dX6_book_18 : decode cX6_book 18 = .ok (.goto 4, 3) := by decide +kernel
theorem dX6_book_21 : decode cX6_book 21 = .ok (.iconst (-1), 1) := by decide +kernel
theorem dX6_book_22 : decode cX6_book 22 = .ok (.ireturn, 1) := by decide +kernel
theorem dX6_count_0 : decode cX6_count 0 = .ok (.iload_n 1, 1) := by decide +kernel
theorem dX6_count_1 : decode cX6_count 1 = .ok (.tableswitch 51 7 9 #[27, 32, 40], 27) := by decide +kernel
theorem dX6_count_28 : decode cX6_count 28 = .ok (.aload_n 0, 1) := by decide +kernel
theorem dX6_count_29 : decode cX6_count 29 = .ok (.getfield 117, 3) := by decide +kernel
theorem dX6_count_32 : decode cX6_count 32 = .ok (.ireturn, 1) := by decide +kernel
theorem dX6_count_33 : decode cX6_count 33 = .ok (.aload_n 0, 1) := by decide +kernel
theorem dX6_count_34 : decode cX6_count 34 = .ok (.getfield 10, 3) := by decide +kernel
theorem dX6_count_37 : decode cX6_count 37 = .ok (.getfield 32, 3) := by decide +kernel
theorem dX6_count_40 : decode cX6_count 40 = .ok (.ireturn, 1) := by decide +kernel
theorem dX6_count_41 : decode cX6_count 41 = .ok (.aload_n 0, 1) := by decide +kernel
theorem dX6_count_42 : decode cX6_count 42 = .ok (.getfield 10, 3) := by decide +kernel
theorem dX6_count_45 : decode cX6_count 45 = .ok (.getfield 20, 3) := by decide +kernel
theorem dX6_count_48 : decode cX6_count 48 = .ok (.invokestatic 24, 3) := by decide +kernel
theorem dX6_count_51 : decode cX6_count 51 = .ok (.ireturn, 1) := by decide +kernel
theorem dX6_count_52 : decode cX6_count 52 = .ok (.aload_n 0, 1) := by decide +kernel
theorem dX6_count_53 : decode cX6_count 53 = .ok (.getfield 10, 3) := by decide +kernel
theorem dX6_count_56 : decode cX6_count 56 = .ok (.getfield 62, 3) := by decide +kernel
theorem dX6_count_59 : decode cX6_count 59 = .ok (.iload_n 1, 1) := by decide +kernel
theorem dX6_count_60 : decode cX6_count 60 = .ok (.invokevirtual 120, 3) := by decide +kernel
theorem dX6_count_63 : decode cX6_count 63 = .ok (.ireturn, 1) := by decide +kernel
theorem dX6_keep_0 : decode cX6_keep 0 = .ok (.aload_n 0, 1) := by decide +kernel
theorem dX6_keep_1 : decode cX6_keep 1 = .ok (.getfield 117, 3) := by decide +kernel
theorem dX6_keep_4 : decode cX6_keep 4 = .ok (.ifCond .lt 15, 3) := by decide +kernel
theorem dX6_keep_7 : decode cX6_keep 7 = .ok (.aload_n 0, 1) := by decide +kernel
theorem dX6_keep_8 : decode cX6_keep 8 = .ok (.getfield 117, 3) := by decide +kernel
theorem dX6_keep_11 : decode cX6_keep 11 = .ok (.aload_n 0, 1) := by decide +kernel
theorem dX6_keep_12 : decode cX6_keep 12 = .ok (.getfield 16, 3) := by decide +kernel
theorem dX6_keep_15 : decode cX6_keep 15 = .ok (.arraylength, 1) := by decide +kernel
theorem dX6_keep_16 : decode cX6_keep 16 = .ok (.if_icmp .lt 6, 3) := by decide +kernel
theorem dX6_keep_19 : decode cX6_keep 19 = .ok (.bipush (-3), 2) := by decide +kernel
theorem dX6_keep_21 : decode cX6_keep 21 = .ok (.ireturn, 1) := by decide +kernel
theorem dX6_keep_22 : decode cX6_keep 22 = .ok (.aload_n 0, 1) := by decide +kernel
theorem dX6_keep_23 : decode cX6_keep 23 = .ok (.getfield 16, 3) := by decide +kernel
theorem dX6_keep_26 : decode cX6_keep 26 = .ok (.aload_n 0, 1) := by decide +kernel
theorem dX6_keep_27 : decode cX6_keep 27 = .ok (.getfield 117, 3) := by decide +kernel
theorem dX6_keep_30 : decode cX6_keep 30 = .ok (.aaload, 1) := by decide +kernel
theorem dX6_keep_31 : decode cX6_keep 31 = .ok (.aload_n 0, 1) := by decide +kernel
theorem dX6_keep_32 : decode cX6_keep 32 = .ok (.getfield 10, 3) := by decide +kernel
theorem dX6_keep_35 : decode cX6_keep 35 = .ok (.invokevirtual 121, 3) := by decide +kernel
theorem dX6_keep_38 : decode cX6_keep 38 = .ok (.aload_n 0, 1) := by decide +kernel
theorem dX6_keep_39 : decode cX6_keep 39 = .ok (.dup, 1) := by decide +kernel
theorem dX6_keep_40 : decode cX6_keep 40 = .ok (.getfield 117, 3) := by decide +kernel
theorem dX6_keep_43 : decode cX6_keep 43 = .ok (.iconst 1, 1) := by decide +kernel
theorem dX6_keep_44 : decode cX6_keep 44 = .ok (.iadd, 1) := by decide +kernel
theorem dX6_keep_45 : decode cX6_keep 45 = .ok (.putfield 117, 3) := by decide +kernel
theorem dX6_keep_48 : decode cX6_keep 48 = .ok (.aload_n 0, 1) := by decide +kernel
theorem dX6_keep_49 : decode cX6_keep 49 = .ok (.getfield 117, 3) := by decide +kernel
theorem dX6_keep_52 : decode cX6_keep 52 = .ok (.ireturn, 1) := by decide +kernel
theorem dX6_back_0 : decode cX6_back 0 = .ok (.aload_n 0, 1) := by decide +kernel
theorem dX6_back_1 : decode cX6_back 1 = .ok (.getfield 117, 3) := by decide +kernel
theorem dX6_back_4 : decode cX6_back 4 = .ok (.iconst 1, 1) := by decide +kernel
theorem dX6_back_5 : decode cX6_back 5 = .ok (.if_icmp .lt 15, 3) := by decide +kernel
theorem dX6_back_8 : decode cX6_back 8 = .ok (.aload_n 0, 1) := by decide +kernel
theorem dX6_back_9 : decode cX6_back 9 = .ok (.getfield 117, 3) := by decide +kernel
theorem dX6_back_12 : decode cX6_back 12 = .ok (.aload_n 0, 1) := by decide +kernel
theorem dX6_back_13 : decode cX6_back 13 = .ok (.getfield 16, 3) := by decide +kernel
theorem dX6_back_16 : decode cX6_back 16 = .ok (.arraylength, 1) := by decide +kernel
theorem dX6_back_17 : decode cX6_back 17 = .ok (.if_icmp .le 6, 3) := by decide +kernel
theorem dX6_back_20 : decode cX6_back 20 = .ok (.bipush (-2), 2) := by decide +kernel
theorem dX6_back_22 : decode cX6_back 22 = .ok (.ireturn, 1) := by decide +kernel
theorem dX6_back_23 : decode cX6_back 23 = .ok (.aload_n 0, 1) := by decide +kernel
theorem dX6_back_24 : decode cX6_back 24 = .ok (.dup, 1) := by decide +kernel
theorem dX6_back_25 : decode cX6_back 25 = .ok (.getfield 117, 3) := by decide +kernel
theorem dX6_back_28 : decode cX6_back 28 = .ok (.iconst 1, 1) := by decide +kernel
theorem dX6_back_29 : decode cX6_back 29 = .ok (.isub, 1) := by decide +kernel
theorem dX6_back_30 : decode cX6_back 30 = .ok (.putfield 117, 3) := by decide +kernel
theorem dX6_back_33 : decode cX6_back 33 = .ok (.aload_n 0, 1) := by decide +kernel
theorem dX6_back_34 : decode cX6_back 34 = .ok (.getfield 10, 3) := by decide +kernel
theorem dX6_back_37 : decode cX6_back 37 = .ok (.aload_n 0, 1) := by decide +kernel
theorem dX6_back_38 : decode cX6_back 38 = .ok (.getfield 16, 3) := by decide +kernel
theorem dX6_back_41 : decode cX6_back 41 = .ok (.aload_n 0, 1) := by decide +kernel
theorem dX6_back_42 : decode cX6_back 42 = .ok (.getfield 117, 3) := by decide +kernel
theorem dX6_back_45 : decode cX6_back 45 = .ok (.aaload, 1) := by decide +kernel
theorem dX6_back_46 : decode cX6_back 46 = .ok (.invokevirtual 121, 3) := by decide +kernel
theorem dX6_back_49 : decode cX6_back 49 = .ok (.aload_n 0, 1) := by decide +kernel
theorem dX6_back_50 : decode cX6_back 50 = .ok (.getfield 10, 3) := by decide +kernel
theorem dX6_back_53 : decode cX6_back 53 = .ok (.getfield 62, 3) := by decide +kernel
theorem dX6_back_56 : decode cX6_back 56 = .ok (.getfield 125, 3) := by decide +kernel
theorem dX6_back_59 : decode cX6_back 59 = .ok (.ireturn, 1) := by decide +kernel
theorem dX6_isBetween_0 : decode cX6_isBetween 0 = .ok (.iload_n 0, 1) := by decide +kernel
theorem dX6_isBetween_1 : decode cX6_isBetween 1 = .ok (.iload_n 1, 1) := by decide +kernel
theorem dX6_isBetween_2 : decode cX6_isBetween 2 = .ok (.if_icmp .gt 12, 3) := by decide +kernel
theorem dX6_isBetween_5 : decode cX6_isBetween 5 = .ok (.iload_n 1, 1) := by decide +kernel
theorem dX6_isBetween_6 : decode cX6_isBetween 6 = .ok (.iload_n 2, 1) := by decide +kernel
theorem dX6_isBetween_7 : decode cX6_isBetween 7 = .ok (.if_icmp .gt 7, 3) := by decide +kernel
theorem dX6_isBetween_10 : decode cX6_isBetween 10 = .ok (.iconst 1, 1) := by decide +kernel
theorem dX6_isBetween_11 : decode cX6_isBetween 11 = .ok (.goto 4, 3) := by decide +kernel
theorem dX6_isBetween_14 : decode cX6_isBetween 14 = .ok (.iconst 0, 1) := by decide +kernel
theorem dX6_isBetween_15 : decode cX6_isBetween 15 = .ok (.ireturn, 1) := by decide +kernel
theorem dX6_oneIf_0 : decode cX6_oneIf 0 = .ok (.iload_n 0, 1) := by decide +kernel
theorem dX6_oneIf_1 : decode cX6_oneIf 1 = .ok (.ifCond .eq 7, 3) := by decide +kernel
theorem dX6_oneIf_4 : decode cX6_oneIf 4 = .ok (.iconst 1, 1) := by decide +kernel
theorem dX6_oneIf_5 : decode cX6_oneIf 5 = .ok (.goto 4, 3) := by decide +kernel
theorem dX6_oneIf_8 : decode cX6_oneIf 8 = .ok (.iconst 0, 1) := by decide +kernel
theorem dX6_oneIf_9 : decode cX6_oneIf 9 = .ok (.ireturn, 1) := by decide +kernel
theorem dX6_copyRow_0 : decode cX6_copyRow 0 = .ok (.iconst 0, 1) := by decide +kernel
theorem dX6_copyRow_1 : decode cX6_copyRow 1 = .ok (.istore_n 2, 1) := by decide +kernel
theorem dX6_copyRow_2 : decode cX6_copyRow 2 = .ok (.iload_n 2, 1) := by decide +kernel
theorem dX6_copyRow_3 : decode cX6_copyRow 3 = .ok (.aload_n 0, 1) := by decide +kernel
theorem dX6_copyRow_4 : decode cX6_copyRow 4 = .ok (.arraylength, 1) := by decide +kernel
theorem dX6_copyRow_5 : decode cX6_copyRow 5 = .ok (.if_icmp .ge 21, 3) := by decide +kernel
theorem dX6_copyRow_8 : decode cX6_copyRow 8 = .ok (.iload_n 2, 1) := by decide +kernel
theorem dX6_copyRow_9 : decode cX6_copyRow 9 = .ok (.aload_n 1, 1) := by decide +kernel
theorem dX6_copyRow_10 : decode cX6_copyRow 10 = .ok (.arraylength, 1) := by decide +kernel
theorem dX6_copyRow_11 : decode cX6_copyRow 11 = .ok (.if_icmp .ge 15, 3) := by decide +kernel
theorem dX6_copyRow_14 : decode cX6_copyRow 14 = .ok (.aload_n 1, 1) := by decide +kernel
theorem dX6_copyRow_15 : decode cX6_copyRow 15 = .ok (.iload_n 2, 1) := by decide +kernel
theorem dX6_copyRow_16 : decode cX6_copyRow 16 = .ok (.aload_n 0, 1) := by decide +kernel
theorem dX6_copyRow_17 : decode cX6_copyRow 17 = .ok (.iload_n 2, 1) := by decide +kernel
theorem dX6_copyRow_18 : decode cX6_copyRow 18 = .ok (.iaload, 1) := by decide +kernel
theorem dX6_copyRow_19 : decode cX6_copyRow 19 = .ok (.iastore, 1) := by decide +kernel
theorem dX6_copyRow_20 : decode cX6_copyRow 20 = .ok (.iinc 2 1, 3) := by decide +kernel
theorem dX6_copyRow_23 : decode cX6_copyRow 23 = .ok (.goto (-21), 3) := by decide +kernel
theorem dX6_copyRow_26 : decode cX6_copyRow 26 = .ok (.return_, 1) := by decide +kernel
