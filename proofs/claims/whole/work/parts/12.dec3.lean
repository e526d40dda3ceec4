theorem dX9_sets_82 : decode cX9_sets 82 = .ok (.iastore, 1) := by decide +kernel
theorem dX9_sets_83 : decode cX9_sets 83 = .ok (.iconst 0, 1) := by decide +kernel
theorem dX9_sets_84 : decode cX9_sets 84 = .ok (.ireturn, 1) := by decide +kernel
theorem dX9_wasFaulty_0 : decode cX9_wasFaulty 0 = .ok (.iconst 0, 1) := by decide +kernel
theorem dX9_wasFaulty_1 : decode cX9_wasFaulty 1 = .ok (.istore_n 2, 1) := by decide +kernel
theorem dX9_wasFaulty_2 : decode cX9_wasFaulty 2 = .ok (.iload_n 2, 1) := by decide +kernel
theorem dX9_wasFaulty_3 : decode cX9_wasFaulty 3 = .ok (.aload_n 0, 1) := by decide +kernel
theorem dX9_wasFaulty_4 : decode cX9_wasFaulty 4 = .ok (.getfield 7, 3) := by decide +kernel
theorem dX9_wasFaulty_7 : decode cX9_wasFaulty 7 = .ok (.iconst 2, 1) := by decide +kernel
theorem dX9_wasFaulty_8 : decode cX9_wasFaulty 8 = .ok (.iaload, 1) := by decide +kernel
theorem dX9_wasFaulty_9 : decode cX9_wasFaulty 9 = .ok (.if_icmp .ge 46, 3) := by decide +kernel
theorem dX9_wasFaulty_12 : decode cX9_wasFaulty 12 = .ok (.aload_n 0, 1) := by decide +kernel
theorem dX9_wasFaulty_13 : decode cX9_wasFaulty 13 = .ok (.iload_n 2, 1) := by decide +kernel
theorem dX9_wasFaulty_14 : decode cX9_wasFaulty 14 = .ok (.iconst 0, 1) := by decide +kernel
theorem dX9_wasFaulty_15 : decode cX9_wasFaulty 15 = .ok (.invokevirtual 56, 3) := by decide +kernel
theorem dX9_wasFaulty_18 : decode cX9_wasFaulty 18 = .ok (.iload_n 1, 1) := by decide +kernel
theorem dX9_wasFaulty_19 : decode cX9_wasFaulty 19 = .ok (.if_icmp .ne 30, 3) := by decide +kernel
theorem dX9_wasFaulty_22 : decode cX9_wasFaulty 22 = .ok (.aload_n 0, 1) := by decide +kernel
theorem dX9_wasFaulty_23 : decode cX9_wasFaulty 23 = .ok (.iload_n 2, 1) := by decide +kernel
theorem dX9_wasFaulty_24 : decode cX9_wasFaulty 24 = .ok (.iconst 2, 1) := by decide +kernel
theorem dX9_wasFaulty_25 : decode cX9_wasFaulty 25 = .ok (.invokevirtual 56, 3) := by decide +kernel
theorem dX9_wasFaulty_28 : decode cX9_wasFaulty 28 = .ok (.iconst 3, 1) := by decide +kernel
theorem dX9_wasFaulty_29 : decode cX9_wasFaulty 29 = .ok (.if_icmp .ne 20, 3) := by decide +kernel
theorem dX9_wasFaulty_32 : decode cX9_wasFaulty 32 = .ok (.aload_n 0, 1) := by decide +kernel
theorem dX9_wasFaulty_33 : decode cX9_wasFaulty 33 = .ok (.iload_n 2, 1) := by decide +kernel
theorem dX9_wasFaulty_34 : decode cX9_wasFaulty 34 = .ok (.iconst 5, 1) := by decide +kernel
theorem dX9_wasFaulty_35 : decode cX9_wasFaulty 35 = .ok (.invokevirtual 56, 3) := by decide +kernel
theorem dX9_wasFaulty_38 : decode cX9_wasFaulty 38 = .ok (.aload_n 0, 1) := by decide +kernel
theorem dX9_wasFaulty_39 : decode cX9_wasFaulty 39 = .ok (.getfield 7, 3) := by decide +kernel
theorem dX9_wasFaulty_42 : decode cX9_wasFaulty 42 = .ok (.iconst 0, 1) := by decide +kernel
theorem dX9_wasFaulty_43 : decode cX9_wasFaulty 43 = .ok (.iaload, 1) := by decide +kernel
theorem dX9_wasFaulty_44 : decode cX9_wasFaulty 44 = .ok (.if_icmp .ne 5, 3) := by decide +kernel
theorem dX9_wasFaulty_47 : decode cX9_wasFaulty 47 = .ok (.iconst 1, 1) := by decide +kernel
theorem dX9_wasFaulty_48 : decode cX9_wasFaulty 48 = .ok (.ireturn, 1) := by decide +kernel
theorem dX9_wasFaulty_49 : decode cX9_wasFaulty 49 = .ok (.iinc 2 1, 3) := by decide +kernel
theorem dX9_wasFaulty_52 : decode cX9_wasFaulty 52 = .ok (.goto (-50), 3) := by decide +kernel
theorem dX9_wasFaulty_55 : decode cX9_wasFaulty 55 = .ok (.iconst 0, 1) := by decide +kernel
theorem dX9_wasFaulty_56 : decode cX9_wasFaulty 56 = .ok (.ireturn, 1) := by decide +kernel
theorem dX9_pays_0 : decode cX9_pays 0 = .ok (.aload_n 0, 1) := by decide +kernel
theorem dX9_pays_1 : decode cX9_pays 1 = .ok (.aload_n 0, 1) := by decide +kernel
theorem dX9_pays_2 : decode cX9_pays 2 = .ok (.iload_n 1, 1) := by decide +kernel
theorem dX9_pays_3 : decode cX9_pays 3 = .ok (.iconst 1, 1) := by decide +kernel
theorem dX9_pays_4 : decode cX9_pays 4 = .ok (.invokevirtual 33, 3) := by decide +kernel
theorem dX9_pays_7 : decode cX9_pays 7 = .ok (.iconst 0, 1) := by decide +kernel
theorem dX9_pays_8 : decode cX9_pays 8 = .ok (.iload_n 2, 1) := by decide +kernel
theorem dX9_pays_9 : decode cX9_pays 9 = .ok (.ineg, 1) := by decide +kernel
theorem dX9_pays_10 : decode cX9_pays 10 = .ok (.invokevirtual 59, 3) := by decide +kernel
theorem dX9_pays_13 : decode cX9_pays 13 = .ok (.aload_n 0, 1) := by decide +kernel
theorem dX9_pays_14 : decode cX9_pays 14 = .ok (.aload_n 0, 1) := by decide +kernel
theorem dX9_pays_15 : decode cX9_pays 15 = .ok (.iload_n 1, 1) := by decide +kernel
theorem dX9_pays_16 : decode cX9_pays 16 = .ok (.iconst 0, 1) := by decide +kernel
theorem dX9_pays_17 : decode cX9_pays 17 = .ok (.invokevirtual 33, 3) := by decide +kernel
theorem dX9_pays_20 : decode cX9_pays 20 = .ok (.iconst 0, 1) := by decide +kernel
theorem dX9_pays_21 : decode cX9_pays 21 = .ok (.iload_n 2, 1) := by decide +kernel
theorem dX9_pays_22 : decode cX9_pays 22 = .ok (.invokevirtual 59, 3) := by decide +kernel
theorem dX9_pays_25 : decode cX9_pays 25 = .ok (.aload_n 0, 1) := by decide +kernel
theorem dX9_pays_26 : decode cX9_pays 26 = .ok (.getfield 7, 3) := by decide +kernel
theorem dX9_pays_29 : decode cX9_pays 29 = .ok (.sipush 277, 3) := by decide +kernel
theorem dX9_pays_32 : decode cX9_pays 32 = .ok (.bipush 6, 2) := by decide +kernel
theorem dX9_pays_34 : decode cX9_pays 34 = .ok (.iload_n 1, 1) := by decide +kernel
theorem dX9_pays_35 : decode cX9_pays 35 = .ok (.imul, 1) := by decide +kernel
theorem dX9_pays_36 : decode cX9_pays 36 = .ok (.iadd, 1) := by decide +kernel
theorem dX9_pays_37 : decode cX9_pays 37 = .ok (.iconst 3, 1) := by decide +kernel
theorem dX9_pays_38 : decode cX9_pays 38 = .ok (.iadd, 1) := by decide +kernel
theorem dX9_pays_39 : decode cX9_pays 39 = .ok (.dup2, 1) := by decide +kernel
theorem dX9_pays_40 : decode cX9_pays 40 = .ok (.iaload, 1) := by decide +kernel
theorem dX9_pays_41 : decode cX9_pays 41 = .ok (.iload_n 2, 1) := by decide +kernel
theorem dX9_pays_42 : decode cX9_pays 42 = .ok (.isub, 1) := by decide +kernel
theorem dX9_pays_43 : decode cX9_pays 43 = .ok (.iastore, 1) := by decide +kernel
theorem dX9_pays_44 : decode cX9_pays 44 = .ok (.return_, 1) := by decide +kernel
theorem dX9_weekEnds_0 : decode cX9_weekEnds 0 = .ok (.iconst 0, 1) := by decide +kernel
theorem dX9_weekEnds_1 : decode cX9_weekEnds 1 = .ok (.istore_n 1, 1) := by decide +kernel
theorem dX9_weekEnds_2 : decode cX9_weekEnds 2 = .ok (.iconst 0, 1) := by decide +kernel
theorem dX9_weekEnds_3 : decode cX9_weekEnds 3 = .ok (.istore_n 2, 1) := by decide +kernel
theorem dX9_weekEnds_4 : decode cX9_weekEnds 4 = .ok (.iload_n 2, 1) := by decide +kernel
theorem dX9_weekEnds_5 : decode cX9_weekEnds 5 = .ok (.aload_n 0, 1) := by decide +kernel
theorem dX9_weekEnds_6 : decode cX9_weekEnds 6 = .ok (.getfield 7, 3) := by decide +kernel
theorem dX9_weekEnds_9 : decode cX9_weekEnds 9 = .ok (.iconst 1, 1) := by decide +kernel
theorem dX9_weekEnds_10 : decode cX9_weekEnds 10 = .ok (.iaload, 1) := by decide +kernel
theorem dX9_weekEnds_11 : decode cX9_weekEnds 11 = .ok (.if_icmp .ge 83, 3) := by decide +kernel
theorem dX9_weekEnds_14 : decode cX9_weekEnds 14 = .ok (.aload_n 0, 1) := by decide +kernel
theorem dX9_weekEnds_15 : decode cX9_weekEnds 15 = .ok (.getfield 7, 3) := by decide +kernel
theorem dX9_weekEnds_18 : decode cX9_weekEnds 18 = .ok (.bipush 7, 2) := by decide +kernel
theorem dX9_weekEnds_20 : decode cX9_weekEnds 20 = .ok (.iaload, 1) := by decide +kernel
theorem dX9_weekEnds_21 : decode cX9_weekEnds 21 = .ok (.aload_n 0, 1) := by decide +kernel
theorem dX9_weekEnds_22 : decode cX9_weekEnds 22 = .ok (.iload_n 2, 1) := by decide +kernel
theorem dX9_weekEnds_23 : decode cX9_weekEnds 23 = .ok (.iconst 0, 1) := by decide +kernel
theorem dX9_weekEnds_24 : decode cX9_weekEnds 24 = .ok (.invokevirtual 63, 3) := by decide +kernel
theorem dX9_weekEnds_27 : decode cX9_weekEnds 27 = .ok (.isub, 1) := by decide +kernel
theorem dX9_weekEnds_28 : decode cX9_weekEnds 28 = .ok (.istore_n 3, 1) := by decide +kernel
theorem dX9_weekEnds_29 : decode cX9_weekEnds 29 = .ok (.iload_n 3, 1) := by decide +kernel
theorem dX9_weekEnds_30 : decode cX9_weekEnds 30 = .ok (.ifCond .lt 11, 3) := by decide +kernel
theorem dX9_weekEnds_33 : decode cX9_weekEnds 33 = .ok (.aload_n 0, 1) := by decide +kernel
theorem dX9_weekEnds_34 : decode cX9_weekEnds 34 = .ok (.iload_n 2, 1) := by decide +kernel
theorem dX9_weekEnds_35 : decode cX9_weekEnds 35 = .ok (.invokevirtual 66, 3) := by decide +kernel
theorem dX9_weekEnds_38 : decode cX9_weekEnds 38 = .ok (.ifCond .eq 7, 3) := by decide +kernel
theorem dX9_weekEnds_41 : decode cX9_weekEnds 41 = .ok (.iconst 0, 1) := by decide +kernel
theorem dX9_weekEnds_42 : decode cX9_weekEnds 42 = .ok (.goto 23, 3) := by decide +kernel
theorem dX9_weekEnds_45 : decode cX9_weekEnds 45 = .ok (.iload_n 3, 1) := by decide +kernel
theorem dX9_weekEnds_46 : decode cX9_weekEnds 46 = .ok (.aload_n 0, 1) := by decide +kernel
theorem dX9_weekEnds_47 : decode cX9_weekEnds 47 = .ok (.getfield 7, 3) := by decide +kernel
theorem dX9_weekEnds_50 : decode cX9_weekEnds 50 = .ok (.iconst 5, 1) := by decide +kernel
theorem dX9_weekEnds_51 : decode cX9_weekEnds 51 = .ok (.iaload, 1) := by decide +kernel
theorem dX9_weekEnds_52 : decode cX9_weekEnds 52 = .ok (.if_icmp .ge 7, 3) := by decide +kernel
theorem dX9_weekEnds_55 : decode cX9_weekEnds 55 = .ok (.iload_n 3, 1) := by decide +kernel
theorem dX9_weekEnds_56 : decode cX9_weekEnds 56 = .ok (.goto 9, 3) := by decide +kernel
theorem dX9_weekEnds_59 : decode cX9_weekEnds 59 = .ok (.aload_n 0, 1) := by decide +kernel
theorem dX9_weekEnds_60 : decode cX9_weekEnds 60 = .ok (.getfield 7, 3) := by decide +kernel
theorem dX9_weekEnds_63 : decode cX9_weekEnds 63 = .ok (.iconst 5, 1) := by decide +kernel
theorem dX9_weekEnds_64 : decode cX9_weekEnds 64 = .ok (.iaload, 1) := by decide +kernel
theorem dX9_weekEnds_65 : decode cX9_weekEnds 65 = .ok (.istore 4, 2) := by decide +kernel
theorem dX9_weekEnds_67 : decode cX9_weekEnds 67 = .ok (.aload_n 0, 1) := by decide +kernel
theorem dX9_weekEnds_68 : decode cX9_weekEnds 68 = .ok (.iload_n 2, 1) := by decide +kernel
theorem dX9_weekEnds_69 : decode cX9_weekEnds 69 = .ok (.iconst 0, 1) := by decide +kernel
theorem dX9_weekEnds_70 : decode cX9_weekEnds 70 = .ok (.iload 4, 2) := by decide +kernel
theorem dX9_weekEnds_72 : decode cX9_weekEnds 72 = .ok (.invokevirtual 59, 3) := by decide +kernel
theorem dX9_weekEnds_75 : decode cX9_weekEnds 75 = .ok (.aload_n 0, 1) := by decide +kernel
theorem dX9_weekEnds_76 : decode cX9_weekEnds 76 = .ok (.iload_n 2, 1) := by decide +kernel
theorem dX9_weekEnds_77 : decode cX9_weekEnds 77 = .ok (.iconst 1, 1) := by decide +kernel
theorem dX9_weekEnds_78 : decode cX9_weekEnds 78 = .ok (.iload 4, 2) := by decide +kernel
theorem dX9_weekEnds_80 : decode cX9_weekEnds 80 = .ok (.invokevirtual 59, 3) := by decide +kernel
theorem dX9_weekEnds_83 : decode cX9_weekEnds 83 = .ok (.iload_n 1, 1) := by decide +kernel
theorem dX9_weekEnds_84 : decode cX9_weekEnds 84 = .ok (.iload 4, 2) := by decide +kernel
theorem dX9_weekEnds_86 : decode cX9_weekEnds 86 = .ok (.iadd, 1) := by decide +kernel
theorem dX9_weekEnds_87 : decode cX9_weekEnds 87 = .ok (.istore_n 1, 1) := by decide +kernel
theorem dX9_weekEnds_88 : decode cX9_weekEnds 88 = .ok (.iinc 2 1, 3) := by decide +kernel
theorem dX9_weekEnds_91 : decode cX9_weekEnds 91 = .ok (.goto (-87), 3) := by decide +kernel
theorem dX9_weekEnds_94 : decode cX9_weekEnds 94 = .ok (.iconst 0, 1) := by decide +kernel
theorem dX9_weekEnds_95 : decode cX9_weekEnds 95 = .ok (.istore_n 2, 1) := by decide +kernel
theorem dX9_weekEnds_96 : decode cX9_weekEnds 96 = .ok (.iload_n 2, 1) := by decide +kernel
theorem dX9_weekEnds_97 : decode cX9_weekEnds 97 = .ok (.aload_n 0, 1) := by decide +kernel
theorem dX9_weekEnds_98 : decode cX9_weekEnds 98 = .ok (.getfield 7, 3) := by decide +kernel
theorem dX9_weekEnds_101 : decode cX9_weekEnds 101 = .ok (.iconst 0, 1) := by decide +kernel
theorem dX9_weekEnds_102 : decode cX9_weekEnds 102 = .ok (.iaload, 1) := by decide +kernel
theorem dX9_weekEnds_103 : decode cX9_weekEnds 103 = .ok (.if_icmp .gt 77, 3) := by decide +kernel
theorem dX9_weekEnds_106 : decode cX9_weekEnds 106 = .ok (.iconst 0, 1) := by decide +kernel
theorem dX9_weekEnds_107 : decode cX9_weekEnds 107 = .ok (.istore_n 3, 1) := by decide +kernel
theorem dX9_weekEnds_108 : decode cX9_weekEnds 108 = .ok (.iload_n 3, 1) := by decide +kernel
theorem dX9_weekEnds_109 : decode cX9_weekEnds 109 = .ok (.aload_n 0, 1) := by decide +kernel
theorem dX9_weekEnds_110 : decode cX9_weekEnds 110 = .ok (.getfield 7, 3) := by decide +kernel
theorem dX9_weekEnds_113 : decode cX9_weekEnds 113 = .ok (.iconst 3, 1) := by decide +kernel
theorem dX9_weekEnds_114 : decode cX9_weekEnds 114 = .ok (.iaload, 1) := by decide +kernel
theorem dX9_weekEnds_115 : decode cX9_weekEnds 115 = .ok (.if_icmp .ge 59, 3) := by decide +kernel
theorem dX9_weekEnds_118 : decode cX9_weekEnds 118 = .ok (.aload_n 0, 1) := by decide +kernel
theorem dX9_weekEnds_119 : decode cX9_weekEnds 119 = .ok (.iload_n 3, 1) := by decide +kernel
theorem dX9_weekEnds_120 : decode cX9_weekEnds 120 = .ok (.iconst 4, 1) := by decide +kernel
theorem dX9_weekEnds_121 : decode cX9_weekEnds 121 = .ok (.invokevirtual 33, 3) := by decide +kernel
theorem dX9_weekEnds_124 : decode cX9_weekEnds 124 = .ok (.iload_n 2, 1) := by decide +kernel
theorem dX9_weekEnds_125 : decode cX9_weekEnds 125 = .ok (.if_icmp .ne 43, 3) := by decide +kernel
theorem dX9_weekEnds_128 : decode cX9_weekEnds 128 = .ok (.aload_n 0, 1) := by decide +kernel
theorem dX9_weekEnds_129 : decode cX9_weekEnds 129 = .ok (.iload_n 3, 1) := by decide +kernel
theorem dX9_weekEnds_130 : decode cX9_weekEnds 130 = .ok (.iconst 3, 1) := by decide +kernel
theorem dX9_weekEnds_131 : decode cX9_weekEnds 131 = .ok (.invokevirtual 33, 3) := by decide +kernel
theorem dX9_weekEnds_134 : decode cX9_weekEnds 134 = .ok (.istore 4, 2) := by decide +kernel
theorem dX9_weekEnds_136 : decode cX9_weekEnds 136 = .ok (.aload_n 0, 1) := by decide +kernel
theorem dX9_weekEnds_137 : decode cX9_weekEnds 137 = .ok (.aload_n 0, 1) := by decide +kernel
theorem dX9_weekEnds_138 : decode cX9_weekEnds 138 = .ok (.iload_n 3, 1) := by decide +kernel
theorem dX9_weekEnds_139 : decode cX9_weekEnds 139 = .ok (.iconst 1, 1) := by decide +kernel
theorem dX9_weekEnds_140 : decode cX9_weekEnds 140 = .ok (.invokevirtual 33, 3) := by decide +kernel
theorem dX9_weekEnds_143 : decode cX9_weekEnds 143 = .ok (.iconst 0, 1) := by decide +kernel
theorem dX9_weekEnds_144 : decode cX9_weekEnds 144 = .ok (.invokevirtual 63, 3) := by decide +kernel
theorem dX9_weekEnds_147 : decode cX9_weekEnds 147 = .ok (.istore 5, 2) := by decide +kernel
theorem dX9_weekEnds_149 : decode cX9_weekEnds 149 = .ok (.aload_n 0, 1) := by decide +kernel
theorem dX9_weekEnds_150 : decode cX9_weekEnds 150 = .ok (.iload_n 3, 1) := by decide +kernel
theorem dX9_weekEnds_151 : decode cX9_weekEnds 151 = .ok (.iload 4, 2) := by decide +kernel
theorem dX9_weekEnds_153 : decode cX9_weekEnds 153 = .ok (.iload 5, 2) := by decide +kernel
theorem dX9_weekEnds_155 : decode cX9_weekEnds 155 = .ok (.if_icmp .ge 8, 3) := by decide +kernel
theorem dX9_weekEnds_158 : decode cX9_weekEnds 158 = .ok (.iload 4, 2) := by decide +kernel
theorem dX9_weekEnds_160 : decode cX9_weekEnds 160 = .ok (.goto 5, 3) := by decide +kernel
theorem dX9_weekEnds_163 : decode cX9_weekEnds 163 = .ok (.iload 5, 2) := by decide +kernel
theorem dX9_weekEnds_165 : decode cX9_weekEnds 165 = .ok (.invokevirtual 70, 3) := by decide +kernel
theorem dX9_weekEnds_168 : decode cX9_weekEnds 168 = .ok (.iinc 3 1, 3) := by decide +kernel
theorem dX9_weekEnds_171 : decode cX9_weekEnds 171 = .ok (.goto (-63), 3) := by decide +kernel
theorem dX9_weekEnds_174 : decode cX9_weekEnds 174 = .ok (.iinc 2 1, 3) := by decide +kernel
theorem dX9_weekEnds_177 : decode cX9_weekEnds 177 = .ok (.goto (-81), 3) := by decide +kernel
theorem dX9_weekEnds_180 : decode cX9_weekEnds 180 = .ok (.aload_n 0, 1) := by decide +kernel
theorem dX9_weekEnds_181 : decode cX9_weekEnds 181 = .ok (.getfield 7, 3) := by decide +kernel
theorem dX9_weekEnds_184 : decode cX9_weekEnds 184 = .ok (.iconst 0, 1) := by decide +kernel
theorem dX9_weekEnds_185 : decode cX9_weekEnds 185 = .ok (.dup2, 1) := by decide +kernel
theorem dX9_weekEnds_186 : decode cX9_weekEnds 186 = .ok (.iaload, 1) := by decide +kernel
theorem dX9_weekEnds_187 : decode cX9_weekEnds 187 = .ok (.iconst 1, 1) := by decide +kernel
theorem dX9_weekEnds_188 : decode cX9_weekEnds 188 = .ok (.iadd, 1) := by decide +kernel
theorem dX9_weekEnds_189 : decode cX9_weekEnds 189 = .ok (.iastore, 1) := by decide +kernel
theorem dX9_weekEnds_190 : decode cX9_weekEnds 190 = .ok (.iload_n 1, 1) := by decide +kernel
theorem dX9_weekEnds_191 : decode cX9_weekEnds 191 = .ok (.ireturn, 1) := by decide +kernel
theorem dX9_endsOne_0 : decode cX9_endsOne 0 = .ok (.aload_n 0, 1) := by decide +kernel
theorem dX9_endsOne_1 : decode cX9_endsOne 1 = .ok (.getfield 7, 3) := by decide +kernel
theorem dX9_endsOne_4 : decode cX9_endsOne 4 = .ok (.iconst 0, 1) := by decide +kernel
theorem dX9_endsOne_5 : decode cX9_endsOne 5 = .ok (.iaload, 1) := by decide +kernel
theorem dX9_endsOne_6 : decode cX9_endsOne 6 = .ok (.bipush 39, 2) := by decide +kernel
theorem dX9_endsOne_8 : decode cX9_endsOne 8 = .ok (.if_icmp .ne 5, 3) := by decide +kernel
theorem dX9_endsOne_11 : decode cX9_endsOne 11 = .ok (.iconst 1, 1) := by decide +kernel
theorem dX9_endsOne_12 : decode cX9_endsOne 12 = .ok (.ireturn, 1) := by decide +kernel
theorem dX9_endsOne_13 : decode cX9_endsOne 13 = .ok (.aload_n 0, 1) := by decide +kernel
theorem dX9_endsOne_14 : decode cX9_endsOne 14 = .ok (.aload_n 0, 1) := by decide +kernel
theorem dX9_endsOne_15 : decode cX9_endsOne 15 = .ok (.invokevirtual 74, 3) := by decide +kernel
theorem dX9_endsOne_18 : decode cX9_endsOne 18 = .ok (.putfield 47, 3) := by decide +kernel
theorem dX9_endsOne_21 : decode cX9_endsOne 21 = .ok (.iconst 0, 1) := by decide +kernel
theorem dX9_endsOne_22 : decode cX9_endsOne 22 = .ok (.ireturn, 1) := by decide +kernel
theorem dX9_asks_0 : decode cX9_asks 0 = .ok (.aload_n 0, 1) := by decide +kernel
theorem dX9_asks_1 : decode cX9_asks 1 = .ok (.iload_n 1, 1) := by decide +kernel
theorem dX9_asks_2 : decode cX9_asks 2 = .ok (.invokevirtual 78, 3) := by decide +kernel
theorem dX9_asks_5 : decode cX9_asks 5 = .ok (.ifCond .ne 5, 3) := by decide +kernel
theorem dX9_asks_8 : decode cX9_asks 8 = .ok (.iconst 1, 1) := by decide +kernel
theorem dX9_asks_9 : decode cX9_asks 9 = .ok (.ireturn, 1) := by decide +kernel
theorem dX9_asks_10 : decode cX9_asks 10 = .ok (.iload_n 2, 1) := by decide +kernel
theorem dX9_asks_11 : decode cX9_asks 11 = .ok (.iconst 1, 1) := by decide +kernel
theorem dX9_asks_12 : decode cX9_asks 12 = .ok (.bipush 9, 2) := by decide +kernel
theorem dX9_asks_14 : decode cX9_asks 14 = .ok (.invokestatic 29, 3) := by decide +kernel
theorem dX9_asks_17 : decode cX9_asks 17 = .ok (.ifCond .ne 5, 3) := by decide +kernel
theorem dX9_asks_20 : decode cX9_asks 20 = .ok (.iconst 2, 1) := by decide +kernel
theorem dX9_asks_21 : decode cX9_asks 21 = .ok (.ireturn, 1) := by decide +kernel
theorem dX9_asks_22 : decode cX9_asks 22 = .ok (.aload_n 0, 1) := by decide +kernel
theorem dX9_asks_23 : decode cX9_asks 23 = .ok (.getfield 7, 3) := by decide +kernel
theorem dX9_asks_26 : decode cX9_asks 26 = .ok (.iconst 2, 1) := by decide +kernel
theorem dX9_asks_27 : decode cX9_asks 27 = .ok (.iaload, 1) := by decide +kernel
theorem dX9_asks_28 : decode cX9_asks 28 = .ok (.bipush 30, 2) := by decide +kernel
theorem dX9_asks_30 : decode cX9_asks 30 = .ok (.if_icmp .ne 5, 3) := by decide +kernel
theorem dX9_asks_33 : decode cX9_asks 33 = .ok (.iconst 3, 1) := by decide +kernel
theorem dX9_asks_34 : decode cX9_asks 34 = .ok (.ireturn, 1) := by decide +kernel
theorem dX9_asks_35 : decode cX9_asks 35 = .ok (.aload_n 0, 1) := by decide +kernel
theorem dX9_asks_36 : decode cX9_asks 36 = .ok (.getfield 7, 3) := by decide +kernel
theorem dX9_asks_39 : decode cX9_asks 39 = .ok (.iconst 2, 1) := by decide +kernel
theorem dX9_asks_40 : decode cX9_asks 40 = .ok (.iaload, 1) := by decide +kernel
theorem dX9_asks_41 : decode cX9_asks 41 = .ok (.istore_n 3, 1) := by decide +kernel
theorem dX9_asks_42 : decode cX9_asks 42 = .ok (.aload_n 0, 1) := by decide +kernel
theorem dX9_asks_43 : decode cX9_asks 43 = .ok (.iload_n 3, 1) := by decide +kernel
theorem dX9_asks_44 : decode cX9_asks 44 = .ok (.iconst 0, 1) := by decide +kernel
theorem dX9_asks_45 : decode cX9_asks 45 = .ok (.iload_n 1, 1) := by decide +kernel
theorem dX9_asks_46 : decode cX9_asks 46 = .ok (.invokevirtual 81, 3) := by decide +kernel
theorem dX9_asks_49 : decode cX9_asks 49 = .ok (.aload_n 0, 1) := by decide +kernel
theorem dX9_asks_50 : decode cX9_asks 50 = .ok (.iload_n 3, 1) := by decide +kernel
theorem dX9_asks_51 : decode cX9_asks 51 = .ok (.iconst 1, 1) := by decide +kernel
theorem dX9_asks_52 : decode cX9_asks 52 = .ok (.iload_n 2, 1) := by decide +kernel
theorem dX9_asks_53 : decode cX9_asks 53 = .ok (.invokevirtual 81, 3) := by decide +kernel
theorem dX9_asks_56 : decode cX9_asks 56 = .ok (.aload_n 0, 1) := by decide +kernel
theorem dX9_asks_57 : decode cX9_asks 57 = .ok (.iload_n 3, 1) := by decide +kernel
theorem dX9_asks_58 : decode cX9_asks 58 = .ok (.iconst 2, 1) := by decide +kernel
theorem dX9_asks_59 : decode cX9_asks 59 = .ok (.iconst 0, 1) := by decide +kernel
theorem dX9_asks_60 : decode cX9_asks 60 = .ok (.invokevirtual 81, 3) := by decide +kernel
theorem dX9_asks_63 : decode cX9_asks 63 = .ok (.aload_n 0, 1) := by decide +kernel
theorem dX9_asks_64 : decode cX9_asks 64 = .ok (.iload_n 3, 1) := by decide +kernel
theorem dX9_asks_65 : decode cX9_asks 65 = .ok (.iconst 3, 1) := by decide +kernel
theorem dX9_asks_66 : decode cX9_asks 66 = .ok (.iconst 0, 1) := by decide +kernel
theorem dX9_asks_67 : decode cX9_asks 67 = .ok (.invokevirtual 81, 3) := by decide +kernel
theorem dX9_asks_70 : decode cX9_asks 70 = .ok (.aload_n 0, 1) := by decide +kernel
theorem dX9_asks_71 : decode cX9_asks 71 = .ok (.iload_n 3, 1) := by decide +kernel
theorem dX9_asks_72 : decode cX9_asks 72 = .ok (.iconst 4, 1) := by decide +kernel
theorem dX9_asks_73 : decode cX9_asks 73 = .ok (.aload_n 0, 1) := by decide +kernel
theorem dX9_asks_74 : decode cX9_asks 74 = .ok (.getfield 7, 3) := by decide +kernel
theorem dX9_asks_77 : decode cX9_asks 77 = .ok (.iconst 0, 1) := by decide +kernel
theorem dX9_asks_78 : decode cX9_asks 78 = .ok (.iaload, 1) := by decide +kernel
theorem dX9_asks_79 : decode cX9_asks 79 = .ok (.invokevirtual 81, 3) := by decide +kernel
theorem dX9_asks_82 : decode cX9_asks 82 = .ok (.aload_n 0, 1) := by decide +kernel
theorem dX9_asks_83 : decode cX9_asks 83 = .ok (.iload_n 3, 1) := by decide +kernel
theorem dX9_asks_84 : decode cX9_asks 84 = .ok (.iconst 5, 1) := by decide +kernel
theorem dX9_asks_85 : decode cX9_asks 85 = .ok (.iconst (-1), 1) := by decide +kernel
theorem dX9_asks_86 : decode cX9_asks 86 = .ok (.invokevirtual 81, 3) := by decide +kernel
theorem dX9_asks_89 : decode cX9_asks 89 = .ok (.aload_n 0, 1) := by decide +kernel
theorem dX9_asks_90 : decode cX9_asks 90 = .ok (.iload_n 3, 1) := by decide +kernel
theorem dX9_asks_91 : decode cX9_asks 91 = .ok (.bipush 6, 2) := by decide +kernel
theorem dX9_asks_93 : decode cX9_asks 93 = .ok (.iconst 0, 1) := by decide +kernel
theorem dX9_asks_94 : decode cX9_asks 94 = .ok (.invokevirtual 81, 3) := by decide +kernel
theorem dX9_asks_97 : decode cX9_asks 97 = .ok (.aload_n 0, 1) := by decide +kernel
theorem dX9_asks_98 : decode cX9_asks 98 = .ok (.getfield 7, 3) := by decide +kernel
theorem dX9_asks_101 : decode cX9_asks 101 = .ok (.iconst 2, 1) := by decide +kernel
theorem dX9_asks_102 : decode cX9_asks 102 = .ok (.dup2, 1) := by decide +kernel
theorem dX9_asks_103 : decode cX9_asks 103 = .ok (.iaload, 1) := by decide +kernel
theorem dX9_asks_104 : decode cX9_asks 104 = .ok (.iconst 1, 1) := by decide +kernel
theorem dX9_asks_105 : decode cX9_asks 105 = .ok (.iadd, 1) := by decide +kernel
theorem dX9_asks_106 : decode cX9_asks 106 = .ok (.iastore, 1) := by decide +kernel
theorem dX9_asks_107 : decode cX9_asks 107 = .ok (.aload_n 0, 1) := by decide +kernel
theorem dX9_asks_108 : decode cX9_asks 108 = .ok (.iload_n 3, 1) := by decide +kernel
theorem dX9_asks_109 : decode cX9_asks 109 = .ok (.putfield 47, 3) := by decide +kernel
theorem dX9_asks_112 : decode cX9_asks 112 = .ok (.iconst 0, 1) := by decide +kernel
theorem dX9_asks_113 : decode cX9_asks 113 = .ok (.ireturn, 1) := by decide +kernel
theorem dX9_price_0 : decode cX9_price 0 = .ok (.iload_n 1, 1) := by decide +kernel
theorem dX9_price_1 : decode cX9_price 1 = .ok (.aload_n 0, 1) := by decide +kernel
theorem dX9_price_2 : decode cX9_price 2 = .ok (.getfield 7, 3) := by decide +kernel
theorem dX9_price_5 : decode cX9_price 5 = .ok (.iconst 4, 1) := by decide +kernel
theorem dX9_price_6 : decode cX9_price 6 = .ok (.iaload, 1) := by decide +kernel
theorem dX9_price_7 : decode cX9_price 7 = .ok (.imul, 1) := by decide +kernel
theorem dX9_price_8 : decode cX9_price 8 = .ok (.ireturn, 1) := by decide +kernel
theorem dX9_why_0 : decode cX9_why 0 = .ok (.aload_n 0, 1) := by decide +kernel
theorem dX9_why_1 : decode cX9_why 1 = .ok (.iload_n 1, 1) := by decide +kernel
theorem dX9_why_2 : decode cX9_why 2 = .ok (.iconst 2, 1) := by decide +kernel
theorem dX9_why_3 : decode cX9_why 3 = .ok (.invokevirtual 56, 3) := by decide +kernel
theorem dX9_why_6 : decode cX9_why 6 = .ok (.ifCond .eq 5, 3) := by decide +kernel
theorem dX9_why_9 : decode cX9_why 9 = .ok (.iconst 1, 1) := by decide +kernel
theorem dX9_why_10 : decode cX9_why 10 = .ok (.ireturn, 1) := by decide +kernel
theorem dX9_why_11 : decode cX9_why 11 = .ok (.aload_n 0, 1) := by decide +kernel
theorem dX9_why_12 : decode cX9_why 12 = .ok (.iload_n 1, 1) := by decide +kernel
theorem dX9_why_13 : decode cX9_why 13 = .ok (.iconst 0, 1) := by decide +kernel
theorem dX9_why_14 : decode cX9_why 14 = .ok (.invokevirtual 56, 3) := by decide +kernel
theorem dX9_why_17 : decode cX9_why 17 = .ok (.istore_n 2, 1) := by decide +kernel
theorem dX9_why_18 : decode cX9_why 18 = .ok (.aload_n 0, 1) := by decide +kernel
theorem dX9_why_19 : decode cX9_why 19 = .ok (.iload_n 2, 1) := by decide +kernel
theorem dX9_why_20 : decode cX9_why 20 = .ok (.invokevirtual 84, 3) := by decide +kernel
theorem dX9_why_23 : decode cX9_why 23 = .ok (.ifCond .eq 7, 3) := by decide +kernel
theorem dX9_why_26 : decode cX9_why 26 = .ok (.iconst 2, 1) := by decide +kernel
theorem dX9_why_27 : decode cX9_why 27 = .ok (.goto 27, 3) := by decide +kernel
theorem dX9_why_30 : decode cX9_why 30 = .ok (.aload_n 0, 1) := by decide +kernel
theorem dX9_why_31 : decode cX9_why 31 = .ok (.iload_n 2, 1) := by decide +kernel
theorem dX9_why_32 : decode cX9_why 32 = .ok (.iconst 0, 1) := by decide +kernel
theorem dX9_why_33 : decode cX9_why 33 = .ok (.invokevirtual 63, 3) := by decide +kernel
theorem dX9_why_36 : decode cX9_why 36 = .ok (.aload_n 0, 1) := by decide +kernel
theorem dX9_why_37 : decode cX9_why 37 = .ok (.aload_n 0, 1) := by decide +kernel
theorem dX9_why_38 : decode cX9_why 38 = .ok (.iload_n 1, 1) := by decide +kernel
theorem dX9_why_39 : decode cX9_why 39 = .ok (.iconst 1, 1) := by decide +kernel
theorem dX9_why_40 : decode cX9_why 40 = .ok (.invokevirtual 56, 3) := by decide +kernel
theorem dX9_why_43 : decode cX9_why 43 = .ok (.invokevirtual 87, 3) := by decide +kernel
theorem dX9_why_46 : decode cX9_why 46 = .ok (.if_icmp .ge 7, 3) := by decide +kernel
theorem dX9_why_49 : decode cX9_why 49 = .ok (.iconst 3, 1) := by decide +kernel
theorem dX9_why_50 : decode cX9_why 50 = .ok (.goto 4, 3) := by decide +kernel
theorem dX9_why_53 : decode cX9_why 53 = .ok (.iconst 0, 1) := by decide +kernel
theorem dX9_why_54 : decode cX9_why 54 = .ok (.ireturn, 1) := by decide +kernel
theorem dX9_exempts_0 : decode cX9_exempts 0 = .ok (.aload_n 0, 1) := by decide +kernel
theorem dX9_exempts_1 : decode cX9_exempts 1 = .ok (.iload_n 1, 1) := by decide +kernel
theorem dX9_exempts_2 : decode cX9_exempts 2 = .ok (.invokevirtual 90, 3) := by decide +kernel
theorem dX9_exempts_5 : decode cX9_exempts 5 = .ok (.ifCond .ne 5, 3) := by decide +kernel
theorem dX9_exempts_8 : decode cX9_exempts 8 = .ok (.iconst 1, 1) := by decide +kernel
theorem dX9_exempts_9 : decode cX9_exempts 9 = .ok (.ireturn, 1) := by decide +kernel
theorem dX9_exempts_10 : decode cX9_exempts 10 = .ok (.aload_n 0, 1) := by decide +kernel
theorem dX9_exempts_11 : decode cX9_exempts 11 = .ok (.iload_n 1, 1) := by decide +kernel
theorem dX9_exempts_12 : decode cX9_exempts 12 = .ok (.invokevirtual 93, 3) := by decide +kernel
theorem dX9_exempts_15 : decode cX9_exempts 15 = .ok (.ifCond .eq 5, 3) := by decide +kernel
theorem dX9_exempts_18 : decode cX9_exempts 18 = .ok (.iconst 2, 1) := by decide +kernel
theorem dX9_exempts_19 : decode cX9_exempts 19 = .ok (.ireturn, 1) := by decide +kernel
theorem dX9_exempts_20 : decode cX9_exempts 20 = .ok (.aload_n 0, 1) := by decide +kernel
theorem dX9_exempts_21 : decode cX9_exempts 21 = .ok (.aload_n 0, 1) := by decide +kernel
theorem dX9_exempts_22 : decode cX9_exempts 22 = .ok (.aload_n 0, 1) := by decide +kernel
theorem dX9_exempts_23 : decode cX9_exempts 23 = .ok (.iload_n 1, 1) := by decide +kernel
theorem dX9_exempts_24 : decode cX9_exempts 24 = .ok (.iconst 1, 1) := by decide +kernel
theorem dX9_exempts_25 : decode cX9_exempts 25 = .ok (.invokevirtual 56, 3) := by decide +kernel
theorem dX9_exempts_28 : decode cX9_exempts 28 = .ok (.invokevirtual 87, 3) := by decide +kernel
theorem dX9_exempts_31 : decode cX9_exempts 31 = .ok (.putfield 47, 3) := by decide +kernel
theorem dX9_exempts_34 : decode cX9_exempts 34 = .ok (.aload_n 0, 1) := by decide +kernel
theorem dX9_exempts_35 : decode cX9_exempts 35 = .ok (.aload_n 0, 1) := by decide +kernel
theorem dX9_exempts_36 : decode cX9_exempts 36 = .ok (.iload_n 1, 1) := by decide +kernel
theorem dX9_exempts_37 : decode cX9_exempts 37 = .ok (.iconst 0, 1) := by decide +kernel
theorem dX9_exempts_38 : decode cX9_exempts 38 = .ok (.invokevirtual 56, 3) := by decide +kernel
theorem dX9_exempts_41 : decode cX9_exempts 41 = .ok (.iconst 0, 1) := by decide +kernel
theorem dX9_exempts_42 : decode cX9_exempts 42 = .ok (.aload_n 0, 1) := by decide +kernel
theorem dX9_exempts_43 : decode cX9_exempts 43 = .ok (.getfield 47, 3) := by decide +kernel
theorem dX9_exempts_46 : decode cX9_exempts 46 = .ok (.ineg, 1) := by decide +kernel
theorem dX9_exempts_47 : decode cX9_exempts 47 = .ok (.invokevirtual 59, 3) := by decide +kernel
theorem dX9_exempts_50 : decode cX9_exempts 50 = .ok (.aload_n 0, 1) := by decide +kernel
theorem dX9_exempts_51 : decode cX9_exempts 51 = .ok (.iload_n 1, 1) := by decide +kernel
theorem dX9_exempts_52 : decode cX9_exempts 52 = .ok (.iconst 3, 1) := by decide +kernel
theorem dX9_exempts_53 : decode cX9_exempts 53 = .ok (.aload_n 0, 1) := by decide +kernel
theorem dX9_exempts_54 : decode cX9_exempts 54 = .ok (.getfield 47, 3) := by decide +kernel
theorem dX9_exempts_57 : decode cX9_exempts 57 = .ok (.invokevirtual 81, 3) := by decide +kernel
theorem dX9_exempts_60 : decode cX9_exempts 60 = .ok (.aload_n 0, 1) := by decide +kernel
theorem dX9_exempts_61 : decode cX9_exempts 61 = .ok (.iload_n 1, 1) := by decide +kernel
theorem dX9_exempts_62 : decode cX9_exempts 62 = .ok (.iconst 2, 1) := by decide +kernel
theorem dX9_exempts_63 : decode cX9_exempts 63 = .ok (.iconst 1, 1) := by decide +kernel
theorem dX9_exempts_64 : decode cX9_exempts 64 = .ok (.invokevirtual 81, 3) := by decide +kernel
theorem dX9_exempts_67 : decode cX9_exempts 67 = .ok (.iconst 0, 1) := by decide +kernel
theorem dX9_exempts_68 : decode cX9_exempts 68 = .ok (.ireturn, 1) := by decide +kernel
theorem dX9_makes_0 : decode cX9_makes 0 = .ok (.aload_n 0, 1) := by decide +kernel
theorem dX9_makes_1 : decode cX9_makes 1 = .ok (.iload_n 1, 1) := by decide +kernel
theorem dX9_makes_2 : decode cX9_makes 2 = .ok (.invokevirtual 90, 3) := by decide +kernel
theorem dX9_makes_5 : decode cX9_makes 5 = .ok (.ifCond .ne 5, 3) := by decide +kernel
theorem dX9_makes_8 : decode cX9_makes 8 = .ok (.iconst 1, 1) := by decide +kernel
theorem dX9_makes_9 : decode cX9_makes 9 = .ok (.ireturn, 1) := by decide +kernel
theorem dX9_makes_10 : decode cX9_makes 10 = .ok (.aload_n 0, 1) := by decide +kernel
theorem dX9_makes_11 : decode cX9_makes 11 = .ok (.iload_n 1, 1) := by decide +kernel
theorem dX9_makes_12 : decode cX9_makes 12 = .ok (.iconst 2, 1) := by decide +kernel
theorem dX9_makes_13 : decode cX9_makes 13 = .ok (.invokevirtual 56, 3) := by decide +kernel
theorem dX9_makes_16 : decode cX9_makes 16 = .ok (.istore_n 3, 1) := by decide +kernel
theorem dX9_makes_17 : decode cX9_makes 17 = .ok (.iload_n 3, 1) := by decide +kernel
theorem dX9_makes_18 : decode cX9_makes 18 = .ok (.iconst 1, 1) := by decide +kernel
theorem dX9_makes_19 : decode cX9_makes 19 = .ok (.if_icmp .gt 14, 3) := by decide +kernel
theorem dX9_makes_22 : decode cX9_makes 22 = .ok (.iload_n 3, 1) := by decide +kernel
theorem dX9_makes_23 : decode cX9_makes 23 = .ok (.ifCond .ne 12, 3) := by decide +kernel
theorem dX9_makes_26 : decode cX9_makes 26 = .ok (.aload_n 0, 1) := by decide +kernel
theorem dX9_makes_27 : decode cX9_makes 27 = .ok (.invokevirtual 96, 3) := by decide +kernel
theorem dX9_makes_30 : decode cX9_makes 30 = .ok (.ifCond .eq 5, 3) := by decide +kernel
theorem dX9_makes_33 : decode cX9_makes 33 = .ok (.iconst 2, 1) := by decide +kernel
theorem dX9_makes_34 : decode cX9_makes 34 = .ok (.ireturn, 1) := by decide +kernel
theorem dX9_makes_35 : decode cX9_makes 35 = .ok (.aload_n 0, 1) := by decide +kernel
theorem dX9_makes_36 : decode cX9_makes 36 = .ok (.iload_n 1, 1) := by decide +kernel
theorem dX9_makes_37 : decode cX9_makes 37 = .ok (.iconst 0, 1) := by decide +kernel
theorem dX9_makes_38 : decode cX9_makes 38 = .ok (.invokevirtual 56, 3) := by decide +kernel
theorem dX9_makes_41 : decode cX9_makes 41 = .ok (.istore 4, 2) := by decide +kernel
theorem dX9_makes_43 : decode cX9_makes 43 = .ok (.aload_n 0, 1) := by decide +kernel
theorem dX9_makes_44 : decode cX9_makes 44 = .ok (.iload_n 1, 1) := by decide +kernel
theorem dX9_makes_45 : decode cX9_makes 45 = .ok (.iconst 3, 1) := by decide +kernel
theorem dX9_makes_46 : decode cX9_makes 46 = .ok (.invokevirtual 56, 3) := by decide +kernel
theorem dX9_makes_49 : decode cX9_makes 49 = .ok (.istore 5, 2) := by decide +kernel
theorem dX9_makes_51 : decode cX9_makes 51 = .ok (.aload_n 0, 1) := by decide +kernel
theorem dX9_makes_52 : decode cX9_makes 52 = .ok (.iconst 0, 1) := by decide +kernel
theorem dX9_makes_53 : decode cX9_makes 53 = .ok (.putfield 47, 3) := by decide +kernel
theorem dX9_makes_56 : decode cX9_makes 56 = .ok (.iload_n 2, 1) := by decide +kernel
theorem dX9_makes_57 : decode cX9_makes 57 = .ok (.ifCond .eq 78, 3) := by decide +kernel
theorem dX9_makes_60 : decode cX9_makes 60 = .ok (.aload_n 0, 1) := by decide +kernel
theorem dX9_makes_61 : decode cX9_makes 61 = .ok (.getfield 7, 3) := by decide +kernel
theorem dX9_makes_64 : decode cX9_makes 64 = .ok (.bipush 6, 2) := by decide +kernel
theorem dX9_makes_66 : decode cX9_makes 66 = .ok (.iaload, 1) := by decide +kernel
theorem dX9_makes_67 : decode cX9_makes 67 = .ok (.aload_n 0, 1) := by decide +kernel
theorem dX9_makes_68 : decode cX9_makes 68 = .ok (.iload_n 1, 1) := by decide +kernel
theorem dX9_makes_69 : decode cX9_makes 69 = .ok (.iconst 1, 1) := by decide +kernel
theorem dX9_makes_70 : decode cX9_makes 70 = .ok (.invokevirtual 56, 3) := by decide +kernel
theorem dX9_makes_73 : decode cX9_makes 73 = .ok (.imul, 1) := by decide +kernel
theorem dX9_makes_74 : decode cX9_makes 74 = .ok (.istore 6, 2) := by decide +kernel
theorem dX9_makes_76 : decode cX9_makes 76 = .ok (.iload 6, 2) := by decide +kernel
theorem dX9_makes_78 : decode cX9_makes 78 = .ok (.aload_n 0, 1) := by decide +kernel
theorem dX9_makes_79 : decode cX9_makes 79 = .ok (.iload 4, 2) := by decide +kernel
theorem dX9_makes_81 : decode cX9_makes 81 = .ok (.iconst 0, 1) := by decide +kernel
theorem dX9_makes_82 : decode cX9_makes 82 = .ok (.invokevirtual 63, 3) := by decide +kernel
theorem dX9_makes_85 : decode cX9_makes 85 = .ok (.if_icmp .ge 8, 3) := by decide +kernel
theorem dX9_makes_88 : decode cX9_makes 88 = .ok (.iload 6, 2) := by decide +kernel
theorem dX9_makes_90 : decode cX9_makes 90 = .ok (.goto 10, 3) := by decide +kernel
theorem dX9_makes_93 : decode cX9_makes 93 = .ok (.aload_n 0, 1) := by decide +kernel
theorem dX9_makes_94 : decode cX9_makes 94 = .ok (.iload 4, 2) := by decide +kernel
theorem dX9_makes_96 : decode cX9_makes 96 = .ok (.iconst 0, 1) := by decide +kernel
theorem dX9_makes_97 : decode cX9_makes 97 = .ok (.invokevirtual 63, 3) := by decide +kernel
theorem dX9_makes_100 : decode cX9_makes 100 = .ok (.istore 6, 2) := by decide +kernel
theorem dX9_makes_102 : decode cX9_makes 102 = .ok (.aload_n 0, 1) := by decide +kernel
theorem dX9_makes_103 : decode cX9_makes 103 = .ok (.iload 4, 2) := by decide +kernel
theorem dX9_makes_105 : decode cX9_makes 105 = .ok (.iconst 0, 1) := by decide +kernel
theorem dX9_makes_106 : decode cX9_makes 106 = .ok (.iload 6, 2) := by decide +kernel
theorem dX9_makes_108 : decode cX9_makes 108 = .ok (.ineg, 1) := by decide +kernel
theorem dX9_makes_109 : decode cX9_makes 109 = .ok (.invokevirtual 59, 3) := by decide +kernel
theorem dX9_makes_112 : decode cX9_makes 112 = .ok (.aload_n 0, 1) := by decide +kernel
theorem dX9_makes_113 : decode cX9_makes 113 = .ok (.iload 5, 2) := by decide +kernel
theorem dX9_makes_115 : decode cX9_makes 115 = .ok (.iload 6, 2) := by decide +kernel
theorem dX9_makes_117 : decode cX9_makes 117 = .ok (.iadd, 1) := by decide +kernel
theorem dX9_makes_118 : decode cX9_makes 118 = .ok (.putfield 47, 3) := by decide +kernel
theorem dX9_makes_121 : decode cX9_makes 121 = .ok (.aload_n 0, 1) := by decide +kernel
theorem dX9_makes_122 : decode cX9_makes 122 = .ok (.iload 4, 2) := by decide +kernel
theorem dX9_makes_124 : decode cX9_makes 124 = .ok (.iconst 2, 1) := by decide +kernel
theorem dX9_makes_125 : decode cX9_makes 125 = .ok (.aload_n 0, 1) := by decide +kernel
theorem dX9_makes_126 : decode cX9_makes 126 = .ok (.getfield 47, 3) := by decide +kernel
theorem dX9_makes_129 : decode cX9_makes 129 = .ok (.invokevirtual 59, 3) := by decide +kernel
theorem dX9_makes_132 : decode cX9_makes 132 = .ok (.goto 12, 3) := by decide +kernel
theorem dX9_makes_135 : decode cX9_makes 135 = .ok (.aload_n 0, 1) := by decide +kernel
theorem dX9_makes_136 : decode cX9_makes 136 = .ok (.iload 4, 2) := by decide +kernel
theorem dX9_makes_138 : decode cX9_makes 138 = .ok (.iconst 0, 1) := by decide +kernel
theorem dX9_makes_139 : decode cX9_makes 139 = .ok (.iload 5, 2) := by decide +kernel
theorem dX9_makes_141 : decode cX9_makes 141 = .ok (.invokevirtual 59, 3) := by decide +kernel
theorem dX9_makes_144 : decode cX9_makes 144 = .ok (.aload_n 0, 1) := by decide +kernel
theorem dX9_makes_145 : decode cX9_makes 145 = .ok (.iload_n 1, 1) := by decide +kernel
theorem dX9_makes_146 : decode cX9_makes 146 = .ok (.iconst 2, 1) := by decide +kernel
theorem dX9_makes_147 : decode cX9_makes 147 = .ok (.iload_n 2, 1) := by decide +kernel
theorem dX9_makes_148 : decode cX9_makes 148 = .ok (.ifCond .eq 7, 3) := by decide +kernel
theorem dX9_makes_151 : decode cX9_makes 151 = .ok (.iconst 3, 1) := by decide +kernel
theorem dX9_makes_152 : decode cX9_makes 152 = .ok (.goto 4, 3) := by decide +kernel
theorem dX9_makes_155 : decode cX9_makes 155 = .ok (.iconst 2, 1) := by decide +kernel
theorem dX9_makes_156 : decode cX9_makes 156 = .ok (.invokevirtual 81, 3) := by decide +kernel
theorem dX9_makes_159 : decode cX9_makes 159 = .ok (.aload_n 0, 1) := by decide +kernel
theorem dX9_makes_160 : decode cX9_makes 160 = .ok (.iload_n 1, 1) := by decide +kernel
theorem dX9_makes_161 : decode cX9_makes 161 = .ok (.iconst 3, 1) := by decide +kernel
theorem dX9_makes_162 : decode cX9_makes 162 = .ok (.iconst 0, 1) := by decide +kernel
theorem dX9_makes_163 : decode cX9_makes 163 = .ok (.invokevirtual 81, 3) := by decide +kernel
theorem dX9_makes_166 : decode cX9_makes 166 = .ok (.aload_n 0, 1) := by decide +kernel
theorem dX9_makes_167 : decode cX9_makes 167 = .ok (.iload_n 1, 1) := by decide +kernel
theorem dX9_makes_168 : decode cX9_makes 168 = .ok (.iconst 5, 1) := by decide +kernel
theorem dX9_makes_169 : decode cX9_makes 169 = .ok (.aload_n 0, 1) := by decide +kernel
theorem dX9_makes_170 : decode cX9_makes 170 = .ok (.getfield 7, 3) := by decide +kernel
theorem dX9_makes_173 : decode cX9_makes 173 = .ok (.iconst 0, 1) := by decide +kernel
theorem dX9_makes_174 : decode cX9_makes 174 = .ok (.iaload, 1) := by decide +kernel
theorem dX9_makes_175 : decode cX9_makes 175 = .ok (.invokevirtual 81, 3) := by decide +kernel
theorem dX9_makes_178 : decode cX9_makes 178 = .ok (.aload_n 0, 1) := by decide +kernel
theorem dX9_makes_179 : decode cX9_makes 179 = .ok (.iload_n 1, 1) := by decide +kernel
theorem dX9_makes_180 : decode cX9_makes 180 = .ok (.bipush 6, 2) := by decide +kernel
theorem dX9_makes_182 : decode cX9_makes 182 = .ok (.iload_n 3, 1) := by decide +kernel
theorem dX9_makes_183 : decode cX9_makes 183 = .ok (.invokevirtual 81, 3) := by decide +kernel
theorem dX9_makes_186 : decode cX9_makes 186 = .ok (.iconst 0, 1) := by decide +kernel
theorem dX9_makes_187 : decode cX9_makes 187 = .ok (.ireturn, 1) := by decide +kernel
theorem dX9_givesUp_0 : decode cX9_givesUp 0 = .ok (.aload_n 0, 1) := by decide +kernel
theorem dX9_givesUp_1 : decode cX9_givesUp 1 = .ok (.iload_n 1, 1) := by decide +kernel
theorem dX9_givesUp_2 : decode cX9_givesUp 2 = .ok (.invokevirtual 90, 3) := by decide +kernel
theorem dX9_givesUp_5 : decode cX9_givesUp 5 = .ok (.ifCond .ne 5, 3) := by decide +kernel
theorem dX9_givesUp_8 : decode cX9_givesUp 8 = .ok (.iconst 1, 1) := by decide +kernel
theorem dX9_givesUp_9 : decode cX9_givesUp 9 = .ok (.ireturn, 1) := by decide +kernel
theorem dX9_givesUp_10 : decode cX9_givesUp 10 = .ok (.aload_n 0, 1) := by decide +kernel
theorem dX9_givesUp_11 : decode cX9_givesUp 11 = .ok (.iload_n 1, 1) := by decide +kernel
theorem dX9_givesUp_12 : decode cX9_givesUp 12 = .ok (.iconst 2, 1) := by decide +kernel
theorem dX9_givesUp_13 : decode cX9_givesUp 13 = .ok (.invokevirtual 56, 3) := by decide +kernel
theorem dX9_givesUp_16 : decode cX9_givesUp 16 = .ok (.iconst 1, 1) := by decide +kernel
theorem dX9_givesUp_17 : decode cX9_givesUp 17 = .ok (.if_icmp .le 5, 3) := by decide +kernel
theorem dX9_givesUp_20 : decode cX9_givesUp 20 = .ok (.iconst 2, 1) := by decide +kernel
theorem dX9_givesUp_21 : decode cX9_givesUp 21 = .ok (.ireturn, 1) := by decide +kernel
theorem dX9_givesUp_22 : decode cX9_givesUp 22 = .ok (.aload_n 0, 1) := by decide +kernel
theorem dX9_givesUp_23 : decode cX9_givesUp 23 = .ok (.aload_n 0, 1) := by decide +kernel
theorem dX9_givesUp_24 : decode cX9_givesUp 24 = .ok (.iload_n 1, 1) := by decide +kernel
theorem dX9_givesUp_25 : decode cX9_givesUp 25 = .ok (.iconst 3, 1) := by decide +kernel
theorem dX9_givesUp_26 : decode cX9_givesUp 26 = .ok (.invokevirtual 56, 3) := by decide +kernel
theorem dX9_givesUp_29 : decode cX9_givesUp 29 = .ok (.putfield 47, 3) := by decide +kernel
theorem dX9_givesUp_32 : decode cX9_givesUp 32 = .ok (.aload_n 0, 1) := by decide +kernel
theorem dX9_givesUp_33 : decode cX9_givesUp 33 = .ok (.aload_n 0, 1) := by decide +kernel
theorem dX9_givesUp_34 : decode cX9_givesUp 34 = .ok (.iload_n 1, 1) := by decide +kernel
theorem dX9_givesUp_35 : decode cX9_givesUp 35 = .ok (.iconst 0, 1) := by decide +kernel
theorem dX9_givesUp_36 : decode cX9_givesUp 36 = .ok (.invokevirtual 56, 3) := by decide +kernel
theorem dX9_givesUp_39 : decode cX9_givesUp 39 = .ok (.iconst 0, 1) := by decide +kernel
theorem dX9_givesUp_40 : decode cX9_givesUp 40 = .ok (.aload_n 0, 1) := by decide +kernel
theorem dX9_givesUp_41 : decode cX9_givesUp 41 = .ok (.getfield 47, 3) := by decide +kernel
theorem dX9_givesUp_44 : decode cX9_givesUp 44 = .ok (.invokevirtual 59, 3) := by decide +kernel
theorem dX9_givesUp_47 : decode cX9_givesUp 47 = .ok (.aload_n 0, 1) := by decide +kernel
theorem dX9_givesUp_48 : decode cX9_givesUp 48 = .ok (.iload_n 1, 1) := by decide +kernel
theorem dX9_givesUp_49 : decode cX9_givesUp 49 = .ok (.iconst 3, 1) := by decide +kernel
theorem dX9_givesUp_50 : decode cX9_givesUp 50 = .ok (.iconst 0, 1) := by decide +kernel
theorem dX9_givesUp_51 : decode cX9_givesUp 51 = .ok (.invokevirtual 81, 3) := by decide +kernel
theorem dX9_givesUp_54 : decode cX9_givesUp 54 = .ok (.aload_n 0, 1) := by decide +kernel
theorem dX9_givesUp_55 : decode cX9_givesUp 55 = .ok (.iload_n 1, 1) := by decide +kernel
theorem dX9_givesUp_56 : decode cX9_givesUp 56 = .ok (.iconst 2, 1) := by decide +kernel
theorem dX9_givesUp_57 : decode cX9_givesUp 57 = .ok (.iconst 4, 1) := by decide +kernel
theorem dX9_givesUp_58 : decode cX9_givesUp 58 = .ok (.invokevirtual 81, 3) := by decide +kernel
theorem dX9_givesUp_61 : decode cX9_givesUp 61 = .ok (.iconst 0, 1) := by decide +kernel
theorem dX9_givesUp_62 : decode cX9_givesUp 62 = .ok (.ireturn, 1) := by decide +kernel
theorem dX9_lends_0 : decode cX9_lends 0 = .ok (.aload_n 0, 1) := by decide +kernel
theorem dX9_lends_1 : decode cX9_lends 1 = .ok (.iload_n 1, 1) := by decide +kernel
theorem dX9_lends_2 : decode cX9_lends 2 = .ok (.invokevirtual 78, 3) := by decide +kernel
theorem dX9_lends_5 : decode cX9_lends 5 = .ok (.ifCond .eq 11, 3) := by decide +kernel
theorem dX9_lends_8 : decode cX9_lends 8 = .ok (.aload_n 0, 1) := by decide +kernel
theorem dX9_lends_9 : decode cX9_lends 9 = .ok (.iload_n 2, 1) := by decide +kernel
theorem dX9_lends_10 : decode cX9_lends 10 = .ok (.invokevirtual 78, 3) := by decide +kernel
theorem dX9_lends_13 : decode cX9_lends 13 = .ok (.ifCond .ne 5, 3) := by decide +kernel
theorem dX9_lends_16 : decode cX9_lends 16 = .ok (.iconst 1, 1) := by decide +kernel
theorem dX9_lends_17 : decode cX9_lends 17 = .ok (.ireturn, 1) := by decide +kernel
theorem dX9_lends_18 : decode cX9_lends 18 = .ok (.iload_n 1, 1) := by decide +kernel
theorem dX9_lends_19 : decode cX9_lends 19 = .ok (.iload_n 2, 1) := by decide +kernel
theorem dX9_lends_20 : decode cX9_lends 20 = .ok (.if_icmp .eq 25, 3) := by decide +kernel
theorem dX9_lends_23 : decode cX9_lends 23 = .ok (.iload_n 3, 1) := by decide +kernel
theorem dX9_lends_24 : decode cX9_lends 24 = .ok (.iconst 1, 1) := by decide +kernel
theorem dX9_lends_25 : decode cX9_lends 25 = .ok (.sipush 500, 3) := by decide +kernel
theorem dX9_lends_28 : decode cX9_lends 28 = .ok (.invokestatic 29, 3) := by decide +kernel
theorem dX9_lends_31 : decode cX9_lends 31 = .ok (.ifCond .eq 14, 3) := by decide +kernel
theorem dX9_lends_34 : decode cX9_lends 34 = .ok (.iload 4, 2) := by decide +kernel
theorem dX9_lends_36 : decode cX9_lends 36 = .ok (.iconst 0, 1) := by decide +kernel
theorem dX9_lends_37 : decode cX9_lends 37 = .ok (.bipush 39, 2) := by decide +kernel
theorem dX9_lends_39 : decode cX9_lends 39 = .ok (.invokestatic 29, 3) := by decide +kernel
theorem dX9_lends_42 : decode cX9_lends 42 = .ok (.ifCond .ne 5, 3) := by decide +kernel
theorem dX9_lends_45 : decode cX9_lends 45 = .ok (.iconst 2, 1) := by decide +kernel
theorem dX9_lends_46 : decode cX9_lends 46 = .ok (.ireturn, 1) := by decide +kernel
theorem dX9_lends_47 : decode cX9_lends 47 = .ok (.iload 4, 2) := by decide +kernel
theorem dX9_lends_49 : decode cX9_lends 49 = .ok (.aload_n 0, 1) := by decide +kernel
theorem dX9_lends_50 : decode cX9_lends 50 = .ok (.getfield 7, 3) := by decide +kernel
theorem dX9_lends_53 : decode cX9_lends 53 = .ok (.iconst 0, 1) := by decide +kernel
theorem dX9_lends_54 : decode cX9_lends 54 = .ok (.iaload, 1) := by decide +kernel
theorem dX9_lends_55 : decode cX9_lends 55 = .ok (.if_icmp .lt 32, 3) := by decide +kernel
theorem dX9_lends_58 : decode cX9_lends 58 = .ok (.aload_n 0, 1) := by decide +kernel
theorem dX9_lends_59 : decode cX9_lends 59 = .ok (.getfield 7, 3) := by decide +kernel
theorem dX9_lends_62 : decode cX9_lends 62 = .ok (.iconst 3, 1) := by decide +kernel
theorem dX9_lends_63 : decode cX9_lends 63 = .ok (.iaload, 1) := by decide +kernel
theorem dX9_lends_64 : decode cX9_lends 64 = .ok (.bipush 12, 2) := by decide +kernel
theorem dX9_lends_66 : decode cX9_lends 66 = .ok (.if_icmp .eq 21, 3) := by decide +kernel
theorem dX9_lends_69 : decode cX9_lends 69 = .ok (.aload_n 0, 1) := by decide +kernel
theorem dX9_lends_70 : decode cX9_lends 70 = .ok (.iload_n 1, 1) := by decide +kernel
theorem dX9_lends_71 : decode cX9_lends 71 = .ok (.iconst 0, 1) := by decide +kernel
theorem dX9_lends_72 : decode cX9_lends 72 = .ok (.invokevirtual 63, 3) := by decide +kernel
theorem dX9_lends_75 : decode cX9_lends 75 = .ok (.iload_n 3, 1) := by decide +kernel
theorem dX9_lends_76 : decode cX9_lends 76 = .ok (.if_icmp .lt 11, 3) := by decide +kernel
theorem dX9_lends_79 : decode cX9_lends 79 = .ok (.aload_n 0, 1) := by decide +kernel
theorem dX9_lends_80 : decode cX9_lends 80 = .ok (.iload_n 2, 1) := by decide +kernel
theorem dX9_lends_81 : decode cX9_lends 81 = .ok (.invokevirtual 84, 3) := by decide +kernel
theorem dX9_lends_84 : decode cX9_lends 84 = .ok (.ifCond .eq 5, 3) := by decide +kernel
theorem dX9_lends_87 : decode cX9_lends 87 = .ok (.iconst 3, 1) := by decide +kernel
theorem dX9_lends_88 : decode cX9_lends 88 = .ok (.ireturn, 1) := by decide +kernel
theorem dX9_lends_89 : decode cX9_lends 89 = .ok (.sipush 277, 3) := by decide +kernel
theorem dX9_lends_92 : decode cX9_lends 92 = .ok (.bipush 6, 2) := by decide +kernel
theorem dX9_lends_94 : decode cX9_lends 94 = .ok (.aload_n 0, 1) := by decide +kernel
theorem dX9_lends_95 : decode cX9_lends 95 = .ok (.getfield 7, 3) := by decide +kernel
theorem dX9_lends_98 : decode cX9_lends 98 = .ok (.iconst 3, 1) := by decide +kernel
theorem dX9_lends_99 : decode cX9_lends 99 = .ok (.iaload, 1) := by decide +kernel
theorem dX9_lends_100 : decode cX9_lends 100 = .ok (.imul, 1) := by decide +kernel
theorem dX9_lends_101 : decode cX9_lends 101 = .ok (.iadd, 1) := by decide +kernel
theorem dX9_lends_102 : decode cX9_lends 102 = .ok (.istore 5, 2) := by decide +kernel
theorem dX9_lends_104 : decode cX9_lends 104 = .ok (.aload_n 0, 1) := by decide +kernel
theorem dX9_lends_105 : decode cX9_lends 105 = .ok (.getfield 7, 3) := by decide +kernel
theorem dX9_lends_108 : decode cX9_lends 108 = .ok (.iload 5, 2) := by decide +kernel
theorem dX9_lends_110 : decode cX9_lends 110 = .ok (.iload_n 1, 1) := by decide +kernel
theorem dX9_lends_111 : decode cX9_lends 111 = .ok (.iastore, 1) := by decide +kernel
theorem dX9_lends_112 : decode cX9_lends 112 = .ok (.aload_n 0, 1) := by decide +kernel
theorem dX9_lends_113 : decode cX9_lends 113 = .ok (.getfield 7, 3) := by decide +kernel
theorem dX9_lends_116 : decode cX9_lends 116 = .ok (.iload 5, 2) := by decide +kernel
theorem dX9_lends_118 : decode cX9_lends 118 = .ok (.iconst 1, 1) := by decide +kernel
theorem dX9_lends_119 : decode cX9_lends 119 = .ok (.iadd, 1) := by decide +kernel
theorem dX9_lends_120 : decode cX9_lends 120 = .ok (.iload_n 2, 1) := by decide +kernel
theorem dX9_lends_121 : decode cX9_lends 121 = .ok (.iastore, 1) := by decide +kernel
theorem dX9_lends_122 : decode cX9_lends 122 = .ok (.aload_n 0, 1) := by decide +kernel
theorem dX9_lends_123 : decode cX9_lends 123 = .ok (.getfield 7, 3) := by decide +kernel
theorem dX9_lends_126 : decode cX9_lends 126 = .ok (.iload 5, 2) := by decide +kernel
theorem dX9_lends_128 : decode cX9_lends 128 = .ok (.iconst 2, 1) := by decide +kernel
theorem dX9_lends_129 : decode cX9_lends 129 = .ok (.iadd, 1) := by decide +kernel
theorem dX9_lends_130 : decode cX9_lends 130 = .ok (.iload_n 3, 1) := by decide +kernel
theorem dX9_lends_131 : decode cX9_lends 131 = .ok (.iastore, 1) := by decide +kernel
theorem dX9_lends_132 : decode cX9_lends 132 = .ok (.aload_n 0, 1) := by decide +kernel
theorem dX9_lends_133 : decode cX9_lends 133 = .ok (.getfield 7, 3) := by decide +kernel
theorem dX9_lends_136 : decode cX9_lends 136 = .ok (.iload 5, 2) := by decide +kernel
theorem dX9_lends_138 : decode cX9_lends 138 = .ok (.iconst 3, 1) := by decide +kernel
theorem dX9_lends_139 : decode cX9_lends 139 = .ok (.iadd, 1) := by decide +kernel
theorem dX9_lends_140 : decode cX9_lends 140 = .ok (.iload_n 3, 1) := by decide +kernel
theorem dX9_lends_141 : decode cX9_lends 141 = .ok (.iastore, 1) := by decide +kernel
theorem dX9_lends_142 : decode cX9_lends 142 = .ok (.aload_n 0, 1) := by decide +kernel
theorem dX9_lends_143 : decode cX9_lends 143 = .ok (.getfield 7, 3) := by decide +kernel
theorem dX9_lends_146 : decode cX9_lends 146 = .ok (.iload 5, 2) := by decide +kernel
theorem dX9_lends_148 : decode cX9_lends 148 = .ok (.iconst 4, 1) := by decide +kernel
theorem dX9_lends_149 : decode cX9_lends 149 = .ok (.iadd, 1) := by decide +kernel
theorem dX9_lends_150 : decode cX9_lends 150 = .ok (.iload 4, 2) := by decide +kernel
theorem dX9_lends_152 : decode cX9_lends 152 = .ok (.iastore, 1) := by decide +kernel
theorem dX9_lends_153 : decode cX9_lends 153 = .ok (.aload_n 0, 1) := by decide +kernel
theorem dX9_lends_154 : decode cX9_lends 154 = .ok (.getfield 7, 3) := by decide +kernel
theorem dX9_lends_157 : decode cX9_lends 157 = .ok (.iload 5, 2) := by decide +kernel
theorem dX9_lends_159 : decode cX9_lends 159 = .ok (.iconst 5, 1) := by decide +kernel
theorem dX9_lends_160 : decode cX9_lends 160 = .ok (.iadd, 1) := by decide +kernel
theorem dX9_lends_161 : decode cX9_lends 161 = .ok (.aload_n 0, 1) := by decide +kernel
theorem dX9_lends_162 : decode cX9_lends 162 = .ok (.getfield 7, 3) := by decide +kernel
theorem dX9_lends_165 : decode cX9_lends 165 = .ok (.iconst 0, 1) := by decide +kernel
theorem dX9_lends_166 : decode cX9_lends 166 = .ok (.iaload, 1) := by decide +kernel
theorem dX9_lends_167 : decode cX9_lends 167 = .ok (.iastore, 1) := by decide +kernel
theorem dX9_lends_168 : decode cX9_lends 168 = .ok (.aload_n 0, 1) := by decide +kernel
theorem dX9_lends_169 : decode cX9_lends 169 = .ok (.iload_n 1, 1) := by decide +kernel
theorem dX9_lends_170 : decode cX9_lends 170 = .ok (.iconst 0, 1) := by decide +kernel
theorem dX9_lends_171 : decode cX9_lends 171 = .ok (.iload_n 3, 1) := by decide +kernel
theorem dX9_lends_172 : decode cX9_lends 172 = .ok (.ineg, 1) := by decide +kernel
theorem dX9_lends_173 : decode cX9_lends 173 = .ok (.invokevirtual 59, 3) := by decide +kernel
theorem dX9_lends_176 : decode cX9_lends 176 = .ok (.aload_n 0, 1) := by decide +kernel
theorem dX9_lends_177 : decode cX9_lends 177 = .ok (.iload_n 2, 1) := by decide +kernel
theorem dX9_lends_178 : decode cX9_lends 178 = .ok (.iconst 0, 1) := by decide +kernel
theorem dX9_lends_179 : decode cX9_lends 179 = .ok (.iload_n 3, 1) := by decide +kernel
theorem dX9_lends_180 : decode cX9_lends 180 = .ok (.invokevirtual 59, 3) := by decide +kernel
theorem dX9_lends_183 : decode cX9_lends 183 = .ok (.aload_n 0, 1) := by decide +kernel
theorem dX9_lends_184 : decode cX9_lends 184 = .ok (.aload_n 0, 1) := by decide +kernel
theorem dX9_lends_185 : decode cX9_lends 185 = .ok (.getfield 7, 3) := by decide +kernel
theorem dX9_lends_188 : decode cX9_lends 188 = .ok (.iconst 3, 1) := by decide +kernel
theorem dX9_lends_189 : decode cX9_lends 189 = .ok (.iaload, 1) := by decide +kernel
theorem dX9_lends_190 : decode cX9_lends 190 = .ok (.putfield 47, 3) := by decide +kernel
theorem dX9_lends_193 : decode cX9_lends 193 = .ok (.aload_n 0, 1) := by decide +kernel
theorem dX9_lends_194 : decode cX9_lends 194 = .ok (.getfield 7, 3) := by decide +kernel
theorem dX9_lends_197 : decode cX9_lends 197 = .ok (.iconst 3, 1) := by decide +kernel
theorem dX9_lends_198 : decode cX9_lends 198 = .ok (.dup2, 1) := by decide +kernel
theorem dX9_lends_199 : decode cX9_lends 199 = .ok (.iaload, 1) := by decide +kernel
theorem dX9_lends_200 : decode cX9_lends 200 = .ok (.iconst 1, 1) := by decide +kernel
theorem dX9_lends_201 : decode cX9_lends 201 = .ok (.iadd, 1) := by decide +kernel
theorem dX9_lends_202 : decode cX9_lends 202 = .ok (.iastore, 1) := by decide +kernel
theorem dX9_lends_203 : decode cX9_lends 203 = .ok (.iconst 0, 1) := by decide +kernel
theorem dX9_lends_204 : decode cX9_lends 204 = .ok (.ireturn, 1) := by decide +kernel
theorem dX9_repays_0 : decode cX9_repays 0 = .ok (.aload_n 0, 1) := by decide +kernel
theorem dX9_repays_1 : decode cX9_repays 1 = .ok (.iload_n 1, 1) := by decide +kernel
theorem dX9_repays_2 : decode cX9_repays 2 = .ok (.invokevirtual 100, 3) := by decide +kernel
theorem dX9_repays_5 : decode cX9_repays 5 = .ok (.ifCond .ne 5, 3) := by decide +kernel
theorem dX9_repays_8 : decode cX9_repays 8 = .ok (.iconst 1, 1) := by decide +kernel
theorem dX9_repays_9 : decode cX9_repays 9 = .ok (.ireturn, 1) := by decide +kernel
theorem dX9_repays_10 : decode cX9_repays 10 = .ok (.iload_n 2, 1) := by decide +kernel
theorem dX9_repays_11 : decode cX9_repays 11 = .ok (.iconst 1, 1) := by decide +kernel
theorem dX9_repays_12 : decode cX9_repays 12 = .ok (.sipush 500, 3) := by decide +kernel
theorem dX9_repays_15 : decode cX9_repays 15 = .ok (.invokestatic 29, 3) := by decide +kernel
theorem dX9_repays_18 : decode cX9_repays 18 = .ok (.ifCond .ne 5, 3) := by decide +kernel
theorem dX9_repays_21 : decode cX9_repays 21 = .ok (.iconst 2, 1) := by decide +kernel
theorem dX9_repays_22 : decode cX9_repays 22 = .ok (.ireturn, 1) := by decide +kernel
theorem dX9_repays_23 : decode cX9_repays 23 = .ok (.aload_n 0, 1) := by decide +kernel
theorem dX9_repays_24 : decode cX9_repays 24 = .ok (.iload_n 1, 1) := by decide +kernel
theorem dX9_repays_25 : decode cX9_repays 25 = .ok (.iconst 3, 1) := by decide +kernel
theorem dX9_repays_26 : decode cX9_repays 26 = .ok (.invokevirtual 33, 3) := by decide +kernel
theorem dX9_repays_29 : decode cX9_repays 29 = .ok (.iload_n 2, 1) := by decide +kernel
theorem dX9_repays_30 : decode cX9_repays 30 = .ok (.if_icmp .lt 18, 3) := by decide +kernel
theorem dX9_repays_33 : decode cX9_repays 33 = .ok (.aload_n 0, 1) := by decide +kernel
theorem dX9_repays_34 : decode cX9_repays 34 = .ok (.aload_n 0, 1) := by decide +kernel
theorem dX9_repays_35 : decode cX9_repays 35 = .ok (.iload_n 1, 1) := by decide +kernel
theorem dX9_repays_36 : decode cX9_repays 36 = .ok (.iconst 1, 1) := by decide +kernel
theorem dX9_repays_37 : decode cX9_repays 37 = .ok (.invokevirtual 33, 3) := by decide +kernel
theorem dX9_repays_40 : decode cX9_repays 40 = .ok (.iconst 0, 1) := by decide +kernel
theorem dX9_repays_41 : decode cX9_repays 41 = .ok (.invokevirtual 63, 3) := by decide +kernel
theorem dX9_repays_44 : decode cX9_repays 44 = .ok (.iload_n 2, 1) := by decide +kernel
theorem dX9_repays_45 : decode cX9_repays 45 = .ok (.if_icmp .ge 5, 3) := by decide +kernel
theorem dX9_repays_48 : decode cX9_repays 48 = .ok (.iconst 3, 1) := by decide +kernel
theorem dX9_repays_49 : decode cX9_repays 49 = .ok (.ireturn, 1) := by decide +kernel
theorem dX9_repays_50 : decode cX9_repays 50 = .ok (.aload_n 0, 1) := by decide +kernel
theorem dX9_repays_51 : decode cX9_repays 51 = .ok (.iload_n 1, 1) := by decide +kernel
theorem dX9_repays_52 : decode cX9_repays 52 = .ok (.iload_n 2, 1) := by decide +kernel
theorem dX9_repays_53 : decode cX9_repays 53 = .ok (.invokevirtual 70, 3) := by decide +kernel
theorem dX9_repays_56 : decode cX9_repays 56 = .ok (.aload_n 0, 1) := by decide +kernel
theorem dX9_repays_57 : decode cX9_repays 57 = .ok (.aload_n 0, 1) := by decide +kernel
theorem dX9_repays_58 : decode cX9_repays 58 = .ok (.iload_n 1, 1) := by decide +kernel
theorem dX9_repays_59 : decode cX9_repays 59 = .ok (.iconst 3, 1) := by decide +kernel
theorem dX9_repays_60 : decode cX9_repays 60 = .ok (.invokevirtual 33, 3) := by decide +kernel
theorem dX9_repays_63 : decode cX9_repays 63 = .ok (.putfield 47, 3) := by decide +kernel
theorem dX9_repays_66 : decode cX9_repays 66 = .ok (.iconst 0, 1) := by decide +kernel
theorem dX9_repays_67 : decode cX9_repays 67 = .ok (.ireturn, 1) := by decide +kernel
theorem dX9_addTeam_0 : decode cX9_addTeam 0 = .ok (.aload_n 0, 1) := by decide +kernel
theorem dX9_addTeam_1 : decode cX9_addTeam 1 = .ok (.invokevirtual 103, 3) := by decide +kernel
theorem dX9_addTeam_4 : decode cX9_addTeam 4 = .ok (.aload_n 0, 1) := by decide +kernel
theorem dX9_addTeam_5 : decode cX9_addTeam 5 = .ok (.aload_n 0, 1) := by decide +kernel
theorem dX9_addTeam_6 : decode cX9_addTeam 6 = .ok (.iload_n 1, 1) := by decide +kernel
theorem dX9_addTeam_7 : decode cX9_addTeam 7 = .ok (.invokevirtual 106, 3) := by decide +kernel
theorem dX9_addTeam_10 : decode cX9_addTeam 10 = .ok (.invokevirtual 109, 3) := by decide +kernel
theorem dX9_addTeam_13 : decode cX9_addTeam 13 = .ok (.ireturn, 1) := by decide +kernel
theorem dX9_freeze_0 : decode cX9_freeze 0 = .ok (.aload_n 0, 1) := by decide +kernel
theorem dX9_freeze_1 : decode cX9_freeze 1 = .ok (.invokevirtual 103, 3) := by decide +kernel
theorem dX9_freeze_4 : decode cX9_freeze 4 = .ok (.aload_n 0, 1) := by decide +kernel
theorem dX9_freeze_5 : decode cX9_freeze 5 = .ok (.aload_n 0, 1) := by decide +kernel
theorem dX9_freeze_6 : decode cX9_freeze 6 = .ok (.iload_n 1, 1) := by decide +kernel
theorem dX9_freeze_7 : decode cX9_freeze 7 = .ok (.iload_n 2, 1) := by decide +kernel
theorem dX9_freeze_8 : decode cX9_freeze 8 = .ok (.iload_n 3, 1) := by decide +kernel
theorem dX9_freeze_9 : decode cX9_freeze 9 = .ok (.ifCond .eq 7, 3) := by decide +kernel
theorem dX9_freeze_12 : decode cX9_freeze 12 = .ok (.iconst 1, 1) := by decide +kernel
theorem dX9_freeze_13 : decode cX9_freeze 13 = .ok (.goto 4, 3) := by decide +kernel
theorem dX9_freeze_16 : decode cX9_freeze 16 = .ok (.iconst 0, 1) := by decide +kernel
theorem dX9_freeze_17 : decode cX9_freeze 17 = .ok (.invokevirtual 112, 3) := by decide +kernel
theorem dX9_freeze_20 : decode cX9_freeze 20 = .ok (.invokevirtual 109, 3) := by decide +kernel
theorem dX9_freeze_23 : decode cX9_freeze 23 = .ok (.ireturn, 1) := by decide +kernel
theorem dX9_set_0 : decode cX9_set 0 = .ok (.aload_n 0, 1) := by decide +kernel
theorem dX9_set_1 : decode cX9_set 1 = .ok (.invokevirtual 103, 3) := by decide +kernel
theorem dX9_set_4 : decode cX9_set 4 = .ok (.aload_n 0, 1) := by decide +kernel
theorem dX9_set_5 : decode cX9_set 5 = .ok (.aload_n 0, 1) := by decide +kernel
theorem dX9_set_6 : decode cX9_set 6 = .ok (.iload_n 1, 1) := by decide +kernel
theorem dX9_set_7 : decode cX9_set 7 = .ok (.iload_n 2, 1) := by decide +kernel
theorem dX9_set_8 : decode cX9_set 8 = .ok (.invokevirtual 116, 3) := by decide +kernel
theorem dX9_set_11 : decode cX9_set 11 = .ok (.invokevirtual 109, 3) := by decide +kernel
theorem dX9_set_14 : decode cX9_set 14 = .ok (.ireturn, 1) := by decide +kernel
theorem dX9_endWeek_0 : decode cX9_endWeek 0 = .ok (.aload_n 0, 1) := by decide +kernel
theorem dX9_endWeek_1 : decode cX9_endWeek 1 = .ok (.invokevirtual 103, 3) := by decide +kernel
theorem dX9_endWeek_4 : decode cX9_endWeek 4 = .ok (.aload_n 0, 1) := by decide +kernel
theorem dX9_endWeek_5 : decode cX9_endWeek 5 = .ok (.aload_n 0, 1) := by decide +kernel
theorem dX9_endWeek_6 : decode cX9_endWeek 6 = .ok (.invokevirtual 119, 3) := by decide +kernel
theorem dX9_endWeek_9 : decode cX9_endWeek 9 = .ok (.invokevirtual 109, 3) := by decide +kernel
theorem dX9_endWeek_12 : decode cX9_endWeek 12 = .ok (.ireturn, 1) := by decide +kernel
theorem dX9_ask_0 : decode cX9_ask 0 = .ok (.aload_n 0, 1) := by decide +kernel
theorem dX9_ask_1 : decode cX9_ask 1 = .ok (.invokevirtual 103, 3) := by decide +kernel
theorem dX9_ask_4 : decode cX9_ask 4 = .ok (.aload_n 0, 1) := by decide +kernel
theorem dX9_ask_5 : decode cX9_ask 5 = .ok (.aload_n 0, 1) := by decide +kernel
theorem dX9_ask_6 : decode cX9_ask 6 = .ok (.iload_n 1, 1) := by decide +kernel
theorem dX9_ask_7 : decode cX9_ask 7 = .ok (.iload_n 2, 1) := by decide +kernel
theorem dX9_ask_8 : decode cX9_ask 8 = .ok (.invokevirtual 122, 3) := by decide +kernel
theorem dX9_ask_11 : decode cX9_ask 11 = .ok (.invokevirtual 109, 3) := by decide +kernel
theorem dX9_ask_14 : decode cX9_ask 14 = .ok (.ireturn, 1) := by decide +kernel
theorem dX9_exempt_0 : decode cX9_exempt 0 = .ok (.aload_n 0, 1) := by decide +kernel
theorem dX9_exempt_1 : decode cX9_exempt 1 = .ok (.invokevirtual 103, 3) := by decide +kernel
theorem dX9_exempt_4 : decode cX9_exempt 4 = .ok (.aload_n 0, 1) := by decide +kernel
theorem dX9_exempt_5 : decode cX9_exempt 5 = .ok (.aload_n 0, 1) := by decide +kernel
theorem dX9_exempt_6 : decode cX9_exempt 6 = .ok (.iload_n 1, 1) := by decide +kernel
theorem dX9_exempt_7 : decode cX9_exempt 7 = .ok (.invokevirtual 125, 3) := by decide +kernel
theorem dX9_exempt_10 : decode cX9_exempt 10 = .ok (.invokevirtual 109, 3) := by decide +kernel
theorem dX9_exempt_13 : decode cX9_exempt 13 = .ok (.ireturn, 1) := by decide +kernel
theorem dX9_make_0 : decode cX9_make 0 = .ok (.aload_n 0, 1) := by decide +kernel
theorem dX9_make_1 : decode cX9_make 1 = .ok (.invokevirtual 103, 3) := by decide +kernel
theorem dX9_make_4 : decode cX9_make 4 = .ok (.aload_n 0, 1) := by decide +kernel
theorem dX9_make_5 : decode cX9_make 5 = .ok (.aload_n 0, 1) := by decide +kernel
theorem dX9_make_6 : decode cX9_make 6 = .ok (.iload_n 1, 1) := by decide +kernel
theorem dX9_make_7 : decode cX9_make 7 = .ok (.iload_n 2, 1) := by decide +kernel
theorem dX9_make_8 : decode cX9_make 8 = .ok (.invokevirtual 128, 3) := by decide +kernel
theorem dX9_make_11 : decode cX9_make 11 = .ok (.invokevirtual 109, 3) := by decide +kernel
theorem dX9_make_14 : decode cX9_make 14 = .ok (.ireturn, 1) := by decide +kernel
theorem dX9_giveUp_0 : decode cX9_giveUp 0 = .ok (.aload_n 0, 1) := by decide +kernel
theorem dX9_giveUp_1 : decode cX9_giveUp 1 = .ok (.invokevirtual 103, 3) := by decide +kernel
theorem dX9_giveUp_4 : decode cX9_giveUp 4 = .ok (.aload_n 0, 1) := by decide +kernel
theorem dX9_giveUp_5 : decode cX9_giveUp 5 = .ok (.aload_n 0, 1) := by decide +kernel
theorem dX9_giveUp_6 : decode cX9_giveUp 6 = .ok (.iload_n 1, 1) := by decide +kernel
theorem dX9_giveUp_7 : decode cX9_giveUp 7 = .ok (.invokevirtual 132, 3) := by decide +kernel
theorem dX9_giveUp_10 : decode cX9_giveUp 10 = .ok (.invokevirtual 109, 3) := by decide +kernel
theorem dX9_giveUp_13 : decode cX9_giveUp 13 = .ok (.ireturn, 1) := by decide +kernel
theorem dX9_lend_0 : decode cX9_lend 0 = .ok (.aload_n 0, 1) := by decide +kernel
theorem dX9_lend_1 : decode cX9_lend 1 = .ok (.invokevirtual 103, 3) := by decide +kernel
theorem dX9_lend_4 : decode cX9_lend 4 = .ok (.aload_n 0, 1) := by decide +kernel
theorem dX9_lend_5 : decode cX9_lend 5 = .ok (.aload_n 0, 1) := by decide +kernel
theorem dX9_lend_6 : decode cX9_lend 6 = .ok (.iload_n 1, 1) := by decide +kernel
theorem dX9_lend_7 : decode cX9_lend 7 = .ok (.iload_n 2, 1) := by decide +kernel
theorem dX9_lend_8 : decode cX9_lend 8 = .ok (.iload_n 3, 1) := by decide +kernel
theorem dX9_lend_9 : decode cX9_lend 9 = .ok (.iload 4, 2) := by decide +kernel
theorem dX9_lend_11 : decode cX9_lend 11 = .ok (.invokevirtual 135, 3) := by decide +kernel
theorem dX9_lend_14 : decode cX9_lend 14 = .ok (.invokevirtual 109, 3) := by decide +kernel
theorem dX9_lend_17 : decode cX9_lend 17 = .ok (.ireturn, 1) := by decide +kernel
theorem dX9_repay_0 : decode cX9_repay 0 = .ok (.aload_n 0, 1) := by decide +kernel
theorem dX9_repay_1 : decode cX9_repay 1 = .ok (.invokevirtual 103, 3) := by decide +kernel
theorem dX9_repay_4 : decode cX9_repay 4 = .ok (.aload_n 0, 1) := by decide +kernel
theorem dX9_repay_5 : decode cX9_repay 5 = .ok (.aload_n 0, 1) := by decide +kernel
theorem dX9_repay_6 : decode cX9_repay 6 = .ok (.iload_n 1, 1) := by decide +kernel
theorem dX9_repay_7 : decode cX9_repay 7 = .ok (.iload_n 2, 1) := by decide +kernel
theorem dX9_repay_8 : decode cX9_repay 8 = .ok (.invokevirtual 139, 3) := by decide +kernel
theorem dX9_repay_11 : decode cX9_repay 11 = .ok (.invokevirtual 109, 3) := by decide +kernel
theorem dX9_repay_14 : decode cX9_repay 14 = .ok (.ireturn, 1) := by decide +kernel
theorem dX9_inState_0 : decode cX9_inState 0 = .ok (.iconst 0, 1) := by decide +kernel
theorem dX9_inState_1 : decode cX9_inState 1 = .ok (.istore_n 3, 1) := by decide +kernel
theorem dX9_inState_2 : decode cX9_inState 2 = .ok (.iconst 0, 1) := by decide +kernel
theorem dX9_inState_3 : decode cX9_inState 3 = .ok (.istore 4, 2) := by decide +kernel
theorem dX9_inState_5 : decode cX9_inState 5 = .ok (.iload 4, 2) := by decide +kernel
theorem dX9_inState_7 : decode cX9_inState 7 = .ok (.aload_n 0, 1) := by decide +kernel
theorem dX9_inState_8 : decode cX9_inState 8 = .ok (.getfield 7, 3) := by decide +kernel
theorem dX9_inState_11 : decode cX9_inState 11 = .ok (.iconst 2, 1) := by decide +kernel
theorem dX9_inState_12 : decode cX9_inState 12 = .ok (.iaload, 1) := by decide +kernel
theorem dX9_inState_13 : decode cX9_inState 13 = .ok (.if_icmp .ge 44, 3) := by decide +kernel
theorem dX9_inState_16 : decode cX9_inState 16 = .ok (.iload_n 3, 1) := by decide +kernel
theorem dX9_inState_17 : decode cX9_inState 17 = .ok (.aload_n 0, 1) := by decide +kernel
theorem dX9_inState_18 : decode cX9_inState 18 = .ok (.iload 4, 2) := by decide +kernel
theorem dX9_inState_20 : decode cX9_inState 20 = .ok (.iconst 2, 1) := by decide +kernel
theorem dX9_inState_21 : decode cX9_inState 21 = .ok (.invokevirtual 56, 3) := by decide +kernel
theorem dX9_inState_24 : decode cX9_inState 24 = .ok (.iload_n 2, 1) := by decide +kernel
theorem dX9_inState_25 : decode cX9_inState 25 = .ok (.if_icmp .ne 23, 3) := by decide +kernel
theorem dX9_inState_28 : decode cX9_inState 28 = .ok (.iload_n 1, 1) := by decide +kernel
theorem dX9_inState_29 : decode cX9_inState 29 = .ok (.iconst (-1), 1) := by decide +kernel
theorem dX9_inState_30 : decode cX9_inState 30 = .ok (.if_icmp .eq 14, 3) := by decide +kernel
theorem dX9_inState_33 : decode cX9_inState 33 = .ok (.aload_n 0, 1) := by decide +kernel
theorem dX9_inState_34 : decode cX9_inState 34 = .ok (.iload 4, 2) := by decide +kernel
theorem dX9_inState_36 : decode cX9_inState 36 = .ok (.iconst 0, 1) := by decide +kernel
theorem dX9_inState_37 : decode cX9_inState 37 = .ok (.invokevirtual 56, 3) := by decide +kernel
theorem dX9_inState_40 : decode cX9_inState 40 = .ok (.iload_n 1, 1) := by decide +kernel
theorem dX9_inState_41 : decode cX9_inState 41 = .ok (.if_icmp .ne 7, 3) := by decide +kernel
theorem dX9_inState_44 : decode cX9_inState 44 = .ok (.iconst 1, 1) := by decide +kernel
theorem dX9_inState_45 : decode cX9_inState 45 = .ok (.goto 4, 3) := by decide +kernel
theorem dX9_inState_48 : decode cX9_inState 48 = .ok (.iconst 0, 1) := by decide +kernel
theorem dX9_inState_49 : decode cX9_inState 49 = .ok (.iadd, 1) := by decide +kernel
theorem dX9_inState_50 : decode cX9_inState 50 = .ok (.istore_n 3, 1) := by decide +kernel
theorem dX9_inState_51 : decode cX9_inState 51 = .ok (.iinc 4 1, 3) := by decide +kernel
theorem dX9_inState_54 : decode cX9_inState 54 = .ok (.goto (-49), 3) := by decide +kernel
theorem dX9_inState_57 : decode cX9_inState 57 = .ok (.iload_n 3, 1) := by decide +kernel
theorem dX9_inState_58 : decode cX9_inState 58 = .ok (.ireturn, 1) := by decide +kernel
theorem dX9_held_0 : decode cX9_held 0 = .ok (.iconst 0, 1) := by decide +kernel
theorem dX9_held_1 : decode cX9_held 1 = .ok (.istore_n 2, 1) := by decide +kernel
theorem dX9_held_2 : decode cX9_held 2 = .ok (.iconst 0, 1) := by decide +kernel
theorem dX9_held_3 : decode cX9_held 3 = .ok (.istore_n 3, 1) := by decide +kernel
theorem dX9_held_4 : decode cX9_held 4 = .ok (.iload_n 3, 1) := by decide +kernel
theorem dX9_held_5 : decode cX9_held 5 = .ok (.aload_n 0, 1) := by decide +kernel
theorem dX9_held_6 : decode cX9_held 6 = .ok (.getfield 7, 3) := by decide +kernel
theorem dX9_held_9 : decode cX9_held 9 = .ok (.iconst 2, 1) := by decide +kernel
theorem dX9_held_10 : decode cX9_held 10 = .ok (.iaload, 1) := by decide +kernel
theorem dX9_held_11 : decode cX9_held 11 = .ok (.if_icmp .ge 37, 3) := by decide +kernel
theorem dX9_held_14 : decode cX9_held 14 = .ok (.iload_n 2, 1) := by decide +kernel
theorem dX9_held_15 : decode cX9_held 15 = .ok (.iload_n 1, 1) := by decide +kernel
theorem dX9_held_16 : decode cX9_held 16 = .ok (.iconst (-1), 1) := by decide +kernel
theorem dX9_held_17 : decode cX9_held 17 = .ok (.if_icmp .eq 13, 3) := by decide +kernel
theorem dX9_held_20 : decode cX9_held 20 = .ok (.aload_n 0, 1) := by decide +kernel
theorem dX9_held_21 : decode cX9_held 21 = .ok (.iload_n 3, 1) := by decide +kernel
theorem dX9_held_22 : decode cX9_held 22 = .ok (.iconst 0, 1) := by decide +kernel
theorem dX9_held_23 : decode cX9_held 23 = .ok (.invokevirtual 56, 3) := by decide +kernel
theorem dX9_held_26 : decode cX9_held 26 = .ok (.iload_n 1, 1) := by decide +kernel
theorem dX9_held_27 : decode cX9_held 27 = .ok (.if_icmp .ne 12, 3) := by decide +kernel
theorem dX9_held_30 : decode cX9_held 30 = .ok (.aload_n 0, 1) := by decide +kernel
theorem dX9_held_31 : decode cX9_held 31 = .ok (.iload_n 3, 1) := by decide +kernel
theorem dX9_held_32 : decode cX9_held 32 = .ok (.iconst 3, 1) := by decide +kernel
theorem dX9_held_33 : decode cX9_held 33 = .ok (.invokevirtual 56, 3) := by decide +kernel
theorem dX9_held_36 : decode cX9_held 36 = .ok (.goto 4, 3) := by decide +kernel
theorem dX9_held_39 : decode cX9_held 39 = .ok (.iconst 0, 1) := by decide +kernel
theorem dX9_held_40 : decode cX9_held 40 = .ok (.iadd, 1) := by decide +kernel
theorem dX9_held_41 : decode cX9_held 41 = .ok (.istore_n 2, 1) := by decide +kernel
theorem dX9_held_42 : decode cX9_held 42 = .ok (.iinc 3 1, 3) := by decide +kernel
theorem dX9_held_45 : decode cX9_held 45 = .ok (.goto (-41), 3) := by decide +kernel
theorem dX9_held_48 : decode cX9_held 48 = .ok (.iload_n 2, 1) := by decide +kernel
theorem dX9_held_49 : decode cX9_held 49 = .ok (.ireturn, 1) := by decide +kernel
theorem dX9_left_0 : decode cX9_left 0 = .ok (.iconst 0, 1) := by decide +kernel
theorem dX9_left_1 : decode cX9_left 1 = .ok (.istore_n 3, 1) := by decide +kernel
theorem dX9_left_2 : decode cX9_left 2 = .ok (.iconst 0, 1) := by decide +kernel
theorem dX9_left_3 : decode cX9_left 3 = .ok (.istore 4, 2) := by decide +kernel
theorem dX9_left_5 : decode cX9_left 5 = .ok (.iload 4, 2) := by decide +kernel
theorem dX9_left_7 : decode cX9_left 7 = .ok (.aload_n 0, 1) := by decide +kernel
theorem dX9_left_8 : decode cX9_left 8 = .ok (.getfield 7, 3) := by decide +kernel
theorem dX9_left_11 : decode cX9_left 11 = .ok (.iconst 3, 1) := by decide +kernel
theorem dX9_left_12 : decode cX9_left 12 = .ok (.iaload, 1) := by decide +kernel
theorem dX9_left_13 : decode cX9_left 13 = .ok (.if_icmp .ge 34, 3) := by decide +kernel
theorem dX9_left_16 : decode cX9_left 16 = .ok (.iload_n 3, 1) := by decide +kernel
theorem dX9_left_17 : decode cX9_left 17 = .ok (.aload_n 0, 1) := by decide +kernel
theorem dX9_left_18 : decode cX9_left 18 = .ok (.iload 4, 2) := by decide +kernel
theorem dX9_left_20 : decode cX9_left 20 = .ok (.iload_n 2, 1) := by decide +kernel
theorem dX9_left_21 : decode cX9_left 21 = .ok (.invokevirtual 33, 3) := by decide +kernel
theorem dX9_left_24 : decode cX9_left 24 = .ok (.iload_n 1, 1) := by decide +kernel
theorem dX9_left_25 : decode cX9_left 25 = .ok (.if_icmp .ne 13, 3) := by decide +kernel
theorem dX9_left_28 : decode cX9_left 28 = .ok (.aload_n 0, 1) := by decide +kernel
theorem dX9_left_29 : decode cX9_left 29 = .ok (.iload 4, 2) := by decide +kernel
theorem dX9_left_31 : decode cX9_left 31 = .ok (.iconst 3, 1) := by decide +kernel
theorem dX9_left_32 : decode cX9_left 32 = .ok (.invokevirtual 33, 3) := by decide +kernel
theorem dX9_left_35 : decode cX9_left 35 = .ok (.goto 4, 3) := by decide +kernel
theorem dX9_left_38 : decode cX9_left 38 = .ok (.iconst 0, 1) := by decide +kernel
theorem dX9_left_39 : decode cX9_left 39 = .ok (.iadd, 1) := by decide +kernel
theorem dX9_left_40 : decode cX9_left 40 = .ok (.istore_n 3, 1) := by decide +kernel
theorem dX9_left_41 : decode cX9_left 41 = .ok (.iinc 4 1, 3) := by decide +kernel
theorem dX9_left_44 : decode cX9_left 44 = .ok (.goto (-39), 3) := by decide +kernel
theorem dX9_left_47 : decode cX9_left 47 = .ok (.iload_n 3, 1) := by decide +kernel
theorem dX9_left_48 : decode cX9_left 48 = .ok (.ireturn, 1) := by decide +kernel
theorem dX9_teamNumber_0 : decode cX9_teamNumber 0 = .ok (.iload_n 2, 1) := by decide +kernel
theorem dX9_teamNumber_1 : decode cX9_teamNumber 1 = .ok (.tableswitch 133 0 9 #[55, 62, 68, 75, 82, 96, 96, 105, 112, 119], 55) := by decide +kernel
theorem dX9_teamNumber_56 : decode cX9_teamNumber 56 = .ok (.aload_n 0, 1) := by decide +kernel
theorem dX9_teamNumber_57 : decode cX9_teamNumber 57 = .ok (.iload_n 1, 1) := by decide +kernel
theorem dX9_teamNumber_58 : decode cX9_teamNumber 58 = .ok (.iconst 0, 1) := by decide +kernel
theorem dX9_teamNumber_59 : decode cX9_teamNumber 59 = .ok (.invokevirtual 63, 3) := by decide +kernel
theorem dX9_teamNumber_62 : decode cX9_teamNumber 62 = .ok (.ireturn, 1) := by decide +kernel
theorem dX9_teamNumber_63 : decode cX9_teamNumber 63 = .ok (.aload_n 0, 1) := by decide +kernel
theorem dX9_teamNumber_64 : decode cX9_teamNumber 64 = .ok (.iload_n 1, 1) := by decide +kernel
theorem dX9_teamNumber_65 : decode cX9_teamNumber 65 = .ok (.invokevirtual 142, 3) := by decide +kernel
theorem dX9_teamNumber_68 : decode cX9_teamNumber 68 = .ok (.ireturn, 1) := by decide +kernel
theorem dX9_teamNumber_69 : decode cX9_teamNumber 69 = .ok (.aload_n 0, 1) := by decide +kernel
theorem dX9_teamNumber_70 : decode cX9_teamNumber 70 = .ok (.iload_n 1, 1) := by decide +kernel
theorem dX9_teamNumber_71 : decode cX9_teamNumber 71 = .ok (.iconst 1, 1) := by decide +kernel
theorem dX9_teamNumber_72 : decode cX9_teamNumber 72 = .ok (.invokevirtual 63, 3) := by decide +kernel
theorem dX9_teamNumber_75 : decode cX9_teamNumber 75 = .ok (.ireturn, 1) := by decide +kernel
theorem dX9_teamNumber_76 : decode cX9_teamNumber 76 = .ok (.aload_n 0, 1) := by decide +kernel
theorem dX9_teamNumber_77 : decode cX9_teamNumber 77 = .ok (.iload_n 1, 1) := by decide +kernel
theorem dX9_teamNumber_78 : decode cX9_teamNumber 78 = .ok (.iconst 2, 1) := by decide +kernel
theorem dX9_teamNumber_79 : decode cX9_teamNumber 79 = .ok (.invokevirtual 63, 3) := by decide +kernel
theorem dX9_teamNumber_82 : decode cX9_teamNumber 82 = .ok (.ireturn, 1) := by decide +kernel
theorem dX9_teamNumber_83 : decode cX9_teamNumber 83 = .ok (.aload_n 0, 1) := by decide +kernel
theorem dX9_teamNumber_84 : decode cX9_teamNumber 84 = .ok (.iload_n 1, 1) := by decide +kernel
theorem dX9_teamNumber_85 : decode cX9_teamNumber 85 = .ok (.iconst 0, 1) := by decide +kernel
theorem dX9_teamNumber_86 : decode cX9_teamNumber 86 = .ok (.invokevirtual 145, 3) := by decide +kernel
theorem dX9_teamNumber_89 : decode cX9_teamNumber 89 = .ok (.aload_n 0, 1) := by decide +kernel
theorem dX9_teamNumber_90 : decode cX9_teamNumber 90 = .ok (.iload_n 1, 1) := by decide +kernel
theorem dX9_teamNumber_91 : decode cX9_teamNumber 91 = .ok (.iconst 1, 1) := by decide +kernel
theorem dX9_teamNumber_92 : decode cX9_teamNumber 92 = .ok (.invokevirtual 145, 3) := by decide +kernel
theorem dX9_teamNumber_95 : decode cX9_teamNumber 95 = .ok (.iadd, 1) := by decide +kernel
theorem dX9_teamNumber_96 : decode cX9_teamNumber 96 = .ok (.ireturn, 1) := by decide +kernel
theorem dX9_teamNumber_97 : decode cX9_teamNumber 97 = .ok (.aload_n 0, 1) := by decide +kernel
theorem dX9_teamNumber_98 : decode cX9_teamNumber 98 = .ok (.iload_n 1, 1) := by decide +kernel
theorem dX9_teamNumber_99 : decode cX9_teamNumber 99 = .ok (.iload_n 2, 1) := by decide +kernel
theorem dX9_teamNumber_100 : decode cX9_teamNumber 100 = .ok (.iconst 3, 1) := by decide +kernel
theorem dX9_teamNumber_101 : decode cX9_teamNumber 101 = .ok (.isub, 1) := by decide +kernel
theorem dX9_teamNumber_102 : decode cX9_teamNumber 102 = .ok (.invokevirtual 145, 3) := by decide +kernel
theorem dX9_teamNumber_105 : decode cX9_teamNumber 105 = .ok (.ireturn, 1) := by decide +kernel
theorem dX9_teamNumber_106 : decode cX9_teamNumber 106 = .ok (.aload_n 0, 1) := by decide +kernel
theorem dX9_teamNumber_107 : decode cX9_teamNumber 107 = .ok (.iload_n 1, 1) := by decide +kernel
theorem dX9_teamNumber_108 : decode cX9_teamNumber 108 = .ok (.iconst 0, 1) := by decide +kernel
theorem dX9_teamNumber_109 : decode cX9_teamNumber 109 = .ok (.invokevirtual 148, 3) := by decide +kernel
theorem dX9_teamNumber_112 : decode cX9_teamNumber 112 = .ok (.ireturn, 1) := by decide +kernel
theorem dX9_teamNumber_113 : decode cX9_teamNumber 113 = .ok (.aload_n 0, 1) := by decide +kernel
theorem dX9_teamNumber_114 : decode cX9_teamNumber 114 = .ok (.iload_n 1, 1) := by decide +kernel
theorem dX9_teamNumber_115 : decode cX9_teamNumber 115 = .ok (.iconst 1, 1) := by decide +kernel
theorem dX9_teamNumber_116 : decode cX9_teamNumber 116 = .ok (.invokevirtual 148, 3) := by decide +kernel
theorem dX9_teamNumber_119 : decode cX9_teamNumber 119 = .ok (.ireturn, 1) := by decide +kernel
theorem dX9_teamNumber_120 : decode cX9_teamNumber 120 = .ok (.aload_n 0, 1) := by decide +kernel
theorem dX9_teamNumber_121 : decode cX9_teamNumber 121 = .ok (.iload_n 1, 1) := by decide +kernel
theorem dX9_teamNumber_122 : decode cX9_teamNumber 122 = .ok (.invokevirtual 84, 3) := by decide +kernel
theorem dX9_teamNumber_125 : decode cX9_teamNumber 125 = .ok (.ifCond .eq 7, 3) := by decide +kernel
theorem dX9_teamNumber_128 : decode cX9_teamNumber 128 = .ok (.iconst 1, 1) := by decide +kernel
theorem dX9_teamNumber_129 : decode cX9_teamNumber 129 = .ok (.goto 4, 3) := by decide +kernel
theorem dX9_teamNumber_132 : decode cX9_teamNumber 132 = .ok (.iconst 0, 1) := by decide +kernel
theorem dX9_teamNumber_133 : decode cX9_teamNumber 133 = .ok (.ireturn, 1) := by decide +kernel
theorem dX9_teamNumber_134 : decode cX9_teamNumber 134 = .ok (.aload_n 0, 1) := by decide +kernel
theorem dX9_teamNumber_135 : decode cX9_teamNumber 135 = .ok (.iload_n 1, 1) := by decide +kernel
theorem dX9_teamNumber_136 : decode cX9_teamNumber 136 = .ok (.invokevirtual 66, 3) := by decide +kernel
theorem dX9_teamNumber_139 : decode cX9_teamNumber 139 = .ok (.ifCond .eq 7, 3) := by decide +kernel
theorem dX9_teamNumber_142 : decode cX9_teamNumber 142 = .ok (.iconst 1, 1) := by decide +kernel
theorem dX9_teamNumber_143 : decode cX9_teamNumber 143 = .ok (.goto 4, 3) := by decide +kernel
theorem dX9_teamNumber_146 : decode cX9_teamNumber 146 = .ok (.iconst 0, 1) := by decide +kernel
theorem dX9_teamNumber_147 : decode cX9_teamNumber 147 = .ok (.ireturn, 1) := by decide +kernel
theorem dX9_team_0 : decode cX9_team 0 = .ok (.aload_n 0, 1) := by decide +kernel
theorem dX9_team_1 : decode cX9_team 1 = .ok (.iload_n 1, 1) := by decide +kernel
theorem dX9_team_2 : decode cX9_team 2 = .ok (.invokevirtual 78, 3) := by decide +kernel
theorem dX9_team_5 : decode cX9_team 5 = .ok (.ifCond .ne 9, 3) := by decide +kernel
theorem dX9_team_8 : decode cX9_team 8 = .ok (.aload_n 0, 1) := by decide +kernel
theorem dX9_team_9 : decode cX9_team 9 = .ok (.iconst 1, 1) := by decide +kernel
theorem dX9_team_10 : decode cX9_team 10 = .ok (.invokevirtual 40, 3) := by decide +kernel
theorem dX9_team_13 : decode cX9_team 13 = .ok (.ireturn, 1) := by decide +kernel
theorem dX9_team_14 : decode cX9_team 14 = .ok (.iload_n 2, 1) := by decide +kernel
theorem dX9_team_15 : decode cX9_team 15 = .ok (.iconst 0, 1) := by decide +kernel
theorem dX9_team_16 : decode cX9_team 16 = .ok (.bipush 10, 2) := by decide +kernel
theorem dX9_team_18 : decode cX9_team 18 = .ok (.invokestatic 29, 3) := by decide +kernel
theorem dX9_team_21 : decode cX9_team 21 = .ok (.ifCond .eq 16, 3) := by decide +kernel
theorem dX9_team_24 : decode cX9_team 24 = .ok (.aload_n 0, 1) := by decide +kernel
theorem dX9_team_25 : decode cX9_team 25 = .ok (.aload_n 0, 1) := by decide +kernel
theorem dX9_team_26 : decode cX9_team 26 = .ok (.iload_n 1, 1) := by decide +kernel
theorem dX9_team_27 : decode cX9_team 27 = .ok (.iload_n 2, 1) := by decide +kernel
theorem dX9_team_28 : decode cX9_team 28 = .ok (.invokevirtual 151, 3) := by decide +kernel
theorem dX9_team_31 : decode cX9_team 31 = .ok (.invokevirtual 50, 3) := by decide +kernel
theorem dX9_team_34 : decode cX9_team 34 = .ok (.goto 8, 3) := by decide +kernel
theorem dX9_team_37 : decode cX9_team 37 = .ok (.aload_n 0, 1) := by decide +kernel
theorem dX9_team_38 : decode cX9_team 38 = .ok (.iconst 2, 1) := by decide +kernel
theorem dX9_team_39 : decode cX9_team 39 = .ok (.invokevirtual 40, 3) := by decide +kernel
theorem dX9_team_42 : decode cX9_team 42 = .ok (.ireturn, 1) := by decide +kernel
theorem dX9_change_0 : decode cX9_change 0 = .ok (.aload_n 0, 1) := by decide +kernel
theorem dX9_change_1 : decode cX9_change 1 = .ok (.iload_n 1, 1) := by decide +kernel
theorem dX9_change_2 : decode cX9_change 2 = .ok (.invokevirtual 90, 3) := by decide +kernel
theorem dX9_change_5 : decode cX9_change 5 = .ok (.ifCond .ne 9, 3) := by decide +kernel
theorem dX9_change_8 : decode cX9_change 8 = .ok (.aload_n 0, 1) := by decide +kernel
theorem dX9_change_9 : decode cX9_change 9 = .ok (.iconst 1, 1) := by decide +kernel
theorem dX9_change_10 : decode cX9_change 10 = .ok (.invokevirtual 40, 3) := by decide +kernel
theorem dX9_change_13 : decode cX9_change 13 = .ok (.ireturn, 1) := by decide +kernel
theorem dX9_change_14 : decode cX9_change 14 = .ok (.iload_n 2, 1) := by decide +kernel
theorem dX9_change_15 : decode cX9_change 15 = .ok (.iconst 0, 1) := by decide +kernel
theorem dX9_change_16 : decode cX9_change 16 = .ok (.bipush 6, 2) := by decide +kernel
theorem dX9_change_18 : decode cX9_change 18 = .ok (.invokestatic 29, 3) := by decide +kernel
theorem dX9_change_21 : decode cX9_change 21 = .ok (.ifCond .eq 16, 3) := by decide +kernel
theorem dX9_change_24 : decode cX9_change 24 = .ok (.aload_n 0, 1) := by decide +kernel
theorem dX9_change_25 : decode cX9_change 25 = .ok (.aload_n 0, 1) := by decide +kernel
theorem dX9_change_26 : decode cX9_change 26 = .ok (.iload_n 1, 1) := by decide +kernel
theorem dX9_change_27 : decode cX9_change 27 = .ok (.iload_n 2, 1) := by decide +kernel
theorem dX9_change_28 : decode cX9_change 28 = .ok (.invokevirtual 56, 3) := by decide +kernel
theorem dX9_change_31 : decode cX9_change 31 = .ok (.invokevirtual 50, 3) := by decide +kernel
theorem dX9_change_34 : decode cX9_change 34 = .ok (.goto 8, 3) := by decide +kernel
theorem dX9_change_37 : decode cX9_change 37 = .ok (.aload_n 0, 1) := by decide +kernel
theorem dX9_change_38 : decode cX9_change 38 = .ok (.iconst 2, 1) := by decide +kernel
theorem dX9_change_39 : decode cX9_change 39 = .ok (.invokevirtual 40, 3) := by decide +kernel
theorem dX9_change_42 : decode cX9_change 42 = .ok (.ireturn, 1) := by decide +kernel
theorem dX9_loan_0 : decode cX9_loan 0 = .ok (.aload_n 0, 1) := by decide +kernel
theorem dX9_loan_1 : decode cX9_loan 1 = .ok (.iload_n 1, 1) := by decide +kernel
theorem dX9_loan_2 : decode cX9_loan 2 = .ok (.invokevirtual 100, 3) := by decide +kernel
theorem dX9_loan_5 : decode cX9_loan 5 = .ok (.ifCond .ne 9, 3) := by decide +kernel
theorem dX9_loan_8 : decode cX9_loan 8 = .ok (.aload_n 0, 1) := by decide +kernel
theorem dX9_loan_9 : decode cX9_loan 9 = .ok (.iconst 1, 1) := by decide +kernel
theorem dX9_loan_10 : decode cX9_loan 10 = .ok (.invokevirtual 40, 3) := by decide +kernel
theorem dX9_loan_13 : decode cX9_loan 13 = .ok (.ireturn, 1) := by decide +kernel
theorem dX9_loan_14 : decode cX9_loan 14 = .ok (.iload_n 2, 1) := by decide +kernel
theorem dX9_loan_15 : decode cX9_loan 15 = .ok (.iconst 0, 1) := by decide +kernel
theorem dX9_loan_16 : decode cX9_loan 16 = .ok (.iconst 5, 1) := by decide +kernel
theorem dX9_loan_17 : decode cX9_loan 17 = .ok (.invokestatic 29, 3) := by decide +kernel
theorem dX9_loan_20 : decode cX9_loan 20 = .ok (.ifCond .eq 16, 3) := by decide +kernel
theorem dX9_loan_23 : decode cX9_loan 23 = .ok (.aload_n 0, 1) := by decide +kernel
theorem dX9_loan_24 : decode cX9_loan 24 = .ok (.aload_n 0, 1) := by decide +kernel
theorem dX9_loan_25 : decode cX9_loan 25 = .ok (.iload_n 1, 1) := by decide +kernel
theorem dX9_loan_26 : decode cX9_loan 26 = .ok (.iload_n 2, 1) := by decide +kernel
theorem dX9_loan_27 : decode cX9_loan 27 = .ok (.invokevirtual 33, 3) := by decide +kernel
theorem dX9_loan_30 : decode cX9_loan 30 = .ok (.invokevirtual 50, 3) := by decide +kernel
theorem dX9_loan_33 : decode cX9_loan 33 = .ok (.goto 8, 3) := by decide +kernel
theorem dX9_loan_36 : decode cX9_loan 36 = .ok (.aload_n 0, 1) := by decide +kernel
theorem dX9_loan_37 : decode cX9_loan 37 = .ok (.iconst 2, 1) := by decide +kernel
theorem dX9_loan_38 : decode cX9_loan 38 = .ok (.invokevirtual 40, 3) := by decide +kernel
theorem dX9_loan_41 : decode cX9_loan 41 = .ok (.ireturn, 1) := by decide +kernel
theorem dX9_waits_0 : decode cX9_waits 0 = .ok (.iload_n 1, 1) := by decide +kernel
theorem dX9_waits_1 : decode cX9_waits 1 = .ok (.istore 4, 2) := by decide +kernel
theorem dX9_waits_3 : decode cX9_waits 3 = .ok (.iconst 1, 1) := by decide +kernel
theorem dX9_waits_4 : decode cX9_waits 4 = .ok (.istore 5, 2) := by decide +kernel
theorem dX9_waits_6 : decode cX9_waits 6 = .ok (.iload 5, 2) := by decide +kernel
theorem dX9_waits_8 : decode cX9_waits 8 = .ok (.bipush 10, 2) := by decide +kernel
theorem dX9_waits_10 : decode cX9_waits 10 = .ok (.if_icmp .ge 79, 3) := by decide +kernel
theorem dX9_waits_13 : decode cX9_waits 13 = .ok (.iconst 0, 1) := by decide +kernel
theorem dX9_waits_14 : decode cX9_waits 14 = .ok (.istore 6, 2) := by decide +kernel
theorem dX9_waits_16 : decode cX9_waits 16 = .ok (.iload 6, 2) := by decide +kernel
theorem dX9_waits_18 : decode cX9_waits 18 = .ok (.aload_n 0, 1) := by decide +kernel
theorem dX9_waits_19 : decode cX9_waits 19 = .ok (.getfield 7, 3) := by decide +kernel
theorem dX9_waits_22 : decode cX9_waits 22 = .ok (.iconst 2, 1) := by decide +kernel
theorem dX9_waits_23 : decode cX9_waits 23 = .ok (.iaload, 1) := by decide +kernel
theorem dX9_waits_24 : decode cX9_waits 24 = .ok (.if_icmp .ge 59, 3) := by decide +kernel
theorem dX9_waits_27 : decode cX9_waits 27 = .ok (.aload_n 0, 1) := by decide +kernel
theorem dX9_waits_28 : decode cX9_waits 28 = .ok (.iload 6, 2) := by decide +kernel
theorem dX9_waits_30 : decode cX9_waits 30 = .ok (.iconst 1, 1) := by decide +kernel
theorem dX9_waits_31 : decode cX9_waits 31 = .ok (.invokevirtual 56, 3) := by decide +kernel
theorem dX9_waits_34 : decode cX9_waits 34 = .ok (.iload 5, 2) := by decide +kernel
theorem dX9_waits_36 : decode cX9_waits 36 = .ok (.if_icmp .ne 41, 3) := by decide +kernel
theorem dX9_waits_39 : decode cX9_waits 39 = .ok (.aload_n 0, 1) := by decide +kernel
theorem dX9_waits_40 : decode cX9_waits 40 = .ok (.iload 6, 2) := by decide +kernel
theorem dX9_waits_42 : decode cX9_waits 42 = .ok (.iconst 2, 1) := by decide +kernel
theorem dX9_waits_43 : decode cX9_waits 43 = .ok (.invokevirtual 56, 3) := by decide +kernel
theorem dX9_waits_46 : decode cX9_waits 46 = .ok (.iload_n 3, 1) := by decide +kernel
theorem dX9_waits_47 : decode cX9_waits 47 = .ok (.if_icmp .gt 30, 3) := by decide +kernel
theorem dX9_waits_50 : decode cX9_waits 50 = .ok (.iload_n 2, 1) := by decide +kernel
theorem dX9_waits_51 : decode cX9_waits 51 = .ok (.iconst (-1), 1) := by decide +kernel
theorem dX9_waits_52 : decode cX9_waits 52 = .ok (.if_icmp .eq 14, 3) := by decide +kernel
theorem dX9_waits_55 : decode cX9_waits 55 = .ok (.aload_n 0, 1) := by decide +kernel
theorem dX9_waits_56 : decode cX9_waits 56 = .ok (.iload 6, 2) := by decide +kernel
theorem dX9_waits_58 : decode cX9_waits 58 = .ok (.iconst 0, 1) := by decide +kernel
theorem dX9_waits_59 : decode cX9_waits 59 = .ok (.invokevirtual 56, 3) := by decide +kernel
theorem dX9_waits_62 : decode cX9_waits 62 = .ok (.iload_n 2, 1) := by decide +kernel
theorem dX9_waits_63 : decode cX9_waits 63 = .ok (.if_icmp .ne 14, 3) := by decide +kernel
theorem dX9_waits_66 : decode cX9_waits 66 = .ok (.iload 4, 2) := by decide +kernel
theorem dX9_waits_68 : decode cX9_waits 68 = .ok (.ifCond .ne 6, 3) := by decide +kernel
theorem dX9_waits_71 : decode cX9_waits 71 = .ok (.iload 6, 2) := by decide +kernel
theorem dX9_waits_73 : decode cX9_waits 73 = .ok (.ireturn, 1) := by decide +kernel
theorem dX9_waits_74 : decode cX9_waits 74 = .ok (.iinc 4 (-1), 3) := by decide +kernel
theorem dX9_waits_77 : decode cX9_waits 77 = .ok (.iinc 6 1, 3) := by decide +kernel
theorem dX9_waits_80 : decode cX9_waits 80 = .ok (.goto (-64), 3) := by decide +kernel
theorem dX9_waits_83 : decode cX9_waits 83 = .ok (.iinc 5 1, 3) := by decide +kernel
theorem dX9_waits_86 : decode cX9_waits 86 = .ok (.goto (-80), 3) := by decide +kernel
theorem dX9_waits_89 : decode cX9_waits 89 = .ok (.iconst (-1), 1) := by decide +kernel
theorem dX9_waits_90 : decode cX9_waits 90 = .ok (.ireturn, 1) := by decide +kernel
theorem dX9_waiting_0 : decode cX9_waiting 0 = .ok (.iload_n 1, 1) := by decide +kernel
theorem dX9_waiting_1 : decode cX9_waiting 1 = .ok (.ifCond .ge 11, 3) := by decide +kernel
theorem dX9_waiting_4 : decode cX9_waiting 4 = .ok (.aload_n 0, 1) := by decide +kernel
theorem dX9_waiting_5 : decode cX9_waiting 5 = .ok (.iconst 1, 1) := by decide +kernel
theorem dX9_waiting_6 : decode cX9_waiting 6 = .ok (.invokevirtual 40, 3) := by decide +kernel
theorem dX9_waiting_9 : decode cX9_waiting 9 = .ok (.goto 14, 3) := by decide +kernel
theorem dX9_waiting_12 : decode cX9_waiting 12 = .ok (.aload_n 0, 1) := by decide +kernel
theorem dX9_waiting_13 : decode cX9_waiting 13 = .ok (.aload_n 0, 1) := by decide +kernel
theorem dX9_waiting_14 : decode cX9_waiting 14 = .ok (.iload_n 1, 1) := by decide +kernel
theorem dX9_waiting_15 : decode cX9_waiting 15 = .ok (.iconst (-1), 1) := by decide +kernel
theorem dX9_waiting_16 : decode cX9_waiting 16 = .ok (.iconst 1, 1) := by decide +kernel
theorem dX9_waiting_17 : decode cX9_waiting 17 = .ok (.invokevirtual 154, 3) := by decide +kernel
theorem dX9_waiting_20 : decode cX9_waiting 20 = .ok (.invokevirtual 50, 3) := by decide +kernel
theorem dX9_waiting_23 : decode cX9_waiting 23 = .ok (.ireturn, 1) := by decide +kernel
theorem dX9_frozen_0 : decode cX9_frozen 0 = .ok (.iload_n 1, 1) := by decide +kernel
theorem dX9_frozen_1 : decode cX9_frozen 1 = .ok (.iconst 0, 1) := by decide +kernel
theorem dX9_frozen_2 : decode cX9_frozen 2 = .ok (.bipush 39, 2) := by decide +kernel
theorem dX9_frozen_4 : decode cX9_frozen 4 = .ok (.invokestatic 29, 3) := by decide +kernel
theorem dX9_frozen_7 : decode cX9_frozen 7 = .ok (.ifCond .eq 19, 3) := by decide +kernel
theorem dX9_frozen_10 : decode cX9_frozen 10 = .ok (.aload_n 0, 1) := by decide +kernel
theorem dX9_frozen_11 : decode cX9_frozen 11 = .ok (.aload_n 0, 1) := by decide +kernel
theorem dX9_frozen_12 : decode cX9_frozen 12 = .ok (.getfield 7, 3) := by decide +kernel
theorem dX9_frozen_15 : decode cX9_frozen 15 = .ok (.bipush 9, 2) := by decide +kernel
theorem dX9_frozen_17 : decode cX9_frozen 17 = .ok (.iload_n 1, 1) := by decide +kernel
theorem dX9_frozen_18 : decode cX9_frozen 18 = .ok (.iadd, 1) := by decide +kernel
theorem dX9_frozen_19 : decode cX9_frozen 19 = .ok (.iaload, 1) := by decide +kernel
theorem dX9_frozen_20 : decode cX9_frozen 20 = .ok (.invokevirtual 50, 3) := by decide +kernel
theorem dX9_frozen_23 : decode cX9_frozen 23 = .ok (.goto 8, 3) := by decide +kernel
theorem dX9_frozen_26 : decode cX9_frozen 26 = .ok (.aload_n 0, 1) := by decide +kernel
theorem dX9_frozen_27 : decode cX9_frozen 27 = .ok (.iconst 1, 1) := by decide +kernel
theorem dX9_frozen_28 : decode cX9_frozen 28 = .ok (.invokevirtual 40, 3) := by decide +kernel
theorem dX9_frozen_31 : decode cX9_frozen 31 = .ok (.ireturn, 1) := by decide +kernel
theorem dX9_sum_0 : decode cX9_sum 0 = .ok (.iconst 0, 1) := by decide +kernel
theorem dX9_sum_1 : decode cX9_sum 1 = .ok (.istore_n 2, 1) := by decide +kernel
theorem dX9_sum_2 : decode cX9_sum 2 = .ok (.iconst 0, 1) := by decide +kernel
theorem dX9_sum_3 : decode cX9_sum 3 = .ok (.istore_n 3, 1) := by decide +kernel
theorem dX9_sum_4 : decode cX9_sum 4 = .ok (.iload_n 3, 1) := by decide +kernel
theorem dX9_sum_5 : decode cX9_sum 5 = .ok (.aload_n 0, 1) := by decide +kernel
theorem dX9_sum_6 : decode cX9_sum 6 = .ok (.getfield 7, 3) := by decide +kernel
theorem dX9_sum_9 : decode cX9_sum 9 = .ok (.iconst 1, 1) := by decide +kernel
theorem dX9_sum_10 : decode cX9_sum 10 = .ok (.iaload, 1) := by decide +kernel
theorem dX9_sum_11 : decode cX9_sum 11 = .ok (.if_icmp .ge 18, 3) := by decide +kernel
theorem dX9_sum_14 : decode cX9_sum 14 = .ok (.iload_n 2, 1) := by decide +kernel
theorem dX9_sum_15 : decode cX9_sum 15 = .ok (.aload_n 0, 1) := by decide +kernel
theorem dX9_sum_16 : decode cX9_sum 16 = .ok (.iload_n 3, 1) := by decide +kernel
theorem dX9_sum_17 : decode cX9_sum 17 = .ok (.iload_n 1, 1) := by decide +kernel
theorem dX9_sum_18 : decode cX9_sum 18 = .ok (.invokevirtual 63, 3) := by decide +kernel
theorem dX9_sum_21 : decode cX9_sum 21 = .ok (.iadd, 1) := by decide +kernel
theorem dX9_sum_22 : decode cX9_sum 22 = .ok (.istore_n 2, 1) := by decide +kernel
theorem dX9_sum_23 : decode cX9_sum 23 = .ok (.iinc 3 1, 3) := by decide +kernel
theorem dX9_sum_26 : decode cX9_sum 26 = .ok (.goto (-22), 3) := by decide +kernel
theorem dX9_sum_29 : decode cX9_sum 29 = .ok (.iload_n 2, 1) := by decide +kernel
theorem dX9_sum_30 : decode cX9_sum 30 = .ok (.ireturn, 1) := by decide +kernel
theorem dX9_openLoans_0 : decode cX9_openLoans 0 = .ok (.iconst 0, 1) := by decide +kernel
theorem dX9_openLoans_1 : decode cX9_openLoans 1 = .ok (.istore_n 1, 1) := by decide +kernel
theorem dX9_openLoans_2 : decode cX9_openLoans 2 = .ok (.iconst 0, 1) := by decide +kernel
theorem dX9_openLoans_3 : decode cX9_openLoans 3 = .ok (.istore_n 2, 1) := by decide +kernel
theorem dX9_openLoans_4 : decode cX9_openLoans 4 = .ok (.iload_n 2, 1) := by decide +kernel
theorem dX9_openLoans_5 : decode cX9_openLoans 5 = .ok (.aload_n 0, 1) := by decide +kernel
theorem dX9_openLoans_6 : decode cX9_openLoans 6 = .ok (.getfield 7, 3) := by decide +kernel
theorem dX9_openLoans_9 : decode cX9_openLoans 9 = .ok (.iconst 3, 1) := by decide +kernel
theorem dX9_openLoans_10 : decode cX9_openLoans 10 = .ok (.iaload, 1) := by decide +kernel
theorem dX9_openLoans_11 : decode cX9_openLoans 11 = .ok (.if_icmp .ge 26, 3) := by decide +kernel
theorem dX9_openLoans_14 : decode cX9_openLoans 14 = .ok (.iload_n 1, 1) := by decide +kernel
theorem dX9_openLoans_15 : decode cX9_openLoans 15 = .ok (.aload_n 0, 1) := by decide +kernel
theorem dX9_openLoans_16 : decode cX9_openLoans 16 = .ok (.iload_n 2, 1) := by decide +kernel
theorem dX9_openLoans_17 : decode cX9_openLoans 17 = .ok (.iconst 3, 1) := by decide +kernel
theorem dX9_openLoans_18 : decode cX9_openLoans 18 = .ok (.invokevirtual 33, 3) := by decide +kernel
theorem dX9_openLoans_21 : decode cX9_openLoans 21 = .ok (.ifCond .le 7, 3) := by decide +kernel
theorem dX9_openLoans_24 : decode cX9_openLoans 24 = .ok (.iconst 1, 1) := by decide +kernel
theorem dX9_openLoans_25 : decode cX9_openLoans 25 = .ok (.goto 4, 3) := by decide +kernel
theorem dX9_openLoans_28 : decode cX9_openLoans 28 = .ok (.iconst 0, 1) := by decide +kernel
theorem dX9_openLoans_29 : decode cX9_openLoans 29 = .ok (.iadd, 1) := by decide +kernel
theorem dX9_openLoans_30 : decode cX9_openLoans 30 = .ok (.istore_n 1, 1) := by decide +kernel
theorem dX9_openLoans_31 : decode cX9_openLoans 31 = .ok (.iinc 2 1, 3) := by decide +kernel
theorem dX9_openLoans_34 : decode cX9_openLoans 34 = .ok (.goto (-30), 3) := by decide +kernel
theorem dX9_openLoans_37 : decode cX9_openLoans 37 = .ok (.iload_n 1, 1) := by decide +kernel
theorem dX9_openLoans_38 : decode cX9_openLoans 38 = .ok (.ireturn, 1) := by decide +kernel
theorem dX9_owing_0 : decode cX9_owing 0 = .ok (.iconst 0, 1) := by decide +kernel
theorem dX9_owing_1 : decode cX9_owing 1 = .ok (.istore_n 1, 1) := by decide +kernel
theorem dX9_owing_2 : decode cX9_owing 2 = .ok (.iconst 0, 1) := by decide +kernel
theorem dX9_owing_3 : decode cX9_owing 3 = .ok (.istore_n 2, 1) := by decide +kernel
theorem dX9_owing_4 : decode cX9_owing 4 = .ok (.iload_n 2, 1) := by decide +kernel
theorem dX9_owing_5 : decode cX9_owing 5 = .ok (.aload_n 0, 1) := by decide +kernel
theorem dX9_owing_6 : decode cX9_owing 6 = .ok (.getfield 7, 3) := by decide +kernel
theorem dX9_owing_9 : decode cX9_owing 9 = .ok (.iconst 1, 1) := by decide +kernel
theorem dX9_owing_10 : decode cX9_owing 10 = .ok (.iaload, 1) := by decide +kernel
theorem dX9_owing_11 : decode cX9_owing 11 = .ok (.if_icmp .ge 25, 3) := by decide +kernel
theorem dX9_owing_14 : decode cX9_owing 14 = .ok (.iload_n 1, 1) := by decide +kernel
theorem dX9_owing_15 : decode cX9_owing 15 = .ok (.aload_n 0, 1) := by decide +kernel
theorem dX9_owing_16 : decode cX9_owing 16 = .ok (.iload_n 2, 1) := by decide +kernel
theorem dX9_owing_17 : decode cX9_owing 17 = .ok (.invokevirtual 84, 3) := by decide +kernel
theorem dX9_owing_20 : decode cX9_owing 20 = .ok (.ifCond .eq 7, 3) := by decide +kernel
theorem dX9_owing_23 : decode cX9_owing 23 = .ok (.iconst 1, 1) := by decide +kernel
theorem dX9_owing_24 : decode cX9_owing 24 = .ok (.goto 4, 3) := by decide +kernel
theorem dX9_owing_27 : decode cX9_owing 27 = .ok (.iconst 0, 1) := by decide +kernel
theorem dX9_owing_28 : decode cX9_owing 28 = .ok (.iadd, 1) := by decide +kernel
theorem dX9_owing_29 : decode cX9_owing 29 = .ok (.istore_n 1, 1) := by decide +kernel
theorem dX9_owing_30 : decode cX9_owing 30 = .ok (.iinc 2 1, 3) := by decide +kernel
theorem dX9_owing_33 : decode cX9_owing 33 = .ok (.goto (-29), 3) := by decide +kernel
theorem dX9_owing_36 : decode cX9_owing 36 = .ok (.iload_n 1, 1) := by decide +kernel
theorem dX9_owing_37 : decode cX9_owing 37 = .ok (.ireturn, 1) := by decide +kernel
theorem dX9_number_0 : decode cX9_number 0 = .ok (.iload_n 1, 1) := by decide +kernel
theorem dX9_number_1 : decode cX9_number 1 = .ok (.tableswitch 170 0 16 #[83, 83, 83, 92, 97, 97, 97, 97, 108, 115, 126, 132, 138, 146, 152, 158, 165], 83) := by decide +kernel
theorem dX9_number_84 : decode cX9_number 84 = .ok (.aload_n 0, 1) := by decide +kernel
theorem dX9_number_85 : decode cX9_number 85 = .ok (.getfield 7, 3) := by decide +kernel
theorem dX9_number_88 : decode cX9_number 88 = .ok (.iconst 1, 1) := by decide +kernel
theorem dX9_number_89 : decode cX9_number 89 = .ok (.iload_n 1, 1) := by decide +kernel
theorem dX9_number_90 : decode cX9_number 90 = .ok (.iadd, 1) := by decide +kernel
theorem dX9_number_91 : decode cX9_number 91 = .ok (.iaload, 1) := by decide +kernel
theorem dX9_number_92 : decode cX9_number 92 = .ok (.ireturn, 1) := by decide +kernel
theorem dX9_number_93 : decode cX9_number 93 = .ok (.aload_n 0, 1) := by decide +kernel
theorem dX9_number_94 : decode cX9_number 94 = .ok (.invokevirtual 157, 3) := by decide +kernel
theorem dX9_number_97 : decode cX9_number 97 = .ok (.ireturn, 1) := by decide +kernel
theorem dX9_number_98 : decode cX9_number 98 = .ok (.aload_n 0, 1) := by decide +kernel
theorem dX9_number_99 : decode cX9_number 99 = .ok (.getfield 7, 3) := by decide +kernel
theorem dX9_number_102 : decode cX9_number 102 = .ok (.iconst 4, 1) := by decide +kernel
theorem dX9_number_103 : decode cX9_number 103 = .ok (.iload_n 1, 1) := by decide +kernel
theorem dX9_number_104 : decode cX9_number 104 = .ok (.iadd, 1) := by decide +kernel
theorem dX9_number_105 : decode cX9_number 105 = .ok (.iconst 4, 1) := by decide +kernel
theorem dX9_number_106 : decode cX9_number 106 = .ok (.isub, 1) := by decide +kernel
theorem dX9_number_107 : decode cX9_number 107 = .ok (.iaload, 1) := by decide +kernel
theorem dX9_number_108 : decode cX9_number 108 = .ok (.ireturn, 1) := by decide +kernel
theorem dX9_number_109 : decode cX9_number 109 = .ok (.aload_n 0, 1) := by decide +kernel
theorem dX9_number_110 : decode cX9_number 110 = .ok (.getfield 7, 3) := by decide +kernel
theorem dX9_number_113 : decode cX9_number 113 = .ok (.iconst 0, 1) := by decide +kernel
theorem dX9_number_114 : decode cX9_number 114 = .ok (.iaload, 1) := by decide +kernel
theorem dX9_number_115 : decode cX9_number 115 = .ok (.ireturn, 1) := by decide +kernel
theorem dX9_number_116 : decode cX9_number 116 = .ok (.aload_n 0, 1) := by decide +kernel
theorem dX9_number_117 : decode cX9_number 117 = .ok (.aload_n 0, 1) := by decide +kernel
theorem dX9_number_118 : decode cX9_number 118 = .ok (.getfield 7, 3) := by decide +kernel
theorem dX9_number_121 : decode cX9_number 121 = .ok (.iconst 0, 1) := by decide +kernel
theorem dX9_number_122 : decode cX9_number 122 = .ok (.iaload, 1) := by decide +kernel
theorem dX9_number_123 : decode cX9_number 123 = .ok (.invokevirtual 53, 3) := by decide +kernel
theorem dX9_number_126 : decode cX9_number 126 = .ok (.ireturn, 1) := by decide +kernel
theorem dX9_number_127 : decode cX9_number 127 = .ok (.aload_n 0, 1) := by decide +kernel
theorem dX9_number_128 : decode cX9_number 128 = .ok (.iconst 0, 1) := by decide +kernel
theorem dX9_number_129 : decode cX9_number 129 = .ok (.invokevirtual 160, 3) := by decide +kernel
theorem dX9_number_132 : decode cX9_number 132 = .ok (.ireturn, 1) := by decide +kernel
theorem dX9_number_133 : decode cX9_number 133 = .ok (.aload_n 0, 1) := by decide +kernel
theorem dX9_number_134 : decode cX9_number 134 = .ok (.iconst (-1), 1) := by decide +kernel
theorem dX9_number_135 : decode cX9_number 135 = .ok (.invokevirtual 142, 3) := by decide +kernel
theorem dX9_number_138 : decode cX9_number 138 = .ok (.ireturn, 1) := by decide +kernel
theorem dX9_number_139 : decode cX9_number 139 = .ok (.aload_n 0, 1) := by decide +kernel
theorem dX9_number_140 : decode cX9_number 140 = .ok (.getfield 7, 3) := by decide +kernel
theorem dX9_number_143 : decode cX9_number 143 = .ok (.bipush 8, 2) := by decide +kernel
theorem dX9_number_145 : decode cX9_number 145 = .ok (.iaload, 1) := by decide +kernel
theorem dX9_number_146 : decode cX9_number 146 = .ok (.ireturn, 1) := by decide +kernel
theorem dX9_number_147 : decode cX9_number 147 = .ok (.aload_n 0, 1) := by decide +kernel
theorem dX9_number_148 : decode cX9_number 148 = .ok (.iconst 1, 1) := by decide +kernel
theorem dX9_number_149 : decode cX9_number 149 = .ok (.invokevirtual 160, 3) := by decide +kernel
theorem dX9_number_152 : decode cX9_number 152 = .ok (.ireturn, 1) := by decide +kernel
theorem dX9_number_153 : decode cX9_number 153 = .ok (.aload_n 0, 1) := by decide +kernel
theorem dX9_number_154 : decode cX9_number 154 = .ok (.iconst 2, 1) := by decide +kernel
theorem dX9_number_155 : decode cX9_number 155 = .ok (.invokevirtual 160, 3) := by decide +kernel
theorem dX9_number_158 : decode cX9_number 158 = .ok (.ireturn, 1) := by decide +kernel
theorem dX9_number_159 : decode cX9_number 159 = .ok (.aload_n 0, 1) := by decide +kernel
theorem dX9_number_160 : decode cX9_number 160 = .ok (.iconst (-1), 1) := by decide +kernel
theorem dX9_number_161 : decode cX9_number 161 = .ok (.iconst 1, 1) := by decide +kernel
theorem dX9_number_162 : decode cX9_number 162 = .ok (.invokevirtual 145, 3) := by decide +kernel
theorem dX9_number_165 : decode cX9_number 165 = .ok (.ireturn, 1) := by decide +kernel
theorem dX9_number_166 : decode cX9_number 166 = .ok (.aload_n 0, 1) := by decide +kernel
theorem dX9_number_167 : decode cX9_number 167 = .ok (.invokevirtual 163, 3) := by decide +kernel
theorem dX9_number_170 : decode cX9_number 170 = .ok (.ireturn, 1) := by decide +kernel
theorem dX9_number_171 : decode cX9_number 171 = .ok (.aload_n 0, 1) := by decide +kernel
theorem dX9_number_172 : decode cX9_number 172 = .ok (.getfield 166, 3) := by decide +kernel
theorem dX9_number_175 : decode cX9_number 175 = .ok (.ireturn, 1) := by decide +kernel
theorem dX9_whole_0 : decode cX9_whole 0 = .ok (.iload_n 1, 1) := by decide +kernel
theorem dX9_whole_1 : decode cX9_whole 1 = .ok (.iconst 0, 1) := by decide +kernel
theorem dX9_whole_2 : decode cX9_whole 2 = .ok (.bipush 17, 2) := by decide +kernel
theorem dX9_whole_4 : decode cX9_whole 4 = .ok (.invokestatic 29, 3) := by decide +kernel
theorem dX9_whole_7 : decode cX9_whole 7 = .ok (.ifCond .eq 15, 3) := by decide +kernel
theorem dX9_whole_10 : decode cX9_whole 10 = .ok (.aload_n 0, 1) := by decide +kernel
theorem dX9_whole_11 : decode cX9_whole 11 = .ok (.aload_n 0, 1) := by decide +kernel
theorem dX9_whole_12 : decode cX9_whole 12 = .ok (.iload_n 1, 1) := by decide +kernel
theorem dX9_whole_13 : decode cX9_whole 13 = .ok (.invokevirtual 169, 3) := by decide +kernel
theorem dX9_whole_16 : decode cX9_whole 16 = .ok (.invokevirtual 50, 3) := by decide +kernel
theorem dX9_whole_19 : decode cX9_whole 19 = .ok (.goto 8, 3) := by decide +kernel
theorem dX9_whole_22 : decode cX9_whole 22 = .ok (.aload_n 0, 1) := by decide +kernel
theorem dX9_whole_23 : decode cX9_whole 23 = .ok (.iconst 1, 1) := by decide +kernel
theorem dX9_whole_24 : decode cX9_whole 24 = .ok (.invokevirtual 40, 3) := by decide +kernel
theorem dX9_whole_27 : decode cX9_whole 27 = .ok (.ireturn, 1) := by decide +kernel
theorem dX9_reason_0 : decode cX9_reason 0 = .ok (.aload_n 0, 1) := by decide +kernel
theorem dX9_reason_1 : decode cX9_reason 1 = .ok (.iload_n 1, 1) := by decide +kernel
theorem dX9_reason_2 : decode cX9_reason 2 = .ok (.invokevirtual 90, 3) := by decide +kernel
theorem dX9_reason_5 : decode cX9_reason 5 = .ok (.ifCond .eq 15, 3) := by decide +kernel
theorem dX9_reason_8 : decode cX9_reason 8 = .ok (.aload_n 0, 1) := by decide +kernel
theorem dX9_reason_9 : decode cX9_reason 9 = .ok (.aload_n 0, 1) := by decide +kernel
theorem dX9_reason_10 : decode cX9_reason 10 = .ok (.iload_n 1, 1) := by decide +kernel
theorem dX9_reason_11 : decode cX9_reason 11 = .ok (.invokevirtual 93, 3) := by decide +kernel
theorem dX9_reason_14 : decode cX9_reason 14 = .ok (.invokevirtual 50, 3) := by decide +kernel
theorem dX9_reason_17 : decode cX9_reason 17 = .ok (.goto 8, 3) := by decide +kernel
theorem dX9_reason_20 : decode cX9_reason 20 = .ok (.aload_n 0, 1) := by decide +kernel
theorem dX9_reason_21 : decode cX9_reason 21 = .ok (.iconst 1, 1) := by decide +kernel
theorem dX9_reason_22 : decode cX9_reason 22 = .ok (.invokevirtual 40, 3) := by decide +kernel
theorem dX9_reason_25 : decode cX9_reason 25 = .ok (.ireturn, 1) := by decide +kernel
theorem dX9_couldExempt_0 : decode cX9_couldExempt 0 = .ok (.aload_n 0, 1) := by decide +kernel
theorem dX9_couldExempt_1 : decode cX9_couldExempt 1 = .ok (.iload_n 1, 1) := by decide +kernel
theorem dX9_couldExempt_2 : decode cX9_couldExempt 2 = .ok (.invokevirtual 84, 3) := by decide +kernel
theorem dX9_couldExempt_5 : decode cX9_couldExempt 5 = .ok (.ifCond .eq 7, 3) := by decide +kernel
theorem dX9_couldExempt_8 : decode cX9_couldExempt 8 = .ok (.iconst (-1), 1) := by decide +kernel
theorem dX9_couldExempt_9 : decode cX9_couldExempt 9 = .ok (.goto 9, 3) := by decide +kernel
theorem dX9_couldExempt_12 : decode cX9_couldExempt 12 = .ok (.aload_n 0, 1) := by decide +kernel
theorem dX9_couldExempt_13 : decode cX9_couldExempt 13 = .ok (.iload_n 1, 1) := by decide +kernel
theorem dX9_couldExempt_14 : decode cX9_couldExempt 14 = .ok (.iconst 0, 1) := by decide +kernel
theorem dX9_couldExempt_15 : decode cX9_couldExempt 15 = .ok (.invokevirtual 63, 3) := by decide +kernel
theorem dX9_couldExempt_18 : decode cX9_couldExempt 18 = .ok (.istore_n 2, 1) := by decide +kernel
theorem dX9_couldExempt_19 : decode cX9_couldExempt 19 = .ok (.iconst 0, 1) := by decide +kernel
theorem dX9_couldExempt_20 : decode cX9_couldExempt 20 = .ok (.istore_n 3, 1) := by decide +kernel
theorem dX9_couldExempt_21 : decode cX9_couldExempt 21 = .ok (.aload_n 0, 1) := by decide +kernel
theorem dX9_couldExempt_22 : decode cX9_couldExempt 22 = .ok (.iconst 0, 1) := by decide +kernel
theorem dX9_couldExempt_23 : decode cX9_couldExempt 23 = .ok (.iload_n 1, 1) := by decide +kernel
theorem dX9_couldExempt_24 : decode cX9_couldExempt 24 = .ok (.iconst 0, 1) := by decide +kernel
theorem dX9_couldExempt_25 : decode cX9_couldExempt 25 = .ok (.invokevirtual 154, 3) := by decide +kernel
theorem dX9_couldExempt_28 : decode cX9_couldExempt 28 = .ok (.istore 4, 2) := by decide +kernel
theorem dX9_couldExempt_30 : decode cX9_couldExempt 30 = .ok (.iload 4, 2) := by decide +kernel
theorem dX9_couldExempt_32 : decode cX9_couldExempt 32 = .ok (.iconst (-1), 1) := by decide +kernel
theorem dX9_couldExempt_33 : decode cX9_couldExempt 33 = .ok (.if_icmp .eq 38, 3) := by decide +kernel
theorem dX9_couldExempt_36 : decode cX9_couldExempt 36 = .ok (.iload_n 2, 1) := by decide +kernel
theorem dX9_couldExempt_37 : decode cX9_couldExempt 37 = .ok (.aload_n 0, 1) := by decide +kernel
theorem dX9_couldExempt_38 : decode cX9_couldExempt 38 = .ok (.aload_n 0, 1) := by decide +kernel
theorem dX9_couldExempt_39 : decode cX9_couldExempt 39 = .ok (.iload 4, 2) := by decide +kernel
theorem dX9_couldExempt_41 : decode cX9_couldExempt 41 = .ok (.iconst 1, 1) := by decide +kernel
theorem dX9_couldExempt_42 : decode cX9_couldExempt 42 = .ok (.invokevirtual 56, 3) := by decide +kernel
theorem dX9_couldExempt_45 : decode cX9_couldExempt 45 = .ok (.invokevirtual 87, 3) := by decide +kernel
theorem dX9_couldExempt_48 : decode cX9_couldExempt 48 = .ok (.isub, 1) := by decide +kernel
theorem dX9_couldExempt_49 : decode cX9_couldExempt 49 = .ok (.istore_n 2, 1) := by decide +kernel
theorem dX9_couldExempt_50 : decode cX9_couldExempt 50 = .ok (.iload_n 2, 1) := by decide +kernel
theorem dX9_couldExempt_51 : decode cX9_couldExempt 51 = .ok (.ifCond .ge 5, 3) := by decide +kernel
theorem dX9_couldExempt_54 : decode cX9_couldExempt 54 = .ok (.iload_n 3, 1) := by decide +kernel
theorem dX9_couldExempt_55 : decode cX9_couldExempt 55 = .ok (.ireturn, 1) := by decide +kernel
theorem dX9_couldExempt_56 : decode cX9_couldExempt 56 = .ok (.iinc 3 1, 3) := by decide +kernel
theorem dX9_couldExempt_59 : decode cX9_couldExempt 59 = .ok (.aload_n 0, 1) := by decide +kernel
theorem dX9_couldExempt_60 : decode cX9_couldExempt 60 = .ok (.iload_n 3, 1) := by decide +kernel
theorem dX9_couldExempt_61 : decode cX9_couldExempt 61 = .ok (.iload_n 1, 1) := by decide +kernel
theorem dX9_couldExempt_62 : decode cX9_couldExempt 62 = .ok (.iconst 0, 1) := by decide +kernel
theorem dX9_couldExempt_63 : decode cX9_couldExempt 63 = .ok (.invokevirtual 154, 3) := by decide +kernel
theorem dX9_couldExempt_66 : decode cX9_couldExempt 66 = .ok (.istore 4, 2) := by decide +kernel
theorem dX9_couldExempt_68 : decode cX9_couldExempt 68 = .ok (.goto (-38), 3) := by decide +kernel
theorem dX9_couldExempt_71 : decode cX9_couldExempt 71 = .ok (.iload_n 3, 1) := by decide +kernel
theorem dX9_couldExempt_72 : decode cX9_couldExempt 72 = .ok (.ireturn, 1) := by decide +kernel
theorem dX9_exemptible_0 : decode cX9_exemptible 0 = .ok (.aload_n 0, 1) := by decide +kernel
theorem dX9_exemptible_1 : decode cX9_exemptible 1 = .ok (.iload_n 1, 1) := by decide +kernel
theorem dX9_exemptible_2 : decode cX9_exemptible 2 = .ok (.invokevirtual 78, 3) := by decide +kernel
theorem dX9_exemptible_5 : decode cX9_exemptible 5 = .ok (.ifCond .eq 15, 3) := by decide +kernel
theorem dX9_exemptible_8 : decode cX9_exemptible 8 = .ok (.aload_n 0, 1) := by decide +kernel
theorem dX9_exemptible_9 : decode cX9_exemptible 9 = .ok (.aload_n 0, 1) := by decide +kernel
theorem dX9_exemptible_10 : decode cX9_exemptible 10 = .ok (.iload_n 1, 1) := by decide +kernel
theorem dX9_exemptible_11 : decode cX9_exemptible 11 = .ok (.invokevirtual 172, 3) := by decide +kernel
theorem dX9_exemptible_14 : decode cX9_exemptible 14 = .ok (.invokevirtual 50, 3) := by decide +kernel
theorem dX9_exemptible_17 : decode cX9_exemptible 17 = .ok (.goto 8, 3) := by decide +kernel
theorem dX9_exemptible_20 : decode cX9_exemptible 20 = .ok (.aload_n 0, 1) := by decide +kernel
theorem dX9_exemptible_21 : decode cX9_exemptible 21 = .ok (.iconst 1, 1) := by decide +kernel
theorem dX9_exemptible_22 : decode cX9_exemptible 22 = .ok (.invokevirtual 40, 3) := by decide +kernel
theorem dX9_exemptible_25 : decode cX9_exemptible 25 = .ok (.ireturn, 1) := by decide +kernel
theorem dX9_weeksUntil_0 : decode cX9_weeksUntil 0 = .ok (.aload_n 0, 1) := by decide +kernel
theorem dX9_weeksUntil_1 : decode cX9_weeksUntil 1 = .ok (.iload_n 1, 1) := by decide +kernel
theorem dX9_weeksUntil_2 : decode cX9_weeksUntil 2 = .ok (.invokevirtual 78, 3) := by decide +kernel
theorem dX9_weeksUntil_5 : decode cX9_weeksUntil 5 = .ok (.ifCond .ne 9, 3) := by decide +kernel
theorem dX9_weeksUntil_8 : decode cX9_weeksUntil 8 = .ok (.aload_n 0, 1) := by decide +kernel
theorem dX9_weeksUntil_9 : decode cX9_weeksUntil 9 = .ok (.iconst 1, 1) := by decide +kernel
theorem dX9_weeksUntil_10 : decode cX9_weeksUntil 10 = .ok (.invokevirtual 40, 3) := by decide +kernel
theorem dX9_weeksUntil_13 : decode cX9_weeksUntil 13 = .ok (.ireturn, 1) := by decide +kernel
theorem dX9_weeksUntil_14 : decode cX9_weeksUntil 14 = .ok (.iload_n 2, 1) := by decide +kernel
theorem dX9_weeksUntil_15 : decode cX9_weeksUntil 15 = .ok (.iconst 1, 1) := by decide +kernel
theorem dX9_weeksUntil_16 : decode cX9_weeksUntil 16 = .ok (.bipush 9, 2) := by decide +kernel
theorem dX9_weeksUntil_18 : decode cX9_weeksUntil 18 = .ok (.invokestatic 29, 3) := by decide +kernel
theorem dX9_weeksUntil_21 : decode cX9_weeksUntil 21 = .ok (.ifCond .ne 9, 3) := by decide +kernel
theorem dX9_weeksUntil_24 : decode cX9_weeksUntil 24 = .ok (.aload_n 0, 1) := by decide +kernel
theorem dX9_weeksUntil_25 : decode cX9_weeksUntil 25 = .ok (.iconst 2, 1) := by decide +kernel
theorem dX9_weeksUntil_26 : decode cX9_weeksUntil 26 = .ok (.invokevirtual 40, 3) := by decide +kernel
theorem dX9_weeksUntil_29 : decode cX9_weeksUntil 29 = .ok (.ireturn, 1) := by decide +kernel
theorem dX9_weeksUntil_30 : decode cX9_weeksUntil 30 = .ok (.aload_n 0, 1) := by decide +kernel
theorem dX9_weeksUntil_31 : decode cX9_weeksUntil 31 = .ok (.invokevirtual 103, 3) := by decide +kernel
theorem dX9_weeksUntil_34 : decode cX9_weeksUntil 34 = .ok (.iconst 0, 1) := by decide +kernel
theorem dX9_weeksUntil_35 : decode cX9_weeksUntil 35 = .ok (.istore_n 3, 1) := by decide +kernel
theorem dX9_weeksUntil_36 : decode cX9_weeksUntil 36 = .ok (.aload_n 0, 1) := by decide +kernel
theorem dX9_weeksUntil_37 : decode cX9_weeksUntil 37 = .ok (.iload_n 1, 1) := by decide +kernel
theorem dX9_weeksUntil_38 : decode cX9_weeksUntil 38 = .ok (.iconst 0, 1) := by decide +kernel
theorem dX9_weeksUntil_39 : decode cX9_weeksUntil 39 = .ok (.invokevirtual 63, 3) := by decide +kernel
theorem dX9_weeksUntil_42 : decode cX9_weeksUntil 42 = .ok (.aload_n 0, 1) := by decide +kernel
theorem dX9_weeksUntil_43 : decode cX9_weeksUntil 43 = .ok (.iload_n 2, 1) := by decide +kernel
theorem dX9_weeksUntil_44 : decode cX9_weeksUntil 44 = .ok (.invokevirtual 87, 3) := by decide +kernel
theorem dX9_weeksUntil_47 : decode cX9_weeksUntil 47 = .ok (.if_icmp .ge 25, 3) := by decide +kernel
theorem dX9_weeksUntil_50 : decode cX9_weeksUntil 50 = .ok (.aload_n 0, 1) := by decide +kernel
theorem dX9_weeksUntil_51 : decode cX9_weeksUntil 51 = .ok (.getfield 7, 3) := by decide +kernel
theorem dX9_weeksUntil_54 : decode cX9_weeksUntil 54 = .ok (.iconst 0, 1) := by decide +kernel
theorem dX9_weeksUntil_55 : decode cX9_weeksUntil 55 = .ok (.iaload, 1) := by decide +kernel
theorem dX9_weeksUntil_56 : decode cX9_weeksUntil 56 = .ok (.bipush 39, 2) := by decide +kernel
theorem dX9_weeksUntil_58 : decode cX9_weeksUntil 58 = .ok (.if_icmp .ge 14, 3) := by decide +kernel
theorem dX9_weeksUntil_61 : decode cX9_weeksUntil 61 = .ok (.aload_n 0, 1) := by decide +kernel
theorem dX9_weeksUntil_62 : decode cX9_weeksUntil 62 = .ok (.invokevirtual 74, 3) := by decide +kernel
theorem dX9_weeksUntil_65 : decode cX9_weeksUntil 65 = .ok (.pop, 1) := by decide +kernel
theorem dX9_weeksUntil_66 : decode cX9_weeksUntil 66 = .ok (.iinc 3 1, 3) := by decide +kernel
theorem dX9_weeksUntil_69 : decode cX9_weeksUntil 69 = .ok (.goto (-33), 3) := by decide +kernel
theorem dX9_weeksUntil_72 : decode cX9_weeksUntil 72 = .ok (.aload_n 0, 1) := by decide +kernel
theorem dX9_weeksUntil_73 : decode cX9_weeksUntil 73 = .ok (.iload_n 1, 1) := by decide +kernel
theorem dX9_weeksUntil_74 : decode cX9_weeksUntil 74 = .ok (.iconst 0, 1) := by decide +kernel
theorem dX9_weeksUntil_75 : decode cX9_weeksUntil 75 = .ok (.invokevirtual 63, 3) := by decide +kernel
theorem dX9_weeksUntil_78 : decode cX9_weeksUntil 78 = .ok (.aload_n 0, 1) := by decide +kernel
theorem dX9_weeksUntil_79 : decode cX9_weeksUntil 79 = .ok (.iload_n 2, 1) := by decide +kernel
theorem dX9_weeksUntil_80 : decode cX9_weeksUntil 80 = .ok (.invokevirtual 87, 3) := by decide +kernel
theorem dX9_weeksUntil_83 : decode cX9_weeksUntil 83 = .ok (.if_icmp .lt 7, 3) := by decide +kernel
theorem dX9_weeksUntil_86 : decode cX9_weeksUntil 86 = .ok (.iconst 1, 1) := by decide +kernel
theorem dX9_weeksUntil_87 : decode cX9_weeksUntil 87 = .ok (.goto 4, 3) := by decide +kernel
theorem dX9_weeksUntil_90 : decode cX9_weeksUntil 90 = .ok (.iconst 0, 1) := by decide +kernel
theorem dX9_weeksUntil_91 : decode cX9_weeksUntil 91 = .ok (.istore 4, 2) := by decide +kernel
theorem dX9_weeksUntil_93 : decode cX9_weeksUntil 93 = .ok (.aload_n 0, 1) := by decide +kernel
theorem dX9_weeksUntil_94 : decode cX9_weeksUntil 94 = .ok (.invokevirtual 175, 3) := by decide +kernel
theorem dX9_weeksUntil_97 : decode cX9_weeksUntil 97 = .ok (.aload_n 0, 1) := by decide +kernel
theorem dX9_weeksUntil_98 : decode cX9_weeksUntil 98 = .ok (.iload 4, 2) := by decide +kernel
theorem dX9_weeksUntil_100 : decode cX9_weeksUntil 100 = .ok (.ifCond .eq 7, 3) := by decide +kernel
theorem dX9_weeksUntil_103 : decode cX9_weeksUntil 103 = .ok (.iload_n 3, 1) := by decide +kernel
theorem dX9_weeksUntil_104 : decode cX9_weeksUntil 104 = .ok (.goto 4, 3) := by decide +kernel
theorem dX9_weeksUntil_107 : decode cX9_weeksUntil 107 = .ok (.iconst (-1), 1) := by decide +kernel
theorem dX9_weeksUntil_108 : decode cX9_weeksUntil 108 = .ok (.invokevirtual 50, 3) := by decide +kernel
theorem dX9_weeksUntil_111 : decode cX9_weeksUntil 111 = .ok (.ireturn, 1) := by decide +kernel
theorem dX9_helps_0 : decode cX9_helps 0 = .ok (.iconst (-1), 1) := by decide +kernel
theorem dX9_helps_1 : decode cX9_helps 1 = .ok (.istore_n 3, 1) := by decide +kernel
theorem dX9_helps_2 : decode cX9_helps 2 = .ok (.iconst 0, 1) := by decide +kernel
theorem dX9_helps_3 : decode cX9_helps 3 = .ok (.istore 4, 2) := by decide +kernel
theorem dX9_helps_5 : decode cX9_helps 5 = .ok (.iload 4, 2) := by decide +kernel
theorem dX9_helps_7 : decode cX9_helps 7 = .ok (.aload_n 0, 1) := by decide +kernel
theorem dX9_helps_8 : decode cX9_helps 8 = .ok (.getfield 7, 3) := by decide +kernel
theorem dX9_helps_11 : decode cX9_helps 11 = .ok (.iconst 1, 1) := by decide +kernel
theorem dX9_helps_12 : decode cX9_helps 12 = .ok (.iaload, 1) := by decide +kernel
theorem dX9_helps_13 : decode cX9_helps 13 = .ok (.if_icmp .ge 66, 3) := by decide +kernel
theorem dX9_helps_16 : decode cX9_helps 16 = .ok (.iload 4, 2) := by decide +kernel
theorem dX9_helps_18 : decode cX9_helps 18 = .ok (.iload_n 1, 1) := by decide +kernel
theorem dX9_helps_19 : decode cX9_helps 19 = .ok (.if_icmp .eq 18, 3) := by decide +kernel
theorem dX9_helps_22 : decode cX9_helps 22 = .ok (.aload_n 0, 1) := by decide +kernel
theorem dX9_helps_23 : decode cX9_helps 23 = .ok (.iload 4, 2) := by decide +kernel
theorem dX9_helps_25 : decode cX9_helps 25 = .ok (.iconst 0, 1) := by decide +kernel
theorem dX9_helps_26 : decode cX9_helps 26 = .ok (.invokevirtual 63, 3) := by decide +kernel
theorem dX9_helps_29 : decode cX9_helps 29 = .ok (.iload_n 2, 1) := by decide +kernel
theorem dX9_helps_30 : decode cX9_helps 30 = .ok (.if_icmp .lt 7, 3) := by decide +kernel
theorem dX9_helps_33 : decode cX9_helps 33 = .ok (.iconst 1, 1) := by decide +kernel
theorem dX9_helps_34 : decode cX9_helps 34 = .ok (.goto 4, 3) := by decide +kernel
theorem dX9_helps_37 : decode cX9_helps 37 = .ok (.iconst 0, 1) := by decide +kernel
theorem dX9_helps_38 : decode cX9_helps 38 = .ok (.istore 5, 2) := by decide +kernel
theorem dX9_helps_40 : decode cX9_helps 40 = .ok (.iload 5, 2) := by decide +kernel
theorem dX9_helps_42 : decode cX9_helps 42 = .ok (.ifCond .eq 29, 3) := by decide +kernel
theorem dX9_helps_45 : decode cX9_helps 45 = .ok (.iload_n 3, 1) := by decide +kernel
theorem dX9_helps_46 : decode cX9_helps 46 = .ok (.iconst (-1), 1) := by decide +kernel
theorem dX9_helps_47 : decode cX9_helps 47 = .ok (.if_icmp .eq 19, 3) := by decide +kernel
theorem dX9_helps_50 : decode cX9_helps 50 = .ok (.aload_n 0, 1) := by decide +kernel
theorem dX9_helps_51 : decode cX9_helps 51 = .ok (.iload 4, 2) := by decide +kernel
theorem dX9_helps_53 : decode cX9_helps 53 = .ok (.iconst 0, 1) := by decide +kernel
theorem dX9_helps_54 : decode cX9_helps 54 = .ok (.invokevirtual 63, 3) := by decide +kernel
theorem dX9_helps_57 : decode cX9_helps 57 = .ok (.aload_n 0, 1) := by decide +kernel
theorem dX9_helps_58 : decode cX9_helps 58 = .ok (.iload_n 3, 1) := by decide +kernel
theorem dX9_helps_59 : decode cX9_helps 59 = .ok (.iconst 0, 1) := by decide +kernel
theorem dX9_helps_60 : decode cX9_helps 60 = .ok (.invokevirtual 63, 3) := by decide +kernel
theorem dX9_helps_63 : decode cX9_helps 63 = .ok (.if_icmp .le 8, 3) := by decide +kernel
theorem dX9_helps_66 : decode cX9_helps 66 = .ok (.iload 4, 2) := by decide +kernel
theorem dX9_helps_68 : decode cX9_helps 68 = .ok (.goto 4, 3) := by decide +kernel
theorem dX9_helps_71 : decode cX9_helps 71 = .ok (.iload_n 3, 1) := by decide +kernel
theorem dX9_helps_72 : decode cX9_helps 72 = .ok (.istore_n 3, 1) := by decide +kernel
theorem dX9_helps_73 : decode cX9_helps 73 = .ok (.iinc 4 1, 3) := by decide +kernel
theorem dX9_helps_76 : decode cX9_helps 76 = .ok (.goto (-71), 3) := by decide +kernel
theorem dX9_helps_79 : decode cX9_helps 79 = .ok (.iload_n 3, 1) := by decide +kernel
theorem dX9_helps_80 : decode cX9_helps 80 = .ok (.ireturn, 1) := by decide +kernel
theorem dX9_lender_0 : decode cX9_lender 0 = .ok (.aload_n 0, 1) := by decide +kernel
theorem dX9_lender_1 : decode cX9_lender 1 = .ok (.iload_n 1, 1) := by decide +kernel
theorem dX9_lender_2 : decode cX9_lender 2 = .ok (.invokevirtual 78, 3) := by decide +kernel
theorem dX9_lender_5 : decode cX9_lender 5 = .ok (.ifCond .ne 9, 3) := by decide +kernel
theorem dX9_lender_8 : decode cX9_lender 8 = .ok (.aload_n 0, 1) := by decide +kernel
theorem dX9_lender_9 : decode cX9_lender 9 = .ok (.iconst 1, 1) := by decide +kernel
theorem dX9_lender_10 : decode cX9_lender 10 = .ok (.invokevirtual 40, 3) := by decide +kernel
theorem dX9_lender_13 : decode cX9_lender 13 = .ok (.ireturn, 1) := by decide +kernel
theorem dX9_lender_14 : decode cX9_lender 14 = .ok (.iload_n 2, 1) := by decide +kernel
theorem dX9_lender_15 : decode cX9_lender 15 = .ok (.iconst 1, 1) := by decide +kernel
theorem dX9_lender_16 : decode cX9_lender 16 = .ok (.bipush 9, 2) := by decide +kernel
theorem dX9_lender_18 : decode cX9_lender 18 = .ok (.invokestatic 29, 3) := by decide +kernel
theorem dX9_lender_21 : decode cX9_lender 21 = .ok (.ifCond .ne 9, 3) := by decide +kernel
theorem dX9_lender_24 : decode cX9_lender 24 = .ok (.aload_n 0, 1) := by decide +kernel
theorem dX9_lender_25 : decode cX9_lender 25 = .ok (.iconst 2, 1) := by decide +kernel
theorem dX9_lender_26 : decode cX9_lender 26 = .ok (.invokevirtual 40, 3) := by decide +kernel
theorem dX9_lender_29 : decode cX9_lender 29 = .ok (.ireturn, 1) := by decide +kernel
theorem dX9_lender_30 : decode cX9_lender 30 = .ok (.aload_n 0, 1) := by decide +kernel
theorem dX9_lender_31 : decode cX9_lender 31 = .ok (.iload_n 2, 1) := by decide +kernel
theorem dX9_lender_32 : decode cX9_lender 32 = .ok (.invokevirtual 87, 3) := by decide +kernel
theorem dX9_lender_35 : decode cX9_lender 35 = .ok (.aload_n 0, 1) := by decide +kernel
theorem dX9_lender_36 : decode cX9_lender 36 = .ok (.iload_n 1, 1) := by decide +kernel
theorem dX9_lender_37 : decode cX9_lender 37 = .ok (.iconst 0, 1) := by decide +kernel
theorem dX9_lender_38 : decode cX9_lender 38 = .ok (.invokevirtual 63, 3) := by decide +kernel
theorem dX9_lender_41 : decode cX9_lender 41 = .ok (.isub, 1) := by decide +kernel
theorem dX9_lender_42 : decode cX9_lender 42 = .ok (.istore_n 3, 1) := by decide +kernel
theorem dX9_lender_43 : decode cX9_lender 43 = .ok (.aload_n 0, 1) := by decide +kernel
theorem dX9_lender_44 : decode cX9_lender 44 = .ok (.iload_n 3, 1) := by decide +kernel
theorem dX9_lender_45 : decode cX9_lender 45 = .ok (.ifCond .le 11, 3) := by decide +kernel
theorem dX9_lender_48 : decode cX9_lender 48 = .ok (.aload_n 0, 1) := by decide +kernel
theorem dX9_lender_49 : decode cX9_lender 49 = .ok (.iload_n 1, 1) := by decide +kernel
theorem dX9_lender_50 : decode cX9_lender 50 = .ok (.invokevirtual 84, 3) := by decide +kernel
theorem dX9_lender_53 : decode cX9_lender 53 = .ok (.ifCond .eq 7, 3) := by decide +kernel
theorem dX9_lender_56 : decode cX9_lender 56 = .ok (.iconst (-1), 1) := by decide +kernel
theorem dX9_lender_57 : decode cX9_lender 57 = .ok (.goto 9, 3) := by decide +kernel
theorem dX9_lender_60 : decode cX9_lender 60 = .ok (.aload_n 0, 1) := by decide +kernel
theorem dX9_lender_61 : decode cX9_lender 61 = .ok (.iload_n 1, 1) := by decide +kernel
theorem dX9_lender_62 : decode cX9_lender 62 = .ok (.iload_n 3, 1) := by decide +kernel
theorem dX9_lender_63 : decode cX9_lender 63 = .ok (.invokevirtual 178, 3) := by decide +kernel
theorem dX9_lender_66 : decode cX9_lender 66 = .ok (.invokevirtual 50, 3) := by decide +kernel
theorem dX9_lender_69 : decode cX9_lender 69 = .ok (.ireturn, 1) := by decide +kernel
theorem dX9_thaw_0 : decode cX9_thaw 0 = .ok (.aload_n 0, 1) := by decide +kernel
theorem dX9_thaw_1 : decode cX9_thaw 1 = .ok (.getfield 7, 3) := by decide +kernel
theorem dX9_thaw_4 : decode cX9_thaw 4 = .ok (.iconst 0, 1) := by decide +kernel
theorem dX9_thaw_5 : decode cX9_thaw 5 = .ok (.iaload, 1) := by decide +kernel
theorem dX9_thaw_6 : decode cX9_thaw 6 = .ok (.istore_n 1, 1) := by decide +kernel
theorem dX9_thaw_7 : decode cX9_thaw 7 = .ok (.iload_n 1, 1) := by decide +kernel
theorem dX9_thaw_8 : decode cX9_thaw 8 = .ok (.bipush 40, 2) := by decide +kernel
theorem dX9_thaw_10 : decode cX9_thaw 10 = .ok (.if_icmp .ge 23, 3) := by decide +kernel
theorem dX9_thaw_13 : decode cX9_thaw 13 = .ok (.aload_n 0, 1) := by decide +kernel
theorem dX9_thaw_14 : decode cX9_thaw 14 = .ok (.getfield 7, 3) := by decide +kernel
theorem dX9_thaw_17 : decode cX9_thaw 17 = .ok (.bipush 9, 2) := by decide +kernel
theorem dX9_thaw_19 : decode cX9_thaw 19 = .ok (.iload_n 1, 1) := by decide +kernel
theorem dX9_thaw_20 : decode cX9_thaw 20 = .ok (.iadd, 1) := by decide +kernel
theorem dX9_thaw_21 : decode cX9_thaw 21 = .ok (.iaload, 1) := by decide +kernel
theorem dX9_thaw_22 : decode cX9_thaw 22 = .ok (.ifCond .ne 5, 3) := by decide +kernel
theorem dX9_thaw_25 : decode cX9_thaw 25 = .ok (.iload_n 1, 1) := by decide +kernel
theorem dX9_thaw_26 : decode cX9_thaw 26 = .ok (.ireturn, 1) := by decide +kernel
theorem dX9_thaw_27 : decode cX9_thaw 27 = .ok (.iinc 1 1, 3) := by decide +kernel
theorem dX9_thaw_30 : decode cX9_thaw 30 = .ok (.goto (-23), 3) := by decide +kernel
theorem dX9_thaw_33 : decode cX9_thaw 33 = .ok (.iconst (-1), 1) := by decide +kernel
theorem dX9_thaw_34 : decode cX9_thaw 34 = .ok (.ireturn, 1) := by decide +kernel
theorem dX9_nextThaw_0 : decode cX9_nextThaw 0 = .ok (.aload_n 0, 1) := by decide +kernel
theorem dX9_nextThaw_1 : decode cX9_nextThaw 1 = .ok (.aload_n 0, 1) := by decide +kernel
theorem dX9_nextThaw_2 : decode cX9_nextThaw 2 = .ok (.invokevirtual 181, 3) := by decide +kernel
theorem dX9_nextThaw_5 : decode cX9_nextThaw 5 = .ok (.invokevirtual 50, 3) := by decide +kernel
theorem dX9_nextThaw_8 : decode cX9_nextThaw 8 = .ok (.ireturn, 1) := by decide +kernel
theorem dX9_inBeing_0 : decode cX9_inBeing 0 = .ok (.iload_n 1, 1) := by decide +kernel
theorem dX9_inBeing_1 : decode cX9_inBeing 1 = .ok (.iconst 0, 1) := by decide +kernel
theorem dX9_inBeing_2 : decode cX9_inBeing 2 = .ok (.bipush 39, 2) := by decide +kernel
theorem dX9_inBeing_4 : decode cX9_inBeing 4 = .ok (.invokestatic 29, 3) := by decide +kernel
theorem dX9_inBeing_7 : decode cX9_inBeing 7 = .ok (.ifCond .ne 9, 3) := by decide +kernel
theorem dX9_inBeing_10 : decode cX9_inBeing 10 = .ok (.aload_n 0, 1) := by decide +kernel
theorem dX9_inBeing_11 : decode cX9_inBeing 11 = .ok (.iconst 1, 1) := by decide +kernel
theorem dX9_inBeing_12 : decode cX9_inBeing 12 = .ok (.invokevirtual 40, 3) := by decide +kernel
theorem dX9_inBeing_15 : decode cX9_inBeing 15 = .ok (.ireturn, 1) := by decide +kernel
theorem dX9_inBeing_16 : decode cX9_inBeing 16 = .ok (.aload_n 0, 1) := by decide +kernel
theorem dX9_inBeing_17 : decode cX9_inBeing 17 = .ok (.getfield 7, 3) := by decide +kernel
theorem dX9_inBeing_20 : decode cX9_inBeing 20 = .ok (.iconst 0, 1) := by decide +kernel
theorem dX9_inBeing_21 : decode cX9_inBeing 21 = .ok (.iaload, 1) := by decide +kernel
theorem dX9_inBeing_22 : decode cX9_inBeing 22 = .ok (.iload_n 1, 1) := by decide +kernel
theorem dX9_inBeing_23 : decode cX9_inBeing 23 = .ok (.iadd, 1) := by decide +kernel
theorem dX9_inBeing_24 : decode cX9_inBeing 24 = .ok (.bipush 39, 2) := by decide +kernel
theorem dX9_inBeing_26 : decode cX9_inBeing 26 = .ok (.if_icmp .le 9, 3) := by decide +kernel
theorem dX9_inBeing_29 : decode cX9_inBeing 29 = .ok (.aload_n 0, 1) := by decide +kernel
theorem dX9_inBeing_30 : decode cX9_inBeing 30 = .ok (.iconst (-1), 1) := by decide +kernel
theorem dX9_inBeing_31 : decode cX9_inBeing 31 = .ok (.invokevirtual 50, 3) := by decide +kernel
theorem dX9_inBeing_34 : decode cX9_inBeing 34 = .ok (.ireturn, 1) := by decide +kernel
theorem dX9_inBeing_35 : decode cX9_inBeing 35 = .ok (.aload_n 0, 1) := by decide +kernel
theorem dX9_inBeing_36 : decode cX9_inBeing 36 = .ok (.invokevirtual 103, 3) := by decide +kernel
theorem dX9_inBeing_39 : decode cX9_inBeing 39 = .ok (.iconst 0, 1) := by decide +kernel
theorem dX9_inBeing_40 : decode cX9_inBeing 40 = .ok (.istore_n 2, 1) := by decide +kernel
theorem dX9_inBeing_41 : decode cX9_inBeing 41 = .ok (.iload_n 2, 1) := by decide +kernel
theorem dX9_inBeing_42 : decode cX9_inBeing 42 = .ok (.iload_n 1, 1) := by decide +kernel
theorem dX9_inBeing_43 : decode cX9_inBeing 43 = .ok (.if_icmp .ge 14, 3) := by decide +kernel
theorem dX9_inBeing_46 : decode cX9_inBeing 46 = .ok (.aload_n 0, 1) := by decide +kernel
theorem dX9_inBeing_47 : decode cX9_inBeing 47 = .ok (.invokevirtual 74, 3) := by decide +kernel
theorem dX9_inBeing_50 : decode cX9_inBeing 50 = .ok (.pop, 1) := by decide +kernel
theorem dX9_inBeing_51 : decode cX9_inBeing 51 = .ok (.iinc 2 1, 3) := by decide +kernel
theorem dX9_inBeing_54 : decode cX9_inBeing 54 = .ok (.goto (-13), 3) := by decide +kernel
theorem dX9_inBeing_57 : decode cX9_inBeing 57 = .ok (.aload_n 0, 1) := by decide +kernel
theorem dX9_inBeing_58 : decode cX9_inBeing 58 = .ok (.iconst 0, 1) := by decide +kernel
theorem dX9_inBeing_59 : decode cX9_inBeing 59 = .ok (.invokevirtual 160, 3) := by decide +kernel
theorem dX9_inBeing_62 : decode cX9_inBeing 62 = .ok (.aload_n 0, 1) := by decide +kernel
theorem dX9_inBeing_63 : decode cX9_inBeing 63 = .ok (.iconst (-1), 1) := by decide +kernel
theorem dX9_inBeing_64 : decode cX9_inBeing 64 = .ok (.invokevirtual 142, 3) := by decide +kernel
theorem dX9_inBeing_67 : decode cX9_inBeing 67 = .ok (.iadd, 1) := by decide +kernel
theorem dX9_inBeing_68 : decode cX9_inBeing 68 = .ok (.istore_n 2, 1) := by decide +kernel
theorem dX9_inBeing_69 : decode cX9_inBeing 69 = .ok (.aload_n 0, 1) := by decide +kernel
theorem dX9_inBeing_70 : decode cX9_inBeing 70 = .ok (.invokevirtual 175, 3) := by decide +kernel
theorem dX9_inBeing_73 : decode cX9_inBeing 73 = .ok (.aload_n 0, 1) := by decide +kernel
theorem dX9_inBeing_74 : decode cX9_inBeing 74 = .ok (.iload_n 2, 1) := by decide +kernel
theorem dX9_inBeing_75 : decode cX9_inBeing 75 = .ok (.invokevirtual 50, 3) := by decide +kernel
theorem dX9_inBeing_78 : decode cX9_inBeing 78 = .ok (.ireturn, 1) := by decide +kernel
theorem dX9_type_0 : decode cX9_type 0 = .ok (.iload_n 1, 1) := by decide +kernel
theorem dX9_type_1 : decode cX9_type 1 = .ok (.iconst 0, 1) := by decide +kernel
theorem dX9_type_2 : decode cX9_type 2 = .ok (.bipush 127, 2) := by decide +kernel
theorem dX9_type_4 : decode cX9_type 4 = .ok (.invokestatic 29, 3) := by decide +kernel
theorem dX9_type_7 : decode cX9_type 7 = .ok (.ifCond .ne 9, 3) := by decide +kernel
theorem dX9_type_10 : decode cX9_type 10 = .ok (.aload_n 0, 1) := by decide +kernel
theorem dX9_type_11 : decode cX9_type 11 = .ok (.iconst 1, 1) := by decide +kernel
theorem dX9_type_12 : decode cX9_type 12 = .ok (.invokevirtual 40, 3) := by decide +kernel
theorem dX9_type_15 : decode cX9_type 15 = .ok (.ireturn, 1) := by decide +kernel
theorem dX9_type_16 : decode cX9_type 16 = .ok (.aload_n 0, 1) := by decide +kernel
theorem dX9_type_17 : decode cX9_type 17 = .ok (.getfield 166, 3) := by decide +kernel
theorem dX9_type_20 : decode cX9_type 20 = .ok (.sipush 150, 3) := by decide +kernel
theorem dX9_type_23 : decode cX9_type 23 = .ok (.if_icmp .ne 9, 3) := by decide +kernel
theorem dX9_type_26 : decode cX9_type 26 = .ok (.aload_n 0, 1) := by decide +kernel
theorem dX9_type_27 : decode cX9_type 27 = .ok (.iconst 2, 1) := by decide +kernel
theorem dX9_type_28 : decode cX9_type 28 = .ok (.invokevirtual 40, 3) := by decide +kernel
theorem dX9_type_31 : decode cX9_type 31 = .ok (.ireturn, 1) := by decide +kernel
theorem dX9_type_32 : decode cX9_type 32 = .ok (.aload_n 0, 1) := by decide +kernel
theorem dX9_type_33 : decode cX9_type 33 = .ok (.getfield 19, 3) := by decide +kernel
theorem dX9_type_36 : decode cX9_type 36 = .ok (.aload_n 0, 1) := by decide +kernel
theorem dX9_type_37 : decode cX9_type 37 = .ok (.getfield 166, 3) := by decide +kernel
theorem dX9_type_40 : decode cX9_type 40 = .ok (.iload_n 1, 1) := by decide +kernel
theorem dX9_type_41 : decode cX9_type 41 = .ok (.iastore, 1) := by decide +kernel
theorem dX9_type_42 : decode cX9_type 42 = .ok (.aload_n 0, 1) := by decide +kernel
theorem dX9_type_43 : decode cX9_type 43 = .ok (.dup, 1) := by decide +kernel
theorem dX9_type_44 : decode cX9_type 44 = .ok (.getfield 166, 3) := by decide +kernel
theorem dX9_type_47 : decode cX9_type 47 = .ok (.iconst 1, 1) := by decide +kernel
theorem dX9_type_48 : decode cX9_type 48 = .ok (.iadd, 1) := by decide +kernel
theorem dX9_type_49 : decode cX9_type 49 = .ok (.putfield 166, 3) := by decide +kernel
theorem dX9_type_52 : decode cX9_type 52 = .ok (.aload_n 0, 1) := by decide +kernel
theorem dX9_type_53 : decode cX9_type 53 = .ok (.aload_n 0, 1) := by decide +kernel
theorem dX9_type_54 : decode cX9_type 54 = .ok (.getfield 166, 3) := by decide +kernel
theorem dX9_type_57 : decode cX9_type 57 = .ok (.invokevirtual 50, 3) := by decide +kernel
theorem dX9_type_60 : decode cX9_type 60 = .ok (.ireturn, 1) := by decide +kernel
theorem dX9_clearCommands_0 : decode cX9_clearCommands 0 = .ok (.aload_n 0, 1) := by decide +kernel
theorem dX9_clearCommands_1 : decode cX9_clearCommands 1 = .ok (.getfield 166, 3) := by decide +kernel
theorem dX9_clearCommands_4 : decode cX9_clearCommands 4 = .ok (.istore_n 1, 1) := by decide +kernel
theorem dX9_clearCommands_5 : decode cX9_clearCommands 5 = .ok (.aload_n 0, 1) := by decide +kernel
theorem dX9_clearCommands_6 : decode cX9_clearCommands 6 = .ok (.iconst 0, 1) := by decide +kernel
theorem dX9_clearCommands_7 : decode cX9_clearCommands 7 = .ok (.putfield 166, 3) := by decide +kernel
theorem dX9_clearCommands_10 : decode cX9_clearCommands 10 = .ok (.aload_n 0, 1) := by decide +kernel
theorem dX9_clearCommands_11 : decode cX9_clearCommands 11 = .ok (.iload_n 1, 1) := by decide +kernel
theorem dX9_clearCommands_12 : decode cX9_clearCommands 12 = .ok (.invokevirtual 50, 3) := by decide +kernel
theorem dX9_clearCommands_15 : decode cX9_clearCommands 15 = .ok (.ireturn, 1) := by decide +kernel
theorem dX9_here_0 : decode cX9_here 0 = .ok (.aload_n 0, 1) := by decide +kernel
theorem dX9_here_1 : decode cX9_here 1 = .ok (.getfield 184, 3) := by decide +kernel
theorem dX9_here_4 : decode cX9_here 4 = .ok (.aload_n 0, 1) := by decide +kernel
theorem dX9_here_5 : decode cX9_here 5 = .ok (.getfield 166, 3) := by decide +kernel
theorem dX9_here_8 : decode cX9_here 8 = .ok (.if_icmp .ge 15, 3) := by decide +kernel
theorem dX9_here_11 : decode cX9_here 11 = .ok (.aload_n 0, 1) := by decide +kernel
theorem dX9_here_12 : decode cX9_here 12 = .ok (.getfield 19, 3) := by decide +kernel
theorem dX9_here_15 : decode cX9_here 15 = .ok (.aload_n 0, 1) := by decide +kernel
theorem dX9_here_16 : decode cX9_here 16 = .ok (.getfield 184, 3) := by decide +kernel
theorem dX9_here_19 : decode cX9_here 19 = .ok (.iaload, 1) := by decide +kernel
theorem dX9_here_20 : decode cX9_here 20 = .ok (.goto 4, 3) := by decide +kernel
theorem dX9_here_23 : decode cX9_here 23 = .ok (.iconst (-1), 1) := by decide +kernel
theorem dX9_here_24 : decode cX9_here 24 = .ok (.ireturn, 1) := by decide +kernel
theorem dX9_isLetter_0 : decode cX9_isLetter 0 = .ok (.iload_n 0, 1) := by decide +kernel
theorem dX9_isLetter_1 : decode cX9_isLetter 1 = .ok (.bipush 97, 2) := by decide +kernel
theorem dX9_isLetter_3 : decode cX9_isLetter 3 = .ok (.bipush 122, 2) := by decide +kernel
theorem dX9_isLetter_5 : decode cX9_isLetter 5 = .ok (.invokestatic 29, 3) := by decide +kernel
theorem dX9_isLetter_8 : decode cX9_isLetter 8 = .ok (.ireturn, 1) := by decide +kernel
theorem dX9_isDigit_0 : decode cX9_isDigit 0 = .ok (.iload_n 0, 1) := by decide +kernel
theorem dX9_isDigit_1 : decode cX9_isDigit 1 = .ok (.bipush 48, 2) := by decide +kernel
theorem dX9_isDigit_3 : decode cX9_isDigit 3 = .ok (.bipush 57, 2) := by decide +kernel
theorem dX9_isDigit_5 : decode cX9_isDigit 5 = .ok (.invokestatic 29, 3) := by decide +kernel
theorem dX9_isDigit_8 : decode cX9_isDigit 8 = .ok (.ireturn, 1) := by decide +kernel
theorem dX9_faults_0 : decode cX9_faults 0 = .ok (.aload_n 0, 1) := by decide +kernel
theorem dX9_faults_1 : decode cX9_faults 1 = .ok (.aload_n 0, 1) := by decide +kernel
theorem dX9_faults_2 : decode cX9_faults 2 = .ok (.getfield 187, 3) := by decide +kernel
theorem dX9_faults_5 : decode cX9_faults 5 = .ok (.iconst (-1), 1) := by decide +kernel
theorem dX9_faults_6 : decode cX9_faults 6 = .ok (.if_icmp .ne 10, 3) := by decide +kernel
theorem dX9_faults_9 : decode cX9_faults 9 = .ok (.aload_n 0, 1) := by decide +kernel
theorem dX9_faults_10 : decode cX9_faults 10 = .ok (.getfield 184, 3) := by decide +kernel
theorem dX9_faults_13 : decode cX9_faults 13 = .ok (.goto 7, 3) := by decide +kernel
theorem dX9_faults_16 : decode cX9_faults 16 = .ok (.aload_n 0, 1) := by decide +kernel
theorem dX9_faults_17 : decode cX9_faults 17 = .ok (.getfield 187, 3) := by decide +kernel
theorem dX9_faults_20 : decode cX9_faults 20 = .ok (.putfield 187, 3) := by decide +kernel
theorem dX9_faults_23 : decode cX9_faults 23 = .ok (.return_, 1) := by decide +kernel
theorem dX9_spaces_0 : decode cX9_spaces 0 = .ok (.aload_n 0, 1) := by decide +kernel
theorem dX9_spaces_1 : decode cX9_spaces 1 = .ok (.invokevirtual 190, 3) := by decide +kernel
theorem dX9_spaces_4 : decode cX9_spaces 4 = .ok (.bipush 32, 2) := by decide +kernel
theorem dX9_spaces_6 : decode cX9_spaces 6 = .ok (.if_icmp .ne 16, 3) := by decide +kernel
theorem dX9_spaces_9 : decode cX9_spaces 9 = .ok (.aload_n 0, 1) := by decide +kernel
theorem dX9_spaces_10 : decode cX9_spaces 10 = .ok (.dup, 1) := by decide +kernel
theorem dX9_spaces_11 : decode cX9_spaces 11 = .ok (.getfield 184, 3) := by decide +kernel
theorem dX9_spaces_14 : decode cX9_spaces 14 = .ok (.iconst 1, 1) := by decide +kernel
theorem dX9_spaces_15 : decode cX9_spaces 15 = .ok (.iadd, 1) := by decide +kernel
theorem dX9_spaces_16 : decode cX9_spaces 16 = .ok (.putfield 184, 3) := by decide +kernel
theorem dX9_spaces_19 : decode cX9_spaces 19 = .ok (.goto (-19), 3) := by decide +kernel
theorem dX9_spaces_22 : decode cX9_spaces 22 = .ok (.return_, 1) := by decide +kernel
theorem dX9_letters_0 : decode cX9_letters 0 = .ok (.lconst 0, 1) := by decide +kernel
theorem dX9_letters_1 : decode cX9_letters 1 = .ok (.lstore_n 1, 1) := by decide +kernel
theorem dX9_letters_2 : decode cX9_letters 2 = .ok (.iconst 0, 1) := by decide +kernel
theorem dX9_letters_3 : decode cX9_letters 3 = .ok (.istore_n 3, 1) := by decide +kernel
theorem dX9_letters_4 : decode cX9_letters 4 = .ok (.aload_n 0, 1) := by decide +kernel
theorem dX9_letters_5 : decode cX9_letters 5 = .ok (.invokevirtual 190, 3) := by decide +kernel
theorem dX9_letters_8 : decode cX9_letters 8 = .ok (.invokestatic 193, 3) := by decide +kernel
theorem dX9_letters_11 : decode cX9_letters 11 = .ok (.ifCond .eq 44, 3) := by decide +kernel
theorem dX9_letters_14 : decode cX9_letters 14 = .ok (.lload_n 1, 1) := by decide +kernel
theorem dX9_letters_15 : decode cX9_letters 15 = .ok (.iconst 5, 1) := by decide +kernel
theorem dX9_letters_16 : decode cX9_letters 16 = .ok (.lshl, 1) := by decide +kernel
theorem dX9_letters_17 : decode cX9_letters 17 = .ok (.aload_n 0, 1) := by decide +kernel
theorem dX9_letters_18 : decode cX9_letters 18 = .ok (.invokevirtual 190, 3) := by decide +kernel
theorem dX9_letters_21 : decode cX9_letters 21 = .ok (.bipush 96, 2) := by decide +kernel
theorem dX9_letters_23 : decode cX9_letters 23 = .ok (.isub, 1) := by decide +kernel
theorem dX9_letters_24 : decode cX9_letters 24 = .ok (.i2l, 1) := by decide +kernel
theorem dX9_letters_25 : decode cX9_letters 25 = .ok (.lor, 1) := by decide +kernel
theorem dX9_letters_26 : decode cX9_letters 26 = .ok (.lstore_n 1, 1) := by decide +kernel
theorem dX9_letters_27 : decode cX9_letters 27 = .ok (.iinc 3 1, 3) := by decide +kernel
theorem dX9_letters_30 : decode cX9_letters 30 = .ok (.aload_n 0, 1) := by decide +kernel
theorem dX9_letters_31 : decode cX9_letters 31 = .ok (.dup, 1) := by decide +kernel
theorem dX9_letters_32 : decode cX9_letters 32 = .ok (.getfield 184, 3) := by decide +kernel
theorem dX9_letters_35 : decode cX9_letters 35 = .ok (.iconst 1, 1) := by decide +kernel
theorem dX9_letters_36 : decode cX9_letters 36 = .ok (.iadd, 1) := by decide +kernel
theorem dX9_letters_37 : decode cX9_letters 37 = .ok (.putfield 184, 3) := by decide +kernel
theorem dX9_letters_40 : decode cX9_letters 40 = .ok (.iload_n 3, 1) := by decide +kernel
theorem dX9_letters_41 : decode cX9_letters 41 = .ok (.bipush 6, 2) := by decide +kernel
theorem dX9_letters_43 : decode cX9_letters 43 = .ok (.if_icmp .le 7, 3) := by decide +kernel
theorem dX9_letters_46 : decode cX9_letters 46 = .ok (.lconst 0, 1) := by decide +kernel
theorem dX9_letters_47 : decode cX9_letters 47 = .ok (.goto 4, 3) := by decide +kernel
theorem dX9_letters_50 : decode cX9_letters 50 = .ok (.lload_n 1, 1) := by decide +kernel
theorem dX9_letters_51 : decode cX9_letters 51 = .ok (.lstore_n 1, 1) := by decide +kernel
theorem dX9_letters_52 : decode cX9_letters 52 = .ok (.goto (-48), 3) := by decide +kernel
theorem dX9_letters_55 : decode cX9_letters 55 = .ok (.iload_n 3, 1) := by decide +kernel
theorem dX9_letters_56 : decode cX9_letters 56 = .ok (.bipush 6, 2) := by decide +kernel
theorem dX9_letters_58 : decode cX9_letters 58 = .ok (.if_icmp .le 7, 3) := by decide +kernel
theorem dX9_letters_61 : decode cX9_letters 61 = .ok (.lconst 0, 1) := by decide +kernel
theorem dX9_letters_62 : decode cX9_letters 62 = .ok (.goto 4, 3) := by decide +kernel
theorem dX9_letters_65 : decode cX9_letters 65 = .ok (.lload_n 1, 1) := by decide +kernel
theorem dX9_letters_66 : decode cX9_letters 66 = .ok (.lreturn, 1) := by decide +kernel
theorem dX9_spelt_0 : decode cX9_spelt 0 = .ok (.lconst 0, 1) := by decide +kernel
theorem dX9_spelt_1 : decode cX9_spelt 1 = .ok (.lstore 6, 2) := by decide +kernel
theorem dX9_spelt_3 : decode cX9_spelt 3 = .ok (.iload_n 0, 1) := by decide +kernel
theorem dX9_spelt_4 : decode cX9_spelt 4 = .ok (.ifCond .le 13, 3) := by decide +kernel
theorem dX9_spelt_7 : decode cX9_spelt 7 = .ok (.lload 6, 2) := by decide +kernel
theorem dX9_spelt_9 : decode cX9_spelt 9 = .ok (.iconst 5, 1) := by decide +kernel
theorem dX9_spelt_10 : decode cX9_spelt 10 = .ok (.lshl, 1) := by decide +kernel
theorem dX9_spelt_11 : decode cX9_spelt 11 = .ok (.iload_n 0, 1) := by decide +kernel
theorem dX9_spelt_12 : decode cX9_spelt 12 = .ok (.i2l, 1) := by decide +kernel
theorem dX9_spelt_13 : decode cX9_spelt 13 = .ok (.lor, 1) := by decide +kernel
theorem dX9_spelt_14 : decode cX9_spelt 14 = .ok (.goto 5, 3) := by decide +kernel
theorem dX9_spelt_17 : decode cX9_spelt 17 = .ok (.lload 6, 2) := by decide +kernel
theorem dX9_spelt_19 : decode cX9_spelt 19 = .ok (.lstore 6, 2) := by decide +kernel
theorem dX9_spelt_21 : decode cX9_spelt 21 = .ok (.iload_n 1, 1) := by decide +kernel
theorem dX9_spelt_22 : decode cX9_spelt 22 = .ok (.ifCond .le 13, 3) := by decide +kernel
theorem dX9_spelt_25 : decode cX9_spelt 25 = .ok (.lload 6, 2) := by decide +kernel
theorem dX9_spelt_27 : decode cX9_spelt 27 = .ok (.iconst 5, 1) := by decide +kernel
theorem dX9_spelt_28 : decode cX9_spelt 28 = .ok (.lshl, 1) := by decide +kernel
theorem dX9_spelt_29 : decode cX9_spelt 29 = .ok (.iload_n 1, 1) := by decide +kernel
theorem dX9_spelt_30 : decode cX9_spelt 30 = .ok (.i2l, 1) := by decide +kernel
theorem dX9_spelt_31 : decode cX9_spelt 31 = .ok (.lor, 1) := by decide +kernel
theorem dX9_spelt_32 : decode cX9_spelt 32 = .ok (.goto 5, 3) := by decide +kernel
theorem dX9_spelt_35 : decode cX9_spelt 35 = .ok (.lload 6, 2) := by decide +kernel
theorem dX9_spelt_37 : decode cX9_spelt 37 = .ok (.lstore 6, 2) := by decide +kernel
theorem dX9_spelt_39 : decode cX9_spelt 39 = .ok (.iload_n 2, 1) := by decide +kernel
theorem dX9_spelt_40 : decode cX9_spelt 40 = .ok (.ifCond .le 13, 3) := by decide +kernel
theorem dX9_spelt_43 : decode cX9_spelt 43 = .ok (.lload 6, 2) := by decide +kernel
theorem dX9_spelt_45 : decode cX9_spelt 45 = .ok (.iconst 5, 1) := by decide +kernel
theorem dX9_spelt_46 : decode cX9_spelt 46 = .ok (.lshl, 1) := by decide +kernel
theorem dX9_spelt_47 : decode cX9_spelt 47 = .ok (.iload_n 2, 1) := by decide +kernel
theorem dX9_spelt_48 : decode cX9_spelt 48 = .ok (.i2l, 1) := by decide +kernel
theorem dX9_spelt_49 : decode cX9_spelt 49 = .ok (.lor, 1) := by decide +kernel
theorem dX9_spelt_50 : decode cX9_spelt 50 = .ok (.goto 5, 3) := by decide +kernel
theorem dX9_spelt_53 : decode cX9_spelt 53 = .ok (.lload 6, 2) := by decide +kernel
theorem dX9_spelt_55 : decode cX9_spelt 55 = .ok (.lstore 6, 2) := by decide +kernel
theorem dX9_spelt_57 : decode cX9_spelt 57 = .ok (.iload_n 3, 1) := by decide +kernel
theorem dX9_spelt_58 : decode cX9_spelt 58 = .ok (.ifCond .le 13, 3) := by decide +kernel
theorem dX9_spelt_61 : decode cX9_spelt 61 = .ok (.lload 6, 2) := by decide +kernel
theorem dX9_spelt_63 : decode cX9_spelt 63 = .ok (.iconst 5, 1) := by decide +kernel
theorem dX9_spelt_64 : decode cX9_spelt 64 = .ok (.lshl, 1) := by decide +kernel
theorem dX9_spelt_65 : decode cX9_spelt 65 = .ok (.iload_n 3, 1) := by decide +kernel
theorem dX9_spelt_66 : decode cX9_spelt 66 = .ok (.i2l, 1) := by decide +kernel
theorem dX9_spelt_67 : decode cX9_spelt 67 = .ok (.lor, 1) := by decide +kernel
theorem dX9_spelt_68 : decode cX9_spelt 68 = .ok (.goto 5, 3) := by decide +kernel
theorem dX9_spelt_71 : decode cX9_spelt 71 = .ok (.lload 6, 2) := by decide +kernel
theorem dX9_spelt_73 : decode cX9_spelt 73 = .ok (.lstore 6, 2) := by decide +kernel
theorem dX9_spelt_75 : decode cX9_spelt 75 = .ok (.iload 4, 2) := by decide +kernel
theorem dX9_spelt_77 : decode cX9_spelt 77 = .ok (.ifCond .le 14, 3) := by decide +kernel
theorem dX9_spelt_80 : decode cX9_spelt 80 = .ok (.lload 6, 2) := by decide +kernel
theorem dX9_spelt_82 : decode cX9_spelt 82 = .ok (.iconst 5, 1) := by decide +kernel
theorem dX9_spelt_83 : decode cX9_spelt 83 = .ok (.lshl, 1) := by decide +kernel
theorem dX9_spelt_84 : decode cX9_spelt 84 = .ok (.iload 4, 2) := by decide +kernel
theorem dX9_spelt_86 : decode cX9_spelt 86 = .ok (.i2l, 1) := by decide +kernel
theorem dX9_spelt_87 : decode cX9_spelt 87 = .ok (.lor, 1) := by decide +kernel
theorem dX9_spelt_88 : decode cX9_spelt 88 = .ok (.goto 5, 3) := by decide +kernel
theorem dX9_spelt_91 : decode cX9_spelt 91 = .ok (.lload 6, 2) := by decide +kernel
theorem dX9_spelt_93 : decode cX9_spelt 93 = .ok (.lstore 6, 2) := by decide +kernel
theorem dX9_spelt_95 : decode cX9_spelt 95 = .ok (.iload 5, 2) := by decide +kernel
theorem dX9_spelt_97 : decode cX9_spelt 97 = .ok (.ifCond .le 14, 3) := by decide +kernel
theorem dX9_spelt_100 : decode cX9_spelt 100 = .ok (.lload 6, 2) := by decide +kernel
theorem dX9_spelt_102 : decode cX9_spelt 102 = .ok (.iconst 5, 1) := by decide +kernel
theorem dX9_spelt_103 : decode cX9_spelt 103 = .ok (.lshl, 1) := by decide +kernel
theorem dX9_spelt_104 : decode cX9_spelt 104 = .ok (.iload 5, 2) := by decide +kernel
theorem dX9_spelt_106 : decode cX9_spelt 106 = .ok (.i2l, 1) := by decide +kernel
theorem dX9_spelt_107 : decode cX9_spelt 107 = .ok (.lor, 1) := by decide +kernel
theorem dX9_spelt_108 : decode cX9_spelt 108 = .ok (.goto 5, 3) := by decide +kernel
theorem dX9_spelt_111 : decode cX9_spelt 111 = .ok (.lload 6, 2) := by decide +kernel
theorem dX9_spelt_113 : decode cX9_spelt 113 = .ok (.lreturn, 1) := by decide +kernel
theorem dX9_wordOf_0 : decode cX9_wordOf 0 = .ok (.lload_n 0, 1) := by decide +kernel
theorem dX9_wordOf_1 : decode cX9_wordOf 1 = .ok (.bipush 20, 2) := by decide +kernel
theorem dX9_wordOf_3 : decode cX9_wordOf 3 = .ok (.iconst 5, 1) := by decide +kernel
theorem dX9_wordOf_4 : decode cX9_wordOf 4 = .ok (.iconst 1, 1) := by decide +kernel
theorem dX9_wordOf_5 : decode cX9_wordOf 5 = .ok (.bipush 13, 2) := by decide +kernel
theorem dX9_wordOf_7 : decode cX9_wordOf 7 = .ok (.iconst 0, 1) := by decide +kernel
theorem dX9_wordOf_8 : decode cX9_wordOf 8 = .ok (.iconst 0, 1) := by decide +kernel
theorem dX9_wordOf_9 : decode cX9_wordOf 9 = .ok (.invokestatic 196, 3) := by decide +kernel
theorem dX9_wordOf_12 : decode cX9_wordOf 12 = .ok (.lcmp, 1) := by decide +kernel
theorem dX9_wordOf_13 : decode cX9_wordOf 13 = .ok (.ifCond .ne 7, 3) := by decide +kernel
theorem dX9_wordOf_16 : decode cX9_wordOf 16 = .ok (.iconst 0, 1) := by decide +kernel
theorem dX9_wordOf_17 : decode cX9_wordOf 17 = .ok (.goto 46, 3) := by decide +kernel
theorem dX9_wordOf_20 : decode cX9_wordOf 20 = .ok (.lload_n 0, 1) := by decide +kernel
theorem dX9_wordOf_21 : decode cX9_wordOf 21 = .ok (.bipush 6, 2) := by decide +kernel
theorem dX9_wordOf_23 : decode cX9_wordOf 23 = .ok (.bipush 18, 2) := by decide +kernel
theorem dX9_wordOf_25 : decode cX9_wordOf 25 = .ok (.iconst 5, 1) := by decide +kernel
theorem dX9_wordOf_26 : decode cX9_wordOf 26 = .ok (.iconst 5, 1) := by decide +kernel
theorem dX9_wordOf_27 : decode cX9_wordOf 27 = .ok (.bipush 26, 2) := by decide +kernel
theorem dX9_wordOf_29 : decode cX9_wordOf 29 = .ok (.iconst 5, 1) := by decide +kernel
theorem dX9_wordOf_30 : decode cX9_wordOf 30 = .ok (.invokestatic 196, 3) := by decide +kernel
theorem dX9_wordOf_33 : decode cX9_wordOf 33 = .ok (.lcmp, 1) := by decide +kernel
theorem dX9_wordOf_34 : decode cX9_wordOf 34 = .ok (.ifCond .ne 7, 3) := by decide +kernel
theorem dX9_wordOf_37 : decode cX9_wordOf 37 = .ok (.iconst 1, 1) := by decide +kernel
theorem dX9_wordOf_38 : decode cX9_wordOf 38 = .ok (.goto 25, 3) := by decide +kernel
theorem dX9_wordOf_41 : decode cX9_wordOf 41 = .ok (.lload_n 0, 1) := by decide +kernel
theorem dX9_wordOf_42 : decode cX9_wordOf 42 = .ok (.bipush 20, 2) := by decide +kernel
theorem dX9_wordOf_44 : decode cX9_wordOf 44 = .ok (.bipush 8, 2) := by decide +kernel
theorem dX9_wordOf_46 : decode cX9_wordOf 46 = .ok (.iconst 1, 1) := by decide +kernel
theorem dX9_wordOf_47 : decode cX9_wordOf 47 = .ok (.bipush 23, 2) := by decide +kernel
theorem dX9_wordOf_49 : decode cX9_wordOf 49 = .ok (.iconst 0, 1) := by decide +kernel
theorem dX9_wordOf_50 : decode cX9_wordOf 50 = .ok (.iconst 0, 1) := by decide +kernel
theorem dX9_wordOf_51 : decode cX9_wordOf 51 = .ok (.invokestatic 196, 3) := by decide +kernel
theorem dX9_wordOf_54 : decode cX9_wordOf 54 = .ok (.lcmp, 1) := by decide +kernel
theorem dX9_wordOf_55 : decode cX9_wordOf 55 = .ok (.ifCond .ne 7, 3) := by decide +kernel
theorem dX9_wordOf_58 : decode cX9_wordOf 58 = .ok (.iconst 2, 1) := by decide +kernel
theorem dX9_wordOf_59 : decode cX9_wordOf 59 = .ok (.goto 4, 3) := by decide +kernel
theorem dX9_wordOf_62 : decode cX9_wordOf 62 = .ok (.iconst (-1), 1) := by decide +kernel
theorem dX9_wordOf_63 : decode cX9_wordOf 63 = .ok (.istore_n 2, 1) := by decide +kernel
theorem dX9_wordOf_64 : decode cX9_wordOf 64 = .ok (.lload_n 0, 1) := by decide +kernel
theorem dX9_wordOf_65 : decode cX9_wordOf 65 = .ok (.iconst 1, 1) := by decide +kernel
theorem dX9_wordOf_66 : decode cX9_wordOf 66 = .ok (.bipush 19, 2) := by decide +kernel
theorem dX9_wordOf_68 : decode cX9_wordOf 68 = .ok (.bipush 11, 2) := by decide +kernel
theorem dX9_wordOf_70 : decode cX9_wordOf 70 = .ok (.iconst 0, 1) := by decide +kernel
theorem dX9_wordOf_71 : decode cX9_wordOf 71 = .ok (.iconst 0, 1) := by decide +kernel
theorem dX9_wordOf_72 : decode cX9_wordOf 72 = .ok (.iconst 0, 1) := by decide +kernel
theorem dX9_wordOf_73 : decode cX9_wordOf 73 = .ok (.invokestatic 196, 3) := by decide +kernel
theorem dX9_wordOf_76 : decode cX9_wordOf 76 = .ok (.lcmp, 1) := by decide +kernel
theorem dX9_wordOf_77 : decode cX9_wordOf 77 = .ok (.ifCond .ne 7, 3) := by decide +kernel
theorem dX9_wordOf_80 : decode cX9_wordOf 80 = .ok (.iconst 3, 1) := by decide +kernel
theorem dX9_wordOf_81 : decode cX9_wordOf 81 = .ok (.goto 46, 3) := by decide +kernel
theorem dX9_wordOf_84 : decode cX9_wordOf 84 = .ok (.lload_n 0, 1) := by decide +kernel
theorem dX9_wordOf_85 : decode cX9_wordOf 85 = .ok (.iconst 5, 1) := by decide +kernel
theorem dX9_wordOf_86 : decode cX9_wordOf 86 = .ok (.bipush 24, 2) := by decide +kernel
theorem dX9_wordOf_88 : decode cX9_wordOf 88 = .ok (.iconst 5, 1) := by decide +kernel
theorem dX9_wordOf_89 : decode cX9_wordOf 89 = .ok (.bipush 13, 2) := by decide +kernel
theorem dX9_wordOf_91 : decode cX9_wordOf 91 = .ok (.bipush 16, 2) := by decide +kernel
theorem dX9_wordOf_93 : decode cX9_wordOf 93 = .ok (.bipush 20, 2) := by decide +kernel
theorem dX9_wordOf_95 : decode cX9_wordOf 95 = .ok (.invokestatic 196, 3) := by decide +kernel
theorem dX9_wordOf_98 : decode cX9_wordOf 98 = .ok (.lcmp, 1) := by decide +kernel
theorem dX9_wordOf_99 : decode cX9_wordOf 99 = .ok (.ifCond .ne 7, 3) := by decide +kernel
theorem dX9_wordOf_102 : decode cX9_wordOf 102 = .ok (.iconst 4, 1) := by decide +kernel
theorem dX9_wordOf_103 : decode cX9_wordOf 103 = .ok (.goto 24, 3) := by decide +kernel
theorem dX9_wordOf_106 : decode cX9_wordOf 106 = .ok (.lload_n 0, 1) := by decide +kernel
theorem dX9_wordOf_107 : decode cX9_wordOf 107 = .ok (.iconst 4, 1) := by decide +kernel
theorem dX9_wordOf_108 : decode cX9_wordOf 108 = .ok (.bipush 15, 2) := by decide +kernel
theorem dX9_wordOf_110 : decode cX9_wordOf 110 = .ok (.bipush 14, 2) := by decide +kernel
theorem dX9_wordOf_112 : decode cX9_wordOf 112 = .ok (.iconst 5, 1) := by decide +kernel
theorem dX9_wordOf_113 : decode cX9_wordOf 113 = .ok (.iconst 0, 1) := by decide +kernel
theorem dX9_wordOf_114 : decode cX9_wordOf 114 = .ok (.iconst 0, 1) := by decide +kernel
theorem dX9_wordOf_115 : decode cX9_wordOf 115 = .ok (.invokestatic 196, 3) := by decide +kernel
theorem dX9_wordOf_118 : decode cX9_wordOf 118 = .ok (.lcmp, 1) := by decide +kernel
theorem dX9_wordOf_119 : decode cX9_wordOf 119 = .ok (.ifCond .ne 7, 3) := by decide +kernel
theorem dX9_wordOf_122 : decode cX9_wordOf 122 = .ok (.iconst 5, 1) := by decide +kernel
