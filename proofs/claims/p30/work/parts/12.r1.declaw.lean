theorem dL_law_0 : decode cL_law 0 = .ok (.new 10, 3) := by decide +kernel
theorem dL_law_3 : decode cL_law 3 = .ok (.dup, 1) := by decide +kernel
theorem dL_law_4 : decode cL_law 4 = .ok (.invokespecial 171, 3) := by decide +kernel
theorem dL_law_7 : decode cL_law 7 = .ok (.astore_n 1, 1) := by decide +kernel
theorem dL_law_8 : decode cL_law 8 = .ok (.aload_n 1, 1) := by decide +kernel
theorem dL_law_9 : decode cL_law 9 = .ok (.invokestatic 129, 3) := by decide +kernel
theorem dL_law_12 : decode cL_law 12 = .ok (.bipush (-11), 2) := by decide +kernel
theorem dL_law_14 : decode cL_law 14 = .ok (.if_icmp .ne 32, 3) := by decide +kernel
theorem dL_law_17 : decode cL_law 17 = .ok (.aload_n 1, 1) := by decide +kernel
theorem dL_law_18 : decode cL_law 18 = .ok (.invokevirtual 172, 3) := by decide +kernel
theorem dL_law_21 : decode cL_law 21 = .ok (.ifCond .ne 25, 3) := by decide +kernel
theorem dL_law_24 : decode cL_law 24 = .ok (.aload_n 1, 1) := by decide +kernel
theorem dL_law_25 : decode cL_law 25 = .ok (.iconst 4, 1) := by decide +kernel
theorem dL_law_26 : decode cL_law 26 = .ok (.invokestatic 92, 3) := by decide +kernel
theorem dL_law_29 : decode cL_law 29 = .ok (.iconst 3, 1) := by decide +kernel
theorem dL_law_30 : decode cL_law 30 = .ok (.if_icmp .ne 16, 3) := by decide +kernel
theorem dL_law_33 : decode cL_law 33 = .ok (.aload_n 1, 1) := by decide +kernel
theorem dL_law_34 : decode cL_law 34 = .ok (.bipush 39, 2) := by decide +kernel
theorem dL_law_36 : decode cL_law 36 = .ok (.invokestatic 97, 3) := by decide +kernel
theorem dL_law_39 : decode cL_law 39 = .ok (.ifCond .ne 7, 3) := by decide +kernel
theorem dL_law_42 : decode cL_law 42 = .ok (.iconst 1, 1) := by decide +kernel
theorem dL_law_43 : decode cL_law 43 = .ok (.goto 4, 3) := by decide +kernel
theorem dL_law_46 : decode cL_law 46 = .ok (.iconst 0, 1) := by decide +kernel
theorem dL_law_47 : decode cL_law 47 = .ok (.istore_n 2, 1) := by decide +kernel
theorem dL_law_48 : decode cL_law 48 = .ok (.iconst 0, 1) := by decide +kernel
theorem dL_law_49 : decode cL_law 49 = .ok (.istore_n 3, 1) := by decide +kernel
theorem dL_law_50 : decode cL_law 50 = .ok (.iload_n 3, 1) := by decide +kernel
theorem dL_law_51 : decode cL_law 51 = .ok (.iconst 2, 1) := by decide +kernel
theorem dL_law_52 : decode cL_law 52 = .ok (.if_icmp .ge 35, 3) := by decide +kernel
theorem dL_law_55 : decode cL_law 55 = .ok (.iload_n 2, 1) := by decide +kernel
theorem dL_law_56 : decode cL_law 56 = .ok (.ifCond .eq 31, 3) := by decide +kernel
theorem dL_law_59 : decode cL_law 59 = .ok (.aload_n 1, 1) := by decide +kernel
theorem dL_law_60 : decode cL_law 60 = .ok (.aload_n 0, 1) := by decide +kernel
theorem dL_law_61 : decode cL_law 61 = .ok (.iload_n 3, 1) := by decide +kernel
theorem dL_law_62 : decode cL_law 62 = .ok (.invokestatic 175, 3) := by decide +kernel
theorem dL_law_65 : decode cL_law 65 = .ok (.bipush 60, 2) := by decide +kernel
theorem dL_law_67 : decode cL_law 67 = .ok (.irem, 1) := by decide +kernel
theorem dL_law_68 : decode cL_law 68 = .ok (.invokestatic 140, 3) := by decide +kernel
theorem dL_law_71 : decode cL_law 71 = .ok (.iload_n 3, 1) := by decide +kernel
theorem dL_law_72 : decode cL_law 72 = .ok (.if_icmp .ne 7, 3) := by decide +kernel
theorem dL_law_75 : decode cL_law 75 = .ok (.iconst 1, 1) := by decide +kernel
theorem dL_law_76 : decode cL_law 76 = .ok (.goto 4, 3) := by decide +kernel
theorem dL_law_79 : decode cL_law 79 = .ok (.iconst 0, 1) := by decide +kernel
theorem dL_law_80 : decode cL_law 80 = .ok (.istore_n 2, 1) := by decide +kernel
theorem dL_law_81 : decode cL_law 81 = .ok (.iinc 3 1, 3) := by decide +kernel
theorem dL_law_84 : decode cL_law 84 = .ok (.goto (-34), 3) := by decide +kernel
theorem dL_law_87 : decode cL_law 87 = .ok (.iconst 2, 1) := by decide +kernel
theorem dL_law_88 : decode cL_law 88 = .ok (.istore_n 3, 1) := by decide +kernel
theorem dL_law_89 : decode cL_law 89 = .ok (.iload_n 3, 1) := by decide +kernel
theorem dL_law_90 : decode cL_law 90 = .ok (.bipush 22, 2) := by decide +kernel
theorem dL_law_92 : decode cL_law 92 = .ok (.if_icmp .ge 44, 3) := by decide +kernel
theorem dL_law_95 : decode cL_law 95 = .ok (.iload_n 2, 1) := by decide +kernel
theorem dL_law_96 : decode cL_law 96 = .ok (.ifCond .eq 40, 3) := by decide +kernel
theorem dL_law_99 : decode cL_law 99 = .ok (.aload_n 1, 1) := by decide +kernel
theorem dL_law_100 : decode cL_law 100 = .ok (.aload_n 0, 1) := by decide +kernel
theorem dL_law_101 : decode cL_law 101 = .ok (.iload_n 3, 1) := by decide +kernel
theorem dL_law_102 : decode cL_law 102 = .ok (.invokestatic 175, 3) := by decide +kernel
theorem dL_law_105 : decode cL_law 105 = .ok (.invokestatic 179, 3) := by decide +kernel
theorem dL_law_108 : decode cL_law 108 = .ok (.ifCond .eq 20, 3) := by decide +kernel
theorem dL_law_111 : decode cL_law 111 = .ok (.iload_n 3, 1) := by decide +kernel
theorem dL_law_112 : decode cL_law 112 = .ok (.iconst 3, 1) := by decide +kernel
theorem dL_law_113 : decode cL_law 113 = .ok (.irem, 1) := by decide +kernel
theorem dL_law_114 : decode cL_law 114 = .ok (.ifCond .ne 10, 3) := by decide +kernel
theorem dL_law_117 : decode cL_law 117 = .ok (.aload_n 1, 1) := by decide +kernel
theorem dL_law_118 : decode cL_law 118 = .ok (.invokestatic 182, 3) := by decide +kernel
theorem dL_law_121 : decode cL_law 121 = .ok (.ifCond .eq 7, 3) := by decide +kernel
theorem dL_law_124 : decode cL_law 124 = .ok (.iconst 1, 1) := by decide +kernel
theorem dL_law_125 : decode cL_law 125 = .ok (.goto 4, 3) := by decide +kernel
theorem dL_law_128 : decode cL_law 128 = .ok (.iconst 0, 1) := by decide +kernel
theorem dL_law_129 : decode cL_law 129 = .ok (.istore_n 2, 1) := by decide +kernel
theorem dL_law_130 : decode cL_law 130 = .ok (.iinc 3 1, 3) := by decide +kernel
theorem dL_law_133 : decode cL_law 133 = .ok (.goto (-44), 3) := by decide +kernel
theorem dL_law_136 : decode cL_law 136 = .ok (.iload_n 2, 1) := by decide +kernel
theorem dL_law_137 : decode cL_law 137 = .ok (.ifCond .eq 21, 3) := by decide +kernel
theorem dL_law_140 : decode cL_law 140 = .ok (.aload_n 1, 1) := by decide +kernel
theorem dL_law_141 : decode cL_law 141 = .ok (.invokestatic 182, 3) := by decide +kernel
theorem dL_law_144 : decode cL_law 144 = .ok (.ifCond .eq 14, 3) := by decide +kernel
theorem dL_law_147 : decode cL_law 147 = .ok (.aload_n 1, 1) := by decide +kernel
theorem dL_law_148 : decode cL_law 148 = .ok (.invokestatic 186, 3) := by decide +kernel
theorem dL_law_151 : decode cL_law 151 = .ok (.ifCond .eq 7, 3) := by decide +kernel
theorem dL_law_154 : decode cL_law 154 = .ok (.iconst 1, 1) := by decide +kernel
theorem dL_law_155 : decode cL_law 155 = .ok (.goto 4, 3) := by decide +kernel
theorem dL_law_158 : decode cL_law 158 = .ok (.iconst 0, 1) := by decide +kernel
theorem dL_law_159 : decode cL_law 159 = .ok (.ireturn, 1) := by decide +kernel
