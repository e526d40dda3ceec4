theorem dX9_wordOf_123 : decode cX9_wordOf 123 = .ok (.goto 4, 3) := by decide +kernel
theorem dX9_wordOf_126 : decode cX9_wordOf 126 = .ok (.iload_n 2, 1) := by decide +kernel
theorem dX9_wordOf_127 : decode cX9_wordOf 127 = .ok (.istore_n 2, 1) := by decide +kernel
theorem dX9_wordOf_128 : decode cX9_wordOf 128 = .ok (.lload_n 0, 1) := by decide +kernel
theorem dX9_wordOf_129 : decode cX9_wordOf 129 = .ok (.bipush 6, 2) := by decide +kernel
theorem dX9_wordOf_131 : decode cX9_wordOf 131 = .ok (.iconst 1, 1) := by decide +kernel
theorem dX9_wordOf_132 : decode cX9_wordOf 132 = .ok (.bipush 21, 2) := by decide +kernel
theorem dX9_wordOf_134 : decode cX9_wordOf 134 = .ok (.bipush 12, 2) := by decide +kernel
theorem dX9_wordOf_136 : decode cX9_wordOf 136 = .ok (.bipush 20, 2) := by decide +kernel
theorem dX9_wordOf_138 : decode cX9_wordOf 138 = .ok (.iconst 0, 1) := by decide +kernel
theorem dX9_wordOf_139 : decode cX9_wordOf 139 = .ok (.invokestatic 196, 3) := by decide +kernel
theorem dX9_wordOf_142 : decode cX9_wordOf 142 = .ok (.lcmp, 1) := by decide +kernel
theorem dX9_wordOf_143 : decode cX9_wordOf 143 = .ok (.ifCond .ne 8, 3) := by decide +kernel
theorem dX9_wordOf_146 : decode cX9_wordOf 146 = .ok (.bipush 6, 2) := by decide +kernel
theorem dX9_wordOf_148 : decode cX9_wordOf 148 = .ok (.goto 47, 3) := by decide +kernel
theorem dX9_wordOf_151 : decode cX9_wordOf 151 = .ok (.lload_n 0, 1) := by decide +kernel
theorem dX9_wordOf_152 : decode cX9_wordOf 152 = .ok (.iconst 4, 1) := by decide +kernel
theorem dX9_wordOf_153 : decode cX9_wordOf 153 = .ok (.bipush 18, 2) := by decide +kernel
theorem dX9_wordOf_155 : decode cX9_wordOf 155 = .ok (.bipush 15, 2) := by decide +kernel
theorem dX9_wordOf_157 : decode cX9_wordOf 157 = .ok (.bipush 16, 2) := by decide +kernel
theorem dX9_wordOf_159 : decode cX9_wordOf 159 = .ok (.iconst 0, 1) := by decide +kernel
theorem dX9_wordOf_160 : decode cX9_wordOf 160 = .ok (.iconst 0, 1) := by decide +kernel
theorem dX9_wordOf_161 : decode cX9_wordOf 161 = .ok (.invokestatic 196, 3) := by decide +kernel
theorem dX9_wordOf_164 : decode cX9_wordOf 164 = .ok (.lcmp, 1) := by decide +kernel
theorem dX9_wordOf_165 : decode cX9_wordOf 165 = .ok (.ifCond .ne 8, 3) := by decide +kernel
theorem dX9_wordOf_168 : decode cX9_wordOf 168 = .ok (.bipush 7, 2) := by decide +kernel
theorem dX9_wordOf_170 : decode cX9_wordOf 170 = .ok (.goto 25, 3) := by decide +kernel
theorem dX9_wordOf_173 : decode cX9_wordOf 173 = .ok (.lload_n 0, 1) := by decide +kernel
theorem dX9_wordOf_174 : decode cX9_wordOf 174 = .ok (.bipush 12, 2) := by decide +kernel
theorem dX9_wordOf_176 : decode cX9_wordOf 176 = .ok (.iconst 5, 1) := by decide +kernel
theorem dX9_wordOf_177 : decode cX9_wordOf 177 = .ok (.bipush 14, 2) := by decide +kernel
theorem dX9_wordOf_179 : decode cX9_wordOf 179 = .ok (.iconst 4, 1) := by decide +kernel
theorem dX9_wordOf_180 : decode cX9_wordOf 180 = .ok (.iconst 0, 1) := by decide +kernel
theorem dX9_wordOf_181 : decode cX9_wordOf 181 = .ok (.iconst 0, 1) := by decide +kernel
theorem dX9_wordOf_182 : decode cX9_wordOf 182 = .ok (.invokestatic 196, 3) := by decide +kernel
theorem dX9_wordOf_185 : decode cX9_wordOf 185 = .ok (.lcmp, 1) := by decide +kernel
theorem dX9_wordOf_186 : decode cX9_wordOf 186 = .ok (.ifCond .ne 8, 3) := by decide +kernel
theorem dX9_wordOf_189 : decode cX9_wordOf 189 = .ok (.bipush 8, 2) := by decide +kernel
theorem dX9_wordOf_191 : decode cX9_wordOf 191 = .ok (.goto 4, 3) := by decide +kernel
theorem dX9_wordOf_194 : decode cX9_wordOf 194 = .ok (.iload_n 2, 1) := by decide +kernel
theorem dX9_wordOf_195 : decode cX9_wordOf 195 = .ok (.istore_n 2, 1) := by decide +kernel
theorem dX9_wordOf_196 : decode cX9_wordOf 196 = .ok (.lload_n 0, 1) := by decide +kernel
theorem dX9_wordOf_197 : decode cX9_wordOf 197 = .ok (.bipush 18, 2) := by decide +kernel
theorem dX9_wordOf_199 : decode cX9_wordOf 199 = .ok (.iconst 5, 1) := by decide +kernel
theorem dX9_wordOf_200 : decode cX9_wordOf 200 = .ok (.bipush 16, 2) := by decide +kernel
theorem dX9_wordOf_202 : decode cX9_wordOf 202 = .ok (.iconst 1, 1) := by decide +kernel
theorem dX9_wordOf_203 : decode cX9_wordOf 203 = .ok (.bipush 25, 2) := by decide +kernel
theorem dX9_wordOf_205 : decode cX9_wordOf 205 = .ok (.iconst 0, 1) := by decide +kernel
theorem dX9_wordOf_206 : decode cX9_wordOf 206 = .ok (.invokestatic 196, 3) := by decide +kernel
theorem dX9_wordOf_209 : decode cX9_wordOf 209 = .ok (.lcmp, 1) := by decide +kernel
theorem dX9_wordOf_210 : decode cX9_wordOf 210 = .ok (.ifCond .ne 8, 3) := by decide +kernel
theorem dX9_wordOf_213 : decode cX9_wordOf 213 = .ok (.bipush 9, 2) := by decide +kernel
theorem dX9_wordOf_215 : decode cX9_wordOf 215 = .ok (.goto 46, 3) := by decide +kernel
theorem dX9_wordOf_218 : decode cX9_wordOf 218 = .ok (.lload_n 0, 1) := by decide +kernel
theorem dX9_wordOf_219 : decode cX9_wordOf 219 = .ok (.bipush 19, 2) := by decide +kernel
theorem dX9_wordOf_221 : decode cX9_wordOf 221 = .ok (.iconst 5, 1) := by decide +kernel
theorem dX9_wordOf_222 : decode cX9_wordOf 222 = .ok (.bipush 20, 2) := by decide +kernel
theorem dX9_wordOf_224 : decode cX9_wordOf 224 = .ok (.iconst 0, 1) := by decide +kernel
theorem dX9_wordOf_225 : decode cX9_wordOf 225 = .ok (.iconst 0, 1) := by decide +kernel
theorem dX9_wordOf_226 : decode cX9_wordOf 226 = .ok (.iconst 0, 1) := by decide +kernel
theorem dX9_wordOf_227 : decode cX9_wordOf 227 = .ok (.invokestatic 196, 3) := by decide +kernel
theorem dX9_wordOf_230 : decode cX9_wordOf 230 = .ok (.lcmp, 1) := by decide +kernel
theorem dX9_wordOf_231 : decode cX9_wordOf 231 = .ok (.ifCond .ne 8, 3) := by decide +kernel
theorem dX9_wordOf_234 : decode cX9_wordOf 234 = .ok (.bipush 10, 2) := by decide +kernel
theorem dX9_wordOf_236 : decode cX9_wordOf 236 = .ok (.goto 25, 3) := by decide +kernel
theorem dX9_wordOf_239 : decode cX9_wordOf 239 = .ok (.lload_n 0, 1) := by decide +kernel
theorem dX9_wordOf_240 : decode cX9_wordOf 240 = .ok (.bipush 23, 2) := by decide +kernel
theorem dX9_wordOf_242 : decode cX9_wordOf 242 = .ok (.iconst 5, 1) := by decide +kernel
theorem dX9_wordOf_243 : decode cX9_wordOf 243 = .ok (.iconst 5, 1) := by decide +kernel
theorem dX9_wordOf_244 : decode cX9_wordOf 244 = .ok (.bipush 11, 2) := by decide +kernel
theorem dX9_wordOf_246 : decode cX9_wordOf 246 = .ok (.iconst 0, 1) := by decide +kernel
theorem dX9_wordOf_247 : decode cX9_wordOf 247 = .ok (.iconst 0, 1) := by decide +kernel
theorem dX9_wordOf_248 : decode cX9_wordOf 248 = .ok (.invokestatic 196, 3) := by decide +kernel
theorem dX9_wordOf_251 : decode cX9_wordOf 251 = .ok (.lcmp, 1) := by decide +kernel
theorem dX9_wordOf_252 : decode cX9_wordOf 252 = .ok (.ifCond .ne 8, 3) := by decide +kernel
theorem dX9_wordOf_255 : decode cX9_wordOf 255 = .ok (.bipush 11, 2) := by decide +kernel
theorem dX9_wordOf_257 : decode cX9_wordOf 257 = .ok (.goto 4, 3) := by decide +kernel
theorem dX9_wordOf_260 : decode cX9_wordOf 260 = .ok (.iload_n 2, 1) := by decide +kernel
theorem dX9_wordOf_261 : decode cX9_wordOf 261 = .ok (.ireturn, 1) := by decide +kernel
theorem dX9_many_0 : decode cX9_many 0 = .ok (.iload_n 0, 1) := by decide +kernel
theorem dX9_many_1 : decode cX9_many 1 = .ok (.tableswitch 69 0 11 #[63, 69, 69, 69, 63, 63, 63, 63, 65, 69, 69, 67], 63) := by decide +kernel
theorem dX9_many_64 : decode cX9_many 64 = .ok (.iconst 1, 1) := by decide +kernel
theorem dX9_many_65 : decode cX9_many 65 = .ok (.ireturn, 1) := by decide +kernel
theorem dX9_many_66 : decode cX9_many 66 = .ok (.iconst 4, 1) := by decide +kernel
theorem dX9_many_67 : decode cX9_many 67 = .ok (.ireturn, 1) := by decide +kernel
theorem dX9_many_68 : decode cX9_many 68 = .ok (.iconst 0, 1) := by decide +kernel
theorem dX9_many_69 : decode cX9_many 69 = .ok (.ireturn, 1) := by decide +kernel
theorem dX9_many_70 : decode cX9_many 70 = .ok (.iconst 2, 1) := by decide +kernel
theorem dX9_many_71 : decode cX9_many 71 = .ok (.ireturn, 1) := by decide +kernel
theorem dX9_readNumber_0 : decode cX9_readNumber 0 = .ok (.aload_n 0, 1) := by decide +kernel
theorem dX9_readNumber_1 : decode cX9_readNumber 1 = .ok (.invokevirtual 190, 3) := by decide +kernel
theorem dX9_readNumber_4 : decode cX9_readNumber 4 = .ok (.bipush 32, 2) := by decide +kernel
theorem dX9_readNumber_6 : decode cX9_readNumber 6 = .ok (.if_icmp .eq 7, 3) := by decide +kernel
theorem dX9_readNumber_9 : decode cX9_readNumber 9 = .ok (.aload_n 0, 1) := by decide +kernel
theorem dX9_readNumber_10 : decode cX9_readNumber 10 = .ok (.invokevirtual 200, 3) := by decide +kernel
theorem dX9_readNumber_13 : decode cX9_readNumber 13 = .ok (.aload_n 0, 1) := by decide +kernel
theorem dX9_readNumber_14 : decode cX9_readNumber 14 = .ok (.invokevirtual 203, 3) := by decide +kernel
theorem dX9_readNumber_17 : decode cX9_readNumber 17 = .ok (.aload_n 0, 1) := by decide +kernel
theorem dX9_readNumber_18 : decode cX9_readNumber 18 = .ok (.invokevirtual 190, 3) := by decide +kernel
theorem dX9_readNumber_21 : decode cX9_readNumber 21 = .ok (.invokestatic 206, 3) := by decide +kernel
theorem dX9_readNumber_24 : decode cX9_readNumber 24 = .ok (.ifCond .ne 7, 3) := by decide +kernel
theorem dX9_readNumber_27 : decode cX9_readNumber 27 = .ok (.aload_n 0, 1) := by decide +kernel
theorem dX9_readNumber_28 : decode cX9_readNumber 28 = .ok (.invokevirtual 200, 3) := by decide +kernel
theorem dX9_readNumber_31 : decode cX9_readNumber 31 = .ok (.aload_n 0, 1) := by decide +kernel
theorem dX9_readNumber_32 : decode cX9_readNumber 32 = .ok (.getfield 184, 3) := by decide +kernel
theorem dX9_readNumber_35 : decode cX9_readNumber 35 = .ok (.istore_n 2, 1) := by decide +kernel
theorem dX9_readNumber_36 : decode cX9_readNumber 36 = .ok (.iconst 0, 1) := by decide +kernel
theorem dX9_readNumber_37 : decode cX9_readNumber 37 = .ok (.istore_n 3, 1) := by decide +kernel
theorem dX9_readNumber_38 : decode cX9_readNumber 38 = .ok (.aload_n 0, 1) := by decide +kernel
theorem dX9_readNumber_39 : decode cX9_readNumber 39 = .ok (.invokevirtual 190, 3) := by decide +kernel
theorem dX9_readNumber_42 : decode cX9_readNumber 42 = .ok (.invokestatic 206, 3) := by decide +kernel
theorem dX9_readNumber_45 : decode cX9_readNumber 45 = .ok (.ifCond .eq 39, 3) := by decide +kernel
theorem dX9_readNumber_48 : decode cX9_readNumber 48 = .ok (.aload_n 0, 1) := by decide +kernel
theorem dX9_readNumber_49 : decode cX9_readNumber 49 = .ok (.getfield 184, 3) := by decide +kernel
theorem dX9_readNumber_52 : decode cX9_readNumber 52 = .ok (.iload_n 2, 1) := by decide +kernel
theorem dX9_readNumber_53 : decode cX9_readNumber 53 = .ok (.isub, 1) := by decide +kernel
theorem dX9_readNumber_54 : decode cX9_readNumber 54 = .ok (.iconst 3, 1) := by decide +kernel
theorem dX9_readNumber_55 : decode cX9_readNumber 55 = .ok (.if_icmp .ge 29, 3) := by decide +kernel
theorem dX9_readNumber_58 : decode cX9_readNumber 58 = .ok (.bipush 10, 2) := by decide +kernel
theorem dX9_readNumber_60 : decode cX9_readNumber 60 = .ok (.iload_n 3, 1) := by decide +kernel
theorem dX9_readNumber_61 : decode cX9_readNumber 61 = .ok (.imul, 1) := by decide +kernel
theorem dX9_readNumber_62 : decode cX9_readNumber 62 = .ok (.aload_n 0, 1) := by decide +kernel
theorem dX9_readNumber_63 : decode cX9_readNumber 63 = .ok (.invokevirtual 190, 3) := by decide +kernel
theorem dX9_readNumber_66 : decode cX9_readNumber 66 = .ok (.iadd, 1) := by decide +kernel
theorem dX9_readNumber_67 : decode cX9_readNumber 67 = .ok (.bipush 48, 2) := by decide +kernel
theorem dX9_readNumber_69 : decode cX9_readNumber 69 = .ok (.isub, 1) := by decide +kernel
theorem dX9_readNumber_70 : decode cX9_readNumber 70 = .ok (.istore_n 3, 1) := by decide +kernel
theorem dX9_readNumber_71 : decode cX9_readNumber 71 = .ok (.aload_n 0, 1) := by decide +kernel
theorem dX9_readNumber_72 : decode cX9_readNumber 72 = .ok (.dup, 1) := by decide +kernel
theorem dX9_readNumber_73 : decode cX9_readNumber 73 = .ok (.getfield 184, 3) := by decide +kernel
theorem dX9_readNumber_76 : decode cX9_readNumber 76 = .ok (.iconst 1, 1) := by decide +kernel
theorem dX9_readNumber_77 : decode cX9_readNumber 77 = .ok (.iadd, 1) := by decide +kernel
theorem dX9_readNumber_78 : decode cX9_readNumber 78 = .ok (.putfield 184, 3) := by decide +kernel
theorem dX9_readNumber_81 : decode cX9_readNumber 81 = .ok (.goto (-43), 3) := by decide +kernel
theorem dX9_readNumber_84 : decode cX9_readNumber 84 = .ok (.aload_n 0, 1) := by decide +kernel
theorem dX9_readNumber_85 : decode cX9_readNumber 85 = .ok (.invokevirtual 190, 3) := by decide +kernel
theorem dX9_readNumber_88 : decode cX9_readNumber 88 = .ok (.invokestatic 206, 3) := by decide +kernel
theorem dX9_readNumber_91 : decode cX9_readNumber 91 = .ok (.ifCond .eq 7, 3) := by decide +kernel
theorem dX9_readNumber_94 : decode cX9_readNumber 94 = .ok (.aload_n 0, 1) := by decide +kernel
theorem dX9_readNumber_95 : decode cX9_readNumber 95 = .ok (.invokevirtual 200, 3) := by decide +kernel
theorem dX9_readNumber_98 : decode cX9_readNumber 98 = .ok (.aload_n 0, 1) := by decide +kernel
theorem dX9_readNumber_99 : decode cX9_readNumber 99 = .ok (.getfield 22, 3) := by decide +kernel
theorem dX9_readNumber_102 : decode cX9_readNumber 102 = .ok (.iload_n 1, 1) := by decide +kernel
theorem dX9_readNumber_103 : decode cX9_readNumber 103 = .ok (.iload_n 3, 1) := by decide +kernel
theorem dX9_readNumber_104 : decode cX9_readNumber 104 = .ok (.iastore, 1) := by decide +kernel
theorem dX9_readNumber_105 : decode cX9_readNumber 105 = .ok (.return_, 1) := by decide +kernel
theorem dX9_reads_0 : decode cX9_reads 0 = .ok (.aload_n 0, 1) := by decide +kernel
theorem dX9_reads_1 : decode cX9_reads 1 = .ok (.getfield 184, 3) := by decide +kernel
theorem dX9_reads_4 : decode cX9_reads 4 = .ok (.istore_n 1, 1) := by decide +kernel
theorem dX9_reads_5 : decode cX9_reads 5 = .ok (.aload_n 0, 1) := by decide +kernel
theorem dX9_reads_6 : decode cX9_reads 6 = .ok (.invokevirtual 209, 3) := by decide +kernel
theorem dX9_reads_9 : decode cX9_reads 9 = .ok (.lstore_n 2, 1) := by decide +kernel
theorem dX9_reads_10 : decode cX9_reads 10 = .ok (.aload_n 0, 1) := by decide +kernel
theorem dX9_reads_11 : decode cX9_reads 11 = .ok (.getfield 184, 3) := by decide +kernel
theorem dX9_reads_14 : decode cX9_reads 14 = .ok (.iload_n 1, 1) := by decide +kernel
theorem dX9_reads_15 : decode cX9_reads 15 = .ok (.if_icmp .ne 8, 3) := by decide +kernel
theorem dX9_reads_18 : decode cX9_reads 18 = .ok (.aload_n 0, 1) := by decide +kernel
theorem dX9_reads_19 : decode cX9_reads 19 = .ok (.invokevirtual 200, 3) := by decide +kernel
theorem dX9_reads_22 : decode cX9_reads 22 = .ok (.return_, 1) := by decide +kernel
theorem dX9_reads_23 : decode cX9_reads 23 = .ok (.aload_n 0, 1) := by decide +kernel
theorem dX9_reads_24 : decode cX9_reads 24 = .ok (.lload_n 2, 1) := by decide +kernel
theorem dX9_reads_25 : decode cX9_reads 25 = .ok (.invokestatic 213, 3) := by decide +kernel
theorem dX9_reads_28 : decode cX9_reads 28 = .ok (.putfield 217, 3) := by decide +kernel
theorem dX9_reads_31 : decode cX9_reads 31 = .ok (.aload_n 0, 1) := by decide +kernel
theorem dX9_reads_32 : decode cX9_reads 32 = .ok (.getfield 217, 3) := by decide +kernel
theorem dX9_reads_35 : decode cX9_reads 35 = .ok (.iconst (-1), 1) := by decide +kernel
theorem dX9_reads_36 : decode cX9_reads 36 = .ok (.if_icmp .ne 13, 3) := by decide +kernel
theorem dX9_reads_39 : decode cX9_reads 39 = .ok (.aload_n 0, 1) := by decide +kernel
theorem dX9_reads_40 : decode cX9_reads 40 = .ok (.iload_n 1, 1) := by decide +kernel
theorem dX9_reads_41 : decode cX9_reads 41 = .ok (.putfield 184, 3) := by decide +kernel
theorem dX9_reads_44 : decode cX9_reads 44 = .ok (.aload_n 0, 1) := by decide +kernel
theorem dX9_reads_45 : decode cX9_reads 45 = .ok (.invokevirtual 200, 3) := by decide +kernel
theorem dX9_reads_48 : decode cX9_reads 48 = .ok (.return_, 1) := by decide +kernel
theorem dX9_reads_49 : decode cX9_reads 49 = .ok (.iconst 0, 1) := by decide +kernel
theorem dX9_reads_50 : decode cX9_reads 50 = .ok (.istore 4, 2) := by decide +kernel
theorem dX9_reads_52 : decode cX9_reads 52 = .ok (.iload 4, 2) := by decide +kernel
theorem dX9_reads_54 : decode cX9_reads 54 = .ok (.aload_n 0, 1) := by decide +kernel
theorem dX9_reads_55 : decode cX9_reads 55 = .ok (.getfield 217, 3) := by decide +kernel
theorem dX9_reads_58 : decode cX9_reads 58 = .ok (.invokestatic 220, 3) := by decide +kernel
theorem dX9_reads_61 : decode cX9_reads 61 = .ok (.if_icmp .ge 23, 3) := by decide +kernel
theorem dX9_reads_64 : decode cX9_reads 64 = .ok (.aload_n 0, 1) := by decide +kernel
theorem dX9_reads_65 : decode cX9_reads 65 = .ok (.getfield 187, 3) := by decide +kernel
theorem dX9_reads_68 : decode cX9_reads 68 = .ok (.iconst (-1), 1) := by decide +kernel
theorem dX9_reads_69 : decode cX9_reads 69 = .ok (.if_icmp .ne 15, 3) := by decide +kernel
theorem dX9_reads_72 : decode cX9_reads 72 = .ok (.aload_n 0, 1) := by decide +kernel
theorem dX9_reads_73 : decode cX9_reads 73 = .ok (.iload 4, 2) := by decide +kernel
theorem dX9_reads_75 : decode cX9_reads 75 = .ok (.invokevirtual 223, 3) := by decide +kernel
theorem dX9_reads_78 : decode cX9_reads 78 = .ok (.iinc 4 1, 3) := by decide +kernel
theorem dX9_reads_81 : decode cX9_reads 81 = .ok (.goto (-29), 3) := by decide +kernel
theorem dX9_reads_84 : decode cX9_reads 84 = .ok (.aload_n 0, 1) := by decide +kernel
theorem dX9_reads_85 : decode cX9_reads 85 = .ok (.invokevirtual 203, 3) := by decide +kernel
theorem dX9_reads_88 : decode cX9_reads 88 = .ok (.aload_n 0, 1) := by decide +kernel
theorem dX9_reads_89 : decode cX9_reads 89 = .ok (.invokevirtual 190, 3) := by decide +kernel
theorem dX9_reads_92 : decode cX9_reads 92 = .ok (.bipush 59, 2) := by decide +kernel
theorem dX9_reads_94 : decode cX9_reads 94 = .ok (.if_icmp .eq 7, 3) := by decide +kernel
theorem dX9_reads_97 : decode cX9_reads 97 = .ok (.aload_n 0, 1) := by decide +kernel
theorem dX9_reads_98 : decode cX9_reads 98 = .ok (.invokevirtual 200, 3) := by decide +kernel
theorem dX9_reads_101 : decode cX9_reads 101 = .ok (.aload_n 0, 1) := by decide +kernel
theorem dX9_reads_102 : decode cX9_reads 102 = .ok (.dup, 1) := by decide +kernel
theorem dX9_reads_103 : decode cX9_reads 103 = .ok (.getfield 184, 3) := by decide +kernel
theorem dX9_reads_106 : decode cX9_reads 106 = .ok (.iconst 1, 1) := by decide +kernel
theorem dX9_reads_107 : decode cX9_reads 107 = .ok (.iadd, 1) := by decide +kernel
theorem dX9_reads_108 : decode cX9_reads 108 = .ok (.putfield 184, 3) := by decide +kernel
theorem dX9_reads_111 : decode cX9_reads 111 = .ok (.return_, 1) := by decide +kernel
theorem dX9_faultOf_0 : decode cX9_faultOf 0 = .ok (.aload_n 0, 1) := by decide +kernel
theorem dX9_faultOf_1 : decode cX9_faultOf 1 = .ok (.iconst (-1), 1) := by decide +kernel
theorem dX9_faultOf_2 : decode cX9_faultOf 2 = .ok (.putfield 187, 3) := by decide +kernel
theorem dX9_faultOf_5 : decode cX9_faultOf 5 = .ok (.aload_n 0, 1) := by decide +kernel
theorem dX9_faultOf_6 : decode cX9_faultOf 6 = .ok (.iconst 0, 1) := by decide +kernel
theorem dX9_faultOf_7 : decode cX9_faultOf 7 = .ok (.putfield 184, 3) := by decide +kernel
theorem dX9_faultOf_10 : decode cX9_faultOf 10 = .ok (.aload_n 0, 1) := by decide +kernel
theorem dX9_faultOf_11 : decode cX9_faultOf 11 = .ok (.invokevirtual 203, 3) := by decide +kernel
theorem dX9_faultOf_14 : decode cX9_faultOf 14 = .ok (.aload_n 0, 1) := by decide +kernel
theorem dX9_faultOf_15 : decode cX9_faultOf 15 = .ok (.getfield 187, 3) := by decide +kernel
theorem dX9_faultOf_18 : decode cX9_faultOf 18 = .ok (.iconst (-1), 1) := by decide +kernel
theorem dX9_faultOf_19 : decode cX9_faultOf 19 = .ok (.if_icmp .ne 25, 3) := by decide +kernel
theorem dX9_faultOf_22 : decode cX9_faultOf 22 = .ok (.aload_n 0, 1) := by decide +kernel
theorem dX9_faultOf_23 : decode cX9_faultOf 23 = .ok (.getfield 184, 3) := by decide +kernel
theorem dX9_faultOf_26 : decode cX9_faultOf 26 = .ok (.aload_n 0, 1) := by decide +kernel
theorem dX9_faultOf_27 : decode cX9_faultOf 27 = .ok (.getfield 166, 3) := by decide +kernel
theorem dX9_faultOf_30 : decode cX9_faultOf 30 = .ok (.if_icmp .ge 14, 3) := by decide +kernel
theorem dX9_faultOf_33 : decode cX9_faultOf 33 = .ok (.aload_n 0, 1) := by decide +kernel
theorem dX9_faultOf_34 : decode cX9_faultOf 34 = .ok (.invokevirtual 227, 3) := by decide +kernel
theorem dX9_faultOf_37 : decode cX9_faultOf 37 = .ok (.aload_n 0, 1) := by decide +kernel
theorem dX9_faultOf_38 : decode cX9_faultOf 38 = .ok (.invokevirtual 203, 3) := by decide +kernel
theorem dX9_faultOf_41 : decode cX9_faultOf 41 = .ok (.goto (-27), 3) := by decide +kernel
theorem dX9_faultOf_44 : decode cX9_faultOf 44 = .ok (.aload_n 0, 1) := by decide +kernel
theorem dX9_faultOf_45 : decode cX9_faultOf 45 = .ok (.getfield 187, 3) := by decide +kernel
theorem dX9_faultOf_48 : decode cX9_faultOf 48 = .ok (.ireturn, 1) := by decide +kernel
theorem dX9_does_0 : decode cX9_does 0 = .ok (.aload_n 0, 1) := by decide +kernel
theorem dX9_does_1 : decode cX9_does 1 = .ok (.getfield 22, 3) := by decide +kernel
theorem dX9_does_4 : decode cX9_does 4 = .ok (.iconst 0, 1) := by decide +kernel
theorem dX9_does_5 : decode cX9_does 5 = .ok (.iaload, 1) := by decide +kernel
theorem dX9_does_6 : decode cX9_does 6 = .ok (.istore_n 1, 1) := by decide +kernel
theorem dX9_does_7 : decode cX9_does 7 = .ok (.aload_n 0, 1) := by decide +kernel
theorem dX9_does_8 : decode cX9_does 8 = .ok (.getfield 22, 3) := by decide +kernel
theorem dX9_does_11 : decode cX9_does 11 = .ok (.iconst 1, 1) := by decide +kernel
theorem dX9_does_12 : decode cX9_does 12 = .ok (.iaload, 1) := by decide +kernel
theorem dX9_does_13 : decode cX9_does 13 = .ok (.istore_n 2, 1) := by decide +kernel
theorem dX9_does_14 : decode cX9_does 14 = .ok (.aload_n 0, 1) := by decide +kernel
theorem dX9_does_15 : decode cX9_does 15 = .ok (.getfield 217, 3) := by decide +kernel
theorem dX9_does_18 : decode cX9_does 18 = .ok (.tableswitch 146 0 10 #[58, 64, 72, 80, 87, 93, 100, 107, 113, 132, 139], 58) := by decide +kernel
theorem dX9_does_76 : decode cX9_does 76 = .ok (.aload_n 0, 1) := by decide +kernel
theorem dX9_does_77 : decode cX9_does 77 = .ok (.iload_n 1, 1) := by decide +kernel
theorem dX9_does_78 : decode cX9_does 78 = .ok (.invokevirtual 106, 3) := by decide +kernel
theorem dX9_does_81 : decode cX9_does 81 = .ok (.ireturn, 1) := by decide +kernel
theorem dX9_does_82 : decode cX9_does 82 = .ok (.aload_n 0, 1) := by decide +kernel
theorem dX9_does_83 : decode cX9_does 83 = .ok (.iload_n 1, 1) := by decide +kernel
theorem dX9_does_84 : decode cX9_does 84 = .ok (.iload_n 2, 1) := by decide +kernel
theorem dX9_does_85 : decode cX9_does 85 = .ok (.iconst 1, 1) := by decide +kernel
theorem dX9_does_86 : decode cX9_does 86 = .ok (.invokevirtual 112, 3) := by decide +kernel
theorem dX9_does_89 : decode cX9_does 89 = .ok (.ireturn, 1) := by decide +kernel
theorem dX9_does_90 : decode cX9_does 90 = .ok (.aload_n 0, 1) := by decide +kernel
theorem dX9_does_91 : decode cX9_does 91 = .ok (.iload_n 1, 1) := by decide +kernel
theorem dX9_does_92 : decode cX9_does 92 = .ok (.iload_n 2, 1) := by decide +kernel
theorem dX9_does_93 : decode cX9_does 93 = .ok (.iconst 0, 1) := by decide +kernel
theorem dX9_does_94 : decode cX9_does 94 = .ok (.invokevirtual 112, 3) := by decide +kernel
theorem dX9_does_97 : decode cX9_does 97 = .ok (.ireturn, 1) := by decide +kernel
theorem dX9_does_98 : decode cX9_does 98 = .ok (.aload_n 0, 1) := by decide +kernel
theorem dX9_does_99 : decode cX9_does 99 = .ok (.iload_n 1, 1) := by decide +kernel
theorem dX9_does_100 : decode cX9_does 100 = .ok (.iload_n 2, 1) := by decide +kernel
theorem dX9_does_101 : decode cX9_does 101 = .ok (.invokevirtual 122, 3) := by decide +kernel
theorem dX9_does_104 : decode cX9_does 104 = .ok (.ireturn, 1) := by decide +kernel
theorem dX9_does_105 : decode cX9_does 105 = .ok (.aload_n 0, 1) := by decide +kernel
theorem dX9_does_106 : decode cX9_does 106 = .ok (.iload_n 1, 1) := by decide +kernel
theorem dX9_does_107 : decode cX9_does 107 = .ok (.invokevirtual 125, 3) := by decide +kernel
theorem dX9_does_110 : decode cX9_does 110 = .ok (.ireturn, 1) := by decide +kernel
theorem dX9_does_111 : decode cX9_does 111 = .ok (.aload_n 0, 1) := by decide +kernel
theorem dX9_does_112 : decode cX9_does 112 = .ok (.iload_n 1, 1) := by decide +kernel
theorem dX9_does_113 : decode cX9_does 113 = .ok (.iconst 0, 1) := by decide +kernel
theorem dX9_does_114 : decode cX9_does 114 = .ok (.invokevirtual 128, 3) := by decide +kernel
theorem dX9_does_117 : decode cX9_does 117 = .ok (.ireturn, 1) := by decide +kernel
theorem dX9_does_118 : decode cX9_does 118 = .ok (.aload_n 0, 1) := by decide +kernel
theorem dX9_does_119 : decode cX9_does 119 = .ok (.iload_n 1, 1) := by decide +kernel
theorem dX9_does_120 : decode cX9_does 120 = .ok (.iconst 1, 1) := by decide +kernel
theorem dX9_does_121 : decode cX9_does 121 = .ok (.invokevirtual 128, 3) := by decide +kernel
theorem dX9_does_124 : decode cX9_does 124 = .ok (.ireturn, 1) := by decide +kernel
theorem dX9_does_125 : decode cX9_does 125 = .ok (.aload_n 0, 1) := by decide +kernel
theorem dX9_does_126 : decode cX9_does 126 = .ok (.iload_n 1, 1) := by decide +kernel
theorem dX9_does_127 : decode cX9_does 127 = .ok (.invokevirtual 132, 3) := by decide +kernel
theorem dX9_does_130 : decode cX9_does 130 = .ok (.ireturn, 1) := by decide +kernel
theorem dX9_does_131 : decode cX9_does 131 = .ok (.aload_n 0, 1) := by decide +kernel
theorem dX9_does_132 : decode cX9_does 132 = .ok (.iload_n 1, 1) := by decide +kernel
theorem dX9_does_133 : decode cX9_does 133 = .ok (.iload_n 2, 1) := by decide +kernel
theorem dX9_does_134 : decode cX9_does 134 = .ok (.aload_n 0, 1) := by decide +kernel
theorem dX9_does_135 : decode cX9_does 135 = .ok (.getfield 22, 3) := by decide +kernel
theorem dX9_does_138 : decode cX9_does 138 = .ok (.iconst 2, 1) := by decide +kernel
theorem dX9_does_139 : decode cX9_does 139 = .ok (.iaload, 1) := by decide +kernel
theorem dX9_does_140 : decode cX9_does 140 = .ok (.aload_n 0, 1) := by decide +kernel
theorem dX9_does_141 : decode cX9_does 141 = .ok (.getfield 22, 3) := by decide +kernel
theorem dX9_does_144 : decode cX9_does 144 = .ok (.iconst 3, 1) := by decide +kernel
theorem dX9_does_145 : decode cX9_does 145 = .ok (.iaload, 1) := by decide +kernel
theorem dX9_does_146 : decode cX9_does 146 = .ok (.invokevirtual 135, 3) := by decide +kernel
theorem dX9_does_149 : decode cX9_does 149 = .ok (.ireturn, 1) := by decide +kernel
theorem dX9_does_150 : decode cX9_does 150 = .ok (.aload_n 0, 1) := by decide +kernel
theorem dX9_does_151 : decode cX9_does 151 = .ok (.iload_n 1, 1) := by decide +kernel
theorem dX9_does_152 : decode cX9_does 152 = .ok (.iload_n 2, 1) := by decide +kernel
theorem dX9_does_153 : decode cX9_does 153 = .ok (.invokevirtual 139, 3) := by decide +kernel
theorem dX9_does_156 : decode cX9_does 156 = .ok (.ireturn, 1) := by decide +kernel
theorem dX9_does_157 : decode cX9_does 157 = .ok (.aload_n 0, 1) := by decide +kernel
theorem dX9_does_158 : decode cX9_does 158 = .ok (.iload_n 1, 1) := by decide +kernel
theorem dX9_does_159 : decode cX9_does 159 = .ok (.iload_n 2, 1) := by decide +kernel
theorem dX9_does_160 : decode cX9_does 160 = .ok (.invokevirtual 116, 3) := by decide +kernel
theorem dX9_does_163 : decode cX9_does 163 = .ok (.ireturn, 1) := by decide +kernel
theorem dX9_does_164 : decode cX9_does 164 = .ok (.aload_n 0, 1) := by decide +kernel
theorem dX9_does_165 : decode cX9_does 165 = .ok (.invokevirtual 119, 3) := by decide +kernel
theorem dX9_does_168 : decode cX9_does 168 = .ok (.ireturn, 1) := by decide +kernel
theorem dX9_runCommands_0 : decode cX9_runCommands 0 = .ok (.aload_n 0, 1) := by decide +kernel
theorem dX9_runCommands_1 : decode cX9_runCommands 1 = .ok (.invokevirtual 230, 3) := by decide +kernel
theorem dX9_runCommands_4 : decode cX9_runCommands 4 = .ok (.iconst (-1), 1) := by decide +kernel
theorem dX9_runCommands_5 : decode cX9_runCommands 5 = .ok (.if_icmp .eq 15, 3) := by decide +kernel
theorem dX9_runCommands_8 : decode cX9_runCommands 8 = .ok (.aload_n 0, 1) := by decide +kernel
theorem dX9_runCommands_9 : decode cX9_runCommands 9 = .ok (.bipush (-10), 2) := by decide +kernel
theorem dX9_runCommands_11 : decode cX9_runCommands 11 = .ok (.aload_n 0, 1) := by decide +kernel
theorem dX9_runCommands_12 : decode cX9_runCommands 12 = .ok (.getfield 187, 3) := by decide +kernel
theorem dX9_runCommands_15 : decode cX9_runCommands 15 = .ok (.isub, 1) := by decide +kernel
theorem dX9_runCommands_16 : decode cX9_runCommands 16 = .ok (.invokevirtual 50, 3) := by decide +kernel
theorem dX9_runCommands_19 : decode cX9_runCommands 19 = .ok (.ireturn, 1) := by decide +kernel
theorem dX9_runCommands_20 : decode cX9_runCommands 20 = .ok (.aload_n 0, 1) := by decide +kernel
theorem dX9_runCommands_21 : decode cX9_runCommands 21 = .ok (.invokevirtual 103, 3) := by decide +kernel
theorem dX9_runCommands_24 : decode cX9_runCommands 24 = .ok (.aload_n 0, 1) := by decide +kernel
theorem dX9_runCommands_25 : decode cX9_runCommands 25 = .ok (.invokevirtual 44, 3) := by decide +kernel
theorem dX9_runCommands_28 : decode cX9_runCommands 28 = .ok (.iconst 0, 1) := by decide +kernel
theorem dX9_runCommands_29 : decode cX9_runCommands 29 = .ok (.istore_n 1, 1) := by decide +kernel
theorem dX9_runCommands_30 : decode cX9_runCommands 30 = .ok (.aload_n 0, 1) := by decide +kernel
theorem dX9_runCommands_31 : decode cX9_runCommands 31 = .ok (.iconst 0, 1) := by decide +kernel
theorem dX9_runCommands_32 : decode cX9_runCommands 32 = .ok (.putfield 184, 3) := by decide +kernel
theorem dX9_runCommands_35 : decode cX9_runCommands 35 = .ok (.aload_n 0, 1) := by decide +kernel
theorem dX9_runCommands_36 : decode cX9_runCommands 36 = .ok (.invokevirtual 203, 3) := by decide +kernel
theorem dX9_runCommands_39 : decode cX9_runCommands 39 = .ok (.aload_n 0, 1) := by decide +kernel
theorem dX9_runCommands_40 : decode cX9_runCommands 40 = .ok (.getfield 184, 3) := by decide +kernel
theorem dX9_runCommands_43 : decode cX9_runCommands 43 = .ok (.aload_n 0, 1) := by decide +kernel
theorem dX9_runCommands_44 : decode cX9_runCommands 44 = .ok (.getfield 166, 3) := by decide +kernel
theorem dX9_runCommands_47 : decode cX9_runCommands 47 = .ok (.if_icmp .ge 7, 3) := by decide +kernel
theorem dX9_runCommands_50 : decode cX9_runCommands 50 = .ok (.iconst 1, 1) := by decide +kernel
theorem dX9_runCommands_51 : decode cX9_runCommands 51 = .ok (.goto 4, 3) := by decide +kernel
theorem dX9_runCommands_54 : decode cX9_runCommands 54 = .ok (.iconst 0, 1) := by decide +kernel
theorem dX9_runCommands_55 : decode cX9_runCommands 55 = .ok (.istore_n 2, 1) := by decide +kernel
theorem dX9_runCommands_56 : decode cX9_runCommands 56 = .ok (.iload_n 2, 1) := by decide +kernel
theorem dX9_runCommands_57 : decode cX9_runCommands 57 = .ok (.ifCond .eq 60, 3) := by decide +kernel
theorem dX9_runCommands_60 : decode cX9_runCommands 60 = .ok (.aload_n 0, 1) := by decide +kernel
theorem dX9_runCommands_61 : decode cX9_runCommands 61 = .ok (.invokevirtual 227, 3) := by decide +kernel
theorem dX9_runCommands_64 : decode cX9_runCommands 64 = .ok (.aload_n 0, 1) := by decide +kernel
theorem dX9_runCommands_65 : decode cX9_runCommands 65 = .ok (.invokevirtual 203, 3) := by decide +kernel
theorem dX9_runCommands_68 : decode cX9_runCommands 68 = .ok (.aload_n 0, 1) := by decide +kernel
theorem dX9_runCommands_69 : decode cX9_runCommands 69 = .ok (.invokevirtual 233, 3) := by decide +kernel
theorem dX9_runCommands_72 : decode cX9_runCommands 72 = .ok (.ifCond .ne 7, 3) := by decide +kernel
theorem dX9_runCommands_75 : decode cX9_runCommands 75 = .ok (.iconst 1, 1) := by decide +kernel
theorem dX9_runCommands_76 : decode cX9_runCommands 76 = .ok (.goto 4, 3) := by decide +kernel
theorem dX9_runCommands_79 : decode cX9_runCommands 79 = .ok (.iconst 0, 1) := by decide +kernel
theorem dX9_runCommands_80 : decode cX9_runCommands 80 = .ok (.istore_n 2, 1) := by decide +kernel
theorem dX9_runCommands_81 : decode cX9_runCommands 81 = .ok (.iload_n 1, 1) := by decide +kernel
theorem dX9_runCommands_82 : decode cX9_runCommands 82 = .ok (.iload_n 2, 1) := by decide +kernel
theorem dX9_runCommands_83 : decode cX9_runCommands 83 = .ok (.ifCond .eq 7, 3) := by decide +kernel
theorem dX9_runCommands_86 : decode cX9_runCommands 86 = .ok (.iconst 1, 1) := by decide +kernel
theorem dX9_runCommands_87 : decode cX9_runCommands 87 = .ok (.goto 4, 3) := by decide +kernel
theorem dX9_runCommands_90 : decode cX9_runCommands 90 = .ok (.iconst 0, 1) := by decide +kernel
theorem dX9_runCommands_91 : decode cX9_runCommands 91 = .ok (.iadd, 1) := by decide +kernel
theorem dX9_runCommands_92 : decode cX9_runCommands 92 = .ok (.istore_n 1, 1) := by decide +kernel
theorem dX9_runCommands_93 : decode cX9_runCommands 93 = .ok (.iload_n 2, 1) := by decide +kernel
theorem dX9_runCommands_94 : decode cX9_runCommands 94 = .ok (.ifCond .eq 18, 3) := by decide +kernel
theorem dX9_runCommands_97 : decode cX9_runCommands 97 = .ok (.aload_n 0, 1) := by decide +kernel
theorem dX9_runCommands_98 : decode cX9_runCommands 98 = .ok (.getfield 184, 3) := by decide +kernel
theorem dX9_runCommands_101 : decode cX9_runCommands 101 = .ok (.aload_n 0, 1) := by decide +kernel
theorem dX9_runCommands_102 : decode cX9_runCommands 102 = .ok (.getfield 166, 3) := by decide +kernel
theorem dX9_runCommands_105 : decode cX9_runCommands 105 = .ok (.if_icmp .ge 7, 3) := by decide +kernel
theorem dX9_runCommands_108 : decode cX9_runCommands 108 = .ok (.iconst 1, 1) := by decide +kernel
theorem dX9_runCommands_109 : decode cX9_runCommands 109 = .ok (.goto 4, 3) := by decide +kernel
theorem dX9_runCommands_112 : decode cX9_runCommands 112 = .ok (.iconst 0, 1) := by decide +kernel
theorem dX9_runCommands_113 : decode cX9_runCommands 113 = .ok (.istore_n 2, 1) := by decide +kernel
theorem dX9_runCommands_114 : decode cX9_runCommands 114 = .ok (.goto (-58), 3) := by decide +kernel
theorem dX9_runCommands_117 : decode cX9_runCommands 117 = .ok (.aload_n 0, 1) := by decide +kernel
theorem dX9_runCommands_118 : decode cX9_runCommands 118 = .ok (.iload_n 1, 1) := by decide +kernel
theorem dX9_runCommands_119 : decode cX9_runCommands 119 = .ok (.invokevirtual 50, 3) := by decide +kernel
theorem dX9_runCommands_122 : decode cX9_runCommands 122 = .ok (.ireturn, 1) := by decide +kernel
theorem dX9_hashes_0 : decode cX9_hashes 0 = .ok (.aload_n 0, 1) := by decide +kernel
theorem dX9_hashes_1 : decode cX9_hashes 1 = .ok (.ldc2_w 236, 3) := by decide +kernel
theorem dX9_hashes_4 : decode cX9_hashes 4 = .ok (.aload_n 0, 1) := by decide +kernel
theorem dX9_hashes_5 : decode cX9_hashes 5 = .ok (.getfield 238, 3) := by decide +kernel
theorem dX9_hashes_8 : decode cX9_hashes 8 = .ok (.lmul, 1) := by decide +kernel
theorem dX9_hashes_9 : decode cX9_hashes 9 = .ok (.iload_n 1, 1) := by decide +kernel
theorem dX9_hashes_10 : decode cX9_hashes 10 = .ok (.i2l, 1) := by decide +kernel
theorem dX9_hashes_11 : decode cX9_hashes 11 = .ok (.ladd, 1) := by decide +kernel
theorem dX9_hashes_12 : decode cX9_hashes 12 = .ok (.putfield 238, 3) := by decide +kernel
theorem dX9_hashes_15 : decode cX9_hashes 15 = .ok (.return_, 1) := by decide +kernel
theorem dX9_digest_0 : decode cX9_digest 0 = .ok (.aload_n 0, 1) := by decide +kernel
theorem dX9_digest_1 : decode cX9_digest 1 = .ok (.iconst 0, 1) := by decide +kernel
theorem dX9_digest_2 : decode cX9_digest 2 = .ok (.putfield 25, 3) := by decide +kernel
theorem dX9_digest_5 : decode cX9_digest 5 = .ok (.aload_n 0, 1) := by decide +kernel
theorem dX9_digest_6 : decode cX9_digest 6 = .ok (.ldc2_w 242, 3) := by decide +kernel
theorem dX9_digest_9 : decode cX9_digest 9 = .ok (.putfield 238, 3) := by decide +kernel
theorem dX9_digest_12 : decode cX9_digest 12 = .ok (.aload_n 0, 1) := by decide +kernel
theorem dX9_digest_13 : decode cX9_digest 13 = .ok (.aload_n 0, 1) := by decide +kernel
theorem dX9_digest_14 : decode cX9_digest 14 = .ok (.getfield 37, 3) := by decide +kernel
theorem dX9_digest_17 : decode cX9_digest 17 = .ok (.invokevirtual 244, 3) := by decide +kernel
theorem dX9_digest_20 : decode cX9_digest 20 = .ok (.iconst 0, 1) := by decide +kernel
theorem dX9_digest_21 : decode cX9_digest 21 = .ok (.istore_n 1, 1) := by decide +kernel
theorem dX9_digest_22 : decode cX9_digest 22 = .ok (.iload_n 1, 1) := by decide +kernel
theorem dX9_digest_23 : decode cX9_digest 23 = .ok (.bipush 18, 2) := by decide +kernel
theorem dX9_digest_25 : decode cX9_digest 25 = .ok (.if_icmp .ge 18, 3) := by decide +kernel
theorem dX9_digest_28 : decode cX9_digest 28 = .ok (.aload_n 0, 1) := by decide +kernel
theorem dX9_digest_29 : decode cX9_digest 29 = .ok (.aload_n 0, 1) := by decide +kernel
theorem dX9_digest_30 : decode cX9_digest 30 = .ok (.iload_n 1, 1) := by decide +kernel
theorem dX9_digest_31 : decode cX9_digest 31 = .ok (.invokevirtual 169, 3) := by decide +kernel
theorem dX9_digest_34 : decode cX9_digest 34 = .ok (.invokevirtual 244, 3) := by decide +kernel
theorem dX9_digest_37 : decode cX9_digest 37 = .ok (.iinc 1 1, 3) := by decide +kernel
theorem dX9_digest_40 : decode cX9_digest 40 = .ok (.goto (-18), 3) := by decide +kernel
theorem dX9_digest_43 : decode cX9_digest 43 = .ok (.iconst 0, 1) := by decide +kernel
theorem dX9_digest_44 : decode cX9_digest 44 = .ok (.istore_n 1, 1) := by decide +kernel
theorem dX9_digest_45 : decode cX9_digest 45 = .ok (.iload_n 1, 1) := by decide +kernel
theorem dX9_digest_46 : decode cX9_digest 46 = .ok (.bipush 40, 2) := by decide +kernel
theorem dX9_digest_48 : decode cX9_digest 48 = .ok (.if_icmp .ge 22, 3) := by decide +kernel
theorem dX9_digest_51 : decode cX9_digest 51 = .ok (.aload_n 0, 1) := by decide +kernel
theorem dX9_digest_52 : decode cX9_digest 52 = .ok (.aload_n 0, 1) := by decide +kernel
theorem dX9_digest_53 : decode cX9_digest 53 = .ok (.getfield 7, 3) := by decide +kernel
theorem dX9_digest_56 : decode cX9_digest 56 = .ok (.bipush 9, 2) := by decide +kernel
theorem dX9_digest_58 : decode cX9_digest 58 = .ok (.iload_n 1, 1) := by decide +kernel
theorem dX9_digest_59 : decode cX9_digest 59 = .ok (.iadd, 1) := by decide +kernel
theorem dX9_digest_60 : decode cX9_digest 60 = .ok (.iaload, 1) := by decide +kernel
theorem dX9_digest_61 : decode cX9_digest 61 = .ok (.invokevirtual 244, 3) := by decide +kernel
theorem dX9_digest_64 : decode cX9_digest 64 = .ok (.iinc 1 1, 3) := by decide +kernel
theorem dX9_digest_67 : decode cX9_digest 67 = .ok (.goto (-22), 3) := by decide +kernel
theorem dX9_digest_70 : decode cX9_digest 70 = .ok (.iconst 0, 1) := by decide +kernel
theorem dX9_digest_71 : decode cX9_digest 71 = .ok (.istore_n 1, 1) := by decide +kernel
theorem dX9_digest_72 : decode cX9_digest 72 = .ok (.iload_n 1, 1) := by decide +kernel
theorem dX9_digest_73 : decode cX9_digest 73 = .ok (.aload_n 0, 1) := by decide +kernel
theorem dX9_digest_74 : decode cX9_digest 74 = .ok (.getfield 7, 3) := by decide +kernel
theorem dX9_digest_77 : decode cX9_digest 77 = .ok (.iconst 1, 1) := by decide +kernel
theorem dX9_digest_78 : decode cX9_digest 78 = .ok (.iaload, 1) := by decide +kernel
theorem dX9_digest_79 : decode cX9_digest 79 = .ok (.if_icmp .ge 42, 3) := by decide +kernel
theorem dX9_digest_82 : decode cX9_digest 82 = .ok (.iconst 0, 1) := by decide +kernel
theorem dX9_digest_83 : decode cX9_digest 83 = .ok (.istore_n 2, 1) := by decide +kernel
theorem dX9_digest_84 : decode cX9_digest 84 = .ok (.iload_n 2, 1) := by decide +kernel
theorem dX9_digest_85 : decode cX9_digest 85 = .ok (.bipush 11, 2) := by decide +kernel
theorem dX9_digest_87 : decode cX9_digest 87 = .ok (.if_icmp .ge 19, 3) := by decide +kernel
theorem dX9_digest_90 : decode cX9_digest 90 = .ok (.aload_n 0, 1) := by decide +kernel
theorem dX9_digest_91 : decode cX9_digest 91 = .ok (.aload_n 0, 1) := by decide +kernel
theorem dX9_digest_92 : decode cX9_digest 92 = .ok (.iload_n 1, 1) := by decide +kernel
theorem dX9_digest_93 : decode cX9_digest 93 = .ok (.iload_n 2, 1) := by decide +kernel
theorem dX9_digest_94 : decode cX9_digest 94 = .ok (.invokevirtual 151, 3) := by decide +kernel
theorem dX9_digest_97 : decode cX9_digest 97 = .ok (.invokevirtual 244, 3) := by decide +kernel
theorem dX9_digest_100 : decode cX9_digest 100 = .ok (.iinc 2 1, 3) := by decide +kernel
theorem dX9_digest_103 : decode cX9_digest 103 = .ok (.goto (-19), 3) := by decide +kernel
theorem dX9_digest_106 : decode cX9_digest 106 = .ok (.aload_n 0, 1) := by decide +kernel
theorem dX9_digest_107 : decode cX9_digest 107 = .ok (.aload_n 0, 1) := by decide +kernel
theorem dX9_digest_108 : decode cX9_digest 108 = .ok (.iload_n 1, 1) := by decide +kernel
theorem dX9_digest_109 : decode cX9_digest 109 = .ok (.invokevirtual 172, 3) := by decide +kernel
theorem dX9_digest_112 : decode cX9_digest 112 = .ok (.invokevirtual 244, 3) := by decide +kernel
theorem dX9_digest_115 : decode cX9_digest 115 = .ok (.iinc 1 1, 3) := by decide +kernel
theorem dX9_digest_118 : decode cX9_digest 118 = .ok (.goto (-46), 3) := by decide +kernel
theorem dX9_digest_121 : decode cX9_digest 121 = .ok (.iconst 0, 1) := by decide +kernel
theorem dX9_digest_122 : decode cX9_digest 122 = .ok (.istore_n 1, 1) := by decide +kernel
theorem dX9_digest_123 : decode cX9_digest 123 = .ok (.iload_n 1, 1) := by decide +kernel
theorem dX9_digest_124 : decode cX9_digest 124 = .ok (.aload_n 0, 1) := by decide +kernel
theorem dX9_digest_125 : decode cX9_digest 125 = .ok (.getfield 7, 3) := by decide +kernel
theorem dX9_digest_128 : decode cX9_digest 128 = .ok (.iconst 2, 1) := by decide +kernel
theorem dX9_digest_129 : decode cX9_digest 129 = .ok (.iaload, 1) := by decide +kernel
theorem dX9_digest_130 : decode cX9_digest 130 = .ok (.if_icmp .ge 33, 3) := by decide +kernel
theorem dX9_digest_133 : decode cX9_digest 133 = .ok (.iconst 0, 1) := by decide +kernel
theorem dX9_digest_134 : decode cX9_digest 134 = .ok (.istore_n 2, 1) := by decide +kernel
theorem dX9_digest_135 : decode cX9_digest 135 = .ok (.iload_n 2, 1) := by decide +kernel
theorem dX9_digest_136 : decode cX9_digest 136 = .ok (.bipush 7, 2) := by decide +kernel
theorem dX9_digest_138 : decode cX9_digest 138 = .ok (.if_icmp .ge 19, 3) := by decide +kernel
theorem dX9_digest_141 : decode cX9_digest 141 = .ok (.aload_n 0, 1) := by decide +kernel
theorem dX9_digest_142 : decode cX9_digest 142 = .ok (.aload_n 0, 1) := by decide +kernel
theorem dX9_digest_143 : decode cX9_digest 143 = .ok (.iload_n 1, 1) := by decide +kernel
theorem dX9_digest_144 : decode cX9_digest 144 = .ok (.iload_n 2, 1) := by decide +kernel
theorem dX9_digest_145 : decode cX9_digest 145 = .ok (.invokevirtual 56, 3) := by decide +kernel
theorem dX9_digest_148 : decode cX9_digest 148 = .ok (.invokevirtual 244, 3) := by decide +kernel
theorem dX9_digest_151 : decode cX9_digest 151 = .ok (.iinc 2 1, 3) := by decide +kernel
theorem dX9_digest_154 : decode cX9_digest 154 = .ok (.goto (-19), 3) := by decide +kernel
theorem dX9_digest_157 : decode cX9_digest 157 = .ok (.iinc 1 1, 3) := by decide +kernel
theorem dX9_digest_160 : decode cX9_digest 160 = .ok (.goto (-37), 3) := by decide +kernel
theorem dX9_digest_163 : decode cX9_digest 163 = .ok (.aload_n 0, 1) := by decide +kernel
theorem dX9_digest_164 : decode cX9_digest 164 = .ok (.iconst (-1), 1) := by decide +kernel
theorem dX9_digest_165 : decode cX9_digest 165 = .ok (.iconst 0, 1) := by decide +kernel
theorem dX9_digest_166 : decode cX9_digest 166 = .ok (.invokevirtual 145, 3) := by decide +kernel
theorem dX9_digest_169 : decode cX9_digest 169 = .ok (.aload_n 0, 1) := by decide +kernel
theorem dX9_digest_170 : decode cX9_digest 170 = .ok (.iconst (-1), 1) := by decide +kernel
theorem dX9_digest_171 : decode cX9_digest 171 = .ok (.iconst 1, 1) := by decide +kernel
theorem dX9_digest_172 : decode cX9_digest 172 = .ok (.invokevirtual 145, 3) := by decide +kernel
theorem dX9_digest_175 : decode cX9_digest 175 = .ok (.iadd, 1) := by decide +kernel
theorem dX9_digest_176 : decode cX9_digest 176 = .ok (.istore_n 1, 1) := by decide +kernel
theorem dX9_digest_177 : decode cX9_digest 177 = .ok (.iconst 0, 1) := by decide +kernel
theorem dX9_digest_178 : decode cX9_digest 178 = .ok (.istore_n 2, 1) := by decide +kernel
theorem dX9_digest_179 : decode cX9_digest 179 = .ok (.iload_n 2, 1) := by decide +kernel
theorem dX9_digest_180 : decode cX9_digest 180 = .ok (.iload_n 1, 1) := by decide +kernel
theorem dX9_digest_181 : decode cX9_digest 181 = .ok (.if_icmp .ge 20, 3) := by decide +kernel
theorem dX9_digest_184 : decode cX9_digest 184 = .ok (.aload_n 0, 1) := by decide +kernel
theorem dX9_digest_185 : decode cX9_digest 185 = .ok (.aload_n 0, 1) := by decide +kernel
theorem dX9_digest_186 : decode cX9_digest 186 = .ok (.iload_n 2, 1) := by decide +kernel
theorem dX9_digest_187 : decode cX9_digest 187 = .ok (.iconst (-1), 1) := by decide +kernel
theorem dX9_digest_188 : decode cX9_digest 188 = .ok (.iconst 1, 1) := by decide +kernel
theorem dX9_digest_189 : decode cX9_digest 189 = .ok (.invokevirtual 154, 3) := by decide +kernel
theorem dX9_digest_192 : decode cX9_digest 192 = .ok (.invokevirtual 244, 3) := by decide +kernel
theorem dX9_digest_195 : decode cX9_digest 195 = .ok (.iinc 2 1, 3) := by decide +kernel
theorem dX9_digest_198 : decode cX9_digest 198 = .ok (.goto (-19), 3) := by decide +kernel
theorem dX9_digest_201 : decode cX9_digest 201 = .ok (.iconst 0, 1) := by decide +kernel
theorem dX9_digest_202 : decode cX9_digest 202 = .ok (.istore_n 2, 1) := by decide +kernel
theorem dX9_digest_203 : decode cX9_digest 203 = .ok (.iload_n 2, 1) := by decide +kernel
theorem dX9_digest_204 : decode cX9_digest 204 = .ok (.aload_n 0, 1) := by decide +kernel
theorem dX9_digest_205 : decode cX9_digest 205 = .ok (.getfield 7, 3) := by decide +kernel
theorem dX9_digest_208 : decode cX9_digest 208 = .ok (.iconst 3, 1) := by decide +kernel
theorem dX9_digest_209 : decode cX9_digest 209 = .ok (.iaload, 1) := by decide +kernel
theorem dX9_digest_210 : decode cX9_digest 210 = .ok (.if_icmp .ge 33, 3) := by decide +kernel
theorem dX9_digest_213 : decode cX9_digest 213 = .ok (.iconst 0, 1) := by decide +kernel
theorem dX9_digest_214 : decode cX9_digest 214 = .ok (.istore_n 3, 1) := by decide +kernel
theorem dX9_digest_215 : decode cX9_digest 215 = .ok (.iload_n 3, 1) := by decide +kernel
theorem dX9_digest_216 : decode cX9_digest 216 = .ok (.bipush 6, 2) := by decide +kernel
theorem dX9_digest_218 : decode cX9_digest 218 = .ok (.if_icmp .ge 19, 3) := by decide +kernel
theorem dX9_digest_221 : decode cX9_digest 221 = .ok (.aload_n 0, 1) := by decide +kernel
theorem dX9_digest_222 : decode cX9_digest 222 = .ok (.aload_n 0, 1) := by decide +kernel
theorem dX9_digest_223 : decode cX9_digest 223 = .ok (.iload_n 2, 1) := by decide +kernel
theorem dX9_digest_224 : decode cX9_digest 224 = .ok (.iload_n 3, 1) := by decide +kernel
theorem dX9_digest_225 : decode cX9_digest 225 = .ok (.invokevirtual 33, 3) := by decide +kernel
theorem dX9_digest_228 : decode cX9_digest 228 = .ok (.invokevirtual 244, 3) := by decide +kernel
theorem dX9_digest_231 : decode cX9_digest 231 = .ok (.iinc 3 1, 3) := by decide +kernel
theorem dX9_digest_234 : decode cX9_digest 234 = .ok (.goto (-19), 3) := by decide +kernel
theorem dX9_digest_237 : decode cX9_digest 237 = .ok (.iinc 2 1, 3) := by decide +kernel
theorem dX9_digest_240 : decode cX9_digest 240 = .ok (.goto (-37), 3) := by decide +kernel
theorem dX9_digest_243 : decode cX9_digest 243 = .ok (.aload_n 0, 1) := by decide +kernel
theorem dX9_digest_244 : decode cX9_digest 244 = .ok (.aload_n 0, 1) := by decide +kernel
theorem dX9_digest_245 : decode cX9_digest 245 = .ok (.invokevirtual 181, 3) := by decide +kernel
theorem dX9_digest_248 : decode cX9_digest 248 = .ok (.invokevirtual 244, 3) := by decide +kernel
theorem dX9_digest_251 : decode cX9_digest 251 = .ok (.aload_n 0, 1) := by decide +kernel
theorem dX9_digest_252 : decode cX9_digest 252 = .ok (.getfield 238, 3) := by decide +kernel
theorem dX9_digest_255 : decode cX9_digest 255 = .ok (.lreturn, 1) := by decide +kernel
theorem dJx29ce0_ordinal_8abf5_0 : decode cJx29ce0_ordinal_8abf5 0 = .ok (.aload_n 0, 1) := by decide +kernel
theorem dJx29ce0_ordinal_8abf5_1 : decode cJx29ce0_ordinal_8abf5 1 = .ok (.getfield 7, 3) := by decide +kernel
theorem dJx29ce0_ordinal_8abf5_4 : decode cJx29ce0_ordinal_8abf5 4 = .ok (.ireturn, 1) := by decide +kernel
theorem dJ9_max_7cf53_0 : decode cJ9_max_7cf53 0 = .ok (.iload_n 0, 1) := by decide +kernel
theorem dJ9_max_7cf53_1 : decode cJ9_max_7cf53 1 = .ok (.iload_n 1, 1) := by decide +kernel
theorem dJ9_max_7cf53_2 : decode cJ9_max_7cf53 2 = .ok (.if_icmp .lt 7, 3) := by decide +kernel
theorem dJ9_max_7cf53_5 : decode cJ9_max_7cf53 5 = .ok (.iload_n 0, 1) := by decide +kernel
theorem dJ9_max_7cf53_6 : decode cJ9_max_7cf53 6 = .ok (.goto 4, 3) := by decide +kernel
theorem dJ9_max_7cf53_9 : decode cJ9_max_7cf53 9 = .ok (.iload_n 1, 1) := by decide +kernel
theorem dJ9_max_7cf53_10 : decode cJ9_max_7cf53 10 = .ok (.ireturn, 1) := by decide +kernel
theorem dJ9_min_7cf53_0 : decode cJ9_min_7cf53 0 = .ok (.iload_n 0, 1) := by decide +kernel
theorem dJ9_min_7cf53_1 : decode cJ9_min_7cf53 1 = .ok (.iload_n 1, 1) := by decide +kernel
theorem dJ9_min_7cf53_2 : decode cJ9_min_7cf53 2 = .ok (.if_icmp .gt 7, 3) := by decide +kernel
theorem dJ9_min_7cf53_5 : decode cJ9_min_7cf53 5 = .ok (.iload_n 0, 1) := by decide +kernel
theorem dJ9_min_7cf53_6 : decode cJ9_min_7cf53 6 = .ok (.goto 4, 3) := by decide +kernel
theorem dJ9_min_7cf53_9 : decode cJ9_min_7cf53 9 = .ok (.iload_n 1, 1) := by decide +kernel
theorem dJ9_min_7cf53_10 : decode cJ9_min_7cf53 10 = .ok (.ireturn, 1) := by decide +kernel
theorem dJ0_length_8abf5_0 : decode cJ0_length_8abf5 0 = .ok (.aload_n 0, 1) := by decide +kernel
theorem dJ0_length_8abf5_1 : decode cJ0_length_8abf5 1 = .ok (.getfield 9, 3) := by decide +kernel
theorem dJ0_length_8abf5_4 : decode cJ0_length_8abf5 4 = .ok (.arraylength, 1) := by decide +kernel
theorem dJ0_length_8abf5_5 : decode cJ0_length_8abf5 5 = .ok (.aload_n 0, 1) := by decide +kernel
theorem dJ0_length_8abf5_6 : decode cJ0_length_8abf5 6 = .ok (.invokevirtual 335, 3) := by decide +kernel
theorem dJ0_length_8abf5_9 : decode cJ0_length_8abf5 9 = .ok (.ishr, 1) := by decide +kernel
theorem dJ0_length_8abf5_10 : decode cJ0_length_8abf5 10 = .ok (.ireturn, 1) := by decide +kernel
theorem dJ0_charAt_5068e_0 : decode cJ0_charAt_5068e 0 = .ok (.aload_n 0, 1) := by decide +kernel
theorem dJ0_charAt_5068e_1 : decode cJ0_charAt_5068e 1 = .ok (.invokevirtual 492, 3) := by decide +kernel
theorem dJ0_charAt_5068e_4 : decode cJ0_charAt_5068e 4 = .ok (.ifCond .eq 12, 3) := by decide +kernel
theorem dJ0_charAt_5068e_7 : decode cJ0_charAt_5068e 7 = .ok (.aload_n 0, 1) := by decide +kernel
theorem dJ0_charAt_5068e_8 : decode cJ0_charAt_5068e 8 = .ok (.getfield 9, 3) := by decide +kernel
theorem dJ0_charAt_5068e_11 : decode cJ0_charAt_5068e 11 = .ok (.iload_n 1, 1) := by decide +kernel
theorem dJ0_charAt_5068e_12 : decode cJ0_charAt_5068e 12 = .ok (.invokestatic 495, 3) := by decide +kernel
theorem dJ0_charAt_5068e_15 : decode cJ0_charAt_5068e 15 = .ok (.ireturn, 1) := by decide +kernel
theorem dJ0_charAt_5068e_16 : decode cJ0_charAt_5068e 16 = .ok (.aload_n 0, 1) := by decide +kernel
theorem dJ0_charAt_5068e_17 : decode cJ0_charAt_5068e 17 = .ok (.getfield 9, 3) := by decide +kernel
theorem dJ0_charAt_5068e_20 : decode cJ0_charAt_5068e 20 = .ok (.iload_n 1, 1) := by decide +kernel
theorem dJ0_charAt_5068e_21 : decode cJ0_charAt_5068e 21 = .ok (.invokestatic 498, 3) := by decide +kernel
theorem dJ0_charAt_5068e_24 : decode cJ0_charAt_5068e 24 = .ok (.ireturn, 1) := by decide +kernel
theorem dJ0_coder_7d493_0 : decode cJ0_coder_7d493 0 = .ok (.getstatic 38, 3) := by decide +kernel
theorem dJ0_coder_7d493_3 : decode cJ0_coder_7d493 3 = .ok (.ifCond .eq 10, 3) := by decide +kernel
theorem dJ0_coder_7d493_6 : decode cJ0_coder_7d493 6 = .ok (.aload_n 0, 1) := by decide +kernel
theorem dJ0_coder_7d493_7 : decode cJ0_coder_7d493 7 = .ok (.getfield 15, 3) := by decide +kernel
theorem dJ0_coder_7d493_10 : decode cJ0_coder_7d493 10 = .ok (.goto 4, 3) := by decide +kernel
theorem dJ0_coder_7d493_13 : decode cJ0_coder_7d493 13 = .ok (.iconst 1, 1) := by decide +kernel
theorem dJ0_coder_7d493_14 : decode cJ0_coder_7d493 14 = .ok (.ireturn, 1) := by decide +kernel
theorem dJ0_isLatin1_aae02_0 : decode cJ0_isLatin1_aae02 0 = .ok (.getstatic 38, 3) := by decide +kernel
theorem dJ0_isLatin1_aae02_3 : decode cJ0_isLatin1_aae02 3 = .ok (.ifCond .eq 14, 3) := by decide +kernel
theorem dJ0_isLatin1_aae02_6 : decode cJ0_isLatin1_aae02 6 = .ok (.aload_n 0, 1) := by decide +kernel
theorem dJ0_isLatin1_aae02_7 : decode cJ0_isLatin1_aae02 7 = .ok (.getfield 15, 3) := by decide +kernel
theorem dJ0_isLatin1_aae02_10 : decode cJ0_isLatin1_aae02 10 = .ok (.ifCond .ne 7, 3) := by decide +kernel
theorem dJ0_isLatin1_aae02_13 : decode cJ0_isLatin1_aae02 13 = .ok (.iconst 1, 1) := by decide +kernel
theorem dJ0_isLatin1_aae02_14 : decode cJ0_isLatin1_aae02 14 = .ok (.goto 4, 3) := by decide +kernel
theorem dJ0_isLatin1_aae02_17 : decode cJ0_isLatin1_aae02 17 = .ok (.iconst 0, 1) := by decide +kernel
theorem dJ0_isLatin1_aae02_18 : decode cJ0_isLatin1_aae02 18 = .ok (.ireturn, 1) := by decide +kernel
theorem dJ0_checkIndex_df160_0 : decode cJ0_checkIndex_df160 0 = .ok (.iload_n 0, 1) := by decide +kernel
theorem dJ0_checkIndex_df160_1 : decode cJ0_checkIndex_df160 1 = .ok (.iload_n 1, 1) := by decide +kernel
theorem dJ0_checkIndex_df160_2 : decode cJ0_checkIndex_df160 2 = .ok (.getstatic 1053, 3) := by decide +kernel
theorem dJ0_checkIndex_df160_5 : decode cJ0_checkIndex_df160 5 = .ok (.invokestatic 1059, 3) := by decide +kernel
theorem dJ0_checkIndex_df160_8 : decode cJ0_checkIndex_df160 8 = .ok (.pop, 1) := by decide +kernel
theorem dJ0_checkIndex_df160_9 : decode cJ0_checkIndex_df160 9 = .ok (.return_, 1) := by decide +kernel
theorem dJ1_charAt_3b067_0 : decode cJ1_charAt_3b067 0 = .ok (.iload_n 1, 1) := by decide +kernel
theorem dJ1_charAt_3b067_1 : decode cJ1_charAt_3b067 1 = .ok (.aload_n 0, 1) := by decide +kernel
theorem dJ1_charAt_3b067_2 : decode cJ1_charAt_3b067 2 = .ok (.arraylength, 1) := by decide +kernel
theorem dJ1_charAt_3b067_3 : decode cJ1_charAt_3b067 3 = .ok (.invokestatic 9, 3) := by decide +kernel
theorem dJ1_charAt_3b067_6 : decode cJ1_charAt_3b067 6 = .ok (.aload_n 0, 1) := by decide +kernel
theorem dJ1_charAt_3b067_7 : decode cJ1_charAt_3b067 7 = .ok (.iload_n 1, 1) := by decide +kernel
theorem dJ1_charAt_3b067_8 : decode cJ1_charAt_3b067 8 = .ok (.baload, 1) := by decide +kernel
theorem dJ1_charAt_3b067_9 : decode cJ1_charAt_3b067 9 = .ok (.sipush 255, 3) := by decide +kernel
theorem dJ1_charAt_3b067_12 : decode cJ1_charAt_3b067 12 = .ok (.iand, 1) := by decide +kernel
theorem dJ1_charAt_3b067_13 : decode cJ1_charAt_3b067 13 = .ok (.i2c, 1) := by decide +kernel
theorem dJ1_charAt_3b067_14 : decode cJ1_charAt_3b067 14 = .ok (.ireturn, 1) := by decide +kernel
theorem dJ2_getChar_3b067_0 : decode cJ2_getChar_3b067 0 = .ok (.getstatic 44, 3) := by decide +kernel
theorem dJ2_getChar_3b067_3 : decode cJ2_getChar_3b067 3 = .ok (.ifCond .ne 25, 3) := by decide +kernel
theorem dJ2_getChar_3b067_6 : decode cJ2_getChar_3b067 6 = .ok (.iload_n 1, 1) := by decide +kernel
theorem dJ2_getChar_3b067_7 : decode cJ2_getChar_3b067 7 = .ok (.ifCond .lt 11, 3) := by decide +kernel
theorem dJ2_getChar_3b067_10 : decode cJ2_getChar_3b067 10 = .ok (.iload_n 1, 1) := by decide +kernel
theorem dJ2_getChar_3b067_11 : decode cJ2_getChar_3b067 11 = .ok (.aload_n 0, 1) := by decide +kernel
theorem dJ2_getChar_3b067_12 : decode cJ2_getChar_3b067 12 = .ok (.invokestatic 48, 3) := by decide +kernel
theorem dJ2_getChar_3b067_15 : decode cJ2_getChar_3b067 15 = .ok (.if_icmp .lt 13, 3) := by decide +kernel
theorem dJ2_getChar_3b067_18 : decode cJ2_getChar_3b067 18 = .ok (.new 52, 3) := by decide +kernel
theorem dJ2_getChar_3b067_21 : decode cJ2_getChar_3b067 21 = .ok (.dup, 1) := by decide +kernel
theorem dJ2_getChar_3b067_22 : decode cJ2_getChar_3b067 22 = .ok (.ldc 54, 2) := by decide +kernel
theorem dJ2_getChar_3b067_24 : decode cJ2_getChar_3b067 24 = .ok (.invokespecial 56, 3) := by decide +kernel
theorem dJ2_getChar_3b067_27 : decode cJ2_getChar_3b067 27 = .ok (.athrow, 1) := by decide +kernel
theorem dJ2_getChar_3b067_28 : decode cJ2_getChar_3b067 28 = .ok (.iload_n 1, 1) := by decide +kernel
theorem dJ2_getChar_3b067_29 : decode cJ2_getChar_3b067 29 = .ok (.iconst 1, 1) := by decide +kernel
theorem dJ2_getChar_3b067_30 : decode cJ2_getChar_3b067 30 = .ok (.ishl, 1) := by decide +kernel
theorem dJ2_getChar_3b067_31 : decode cJ2_getChar_3b067 31 = .ok (.istore_n 1, 1) := by decide +kernel
theorem dJ2_getChar_3b067_32 : decode cJ2_getChar_3b067 32 = .ok (.aload_n 0, 1) := by decide +kernel
theorem dJ2_getChar_3b067_33 : decode cJ2_getChar_3b067 33 = .ok (.iload_n 1, 1) := by decide +kernel
theorem dJ2_getChar_3b067_34 : decode cJ2_getChar_3b067 34 = .ok (.iinc 1 1, 3) := by decide +kernel
theorem dJ2_getChar_3b067_37 : decode cJ2_getChar_3b067 37 = .ok (.baload, 1) := by decide +kernel
theorem dJ2_getChar_3b067_38 : decode cJ2_getChar_3b067 38 = .ok (.sipush 255, 3) := by decide +kernel
theorem dJ2_getChar_3b067_41 : decode cJ2_getChar_3b067 41 = .ok (.iand, 1) := by decide +kernel
theorem dJ2_getChar_3b067_42 : decode cJ2_getChar_3b067 42 = .ok (.getstatic 59, 3) := by decide +kernel
theorem dJ2_getChar_3b067_45 : decode cJ2_getChar_3b067 45 = .ok (.ishl, 1) := by decide +kernel
theorem dJ2_getChar_3b067_46 : decode cJ2_getChar_3b067 46 = .ok (.aload_n 0, 1) := by decide +kernel
theorem dJ2_getChar_3b067_47 : decode cJ2_getChar_3b067 47 = .ok (.iload_n 1, 1) := by decide +kernel
theorem dJ2_getChar_3b067_48 : decode cJ2_getChar_3b067 48 = .ok (.baload, 1) := by decide +kernel
theorem dJ2_getChar_3b067_49 : decode cJ2_getChar_3b067 49 = .ok (.sipush 255, 3) := by decide +kernel
theorem dJ2_getChar_3b067_52 : decode cJ2_getChar_3b067 52 = .ok (.iand, 1) := by decide +kernel
theorem dJ2_getChar_3b067_53 : decode cJ2_getChar_3b067 53 = .ok (.getstatic 63, 3) := by decide +kernel
theorem dJ2_getChar_3b067_56 : decode cJ2_getChar_3b067 56 = .ok (.ishl, 1) := by decide +kernel
theorem dJ2_getChar_3b067_57 : decode cJ2_getChar_3b067 57 = .ok (.ior, 1) := by decide +kernel
theorem dJ2_getChar_3b067_58 : decode cJ2_getChar_3b067 58 = .ok (.i2c, 1) := by decide +kernel
theorem dJ2_getChar_3b067_59 : decode cJ2_getChar_3b067 59 = .ok (.ireturn, 1) := by decide +kernel
theorem dJ2_length_9d52b_0 : decode cJ2_length_9d52b 0 = .ok (.aload_n 0, 1) := by decide +kernel
theorem dJ2_length_9d52b_1 : decode cJ2_length_9d52b 1 = .ok (.arraylength, 1) := by decide +kernel
theorem dJ2_length_9d52b_2 : decode cJ2_length_9d52b 2 = .ok (.iconst 1, 1) := by decide +kernel
theorem dJ2_length_9d52b_3 : decode cJ2_length_9d52b 3 = .ok (.ishr, 1) := by decide +kernel
theorem dJ2_length_9d52b_4 : decode cJ2_length_9d52b 4 = .ok (.ireturn, 1) := by decide +kernel
theorem dJ2_charAt_3b067_0 : decode cJ2_charAt_3b067 0 = .ok (.iload_n 1, 1) := by decide +kernel
theorem dJ2_charAt_3b067_1 : decode cJ2_charAt_3b067 1 = .ok (.aload_n 0, 1) := by decide +kernel
theorem dJ2_charAt_3b067_2 : decode cJ2_charAt_3b067 2 = .ok (.invokestatic 67, 3) := by decide +kernel
theorem dJ2_charAt_3b067_5 : decode cJ2_charAt_3b067 5 = .ok (.aload_n 0, 1) := by decide +kernel
theorem dJ2_charAt_3b067_6 : decode cJ2_charAt_3b067 6 = .ok (.iload_n 1, 1) := by decide +kernel
theorem dJ2_charAt_3b067_7 : decode cJ2_charAt_3b067 7 = .ok (.invokestatic 71, 3) := by decide +kernel
theorem dJ2_charAt_3b067_10 : decode cJ2_charAt_3b067 10 = .ok (.ireturn, 1) := by decide +kernel
theorem dJ2_checkIndex_2214a_0 : decode cJ2_checkIndex_2214a 0 = .ok (.iload_n 0, 1) := by decide +kernel
theorem dJ2_checkIndex_2214a_1 : decode cJ2_checkIndex_2214a 1 = .ok (.aload_n 1, 1) := by decide +kernel
theorem dJ2_checkIndex_2214a_2 : decode cJ2_checkIndex_2214a 2 = .ok (.invokestatic 48, 3) := by decide +kernel
theorem dJ2_checkIndex_2214a_5 : decode cJ2_checkIndex_2214a 5 = .ok (.invokestatic 414, 3) := by decide +kernel
theorem dJ2_checkIndex_2214a_8 : decode cJ2_checkIndex_2214a 8 = .ok (.return_, 1) := by decide +kernel
theorem dJ3_checkIndex_8e157_0 : decode cJ3_checkIndex_8e157 0 = .ok (.iload_n 0, 1) := by decide +kernel
theorem dJ3_checkIndex_8e157_1 : decode cJ3_checkIndex_8e157 1 = .ok (.ifCond .lt 8, 3) := by decide +kernel
theorem dJ3_checkIndex_8e157_4 : decode cJ3_checkIndex_8e157 4 = .ok (.iload_n 0, 1) := by decide +kernel
theorem dJ3_checkIndex_8e157_5 : decode cJ3_checkIndex_8e157 5 = .ok (.iload_n 1, 1) := by decide +kernel
theorem dJ3_checkIndex_8e157_6 : decode cJ3_checkIndex_8e157 6 = .ok (.if_icmp .lt 10, 3) := by decide +kernel
theorem dJ3_checkIndex_8e157_9 : decode cJ3_checkIndex_8e157 9 = .ok (.aload_n 2, 1) := by decide +kernel
theorem dJ3_checkIndex_8e157_10 : decode cJ3_checkIndex_8e157 10 = .ok (.iload_n 0, 1) := by decide +kernel
theorem dJ3_checkIndex_8e157_11 : decode cJ3_checkIndex_8e157 11 = .ok (.iload_n 1, 1) := by decide +kernel
theorem dJ3_checkIndex_8e157_12 : decode cJ3_checkIndex_8e157 12 = .ok (.invokestatic 95, 3) := by decide +kernel
theorem dJ3_checkIndex_8e157_15 : decode cJ3_checkIndex_8e157 15 = .ok (.athrow, 1) := by decide +kernel
theorem dJ3_checkIndex_8e157_16 : decode cJ3_checkIndex_8e157 16 = .ok (.iload_n 0, 1) := by decide +kernel
theorem dJ3_checkIndex_8e157_17 : decode cJ3_checkIndex_8e157 17 = .ok (.ireturn, 1) := by decide +kernel
theorem dL_addTeam_0 : decode cL_addTeam 0 = .ok (.aload_n 2, 1) := by decide +kernel
theorem dL_addTeam_1 : decode cL_addTeam 1 = .ok (.iconst 0, 1) := by decide +kernel
theorem dL_addTeam_2 : decode cL_addTeam 2 = .ok (.aload_n 0, 1) := by decide +kernel
theorem dL_addTeam_3 : decode cL_addTeam 3 = .ok (.iload_n 1, 1) := by decide +kernel
theorem dL_addTeam_4 : decode cL_addTeam 4 = .ok (.invokevirtual 7, 3) := by decide +kernel
theorem dL_addTeam_7 : decode cL_addTeam 7 = .ok (.i2l, 1) := by decide +kernel
theorem dL_addTeam_8 : decode cL_addTeam 8 = .ok (.lastore, 1) := by decide +kernel
theorem dL_addTeam_9 : decode cL_addTeam 9 = .ok (.goto 9, 3) := by decide +kernel
theorem dL_addTeam_12 : decode cL_addTeam 12 = .ok (.astore_n 3, 1) := by decide +kernel
theorem dL_addTeam_13 : decode cL_addTeam 13 = .ok (.iconst 1, 1) := by decide +kernel
theorem dL_addTeam_14 : decode cL_addTeam 14 = .ok (.ireturn, 1) := by decide +kernel
theorem dL_addTeam_15 : decode cL_addTeam 15 = .ok (.astore_n 3, 1) := by decide +kernel
theorem dL_addTeam_16 : decode cL_addTeam 16 = .ok (.iconst 2, 1) := by decide +kernel
theorem dL_addTeam_17 : decode cL_addTeam 17 = .ok (.ireturn, 1) := by decide +kernel
theorem dL_addTeam_18 : decode cL_addTeam 18 = .ok (.iconst 0, 1) := by decide +kernel
theorem dL_addTeam_19 : decode cL_addTeam 19 = .ok (.ireturn, 1) := by decide +kernel
theorem dL_freeze_0 : decode cL_freeze 0 = .ok (.aload 4, 2) := by decide +kernel
theorem dL_freeze_2 : decode cL_freeze 2 = .ok (.iconst 0, 1) := by decide +kernel
theorem dL_freeze_3 : decode cL_freeze 3 = .ok (.aload_n 0, 1) := by decide +kernel
theorem dL_freeze_4 : decode cL_freeze 4 = .ok (.iload_n 1, 1) := by decide +kernel
theorem dL_freeze_5 : decode cL_freeze 5 = .ok (.iload_n 2, 1) := by decide +kernel
theorem dL_freeze_6 : decode cL_freeze 6 = .ok (.iload_n 3, 1) := by decide +kernel
theorem dL_freeze_7 : decode cL_freeze 7 = .ok (.invokevirtual 17, 3) := by decide +kernel
theorem dL_freeze_10 : decode cL_freeze 10 = .ok (.i2l, 1) := by decide +kernel
theorem dL_freeze_11 : decode cL_freeze 11 = .ok (.lastore, 1) := by decide +kernel
theorem dL_freeze_12 : decode cL_freeze 12 = .ok (.goto 11, 3) := by decide +kernel
theorem dL_freeze_15 : decode cL_freeze 15 = .ok (.astore 5, 2) := by decide +kernel
theorem dL_freeze_17 : decode cL_freeze 17 = .ok (.iconst 1, 1) := by decide +kernel
theorem dL_freeze_18 : decode cL_freeze 18 = .ok (.ireturn, 1) := by decide +kernel
theorem dL_freeze_19 : decode cL_freeze 19 = .ok (.astore 5, 2) := by decide +kernel
theorem dL_freeze_21 : decode cL_freeze 21 = .ok (.iconst 2, 1) := by decide +kernel
theorem dL_freeze_22 : decode cL_freeze 22 = .ok (.ireturn, 1) := by decide +kernel
theorem dL_freeze_23 : decode cL_freeze 23 = .ok (.iconst 0, 1) := by decide +kernel
theorem dL_freeze_24 : decode cL_freeze 24 = .ok (.ireturn, 1) := by decide +kernel
theorem dL_set_0 : decode cL_set 0 = .ok (.aload_n 3, 1) := by decide +kernel
theorem dL_set_1 : decode cL_set 1 = .ok (.iconst 0, 1) := by decide +kernel
theorem dL_set_2 : decode cL_set 2 = .ok (.aload_n 0, 1) := by decide +kernel
theorem dL_set_3 : decode cL_set 3 = .ok (.iload_n 1, 1) := by decide +kernel
theorem dL_set_4 : decode cL_set 4 = .ok (.iload_n 2, 1) := by decide +kernel
theorem dL_set_5 : decode cL_set 5 = .ok (.invokevirtual 21, 3) := by decide +kernel
theorem dL_set_8 : decode cL_set 8 = .ok (.i2l, 1) := by decide +kernel
theorem dL_set_9 : decode cL_set 9 = .ok (.lastore, 1) := by decide +kernel
theorem dL_set_10 : decode cL_set 10 = .ok (.goto 7, 3) := by decide +kernel
theorem dL_set_13 : decode cL_set 13 = .ok (.astore 4, 2) := by decide +kernel
theorem dL_set_15 : decode cL_set 15 = .ok (.iconst 1, 1) := by decide +kernel
theorem dL_set_16 : decode cL_set 16 = .ok (.ireturn, 1) := by decide +kernel
theorem dL_set_17 : decode cL_set 17 = .ok (.iconst 0, 1) := by decide +kernel
theorem dL_set_18 : decode cL_set 18 = .ok (.ireturn, 1) := by decide +kernel
theorem dL_endWeek_0 : decode cL_endWeek 0 = .ok (.aload_n 1, 1) := by decide +kernel
theorem dL_endWeek_1 : decode cL_endWeek 1 = .ok (.iconst 0, 1) := by decide +kernel
theorem dL_endWeek_2 : decode cL_endWeek 2 = .ok (.aload_n 0, 1) := by decide +kernel
theorem dL_endWeek_3 : decode cL_endWeek 3 = .ok (.invokevirtual 25, 3) := by decide +kernel
theorem dL_endWeek_6 : decode cL_endWeek 6 = .ok (.i2l, 1) := by decide +kernel
theorem dL_endWeek_7 : decode cL_endWeek 7 = .ok (.lastore, 1) := by decide +kernel
theorem dL_endWeek_8 : decode cL_endWeek 8 = .ok (.goto 6, 3) := by decide +kernel
theorem dL_endWeek_11 : decode cL_endWeek 11 = .ok (.astore_n 2, 1) := by decide +kernel
theorem dL_endWeek_12 : decode cL_endWeek 12 = .ok (.iconst 1, 1) := by decide +kernel
theorem dL_endWeek_13 : decode cL_endWeek 13 = .ok (.ireturn, 1) := by decide +kernel
theorem dL_endWeek_14 : decode cL_endWeek 14 = .ok (.iconst 0, 1) := by decide +kernel
theorem dL_endWeek_15 : decode cL_endWeek 15 = .ok (.ireturn, 1) := by decide +kernel
theorem dL_ask_0 : decode cL_ask 0 = .ok (.aload_n 3, 1) := by decide +kernel
theorem dL_ask_1 : decode cL_ask 1 = .ok (.iconst 0, 1) := by decide +kernel
theorem dL_ask_2 : decode cL_ask 2 = .ok (.aload_n 0, 1) := by decide +kernel
theorem dL_ask_3 : decode cL_ask 3 = .ok (.iload_n 1, 1) := by decide +kernel
theorem dL_ask_4 : decode cL_ask 4 = .ok (.iload_n 2, 1) := by decide +kernel
theorem dL_ask_5 : decode cL_ask 5 = .ok (.invokevirtual 29, 3) := by decide +kernel
theorem dL_ask_8 : decode cL_ask 8 = .ok (.i2l, 1) := by decide +kernel
theorem dL_ask_9 : decode cL_ask 9 = .ok (.lastore, 1) := by decide +kernel
theorem dL_ask_10 : decode cL_ask 10 = .ok (.goto 15, 3) := by decide +kernel
theorem dL_ask_13 : decode cL_ask 13 = .ok (.astore 4, 2) := by decide +kernel
theorem dL_ask_15 : decode cL_ask 15 = .ok (.iconst 1, 1) := by decide +kernel
theorem dL_ask_16 : decode cL_ask 16 = .ok (.ireturn, 1) := by decide +kernel
theorem dL_ask_17 : decode cL_ask 17 = .ok (.astore 4, 2) := by decide +kernel
theorem dL_ask_19 : decode cL_ask 19 = .ok (.iconst 2, 1) := by decide +kernel
theorem dL_ask_20 : decode cL_ask 20 = .ok (.ireturn, 1) := by decide +kernel
theorem dL_ask_21 : decode cL_ask 21 = .ok (.astore 4, 2) := by decide +kernel
theorem dL_ask_23 : decode cL_ask 23 = .ok (.iconst 3, 1) := by decide +kernel
theorem dL_ask_24 : decode cL_ask 24 = .ok (.ireturn, 1) := by decide +kernel
theorem dL_ask_25 : decode cL_ask 25 = .ok (.iconst 0, 1) := by decide +kernel
theorem dL_ask_26 : decode cL_ask 26 = .ok (.ireturn, 1) := by decide +kernel
theorem dL_exempt_0 : decode cL_exempt 0 = .ok (.aload_n 2, 1) := by decide +kernel
theorem dL_exempt_1 : decode cL_exempt 1 = .ok (.iconst 0, 1) := by decide +kernel
theorem dL_exempt_2 : decode cL_exempt 2 = .ok (.aload_n 0, 1) := by decide +kernel
theorem dL_exempt_3 : decode cL_exempt 3 = .ok (.iload_n 1, 1) := by decide +kernel
theorem dL_exempt_4 : decode cL_exempt 4 = .ok (.invokevirtual 34, 3) := by decide +kernel
theorem dL_exempt_7 : decode cL_exempt 7 = .ok (.i2l, 1) := by decide +kernel
theorem dL_exempt_8 : decode cL_exempt 8 = .ok (.lastore, 1) := by decide +kernel
theorem dL_exempt_9 : decode cL_exempt 9 = .ok (.goto 9, 3) := by decide +kernel
theorem dL_exempt_12 : decode cL_exempt 12 = .ok (.astore_n 3, 1) := by decide +kernel
theorem dL_exempt_13 : decode cL_exempt 13 = .ok (.iconst 1, 1) := by decide +kernel
theorem dL_exempt_14 : decode cL_exempt 14 = .ok (.ireturn, 1) := by decide +kernel
theorem dL_exempt_15 : decode cL_exempt 15 = .ok (.astore_n 3, 1) := by decide +kernel
theorem dL_exempt_16 : decode cL_exempt 16 = .ok (.iconst 2, 1) := by decide +kernel
theorem dL_exempt_17 : decode cL_exempt 17 = .ok (.ireturn, 1) := by decide +kernel
theorem dL_exempt_18 : decode cL_exempt 18 = .ok (.iconst 0, 1) := by decide +kernel
theorem dL_exempt_19 : decode cL_exempt 19 = .ok (.ireturn, 1) := by decide +kernel
theorem dL_make_0 : decode cL_make 0 = .ok (.aload_n 3, 1) := by decide +kernel
theorem dL_make_1 : decode cL_make 1 = .ok (.iconst 0, 1) := by decide +kernel
theorem dL_make_2 : decode cL_make 2 = .ok (.aload_n 0, 1) := by decide +kernel
theorem dL_make_3 : decode cL_make 3 = .ok (.iload_n 1, 1) := by decide +kernel
theorem dL_make_4 : decode cL_make 4 = .ok (.iload_n 2, 1) := by decide +kernel
theorem dL_make_5 : decode cL_make 5 = .ok (.invokevirtual 37, 3) := by decide +kernel
theorem dL_make_8 : decode cL_make 8 = .ok (.i2l, 1) := by decide +kernel
theorem dL_make_9 : decode cL_make 9 = .ok (.lastore, 1) := by decide +kernel
theorem dL_make_10 : decode cL_make 10 = .ok (.goto 11, 3) := by decide +kernel
theorem dL_make_13 : decode cL_make 13 = .ok (.astore 4, 2) := by decide +kernel
theorem dL_make_15 : decode cL_make 15 = .ok (.iconst 1, 1) := by decide +kernel
theorem dL_make_16 : decode cL_make 16 = .ok (.ireturn, 1) := by decide +kernel
theorem dL_make_17 : decode cL_make 17 = .ok (.astore 4, 2) := by decide +kernel
theorem dL_make_19 : decode cL_make 19 = .ok (.iconst 2, 1) := by decide +kernel
theorem dL_make_20 : decode cL_make 20 = .ok (.ireturn, 1) := by decide +kernel
theorem dL_make_21 : decode cL_make 21 = .ok (.iconst 0, 1) := by decide +kernel
theorem dL_make_22 : decode cL_make 22 = .ok (.ireturn, 1) := by decide +kernel
theorem dL_giveUp_0 : decode cL_giveUp 0 = .ok (.aload_n 2, 1) := by decide +kernel
theorem dL_giveUp_1 : decode cL_giveUp 1 = .ok (.iconst 0, 1) := by decide +kernel
theorem dL_giveUp_2 : decode cL_giveUp 2 = .ok (.aload_n 0, 1) := by decide +kernel
theorem dL_giveUp_3 : decode cL_giveUp 3 = .ok (.iload_n 1, 1) := by decide +kernel
theorem dL_giveUp_4 : decode cL_giveUp 4 = .ok (.invokevirtual 41, 3) := by decide +kernel
theorem dL_giveUp_7 : decode cL_giveUp 7 = .ok (.i2l, 1) := by decide +kernel
theorem dL_giveUp_8 : decode cL_giveUp 8 = .ok (.lastore, 1) := by decide +kernel
theorem dL_giveUp_9 : decode cL_giveUp 9 = .ok (.goto 9, 3) := by decide +kernel
theorem dL_giveUp_12 : decode cL_giveUp 12 = .ok (.astore_n 3, 1) := by decide +kernel
theorem dL_giveUp_13 : decode cL_giveUp 13 = .ok (.iconst 1, 1) := by decide +kernel
theorem dL_giveUp_14 : decode cL_giveUp 14 = .ok (.ireturn, 1) := by decide +kernel
theorem dL_giveUp_15 : decode cL_giveUp 15 = .ok (.astore_n 3, 1) := by decide +kernel
theorem dL_giveUp_16 : decode cL_giveUp 16 = .ok (.iconst 2, 1) := by decide +kernel
theorem dL_giveUp_17 : decode cL_giveUp 17 = .ok (.ireturn, 1) := by decide +kernel
theorem dL_giveUp_18 : decode cL_giveUp 18 = .ok (.iconst 0, 1) := by decide +kernel
theorem dL_giveUp_19 : decode cL_giveUp 19 = .ok (.ireturn, 1) := by decide +kernel
theorem dL_lend_0 : decode cL_lend 0 = .ok (.aload 5, 2) := by decide +kernel
theorem dL_lend_2 : decode cL_lend 2 = .ok (.iconst 0, 1) := by decide +kernel
theorem dL_lend_3 : decode cL_lend 3 = .ok (.aload_n 0, 1) := by decide +kernel
theorem dL_lend_4 : decode cL_lend 4 = .ok (.iload_n 1, 1) := by decide +kernel
theorem dL_lend_5 : decode cL_lend 5 = .ok (.iload_n 2, 1) := by decide +kernel
theorem dL_lend_6 : decode cL_lend 6 = .ok (.iload_n 3, 1) := by decide +kernel
theorem dL_lend_7 : decode cL_lend 7 = .ok (.iload 4, 2) := by decide +kernel
theorem dL_lend_9 : decode cL_lend 9 = .ok (.invokevirtual 44, 3) := by decide +kernel
theorem dL_lend_12 : decode cL_lend 12 = .ok (.i2l, 1) := by decide +kernel
theorem dL_lend_13 : decode cL_lend 13 = .ok (.lastore, 1) := by decide +kernel
theorem dL_lend_14 : decode cL_lend 14 = .ok (.goto 15, 3) := by decide +kernel
theorem dL_lend_17 : decode cL_lend 17 = .ok (.astore 6, 2) := by decide +kernel
theorem dL_lend_19 : decode cL_lend 19 = .ok (.iconst 1, 1) := by decide +kernel
theorem dL_lend_20 : decode cL_lend 20 = .ok (.ireturn, 1) := by decide +kernel
theorem dL_lend_21 : decode cL_lend 21 = .ok (.astore 6, 2) := by decide +kernel
theorem dL_lend_23 : decode cL_lend 23 = .ok (.iconst 2, 1) := by decide +kernel
theorem dL_lend_24 : decode cL_lend 24 = .ok (.ireturn, 1) := by decide +kernel
theorem dL_lend_25 : decode cL_lend 25 = .ok (.astore 6, 2) := by decide +kernel
theorem dL_lend_27 : decode cL_lend 27 = .ok (.iconst 3, 1) := by decide +kernel
theorem dL_lend_28 : decode cL_lend 28 = .ok (.ireturn, 1) := by decide +kernel
theorem dL_lend_29 : decode cL_lend 29 = .ok (.iconst 0, 1) := by decide +kernel
theorem dL_lend_30 : decode cL_lend 30 = .ok (.ireturn, 1) := by decide +kernel
theorem dL_repay_0 : decode cL_repay 0 = .ok (.aload_n 3, 1) := by decide +kernel
theorem dL_repay_1 : decode cL_repay 1 = .ok (.iconst 0, 1) := by decide +kernel
theorem dL_repay_2 : decode cL_repay 2 = .ok (.aload_n 0, 1) := by decide +kernel
theorem dL_repay_3 : decode cL_repay 3 = .ok (.iload_n 1, 1) := by decide +kernel
theorem dL_repay_4 : decode cL_repay 4 = .ok (.iload_n 2, 1) := by decide +kernel
theorem dL_repay_5 : decode cL_repay 5 = .ok (.invokevirtual 48, 3) := by decide +kernel
theorem dL_repay_8 : decode cL_repay 8 = .ok (.i2l, 1) := by decide +kernel
theorem dL_repay_9 : decode cL_repay 9 = .ok (.lastore, 1) := by decide +kernel
theorem dL_repay_10 : decode cL_repay 10 = .ok (.goto 15, 3) := by decide +kernel
theorem dL_repay_13 : decode cL_repay 13 = .ok (.astore 4, 2) := by decide +kernel
theorem dL_repay_15 : decode cL_repay 15 = .ok (.iconst 1, 1) := by decide +kernel
theorem dL_repay_16 : decode cL_repay 16 = .ok (.ireturn, 1) := by decide +kernel
theorem dL_repay_17 : decode cL_repay 17 = .ok (.astore 4, 2) := by decide +kernel
theorem dL_repay_19 : decode cL_repay 19 = .ok (.iconst 2, 1) := by decide +kernel
theorem dL_repay_20 : decode cL_repay 20 = .ok (.ireturn, 1) := by decide +kernel
theorem dL_repay_21 : decode cL_repay 21 = .ok (.astore 4, 2) := by decide +kernel
theorem dL_repay_23 : decode cL_repay 23 = .ok (.iconst 3, 1) := by decide +kernel
theorem dL_repay_24 : decode cL_repay 24 = .ok (.ireturn, 1) := by decide +kernel
theorem dL_repay_25 : decode cL_repay 25 = .ok (.iconst 0, 1) := by decide +kernel
theorem dL_repay_26 : decode cL_repay 26 = .ok (.ireturn, 1) := by decide +kernel
theorem dL_team_0 : decode cL_team 0 = .ok (.aload_n 3, 1) := by decide +kernel
theorem dL_team_1 : decode cL_team 1 = .ok (.iconst 0, 1) := by decide +kernel
theorem dL_team_2 : decode cL_team 2 = .ok (.aload_n 0, 1) := by decide +kernel
theorem dL_team_3 : decode cL_team 3 = .ok (.iload_n 1, 1) := by decide +kernel
theorem dL_team_4 : decode cL_team 4 = .ok (.iload_n 2, 1) := by decide +kernel
theorem dL_team_5 : decode cL_team 5 = .ok (.invokevirtual 51, 3) := by decide +kernel
theorem dL_team_8 : decode cL_team 8 = .ok (.i2l, 1) := by decide +kernel
theorem dL_team_9 : decode cL_team 9 = .ok (.lastore, 1) := by decide +kernel
theorem dL_team_10 : decode cL_team 10 = .ok (.goto 11, 3) := by decide +kernel
theorem dL_team_13 : decode cL_team 13 = .ok (.astore 4, 2) := by decide +kernel
theorem dL_team_15 : decode cL_team 15 = .ok (.iconst 1, 1) := by decide +kernel
theorem dL_team_16 : decode cL_team 16 = .ok (.ireturn, 1) := by decide +kernel
theorem dL_team_17 : decode cL_team 17 = .ok (.astore 4, 2) := by decide +kernel
theorem dL_team_19 : decode cL_team 19 = .ok (.iconst 2, 1) := by decide +kernel
theorem dL_team_20 : decode cL_team 20 = .ok (.ireturn, 1) := by decide +kernel
theorem dL_team_21 : decode cL_team 21 = .ok (.iconst 0, 1) := by decide +kernel
theorem dL_team_22 : decode cL_team 22 = .ok (.ireturn, 1) := by decide +kernel
theorem dL_change_0 : decode cL_change 0 = .ok (.aload_n 3, 1) := by decide +kernel
theorem dL_change_1 : decode cL_change 1 = .ok (.iconst 0, 1) := by decide +kernel
theorem dL_change_2 : decode cL_change 2 = .ok (.aload_n 0, 1) := by decide +kernel
theorem dL_change_3 : decode cL_change 3 = .ok (.iload_n 1, 1) := by decide +kernel
theorem dL_change_4 : decode cL_change 4 = .ok (.iload_n 2, 1) := by decide +kernel
theorem dL_change_5 : decode cL_change 5 = .ok (.invokevirtual 54, 3) := by decide +kernel
theorem dL_change_8 : decode cL_change 8 = .ok (.i2l, 1) := by decide +kernel
theorem dL_change_9 : decode cL_change 9 = .ok (.lastore, 1) := by decide +kernel
theorem dL_change_10 : decode cL_change 10 = .ok (.goto 11, 3) := by decide +kernel
theorem dL_change_13 : decode cL_change 13 = .ok (.astore 4, 2) := by decide +kernel
theorem dL_change_15 : decode cL_change 15 = .ok (.iconst 1, 1) := by decide +kernel
theorem dL_change_16 : decode cL_change 16 = .ok (.ireturn, 1) := by decide +kernel
theorem dL_change_17 : decode cL_change 17 = .ok (.astore 4, 2) := by decide +kernel
theorem dL_change_19 : decode cL_change 19 = .ok (.iconst 2, 1) := by decide +kernel
theorem dL_change_20 : decode cL_change 20 = .ok (.ireturn, 1) := by decide +kernel
theorem dL_change_21 : decode cL_change 21 = .ok (.iconst 0, 1) := by decide +kernel
theorem dL_change_22 : decode cL_change 22 = .ok (.ireturn, 1) := by decide +kernel
theorem dL_loan_0 : decode cL_loan 0 = .ok (.aload_n 3, 1) := by decide +kernel
theorem dL_loan_1 : decode cL_loan 1 = .ok (.iconst 0, 1) := by decide +kernel
theorem dL_loan_2 : decode cL_loan 2 = .ok (.aload_n 0, 1) := by decide +kernel
theorem dL_loan_3 : decode cL_loan 3 = .ok (.iload_n 1, 1) := by decide +kernel
theorem dL_loan_4 : decode cL_loan 4 = .ok (.iload_n 2, 1) := by decide +kernel
theorem dL_loan_5 : decode cL_loan 5 = .ok (.invokevirtual 57, 3) := by decide +kernel
theorem dL_loan_8 : decode cL_loan 8 = .ok (.i2l, 1) := by decide +kernel
theorem dL_loan_9 : decode cL_loan 9 = .ok (.lastore, 1) := by decide +kernel
theorem dL_loan_10 : decode cL_loan 10 = .ok (.goto 11, 3) := by decide +kernel
theorem dL_loan_13 : decode cL_loan 13 = .ok (.astore 4, 2) := by decide +kernel
theorem dL_loan_15 : decode cL_loan 15 = .ok (.iconst 1, 1) := by decide +kernel
theorem dL_loan_16 : decode cL_loan 16 = .ok (.ireturn, 1) := by decide +kernel
theorem dL_loan_17 : decode cL_loan 17 = .ok (.astore 4, 2) := by decide +kernel
theorem dL_loan_19 : decode cL_loan 19 = .ok (.iconst 2, 1) := by decide +kernel
theorem dL_loan_20 : decode cL_loan 20 = .ok (.ireturn, 1) := by decide +kernel
theorem dL_loan_21 : decode cL_loan 21 = .ok (.iconst 0, 1) := by decide +kernel
theorem dL_loan_22 : decode cL_loan 22 = .ok (.ireturn, 1) := by decide +kernel
theorem dL_waiting_0 : decode cL_waiting 0 = .ok (.aload_n 2, 1) := by decide +kernel
theorem dL_waiting_1 : decode cL_waiting 1 = .ok (.iconst 0, 1) := by decide +kernel
theorem dL_waiting_2 : decode cL_waiting 2 = .ok (.aload_n 0, 1) := by decide +kernel
theorem dL_waiting_3 : decode cL_waiting 3 = .ok (.iload_n 1, 1) := by decide +kernel
theorem dL_waiting_4 : decode cL_waiting 4 = .ok (.invokevirtual 60, 3) := by decide +kernel
theorem dL_waiting_7 : decode cL_waiting 7 = .ok (.i2l, 1) := by decide +kernel
theorem dL_waiting_8 : decode cL_waiting 8 = .ok (.lastore, 1) := by decide +kernel
theorem dL_waiting_9 : decode cL_waiting 9 = .ok (.goto 6, 3) := by decide +kernel
theorem dL_waiting_12 : decode cL_waiting 12 = .ok (.astore_n 3, 1) := by decide +kernel
theorem dL_waiting_13 : decode cL_waiting 13 = .ok (.iconst 1, 1) := by decide +kernel
theorem dL_waiting_14 : decode cL_waiting 14 = .ok (.ireturn, 1) := by decide +kernel
theorem dL_waiting_15 : decode cL_waiting 15 = .ok (.iconst 0, 1) := by decide +kernel
theorem dL_waiting_16 : decode cL_waiting 16 = .ok (.ireturn, 1) := by decide +kernel
theorem dL_frozen_0 : decode cL_frozen 0 = .ok (.aload_n 2, 1) := by decide +kernel
theorem dL_frozen_1 : decode cL_frozen 1 = .ok (.iconst 0, 1) := by decide +kernel
theorem dL_frozen_2 : decode cL_frozen 2 = .ok (.aload_n 0, 1) := by decide +kernel
theorem dL_frozen_3 : decode cL_frozen 3 = .ok (.iload_n 1, 1) := by decide +kernel
theorem dL_frozen_4 : decode cL_frozen 4 = .ok (.invokevirtual 63, 3) := by decide +kernel
theorem dL_frozen_7 : decode cL_frozen 7 = .ok (.i2l, 1) := by decide +kernel
theorem dL_frozen_8 : decode cL_frozen 8 = .ok (.lastore, 1) := by decide +kernel
theorem dL_frozen_9 : decode cL_frozen 9 = .ok (.goto 6, 3) := by decide +kernel
theorem dL_frozen_12 : decode cL_frozen 12 = .ok (.astore_n 3, 1) := by decide +kernel
theorem dL_frozen_13 : decode cL_frozen 13 = .ok (.iconst 1, 1) := by decide +kernel
theorem dL_frozen_14 : decode cL_frozen 14 = .ok (.ireturn, 1) := by decide +kernel
theorem dL_frozen_15 : decode cL_frozen 15 = .ok (.iconst 0, 1) := by decide +kernel
theorem dL_frozen_16 : decode cL_frozen 16 = .ok (.ireturn, 1) := by decide +kernel
theorem dL_whole_0 : decode cL_whole 0 = .ok (.aload_n 2, 1) := by decide +kernel
theorem dL_whole_1 : decode cL_whole 1 = .ok (.iconst 0, 1) := by decide +kernel
theorem dL_whole_2 : decode cL_whole 2 = .ok (.aload_n 0, 1) := by decide +kernel
theorem dL_whole_3 : decode cL_whole 3 = .ok (.iload_n 1, 1) := by decide +kernel
theorem dL_whole_4 : decode cL_whole 4 = .ok (.invokevirtual 66, 3) := by decide +kernel
theorem dL_whole_7 : decode cL_whole 7 = .ok (.i2l, 1) := by decide +kernel
theorem dL_whole_8 : decode cL_whole 8 = .ok (.lastore, 1) := by decide +kernel
theorem dL_whole_9 : decode cL_whole 9 = .ok (.goto 6, 3) := by decide +kernel
theorem dL_whole_12 : decode cL_whole 12 = .ok (.astore_n 3, 1) := by decide +kernel
theorem dL_whole_13 : decode cL_whole 13 = .ok (.iconst 1, 1) := by decide +kernel
theorem dL_whole_14 : decode cL_whole 14 = .ok (.ireturn, 1) := by decide +kernel
theorem dL_whole_15 : decode cL_whole 15 = .ok (.iconst 0, 1) := by decide +kernel
theorem dL_whole_16 : decode cL_whole 16 = .ok (.ireturn, 1) := by decide +kernel
theorem dL_reason_0 : decode cL_reason 0 = .ok (.aload_n 2, 1) := by decide +kernel
theorem dL_reason_1 : decode cL_reason 1 = .ok (.iconst 0, 1) := by decide +kernel
theorem dL_reason_2 : decode cL_reason 2 = .ok (.aload_n 0, 1) := by decide +kernel
theorem dL_reason_3 : decode cL_reason 3 = .ok (.iload_n 1, 1) := by decide +kernel
theorem dL_reason_4 : decode cL_reason 4 = .ok (.invokevirtual 69, 3) := by decide +kernel
theorem dL_reason_7 : decode cL_reason 7 = .ok (.i2l, 1) := by decide +kernel
theorem dL_reason_8 : decode cL_reason 8 = .ok (.lastore, 1) := by decide +kernel
theorem dL_reason_9 : decode cL_reason 9 = .ok (.goto 6, 3) := by decide +kernel
theorem dL_reason_12 : decode cL_reason 12 = .ok (.astore_n 3, 1) := by decide +kernel
theorem dL_reason_13 : decode cL_reason 13 = .ok (.iconst 1, 1) := by decide +kernel
theorem dL_reason_14 : decode cL_reason 14 = .ok (.ireturn, 1) := by decide +kernel
theorem dL_reason_15 : decode cL_reason 15 = .ok (.iconst 0, 1) := by decide +kernel
theorem dL_reason_16 : decode cL_reason 16 = .ok (.ireturn, 1) := by decide +kernel
theorem dL_exemptible_0 : decode cL_exemptible 0 = .ok (.aload_n 2, 1) := by decide +kernel
theorem dL_exemptible_1 : decode cL_exemptible 1 = .ok (.iconst 0, 1) := by decide +kernel
theorem dL_exemptible_2 : decode cL_exemptible 2 = .ok (.aload_n 0, 1) := by decide +kernel
theorem dL_exemptible_3 : decode cL_exemptible 3 = .ok (.iload_n 1, 1) := by decide +kernel
theorem dL_exemptible_4 : decode cL_exemptible 4 = .ok (.invokevirtual 72, 3) := by decide +kernel
theorem dL_exemptible_7 : decode cL_exemptible 7 = .ok (.i2l, 1) := by decide +kernel
theorem dL_exemptible_8 : decode cL_exemptible 8 = .ok (.lastore, 1) := by decide +kernel
theorem dL_exemptible_9 : decode cL_exemptible 9 = .ok (.goto 6, 3) := by decide +kernel
theorem dL_exemptible_12 : decode cL_exemptible 12 = .ok (.astore_n 3, 1) := by decide +kernel
theorem dL_exemptible_13 : decode cL_exemptible 13 = .ok (.iconst 1, 1) := by decide +kernel
theorem dL_exemptible_14 : decode cL_exemptible 14 = .ok (.ireturn, 1) := by decide +kernel
theorem dL_exemptible_15 : decode cL_exemptible 15 = .ok (.iconst 0, 1) := by decide +kernel
theorem dL_exemptible_16 : decode cL_exemptible 16 = .ok (.ireturn, 1) := by decide +kernel
theorem dL_weeksUntil_0 : decode cL_weeksUntil 0 = .ok (.aload_n 3, 1) := by decide +kernel
theorem dL_weeksUntil_1 : decode cL_weeksUntil 1 = .ok (.iconst 0, 1) := by decide +kernel
theorem dL_weeksUntil_2 : decode cL_weeksUntil 2 = .ok (.aload_n 0, 1) := by decide +kernel
theorem dL_weeksUntil_3 : decode cL_weeksUntil 3 = .ok (.iload_n 1, 1) := by decide +kernel
theorem dL_weeksUntil_4 : decode cL_weeksUntil 4 = .ok (.iload_n 2, 1) := by decide +kernel
theorem dL_weeksUntil_5 : decode cL_weeksUntil 5 = .ok (.invokevirtual 75, 3) := by decide +kernel
theorem dL_weeksUntil_8 : decode cL_weeksUntil 8 = .ok (.i2l, 1) := by decide +kernel
theorem dL_weeksUntil_9 : decode cL_weeksUntil 9 = .ok (.lastore, 1) := by decide +kernel
theorem dL_weeksUntil_10 : decode cL_weeksUntil 10 = .ok (.goto 11, 3) := by decide +kernel
theorem dL_weeksUntil_13 : decode cL_weeksUntil 13 = .ok (.astore 4, 2) := by decide +kernel
theorem dL_weeksUntil_15 : decode cL_weeksUntil 15 = .ok (.iconst 1, 1) := by decide +kernel
theorem dL_weeksUntil_16 : decode cL_weeksUntil 16 = .ok (.ireturn, 1) := by decide +kernel
theorem dL_weeksUntil_17 : decode cL_weeksUntil 17 = .ok (.astore 4, 2) := by decide +kernel
theorem dL_weeksUntil_19 : decode cL_weeksUntil 19 = .ok (.iconst 2, 1) := by decide +kernel
theorem dL_weeksUntil_20 : decode cL_weeksUntil 20 = .ok (.ireturn, 1) := by decide +kernel
theorem dL_weeksUntil_21 : decode cL_weeksUntil 21 = .ok (.iconst 0, 1) := by decide +kernel
theorem dL_weeksUntil_22 : decode cL_weeksUntil 22 = .ok (.ireturn, 1) := by decide +kernel
theorem dL_lender_0 : decode cL_lender 0 = .ok (.aload_n 3, 1) := by decide +kernel
theorem dL_lender_1 : decode cL_lender 1 = .ok (.iconst 0, 1) := by decide +kernel
theorem dL_lender_2 : decode cL_lender 2 = .ok (.aload_n 0, 1) := by decide +kernel
theorem dL_lender_3 : decode cL_lender 3 = .ok (.iload_n 1, 1) := by decide +kernel
theorem dL_lender_4 : decode cL_lender 4 = .ok (.iload_n 2, 1) := by decide +kernel
theorem dL_lender_5 : decode cL_lender 5 = .ok (.invokevirtual 78, 3) := by decide +kernel
theorem dL_lender_8 : decode cL_lender 8 = .ok (.i2l, 1) := by decide +kernel
theorem dL_lender_9 : decode cL_lender 9 = .ok (.lastore, 1) := by decide +kernel
theorem dL_lender_10 : decode cL_lender 10 = .ok (.goto 11, 3) := by decide +kernel
theorem dL_lender_13 : decode cL_lender 13 = .ok (.astore 4, 2) := by decide +kernel
theorem dL_lender_15 : decode cL_lender 15 = .ok (.iconst 1, 1) := by decide +kernel
theorem dL_lender_16 : decode cL_lender 16 = .ok (.ireturn, 1) := by decide +kernel
theorem dL_lender_17 : decode cL_lender 17 = .ok (.astore 4, 2) := by decide +kernel
theorem dL_lender_19 : decode cL_lender 19 = .ok (.iconst 2, 1) := by decide +kernel
theorem dL_lender_20 : decode cL_lender 20 = .ok (.ireturn, 1) := by decide +kernel
theorem dL_lender_21 : decode cL_lender 21 = .ok (.iconst 0, 1) := by decide +kernel
theorem dL_lender_22 : decode cL_lender 22 = .ok (.ireturn, 1) := by decide +kernel
theorem dL_inBeing_0 : decode cL_inBeing 0 = .ok (.aload_n 2, 1) := by decide +kernel
theorem dL_inBeing_1 : decode cL_inBeing 1 = .ok (.iconst 0, 1) := by decide +kernel
theorem dL_inBeing_2 : decode cL_inBeing 2 = .ok (.aload_n 0, 1) := by decide +kernel
theorem dL_inBeing_3 : decode cL_inBeing 3 = .ok (.iload_n 1, 1) := by decide +kernel
theorem dL_inBeing_4 : decode cL_inBeing 4 = .ok (.invokevirtual 81, 3) := by decide +kernel
theorem dL_inBeing_7 : decode cL_inBeing 7 = .ok (.i2l, 1) := by decide +kernel
theorem dL_inBeing_8 : decode cL_inBeing 8 = .ok (.lastore, 1) := by decide +kernel
theorem dL_inBeing_9 : decode cL_inBeing 9 = .ok (.goto 6, 3) := by decide +kernel
theorem dL_inBeing_12 : decode cL_inBeing 12 = .ok (.astore_n 3, 1) := by decide +kernel
theorem dL_inBeing_13 : decode cL_inBeing 13 = .ok (.iconst 1, 1) := by decide +kernel
theorem dL_inBeing_14 : decode cL_inBeing 14 = .ok (.ireturn, 1) := by decide +kernel
theorem dL_inBeing_15 : decode cL_inBeing 15 = .ok (.iconst 0, 1) := by decide +kernel
theorem dL_inBeing_16 : decode cL_inBeing 16 = .ok (.ireturn, 1) := by decide +kernel
theorem dL_type_0 : decode cL_type 0 = .ok (.aload_n 2, 1) := by decide +kernel
theorem dL_type_1 : decode cL_type 1 = .ok (.iconst 0, 1) := by decide +kernel
theorem dL_type_2 : decode cL_type 2 = .ok (.aload_n 0, 1) := by decide +kernel
theorem dL_type_3 : decode cL_type 3 = .ok (.iload_n 1, 1) := by decide +kernel
theorem dL_type_4 : decode cL_type 4 = .ok (.invokevirtual 84, 3) := by decide +kernel
theorem dL_type_7 : decode cL_type 7 = .ok (.i2l, 1) := by decide +kernel
theorem dL_type_8 : decode cL_type 8 = .ok (.lastore, 1) := by decide +kernel
theorem dL_type_9 : decode cL_type 9 = .ok (.goto 9, 3) := by decide +kernel
theorem dL_type_12 : decode cL_type 12 = .ok (.astore_n 3, 1) := by decide +kernel
theorem dL_type_13 : decode cL_type 13 = .ok (.iconst 1, 1) := by decide +kernel
theorem dL_type_14 : decode cL_type 14 = .ok (.ireturn, 1) := by decide +kernel
theorem dL_type_15 : decode cL_type 15 = .ok (.astore_n 3, 1) := by decide +kernel
theorem dL_type_16 : decode cL_type 16 = .ok (.iconst 2, 1) := by decide +kernel
theorem dL_type_17 : decode cL_type 17 = .ok (.ireturn, 1) := by decide +kernel
theorem dL_type_18 : decode cL_type 18 = .ok (.iconst 0, 1) := by decide +kernel
theorem dL_type_19 : decode cL_type 19 = .ok (.ireturn, 1) := by decide +kernel
theorem dL_undo_0 : decode cL_undo 0 = .ok (.aload_n 1, 1) := by decide +kernel
theorem dL_undo_1 : decode cL_undo 1 = .ok (.iconst 0, 1) := by decide +kernel
theorem dL_undo_2 : decode cL_undo 2 = .ok (.aload_n 0, 1) := by decide +kernel
theorem dL_undo_3 : decode cL_undo 3 = .ok (.invokevirtual 87, 3) := by decide +kernel
theorem dL_undo_6 : decode cL_undo 6 = .ok (.i2l, 1) := by decide +kernel
theorem dL_undo_7 : decode cL_undo 7 = .ok (.lastore, 1) := by decide +kernel
theorem dL_undo_8 : decode cL_undo 8 = .ok (.goto 6, 3) := by decide +kernel
theorem dL_undo_11 : decode cL_undo 11 = .ok (.astore_n 2, 1) := by decide +kernel
theorem dL_undo_12 : decode cL_undo 12 = .ok (.iconst 1, 1) := by decide +kernel
theorem dL_undo_13 : decode cL_undo 13 = .ok (.ireturn, 1) := by decide +kernel
theorem dL_undo_14 : decode cL_undo 14 = .ok (.iconst 0, 1) := by decide +kernel
theorem dL_undo_15 : decode cL_undo 15 = .ok (.ireturn, 1) := by decide +kernel
