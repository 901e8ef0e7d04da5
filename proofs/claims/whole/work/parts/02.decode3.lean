theorem dX7_simple_157 : decode cX7_simple 157 = .ok (.aload_n 0, 1) := by decide +kernel
theorem dX7_simple_158 : decode cX7_simple 158 = .ok (.getfield 37, 3) := by decide +kernel
theorem dX7_simple_161 : decode cX7_simple 161 = .ok (.iload_n 1, 1) := by decide +kernel
theorem dX7_simple_162 : decode cX7_simple 162 = .ok (.iaload, 1) := by decide +kernel
theorem dX7_simple_163 : decode cX7_simple 163 = .ok (.iload 4, 2) := by decide +kernel
theorem dX7_simple_165 : decode cX7_simple 165 = .ok (.idiv, 1) := by decide +kernel
theorem dX7_simple_166 : decode cX7_simple 166 = .ok (.iastore, 1) := by decide +kernel
theorem dX7_simple_167 : decode cX7_simple 167 = .ok (.iconst 0, 1) := by decide +kernel
theorem dX7_simple_168 : decode cX7_simple 168 = .ok (.ireturn, 1) := by decide +kernel
theorem dX7_simple_169 : decode cX7_simple 169 = .ok (.aload_n 0, 1) := by decide +kernel
theorem dX7_simple_170 : decode cX7_simple 170 = .ok (.iload_n 1, 1) := by decide +kernel
theorem dX7_simple_171 : decode cX7_simple 171 = .ok (.iload_n 3, 1) := by decide +kernel
theorem dX7_simple_172 : decode cX7_simple 172 = .ok (.iload 4, 2) := by decide +kernel
theorem dX7_simple_174 : decode cX7_simple 174 = .ok (.invokevirtual 124, 3) := by decide +kernel
theorem dX7_simple_177 : decode cX7_simple 177 = .ok (.ireturn, 1) := by decide +kernel
theorem dX7_simple_178 : decode cX7_simple 178 = .ok (.aload_n 0, 1) := by decide +kernel
theorem dX7_simple_179 : decode cX7_simple 179 = .ok (.iload_n 1, 1) := by decide +kernel
theorem dX7_simple_180 : decode cX7_simple 180 = .ok (.invokevirtual 128, 3) := by decide +kernel
theorem dX7_simple_183 : decode cX7_simple 183 = .ok (.ireturn, 1) := by decide +kernel
theorem dX7_simple_184 : decode cX7_simple 184 = .ok (.aload_n 0, 1) := by decide +kernel
theorem dX7_simple_185 : decode cX7_simple 185 = .ok (.iload_n 1, 1) := by decide +kernel
theorem dX7_simple_186 : decode cX7_simple 186 = .ok (.iload 4, 2) := by decide +kernel
theorem dX7_simple_188 : decode cX7_simple 188 = .ok (.iload 5, 2) := by decide +kernel
theorem dX7_simple_190 : decode cX7_simple 190 = .ok (.invokevirtual 132, 3) := by decide +kernel
theorem dX7_simple_193 : decode cX7_simple 193 = .ok (.ireturn, 1) := by decide +kernel
theorem dX7_simple_194 : decode cX7_simple 194 = .ok (.aload_n 0, 1) := by decide +kernel
theorem dX7_simple_195 : decode cX7_simple 195 = .ok (.iload 4, 2) := by decide +kernel
theorem dX7_simple_197 : decode cX7_simple 197 = .ok (.ifCond .le 8, 3) := by decide +kernel
theorem dX7_simple_200 : decode cX7_simple 200 = .ok (.iload 4, 2) := by decide +kernel
theorem dX7_simple_202 : decode cX7_simple 202 = .ok (.goto 7, 3) := by decide +kernel
theorem dX7_simple_205 : decode cX7_simple 205 = .ok (.aload_n 0, 1) := by decide +kernel
theorem dX7_simple_206 : decode cX7_simple 206 = .ok (.getfield 135, 3) := by decide +kernel
theorem dX7_simple_209 : decode cX7_simple 209 = .ok (.putfield 135, 3) := by decide +kernel
theorem dX7_simple_212 : decode cX7_simple 212 = .ok (.iconst 0, 1) := by decide +kernel
theorem dX7_simple_213 : decode cX7_simple 213 = .ok (.ireturn, 1) := by decide +kernel
theorem dX7_simple_214 : decode cX7_simple 214 = .ok (.aload_n 0, 1) := by decide +kernel
theorem dX7_simple_215 : decode cX7_simple 215 = .ok (.iload_n 1, 1) := by decide +kernel
theorem dX7_simple_216 : decode cX7_simple 216 = .ok (.invokevirtual 138, 3) := by decide +kernel
theorem dX7_simple_219 : decode cX7_simple 219 = .ok (.iconst 0, 1) := by decide +kernel
theorem dX7_simple_220 : decode cX7_simple 220 = .ok (.ireturn, 1) := by decide +kernel
theorem dX7_simple_221 : decode cX7_simple 221 = .ok (.aload_n 0, 1) := by decide +kernel
theorem dX7_simple_222 : decode cX7_simple 222 = .ok (.getfield 37, 3) := by decide +kernel
theorem dX7_simple_225 : decode cX7_simple 225 = .ok (.iload_n 1, 1) := by decide +kernel
theorem dX7_simple_226 : decode cX7_simple 226 = .ok (.iaload, 1) := by decide +kernel
theorem dX7_simple_227 : decode cX7_simple 227 = .ok (.iload 4, 2) := by decide +kernel
theorem dX7_simple_229 : decode cX7_simple 229 = .ok (.if_icmp .ge 8, 3) := by decide +kernel
theorem dX7_simple_232 : decode cX7_simple 232 = .ok (.bipush 10, 2) := by decide +kernel
theorem dX7_simple_234 : decode cX7_simple 234 = .ok (.goto 4, 3) := by decide +kernel
theorem dX7_simple_237 : decode cX7_simple 237 = .ok (.iconst 0, 1) := by decide +kernel
theorem dX7_simple_238 : decode cX7_simple 238 = .ok (.ireturn, 1) := by decide +kernel
theorem dX7_simple_239 : decode cX7_simple 239 = .ok (.aload_n 0, 1) := by decide +kernel
theorem dX7_simple_240 : decode cX7_simple 240 = .ok (.iload_n 1, 1) := by decide +kernel
theorem dX7_simple_241 : decode cX7_simple 241 = .ok (.iload 4, 2) := by decide +kernel
theorem dX7_simple_243 : decode cX7_simple 243 = .ok (.invokevirtual 142, 3) := by decide +kernel
theorem dX7_simple_246 : decode cX7_simple 246 = .ok (.ireturn, 1) := by decide +kernel
theorem dX7_simple_247 : decode cX7_simple 247 = .ok (.aload_n 0, 1) := by decide +kernel
theorem dX7_simple_248 : decode cX7_simple 248 = .ok (.iload_n 1, 1) := by decide +kernel
theorem dX7_simple_249 : decode cX7_simple 249 = .ok (.iload_n 3, 1) := by decide +kernel
theorem dX7_simple_250 : decode cX7_simple 250 = .ok (.iload 4, 2) := by decide +kernel
theorem dX7_simple_252 : decode cX7_simple 252 = .ok (.iload 5, 2) := by decide +kernel
theorem dX7_simple_254 : decode cX7_simple 254 = .ok (.invokevirtual 146, 3) := by decide +kernel
theorem dX7_simple_257 : decode cX7_simple 257 = .ok (.ireturn, 1) := by decide +kernel
theorem dX7_guard_0 : decode cX7_guard 0 = .ok (.iconst 0, 1) := by decide +kernel
theorem dX7_guard_1 : decode cX7_guard 1 = .ok (.istore_n 3, 1) := by decide +kernel
theorem dX7_guard_2 : decode cX7_guard 2 = .ok (.aload_n 0, 1) := by decide +kernel
theorem dX7_guard_3 : decode cX7_guard 3 = .ok (.iconst 1, 1) := by decide +kernel
theorem dX7_guard_4 : decode cX7_guard 4 = .ok (.putfield 114, 3) := by decide +kernel
theorem dX7_guard_7 : decode cX7_guard 7 = .ok (.iconst 0, 1) := by decide +kernel
theorem dX7_guard_8 : decode cX7_guard 8 = .ok (.istore 4, 2) := by decide +kernel
theorem dX7_guard_10 : decode cX7_guard 10 = .ok (.iload 4, 2) := by decide +kernel
theorem dX7_guard_12 : decode cX7_guard 12 = .ok (.iload_n 2, 1) := by decide +kernel
theorem dX7_guard_13 : decode cX7_guard 13 = .ok (.if_icmp .ge 94, 3) := by decide +kernel
theorem dX7_guard_16 : decode cX7_guard 16 = .ok (.iload_n 3, 1) := by decide +kernel
theorem dX7_guard_17 : decode cX7_guard 17 = .ok (.ifCond .ne 90, 3) := by decide +kernel
theorem dX7_guard_20 : decode cX7_guard 20 = .ok (.aload_n 0, 1) := by decide +kernel
theorem dX7_guard_21 : decode cX7_guard 21 = .ok (.getfield 34, 3) := by decide +kernel
theorem dX7_guard_24 : decode cX7_guard 24 = .ok (.iload_n 1, 1) := by decide +kernel
theorem dX7_guard_25 : decode cX7_guard 25 = .ok (.iaload, 1) := by decide +kernel
theorem dX7_guard_26 : decode cX7_guard 26 = .ok (.aload_n 0, 1) := by decide +kernel
theorem dX7_guard_27 : decode cX7_guard 27 = .ok (.getfield 22, 3) := by decide +kernel
theorem dX7_guard_30 : decode cX7_guard 30 = .ok (.iload_n 1, 1) := by decide +kernel
theorem dX7_guard_31 : decode cX7_guard 31 = .ok (.iaload, 1) := by decide +kernel
theorem dX7_guard_32 : decode cX7_guard 32 = .ok (.if_icmp .ge 75, 3) := by decide +kernel
theorem dX7_guard_35 : decode cX7_guard 35 = .ok (.bipush 16, 2) := by decide +kernel
theorem dX7_guard_37 : decode cX7_guard 37 = .ok (.iload_n 1, 1) := by decide +kernel
theorem dX7_guard_38 : decode cX7_guard 38 = .ok (.imul, 1) := by decide +kernel
theorem dX7_guard_39 : decode cX7_guard 39 = .ok (.aload_n 0, 1) := by decide +kernel
theorem dX7_guard_40 : decode cX7_guard 40 = .ok (.getfield 34, 3) := by decide +kernel
theorem dX7_guard_43 : decode cX7_guard 43 = .ok (.iload_n 1, 1) := by decide +kernel
theorem dX7_guard_44 : decode cX7_guard 44 = .ok (.iaload, 1) := by decide +kernel
theorem dX7_guard_45 : decode cX7_guard 45 = .ok (.iadd, 1) := by decide +kernel
theorem dX7_guard_46 : decode cX7_guard 46 = .ok (.istore 5, 2) := by decide +kernel
theorem dX7_guard_48 : decode cX7_guard 48 = .ok (.aload_n 0, 1) := by decide +kernel
theorem dX7_guard_49 : decode cX7_guard 49 = .ok (.dup, 1) := by decide +kernel
theorem dX7_guard_50 : decode cX7_guard 50 = .ok (.getfield 150, 3) := by decide +kernel
theorem dX7_guard_53 : decode cX7_guard 53 = .ok (.iconst 1, 1) := by decide +kernel
theorem dX7_guard_54 : decode cX7_guard 54 = .ok (.iadd, 1) := by decide +kernel
theorem dX7_guard_55 : decode cX7_guard 55 = .ok (.putfield 150, 3) := by decide +kernel
theorem dX7_guard_58 : decode cX7_guard 58 = .ok (.aload_n 0, 1) := by decide +kernel
theorem dX7_guard_59 : decode cX7_guard 59 = .ok (.getfield 25, 3) := by decide +kernel
theorem dX7_guard_62 : decode cX7_guard 62 = .ok (.iload 5, 2) := by decide +kernel
theorem dX7_guard_64 : decode cX7_guard 64 = .ok (.iaload, 1) := by decide +kernel
theorem dX7_guard_65 : decode cX7_guard 65 = .ok (.bipush 9, 2) := by decide +kernel
theorem dX7_guard_67 : decode cX7_guard 67 = .ok (.if_icmp .ne 8, 3) := by decide +kernel
theorem dX7_guard_70 : decode cX7_guard 70 = .ok (.bipush 8, 2) := by decide +kernel
theorem dX7_guard_72 : decode cX7_guard 72 = .ok (.goto 10, 3) := by decide +kernel
theorem dX7_guard_75 : decode cX7_guard 75 = .ok (.aload_n 0, 1) := by decide +kernel
theorem dX7_guard_76 : decode cX7_guard 76 = .ok (.iload_n 1, 1) := by decide +kernel
theorem dX7_guard_77 : decode cX7_guard 77 = .ok (.iload 5, 2) := by decide +kernel
theorem dX7_guard_79 : decode cX7_guard 79 = .ok (.invokevirtual 153, 3) := by decide +kernel
theorem dX7_guard_82 : decode cX7_guard 82 = .ok (.istore_n 3, 1) := by decide +kernel
theorem dX7_guard_83 : decode cX7_guard 83 = .ok (.aload_n 0, 1) := by decide +kernel
theorem dX7_guard_84 : decode cX7_guard 84 = .ok (.getfield 34, 3) := by decide +kernel
theorem dX7_guard_87 : decode cX7_guard 87 = .ok (.iload_n 1, 1) := by decide +kernel
theorem dX7_guard_88 : decode cX7_guard 88 = .ok (.dup2, 1) := by decide +kernel
theorem dX7_guard_89 : decode cX7_guard 89 = .ok (.iaload, 1) := by decide +kernel
theorem dX7_guard_90 : decode cX7_guard 90 = .ok (.iload_n 3, 1) := by decide +kernel
theorem dX7_guard_91 : decode cX7_guard 91 = .ok (.ifCond .ne 7, 3) := by decide +kernel
theorem dX7_guard_94 : decode cX7_guard 94 = .ok (.iconst 1, 1) := by decide +kernel
theorem dX7_guard_95 : decode cX7_guard 95 = .ok (.goto 4, 3) := by decide +kernel
theorem dX7_guard_98 : decode cX7_guard 98 = .ok (.iconst 0, 1) := by decide +kernel
theorem dX7_guard_99 : decode cX7_guard 99 = .ok (.iadd, 1) := by decide +kernel
theorem dX7_guard_100 : decode cX7_guard 100 = .ok (.iastore, 1) := by decide +kernel
theorem dX7_guard_101 : decode cX7_guard 101 = .ok (.iinc 4 1, 3) := by decide +kernel
theorem dX7_guard_104 : decode cX7_guard 104 = .ok (.goto (-94), 3) := by decide +kernel
theorem dX7_guard_107 : decode cX7_guard 107 = .ok (.aload_n 0, 1) := by decide +kernel
theorem dX7_guard_108 : decode cX7_guard 108 = .ok (.iconst 0, 1) := by decide +kernel
theorem dX7_guard_109 : decode cX7_guard 109 = .ok (.putfield 114, 3) := by decide +kernel
theorem dX7_guard_112 : decode cX7_guard 112 = .ok (.aload_n 0, 1) := by decide +kernel
theorem dX7_guard_113 : decode cX7_guard 113 = .ok (.dup, 1) := by decide +kernel
theorem dX7_guard_114 : decode cX7_guard 114 = .ok (.getfield 156, 3) := by decide +kernel
theorem dX7_guard_117 : decode cX7_guard 117 = .ok (.iconst 1, 1) := by decide +kernel
theorem dX7_guard_118 : decode cX7_guard 118 = .ok (.iadd, 1) := by decide +kernel
theorem dX7_guard_119 : decode cX7_guard 119 = .ok (.putfield 156, 3) := by decide +kernel
theorem dX7_guard_122 : decode cX7_guard 122 = .ok (.iload_n 3, 1) := by decide +kernel
theorem dX7_guard_123 : decode cX7_guard 123 = .ok (.ireturn, 1) := by decide +kernel
theorem dX7_fails_0 : decode cX7_fails 0 = .ok (.aload_n 0, 1) := by decide +kernel
theorem dX7_fails_1 : decode cX7_fails 1 = .ok (.getfield 74, 3) := by decide +kernel
theorem dX7_fails_4 : decode cX7_fails 4 = .ok (.iload_n 1, 1) := by decide +kernel
theorem dX7_fails_5 : decode cX7_fails 5 = .ok (.dup2, 1) := by decide +kernel
theorem dX7_fails_6 : decode cX7_fails 6 = .ok (.iaload, 1) := by decide +kernel
theorem dX7_fails_7 : decode cX7_fails 7 = .ok (.iconst 1, 1) := by decide +kernel
theorem dX7_fails_8 : decode cX7_fails 8 = .ok (.iadd, 1) := by decide +kernel
theorem dX7_fails_9 : decode cX7_fails 9 = .ok (.iastore, 1) := by decide +kernel
theorem dX7_fails_10 : decode cX7_fails 10 = .ok (.aload_n 0, 1) := by decide +kernel
theorem dX7_fails_11 : decode cX7_fails 11 = .ok (.dup, 1) := by decide +kernel
theorem dX7_fails_12 : decode cX7_fails 12 = .ok (.getfield 159, 3) := by decide +kernel
theorem dX7_fails_15 : decode cX7_fails 15 = .ok (.iconst 1, 1) := by decide +kernel
theorem dX7_fails_16 : decode cX7_fails 16 = .ok (.iadd, 1) := by decide +kernel
theorem dX7_fails_17 : decode cX7_fails 17 = .ok (.putfield 159, 3) := by decide +kernel
theorem dX7_fails_20 : decode cX7_fails 20 = .ok (.aload_n 0, 1) := by decide +kernel
theorem dX7_fails_21 : decode cX7_fails 21 = .ok (.getfield 77, 3) := by decide +kernel
theorem dX7_fails_24 : decode cX7_fails 24 = .ok (.iload_n 1, 1) := by decide +kernel
theorem dX7_fails_25 : decode cX7_fails 25 = .ok (.iload_n 2, 1) := by decide +kernel
theorem dX7_fails_26 : decode cX7_fails 26 = .ok (.iastore, 1) := by decide +kernel
theorem dX7_fails_27 : decode cX7_fails 27 = .ok (.aload_n 0, 1) := by decide +kernel
theorem dX7_fails_28 : decode cX7_fails 28 = .ok (.getfield 80, 3) := by decide +kernel
theorem dX7_fails_31 : decode cX7_fails 31 = .ok (.iload_n 1, 1) := by decide +kernel
theorem dX7_fails_32 : decode cX7_fails 32 = .ok (.aload_n 0, 1) := by decide +kernel
theorem dX7_fails_33 : decode cX7_fails 33 = .ok (.getfield 34, 3) := by decide +kernel
theorem dX7_fails_36 : decode cX7_fails 36 = .ok (.iload_n 1, 1) := by decide +kernel
theorem dX7_fails_37 : decode cX7_fails 37 = .ok (.iaload, 1) := by decide +kernel
theorem dX7_fails_38 : decode cX7_fails 38 = .ok (.iastore, 1) := by decide +kernel
theorem dX7_fails_39 : decode cX7_fails 39 = .ok (.aload_n 0, 1) := by decide +kernel
theorem dX7_fails_40 : decode cX7_fails 40 = .ok (.getfield 7, 3) := by decide +kernel
theorem dX7_fails_43 : decode cX7_fails 43 = .ok (.iload_n 1, 1) := by decide +kernel
theorem dX7_fails_44 : decode cX7_fails 44 = .ok (.iaload, 1) := by decide +kernel
theorem dX7_fails_45 : decode cX7_fails 45 = .ok (.iconst 3, 1) := by decide +kernel
theorem dX7_fails_46 : decode cX7_fails 46 = .ok (.if_icmp .ne 7, 3) := by decide +kernel
theorem dX7_fails_49 : decode cX7_fails 49 = .ok (.iconst 3, 1) := by decide +kernel
theorem dX7_fails_50 : decode cX7_fails 50 = .ok (.goto 18, 3) := by decide +kernel
theorem dX7_fails_53 : decode cX7_fails 53 = .ok (.aload_n 0, 1) := by decide +kernel
theorem dX7_fails_54 : decode cX7_fails 54 = .ok (.getfield 7, 3) := by decide +kernel
theorem dX7_fails_57 : decode cX7_fails 57 = .ok (.iload_n 1, 1) := by decide +kernel
theorem dX7_fails_58 : decode cX7_fails 58 = .ok (.iaload, 1) := by decide +kernel
theorem dX7_fails_59 : decode cX7_fails 59 = .ok (.iconst 4, 1) := by decide +kernel
theorem dX7_fails_60 : decode cX7_fails 60 = .ok (.if_icmp .ne 7, 3) := by decide +kernel
theorem dX7_fails_63 : decode cX7_fails 63 = .ok (.iconst 5, 1) := by decide +kernel
theorem dX7_fails_64 : decode cX7_fails 64 = .ok (.goto 4, 3) := by decide +kernel
theorem dX7_fails_67 : decode cX7_fails 67 = .ok (.iconst 0, 1) := by decide +kernel
theorem dX7_fails_68 : decode cX7_fails 68 = .ok (.istore_n 3, 1) := by decide +kernel
theorem dX7_fails_69 : decode cX7_fails 69 = .ok (.aload_n 0, 1) := by decide +kernel
theorem dX7_fails_70 : decode cX7_fails 70 = .ok (.getfield 7, 3) := by decide +kernel
theorem dX7_fails_73 : decode cX7_fails 73 = .ok (.iload_n 1, 1) := by decide +kernel
theorem dX7_fails_74 : decode cX7_fails 74 = .ok (.iaload, 1) := by decide +kernel
theorem dX7_fails_75 : decode cX7_fails 75 = .ok (.iconst 2, 1) := by decide +kernel
theorem dX7_fails_76 : decode cX7_fails 76 = .ok (.if_icmp .ge 13, 3) := by decide +kernel
theorem dX7_fails_79 : decode cX7_fails 79 = .ok (.aload_n 0, 1) := by decide +kernel
theorem dX7_fails_80 : decode cX7_fails 80 = .ok (.getfield 19, 3) := by decide +kernel
theorem dX7_fails_83 : decode cX7_fails 83 = .ok (.iload_n 1, 1) := by decide +kernel
theorem dX7_fails_84 : decode cX7_fails 84 = .ok (.iconst 4, 1) := by decide +kernel
theorem dX7_fails_85 : decode cX7_fails 85 = .ok (.iastore, 1) := by decide +kernel
theorem dX7_fails_86 : decode cX7_fails 86 = .ok (.goto 41, 3) := by decide +kernel
theorem dX7_fails_89 : decode cX7_fails 89 = .ok (.aload_n 0, 1) := by decide +kernel
theorem dX7_fails_90 : decode cX7_fails 90 = .ok (.getfield 83, 3) := by decide +kernel
theorem dX7_fails_93 : decode cX7_fails 93 = .ok (.iload_n 1, 1) := by decide +kernel
theorem dX7_fails_94 : decode cX7_fails 94 = .ok (.iaload, 1) := by decide +kernel
theorem dX7_fails_95 : decode cX7_fails 95 = .ok (.iload_n 3, 1) := by decide +kernel
theorem dX7_fails_96 : decode cX7_fails 96 = .ok (.if_icmp .ge 21, 3) := by decide +kernel
theorem dX7_fails_99 : decode cX7_fails 99 = .ok (.aload_n 0, 1) := by decide +kernel
theorem dX7_fails_100 : decode cX7_fails 100 = .ok (.getfield 83, 3) := by decide +kernel
theorem dX7_fails_103 : decode cX7_fails 103 = .ok (.iload_n 1, 1) := by decide +kernel
theorem dX7_fails_104 : decode cX7_fails 104 = .ok (.dup2, 1) := by decide +kernel
theorem dX7_fails_105 : decode cX7_fails 105 = .ok (.iaload, 1) := by decide +kernel
theorem dX7_fails_106 : decode cX7_fails 106 = .ok (.iconst 1, 1) := by decide +kernel
theorem dX7_fails_107 : decode cX7_fails 107 = .ok (.iadd, 1) := by decide +kernel
theorem dX7_fails_108 : decode cX7_fails 108 = .ok (.iastore, 1) := by decide +kernel
theorem dX7_fails_109 : decode cX7_fails 109 = .ok (.aload_n 0, 1) := by decide +kernel
theorem dX7_fails_110 : decode cX7_fails 110 = .ok (.iload_n 1, 1) := by decide +kernel
theorem dX7_fails_111 : decode cX7_fails 111 = .ok (.invokevirtual 162, 3) := by decide +kernel
theorem dX7_fails_114 : decode cX7_fails 114 = .ok (.goto 13, 3) := by decide +kernel
theorem dX7_fails_117 : decode cX7_fails 117 = .ok (.aload_n 0, 1) := by decide +kernel
theorem dX7_fails_118 : decode cX7_fails 118 = .ok (.getfield 34, 3) := by decide +kernel
theorem dX7_fails_121 : decode cX7_fails 121 = .ok (.iload_n 1, 1) := by decide +kernel
theorem dX7_fails_122 : decode cX7_fails 122 = .ok (.dup2, 1) := by decide +kernel
theorem dX7_fails_123 : decode cX7_fails 123 = .ok (.iaload, 1) := by decide +kernel
theorem dX7_fails_124 : decode cX7_fails 124 = .ok (.iconst 1, 1) := by decide +kernel
theorem dX7_fails_125 : decode cX7_fails 125 = .ok (.iadd, 1) := by decide +kernel
theorem dX7_fails_126 : decode cX7_fails 126 = .ok (.iastore, 1) := by decide +kernel
theorem dX7_fails_127 : decode cX7_fails 127 = .ok (.return_, 1) := by decide +kernel
theorem dX7_acts_0 : decode cX7_acts 0 = .ok (.bipush 16, 2) := by decide +kernel
theorem dX7_acts_2 : decode cX7_acts 2 = .ok (.iload_n 1, 1) := by decide +kernel
theorem dX7_acts_3 : decode cX7_acts 3 = .ok (.imul, 1) := by decide +kernel
theorem dX7_acts_4 : decode cX7_acts 4 = .ok (.aload_n 0, 1) := by decide +kernel
theorem dX7_acts_5 : decode cX7_acts 5 = .ok (.getfield 34, 3) := by decide +kernel
theorem dX7_acts_8 : decode cX7_acts 8 = .ok (.iload_n 1, 1) := by decide +kernel
theorem dX7_acts_9 : decode cX7_acts 9 = .ok (.iaload, 1) := by decide +kernel
theorem dX7_acts_10 : decode cX7_acts 10 = .ok (.iadd, 1) := by decide +kernel
theorem dX7_acts_11 : decode cX7_acts 11 = .ok (.istore_n 2, 1) := by decide +kernel
theorem dX7_acts_12 : decode cX7_acts 12 = .ok (.aload_n 0, 1) := by decide +kernel
theorem dX7_acts_13 : decode cX7_acts 13 = .ok (.dup, 1) := by decide +kernel
theorem dX7_acts_14 : decode cX7_acts 14 = .ok (.getfield 150, 3) := by decide +kernel
theorem dX7_acts_17 : decode cX7_acts 17 = .ok (.iconst 1, 1) := by decide +kernel
theorem dX7_acts_18 : decode cX7_acts 18 = .ok (.iadd, 1) := by decide +kernel
theorem dX7_acts_19 : decode cX7_acts 19 = .ok (.putfield 150, 3) := by decide +kernel
theorem dX7_acts_22 : decode cX7_acts 22 = .ok (.aload_n 0, 1) := by decide +kernel
theorem dX7_acts_23 : decode cX7_acts 23 = .ok (.getfield 86, 3) := by decide +kernel
theorem dX7_acts_26 : decode cX7_acts 26 = .ok (.iload_n 1, 1) := by decide +kernel
theorem dX7_acts_27 : decode cX7_acts 27 = .ok (.iconst 1, 1) := by decide +kernel
theorem dX7_acts_28 : decode cX7_acts 28 = .ok (.bastore, 1) := by decide +kernel
theorem dX7_acts_29 : decode cX7_acts 29 = .ok (.aload_n 0, 1) := by decide +kernel
theorem dX7_acts_30 : decode cX7_acts 30 = .ok (.iconst 0, 1) := by decide +kernel
theorem dX7_acts_31 : decode cX7_acts 31 = .ok (.putfield 135, 3) := by decide +kernel
theorem dX7_acts_34 : decode cX7_acts 34 = .ok (.aload_n 0, 1) := by decide +kernel
theorem dX7_acts_35 : decode cX7_acts 35 = .ok (.getfield 25, 3) := by decide +kernel
theorem dX7_acts_38 : decode cX7_acts 38 = .ok (.iload_n 2, 1) := by decide +kernel
theorem dX7_acts_39 : decode cX7_acts 39 = .ok (.iaload, 1) := by decide +kernel
theorem dX7_acts_40 : decode cX7_acts 40 = .ok (.bipush 9, 2) := by decide +kernel
theorem dX7_acts_42 : decode cX7_acts 42 = .ok (.if_icmp .ne 28, 3) := by decide +kernel
theorem dX7_acts_45 : decode cX7_acts 45 = .ok (.aload_n 0, 1) := by decide +kernel
theorem dX7_acts_46 : decode cX7_acts 46 = .ok (.getfield 34, 3) := by decide +kernel
theorem dX7_acts_49 : decode cX7_acts 49 = .ok (.iload_n 1, 1) := by decide +kernel
theorem dX7_acts_50 : decode cX7_acts 50 = .ok (.dup2, 1) := by decide +kernel
theorem dX7_acts_51 : decode cX7_acts 51 = .ok (.iaload, 1) := by decide +kernel
theorem dX7_acts_52 : decode cX7_acts 52 = .ok (.iconst 1, 1) := by decide +kernel
theorem dX7_acts_53 : decode cX7_acts 53 = .ok (.iadd, 1) := by decide +kernel
theorem dX7_acts_54 : decode cX7_acts 54 = .ok (.iastore, 1) := by decide +kernel
theorem dX7_acts_55 : decode cX7_acts 55 = .ok (.aload_n 0, 1) := by decide +kernel
theorem dX7_acts_56 : decode cX7_acts 56 = .ok (.iload_n 1, 1) := by decide +kernel
theorem dX7_acts_57 : decode cX7_acts 57 = .ok (.aload_n 0, 1) := by decide +kernel
theorem dX7_acts_58 : decode cX7_acts 58 = .ok (.getfield 28, 3) := by decide +kernel
theorem dX7_acts_61 : decode cX7_acts 61 = .ok (.iload_n 2, 1) := by decide +kernel
theorem dX7_acts_62 : decode cX7_acts 62 = .ok (.iaload, 1) := by decide +kernel
theorem dX7_acts_63 : decode cX7_acts 63 = .ok (.invokevirtual 165, 3) := by decide +kernel
theorem dX7_acts_66 : decode cX7_acts 66 = .ok (.istore_n 3, 1) := by decide +kernel
theorem dX7_acts_67 : decode cX7_acts 67 = .ok (.goto 38, 3) := by decide +kernel
theorem dX7_acts_70 : decode cX7_acts 70 = .ok (.aload_n 0, 1) := by decide +kernel
theorem dX7_acts_71 : decode cX7_acts 71 = .ok (.iload_n 1, 1) := by decide +kernel
theorem dX7_acts_72 : decode cX7_acts 72 = .ok (.iload_n 2, 1) := by decide +kernel
theorem dX7_acts_73 : decode cX7_acts 73 = .ok (.invokevirtual 153, 3) := by decide +kernel
theorem dX7_acts_76 : decode cX7_acts 76 = .ok (.istore_n 3, 1) := by decide +kernel
theorem dX7_acts_77 : decode cX7_acts 77 = .ok (.aload_n 0, 1) := by decide +kernel
theorem dX7_acts_78 : decode cX7_acts 78 = .ok (.getfield 34, 3) := by decide +kernel
theorem dX7_acts_81 : decode cX7_acts 81 = .ok (.iload_n 1, 1) := by decide +kernel
theorem dX7_acts_82 : decode cX7_acts 82 = .ok (.dup2, 1) := by decide +kernel
theorem dX7_acts_83 : decode cX7_acts 83 = .ok (.iaload, 1) := by decide +kernel
theorem dX7_acts_84 : decode cX7_acts 84 = .ok (.iload_n 3, 1) := by decide +kernel
theorem dX7_acts_85 : decode cX7_acts 85 = .ok (.ifCond .ne 17, 3) := by decide +kernel
theorem dX7_acts_88 : decode cX7_acts 88 = .ok (.aload_n 0, 1) := by decide +kernel
theorem dX7_acts_89 : decode cX7_acts 89 = .ok (.getfield 19, 3) := by decide +kernel
theorem dX7_acts_92 : decode cX7_acts 92 = .ok (.iload_n 1, 1) := by decide +kernel
theorem dX7_acts_93 : decode cX7_acts 93 = .ok (.iaload, 1) := by decide +kernel
theorem dX7_acts_94 : decode cX7_acts 94 = .ok (.iconst 2, 1) := by decide +kernel
theorem dX7_acts_95 : decode cX7_acts 95 = .ok (.if_icmp .eq 7, 3) := by decide +kernel
theorem dX7_acts_98 : decode cX7_acts 98 = .ok (.iconst 1, 1) := by decide +kernel
theorem dX7_acts_99 : decode cX7_acts 99 = .ok (.goto 4, 3) := by decide +kernel
theorem dX7_acts_102 : decode cX7_acts 102 = .ok (.iconst 0, 1) := by decide +kernel
theorem dX7_acts_103 : decode cX7_acts 103 = .ok (.iadd, 1) := by decide +kernel
theorem dX7_acts_104 : decode cX7_acts 104 = .ok (.iastore, 1) := by decide +kernel
theorem dX7_acts_105 : decode cX7_acts 105 = .ok (.iload_n 3, 1) := by decide +kernel
theorem dX7_acts_106 : decode cX7_acts 106 = .ok (.ifCond .eq 12, 3) := by decide +kernel
theorem dX7_acts_109 : decode cX7_acts 109 = .ok (.aload_n 0, 1) := by decide +kernel
theorem dX7_acts_110 : decode cX7_acts 110 = .ok (.iload_n 1, 1) := by decide +kernel
theorem dX7_acts_111 : decode cX7_acts 111 = .ok (.iload_n 3, 1) := by decide +kernel
theorem dX7_acts_112 : decode cX7_acts 112 = .ok (.invokevirtual 168, 3) := by decide +kernel
theorem dX7_acts_115 : decode cX7_acts 115 = .ok (.goto 34, 3) := by decide +kernel
theorem dX7_acts_118 : decode cX7_acts 118 = .ok (.aload_n 0, 1) := by decide +kernel
theorem dX7_acts_119 : decode cX7_acts 119 = .ok (.getfield 135, 3) := by decide +kernel
theorem dX7_acts_122 : decode cX7_acts 122 = .ok (.ifCond .le 27, 3) := by decide +kernel
theorem dX7_acts_125 : decode cX7_acts 125 = .ok (.aload_n 0, 1) := by decide +kernel
theorem dX7_acts_126 : decode cX7_acts 126 = .ok (.getfield 19, 3) := by decide +kernel
theorem dX7_acts_129 : decode cX7_acts 129 = .ok (.iload_n 1, 1) := by decide +kernel
theorem dX7_acts_130 : decode cX7_acts 130 = .ok (.iconst 1, 1) := by decide +kernel
theorem dX7_acts_131 : decode cX7_acts 131 = .ok (.iastore, 1) := by decide +kernel
theorem dX7_acts_132 : decode cX7_acts 132 = .ok (.aload_n 0, 1) := by decide +kernel
theorem dX7_acts_133 : decode cX7_acts 133 = .ok (.getfield 70, 3) := by decide +kernel
theorem dX7_acts_136 : decode cX7_acts 136 = .ok (.iload_n 1, 1) := by decide +kernel
theorem dX7_acts_137 : decode cX7_acts 137 = .ok (.aload_n 0, 1) := by decide +kernel
theorem dX7_acts_138 : decode cX7_acts 138 = .ok (.getfield 100, 3) := by decide +kernel
theorem dX7_acts_141 : decode cX7_acts 141 = .ok (.i2l, 1) := by decide +kernel
theorem dX7_acts_142 : decode cX7_acts 142 = .ok (.aload_n 0, 1) := by decide +kernel
theorem dX7_acts_143 : decode cX7_acts 143 = .ok (.getfield 135, 3) := by decide +kernel
theorem dX7_acts_146 : decode cX7_acts 146 = .ok (.i2l, 1) := by decide +kernel
theorem dX7_acts_147 : decode cX7_acts 147 = .ok (.ladd, 1) := by decide +kernel
theorem dX7_acts_148 : decode cX7_acts 148 = .ok (.lastore, 1) := by decide +kernel
theorem dX7_acts_149 : decode cX7_acts 149 = .ok (.return_, 1) := by decide +kernel
theorem dX7_maybeDone_0 : decode cX7_maybeDone 0 = .ok (.aload_n 0, 1) := by decide +kernel
theorem dX7_maybeDone_1 : decode cX7_maybeDone 1 = .ok (.getfield 19, 3) := by decide +kernel
theorem dX7_maybeDone_4 : decode cX7_maybeDone 4 = .ok (.iload_n 1, 1) := by decide +kernel
theorem dX7_maybeDone_5 : decode cX7_maybeDone 5 = .ok (.iaload, 1) := by decide +kernel
theorem dX7_maybeDone_6 : decode cX7_maybeDone 6 = .ok (.invokestatic 118, 3) := by decide +kernel
theorem dX7_maybeDone_9 : decode cX7_maybeDone 9 = .ok (.ifCond .ne 55, 3) := by decide +kernel
theorem dX7_maybeDone_12 : decode cX7_maybeDone 12 = .ok (.aload_n 0, 1) := by decide +kernel
theorem dX7_maybeDone_13 : decode cX7_maybeDone 13 = .ok (.getfield 19, 3) := by decide +kernel
theorem dX7_maybeDone_16 : decode cX7_maybeDone 16 = .ok (.iload_n 1, 1) := by decide +kernel
theorem dX7_maybeDone_17 : decode cX7_maybeDone 17 = .ok (.iaload, 1) := by decide +kernel
theorem dX7_maybeDone_18 : decode cX7_maybeDone 18 = .ok (.iconst 2, 1) := by decide +kernel
theorem dX7_maybeDone_19 : decode cX7_maybeDone 19 = .ok (.if_icmp .eq 45, 3) := by decide +kernel
theorem dX7_maybeDone_22 : decode cX7_maybeDone 22 = .ok (.aload_n 0, 1) := by decide +kernel
theorem dX7_maybeDone_23 : decode cX7_maybeDone 23 = .ok (.getfield 34, 3) := by decide +kernel
theorem dX7_maybeDone_26 : decode cX7_maybeDone 26 = .ok (.iload_n 1, 1) := by decide +kernel
theorem dX7_maybeDone_27 : decode cX7_maybeDone 27 = .ok (.iaload, 1) := by decide +kernel
theorem dX7_maybeDone_28 : decode cX7_maybeDone 28 = .ok (.aload_n 0, 1) := by decide +kernel
theorem dX7_maybeDone_29 : decode cX7_maybeDone 29 = .ok (.getfield 22, 3) := by decide +kernel
theorem dX7_maybeDone_32 : decode cX7_maybeDone 32 = .ok (.iload_n 1, 1) := by decide +kernel
theorem dX7_maybeDone_33 : decode cX7_maybeDone 33 = .ok (.iaload, 1) := by decide +kernel
theorem dX7_maybeDone_34 : decode cX7_maybeDone 34 = .ok (.if_icmp .lt 30, 3) := by decide +kernel
theorem dX7_maybeDone_37 : decode cX7_maybeDone 37 = .ok (.aload_n 0, 1) := by decide +kernel
theorem dX7_maybeDone_38 : decode cX7_maybeDone 38 = .ok (.getfield 19, 3) := by decide +kernel
theorem dX7_maybeDone_41 : decode cX7_maybeDone 41 = .ok (.iload_n 1, 1) := by decide +kernel
theorem dX7_maybeDone_42 : decode cX7_maybeDone 42 = .ok (.iconst 3, 1) := by decide +kernel
theorem dX7_maybeDone_43 : decode cX7_maybeDone 43 = .ok (.iastore, 1) := by decide +kernel
theorem dX7_maybeDone_44 : decode cX7_maybeDone 44 = .ok (.aload_n 0, 1) := by decide +kernel
theorem dX7_maybeDone_45 : decode cX7_maybeDone 45 = .ok (.getfield 93, 3) := by decide +kernel
theorem dX7_maybeDone_48 : decode cX7_maybeDone 48 = .ok (.aload_n 0, 1) := by decide +kernel
theorem dX7_maybeDone_49 : decode cX7_maybeDone 49 = .ok (.getfield 172, 3) := by decide +kernel
theorem dX7_maybeDone_52 : decode cX7_maybeDone 52 = .ok (.iload_n 1, 1) := by decide +kernel
theorem dX7_maybeDone_53 : decode cX7_maybeDone 53 = .ok (.iastore, 1) := by decide +kernel
theorem dX7_maybeDone_54 : decode cX7_maybeDone 54 = .ok (.aload_n 0, 1) := by decide +kernel
theorem dX7_maybeDone_55 : decode cX7_maybeDone 55 = .ok (.dup, 1) := by decide +kernel
theorem dX7_maybeDone_56 : decode cX7_maybeDone 56 = .ok (.getfield 172, 3) := by decide +kernel
theorem dX7_maybeDone_59 : decode cX7_maybeDone 59 = .ok (.iconst 1, 1) := by decide +kernel
theorem dX7_maybeDone_60 : decode cX7_maybeDone 60 = .ok (.iadd, 1) := by decide +kernel
theorem dX7_maybeDone_61 : decode cX7_maybeDone 61 = .ok (.putfield 172, 3) := by decide +kernel
theorem dX7_maybeDone_64 : decode cX7_maybeDone 64 = .ok (.return_, 1) := by decide +kernel
theorem dX7_pick_0 : decode cX7_pick 0 = .ok (.iconst (-1), 1) := by decide +kernel
theorem dX7_pick_1 : decode cX7_pick 1 = .ok (.istore_n 1, 1) := by decide +kernel
theorem dX7_pick_2 : decode cX7_pick 2 = .ok (.iconst 0, 1) := by decide +kernel
theorem dX7_pick_3 : decode cX7_pick 3 = .ok (.istore_n 2, 1) := by decide +kernel
theorem dX7_pick_4 : decode cX7_pick 4 = .ok (.iload_n 2, 1) := by decide +kernel
theorem dX7_pick_5 : decode cX7_pick 5 = .ok (.aload_n 0, 1) := by decide +kernel
theorem dX7_pick_6 : decode cX7_pick 6 = .ok (.getfield 103, 3) := by decide +kernel
theorem dX7_pick_9 : decode cX7_pick 9 = .ok (.if_icmp .ge 72, 3) := by decide +kernel
theorem dX7_pick_12 : decode cX7_pick 12 = .ok (.aload_n 0, 1) := by decide +kernel
theorem dX7_pick_13 : decode cX7_pick 13 = .ok (.getfield 19, 3) := by decide +kernel
theorem dX7_pick_16 : decode cX7_pick 16 = .ok (.iload_n 2, 1) := by decide +kernel
theorem dX7_pick_17 : decode cX7_pick 17 = .ok (.iaload, 1) := by decide +kernel
theorem dX7_pick_18 : decode cX7_pick 18 = .ok (.ifCond .ne 16, 3) := by decide +kernel
theorem dX7_pick_21 : decode cX7_pick 21 = .ok (.aload_n 0, 1) := by decide +kernel
theorem dX7_pick_22 : decode cX7_pick 22 = .ok (.getfield 90, 3) := by decide +kernel
theorem dX7_pick_25 : decode cX7_pick 25 = .ok (.iload_n 2, 1) := by decide +kernel
theorem dX7_pick_26 : decode cX7_pick 26 = .ok (.baload, 1) := by decide +kernel
theorem dX7_pick_27 : decode cX7_pick 27 = .ok (.ifCond .ne 7, 3) := by decide +kernel
theorem dX7_pick_30 : decode cX7_pick 30 = .ok (.iconst 1, 1) := by decide +kernel
theorem dX7_pick_31 : decode cX7_pick 31 = .ok (.goto 4, 3) := by decide +kernel
theorem dX7_pick_34 : decode cX7_pick 34 = .ok (.iconst 0, 1) := by decide +kernel
theorem dX7_pick_35 : decode cX7_pick 35 = .ok (.istore_n 3, 1) := by decide +kernel
theorem dX7_pick_36 : decode cX7_pick 36 = .ok (.iload_n 3, 1) := by decide +kernel
theorem dX7_pick_37 : decode cX7_pick 37 = .ok (.ifCond .eq 38, 3) := by decide +kernel
theorem dX7_pick_40 : decode cX7_pick 40 = .ok (.iload_n 1, 1) := by decide +kernel
theorem dX7_pick_41 : decode cX7_pick 41 = .ok (.ifCond .lt 32, 3) := by decide +kernel
theorem dX7_pick_44 : decode cX7_pick 44 = .ok (.aload_n 0, 1) := by decide +kernel
theorem dX7_pick_45 : decode cX7_pick 45 = .ok (.getfield 13, 3) := by decide +kernel
theorem dX7_pick_48 : decode cX7_pick 48 = .ok (.iload_n 2, 1) := by decide +kernel
theorem dX7_pick_49 : decode cX7_pick 49 = .ok (.iaload, 1) := by decide +kernel
theorem dX7_pick_50 : decode cX7_pick 50 = .ok (.aload_n 0, 1) := by decide +kernel
theorem dX7_pick_51 : decode cX7_pick 51 = .ok (.getfield 16, 3) := by decide +kernel
theorem dX7_pick_54 : decode cX7_pick 54 = .ok (.iload_n 2, 1) := by decide +kernel
theorem dX7_pick_55 : decode cX7_pick 55 = .ok (.iaload, 1) := by decide +kernel
theorem dX7_pick_56 : decode cX7_pick 56 = .ok (.iadd, 1) := by decide +kernel
theorem dX7_pick_57 : decode cX7_pick 57 = .ok (.aload_n 0, 1) := by decide +kernel
theorem dX7_pick_58 : decode cX7_pick 58 = .ok (.getfield 13, 3) := by decide +kernel
theorem dX7_pick_61 : decode cX7_pick 61 = .ok (.iload_n 1, 1) := by decide +kernel
theorem dX7_pick_62 : decode cX7_pick 62 = .ok (.iaload, 1) := by decide +kernel
theorem dX7_pick_63 : decode cX7_pick 63 = .ok (.aload_n 0, 1) := by decide +kernel
theorem dX7_pick_64 : decode cX7_pick 64 = .ok (.getfield 16, 3) := by decide +kernel
theorem dX7_pick_67 : decode cX7_pick 67 = .ok (.iload_n 1, 1) := by decide +kernel
theorem dX7_pick_68 : decode cX7_pick 68 = .ok (.iaload, 1) := by decide +kernel
theorem dX7_pick_69 : decode cX7_pick 69 = .ok (.iadd, 1) := by decide +kernel
theorem dX7_pick_70 : decode cX7_pick 70 = .ok (.if_icmp .le 5, 3) := by decide +kernel
theorem dX7_pick_73 : decode cX7_pick 73 = .ok (.iload_n 2, 1) := by decide +kernel
theorem dX7_pick_74 : decode cX7_pick 74 = .ok (.istore_n 1, 1) := by decide +kernel
theorem dX7_pick_75 : decode cX7_pick 75 = .ok (.iinc 2 1, 3) := by decide +kernel
theorem dX7_pick_78 : decode cX7_pick 78 = .ok (.goto (-74), 3) := by decide +kernel
theorem dX7_pick_81 : decode cX7_pick 81 = .ok (.iload_n 1, 1) := by decide +kernel
theorem dX7_pick_82 : decode cX7_pick 82 = .ok (.ireturn, 1) := by decide +kernel
theorem dX7_oneTurn_0 : decode cX7_oneTurn 0 = .ok (.iconst 0, 1) := by decide +kernel
theorem dX7_oneTurn_1 : decode cX7_oneTurn 1 = .ok (.istore_n 1, 1) := by decide +kernel
theorem dX7_oneTurn_2 : decode cX7_oneTurn 2 = .ok (.iload_n 1, 1) := by decide +kernel
theorem dX7_oneTurn_3 : decode cX7_oneTurn 3 = .ok (.aload_n 0, 1) := by decide +kernel
theorem dX7_oneTurn_4 : decode cX7_oneTurn 4 = .ok (.getfield 103, 3) := by decide +kernel
theorem dX7_oneTurn_7 : decode cX7_oneTurn 7 = .ok (.if_icmp .ge 86, 3) := by decide +kernel
theorem dX7_oneTurn_10 : decode cX7_oneTurn 10 = .ok (.aload_n 0, 1) := by decide +kernel
theorem dX7_oneTurn_11 : decode cX7_oneTurn 11 = .ok (.getfield 90, 3) := by decide +kernel
theorem dX7_oneTurn_14 : decode cX7_oneTurn 14 = .ok (.iload_n 1, 1) := by decide +kernel
theorem dX7_oneTurn_15 : decode cX7_oneTurn 15 = .ok (.iconst 0, 1) := by decide +kernel
theorem dX7_oneTurn_16 : decode cX7_oneTurn 16 = .ok (.bastore, 1) := by decide +kernel
theorem dX7_oneTurn_17 : decode cX7_oneTurn 17 = .ok (.aload_n 0, 1) := by decide +kernel
theorem dX7_oneTurn_18 : decode cX7_oneTurn 18 = .ok (.getfield 19, 3) := by decide +kernel
theorem dX7_oneTurn_21 : decode cX7_oneTurn 21 = .ok (.iload_n 1, 1) := by decide +kernel
theorem dX7_oneTurn_22 : decode cX7_oneTurn 22 = .ok (.iaload, 1) := by decide +kernel
theorem dX7_oneTurn_23 : decode cX7_oneTurn 23 = .ok (.iconst 1, 1) := by decide +kernel
theorem dX7_oneTurn_24 : decode cX7_oneTurn 24 = .ok (.if_icmp .ne 18, 3) := by decide +kernel
theorem dX7_oneTurn_27 : decode cX7_oneTurn 27 = .ok (.aload_n 0, 1) := by decide +kernel
theorem dX7_oneTurn_28 : decode cX7_oneTurn 28 = .ok (.getfield 70, 3) := by decide +kernel
theorem dX7_oneTurn_31 : decode cX7_oneTurn 31 = .ok (.iload_n 1, 1) := by decide +kernel
theorem dX7_oneTurn_32 : decode cX7_oneTurn 32 = .ok (.laload, 1) := by decide +kernel
theorem dX7_oneTurn_33 : decode cX7_oneTurn 33 = .ok (.aload_n 0, 1) := by decide +kernel
theorem dX7_oneTurn_34 : decode cX7_oneTurn 34 = .ok (.getfield 100, 3) := by decide +kernel
theorem dX7_oneTurn_37 : decode cX7_oneTurn 37 = .ok (.i2l, 1) := by decide +kernel
theorem dX7_oneTurn_38 : decode cX7_oneTurn 38 = .ok (.lcmp, 1) := by decide +kernel
theorem dX7_oneTurn_39 : decode cX7_oneTurn 39 = .ok (.ifCond .lt 22, 3) := by decide +kernel
theorem dX7_oneTurn_42 : decode cX7_oneTurn 42 = .ok (.aload_n 0, 1) := by decide +kernel
theorem dX7_oneTurn_43 : decode cX7_oneTurn 43 = .ok (.getfield 19, 3) := by decide +kernel
theorem dX7_oneTurn_46 : decode cX7_oneTurn 46 = .ok (.iload_n 1, 1) := by decide +kernel
theorem dX7_oneTurn_47 : decode cX7_oneTurn 47 = .ok (.iaload, 1) := by decide +kernel
theorem dX7_oneTurn_48 : decode cX7_oneTurn 48 = .ok (.iconst 2, 1) := by decide +kernel
theorem dX7_oneTurn_49 : decode cX7_oneTurn 49 = .ok (.if_icmp .ne 16, 3) := by decide +kernel
theorem dX7_oneTurn_52 : decode cX7_oneTurn 52 = .ok (.aload_n 0, 1) := by decide +kernel
theorem dX7_oneTurn_53 : decode cX7_oneTurn 53 = .ok (.getfield 64, 3) := by decide +kernel
theorem dX7_oneTurn_56 : decode cX7_oneTurn 56 = .ok (.iload_n 1, 1) := by decide +kernel
theorem dX7_oneTurn_57 : decode cX7_oneTurn 57 = .ok (.iaload, 1) := by decide +kernel
theorem dX7_oneTurn_58 : decode cX7_oneTurn 58 = .ok (.ifCond .le 7, 3) := by decide +kernel
theorem dX7_oneTurn_61 : decode cX7_oneTurn 61 = .ok (.iconst 1, 1) := by decide +kernel
theorem dX7_oneTurn_62 : decode cX7_oneTurn 62 = .ok (.goto 4, 3) := by decide +kernel
theorem dX7_oneTurn_65 : decode cX7_oneTurn 65 = .ok (.iconst 0, 1) := by decide +kernel
theorem dX7_oneTurn_66 : decode cX7_oneTurn 66 = .ok (.istore_n 2, 1) := by decide +kernel
theorem dX7_oneTurn_67 : decode cX7_oneTurn 67 = .ok (.aload_n 0, 1) := by decide +kernel
theorem dX7_oneTurn_68 : decode cX7_oneTurn 68 = .ok (.getfield 19, 3) := by decide +kernel
theorem dX7_oneTurn_71 : decode cX7_oneTurn 71 = .ok (.iload_n 1, 1) := by decide +kernel
theorem dX7_oneTurn_72 : decode cX7_oneTurn 72 = .ok (.iload_n 2, 1) := by decide +kernel
theorem dX7_oneTurn_73 : decode cX7_oneTurn 73 = .ok (.ifCond .eq 7, 3) := by decide +kernel
theorem dX7_oneTurn_76 : decode cX7_oneTurn 76 = .ok (.iconst 0, 1) := by decide +kernel
theorem dX7_oneTurn_77 : decode cX7_oneTurn 77 = .ok (.goto 9, 3) := by decide +kernel
theorem dX7_oneTurn_80 : decode cX7_oneTurn 80 = .ok (.aload_n 0, 1) := by decide +kernel
theorem dX7_oneTurn_81 : decode cX7_oneTurn 81 = .ok (.getfield 19, 3) := by decide +kernel
theorem dX7_oneTurn_84 : decode cX7_oneTurn 84 = .ok (.iload_n 1, 1) := by decide +kernel
theorem dX7_oneTurn_85 : decode cX7_oneTurn 85 = .ok (.iaload, 1) := by decide +kernel
theorem dX7_oneTurn_86 : decode cX7_oneTurn 86 = .ok (.iastore, 1) := by decide +kernel
theorem dX7_oneTurn_87 : decode cX7_oneTurn 87 = .ok (.iinc 1 1, 3) := by decide +kernel
theorem dX7_oneTurn_90 : decode cX7_oneTurn 90 = .ok (.goto (-88), 3) := by decide +kernel
theorem dX7_oneTurn_93 : decode cX7_oneTurn 93 = .ok (.iconst 0, 1) := by decide +kernel
theorem dX7_oneTurn_94 : decode cX7_oneTurn 94 = .ok (.istore_n 1, 1) := by decide +kernel
theorem dX7_oneTurn_95 : decode cX7_oneTurn 95 = .ok (.iload_n 1, 1) := by decide +kernel
theorem dX7_oneTurn_96 : decode cX7_oneTurn 96 = .ok (.aload_n 0, 1) := by decide +kernel
theorem dX7_oneTurn_97 : decode cX7_oneTurn 97 = .ok (.getfield 96, 3) := by decide +kernel
theorem dX7_oneTurn_100 : decode cX7_oneTurn 100 = .ok (.if_icmp .ge 57, 3) := by decide +kernel
theorem dX7_oneTurn_103 : decode cX7_oneTurn 103 = .ok (.aload_n 0, 1) := by decide +kernel
theorem dX7_oneTurn_104 : decode cX7_oneTurn 104 = .ok (.invokevirtual 175, 3) := by decide +kernel
theorem dX7_oneTurn_107 : decode cX7_oneTurn 107 = .ok (.istore_n 2, 1) := by decide +kernel
theorem dX7_oneTurn_108 : decode cX7_oneTurn 108 = .ok (.iload_n 2, 1) := by decide +kernel
theorem dX7_oneTurn_109 : decode cX7_oneTurn 109 = .ok (.ifCond .lt 42, 3) := by decide +kernel
theorem dX7_oneTurn_112 : decode cX7_oneTurn 112 = .ok (.aload_n 0, 1) := by decide +kernel
theorem dX7_oneTurn_113 : decode cX7_oneTurn 113 = .ok (.getfield 90, 3) := by decide +kernel
theorem dX7_oneTurn_116 : decode cX7_oneTurn 116 = .ok (.iload_n 2, 1) := by decide +kernel
theorem dX7_oneTurn_117 : decode cX7_oneTurn 117 = .ok (.iconst 1, 1) := by decide +kernel
theorem dX7_oneTurn_118 : decode cX7_oneTurn 118 = .ok (.bastore, 1) := by decide +kernel
theorem dX7_oneTurn_119 : decode cX7_oneTurn 119 = .ok (.aload_n 0, 1) := by decide +kernel
theorem dX7_oneTurn_120 : decode cX7_oneTurn 120 = .ok (.getfield 16, 3) := by decide +kernel
theorem dX7_oneTurn_123 : decode cX7_oneTurn 123 = .ok (.iload_n 2, 1) := by decide +kernel
theorem dX7_oneTurn_124 : decode cX7_oneTurn 124 = .ok (.iconst 0, 1) := by decide +kernel
theorem dX7_oneTurn_125 : decode cX7_oneTurn 125 = .ok (.iastore, 1) := by decide +kernel
theorem dX7_oneTurn_126 : decode cX7_oneTurn 126 = .ok (.aload_n 0, 1) := by decide +kernel
theorem dX7_oneTurn_127 : decode cX7_oneTurn 127 = .ok (.getfield 34, 3) := by decide +kernel
theorem dX7_oneTurn_130 : decode cX7_oneTurn 130 = .ok (.iload_n 2, 1) := by decide +kernel
theorem dX7_oneTurn_131 : decode cX7_oneTurn 131 = .ok (.iaload, 1) := by decide +kernel
theorem dX7_oneTurn_132 : decode cX7_oneTurn 132 = .ok (.aload_n 0, 1) := by decide +kernel
theorem dX7_oneTurn_133 : decode cX7_oneTurn 133 = .ok (.getfield 22, 3) := by decide +kernel
theorem dX7_oneTurn_136 : decode cX7_oneTurn 136 = .ok (.iload_n 2, 1) := by decide +kernel
theorem dX7_oneTurn_137 : decode cX7_oneTurn 137 = .ok (.iaload, 1) := by decide +kernel
theorem dX7_oneTurn_138 : decode cX7_oneTurn 138 = .ok (.if_icmp .ge 8, 3) := by decide +kernel
theorem dX7_oneTurn_141 : decode cX7_oneTurn 141 = .ok (.aload_n 0, 1) := by decide +kernel
theorem dX7_oneTurn_142 : decode cX7_oneTurn 142 = .ok (.iload_n 2, 1) := by decide +kernel
theorem dX7_oneTurn_143 : decode cX7_oneTurn 143 = .ok (.invokevirtual 179, 3) := by decide +kernel
theorem dX7_oneTurn_146 : decode cX7_oneTurn 146 = .ok (.aload_n 0, 1) := by decide +kernel
theorem dX7_oneTurn_147 : decode cX7_oneTurn 147 = .ok (.iload_n 2, 1) := by decide +kernel
theorem dX7_oneTurn_148 : decode cX7_oneTurn 148 = .ok (.invokevirtual 181, 3) := by decide +kernel
theorem dX7_oneTurn_151 : decode cX7_oneTurn 151 = .ok (.iinc 1 1, 3) := by decide +kernel
theorem dX7_oneTurn_154 : decode cX7_oneTurn 154 = .ok (.goto (-59), 3) := by decide +kernel
theorem dX7_oneTurn_157 : decode cX7_oneTurn 157 = .ok (.iconst 0, 1) := by decide +kernel
theorem dX7_oneTurn_158 : decode cX7_oneTurn 158 = .ok (.istore_n 1, 1) := by decide +kernel
theorem dX7_oneTurn_159 : decode cX7_oneTurn 159 = .ok (.iload_n 1, 1) := by decide +kernel
theorem dX7_oneTurn_160 : decode cX7_oneTurn 160 = .ok (.aload_n 0, 1) := by decide +kernel
theorem dX7_oneTurn_161 : decode cX7_oneTurn 161 = .ok (.getfield 103, 3) := by decide +kernel
theorem dX7_oneTurn_164 : decode cX7_oneTurn 164 = .ok (.if_icmp .ge 41, 3) := by decide +kernel
theorem dX7_oneTurn_167 : decode cX7_oneTurn 167 = .ok (.aload_n 0, 1) := by decide +kernel
theorem dX7_oneTurn_168 : decode cX7_oneTurn 168 = .ok (.getfield 16, 3) := by decide +kernel
theorem dX7_oneTurn_171 : decode cX7_oneTurn 171 = .ok (.iload_n 1, 1) := by decide +kernel
theorem dX7_oneTurn_172 : decode cX7_oneTurn 172 = .ok (.dup2, 1) := by decide +kernel
theorem dX7_oneTurn_173 : decode cX7_oneTurn 173 = .ok (.iaload, 1) := by decide +kernel
theorem dX7_oneTurn_174 : decode cX7_oneTurn 174 = .ok (.aload_n 0, 1) := by decide +kernel
theorem dX7_oneTurn_175 : decode cX7_oneTurn 175 = .ok (.getfield 19, 3) := by decide +kernel
theorem dX7_oneTurn_178 : decode cX7_oneTurn 178 = .ok (.iload_n 1, 1) := by decide +kernel
theorem dX7_oneTurn_179 : decode cX7_oneTurn 179 = .ok (.iaload, 1) := by decide +kernel
theorem dX7_oneTurn_180 : decode cX7_oneTurn 180 = .ok (.ifCond .ne 16, 3) := by decide +kernel
theorem dX7_oneTurn_183 : decode cX7_oneTurn 183 = .ok (.aload_n 0, 1) := by decide +kernel
theorem dX7_oneTurn_184 : decode cX7_oneTurn 184 = .ok (.getfield 90, 3) := by decide +kernel
theorem dX7_oneTurn_187 : decode cX7_oneTurn 187 = .ok (.iload_n 1, 1) := by decide +kernel
theorem dX7_oneTurn_188 : decode cX7_oneTurn 188 = .ok (.baload, 1) := by decide +kernel
theorem dX7_oneTurn_189 : decode cX7_oneTurn 189 = .ok (.ifCond .ne 7, 3) := by decide +kernel
theorem dX7_oneTurn_192 : decode cX7_oneTurn 192 = .ok (.iconst 1, 1) := by decide +kernel
theorem dX7_oneTurn_193 : decode cX7_oneTurn 193 = .ok (.goto 4, 3) := by decide +kernel
theorem dX7_oneTurn_196 : decode cX7_oneTurn 196 = .ok (.iconst 0, 1) := by decide +kernel
theorem dX7_oneTurn_197 : decode cX7_oneTurn 197 = .ok (.iadd, 1) := by decide +kernel
theorem dX7_oneTurn_198 : decode cX7_oneTurn 198 = .ok (.iastore, 1) := by decide +kernel
theorem dX7_oneTurn_199 : decode cX7_oneTurn 199 = .ok (.iinc 1 1, 3) := by decide +kernel
theorem dX7_oneTurn_202 : decode cX7_oneTurn 202 = .ok (.goto (-43), 3) := by decide +kernel
theorem dX7_oneTurn_205 : decode cX7_oneTurn 205 = .ok (.aload_n 0, 1) := by decide +kernel
theorem dX7_oneTurn_206 : decode cX7_oneTurn 206 = .ok (.dup, 1) := by decide +kernel
theorem dX7_oneTurn_207 : decode cX7_oneTurn 207 = .ok (.getfield 100, 3) := by decide +kernel
theorem dX7_oneTurn_210 : decode cX7_oneTurn 210 = .ok (.iconst 1, 1) := by decide +kernel
theorem dX7_oneTurn_211 : decode cX7_oneTurn 211 = .ok (.iadd, 1) := by decide +kernel
theorem dX7_oneTurn_212 : decode cX7_oneTurn 212 = .ok (.putfield 100, 3) := by decide +kernel
theorem dX7_oneTurn_215 : decode cX7_oneTurn 215 = .ok (.return_, 1) := by decide +kernel
theorem dX7_turn_0 : decode cX7_turn 0 = .ok (.iload_n 1, 1) := by decide +kernel
theorem dX7_turn_1 : decode cX7_turn 1 = .ok (.iconst 1, 1) := by decide +kernel
theorem dX7_turn_2 : decode cX7_turn 2 = .ok (.bipush 50, 2) := by decide +kernel
theorem dX7_turn_4 : decode cX7_turn 4 = .ok (.invokestatic 106, 3) := by decide +kernel
theorem dX7_turn_7 : decode cX7_turn 7 = .ok (.ifCond .ne 5, 3) := by decide +kernel
theorem dX7_turn_10 : decode cX7_turn 10 = .ok (.iconst (-1), 1) := by decide +kernel
theorem dX7_turn_11 : decode cX7_turn 11 = .ok (.ireturn, 1) := by decide +kernel
theorem dX7_turn_12 : decode cX7_turn 12 = .ok (.aload_n 0, 1) := by decide +kernel
theorem dX7_turn_13 : decode cX7_turn 13 = .ok (.getfield 150, 3) := by decide +kernel
theorem dX7_turn_16 : decode cX7_turn 16 = .ok (.istore_n 2, 1) := by decide +kernel
theorem dX7_turn_17 : decode cX7_turn 17 = .ok (.iconst 1, 1) := by decide +kernel
theorem dX7_turn_18 : decode cX7_turn 18 = .ok (.istore_n 3, 1) := by decide +kernel
theorem dX7_turn_19 : decode cX7_turn 19 = .ok (.iconst 0, 1) := by decide +kernel
theorem dX7_turn_20 : decode cX7_turn 20 = .ok (.istore 4, 2) := by decide +kernel
theorem dX7_turn_22 : decode cX7_turn 22 = .ok (.iload 4, 2) := by decide +kernel
theorem dX7_turn_24 : decode cX7_turn 24 = .ok (.iload_n 1, 1) := by decide +kernel
theorem dX7_turn_25 : decode cX7_turn 25 = .ok (.if_icmp .ge 38, 3) := by decide +kernel
theorem dX7_turn_28 : decode cX7_turn 28 = .ok (.iload_n 3, 1) := by decide +kernel
theorem dX7_turn_29 : decode cX7_turn 29 = .ok (.ifCond .eq 34, 3) := by decide +kernel
theorem dX7_turn_32 : decode cX7_turn 32 = .ok (.aload_n 0, 1) := by decide +kernel
theorem dX7_turn_33 : decode cX7_turn 33 = .ok (.getfield 150, 3) := by decide +kernel
theorem dX7_turn_36 : decode cX7_turn 36 = .ok (.istore 5, 2) := by decide +kernel
theorem dX7_turn_38 : decode cX7_turn 38 = .ok (.aload_n 0, 1) := by decide +kernel
theorem dX7_turn_39 : decode cX7_turn 39 = .ok (.invokevirtual 184, 3) := by decide +kernel
theorem dX7_turn_42 : decode cX7_turn 42 = .ok (.aload_n 0, 1) := by decide +kernel
theorem dX7_turn_43 : decode cX7_turn 43 = .ok (.getfield 150, 3) := by decide +kernel
theorem dX7_turn_46 : decode cX7_turn 46 = .ok (.iload 5, 2) := by decide +kernel
theorem dX7_turn_48 : decode cX7_turn 48 = .ok (.if_icmp .le 7, 3) := by decide +kernel
theorem dX7_turn_51 : decode cX7_turn 51 = .ok (.iconst 1, 1) := by decide +kernel
theorem dX7_turn_52 : decode cX7_turn 52 = .ok (.goto 4, 3) := by decide +kernel
theorem dX7_turn_55 : decode cX7_turn 55 = .ok (.iconst 0, 1) := by decide +kernel
theorem dX7_turn_56 : decode cX7_turn 56 = .ok (.istore_n 3, 1) := by decide +kernel
theorem dX7_turn_57 : decode cX7_turn 57 = .ok (.iinc 4 1, 3) := by decide +kernel
theorem dX7_turn_60 : decode cX7_turn 60 = .ok (.goto (-38), 3) := by decide +kernel
theorem dX7_turn_63 : decode cX7_turn 63 = .ok (.aload_n 0, 1) := by decide +kernel
theorem dX7_turn_64 : decode cX7_turn 64 = .ok (.getfield 150, 3) := by decide +kernel
theorem dX7_turn_67 : decode cX7_turn 67 = .ok (.iload_n 2, 1) := by decide +kernel
theorem dX7_turn_68 : decode cX7_turn 68 = .ok (.isub, 1) := by decide +kernel
theorem dX7_turn_69 : decode cX7_turn 69 = .ok (.ireturn, 1) := by decide +kernel
theorem dX7_letter_0 : decode cX7_letter 0 = .ok (.aload_n 0, 1) := by decide +kernel
theorem dX7_letter_1 : decode cX7_letter 1 = .ok (.iload_n 1, 1) := by decide +kernel
theorem dX7_letter_2 : decode cX7_letter 2 = .ok (.invokevirtual 110, 3) := by decide +kernel
theorem dX7_letter_5 : decode cX7_letter 5 = .ok (.ifCond .ne 5, 3) := by decide +kernel
theorem dX7_letter_8 : decode cX7_letter 8 = .ok (.iconst (-1), 1) := by decide +kernel
theorem dX7_letter_9 : decode cX7_letter 9 = .ok (.ireturn, 1) := by decide +kernel
theorem dX7_letter_10 : decode cX7_letter 10 = .ok (.aload_n 0, 1) := by decide +kernel
theorem dX7_letter_11 : decode cX7_letter 11 = .ok (.getfield 19, 3) := by decide +kernel
theorem dX7_letter_14 : decode cX7_letter 14 = .ok (.iload_n 1, 1) := by decide +kernel
theorem dX7_letter_15 : decode cX7_letter 15 = .ok (.iaload, 1) := by decide +kernel
theorem dX7_letter_16 : decode cX7_letter 16 = .ok (.invokestatic 118, 3) := by decide +kernel
theorem dX7_letter_19 : decode cX7_letter 19 = .ok (.ifCond .eq 6, 3) := by decide +kernel
theorem dX7_letter_22 : decode cX7_letter 22 = .ok (.bipush (-2), 2) := by decide +kernel
theorem dX7_letter_24 : decode cX7_letter 24 = .ok (.ireturn, 1) := by decide +kernel
theorem dX7_letter_25 : decode cX7_letter 25 = .ok (.aload_n 0, 1) := by decide +kernel
theorem dX7_letter_26 : decode cX7_letter 26 = .ok (.getfield 64, 3) := by decide +kernel
theorem dX7_letter_29 : decode cX7_letter 29 = .ok (.iload_n 1, 1) := by decide +kernel
theorem dX7_letter_30 : decode cX7_letter 30 = .ok (.iaload, 1) := by decide +kernel
theorem dX7_letter_31 : decode cX7_letter 31 = .ok (.bipush 6, 2) := by decide +kernel
theorem dX7_letter_33 : decode cX7_letter 33 = .ok (.if_icmp .ne 6, 3) := by decide +kernel
theorem dX7_letter_36 : decode cX7_letter 36 = .ok (.bipush (-3), 2) := by decide +kernel
theorem dX7_letter_38 : decode cX7_letter 38 = .ok (.ireturn, 1) := by decide +kernel
theorem dX7_letter_39 : decode cX7_letter 39 = .ok (.aload_n 0, 1) := by decide +kernel
theorem dX7_letter_40 : decode cX7_letter 40 = .ok (.getfield 67, 3) := by decide +kernel
theorem dX7_letter_43 : decode cX7_letter 43 = .ok (.bipush 6, 2) := by decide +kernel
theorem dX7_letter_45 : decode cX7_letter 45 = .ok (.iload_n 1, 1) := by decide +kernel
theorem dX7_letter_46 : decode cX7_letter 46 = .ok (.imul, 1) := by decide +kernel
theorem dX7_letter_47 : decode cX7_letter 47 = .ok (.aload_n 0, 1) := by decide +kernel
theorem dX7_letter_48 : decode cX7_letter 48 = .ok (.getfield 64, 3) := by decide +kernel
theorem dX7_letter_51 : decode cX7_letter 51 = .ok (.iload_n 1, 1) := by decide +kernel
theorem dX7_letter_52 : decode cX7_letter 52 = .ok (.iaload, 1) := by decide +kernel
theorem dX7_letter_53 : decode cX7_letter 53 = .ok (.iadd, 1) := by decide +kernel
theorem dX7_letter_54 : decode cX7_letter 54 = .ok (.iload_n 2, 1) := by decide +kernel
theorem dX7_letter_55 : decode cX7_letter 55 = .ok (.iastore, 1) := by decide +kernel
theorem dX7_letter_56 : decode cX7_letter 56 = .ok (.aload_n 0, 1) := by decide +kernel
theorem dX7_letter_57 : decode cX7_letter 57 = .ok (.getfield 64, 3) := by decide +kernel
theorem dX7_letter_60 : decode cX7_letter 60 = .ok (.iload_n 1, 1) := by decide +kernel
theorem dX7_letter_61 : decode cX7_letter 61 = .ok (.dup2, 1) := by decide +kernel
theorem dX7_letter_62 : decode cX7_letter 62 = .ok (.iaload, 1) := by decide +kernel
theorem dX7_letter_63 : decode cX7_letter 63 = .ok (.iconst 1, 1) := by decide +kernel
theorem dX7_letter_64 : decode cX7_letter 64 = .ok (.iadd, 1) := by decide +kernel
theorem dX7_letter_65 : decode cX7_letter 65 = .ok (.iastore, 1) := by decide +kernel
theorem dX7_letter_66 : decode cX7_letter 66 = .ok (.aload_n 0, 1) := by decide +kernel
theorem dX7_letter_67 : decode cX7_letter 67 = .ok (.getfield 64, 3) := by decide +kernel
theorem dX7_letter_70 : decode cX7_letter 70 = .ok (.iload_n 1, 1) := by decide +kernel
theorem dX7_letter_71 : decode cX7_letter 71 = .ok (.iaload, 1) := by decide +kernel
theorem dX7_letter_72 : decode cX7_letter 72 = .ok (.ireturn, 1) := by decide +kernel
theorem dX7_stop_0 : decode cX7_stop 0 = .ok (.aload_n 0, 1) := by decide +kernel
theorem dX7_stop_1 : decode cX7_stop 1 = .ok (.iload_n 1, 1) := by decide +kernel
theorem dX7_stop_2 : decode cX7_stop 2 = .ok (.invokevirtual 110, 3) := by decide +kernel
theorem dX7_stop_5 : decode cX7_stop 5 = .ok (.ifCond .ne 5, 3) := by decide +kernel
theorem dX7_stop_8 : decode cX7_stop 8 = .ok (.iconst (-1), 1) := by decide +kernel
theorem dX7_stop_9 : decode cX7_stop 9 = .ok (.ireturn, 1) := by decide +kernel
theorem dX7_stop_10 : decode cX7_stop 10 = .ok (.aload_n 0, 1) := by decide +kernel
theorem dX7_stop_11 : decode cX7_stop 11 = .ok (.getfield 19, 3) := by decide +kernel
theorem dX7_stop_14 : decode cX7_stop 14 = .ok (.iload_n 1, 1) := by decide +kernel
theorem dX7_stop_15 : decode cX7_stop 15 = .ok (.iaload, 1) := by decide +kernel
theorem dX7_stop_16 : decode cX7_stop 16 = .ok (.invokestatic 118, 3) := by decide +kernel
theorem dX7_stop_19 : decode cX7_stop 19 = .ok (.ifCond .eq 6, 3) := by decide +kernel
theorem dX7_stop_22 : decode cX7_stop 22 = .ok (.bipush (-2), 2) := by decide +kernel
theorem dX7_stop_24 : decode cX7_stop 24 = .ok (.ireturn, 1) := by decide +kernel
theorem dX7_stop_25 : decode cX7_stop 25 = .ok (.aload_n 0, 1) := by decide +kernel
theorem dX7_stop_26 : decode cX7_stop 26 = .ok (.getfield 19, 3) := by decide +kernel
theorem dX7_stop_29 : decode cX7_stop 29 = .ok (.iload_n 1, 1) := by decide +kernel
theorem dX7_stop_30 : decode cX7_stop 30 = .ok (.iconst 5, 1) := by decide +kernel
theorem dX7_stop_31 : decode cX7_stop 31 = .ok (.iastore, 1) := by decide +kernel
theorem dX7_stop_32 : decode cX7_stop 32 = .ok (.iconst 1, 1) := by decide +kernel
theorem dX7_stop_33 : decode cX7_stop 33 = .ok (.ireturn, 1) := by decide +kernel
theorem dX7_again_0 : decode cX7_again 0 = .ok (.aload_n 0, 1) := by decide +kernel
theorem dX7_again_1 : decode cX7_again 1 = .ok (.iload_n 1, 1) := by decide +kernel
theorem dX7_again_2 : decode cX7_again 2 = .ok (.invokevirtual 110, 3) := by decide +kernel
theorem dX7_again_5 : decode cX7_again 5 = .ok (.ifCond .ne 5, 3) := by decide +kernel
theorem dX7_again_8 : decode cX7_again 8 = .ok (.iconst (-1), 1) := by decide +kernel
theorem dX7_again_9 : decode cX7_again 9 = .ok (.ireturn, 1) := by decide +kernel
theorem dX7_again_10 : decode cX7_again 10 = .ok (.aload_n 0, 1) := by decide +kernel
theorem dX7_again_11 : decode cX7_again 11 = .ok (.getfield 19, 3) := by decide +kernel
theorem dX7_again_14 : decode cX7_again 14 = .ok (.iload_n 1, 1) := by decide +kernel
theorem dX7_again_15 : decode cX7_again 15 = .ok (.iaload, 1) := by decide +kernel
theorem dX7_again_16 : decode cX7_again 16 = .ok (.iconst 4, 1) := by decide +kernel
theorem dX7_again_17 : decode cX7_again 17 = .ok (.if_icmp .eq 16, 3) := by decide +kernel
theorem dX7_again_20 : decode cX7_again 20 = .ok (.aload_n 0, 1) := by decide +kernel
theorem dX7_again_21 : decode cX7_again 21 = .ok (.getfield 19, 3) := by decide +kernel
theorem dX7_again_24 : decode cX7_again 24 = .ok (.iload_n 1, 1) := by decide +kernel
theorem dX7_again_25 : decode cX7_again 25 = .ok (.iaload, 1) := by decide +kernel
theorem dX7_again_26 : decode cX7_again 26 = .ok (.iconst 5, 1) := by decide +kernel
theorem dX7_again_27 : decode cX7_again 27 = .ok (.if_icmp .eq 6, 3) := by decide +kernel
theorem dX7_again_30 : decode cX7_again 30 = .ok (.bipush (-2), 2) := by decide +kernel
theorem dX7_again_32 : decode cX7_again 32 = .ok (.ireturn, 1) := by decide +kernel
theorem dX7_again_33 : decode cX7_again 33 = .ok (.aload_n 0, 1) := by decide +kernel
theorem dX7_again_34 : decode cX7_again 34 = .ok (.getfield 19, 3) := by decide +kernel
theorem dX7_again_37 : decode cX7_again 37 = .ok (.iload_n 1, 1) := by decide +kernel
theorem dX7_again_38 : decode cX7_again 38 = .ok (.iconst 0, 1) := by decide +kernel
theorem dX7_again_39 : decode cX7_again 39 = .ok (.iastore, 1) := by decide +kernel
theorem dX7_again_40 : decode cX7_again 40 = .ok (.aload_n 0, 1) := by decide +kernel
theorem dX7_again_41 : decode cX7_again 41 = .ok (.iload_n 1, 1) := by decide +kernel
theorem dX7_again_42 : decode cX7_again 42 = .ok (.invokevirtual 162, 3) := by decide +kernel
theorem dX7_again_45 : decode cX7_again 45 = .ok (.iconst 1, 1) := by decide +kernel
theorem dX7_again_46 : decode cX7_again 46 = .ok (.ireturn, 1) := by decide +kernel
theorem dX7_of_0 : decode cX7_of 0 = .ok (.aload_n 0, 1) := by decide +kernel
theorem dX7_of_1 : decode cX7_of 1 = .ok (.iload_n 1, 1) := by decide +kernel
theorem dX7_of_2 : decode cX7_of 2 = .ok (.invokevirtual 110, 3) := by decide +kernel
theorem dX7_of_5 : decode cX7_of 5 = .ok (.ifCond .ne 5, 3) := by decide +kernel
theorem dX7_of_8 : decode cX7_of 8 = .ok (.iconst (-1), 1) := by decide +kernel
theorem dX7_of_9 : decode cX7_of 9 = .ok (.ireturn, 1) := by decide +kernel
theorem dX7_of_10 : decode cX7_of 10 = .ok (.iload_n 2, 1) := by decide +kernel
theorem dX7_of_11 : decode cX7_of 11 = .ok (.tableswitch 134 0 10 #[57, 64, 71, 78, 85, 92, 99, 106, 113, 120, 127], 57) := by decide +kernel
theorem dX7_of_68 : decode cX7_of 68 = .ok (.aload_n 0, 1) := by decide +kernel
theorem dX7_of_69 : decode cX7_of 69 = .ok (.getfield 19, 3) := by decide +kernel
theorem dX7_of_72 : decode cX7_of 72 = .ok (.iload_n 1, 1) := by decide +kernel
theorem dX7_of_73 : decode cX7_of 73 = .ok (.iaload, 1) := by decide +kernel
theorem dX7_of_74 : decode cX7_of 74 = .ok (.ireturn, 1) := by decide +kernel
theorem dX7_of_75 : decode cX7_of 75 = .ok (.aload_n 0, 1) := by decide +kernel
theorem dX7_of_76 : decode cX7_of 76 = .ok (.getfield 37, 3) := by decide +kernel
theorem dX7_of_79 : decode cX7_of 79 = .ok (.iload_n 1, 1) := by decide +kernel
theorem dX7_of_80 : decode cX7_of 80 = .ok (.iaload, 1) := by decide +kernel
theorem dX7_of_81 : decode cX7_of 81 = .ok (.ireturn, 1) := by decide +kernel
theorem dX7_of_82 : decode cX7_of 82 = .ok (.aload_n 0, 1) := by decide +kernel
theorem dX7_of_83 : decode cX7_of 83 = .ok (.getfield 34, 3) := by decide +kernel
theorem dX7_of_86 : decode cX7_of 86 = .ok (.iload_n 1, 1) := by decide +kernel
theorem dX7_of_87 : decode cX7_of 87 = .ok (.iaload, 1) := by decide +kernel
theorem dX7_of_88 : decode cX7_of 88 = .ok (.ireturn, 1) := by decide +kernel
theorem dX7_of_89 : decode cX7_of 89 = .ok (.aload_n 0, 1) := by decide +kernel
theorem dX7_of_90 : decode cX7_of 90 = .ok (.getfield 64, 3) := by decide +kernel
theorem dX7_of_93 : decode cX7_of 93 = .ok (.iload_n 1, 1) := by decide +kernel
theorem dX7_of_94 : decode cX7_of 94 = .ok (.iaload, 1) := by decide +kernel
theorem dX7_of_95 : decode cX7_of 95 = .ok (.ireturn, 1) := by decide +kernel
theorem dX7_of_96 : decode cX7_of 96 = .ok (.aload_n 0, 1) := by decide +kernel
theorem dX7_of_97 : decode cX7_of 97 = .ok (.getfield 16, 3) := by decide +kernel
theorem dX7_of_100 : decode cX7_of 100 = .ok (.iload_n 1, 1) := by decide +kernel
theorem dX7_of_101 : decode cX7_of 101 = .ok (.iaload, 1) := by decide +kernel
theorem dX7_of_102 : decode cX7_of 102 = .ok (.ireturn, 1) := by decide +kernel
theorem dX7_of_103 : decode cX7_of 103 = .ok (.aload_n 0, 1) := by decide +kernel
theorem dX7_of_104 : decode cX7_of 104 = .ok (.getfield 74, 3) := by decide +kernel
theorem dX7_of_107 : decode cX7_of 107 = .ok (.iload_n 1, 1) := by decide +kernel
theorem dX7_of_108 : decode cX7_of 108 = .ok (.iaload, 1) := by decide +kernel
theorem dX7_of_109 : decode cX7_of 109 = .ok (.ireturn, 1) := by decide +kernel
theorem dX7_of_110 : decode cX7_of 110 = .ok (.aload_n 0, 1) := by decide +kernel
theorem dX7_of_111 : decode cX7_of 111 = .ok (.getfield 77, 3) := by decide +kernel
theorem dX7_of_114 : decode cX7_of 114 = .ok (.iload_n 1, 1) := by decide +kernel
theorem dX7_of_115 : decode cX7_of 115 = .ok (.iaload, 1) := by decide +kernel
theorem dX7_of_116 : decode cX7_of 116 = .ok (.ireturn, 1) := by decide +kernel
theorem dX7_of_117 : decode cX7_of 117 = .ok (.aload_n 0, 1) := by decide +kernel
theorem dX7_of_118 : decode cX7_of 118 = .ok (.getfield 40, 3) := by decide +kernel
theorem dX7_of_121 : decode cX7_of 121 = .ok (.iload_n 1, 1) := by decide +kernel
theorem dX7_of_122 : decode cX7_of 122 = .ok (.iaload, 1) := by decide +kernel
theorem dX7_of_123 : decode cX7_of 123 = .ok (.ireturn, 1) := by decide +kernel
theorem dX7_of_124 : decode cX7_of 124 = .ok (.aload_n 0, 1) := by decide +kernel
theorem dX7_of_125 : decode cX7_of 125 = .ok (.getfield 58, 3) := by decide +kernel
theorem dX7_of_128 : decode cX7_of 128 = .ok (.iload_n 1, 1) := by decide +kernel
theorem dX7_of_129 : decode cX7_of 129 = .ok (.iaload, 1) := by decide +kernel
theorem dX7_of_130 : decode cX7_of 130 = .ok (.ireturn, 1) := by decide +kernel
theorem dX7_of_131 : decode cX7_of 131 = .ok (.aload_n 0, 1) := by decide +kernel
theorem dX7_of_132 : decode cX7_of 132 = .ok (.getfield 83, 3) := by decide +kernel
theorem dX7_of_135 : decode cX7_of 135 = .ok (.iload_n 1, 1) := by decide +kernel
theorem dX7_of_136 : decode cX7_of 136 = .ok (.iaload, 1) := by decide +kernel
theorem dX7_of_137 : decode cX7_of 137 = .ok (.ireturn, 1) := by decide +kernel
theorem dX7_of_138 : decode cX7_of 138 = .ok (.aload_n 0, 1) := by decide +kernel
theorem dX7_of_139 : decode cX7_of 139 = .ok (.getfield 80, 3) := by decide +kernel
theorem dX7_of_142 : decode cX7_of 142 = .ok (.iload_n 1, 1) := by decide +kernel
theorem dX7_of_143 : decode cX7_of 143 = .ok (.iaload, 1) := by decide +kernel
theorem dX7_of_144 : decode cX7_of 144 = .ok (.ireturn, 1) := by decide +kernel
theorem dX7_of_145 : decode cX7_of 145 = .ok (.iconst (-1), 1) := by decide +kernel
theorem dX7_of_146 : decode cX7_of 146 = .ok (.ireturn, 1) := by decide +kernel
theorem dX7_at_0 : decode cX7_at 0 = .ok (.aload_n 0, 1) := by decide +kernel
theorem dX7_at_1 : decode cX7_at 1 = .ok (.iload_n 1, 1) := by decide +kernel
theorem dX7_at_2 : decode cX7_at 2 = .ok (.invokevirtual 110, 3) := by decide +kernel
theorem dX7_at_5 : decode cX7_at 5 = .ok (.ifCond .ne 5, 3) := by decide +kernel
theorem dX7_at_8 : decode cX7_at 8 = .ok (.iconst (-1), 1) := by decide +kernel
theorem dX7_at_9 : decode cX7_at 9 = .ok (.ireturn, 1) := by decide +kernel
theorem dX7_at_10 : decode cX7_at 10 = .ok (.iload_n 2, 1) := by decide +kernel
theorem dX7_at_11 : decode cX7_at 11 = .ok (.ifCond .eq 38, 3) := by decide +kernel
theorem dX7_at_14 : decode cX7_at 14 = .ok (.aload_n 0, 1) := by decide +kernel
theorem dX7_at_15 : decode cX7_at 15 = .ok (.getfield 58, 3) := by decide +kernel
theorem dX7_at_18 : decode cX7_at 18 = .ok (.iload_n 1, 1) := by decide +kernel
theorem dX7_at_19 : decode cX7_at 19 = .ok (.iaload, 1) := by decide +kernel
theorem dX7_at_20 : decode cX7_at 20 = .ok (.bipush (-4), 2) := by decide +kernel
theorem dX7_at_22 : decode cX7_at 22 = .ok (.if_icmp .eq 12, 3) := by decide +kernel
theorem dX7_at_25 : decode cX7_at 25 = .ok (.iload_n 3, 1) := by decide +kernel
theorem dX7_at_26 : decode cX7_at 26 = .ok (.iconst 0, 1) := by decide +kernel
theorem dX7_at_27 : decode cX7_at 27 = .ok (.iconst 2, 1) := by decide +kernel
theorem dX7_at_28 : decode cX7_at 28 = .ok (.invokestatic 106, 3) := by decide +kernel
theorem dX7_at_31 : decode cX7_at 31 = .ok (.ifCond .ne 7, 3) := by decide +kernel
theorem dX7_at_34 : decode cX7_at 34 = .ok (.iconst (-1), 1) := by decide +kernel
theorem dX7_at_35 : decode cX7_at 35 = .ok (.goto 13, 3) := by decide +kernel
theorem dX7_at_38 : decode cX7_at 38 = .ok (.aload_n 0, 1) := by decide +kernel
theorem dX7_at_39 : decode cX7_at 39 = .ok (.getfield 61, 3) := by decide +kernel
theorem dX7_at_42 : decode cX7_at 42 = .ok (.iconst 3, 1) := by decide +kernel
theorem dX7_at_43 : decode cX7_at 43 = .ok (.iload_n 1, 1) := by decide +kernel
theorem dX7_at_44 : decode cX7_at 44 = .ok (.imul, 1) := by decide +kernel
theorem dX7_at_45 : decode cX7_at 45 = .ok (.iload_n 3, 1) := by decide +kernel
theorem dX7_at_46 : decode cX7_at 46 = .ok (.iadd, 1) := by decide +kernel
theorem dX7_at_47 : decode cX7_at 47 = .ok (.iaload, 1) := by decide +kernel
theorem dX7_at_48 : decode cX7_at 48 = .ok (.ireturn, 1) := by decide +kernel
theorem dX7_at_49 : decode cX7_at 49 = .ok (.iload_n 3, 1) := by decide +kernel
theorem dX7_at_50 : decode cX7_at 50 = .ok (.iconst 0, 1) := by decide +kernel
theorem dX7_at_51 : decode cX7_at 51 = .ok (.aload_n 0, 1) := by decide +kernel
theorem dX7_at_52 : decode cX7_at 52 = .ok (.getfield 40, 3) := by decide +kernel
theorem dX7_at_55 : decode cX7_at 55 = .ok (.iload_n 1, 1) := by decide +kernel
theorem dX7_at_56 : decode cX7_at 56 = .ok (.iaload, 1) := by decide +kernel
theorem dX7_at_57 : decode cX7_at 57 = .ok (.iconst 1, 1) := by decide +kernel
theorem dX7_at_58 : decode cX7_at 58 = .ok (.isub, 1) := by decide +kernel
theorem dX7_at_59 : decode cX7_at 59 = .ok (.invokestatic 106, 3) := by decide +kernel
theorem dX7_at_62 : decode cX7_at 62 = .ok (.ifCond .eq 17, 3) := by decide +kernel
theorem dX7_at_65 : decode cX7_at 65 = .ok (.aload_n 0, 1) := by decide +kernel
theorem dX7_at_66 : decode cX7_at 66 = .ok (.getfield 43, 3) := by decide +kernel
theorem dX7_at_69 : decode cX7_at 69 = .ok (.bipush 100, 2) := by decide +kernel
theorem dX7_at_71 : decode cX7_at 71 = .ok (.iload_n 1, 1) := by decide +kernel
theorem dX7_at_72 : decode cX7_at 72 = .ok (.imul, 1) := by decide +kernel
theorem dX7_at_73 : decode cX7_at 73 = .ok (.iload_n 3, 1) := by decide +kernel
theorem dX7_at_74 : decode cX7_at 74 = .ok (.iadd, 1) := by decide +kernel
theorem dX7_at_75 : decode cX7_at 75 = .ok (.iaload, 1) := by decide +kernel
theorem dX7_at_76 : decode cX7_at 76 = .ok (.goto 4, 3) := by decide +kernel
theorem dX7_at_79 : decode cX7_at 79 = .ok (.iconst (-1), 1) := by decide +kernel
theorem dX7_at_80 : decode cX7_at 80 = .ok (.ireturn, 1) := by decide +kernel
theorem dX7_letterAt_0 : decode cX7_letterAt 0 = .ok (.aload_n 0, 1) := by decide +kernel
theorem dX7_letterAt_1 : decode cX7_letterAt 1 = .ok (.iload_n 1, 1) := by decide +kernel
theorem dX7_letterAt_2 : decode cX7_letterAt 2 = .ok (.invokevirtual 110, 3) := by decide +kernel
theorem dX7_letterAt_5 : decode cX7_letterAt 5 = .ok (.ifCond .eq 33, 3) := by decide +kernel
theorem dX7_letterAt_8 : decode cX7_letterAt 8 = .ok (.iload_n 2, 1) := by decide +kernel
theorem dX7_letterAt_9 : decode cX7_letterAt 9 = .ok (.iconst 0, 1) := by decide +kernel
theorem dX7_letterAt_10 : decode cX7_letterAt 10 = .ok (.aload_n 0, 1) := by decide +kernel
theorem dX7_letterAt_11 : decode cX7_letterAt 11 = .ok (.getfield 64, 3) := by decide +kernel
theorem dX7_letterAt_14 : decode cX7_letterAt 14 = .ok (.iload_n 1, 1) := by decide +kernel
theorem dX7_letterAt_15 : decode cX7_letterAt 15 = .ok (.iaload, 1) := by decide +kernel
theorem dX7_letterAt_16 : decode cX7_letterAt 16 = .ok (.iconst 1, 1) := by decide +kernel
theorem dX7_letterAt_17 : decode cX7_letterAt 17 = .ok (.isub, 1) := by decide +kernel
theorem dX7_letterAt_18 : decode cX7_letterAt 18 = .ok (.invokestatic 106, 3) := by decide +kernel
theorem dX7_letterAt_21 : decode cX7_letterAt 21 = .ok (.ifCond .eq 17, 3) := by decide +kernel
theorem dX7_letterAt_24 : decode cX7_letterAt 24 = .ok (.aload_n 0, 1) := by decide +kernel
theorem dX7_letterAt_25 : decode cX7_letterAt 25 = .ok (.getfield 67, 3) := by decide +kernel
theorem dX7_letterAt_28 : decode cX7_letterAt 28 = .ok (.bipush 6, 2) := by decide +kernel
theorem dX7_letterAt_30 : decode cX7_letterAt 30 = .ok (.iload_n 1, 1) := by decide +kernel
theorem dX7_letterAt_31 : decode cX7_letterAt 31 = .ok (.imul, 1) := by decide +kernel
theorem dX7_letterAt_32 : decode cX7_letterAt 32 = .ok (.iload_n 2, 1) := by decide +kernel
theorem dX7_letterAt_33 : decode cX7_letterAt 33 = .ok (.iadd, 1) := by decide +kernel
theorem dX7_letterAt_34 : decode cX7_letterAt 34 = .ok (.iaload, 1) := by decide +kernel
theorem dX7_letterAt_35 : decode cX7_letterAt 35 = .ok (.goto 4, 3) := by decide +kernel
theorem dX7_letterAt_38 : decode cX7_letterAt 38 = .ok (.iconst (-1), 1) := by decide +kernel
theorem dX7_letterAt_39 : decode cX7_letterAt 39 = .ok (.ireturn, 1) := by decide +kernel
theorem dX7_count_0 : decode cX7_count 0 = .ok (.iconst 0, 1) := by decide +kernel
theorem dX7_count_1 : decode cX7_count 1 = .ok (.istore_n 2, 1) := by decide +kernel
theorem dX7_count_2 : decode cX7_count 2 = .ok (.iconst 0, 1) := by decide +kernel
theorem dX7_count_3 : decode cX7_count 3 = .ok (.istore_n 3, 1) := by decide +kernel
theorem dX7_count_4 : decode cX7_count 4 = .ok (.iload_n 3, 1) := by decide +kernel
theorem dX7_count_5 : decode cX7_count 5 = .ok (.aload_n 0, 1) := by decide +kernel
theorem dX7_count_6 : decode cX7_count 6 = .ok (.getfield 103, 3) := by decide +kernel
theorem dX7_count_9 : decode cX7_count 9 = .ok (.if_icmp .ge 29, 3) := by decide +kernel
theorem dX7_count_12 : decode cX7_count 12 = .ok (.iload_n 2, 1) := by decide +kernel
theorem dX7_count_13 : decode cX7_count 13 = .ok (.aload_n 0, 1) := by decide +kernel
theorem dX7_count_14 : decode cX7_count 14 = .ok (.getfield 19, 3) := by decide +kernel
theorem dX7_count_17 : decode cX7_count 17 = .ok (.iload_n 3, 1) := by decide +kernel
theorem dX7_count_18 : decode cX7_count 18 = .ok (.iaload, 1) := by decide +kernel
theorem dX7_count_19 : decode cX7_count 19 = .ok (.invokestatic 118, 3) := by decide +kernel
theorem dX7_count_22 : decode cX7_count 22 = .ok (.ifCond .eq 7, 3) := by decide +kernel
theorem dX7_count_25 : decode cX7_count 25 = .ok (.iconst 0, 1) := by decide +kernel
theorem dX7_count_26 : decode cX7_count 26 = .ok (.goto 4, 3) := by decide +kernel
theorem dX7_count_29 : decode cX7_count 29 = .ok (.iconst 1, 1) := by decide +kernel
theorem dX7_count_30 : decode cX7_count 30 = .ok (.iadd, 1) := by decide +kernel
theorem dX7_count_31 : decode cX7_count 31 = .ok (.istore_n 2, 1) := by decide +kernel
theorem dX7_count_32 : decode cX7_count 32 = .ok (.iinc 3 1, 3) := by decide +kernel
theorem dX7_count_35 : decode cX7_count 35 = .ok (.goto (-31), 3) := by decide +kernel
theorem dX7_count_38 : decode cX7_count 38 = .ok (.iload_n 1, 1) := by decide +kernel
theorem dX7_count_39 : decode cX7_count 39 = .ok (.tableswitch 73 0 6 #[41, 46, 51, 56, 61, 66, 71], 41) := by decide +kernel
theorem dX7_count_80 : decode cX7_count 80 = .ok (.aload_n 0, 1) := by decide +kernel
theorem dX7_count_81 : decode cX7_count 81 = .ok (.getfield 103, 3) := by decide +kernel
theorem dX7_count_84 : decode cX7_count 84 = .ok (.ireturn, 1) := by decide +kernel
theorem dX7_count_85 : decode cX7_count 85 = .ok (.aload_n 0, 1) := by decide +kernel
theorem dX7_count_86 : decode cX7_count 86 = .ok (.getfield 100, 3) := by decide +kernel
theorem dX7_count_89 : decode cX7_count 89 = .ok (.ireturn, 1) := by decide +kernel
theorem dX7_count_90 : decode cX7_count 90 = .ok (.aload_n 0, 1) := by decide +kernel
theorem dX7_count_91 : decode cX7_count 91 = .ok (.getfield 150, 3) := by decide +kernel
theorem dX7_count_94 : decode cX7_count 94 = .ok (.ireturn, 1) := by decide +kernel
theorem dX7_count_95 : decode cX7_count 95 = .ok (.aload_n 0, 1) := by decide +kernel
theorem dX7_count_96 : decode cX7_count 96 = .ok (.getfield 121, 3) := by decide +kernel
theorem dX7_count_99 : decode cX7_count 99 = .ok (.ireturn, 1) := by decide +kernel
theorem dX7_count_100 : decode cX7_count 100 = .ok (.aload_n 0, 1) := by decide +kernel
theorem dX7_count_101 : decode cX7_count 101 = .ok (.getfield 156, 3) := by decide +kernel
theorem dX7_count_104 : decode cX7_count 104 = .ok (.ireturn, 1) := by decide +kernel
theorem dX7_count_105 : decode cX7_count 105 = .ok (.aload_n 0, 1) := by decide +kernel
theorem dX7_count_106 : decode cX7_count 106 = .ok (.getfield 159, 3) := by decide +kernel
theorem dX7_count_109 : decode cX7_count 109 = .ok (.ireturn, 1) := by decide +kernel
theorem dX7_count_110 : decode cX7_count 110 = .ok (.iload_n 2, 1) := by decide +kernel
theorem dX7_count_111 : decode cX7_count 111 = .ok (.ireturn, 1) := by decide +kernel
theorem dX7_count_112 : decode cX7_count 112 = .ok (.iconst (-1), 1) := by decide +kernel
theorem dX7_count_113 : decode cX7_count 113 = .ok (.ireturn, 1) := by decide +kernel
theorem dX7_done_0 : decode cX7_done 0 = .ok (.iload_n 1, 1) := by decide +kernel
theorem dX7_done_1 : decode cX7_done 1 = .ok (.iconst 0, 1) := by decide +kernel
theorem dX7_done_2 : decode cX7_done 2 = .ok (.aload_n 0, 1) := by decide +kernel
theorem dX7_done_3 : decode cX7_done 3 = .ok (.getfield 172, 3) := by decide +kernel
theorem dX7_done_6 : decode cX7_done 6 = .ok (.iconst 1, 1) := by decide +kernel
theorem dX7_done_7 : decode cX7_done 7 = .ok (.isub, 1) := by decide +kernel
theorem dX7_done_8 : decode cX7_done 8 = .ok (.invokestatic 106, 3) := by decide +kernel
theorem dX7_done_11 : decode cX7_done 11 = .ok (.ifCond .eq 12, 3) := by decide +kernel
theorem dX7_done_14 : decode cX7_done 14 = .ok (.aload_n 0, 1) := by decide +kernel
theorem dX7_done_15 : decode cX7_done 15 = .ok (.getfield 93, 3) := by decide +kernel
theorem dX7_done_18 : decode cX7_done 18 = .ok (.iload_n 1, 1) := by decide +kernel
theorem dX7_done_19 : decode cX7_done 19 = .ok (.iaload, 1) := by decide +kernel
theorem dX7_done_20 : decode cX7_done 20 = .ok (.goto 5, 3) := by decide +kernel
theorem dX7_done_23 : decode cX7_done 23 = .ok (.bipush (-4), 2) := by decide +kernel
theorem dX7_done_25 : decode cX7_done 25 = .ok (.ireturn, 1) := by decide +kernel
