theorem dX6_send_21 : decode cX6_send 21 = .ok (.getfield 112, 3) := by decide +kernel
theorem dX6_send_24 : decode cX6_send 24 = .ok (.iconst 1, 1) := by decide +kernel
theorem dX6_send_25 : decode cX6_send 25 = .ok (.iadd, 1) := by decide +kernel
theorem dX6_send_26 : decode cX6_send 26 = .ok (.putfield 112, 3) := by decide +kernel
theorem dX6_send_29 : decode cX6_send 29 = .ok (.iconst 0, 1) := by decide +kernel
theorem dX6_send_30 : decode cX6_send 30 = .ok (.ireturn, 1) := by decide +kernel
theorem dX6_send_31 : decode cX6_send 31 = .ok (.aload_n 3, 1) := by decide +kernel
theorem dX6_send_32 : decode cX6_send 32 = .ok (.getfield 60, 3) := by decide +kernel
theorem dX6_send_35 : decode cX6_send 35 = .ok (.invokevirtual 64, 3) := by decide +kernel
theorem dX6_send_38 : decode cX6_send 38 = .ok (.ifCond .eq 6, 3) := by decide +kernel
theorem dX6_send_41 : decode cX6_send 41 = .ok (.bipush 7, 2) := by decide +kernel
theorem dX6_send_43 : decode cX6_send 43 = .ok (.ireturn, 1) := by decide +kernel
theorem dX6_send_44 : decode cX6_send 44 = .ok (.aload_n 3, 1) := by decide +kernel
theorem dX6_send_45 : decode cX6_send 45 = .ok (.getfield 60, 3) := by decide +kernel
theorem dX6_send_48 : decode cX6_send 48 = .ok (.iload_n 1, 1) := by decide +kernel
theorem dX6_send_49 : decode cX6_send 49 = .ok (.invokevirtual 69, 3) := by decide +kernel
theorem dX6_send_52 : decode cX6_send 52 = .ok (.iconst 0, 1) := by decide +kernel
theorem dX6_send_53 : decode cX6_send 53 = .ok (.ireturn, 1) := by decide +kernel
theorem dX6_ask_0 : decode cX6_ask 0 = .ok (.aload_n 1, 1) := by decide +kernel
theorem dX6_ask_1 : decode cX6_ask 1 = .ok (.getfield 82, 3) := by decide +kernel
theorem dX6_ask_4 : decode cX6_ask 4 = .ok (.iconst 1, 1) := by decide +kernel
theorem dX6_ask_5 : decode cX6_ask 5 = .ok (.iload_n 2, 1) := by decide +kernel
theorem dX6_ask_6 : decode cX6_ask 6 = .ok (.invokevirtual 239, 3) := by decide +kernel
theorem dX6_ask_9 : decode cX6_ask 9 = .ok (.istore_n 3, 1) := by decide +kernel
theorem dX6_ask_10 : decode cX6_ask 10 = .ok (.iload_n 3, 1) := by decide +kernel
theorem dX6_ask_11 : decode cX6_ask 11 = .ok (.ifCond .eq 5, 3) := by decide +kernel
theorem dX6_ask_14 : decode cX6_ask 14 = .ok (.iload_n 3, 1) := by decide +kernel
theorem dX6_ask_15 : decode cX6_ask 15 = .ok (.ireturn, 1) := by decide +kernel
theorem dX6_ask_16 : decode cX6_ask 16 = .ok (.aload_n 0, 1) := by decide +kernel
theorem dX6_ask_17 : decode cX6_ask 17 = .ok (.aload_n 1, 1) := by decide +kernel
theorem dX6_ask_18 : decode cX6_ask 18 = .ok (.getfield 82, 3) := by decide +kernel
theorem dX6_ask_21 : decode cX6_ask 21 = .ok (.getfield 92, 3) := by decide +kernel
theorem dX6_ask_24 : decode cX6_ask 24 = .ok (.iload_n 2, 1) := by decide +kernel
theorem dX6_ask_25 : decode cX6_ask 25 = .ok (.iaload, 1) := by decide +kernel
theorem dX6_ask_26 : decode cX6_ask 26 = .ok (.invokevirtual 29, 3) := by decide +kernel
theorem dX6_ask_29 : decode cX6_ask 29 = .ok (.astore 4, 2) := by decide +kernel
theorem dX6_ask_31 : decode cX6_ask 31 = .ok (.aload 4, 2) := by decide +kernel
theorem dX6_ask_33 : decode cX6_ask 33 = .ok (.ifnonnull 5, 3) := by decide +kernel
theorem dX6_ask_36 : decode cX6_ask 36 = .ok (.iconst 1, 1) := by decide +kernel
theorem dX6_ask_37 : decode cX6_ask 37 = .ok (.ireturn, 1) := by decide +kernel
theorem dX6_ask_38 : decode cX6_ask 38 = .ok (.aload_n 1, 1) := by decide +kernel
theorem dX6_ask_39 : decode cX6_ask 39 = .ok (.dup, 1) := by decide +kernel
theorem dX6_ask_40 : decode cX6_ask 40 = .ok (.getfield 215, 3) := by decide +kernel
theorem dX6_ask_43 : decode cX6_ask 43 = .ok (.aload 4, 2) := by decide +kernel
theorem dX6_ask_45 : decode cX6_ask 45 = .ok (.getfield 215, 3) := by decide +kernel
theorem dX6_ask_48 : decode cX6_ask 48 = .ok (.iadd, 1) := by decide +kernel
theorem dX6_ask_49 : decode cX6_ask 49 = .ok (.putfield 215, 3) := by decide +kernel
theorem dX6_ask_52 : decode cX6_ask 52 = .ok (.iconst 0, 1) := by decide +kernel
theorem dX6_ask_53 : decode cX6_ask 53 = .ok (.ireturn, 1) := by decide +kernel
theorem dX7_init_0 : decode cX7_init 0 = .ok (.aload_n 0, 1) := by decide +kernel
theorem dX7_init_1 : decode cX7_init 1 = .ok (.invokespecial 1, 3) := by decide +kernel
theorem dX7_init_4 : decode cX7_init 4 = .ok (.aload_n 0, 1) := by decide +kernel
theorem dX7_init_5 : decode cX7_init 5 = .ok (.bipush 12, 2) := by decide +kernel
theorem dX7_init_7 : decode cX7_init 7 = .ok (.newarray .int, 2) := by decide +kernel
theorem dX7_init_9 : decode cX7_init 9 = .ok (.putfield 7, 3) := by decide +kernel
theorem dX7_init_12 : decode cX7_init 12 = .ok (.aload_n 0, 1) := by decide +kernel
theorem dX7_init_13 : decode cX7_init 13 = .ok (.bipush 12, 2) := by decide +kernel
theorem dX7_init_15 : decode cX7_init 15 = .ok (.newarray .int, 2) := by decide +kernel
theorem dX7_init_17 : decode cX7_init 17 = .ok (.putfield 13, 3) := by decide +kernel
theorem dX7_init_20 : decode cX7_init 20 = .ok (.aload_n 0, 1) := by decide +kernel
theorem dX7_init_21 : decode cX7_init 21 = .ok (.bipush 12, 2) := by decide +kernel
theorem dX7_init_23 : decode cX7_init 23 = .ok (.newarray .int, 2) := by decide +kernel
theorem dX7_init_25 : decode cX7_init 25 = .ok (.putfield 16, 3) := by decide +kernel
theorem dX7_init_28 : decode cX7_init 28 = .ok (.aload_n 0, 1) := by decide +kernel
theorem dX7_init_29 : decode cX7_init 29 = .ok (.bipush 12, 2) := by decide +kernel
theorem dX7_init_31 : decode cX7_init 31 = .ok (.newarray .int, 2) := by decide +kernel
theorem dX7_init_33 : decode cX7_init 33 = .ok (.putfield 19, 3) := by decide +kernel
theorem dX7_init_36 : decode cX7_init 36 = .ok (.aload_n 0, 1) := by decide +kernel
theorem dX7_init_37 : decode cX7_init 37 = .ok (.bipush 12, 2) := by decide +kernel
theorem dX7_init_39 : decode cX7_init 39 = .ok (.newarray .int, 2) := by decide +kernel
theorem dX7_init_41 : decode cX7_init 41 = .ok (.putfield 22, 3) := by decide +kernel
theorem dX7_init_44 : decode cX7_init 44 = .ok (.aload_n 0, 1) := by decide +kernel
theorem dX7_init_45 : decode cX7_init 45 = .ok (.sipush 192, 3) := by decide +kernel
theorem dX7_init_48 : decode cX7_init 48 = .ok (.newarray .int, 2) := by decide +kernel
theorem dX7_init_50 : decode cX7_init 50 = .ok (.putfield 25, 3) := by decide +kernel
theorem dX7_init_53 : decode cX7_init 53 = .ok (.aload_n 0, 1) := by decide +kernel
theorem dX7_init_54 : decode cX7_init 54 = .ok (.sipush 192, 3) := by decide +kernel
theorem dX7_init_57 : decode cX7_init 57 = .ok (.newarray .int, 2) := by decide +kernel
theorem dX7_init_59 : decode cX7_init 59 = .ok (.putfield 28, 3) := by decide +kernel
theorem dX7_init_62 : decode cX7_init 62 = .ok (.aload_n 0, 1) := by decide +kernel
theorem dX7_init_63 : decode cX7_init 63 = .ok (.sipush 192, 3) := by decide +kernel
theorem dX7_init_66 : decode cX7_init 66 = .ok (.newarray .int, 2) := by decide +kernel
theorem dX7_init_68 : decode cX7_init 68 = .ok (.putfield 31, 3) := by decide +kernel
theorem dX7_init_71 : decode cX7_init 71 = .ok (.aload_n 0, 1) := by decide +kernel
theorem dX7_init_72 : decode cX7_init 72 = .ok (.bipush 12, 2) := by decide +kernel
theorem dX7_init_74 : decode cX7_init 74 = .ok (.newarray .int, 2) := by decide +kernel
theorem dX7_init_76 : decode cX7_init 76 = .ok (.putfield 34, 3) := by decide +kernel
theorem dX7_init_79 : decode cX7_init 79 = .ok (.aload_n 0, 1) := by decide +kernel
theorem dX7_init_80 : decode cX7_init 80 = .ok (.bipush 12, 2) := by decide +kernel
theorem dX7_init_82 : decode cX7_init 82 = .ok (.newarray .int, 2) := by decide +kernel
theorem dX7_init_84 : decode cX7_init 84 = .ok (.putfield 37, 3) := by decide +kernel
theorem dX7_init_87 : decode cX7_init 87 = .ok (.aload_n 0, 1) := by decide +kernel
theorem dX7_init_88 : decode cX7_init 88 = .ok (.bipush 12, 2) := by decide +kernel
theorem dX7_init_90 : decode cX7_init 90 = .ok (.newarray .int, 2) := by decide +kernel
theorem dX7_init_92 : decode cX7_init 92 = .ok (.putfield 40, 3) := by decide +kernel
theorem dX7_init_95 : decode cX7_init 95 = .ok (.aload_n 0, 1) := by decide +kernel
theorem dX7_init_96 : decode cX7_init 96 = .ok (.sipush 1200, 3) := by decide +kernel
theorem dX7_init_99 : decode cX7_init 99 = .ok (.newarray .int, 2) := by decide +kernel
theorem dX7_init_101 : decode cX7_init 101 = .ok (.putfield 43, 3) := by decide +kernel
theorem dX7_init_104 : decode cX7_init 104 = .ok (.aload_n 0, 1) := by decide +kernel
theorem dX7_init_105 : decode cX7_init 105 = .ok (.bipush 12, 2) := by decide +kernel
theorem dX7_init_107 : decode cX7_init 107 = .ok (.newarray .int, 2) := by decide +kernel
theorem dX7_init_109 : decode cX7_init 109 = .ok (.putfield 46, 3) := by decide +kernel
theorem dX7_init_112 : decode cX7_init 112 = .ok (.aload_n 0, 1) := by decide +kernel
theorem dX7_init_113 : decode cX7_init 113 = .ok (.bipush 12, 2) := by decide +kernel
theorem dX7_init_115 : decode cX7_init 115 = .ok (.newarray .int, 2) := by decide +kernel
theorem dX7_init_117 : decode cX7_init 117 = .ok (.putfield 49, 3) := by decide +kernel
theorem dX7_init_120 : decode cX7_init 120 = .ok (.aload_n 0, 1) := by decide +kernel
theorem dX7_init_121 : decode cX7_init 121 = .ok (.bipush 12, 2) := by decide +kernel
theorem dX7_init_123 : decode cX7_init 123 = .ok (.newarray .int, 2) := by decide +kernel
theorem dX7_init_125 : decode cX7_init 125 = .ok (.putfield 52, 3) := by decide +kernel
theorem dX7_init_128 : decode cX7_init 128 = .ok (.aload_n 0, 1) := by decide +kernel
theorem dX7_init_129 : decode cX7_init 129 = .ok (.sipush 1200, 3) := by decide +kernel
theorem dX7_init_132 : decode cX7_init 132 = .ok (.newarray .int, 2) := by decide +kernel
theorem dX7_init_134 : decode cX7_init 134 = .ok (.putfield 55, 3) := by decide +kernel
theorem dX7_init_137 : decode cX7_init 137 = .ok (.aload_n 0, 1) := by decide +kernel
theorem dX7_init_138 : decode cX7_init 138 = .ok (.bipush 12, 2) := by decide +kernel
theorem dX7_init_140 : decode cX7_init 140 = .ok (.newarray .int, 2) := by decide +kernel
theorem dX7_init_142 : decode cX7_init 142 = .ok (.putfield 58, 3) := by decide +kernel
theorem dX7_init_145 : decode cX7_init 145 = .ok (.aload_n 0, 1) := by decide +kernel
theorem dX7_init_146 : decode cX7_init 146 = .ok (.bipush 36, 2) := by decide +kernel
theorem dX7_init_148 : decode cX7_init 148 = .ok (.newarray .int, 2) := by decide +kernel
theorem dX7_init_150 : decode cX7_init 150 = .ok (.putfield 61, 3) := by decide +kernel
theorem dX7_init_153 : decode cX7_init 153 = .ok (.aload_n 0, 1) := by decide +kernel
theorem dX7_init_154 : decode cX7_init 154 = .ok (.bipush 12, 2) := by decide +kernel
theorem dX7_init_156 : decode cX7_init 156 = .ok (.newarray .int, 2) := by decide +kernel
theorem dX7_init_158 : decode cX7_init 158 = .ok (.putfield 64, 3) := by decide +kernel
theorem dX7_init_161 : decode cX7_init 161 = .ok (.aload_n 0, 1) := by decide +kernel
theorem dX7_init_162 : decode cX7_init 162 = .ok (.bipush 72, 2) := by decide +kernel
theorem dX7_init_164 : decode cX7_init 164 = .ok (.newarray .int, 2) := by decide +kernel
theorem dX7_init_166 : decode cX7_init 166 = .ok (.putfield 67, 3) := by decide +kernel
theorem dX7_init_169 : decode cX7_init 169 = .ok (.aload_n 0, 1) := by decide +kernel
theorem dX7_init_170 : decode cX7_init 170 = .ok (.bipush 12, 2) := by decide +kernel
theorem dX7_init_172 : decode cX7_init 172 = .ok (.newarray .long, 2) := by decide +kernel
theorem dX7_init_174 : decode cX7_init 174 = .ok (.putfield 70, 3) := by decide +kernel
theorem dX7_init_177 : decode cX7_init 177 = .ok (.aload_n 0, 1) := by decide +kernel
theorem dX7_init_178 : decode cX7_init 178 = .ok (.bipush 12, 2) := by decide +kernel
theorem dX7_init_180 : decode cX7_init 180 = .ok (.newarray .int, 2) := by decide +kernel
theorem dX7_init_182 : decode cX7_init 182 = .ok (.putfield 74, 3) := by decide +kernel
theorem dX7_init_185 : decode cX7_init 185 = .ok (.aload_n 0, 1) := by decide +kernel
theorem dX7_init_186 : decode cX7_init 186 = .ok (.bipush 12, 2) := by decide +kernel
theorem dX7_init_188 : decode cX7_init 188 = .ok (.newarray .int, 2) := by decide +kernel
theorem dX7_init_190 : decode cX7_init 190 = .ok (.putfield 77, 3) := by decide +kernel
theorem dX7_init_193 : decode cX7_init 193 = .ok (.aload_n 0, 1) := by decide +kernel
theorem dX7_init_194 : decode cX7_init 194 = .ok (.bipush 12, 2) := by decide +kernel
theorem dX7_init_196 : decode cX7_init 196 = .ok (.newarray .int, 2) := by decide +kernel
theorem dX7_init_198 : decode cX7_init 198 = .ok (.putfield 80, 3) := by decide +kernel
theorem dX7_init_201 : decode cX7_init 201 = .ok (.aload_n 0, 1) := by decide +kernel
theorem dX7_init_202 : decode cX7_init 202 = .ok (.bipush 12, 2) := by decide +kernel
theorem dX7_init_204 : decode cX7_init 204 = .ok (.newarray .int, 2) := by decide +kernel
theorem dX7_init_206 : decode cX7_init 206 = .ok (.putfield 83, 3) := by decide +kernel
theorem dX7_init_209 : decode cX7_init 209 = .ok (.aload_n 0, 1) := by decide +kernel
theorem dX7_init_210 : decode cX7_init 210 = .ok (.bipush 12, 2) := by decide +kernel
theorem dX7_init_212 : decode cX7_init 212 = .ok (.newarray .boolean, 2) := by decide +kernel
theorem dX7_init_214 : decode cX7_init 214 = .ok (.putfield 86, 3) := by decide +kernel
theorem dX7_init_217 : decode cX7_init 217 = .ok (.aload_n 0, 1) := by decide +kernel
theorem dX7_init_218 : decode cX7_init 218 = .ok (.bipush 12, 2) := by decide +kernel
theorem dX7_init_220 : decode cX7_init 220 = .ok (.newarray .boolean, 2) := by decide +kernel
theorem dX7_init_222 : decode cX7_init 222 = .ok (.putfield 90, 3) := by decide +kernel
theorem dX7_init_225 : decode cX7_init 225 = .ok (.aload_n 0, 1) := by decide +kernel
theorem dX7_init_226 : decode cX7_init 226 = .ok (.bipush 12, 2) := by decide +kernel
theorem dX7_init_228 : decode cX7_init 228 = .ok (.newarray .int, 2) := by decide +kernel
theorem dX7_init_230 : decode cX7_init 230 = .ok (.putfield 93, 3) := by decide +kernel
theorem dX7_init_233 : decode cX7_init 233 = .ok (.aload_n 0, 1) := by decide +kernel
theorem dX7_init_234 : decode cX7_init 234 = .ok (.iconst 1, 1) := by decide +kernel
theorem dX7_init_235 : decode cX7_init 235 = .ok (.putfield 96, 3) := by decide +kernel
theorem dX7_init_238 : decode cX7_init 238 = .ok (.aload_n 0, 1) := by decide +kernel
theorem dX7_init_239 : decode cX7_init 239 = .ok (.iconst 0, 1) := by decide +kernel
theorem dX7_init_240 : decode cX7_init 240 = .ok (.putfield 100, 3) := by decide +kernel
theorem dX7_init_243 : decode cX7_init 243 = .ok (.return_, 1) := by decide +kernel
theorem dX7_in_0 : decode cX7_in 0 = .ok (.iload_n 0, 1) := by decide +kernel
theorem dX7_in_1 : decode cX7_in 1 = .ok (.iload_n 1, 1) := by decide +kernel
theorem dX7_in_2 : decode cX7_in 2 = .ok (.if_icmp .lt 12, 3) := by decide +kernel
theorem dX7_in_5 : decode cX7_in 5 = .ok (.iload_n 0, 1) := by decide +kernel
theorem dX7_in_6 : decode cX7_in 6 = .ok (.iload_n 2, 1) := by decide +kernel
theorem dX7_in_7 : decode cX7_in 7 = .ok (.if_icmp .gt 7, 3) := by decide +kernel
theorem dX7_in_10 : decode cX7_in 10 = .ok (.iconst 1, 1) := by decide +kernel
theorem dX7_in_11 : decode cX7_in 11 = .ok (.goto 4, 3) := by decide +kernel
theorem dX7_in_14 : decode cX7_in 14 = .ok (.iconst 0, 1) := by decide +kernel
theorem dX7_in_15 : decode cX7_in 15 = .ok (.ireturn, 1) := by decide +kernel
theorem dX7_isTask_0 : decode cX7_isTask 0 = .ok (.iload_n 1, 1) := by decide +kernel
theorem dX7_isTask_1 : decode cX7_isTask 1 = .ok (.iconst 0, 1) := by decide +kernel
theorem dX7_isTask_2 : decode cX7_isTask 2 = .ok (.aload_n 0, 1) := by decide +kernel
theorem dX7_isTask_3 : decode cX7_isTask 3 = .ok (.getfield 103, 3) := by decide +kernel
theorem dX7_isTask_6 : decode cX7_isTask 6 = .ok (.iconst 1, 1) := by decide +kernel
theorem dX7_isTask_7 : decode cX7_isTask 7 = .ok (.isub, 1) := by decide +kernel
theorem dX7_isTask_8 : decode cX7_isTask 8 = .ok (.invokestatic 106, 3) := by decide +kernel
theorem dX7_isTask_11 : decode cX7_isTask 11 = .ok (.ireturn, 1) := by decide +kernel
theorem dX7_isOver_0 : decode cX7_isOver 0 = .ok (.iload_n 0, 1) := by decide +kernel
theorem dX7_isOver_1 : decode cX7_isOver 1 = .ok (.iconst 2, 1) := by decide +kernel
theorem dX7_isOver_2 : decode cX7_isOver 2 = .ok (.if_icmp .le 7, 3) := by decide +kernel
theorem dX7_isOver_5 : decode cX7_isOver 5 = .ok (.iconst 1, 1) := by decide +kernel
theorem dX7_isOver_6 : decode cX7_isOver 6 = .ok (.goto 4, 3) := by decide +kernel
theorem dX7_isOver_9 : decode cX7_isOver 9 = .ok (.iconst 0, 1) := by decide +kernel
theorem dX7_isOver_10 : decode cX7_isOver 10 = .ok (.ireturn, 1) := by decide +kernel
theorem dX7_task_0 : decode cX7_task 0 = .ok (.iload_n 1, 1) := by decide +kernel
theorem dX7_task_1 : decode cX7_task 1 = .ok (.iconst 0, 1) := by decide +kernel
theorem dX7_task_2 : decode cX7_task 2 = .ok (.iconst 4, 1) := by decide +kernel
theorem dX7_task_3 : decode cX7_task 3 = .ok (.invokestatic 106, 3) := by decide +kernel
theorem dX7_task_6 : decode cX7_task 6 = .ok (.ifCond .eq 13, 3) := by decide +kernel
theorem dX7_task_9 : decode cX7_task 9 = .ok (.iload_n 2, 1) := by decide +kernel
theorem dX7_task_10 : decode cX7_task 10 = .ok (.iconst 0, 1) := by decide +kernel
theorem dX7_task_11 : decode cX7_task 11 = .ok (.bipush 9, 2) := by decide +kernel
theorem dX7_task_13 : decode cX7_task 13 = .ok (.invokestatic 106, 3) := by decide +kernel
theorem dX7_task_16 : decode cX7_task 16 = .ok (.ifCond .ne 5, 3) := by decide +kernel
theorem dX7_task_19 : decode cX7_task 19 = .ok (.iconst (-1), 1) := by decide +kernel
theorem dX7_task_20 : decode cX7_task 20 = .ok (.ireturn, 1) := by decide +kernel
theorem dX7_task_21 : decode cX7_task 21 = .ok (.aload_n 0, 1) := by decide +kernel
theorem dX7_task_22 : decode cX7_task 22 = .ok (.getfield 103, 3) := by decide +kernel
theorem dX7_task_25 : decode cX7_task 25 = .ok (.bipush 12, 2) := by decide +kernel
theorem dX7_task_27 : decode cX7_task 27 = .ok (.if_icmp .ne 6, 3) := by decide +kernel
theorem dX7_task_30 : decode cX7_task 30 = .ok (.bipush (-3), 2) := by decide +kernel
theorem dX7_task_32 : decode cX7_task 32 = .ok (.ireturn, 1) := by decide +kernel
theorem dX7_task_33 : decode cX7_task 33 = .ok (.aload_n 0, 1) := by decide +kernel
theorem dX7_task_34 : decode cX7_task 34 = .ok (.getfield 103, 3) := by decide +kernel
theorem dX7_task_37 : decode cX7_task 37 = .ok (.istore_n 3, 1) := by decide +kernel
theorem dX7_task_38 : decode cX7_task 38 = .ok (.aload_n 0, 1) := by decide +kernel
theorem dX7_task_39 : decode cX7_task 39 = .ok (.getfield 7, 3) := by decide +kernel
theorem dX7_task_42 : decode cX7_task 42 = .ok (.iload_n 3, 1) := by decide +kernel
theorem dX7_task_43 : decode cX7_task 43 = .ok (.iload_n 1, 1) := by decide +kernel
theorem dX7_task_44 : decode cX7_task 44 = .ok (.iastore, 1) := by decide +kernel
theorem dX7_task_45 : decode cX7_task 45 = .ok (.aload_n 0, 1) := by decide +kernel
theorem dX7_task_46 : decode cX7_task 46 = .ok (.getfield 13, 3) := by decide +kernel
theorem dX7_task_49 : decode cX7_task 49 = .ok (.iload_n 3, 1) := by decide +kernel
theorem dX7_task_50 : decode cX7_task 50 = .ok (.iload_n 2, 1) := by decide +kernel
theorem dX7_task_51 : decode cX7_task 51 = .ok (.iastore, 1) := by decide +kernel
theorem dX7_task_52 : decode cX7_task 52 = .ok (.aload_n 0, 1) := by decide +kernel
theorem dX7_task_53 : decode cX7_task 53 = .ok (.getfield 40, 3) := by decide +kernel
theorem dX7_task_56 : decode cX7_task 56 = .ok (.iload_n 3, 1) := by decide +kernel
theorem dX7_task_57 : decode cX7_task 57 = .ok (.bipush (-4), 2) := by decide +kernel
theorem dX7_task_59 : decode cX7_task 59 = .ok (.iastore, 1) := by decide +kernel
theorem dX7_task_60 : decode cX7_task 60 = .ok (.aload_n 0, 1) := by decide +kernel
theorem dX7_task_61 : decode cX7_task 61 = .ok (.getfield 52, 3) := by decide +kernel
theorem dX7_task_64 : decode cX7_task 64 = .ok (.iload_n 3, 1) := by decide +kernel
theorem dX7_task_65 : decode cX7_task 65 = .ok (.bipush (-4), 2) := by decide +kernel
theorem dX7_task_67 : decode cX7_task 67 = .ok (.iastore, 1) := by decide +kernel
theorem dX7_task_68 : decode cX7_task 68 = .ok (.aload_n 0, 1) := by decide +kernel
theorem dX7_task_69 : decode cX7_task 69 = .ok (.getfield 58, 3) := by decide +kernel
theorem dX7_task_72 : decode cX7_task 72 = .ok (.iload_n 3, 1) := by decide +kernel
theorem dX7_task_73 : decode cX7_task 73 = .ok (.bipush (-4), 2) := by decide +kernel
theorem dX7_task_75 : decode cX7_task 75 = .ok (.iastore, 1) := by decide +kernel
theorem dX7_task_76 : decode cX7_task 76 = .ok (.aload_n 0, 1) := by decide +kernel
theorem dX7_task_77 : decode cX7_task 77 = .ok (.getfield 80, 3) := by decide +kernel
theorem dX7_task_80 : decode cX7_task 80 = .ok (.iload_n 3, 1) := by decide +kernel
theorem dX7_task_81 : decode cX7_task 81 = .ok (.bipush (-4), 2) := by decide +kernel
theorem dX7_task_83 : decode cX7_task 83 = .ok (.iastore, 1) := by decide +kernel
theorem dX7_task_84 : decode cX7_task 84 = .ok (.aload_n 0, 1) := by decide +kernel
theorem dX7_task_85 : decode cX7_task 85 = .ok (.dup, 1) := by decide +kernel
theorem dX7_task_86 : decode cX7_task 86 = .ok (.getfield 103, 3) := by decide +kernel
theorem dX7_task_89 : decode cX7_task 89 = .ok (.iconst 1, 1) := by decide +kernel
theorem dX7_task_90 : decode cX7_task 90 = .ok (.iadd, 1) := by decide +kernel
theorem dX7_task_91 : decode cX7_task 91 = .ok (.putfield 103, 3) := by decide +kernel
theorem dX7_task_94 : decode cX7_task 94 = .ok (.iload_n 3, 1) := by decide +kernel
theorem dX7_task_95 : decode cX7_task 95 = .ok (.ireturn, 1) := by decide +kernel
theorem dX7_act_0 : decode cX7_act 0 = .ok (.aload_n 0, 1) := by decide +kernel
theorem dX7_act_1 : decode cX7_act 1 = .ok (.iload_n 1, 1) := by decide +kernel
theorem dX7_act_2 : decode cX7_act 2 = .ok (.invokevirtual 110, 3) := by decide +kernel
theorem dX7_act_5 : decode cX7_act 5 = .ok (.ifCond .eq 24, 3) := by decide +kernel
theorem dX7_act_8 : decode cX7_act 8 = .ok (.iload_n 2, 1) := by decide +kernel
theorem dX7_act_9 : decode cX7_act 9 = .ok (.iconst 0, 1) := by decide +kernel
theorem dX7_act_10 : decode cX7_act 10 = .ok (.bipush 15, 2) := by decide +kernel
theorem dX7_act_12 : decode cX7_act 12 = .ok (.invokestatic 106, 3) := by decide +kernel
theorem dX7_act_15 : decode cX7_act 15 = .ok (.ifCond .eq 14, 3) := by decide +kernel
theorem dX7_act_18 : decode cX7_act 18 = .ok (.iload_n 2, 1) := by decide +kernel
theorem dX7_act_19 : decode cX7_act 19 = .ok (.iconst 2, 1) := by decide +kernel
theorem dX7_act_20 : decode cX7_act 20 = .ok (.if_icmp .ne 11, 3) := by decide +kernel
theorem dX7_act_23 : decode cX7_act 23 = .ok (.iload_n 3, 1) := by decide +kernel
theorem dX7_act_24 : decode cX7_act 24 = .ok (.bipush 40, 2) := by decide +kernel
theorem dX7_act_26 : decode cX7_act 26 = .ok (.if_icmp .le 5, 3) := by decide +kernel
theorem dX7_act_29 : decode cX7_act 29 = .ok (.iconst (-1), 1) := by decide +kernel
theorem dX7_act_30 : decode cX7_act 30 = .ok (.ireturn, 1) := by decide +kernel
theorem dX7_act_31 : decode cX7_act 31 = .ok (.aload_n 0, 1) := by decide +kernel
theorem dX7_act_32 : decode cX7_act 32 = .ok (.getfield 19, 3) := by decide +kernel
theorem dX7_act_35 : decode cX7_act 35 = .ok (.iload_n 1, 1) := by decide +kernel
theorem dX7_act_36 : decode cX7_act 36 = .ok (.iaload, 1) := by decide +kernel
theorem dX7_act_37 : decode cX7_act 37 = .ok (.ifCond .ne 12, 3) := by decide +kernel
theorem dX7_act_40 : decode cX7_act 40 = .ok (.aload_n 0, 1) := by decide +kernel
theorem dX7_act_41 : decode cX7_act 41 = .ok (.getfield 86, 3) := by decide +kernel
theorem dX7_act_44 : decode cX7_act 44 = .ok (.iload_n 1, 1) := by decide +kernel
theorem dX7_act_45 : decode cX7_act 45 = .ok (.baload, 1) := by decide +kernel
theorem dX7_act_46 : decode cX7_act 46 = .ok (.ifCond .eq 6, 3) := by decide +kernel
theorem dX7_act_49 : decode cX7_act 49 = .ok (.bipush (-2), 2) := by decide +kernel
theorem dX7_act_51 : decode cX7_act 51 = .ok (.ireturn, 1) := by decide +kernel
theorem dX7_act_52 : decode cX7_act 52 = .ok (.aload_n 0, 1) := by decide +kernel
theorem dX7_act_53 : decode cX7_act 53 = .ok (.getfield 22, 3) := by decide +kernel
theorem dX7_act_56 : decode cX7_act 56 = .ok (.iload_n 1, 1) := by decide +kernel
theorem dX7_act_57 : decode cX7_act 57 = .ok (.iaload, 1) := by decide +kernel
theorem dX7_act_58 : decode cX7_act 58 = .ok (.bipush 16, 2) := by decide +kernel
theorem dX7_act_60 : decode cX7_act 60 = .ok (.if_icmp .ne 6, 3) := by decide +kernel
theorem dX7_act_63 : decode cX7_act 63 = .ok (.bipush (-3), 2) := by decide +kernel
theorem dX7_act_65 : decode cX7_act 65 = .ok (.ireturn, 1) := by decide +kernel
theorem dX7_act_66 : decode cX7_act 66 = .ok (.bipush 16, 2) := by decide +kernel
theorem dX7_act_68 : decode cX7_act 68 = .ok (.iload_n 1, 1) := by decide +kernel
theorem dX7_act_69 : decode cX7_act 69 = .ok (.imul, 1) := by decide +kernel
theorem dX7_act_70 : decode cX7_act 70 = .ok (.aload_n 0, 1) := by decide +kernel
theorem dX7_act_71 : decode cX7_act 71 = .ok (.getfield 22, 3) := by decide +kernel
theorem dX7_act_74 : decode cX7_act 74 = .ok (.iload_n 1, 1) := by decide +kernel
theorem dX7_act_75 : decode cX7_act 75 = .ok (.iaload, 1) := by decide +kernel
theorem dX7_act_76 : decode cX7_act 76 = .ok (.iadd, 1) := by decide +kernel
theorem dX7_act_77 : decode cX7_act 77 = .ok (.istore 5, 2) := by decide +kernel
theorem dX7_act_79 : decode cX7_act 79 = .ok (.aload_n 0, 1) := by decide +kernel
theorem dX7_act_80 : decode cX7_act 80 = .ok (.getfield 25, 3) := by decide +kernel
theorem dX7_act_83 : decode cX7_act 83 = .ok (.iload 5, 2) := by decide +kernel
theorem dX7_act_85 : decode cX7_act 85 = .ok (.iload_n 2, 1) := by decide +kernel
theorem dX7_act_86 : decode cX7_act 86 = .ok (.iastore, 1) := by decide +kernel
theorem dX7_act_87 : decode cX7_act 87 = .ok (.aload_n 0, 1) := by decide +kernel
theorem dX7_act_88 : decode cX7_act 88 = .ok (.getfield 28, 3) := by decide +kernel
theorem dX7_act_91 : decode cX7_act 91 = .ok (.iload 5, 2) := by decide +kernel
theorem dX7_act_93 : decode cX7_act 93 = .ok (.iload_n 3, 1) := by decide +kernel
theorem dX7_act_94 : decode cX7_act 94 = .ok (.iastore, 1) := by decide +kernel
theorem dX7_act_95 : decode cX7_act 95 = .ok (.aload_n 0, 1) := by decide +kernel
theorem dX7_act_96 : decode cX7_act 96 = .ok (.getfield 31, 3) := by decide +kernel
theorem dX7_act_99 : decode cX7_act 99 = .ok (.iload 5, 2) := by decide +kernel
theorem dX7_act_101 : decode cX7_act 101 = .ok (.iload 4, 2) := by decide +kernel
theorem dX7_act_103 : decode cX7_act 103 = .ok (.iastore, 1) := by decide +kernel
theorem dX7_act_104 : decode cX7_act 104 = .ok (.aload_n 0, 1) := by decide +kernel
theorem dX7_act_105 : decode cX7_act 105 = .ok (.getfield 22, 3) := by decide +kernel
theorem dX7_act_108 : decode cX7_act 108 = .ok (.iload_n 1, 1) := by decide +kernel
theorem dX7_act_109 : decode cX7_act 109 = .ok (.dup2, 1) := by decide +kernel
theorem dX7_act_110 : decode cX7_act 110 = .ok (.iaload, 1) := by decide +kernel
theorem dX7_act_111 : decode cX7_act 111 = .ok (.iconst 1, 1) := by decide +kernel
theorem dX7_act_112 : decode cX7_act 112 = .ok (.iadd, 1) := by decide +kernel
theorem dX7_act_113 : decode cX7_act 113 = .ok (.iastore, 1) := by decide +kernel
theorem dX7_act_114 : decode cX7_act 114 = .ok (.aload_n 0, 1) := by decide +kernel
theorem dX7_act_115 : decode cX7_act 115 = .ok (.getfield 22, 3) := by decide +kernel
theorem dX7_act_118 : decode cX7_act 118 = .ok (.iload_n 1, 1) := by decide +kernel
theorem dX7_act_119 : decode cX7_act 119 = .ok (.iaload, 1) := by decide +kernel
theorem dX7_act_120 : decode cX7_act 120 = .ok (.iconst 1, 1) := by decide +kernel
theorem dX7_act_121 : decode cX7_act 121 = .ok (.isub, 1) := by decide +kernel
theorem dX7_act_122 : decode cX7_act 122 = .ok (.ireturn, 1) := by decide +kernel
theorem dX7_workers_0 : decode cX7_workers 0 = .ok (.iload_n 1, 1) := by decide +kernel
theorem dX7_workers_1 : decode cX7_workers 1 = .ok (.iconst 1, 1) := by decide +kernel
theorem dX7_workers_2 : decode cX7_workers 2 = .ok (.iconst 4, 1) := by decide +kernel
theorem dX7_workers_3 : decode cX7_workers 3 = .ok (.invokestatic 106, 3) := by decide +kernel
theorem dX7_workers_6 : decode cX7_workers 6 = .ok (.ifCond .ne 5, 3) := by decide +kernel
theorem dX7_workers_9 : decode cX7_workers 9 = .ok (.iconst (-1), 1) := by decide +kernel
theorem dX7_workers_10 : decode cX7_workers 10 = .ok (.ireturn, 1) := by decide +kernel
theorem dX7_workers_11 : decode cX7_workers 11 = .ok (.aload_n 0, 1) := by decide +kernel
theorem dX7_workers_12 : decode cX7_workers 12 = .ok (.getfield 96, 3) := by decide +kernel
theorem dX7_workers_15 : decode cX7_workers 15 = .ok (.istore_n 2, 1) := by decide +kernel
theorem dX7_workers_16 : decode cX7_workers 16 = .ok (.aload_n 0, 1) := by decide +kernel
theorem dX7_workers_17 : decode cX7_workers 17 = .ok (.iload_n 1, 1) := by decide +kernel
theorem dX7_workers_18 : decode cX7_workers 18 = .ok (.putfield 96, 3) := by decide +kernel
theorem dX7_workers_21 : decode cX7_workers 21 = .ok (.iload_n 2, 1) := by decide +kernel
theorem dX7_workers_22 : decode cX7_workers 22 = .ok (.ireturn, 1) := by decide +kernel
theorem dX7_rowAct_0 : decode cX7_rowAct 0 = .ok (.iload_n 2, 1) := by decide +kernel
theorem dX7_rowAct_1 : decode cX7_rowAct 1 = .ok (.iconst 2, 1) := by decide +kernel
theorem dX7_rowAct_2 : decode cX7_rowAct 2 = .ok (.if_icmp .ne 46, 3) := by decide +kernel
theorem dX7_rowAct_5 : decode cX7_rowAct 5 = .ok (.iload_n 3, 1) := by decide +kernel
theorem dX7_rowAct_6 : decode cX7_rowAct 6 = .ok (.ifCond .ge 5, 3) := by decide +kernel
theorem dX7_rowAct_9 : decode cX7_rowAct 9 = .ok (.iconst 5, 1) := by decide +kernel
theorem dX7_rowAct_10 : decode cX7_rowAct 10 = .ok (.ireturn, 1) := by decide +kernel
theorem dX7_rowAct_11 : decode cX7_rowAct 11 = .ok (.aload_n 0, 1) := by decide +kernel
theorem dX7_rowAct_12 : decode cX7_rowAct 12 = .ok (.getfield 40, 3) := by decide +kernel
theorem dX7_rowAct_15 : decode cX7_rowAct 15 = .ok (.iload_n 1, 1) := by decide +kernel
theorem dX7_rowAct_16 : decode cX7_rowAct 16 = .ok (.iload_n 3, 1) := by decide +kernel
theorem dX7_rowAct_17 : decode cX7_rowAct 17 = .ok (.iastore, 1) := by decide +kernel
theorem dX7_rowAct_18 : decode cX7_rowAct 18 = .ok (.iconst 0, 1) := by decide +kernel
theorem dX7_rowAct_19 : decode cX7_rowAct 19 = .ok (.istore 4, 2) := by decide +kernel
theorem dX7_rowAct_21 : decode cX7_rowAct 21 = .ok (.iload 4, 2) := by decide +kernel
theorem dX7_rowAct_23 : decode cX7_rowAct 23 = .ok (.iload_n 3, 1) := by decide +kernel
theorem dX7_rowAct_24 : decode cX7_rowAct 24 = .ok (.if_icmp .ge 22, 3) := by decide +kernel
theorem dX7_rowAct_27 : decode cX7_rowAct 27 = .ok (.aload_n 0, 1) := by decide +kernel
theorem dX7_rowAct_28 : decode cX7_rowAct 28 = .ok (.getfield 43, 3) := by decide +kernel
theorem dX7_rowAct_31 : decode cX7_rowAct 31 = .ok (.bipush 100, 2) := by decide +kernel
theorem dX7_rowAct_33 : decode cX7_rowAct 33 = .ok (.iload_n 1, 1) := by decide +kernel
theorem dX7_rowAct_34 : decode cX7_rowAct 34 = .ok (.imul, 1) := by decide +kernel
theorem dX7_rowAct_35 : decode cX7_rowAct 35 = .ok (.iload 4, 2) := by decide +kernel
theorem dX7_rowAct_37 : decode cX7_rowAct 37 = .ok (.iadd, 1) := by decide +kernel
theorem dX7_rowAct_38 : decode cX7_rowAct 38 = .ok (.iconst 0, 1) := by decide +kernel
theorem dX7_rowAct_39 : decode cX7_rowAct 39 = .ok (.iastore, 1) := by decide +kernel
theorem dX7_rowAct_40 : decode cX7_rowAct 40 = .ok (.iinc 4 1, 3) := by decide +kernel
theorem dX7_rowAct_43 : decode cX7_rowAct 43 = .ok (.goto (-22), 3) := by decide +kernel
theorem dX7_rowAct_46 : decode cX7_rowAct 46 = .ok (.iconst 0, 1) := by decide +kernel
theorem dX7_rowAct_47 : decode cX7_rowAct 47 = .ok (.ireturn, 1) := by decide +kernel
theorem dX7_rowAct_48 : decode cX7_rowAct 48 = .ok (.aload_n 0, 1) := by decide +kernel
theorem dX7_rowAct_49 : decode cX7_rowAct 49 = .ok (.getfield 40, 3) := by decide +kernel
theorem dX7_rowAct_52 : decode cX7_rowAct 52 = .ok (.iload_n 1, 1) := by decide +kernel
theorem dX7_rowAct_53 : decode cX7_rowAct 53 = .ok (.iaload, 1) := by decide +kernel
theorem dX7_rowAct_54 : decode cX7_rowAct 54 = .ok (.bipush (-4), 2) := by decide +kernel
theorem dX7_rowAct_56 : decode cX7_rowAct 56 = .ok (.if_icmp .ne 5, 3) := by decide +kernel
theorem dX7_rowAct_59 : decode cX7_rowAct 59 = .ok (.iconst 1, 1) := by decide +kernel
theorem dX7_rowAct_60 : decode cX7_rowAct 60 = .ok (.ireturn, 1) := by decide +kernel
theorem dX7_rowAct_61 : decode cX7_rowAct 61 = .ok (.iload_n 3, 1) := by decide +kernel
theorem dX7_rowAct_62 : decode cX7_rowAct 62 = .ok (.iconst 0, 1) := by decide +kernel
theorem dX7_rowAct_63 : decode cX7_rowAct 63 = .ok (.aload_n 0, 1) := by decide +kernel
theorem dX7_rowAct_64 : decode cX7_rowAct 64 = .ok (.getfield 40, 3) := by decide +kernel
theorem dX7_rowAct_67 : decode cX7_rowAct 67 = .ok (.iload_n 1, 1) := by decide +kernel
theorem dX7_rowAct_68 : decode cX7_rowAct 68 = .ok (.iaload, 1) := by decide +kernel
theorem dX7_rowAct_69 : decode cX7_rowAct 69 = .ok (.iconst 1, 1) := by decide +kernel
theorem dX7_rowAct_70 : decode cX7_rowAct 70 = .ok (.isub, 1) := by decide +kernel
theorem dX7_rowAct_71 : decode cX7_rowAct 71 = .ok (.invokestatic 106, 3) := by decide +kernel
theorem dX7_rowAct_74 : decode cX7_rowAct 74 = .ok (.ifCond .ne 5, 3) := by decide +kernel
theorem dX7_rowAct_77 : decode cX7_rowAct 77 = .ok (.iconst 2, 1) := by decide +kernel
theorem dX7_rowAct_78 : decode cX7_rowAct 78 = .ok (.ireturn, 1) := by decide +kernel
theorem dX7_rowAct_79 : decode cX7_rowAct 79 = .ok (.iload_n 2, 1) := by decide +kernel
theorem dX7_rowAct_80 : decode cX7_rowAct 80 = .ok (.iconst 3, 1) := by decide +kernel
theorem dX7_rowAct_81 : decode cX7_rowAct 81 = .ok (.if_icmp .ne 23, 3) := by decide +kernel
theorem dX7_rowAct_84 : decode cX7_rowAct 84 = .ok (.aload_n 0, 1) := by decide +kernel
theorem dX7_rowAct_85 : decode cX7_rowAct 85 = .ok (.getfield 43, 3) := by decide +kernel
theorem dX7_rowAct_88 : decode cX7_rowAct 88 = .ok (.bipush 100, 2) := by decide +kernel
theorem dX7_rowAct_90 : decode cX7_rowAct 90 = .ok (.iload_n 1, 1) := by decide +kernel
theorem dX7_rowAct_91 : decode cX7_rowAct 91 = .ok (.imul, 1) := by decide +kernel
theorem dX7_rowAct_92 : decode cX7_rowAct 92 = .ok (.iload_n 3, 1) := by decide +kernel
theorem dX7_rowAct_93 : decode cX7_rowAct 93 = .ok (.iadd, 1) := by decide +kernel
theorem dX7_rowAct_94 : decode cX7_rowAct 94 = .ok (.aload_n 0, 1) := by decide +kernel
theorem dX7_rowAct_95 : decode cX7_rowAct 95 = .ok (.getfield 37, 3) := by decide +kernel
theorem dX7_rowAct_98 : decode cX7_rowAct 98 = .ok (.iload_n 1, 1) := by decide +kernel
theorem dX7_rowAct_99 : decode cX7_rowAct 99 = .ok (.iaload, 1) := by decide +kernel
theorem dX7_rowAct_100 : decode cX7_rowAct 100 = .ok (.iastore, 1) := by decide +kernel
theorem dX7_rowAct_101 : decode cX7_rowAct 101 = .ok (.goto 23, 3) := by decide +kernel
theorem dX7_rowAct_104 : decode cX7_rowAct 104 = .ok (.aload_n 0, 1) := by decide +kernel
theorem dX7_rowAct_105 : decode cX7_rowAct 105 = .ok (.getfield 37, 3) := by decide +kernel
theorem dX7_rowAct_108 : decode cX7_rowAct 108 = .ok (.iload_n 1, 1) := by decide +kernel
theorem dX7_rowAct_109 : decode cX7_rowAct 109 = .ok (.dup2, 1) := by decide +kernel
theorem dX7_rowAct_110 : decode cX7_rowAct 110 = .ok (.iaload, 1) := by decide +kernel
theorem dX7_rowAct_111 : decode cX7_rowAct 111 = .ok (.aload_n 0, 1) := by decide +kernel
theorem dX7_rowAct_112 : decode cX7_rowAct 112 = .ok (.getfield 43, 3) := by decide +kernel
theorem dX7_rowAct_115 : decode cX7_rowAct 115 = .ok (.bipush 100, 2) := by decide +kernel
theorem dX7_rowAct_117 : decode cX7_rowAct 117 = .ok (.iload_n 1, 1) := by decide +kernel
theorem dX7_rowAct_118 : decode cX7_rowAct 118 = .ok (.imul, 1) := by decide +kernel
theorem dX7_rowAct_119 : decode cX7_rowAct 119 = .ok (.iload_n 3, 1) := by decide +kernel
theorem dX7_rowAct_120 : decode cX7_rowAct 120 = .ok (.iadd, 1) := by decide +kernel
theorem dX7_rowAct_121 : decode cX7_rowAct 121 = .ok (.iaload, 1) := by decide +kernel
theorem dX7_rowAct_122 : decode cX7_rowAct 122 = .ok (.iadd, 1) := by decide +kernel
theorem dX7_rowAct_123 : decode cX7_rowAct 123 = .ok (.iastore, 1) := by decide +kernel
theorem dX7_rowAct_124 : decode cX7_rowAct 124 = .ok (.iconst 0, 1) := by decide +kernel
theorem dX7_rowAct_125 : decode cX7_rowAct 125 = .ok (.ireturn, 1) := by decide +kernel
theorem dX7_takeAct_0 : decode cX7_takeAct 0 = .ok (.aload_n 0, 1) := by decide +kernel
theorem dX7_takeAct_1 : decode cX7_takeAct 1 = .ok (.getfield 64, 3) := by decide +kernel
theorem dX7_takeAct_4 : decode cX7_takeAct 4 = .ok (.iload_n 1, 1) := by decide +kernel
theorem dX7_takeAct_5 : decode cX7_takeAct 5 = .ok (.iaload, 1) := by decide +kernel
theorem dX7_takeAct_6 : decode cX7_takeAct 6 = .ok (.ifCond .ne 22, 3) := by decide +kernel
theorem dX7_takeAct_9 : decode cX7_takeAct 9 = .ok (.aload_n 0, 1) := by decide +kernel
theorem dX7_takeAct_10 : decode cX7_takeAct 10 = .ok (.getfield 114, 3) := by decide +kernel
theorem dX7_takeAct_13 : decode cX7_takeAct 13 = .ok (.ifCond .eq 6, 3) := by decide +kernel
theorem dX7_takeAct_16 : decode cX7_takeAct 16 = .ok (.bipush 9, 2) := by decide +kernel
theorem dX7_takeAct_18 : decode cX7_takeAct 18 = .ok (.ireturn, 1) := by decide +kernel
theorem dX7_takeAct_19 : decode cX7_takeAct 19 = .ok (.aload_n 0, 1) := by decide +kernel
theorem dX7_takeAct_20 : decode cX7_takeAct 20 = .ok (.getfield 19, 3) := by decide +kernel
theorem dX7_takeAct_23 : decode cX7_takeAct 23 = .ok (.iload_n 1, 1) := by decide +kernel
theorem dX7_takeAct_24 : decode cX7_takeAct 24 = .ok (.iconst 2, 1) := by decide +kernel
theorem dX7_takeAct_25 : decode cX7_takeAct 25 = .ok (.iastore, 1) := by decide +kernel
theorem dX7_takeAct_26 : decode cX7_takeAct 26 = .ok (.iconst 0, 1) := by decide +kernel
theorem dX7_takeAct_27 : decode cX7_takeAct 27 = .ok (.ireturn, 1) := by decide +kernel
theorem dX7_takeAct_28 : decode cX7_takeAct 28 = .ok (.aload_n 0, 1) := by decide +kernel
theorem dX7_takeAct_29 : decode cX7_takeAct 29 = .ok (.getfield 37, 3) := by decide +kernel
theorem dX7_takeAct_32 : decode cX7_takeAct 32 = .ok (.iload_n 1, 1) := by decide +kernel
theorem dX7_takeAct_33 : decode cX7_takeAct 33 = .ok (.dup2, 1) := by decide +kernel
theorem dX7_takeAct_34 : decode cX7_takeAct 34 = .ok (.iaload, 1) := by decide +kernel
theorem dX7_takeAct_35 : decode cX7_takeAct 35 = .ok (.aload_n 0, 1) := by decide +kernel
theorem dX7_takeAct_36 : decode cX7_takeAct 36 = .ok (.getfield 67, 3) := by decide +kernel
theorem dX7_takeAct_39 : decode cX7_takeAct 39 = .ok (.bipush 6, 2) := by decide +kernel
theorem dX7_takeAct_41 : decode cX7_takeAct 41 = .ok (.iload_n 1, 1) := by decide +kernel
theorem dX7_takeAct_42 : decode cX7_takeAct 42 = .ok (.imul, 1) := by decide +kernel
theorem dX7_takeAct_43 : decode cX7_takeAct 43 = .ok (.iaload, 1) := by decide +kernel
theorem dX7_takeAct_44 : decode cX7_takeAct 44 = .ok (.iadd, 1) := by decide +kernel
theorem dX7_takeAct_45 : decode cX7_takeAct 45 = .ok (.iastore, 1) := by decide +kernel
theorem dX7_takeAct_46 : decode cX7_takeAct 46 = .ok (.aload_n 0, 1) := by decide +kernel
theorem dX7_takeAct_47 : decode cX7_takeAct 47 = .ok (.getfield 64, 3) := by decide +kernel
theorem dX7_takeAct_50 : decode cX7_takeAct 50 = .ok (.iload_n 1, 1) := by decide +kernel
theorem dX7_takeAct_51 : decode cX7_takeAct 51 = .ok (.dup2, 1) := by decide +kernel
theorem dX7_takeAct_52 : decode cX7_takeAct 52 = .ok (.iaload, 1) := by decide +kernel
theorem dX7_takeAct_53 : decode cX7_takeAct 53 = .ok (.iconst 1, 1) := by decide +kernel
theorem dX7_takeAct_54 : decode cX7_takeAct 54 = .ok (.isub, 1) := by decide +kernel
theorem dX7_takeAct_55 : decode cX7_takeAct 55 = .ok (.iastore, 1) := by decide +kernel
theorem dX7_takeAct_56 : decode cX7_takeAct 56 = .ok (.iconst 0, 1) := by decide +kernel
theorem dX7_takeAct_57 : decode cX7_takeAct 57 = .ok (.istore_n 2, 1) := by decide +kernel
theorem dX7_takeAct_58 : decode cX7_takeAct 58 = .ok (.iload_n 2, 1) := by decide +kernel
theorem dX7_takeAct_59 : decode cX7_takeAct 59 = .ok (.aload_n 0, 1) := by decide +kernel
theorem dX7_takeAct_60 : decode cX7_takeAct 60 = .ok (.getfield 64, 3) := by decide +kernel
theorem dX7_takeAct_63 : decode cX7_takeAct 63 = .ok (.iload_n 1, 1) := by decide +kernel
theorem dX7_takeAct_64 : decode cX7_takeAct 64 = .ok (.iaload, 1) := by decide +kernel
theorem dX7_takeAct_65 : decode cX7_takeAct 65 = .ok (.if_icmp .ge 33, 3) := by decide +kernel
theorem dX7_takeAct_68 : decode cX7_takeAct 68 = .ok (.aload_n 0, 1) := by decide +kernel
theorem dX7_takeAct_69 : decode cX7_takeAct 69 = .ok (.getfield 67, 3) := by decide +kernel
theorem dX7_takeAct_72 : decode cX7_takeAct 72 = .ok (.bipush 6, 2) := by decide +kernel
theorem dX7_takeAct_74 : decode cX7_takeAct 74 = .ok (.iload_n 1, 1) := by decide +kernel
theorem dX7_takeAct_75 : decode cX7_takeAct 75 = .ok (.imul, 1) := by decide +kernel
theorem dX7_takeAct_76 : decode cX7_takeAct 76 = .ok (.iload_n 2, 1) := by decide +kernel
theorem dX7_takeAct_77 : decode cX7_takeAct 77 = .ok (.iadd, 1) := by decide +kernel
theorem dX7_takeAct_78 : decode cX7_takeAct 78 = .ok (.aload_n 0, 1) := by decide +kernel
theorem dX7_takeAct_79 : decode cX7_takeAct 79 = .ok (.getfield 67, 3) := by decide +kernel
theorem dX7_takeAct_82 : decode cX7_takeAct 82 = .ok (.bipush 6, 2) := by decide +kernel
theorem dX7_takeAct_84 : decode cX7_takeAct 84 = .ok (.iload_n 1, 1) := by decide +kernel
theorem dX7_takeAct_85 : decode cX7_takeAct 85 = .ok (.imul, 1) := by decide +kernel
theorem dX7_takeAct_86 : decode cX7_takeAct 86 = .ok (.iload_n 2, 1) := by decide +kernel
theorem dX7_takeAct_87 : decode cX7_takeAct 87 = .ok (.iadd, 1) := by decide +kernel
theorem dX7_takeAct_88 : decode cX7_takeAct 88 = .ok (.iconst 1, 1) := by decide +kernel
theorem dX7_takeAct_89 : decode cX7_takeAct 89 = .ok (.iadd, 1) := by decide +kernel
theorem dX7_takeAct_90 : decode cX7_takeAct 90 = .ok (.iaload, 1) := by decide +kernel
theorem dX7_takeAct_91 : decode cX7_takeAct 91 = .ok (.iastore, 1) := by decide +kernel
theorem dX7_takeAct_92 : decode cX7_takeAct 92 = .ok (.iinc 2 1, 3) := by decide +kernel
theorem dX7_takeAct_95 : decode cX7_takeAct 95 = .ok (.goto (-37), 3) := by decide +kernel
theorem dX7_takeAct_98 : decode cX7_takeAct 98 = .ok (.iconst 0, 1) := by decide +kernel
theorem dX7_takeAct_99 : decode cX7_takeAct 99 = .ok (.ireturn, 1) := by decide +kernel
theorem dX7_sendAct_0 : decode cX7_sendAct 0 = .ok (.aload_n 0, 1) := by decide +kernel
theorem dX7_sendAct_1 : decode cX7_sendAct 1 = .ok (.iload_n 2, 1) := by decide +kernel
theorem dX7_sendAct_2 : decode cX7_sendAct 2 = .ok (.invokevirtual 110, 3) := by decide +kernel
theorem dX7_sendAct_5 : decode cX7_sendAct 5 = .ok (.ifCond .ne 5, 3) := by decide +kernel
theorem dX7_sendAct_8 : decode cX7_sendAct 8 = .ok (.iconst 2, 1) := by decide +kernel
theorem dX7_sendAct_9 : decode cX7_sendAct 9 = .ok (.ireturn, 1) := by decide +kernel
theorem dX7_sendAct_10 : decode cX7_sendAct 10 = .ok (.aload_n 0, 1) := by decide +kernel
theorem dX7_sendAct_11 : decode cX7_sendAct 11 = .ok (.getfield 19, 3) := by decide +kernel
theorem dX7_sendAct_14 : decode cX7_sendAct 14 = .ok (.iload_n 2, 1) := by decide +kernel
theorem dX7_sendAct_15 : decode cX7_sendAct 15 = .ok (.iaload, 1) := by decide +kernel
theorem dX7_sendAct_16 : decode cX7_sendAct 16 = .ok (.invokestatic 118, 3) := by decide +kernel
theorem dX7_sendAct_19 : decode cX7_sendAct 19 = .ok (.ifCond .eq 15, 3) := by decide +kernel
theorem dX7_sendAct_22 : decode cX7_sendAct 22 = .ok (.aload_n 0, 1) := by decide +kernel
theorem dX7_sendAct_23 : decode cX7_sendAct 23 = .ok (.dup, 1) := by decide +kernel
theorem dX7_sendAct_24 : decode cX7_sendAct 24 = .ok (.getfield 121, 3) := by decide +kernel
theorem dX7_sendAct_27 : decode cX7_sendAct 27 = .ok (.iconst 1, 1) := by decide +kernel
theorem dX7_sendAct_28 : decode cX7_sendAct 28 = .ok (.iadd, 1) := by decide +kernel
theorem dX7_sendAct_29 : decode cX7_sendAct 29 = .ok (.putfield 121, 3) := by decide +kernel
theorem dX7_sendAct_32 : decode cX7_sendAct 32 = .ok (.iconst 0, 1) := by decide +kernel
theorem dX7_sendAct_33 : decode cX7_sendAct 33 = .ok (.ireturn, 1) := by decide +kernel
theorem dX7_sendAct_34 : decode cX7_sendAct 34 = .ok (.aload_n 0, 1) := by decide +kernel
theorem dX7_sendAct_35 : decode cX7_sendAct 35 = .ok (.getfield 64, 3) := by decide +kernel
theorem dX7_sendAct_38 : decode cX7_sendAct 38 = .ok (.iload_n 2, 1) := by decide +kernel
theorem dX7_sendAct_39 : decode cX7_sendAct 39 = .ok (.iaload, 1) := by decide +kernel
theorem dX7_sendAct_40 : decode cX7_sendAct 40 = .ok (.bipush 6, 2) := by decide +kernel
theorem dX7_sendAct_42 : decode cX7_sendAct 42 = .ok (.if_icmp .ne 6, 3) := by decide +kernel
theorem dX7_sendAct_45 : decode cX7_sendAct 45 = .ok (.bipush 7, 2) := by decide +kernel
theorem dX7_sendAct_47 : decode cX7_sendAct 47 = .ok (.ireturn, 1) := by decide +kernel
theorem dX7_sendAct_48 : decode cX7_sendAct 48 = .ok (.aload_n 0, 1) := by decide +kernel
theorem dX7_sendAct_49 : decode cX7_sendAct 49 = .ok (.getfield 67, 3) := by decide +kernel
theorem dX7_sendAct_52 : decode cX7_sendAct 52 = .ok (.bipush 6, 2) := by decide +kernel
theorem dX7_sendAct_54 : decode cX7_sendAct 54 = .ok (.iload_n 2, 1) := by decide +kernel
theorem dX7_sendAct_55 : decode cX7_sendAct 55 = .ok (.imul, 1) := by decide +kernel
theorem dX7_sendAct_56 : decode cX7_sendAct 56 = .ok (.aload_n 0, 1) := by decide +kernel
theorem dX7_sendAct_57 : decode cX7_sendAct 57 = .ok (.getfield 64, 3) := by decide +kernel
theorem dX7_sendAct_60 : decode cX7_sendAct 60 = .ok (.iload_n 2, 1) := by decide +kernel
theorem dX7_sendAct_61 : decode cX7_sendAct 61 = .ok (.iaload, 1) := by decide +kernel
theorem dX7_sendAct_62 : decode cX7_sendAct 62 = .ok (.iadd, 1) := by decide +kernel
theorem dX7_sendAct_63 : decode cX7_sendAct 63 = .ok (.aload_n 0, 1) := by decide +kernel
theorem dX7_sendAct_64 : decode cX7_sendAct 64 = .ok (.getfield 37, 3) := by decide +kernel
theorem dX7_sendAct_67 : decode cX7_sendAct 67 = .ok (.iload_n 1, 1) := by decide +kernel
theorem dX7_sendAct_68 : decode cX7_sendAct 68 = .ok (.iaload, 1) := by decide +kernel
theorem dX7_sendAct_69 : decode cX7_sendAct 69 = .ok (.iload_n 3, 1) := by decide +kernel
theorem dX7_sendAct_70 : decode cX7_sendAct 70 = .ok (.iadd, 1) := by decide +kernel
theorem dX7_sendAct_71 : decode cX7_sendAct 71 = .ok (.iastore, 1) := by decide +kernel
theorem dX7_sendAct_72 : decode cX7_sendAct 72 = .ok (.aload_n 0, 1) := by decide +kernel
theorem dX7_sendAct_73 : decode cX7_sendAct 73 = .ok (.getfield 64, 3) := by decide +kernel
theorem dX7_sendAct_76 : decode cX7_sendAct 76 = .ok (.iload_n 2, 1) := by decide +kernel
theorem dX7_sendAct_77 : decode cX7_sendAct 77 = .ok (.dup2, 1) := by decide +kernel
theorem dX7_sendAct_78 : decode cX7_sendAct 78 = .ok (.iaload, 1) := by decide +kernel
theorem dX7_sendAct_79 : decode cX7_sendAct 79 = .ok (.iconst 1, 1) := by decide +kernel
theorem dX7_sendAct_80 : decode cX7_sendAct 80 = .ok (.iadd, 1) := by decide +kernel
theorem dX7_sendAct_81 : decode cX7_sendAct 81 = .ok (.iastore, 1) := by decide +kernel
theorem dX7_sendAct_82 : decode cX7_sendAct 82 = .ok (.iconst 0, 1) := by decide +kernel
theorem dX7_sendAct_83 : decode cX7_sendAct 83 = .ok (.ireturn, 1) := by decide +kernel
theorem dX7_mark_0 : decode cX7_mark 0 = .ok (.aload_n 0, 1) := by decide +kernel
theorem dX7_mark_1 : decode cX7_mark 1 = .ok (.getfield 46, 3) := by decide +kernel
theorem dX7_mark_4 : decode cX7_mark 4 = .ok (.iload_n 1, 1) := by decide +kernel
theorem dX7_mark_5 : decode cX7_mark 5 = .ok (.aload_n 0, 1) := by decide +kernel
theorem dX7_mark_6 : decode cX7_mark 6 = .ok (.getfield 37, 3) := by decide +kernel
theorem dX7_mark_9 : decode cX7_mark 9 = .ok (.iload_n 1, 1) := by decide +kernel
theorem dX7_mark_10 : decode cX7_mark 10 = .ok (.iaload, 1) := by decide +kernel
theorem dX7_mark_11 : decode cX7_mark 11 = .ok (.iastore, 1) := by decide +kernel
theorem dX7_mark_12 : decode cX7_mark 12 = .ok (.aload_n 0, 1) := by decide +kernel
theorem dX7_mark_13 : decode cX7_mark 13 = .ok (.getfield 49, 3) := by decide +kernel
theorem dX7_mark_16 : decode cX7_mark 16 = .ok (.iload_n 1, 1) := by decide +kernel
theorem dX7_mark_17 : decode cX7_mark 17 = .ok (.aload_n 0, 1) := by decide +kernel
theorem dX7_mark_18 : decode cX7_mark 18 = .ok (.getfield 34, 3) := by decide +kernel
theorem dX7_mark_21 : decode cX7_mark 21 = .ok (.iload_n 1, 1) := by decide +kernel
theorem dX7_mark_22 : decode cX7_mark 22 = .ok (.iaload, 1) := by decide +kernel
theorem dX7_mark_23 : decode cX7_mark 23 = .ok (.iconst 1, 1) := by decide +kernel
theorem dX7_mark_24 : decode cX7_mark 24 = .ok (.iadd, 1) := by decide +kernel
theorem dX7_mark_25 : decode cX7_mark 25 = .ok (.iastore, 1) := by decide +kernel
theorem dX7_mark_26 : decode cX7_mark 26 = .ok (.aload_n 0, 1) := by decide +kernel
theorem dX7_mark_27 : decode cX7_mark 27 = .ok (.getfield 52, 3) := by decide +kernel
theorem dX7_mark_30 : decode cX7_mark 30 = .ok (.iload_n 1, 1) := by decide +kernel
theorem dX7_mark_31 : decode cX7_mark 31 = .ok (.aload_n 0, 1) := by decide +kernel
theorem dX7_mark_32 : decode cX7_mark 32 = .ok (.getfield 40, 3) := by decide +kernel
theorem dX7_mark_35 : decode cX7_mark 35 = .ok (.iload_n 1, 1) := by decide +kernel
theorem dX7_mark_36 : decode cX7_mark 36 = .ok (.iaload, 1) := by decide +kernel
theorem dX7_mark_37 : decode cX7_mark 37 = .ok (.iastore, 1) := by decide +kernel
theorem dX7_mark_38 : decode cX7_mark 38 = .ok (.iconst 0, 1) := by decide +kernel
theorem dX7_mark_39 : decode cX7_mark 39 = .ok (.istore_n 2, 1) := by decide +kernel
theorem dX7_mark_40 : decode cX7_mark 40 = .ok (.iload_n 2, 1) := by decide +kernel
theorem dX7_mark_41 : decode cX7_mark 41 = .ok (.aload_n 0, 1) := by decide +kernel
theorem dX7_mark_42 : decode cX7_mark 42 = .ok (.getfield 40, 3) := by decide +kernel
theorem dX7_mark_45 : decode cX7_mark 45 = .ok (.iload_n 1, 1) := by decide +kernel
theorem dX7_mark_46 : decode cX7_mark 46 = .ok (.iaload, 1) := by decide +kernel
theorem dX7_mark_47 : decode cX7_mark 47 = .ok (.if_icmp .ge 31, 3) := by decide +kernel
theorem dX7_mark_50 : decode cX7_mark 50 = .ok (.aload_n 0, 1) := by decide +kernel
theorem dX7_mark_51 : decode cX7_mark 51 = .ok (.getfield 55, 3) := by decide +kernel
theorem dX7_mark_54 : decode cX7_mark 54 = .ok (.bipush 100, 2) := by decide +kernel
theorem dX7_mark_56 : decode cX7_mark 56 = .ok (.iload_n 1, 1) := by decide +kernel
theorem dX7_mark_57 : decode cX7_mark 57 = .ok (.imul, 1) := by decide +kernel
theorem dX7_mark_58 : decode cX7_mark 58 = .ok (.iload_n 2, 1) := by decide +kernel
theorem dX7_mark_59 : decode cX7_mark 59 = .ok (.iadd, 1) := by decide +kernel
theorem dX7_mark_60 : decode cX7_mark 60 = .ok (.aload_n 0, 1) := by decide +kernel
theorem dX7_mark_61 : decode cX7_mark 61 = .ok (.getfield 43, 3) := by decide +kernel
theorem dX7_mark_64 : decode cX7_mark 64 = .ok (.bipush 100, 2) := by decide +kernel
theorem dX7_mark_66 : decode cX7_mark 66 = .ok (.iload_n 1, 1) := by decide +kernel
theorem dX7_mark_67 : decode cX7_mark 67 = .ok (.imul, 1) := by decide +kernel
theorem dX7_mark_68 : decode cX7_mark 68 = .ok (.iload_n 2, 1) := by decide +kernel
theorem dX7_mark_69 : decode cX7_mark 69 = .ok (.iadd, 1) := by decide +kernel
theorem dX7_mark_70 : decode cX7_mark 70 = .ok (.iaload, 1) := by decide +kernel
theorem dX7_mark_71 : decode cX7_mark 71 = .ok (.iastore, 1) := by decide +kernel
theorem dX7_mark_72 : decode cX7_mark 72 = .ok (.iinc 2 1, 3) := by decide +kernel
theorem dX7_mark_75 : decode cX7_mark 75 = .ok (.goto (-35), 3) := by decide +kernel
theorem dX7_mark_78 : decode cX7_mark 78 = .ok (.return_, 1) := by decide +kernel
theorem dX7_back_0 : decode cX7_back 0 = .ok (.aload_n 0, 1) := by decide +kernel
theorem dX7_back_1 : decode cX7_back 1 = .ok (.getfield 37, 3) := by decide +kernel
theorem dX7_back_4 : decode cX7_back 4 = .ok (.iload_n 1, 1) := by decide +kernel
theorem dX7_back_5 : decode cX7_back 5 = .ok (.aload_n 0, 1) := by decide +kernel
theorem dX7_back_6 : decode cX7_back 6 = .ok (.getfield 46, 3) := by decide +kernel
theorem dX7_back_9 : decode cX7_back 9 = .ok (.iload_n 1, 1) := by decide +kernel
theorem dX7_back_10 : decode cX7_back 10 = .ok (.iaload, 1) := by decide +kernel
theorem dX7_back_11 : decode cX7_back 11 = .ok (.iastore, 1) := by decide +kernel
theorem dX7_back_12 : decode cX7_back 12 = .ok (.aload_n 0, 1) := by decide +kernel
theorem dX7_back_13 : decode cX7_back 13 = .ok (.getfield 34, 3) := by decide +kernel
theorem dX7_back_16 : decode cX7_back 16 = .ok (.iload_n 1, 1) := by decide +kernel
theorem dX7_back_17 : decode cX7_back 17 = .ok (.aload_n 0, 1) := by decide +kernel
theorem dX7_back_18 : decode cX7_back 18 = .ok (.getfield 49, 3) := by decide +kernel
theorem dX7_back_21 : decode cX7_back 21 = .ok (.iload_n 1, 1) := by decide +kernel
theorem dX7_back_22 : decode cX7_back 22 = .ok (.iaload, 1) := by decide +kernel
theorem dX7_back_23 : decode cX7_back 23 = .ok (.iastore, 1) := by decide +kernel
theorem dX7_back_24 : decode cX7_back 24 = .ok (.aload_n 0, 1) := by decide +kernel
theorem dX7_back_25 : decode cX7_back 25 = .ok (.getfield 40, 3) := by decide +kernel
theorem dX7_back_28 : decode cX7_back 28 = .ok (.iload_n 1, 1) := by decide +kernel
theorem dX7_back_29 : decode cX7_back 29 = .ok (.aload_n 0, 1) := by decide +kernel
theorem dX7_back_30 : decode cX7_back 30 = .ok (.getfield 52, 3) := by decide +kernel
theorem dX7_back_33 : decode cX7_back 33 = .ok (.iload_n 1, 1) := by decide +kernel
theorem dX7_back_34 : decode cX7_back 34 = .ok (.iaload, 1) := by decide +kernel
theorem dX7_back_35 : decode cX7_back 35 = .ok (.iastore, 1) := by decide +kernel
theorem dX7_back_36 : decode cX7_back 36 = .ok (.iconst 0, 1) := by decide +kernel
theorem dX7_back_37 : decode cX7_back 37 = .ok (.istore_n 2, 1) := by decide +kernel
theorem dX7_back_38 : decode cX7_back 38 = .ok (.iload_n 2, 1) := by decide +kernel
theorem dX7_back_39 : decode cX7_back 39 = .ok (.aload_n 0, 1) := by decide +kernel
theorem dX7_back_40 : decode cX7_back 40 = .ok (.getfield 40, 3) := by decide +kernel
theorem dX7_back_43 : decode cX7_back 43 = .ok (.iload_n 1, 1) := by decide +kernel
theorem dX7_back_44 : decode cX7_back 44 = .ok (.iaload, 1) := by decide +kernel
theorem dX7_back_45 : decode cX7_back 45 = .ok (.if_icmp .ge 31, 3) := by decide +kernel
theorem dX7_back_48 : decode cX7_back 48 = .ok (.aload_n 0, 1) := by decide +kernel
theorem dX7_back_49 : decode cX7_back 49 = .ok (.getfield 43, 3) := by decide +kernel
theorem dX7_back_52 : decode cX7_back 52 = .ok (.bipush 100, 2) := by decide +kernel
theorem dX7_back_54 : decode cX7_back 54 = .ok (.iload_n 1, 1) := by decide +kernel
theorem dX7_back_55 : decode cX7_back 55 = .ok (.imul, 1) := by decide +kernel
theorem dX7_back_56 : decode cX7_back 56 = .ok (.iload_n 2, 1) := by decide +kernel
theorem dX7_back_57 : decode cX7_back 57 = .ok (.iadd, 1) := by decide +kernel
theorem dX7_back_58 : decode cX7_back 58 = .ok (.aload_n 0, 1) := by decide +kernel
theorem dX7_back_59 : decode cX7_back 59 = .ok (.getfield 55, 3) := by decide +kernel
theorem dX7_back_62 : decode cX7_back 62 = .ok (.bipush 100, 2) := by decide +kernel
theorem dX7_back_64 : decode cX7_back 64 = .ok (.iload_n 1, 1) := by decide +kernel
theorem dX7_back_65 : decode cX7_back 65 = .ok (.imul, 1) := by decide +kernel
theorem dX7_back_66 : decode cX7_back 66 = .ok (.iload_n 2, 1) := by decide +kernel
theorem dX7_back_67 : decode cX7_back 67 = .ok (.iadd, 1) := by decide +kernel
theorem dX7_back_68 : decode cX7_back 68 = .ok (.iaload, 1) := by decide +kernel
theorem dX7_back_69 : decode cX7_back 69 = .ok (.iastore, 1) := by decide +kernel
theorem dX7_back_70 : decode cX7_back 70 = .ok (.iinc 2 1, 3) := by decide +kernel
theorem dX7_back_73 : decode cX7_back 73 = .ok (.goto (-35), 3) := by decide +kernel
theorem dX7_back_76 : decode cX7_back 76 = .ok (.return_, 1) := by decide +kernel
theorem dX7_boxAct_0 : decode cX7_boxAct 0 = .ok (.iload_n 2, 1) := by decide +kernel
theorem dX7_boxAct_1 : decode cX7_boxAct 1 = .ok (.bipush 10, 2) := by decide +kernel
theorem dX7_boxAct_3 : decode cX7_boxAct 3 = .ok (.if_icmp .ne 63, 3) := by decide +kernel
theorem dX7_boxAct_6 : decode cX7_boxAct 6 = .ok (.aload_n 0, 1) := by decide +kernel
theorem dX7_boxAct_7 : decode cX7_boxAct 7 = .ok (.getfield 58, 3) := by decide +kernel
theorem dX7_boxAct_10 : decode cX7_boxAct 10 = .ok (.iload_n 1, 1) := by decide +kernel
theorem dX7_boxAct_11 : decode cX7_boxAct 11 = .ok (.iload_n 3, 1) := by decide +kernel
theorem dX7_boxAct_12 : decode cX7_boxAct 12 = .ok (.ifCond .eq 8, 3) := by decide +kernel
theorem dX7_boxAct_15 : decode cX7_boxAct 15 = .ok (.iload_n 3, 1) := by decide +kernel
theorem dX7_boxAct_16 : decode cX7_boxAct 16 = .ok (.iconst 1, 1) := by decide +kernel
theorem dX7_boxAct_17 : decode cX7_boxAct 17 = .ok (.if_icmp .ne 7, 3) := by decide +kernel
theorem dX7_boxAct_20 : decode cX7_boxAct 20 = .ok (.iload_n 3, 1) := by decide +kernel
theorem dX7_boxAct_21 : decode cX7_boxAct 21 = .ok (.goto 5, 3) := by decide +kernel
theorem dX7_boxAct_24 : decode cX7_boxAct 24 = .ok (.bipush (-4), 2) := by decide +kernel
theorem dX7_boxAct_26 : decode cX7_boxAct 26 = .ok (.iastore, 1) := by decide +kernel
theorem dX7_boxAct_27 : decode cX7_boxAct 27 = .ok (.iconst 0, 1) := by decide +kernel
theorem dX7_boxAct_28 : decode cX7_boxAct 28 = .ok (.istore 5, 2) := by decide +kernel
theorem dX7_boxAct_30 : decode cX7_boxAct 30 = .ok (.iload 5, 2) := by decide +kernel
theorem dX7_boxAct_32 : decode cX7_boxAct 32 = .ok (.iconst 3, 1) := by decide +kernel
theorem dX7_boxAct_33 : decode cX7_boxAct 33 = .ok (.if_icmp .ge 31, 3) := by decide +kernel
theorem dX7_boxAct_36 : decode cX7_boxAct 36 = .ok (.aload_n 0, 1) := by decide +kernel
theorem dX7_boxAct_37 : decode cX7_boxAct 37 = .ok (.getfield 61, 3) := by decide +kernel
theorem dX7_boxAct_40 : decode cX7_boxAct 40 = .ok (.iconst 3, 1) := by decide +kernel
theorem dX7_boxAct_41 : decode cX7_boxAct 41 = .ok (.iload_n 1, 1) := by decide +kernel
theorem dX7_boxAct_42 : decode cX7_boxAct 42 = .ok (.imul, 1) := by decide +kernel
theorem dX7_boxAct_43 : decode cX7_boxAct 43 = .ok (.iload 5, 2) := by decide +kernel
theorem dX7_boxAct_45 : decode cX7_boxAct 45 = .ok (.iadd, 1) := by decide +kernel
theorem dX7_boxAct_46 : decode cX7_boxAct 46 = .ok (.iload_n 3, 1) := by decide +kernel
theorem dX7_boxAct_47 : decode cX7_boxAct 47 = .ok (.iconst 1, 1) := by decide +kernel
theorem dX7_boxAct_48 : decode cX7_boxAct 48 = .ok (.if_icmp .ne 8, 3) := by decide +kernel
theorem dX7_boxAct_51 : decode cX7_boxAct 51 = .ok (.bipush (-4), 2) := by decide +kernel
theorem dX7_boxAct_53 : decode cX7_boxAct 53 = .ok (.goto 4, 3) := by decide +kernel
theorem dX7_boxAct_56 : decode cX7_boxAct 56 = .ok (.iconst 0, 1) := by decide +kernel
theorem dX7_boxAct_57 : decode cX7_boxAct 57 = .ok (.iastore, 1) := by decide +kernel
theorem dX7_boxAct_58 : decode cX7_boxAct 58 = .ok (.iinc 5 1, 3) := by decide +kernel
theorem dX7_boxAct_61 : decode cX7_boxAct 61 = .ok (.goto (-31), 3) := by decide +kernel
theorem dX7_boxAct_64 : decode cX7_boxAct 64 = .ok (.iconst 0, 1) := by decide +kernel
theorem dX7_boxAct_65 : decode cX7_boxAct 65 = .ok (.ireturn, 1) := by decide +kernel
theorem dX7_boxAct_66 : decode cX7_boxAct 66 = .ok (.iload_n 2, 1) := by decide +kernel
theorem dX7_boxAct_67 : decode cX7_boxAct 67 = .ok (.bipush 12, 2) := by decide +kernel
theorem dX7_boxAct_69 : decode cX7_boxAct 69 = .ok (.if_icmp .ne 14, 3) := by decide +kernel
theorem dX7_boxAct_72 : decode cX7_boxAct 72 = .ok (.aload_n 0, 1) := by decide +kernel
theorem dX7_boxAct_73 : decode cX7_boxAct 73 = .ok (.iload 4, 2) := by decide +kernel
theorem dX7_boxAct_75 : decode cX7_boxAct 75 = .ok (.invokevirtual 110, 3) := by decide +kernel
theorem dX7_boxAct_78 : decode cX7_boxAct 78 = .ok (.ifCond .ne 5, 3) := by decide +kernel
theorem dX7_boxAct_81 : decode cX7_boxAct 81 = .ok (.iconst 2, 1) := by decide +kernel
theorem dX7_boxAct_82 : decode cX7_boxAct 82 = .ok (.ireturn, 1) := by decide +kernel
theorem dX7_boxAct_83 : decode cX7_boxAct 83 = .ok (.iload_n 2, 1) := by decide +kernel
theorem dX7_boxAct_84 : decode cX7_boxAct 84 = .ok (.bipush 11, 2) := by decide +kernel
theorem dX7_boxAct_86 : decode cX7_boxAct 86 = .ok (.if_icmp .ne 7, 3) := by decide +kernel
theorem dX7_boxAct_89 : decode cX7_boxAct 89 = .ok (.iconst 0, 1) := by decide +kernel
theorem dX7_boxAct_90 : decode cX7_boxAct 90 = .ok (.goto 4, 3) := by decide +kernel
theorem dX7_boxAct_93 : decode cX7_boxAct 93 = .ok (.iconst 1, 1) := by decide +kernel
theorem dX7_boxAct_94 : decode cX7_boxAct 94 = .ok (.istore 5, 2) := by decide +kernel
theorem dX7_boxAct_96 : decode cX7_boxAct 96 = .ok (.aload_n 0, 1) := by decide +kernel
theorem dX7_boxAct_97 : decode cX7_boxAct 97 = .ok (.getfield 58, 3) := by decide +kernel
theorem dX7_boxAct_100 : decode cX7_boxAct 100 = .ok (.iload_n 1, 1) := by decide +kernel
theorem dX7_boxAct_101 : decode cX7_boxAct 101 = .ok (.iaload, 1) := by decide +kernel
theorem dX7_boxAct_102 : decode cX7_boxAct 102 = .ok (.iconst 1, 1) := by decide +kernel
theorem dX7_boxAct_103 : decode cX7_boxAct 103 = .ok (.iload 5, 2) := by decide +kernel
theorem dX7_boxAct_105 : decode cX7_boxAct 105 = .ok (.isub, 1) := by decide +kernel
theorem dX7_boxAct_106 : decode cX7_boxAct 106 = .ok (.if_icmp .ne 5, 3) := by decide +kernel
theorem dX7_boxAct_109 : decode cX7_boxAct 109 = .ok (.iconst 4, 1) := by decide +kernel
theorem dX7_boxAct_110 : decode cX7_boxAct 110 = .ok (.ireturn, 1) := by decide +kernel
theorem dX7_boxAct_111 : decode cX7_boxAct 111 = .ok (.aload_n 0, 1) := by decide +kernel
theorem dX7_boxAct_112 : decode cX7_boxAct 112 = .ok (.getfield 58, 3) := by decide +kernel
theorem dX7_boxAct_115 : decode cX7_boxAct 115 = .ok (.iload_n 1, 1) := by decide +kernel
theorem dX7_boxAct_116 : decode cX7_boxAct 116 = .ok (.iaload, 1) := by decide +kernel
theorem dX7_boxAct_117 : decode cX7_boxAct 117 = .ok (.bipush (-4), 2) := by decide +kernel
theorem dX7_boxAct_119 : decode cX7_boxAct 119 = .ok (.if_icmp .ne 5, 3) := by decide +kernel
theorem dX7_boxAct_122 : decode cX7_boxAct 122 = .ok (.iconst 1, 1) := by decide +kernel
theorem dX7_boxAct_123 : decode cX7_boxAct 123 = .ok (.ireturn, 1) := by decide +kernel
theorem dX7_boxAct_124 : decode cX7_boxAct 124 = .ok (.iload_n 3, 1) := by decide +kernel
theorem dX7_boxAct_125 : decode cX7_boxAct 125 = .ok (.iconst 0, 1) := by decide +kernel
theorem dX7_boxAct_126 : decode cX7_boxAct 126 = .ok (.iconst 2, 1) := by decide +kernel
theorem dX7_boxAct_127 : decode cX7_boxAct 127 = .ok (.invokestatic 106, 3) := by decide +kernel
theorem dX7_boxAct_130 : decode cX7_boxAct 130 = .ok (.ifCond .ne 5, 3) := by decide +kernel
theorem dX7_boxAct_133 : decode cX7_boxAct 133 = .ok (.iconst 2, 1) := by decide +kernel
theorem dX7_boxAct_134 : decode cX7_boxAct 134 = .ok (.ireturn, 1) := by decide +kernel
theorem dX7_boxAct_135 : decode cX7_boxAct 135 = .ok (.iload_n 2, 1) := by decide +kernel
theorem dX7_boxAct_136 : decode cX7_boxAct 136 = .ok (.bipush 12, 2) := by decide +kernel
theorem dX7_boxAct_138 : decode cX7_boxAct 138 = .ok (.if_icmp .ne 18, 3) := by decide +kernel
theorem dX7_boxAct_141 : decode cX7_boxAct 141 = .ok (.aload_n 0, 1) := by decide +kernel
theorem dX7_boxAct_142 : decode cX7_boxAct 142 = .ok (.getfield 61, 3) := by decide +kernel
theorem dX7_boxAct_145 : decode cX7_boxAct 145 = .ok (.iconst 3, 1) := by decide +kernel
theorem dX7_boxAct_146 : decode cX7_boxAct 146 = .ok (.iload_n 1, 1) := by decide +kernel
theorem dX7_boxAct_147 : decode cX7_boxAct 147 = .ok (.imul, 1) := by decide +kernel
theorem dX7_boxAct_148 : decode cX7_boxAct 148 = .ok (.iload_n 3, 1) := by decide +kernel
theorem dX7_boxAct_149 : decode cX7_boxAct 149 = .ok (.iadd, 1) := by decide +kernel
theorem dX7_boxAct_150 : decode cX7_boxAct 150 = .ok (.iload 4, 2) := by decide +kernel
theorem dX7_boxAct_152 : decode cX7_boxAct 152 = .ok (.iastore, 1) := by decide +kernel
theorem dX7_boxAct_153 : decode cX7_boxAct 153 = .ok (.goto 65, 3) := by decide +kernel
theorem dX7_boxAct_156 : decode cX7_boxAct 156 = .ok (.iload_n 2, 1) := by decide +kernel
theorem dX7_boxAct_157 : decode cX7_boxAct 157 = .ok (.bipush 11, 2) := by decide +kernel
theorem dX7_boxAct_159 : decode cX7_boxAct 159 = .ok (.if_icmp .ne 22, 3) := by decide +kernel
theorem dX7_boxAct_162 : decode cX7_boxAct 162 = .ok (.aload_n 0, 1) := by decide +kernel
theorem dX7_boxAct_163 : decode cX7_boxAct 163 = .ok (.getfield 61, 3) := by decide +kernel
theorem dX7_boxAct_166 : decode cX7_boxAct 166 = .ok (.iconst 3, 1) := by decide +kernel
theorem dX7_boxAct_167 : decode cX7_boxAct 167 = .ok (.iload_n 1, 1) := by decide +kernel
theorem dX7_boxAct_168 : decode cX7_boxAct 168 = .ok (.imul, 1) := by decide +kernel
theorem dX7_boxAct_169 : decode cX7_boxAct 169 = .ok (.iload_n 3, 1) := by decide +kernel
theorem dX7_boxAct_170 : decode cX7_boxAct 170 = .ok (.iadd, 1) := by decide +kernel
theorem dX7_boxAct_171 : decode cX7_boxAct 171 = .ok (.aload_n 0, 1) := by decide +kernel
theorem dX7_boxAct_172 : decode cX7_boxAct 172 = .ok (.getfield 37, 3) := by decide +kernel
theorem dX7_boxAct_175 : decode cX7_boxAct 175 = .ok (.iload_n 1, 1) := by decide +kernel
theorem dX7_boxAct_176 : decode cX7_boxAct 176 = .ok (.iaload, 1) := by decide +kernel
theorem dX7_boxAct_177 : decode cX7_boxAct 177 = .ok (.iastore, 1) := by decide +kernel
theorem dX7_boxAct_178 : decode cX7_boxAct 178 = .ok (.goto 40, 3) := by decide +kernel
theorem dX7_boxAct_181 : decode cX7_boxAct 181 = .ok (.aload_n 0, 1) := by decide +kernel
theorem dX7_boxAct_182 : decode cX7_boxAct 182 = .ok (.getfield 61, 3) := by decide +kernel
theorem dX7_boxAct_185 : decode cX7_boxAct 185 = .ok (.iconst 3, 1) := by decide +kernel
theorem dX7_boxAct_186 : decode cX7_boxAct 186 = .ok (.iload_n 1, 1) := by decide +kernel
theorem dX7_boxAct_187 : decode cX7_boxAct 187 = .ok (.imul, 1) := by decide +kernel
theorem dX7_boxAct_188 : decode cX7_boxAct 188 = .ok (.iload_n 3, 1) := by decide +kernel
theorem dX7_boxAct_189 : decode cX7_boxAct 189 = .ok (.iadd, 1) := by decide +kernel
theorem dX7_boxAct_190 : decode cX7_boxAct 190 = .ok (.iaload, 1) := by decide +kernel
theorem dX7_boxAct_191 : decode cX7_boxAct 191 = .ok (.istore 6, 2) := by decide +kernel
theorem dX7_boxAct_193 : decode cX7_boxAct 193 = .ok (.iload 6, 2) := by decide +kernel
theorem dX7_boxAct_195 : decode cX7_boxAct 195 = .ok (.bipush (-4), 2) := by decide +kernel
theorem dX7_boxAct_197 : decode cX7_boxAct 197 = .ok (.if_icmp .ne 5, 3) := by decide +kernel
theorem dX7_boxAct_200 : decode cX7_boxAct 200 = .ok (.iconst 1, 1) := by decide +kernel
theorem dX7_boxAct_201 : decode cX7_boxAct 201 = .ok (.ireturn, 1) := by decide +kernel
theorem dX7_boxAct_202 : decode cX7_boxAct 202 = .ok (.aload_n 0, 1) := by decide +kernel
theorem dX7_boxAct_203 : decode cX7_boxAct 203 = .ok (.getfield 37, 3) := by decide +kernel
theorem dX7_boxAct_206 : decode cX7_boxAct 206 = .ok (.iload_n 1, 1) := by decide +kernel
theorem dX7_boxAct_207 : decode cX7_boxAct 207 = .ok (.dup2, 1) := by decide +kernel
theorem dX7_boxAct_208 : decode cX7_boxAct 208 = .ok (.iaload, 1) := by decide +kernel
theorem dX7_boxAct_209 : decode cX7_boxAct 209 = .ok (.aload_n 0, 1) := by decide +kernel
theorem dX7_boxAct_210 : decode cX7_boxAct 210 = .ok (.getfield 37, 3) := by decide +kernel
theorem dX7_boxAct_213 : decode cX7_boxAct 213 = .ok (.iload 6, 2) := by decide +kernel
theorem dX7_boxAct_215 : decode cX7_boxAct 215 = .ok (.iaload, 1) := by decide +kernel
theorem dX7_boxAct_216 : decode cX7_boxAct 216 = .ok (.iadd, 1) := by decide +kernel
theorem dX7_boxAct_217 : decode cX7_boxAct 217 = .ok (.iastore, 1) := by decide +kernel
theorem dX7_boxAct_218 : decode cX7_boxAct 218 = .ok (.iconst 0, 1) := by decide +kernel
theorem dX7_boxAct_219 : decode cX7_boxAct 219 = .ok (.ireturn, 1) := by decide +kernel
theorem dX7_copyAct_0 : decode cX7_copyAct 0 = .ok (.aload_n 0, 1) := by decide +kernel
theorem dX7_copyAct_1 : decode cX7_copyAct 1 = .ok (.getfield 40, 3) := by decide +kernel
theorem dX7_copyAct_4 : decode cX7_copyAct 4 = .ok (.iload_n 1, 1) := by decide +kernel
theorem dX7_copyAct_5 : decode cX7_copyAct 5 = .ok (.iaload, 1) := by decide +kernel
theorem dX7_copyAct_6 : decode cX7_copyAct 6 = .ok (.bipush (-4), 2) := by decide +kernel
theorem dX7_copyAct_8 : decode cX7_copyAct 8 = .ok (.if_icmp .eq 14, 3) := by decide +kernel
theorem dX7_copyAct_11 : decode cX7_copyAct 11 = .ok (.aload_n 0, 1) := by decide +kernel
theorem dX7_copyAct_12 : decode cX7_copyAct 12 = .ok (.getfield 58, 3) := by decide +kernel
theorem dX7_copyAct_15 : decode cX7_copyAct 15 = .ok (.iload_n 1, 1) := by decide +kernel
theorem dX7_copyAct_16 : decode cX7_copyAct 16 = .ok (.iaload, 1) := by decide +kernel
theorem dX7_copyAct_17 : decode cX7_copyAct 17 = .ok (.bipush (-4), 2) := by decide +kernel
theorem dX7_copyAct_19 : decode cX7_copyAct 19 = .ok (.if_icmp .ne 5, 3) := by decide +kernel
theorem dX7_copyAct_22 : decode cX7_copyAct 22 = .ok (.iconst 1, 1) := by decide +kernel
theorem dX7_copyAct_23 : decode cX7_copyAct 23 = .ok (.ireturn, 1) := by decide +kernel
theorem dX7_copyAct_24 : decode cX7_copyAct 24 = .ok (.aload_n 0, 1) := by decide +kernel
theorem dX7_copyAct_25 : decode cX7_copyAct 25 = .ok (.getfield 58, 3) := by decide +kernel
theorem dX7_copyAct_28 : decode cX7_copyAct 28 = .ok (.iload_n 1, 1) := by decide +kernel
theorem dX7_copyAct_29 : decode cX7_copyAct 29 = .ok (.iaload, 1) := by decide +kernel
theorem dX7_copyAct_30 : decode cX7_copyAct 30 = .ok (.iconst 1, 1) := by decide +kernel
theorem dX7_copyAct_31 : decode cX7_copyAct 31 = .ok (.if_icmp .ne 5, 3) := by decide +kernel
theorem dX7_copyAct_34 : decode cX7_copyAct 34 = .ok (.iconst 3, 1) := by decide +kernel
theorem dX7_copyAct_35 : decode cX7_copyAct 35 = .ok (.ireturn, 1) := by decide +kernel
theorem dX7_copyAct_36 : decode cX7_copyAct 36 = .ok (.iload_n 2, 1) := by decide +kernel
theorem dX7_copyAct_37 : decode cX7_copyAct 37 = .ok (.ifCond .lt 18, 3) := by decide +kernel
theorem dX7_copyAct_40 : decode cX7_copyAct 40 = .ok (.iload_n 2, 1) := by decide +kernel
theorem dX7_copyAct_41 : decode cX7_copyAct 41 = .ok (.iconst 3, 1) := by decide +kernel
theorem dX7_copyAct_42 : decode cX7_copyAct 42 = .ok (.if_icmp .gt 13, 3) := by decide +kernel
theorem dX7_copyAct_45 : decode cX7_copyAct 45 = .ok (.iload_n 2, 1) := by decide +kernel
theorem dX7_copyAct_46 : decode cX7_copyAct 46 = .ok (.aload_n 0, 1) := by decide +kernel
theorem dX7_copyAct_47 : decode cX7_copyAct 47 = .ok (.getfield 40, 3) := by decide +kernel
theorem dX7_copyAct_50 : decode cX7_copyAct 50 = .ok (.iload_n 1, 1) := by decide +kernel
theorem dX7_copyAct_51 : decode cX7_copyAct 51 = .ok (.iaload, 1) := by decide +kernel
theorem dX7_copyAct_52 : decode cX7_copyAct 52 = .ok (.if_icmp .le 5, 3) := by decide +kernel
theorem dX7_copyAct_55 : decode cX7_copyAct 55 = .ok (.iconst 2, 1) := by decide +kernel
theorem dX7_copyAct_56 : decode cX7_copyAct 56 = .ok (.ireturn, 1) := by decide +kernel
theorem dX7_copyAct_57 : decode cX7_copyAct 57 = .ok (.iconst 0, 1) := by decide +kernel
theorem dX7_copyAct_58 : decode cX7_copyAct 58 = .ok (.istore_n 3, 1) := by decide +kernel
theorem dX7_copyAct_59 : decode cX7_copyAct 59 = .ok (.iload_n 3, 1) := by decide +kernel
theorem dX7_copyAct_60 : decode cX7_copyAct 60 = .ok (.iload_n 2, 1) := by decide +kernel
theorem dX7_copyAct_61 : decode cX7_copyAct 61 = .ok (.if_icmp .ge 30, 3) := by decide +kernel
theorem dX7_copyAct_64 : decode cX7_copyAct 64 = .ok (.aload_n 0, 1) := by decide +kernel
theorem dX7_copyAct_65 : decode cX7_copyAct 65 = .ok (.getfield 61, 3) := by decide +kernel
theorem dX7_copyAct_68 : decode cX7_copyAct 68 = .ok (.iconst 3, 1) := by decide +kernel
theorem dX7_copyAct_69 : decode cX7_copyAct 69 = .ok (.iload_n 1, 1) := by decide +kernel
theorem dX7_copyAct_70 : decode cX7_copyAct 70 = .ok (.imul, 1) := by decide +kernel
theorem dX7_copyAct_71 : decode cX7_copyAct 71 = .ok (.iload_n 3, 1) := by decide +kernel
theorem dX7_copyAct_72 : decode cX7_copyAct 72 = .ok (.iadd, 1) := by decide +kernel
theorem dX7_copyAct_73 : decode cX7_copyAct 73 = .ok (.aload_n 0, 1) := by decide +kernel
theorem dX7_copyAct_74 : decode cX7_copyAct 74 = .ok (.getfield 43, 3) := by decide +kernel
theorem dX7_copyAct_77 : decode cX7_copyAct 77 = .ok (.bipush 100, 2) := by decide +kernel
theorem dX7_copyAct_79 : decode cX7_copyAct 79 = .ok (.iload_n 1, 1) := by decide +kernel
theorem dX7_copyAct_80 : decode cX7_copyAct 80 = .ok (.imul, 1) := by decide +kernel
theorem dX7_copyAct_81 : decode cX7_copyAct 81 = .ok (.iload_n 3, 1) := by decide +kernel
theorem dX7_copyAct_82 : decode cX7_copyAct 82 = .ok (.iadd, 1) := by decide +kernel
theorem dX7_copyAct_83 : decode cX7_copyAct 83 = .ok (.iaload, 1) := by decide +kernel
theorem dX7_copyAct_84 : decode cX7_copyAct 84 = .ok (.iastore, 1) := by decide +kernel
theorem dX7_copyAct_85 : decode cX7_copyAct 85 = .ok (.iinc 3 1, 3) := by decide +kernel
theorem dX7_copyAct_88 : decode cX7_copyAct 88 = .ok (.goto (-29), 3) := by decide +kernel
theorem dX7_copyAct_91 : decode cX7_copyAct 91 = .ok (.iconst 0, 1) := by decide +kernel
theorem dX7_copyAct_92 : decode cX7_copyAct 92 = .ok (.ireturn, 1) := by decide +kernel
theorem dX7_simple_0 : decode cX7_simple 0 = .ok (.aload_n 0, 1) := by decide +kernel
theorem dX7_simple_1 : decode cX7_simple 1 = .ok (.getfield 25, 3) := by decide +kernel
theorem dX7_simple_4 : decode cX7_simple 4 = .ok (.iload_n 2, 1) := by decide +kernel
theorem dX7_simple_5 : decode cX7_simple 5 = .ok (.iaload, 1) := by decide +kernel
theorem dX7_simple_6 : decode cX7_simple 6 = .ok (.istore_n 3, 1) := by decide +kernel
theorem dX7_simple_7 : decode cX7_simple 7 = .ok (.aload_n 0, 1) := by decide +kernel
theorem dX7_simple_8 : decode cX7_simple 8 = .ok (.getfield 28, 3) := by decide +kernel
theorem dX7_simple_11 : decode cX7_simple 11 = .ok (.iload_n 2, 1) := by decide +kernel
theorem dX7_simple_12 : decode cX7_simple 12 = .ok (.iaload, 1) := by decide +kernel
theorem dX7_simple_13 : decode cX7_simple 13 = .ok (.istore 4, 2) := by decide +kernel
theorem dX7_simple_15 : decode cX7_simple 15 = .ok (.aload_n 0, 1) := by decide +kernel
theorem dX7_simple_16 : decode cX7_simple 16 = .ok (.getfield 31, 3) := by decide +kernel
theorem dX7_simple_19 : decode cX7_simple 19 = .ok (.iload_n 2, 1) := by decide +kernel
theorem dX7_simple_20 : decode cX7_simple 20 = .ok (.iaload, 1) := by decide +kernel
theorem dX7_simple_21 : decode cX7_simple 21 = .ok (.istore 5, 2) := by decide +kernel
theorem dX7_simple_23 : decode cX7_simple 23 = .ok (.iload_n 3, 1) := by decide +kernel
theorem dX7_simple_24 : decode cX7_simple 24 = .ok (.tableswitch 223 0 15 #[80, 120, 145, 145, 145, 154, 160, 170, 190, 223, 223, 223, 223, 223, 197, 215], 80) := by decide +kernel
theorem dX7_simple_104 : decode cX7_simple 104 = .ok (.aload_n 0, 1) := by decide +kernel
theorem dX7_simple_105 : decode cX7_simple 105 = .ok (.getfield 37, 3) := by decide +kernel
theorem dX7_simple_108 : decode cX7_simple 108 = .ok (.iload_n 1, 1) := by decide +kernel
theorem dX7_simple_109 : decode cX7_simple 109 = .ok (.dup2, 1) := by decide +kernel
theorem dX7_simple_110 : decode cX7_simple 110 = .ok (.iaload, 1) := by decide +kernel
theorem dX7_simple_111 : decode cX7_simple 111 = .ok (.aload_n 0, 1) := by decide +kernel
theorem dX7_simple_112 : decode cX7_simple 112 = .ok (.getfield 7, 3) := by decide +kernel
theorem dX7_simple_115 : decode cX7_simple 115 = .ok (.iload_n 1, 1) := by decide +kernel
theorem dX7_simple_116 : decode cX7_simple 116 = .ok (.iaload, 1) := by decide +kernel
theorem dX7_simple_117 : decode cX7_simple 117 = .ok (.iconst 1, 1) := by decide +kernel
theorem dX7_simple_118 : decode cX7_simple 118 = .ok (.if_icmp .eq 13, 3) := by decide +kernel
theorem dX7_simple_121 : decode cX7_simple 121 = .ok (.aload_n 0, 1) := by decide +kernel
theorem dX7_simple_122 : decode cX7_simple 122 = .ok (.getfield 7, 3) := by decide +kernel
theorem dX7_simple_125 : decode cX7_simple 125 = .ok (.iload_n 1, 1) := by decide +kernel
theorem dX7_simple_126 : decode cX7_simple 126 = .ok (.iaload, 1) := by decide +kernel
theorem dX7_simple_127 : decode cX7_simple 127 = .ok (.iconst 4, 1) := by decide +kernel
theorem dX7_simple_128 : decode cX7_simple 128 = .ok (.if_icmp .ne 10, 3) := by decide +kernel
theorem dX7_simple_131 : decode cX7_simple 131 = .ok (.iconst 2, 1) := by decide +kernel
theorem dX7_simple_132 : decode cX7_simple 132 = .ok (.iload 4, 2) := by decide +kernel
theorem dX7_simple_134 : decode cX7_simple 134 = .ok (.imul, 1) := by decide +kernel
theorem dX7_simple_135 : decode cX7_simple 135 = .ok (.goto 5, 3) := by decide +kernel
theorem dX7_simple_138 : decode cX7_simple 138 = .ok (.iload 4, 2) := by decide +kernel
theorem dX7_simple_140 : decode cX7_simple 140 = .ok (.iadd, 1) := by decide +kernel
theorem dX7_simple_141 : decode cX7_simple 141 = .ok (.iastore, 1) := by decide +kernel
theorem dX7_simple_142 : decode cX7_simple 142 = .ok (.iconst 0, 1) := by decide +kernel
theorem dX7_simple_143 : decode cX7_simple 143 = .ok (.ireturn, 1) := by decide +kernel
theorem dX7_simple_144 : decode cX7_simple 144 = .ok (.iload 4, 2) := by decide +kernel
theorem dX7_simple_146 : decode cX7_simple 146 = .ok (.ifCond .ne 6, 3) := by decide +kernel
theorem dX7_simple_149 : decode cX7_simple 149 = .ok (.bipush 6, 2) := by decide +kernel
theorem dX7_simple_151 : decode cX7_simple 151 = .ok (.ireturn, 1) := by decide +kernel
theorem dX7_simple_152 : decode cX7_simple 152 = .ok (.aload_n 0, 1) := by decide +kernel
theorem dX7_simple_153 : decode cX7_simple 153 = .ok (.getfield 37, 3) := by decide +kernel
theorem dX7_simple_156 : decode cX7_simple 156 = .ok (.iload_n 1, 1) := by decide +kernel
