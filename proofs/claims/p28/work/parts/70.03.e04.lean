set_option maxRecDepth 20000 in
theorem hv_acts_carries_wsX60 : GoodIn wsL_acts wsX60 := goodIn_sub (by decide +kernel) (by decide +kernel)
theorem ggL_acts_L_carries : GoodIn wsL_acts wsL_carries := fun w h => (List.mem_cons.mp (show w ∈ Cond.code yL_carries cL_carries 14 (some .boolean) :: ((wsL_carries_r1 ++ (wsL_carries_r2 ++ (wsL_carries_r3 ++ (wsL_carries_r4 ++ (wsL_carries_r5 ++ (wsL_carries_r6 ++ (wsL_carries_r7 ++ (wsL_carries_r8 ++ (wsL_carries_r9 ++ (wsL_carries_r10 ++ (wsL_carries_r11 ++ (wsL_carries_r12 ++ (wsL_carries_r13 ++ (wsL_carries_r14 ++ wsL_carries_r15)))))))))))))) ++ wsX70 ++ wsX40 ++ wsX10 ++ wsX30 ++ wsX50 ++ wsX00 ++ wsX60) from h)).elim (fun e => by
  rw [e]
  exact ⟨List.mem_of_getElem? at_acts_carries, Or.inl rfl⟩) ((goodIn_app (goodIn_app (goodIn_app (goodIn_app (goodIn_app (goodIn_app (goodIn_app (goodIn_app hv_acts_wsL_carries_r1 (goodIn_app hv_acts_wsL_carries_r2 (goodIn_app hv_acts_wsL_carries_r3 (goodIn_app hv_acts_wsL_carries_r4 (goodIn_app hv_acts_wsL_carries_r5 (goodIn_app hv_acts_wsL_carries_r6 (goodIn_app hv_acts_wsL_carries_r7 (goodIn_app hv_acts_wsL_carries_r8 (goodIn_app hv_acts_wsL_carries_r9 (goodIn_app hv_acts_wsL_carries_r10 (goodIn_app hv_acts_wsL_carries_r11 (goodIn_app hv_acts_wsL_carries_r12 (goodIn_app hv_acts_wsL_carries_r13 (goodIn_app hv_acts_wsL_carries_r14 hv_acts_wsL_carries_r15)))))))))))))) hv_acts_carries_wsX70) hv_acts_carries_wsX40) hv_acts_carries_wsX10) hv_acts_carries_wsX30) hv_acts_carries_wsX50) hv_acts_carries_wsX00) hv_acts_carries_wsX60) w)
set_option maxRecDepth 20000 in
theorem gL_acts_L_carries : GoodIn wsL_acts (va_wsS RL 98 yL_carries wsL_carries) := goodIn_app (goodIn_of _ (by decide +kernel)) ggL_acts_L_carries
set_option maxRecDepth 20000 in
theorem ggL_acts_X7_begin : GoodIn wsL_acts wsX7_begin := goodIn_r _ [390, 11, 192, 193, 194, 9, 195, 13, 196, 197, 198, 199, 200, 201, 202, 203, 17, 204, 20, 205, 206, 207, 208, 105, 209, 41, 89, 19, 210, 211, 212, 213, 214, 391, 392, 393, 394, 231, 232, 233, 234, 228, 229, 27, 230, 395, 396, 397, 25, 26, 28, 29, 30, 23, 31, 32, 22, 24, 224, 225, 226, 227, 417, 418, 419, 420, 421, 422, 423, 424, 425, 426, 427, 428, 429, 430, 431, 432, 433, 434, 435, 436, 437, 438, 439, 440, 441] (by decide +kernel) (by decide +kernel)
set_option maxRecDepth 20000 in
theorem gL_acts_X7_begin : GoodIn wsL_acts (wsV RL 101 RX7 yX7_begin wsX7_begin) := goodIn_app (goodIn_of _ (by decide +kernel)) ggL_acts_X7_begin
set_option maxRecDepth 20000 in
theorem ggL_acts_X7_longest : GoodIn wsL_acts wsX7_longest := goodIn_r _ [401, 11, 94, 402, 403, 404, 17, 405, 19, 21, 22, 23, 24, 406, 407, 408, 409, 410, 411, 412, 272, 102, 103, 104, 105, 106, 74, 75, 76, 95, 96, 97, 98, 99, 100, 101, 107, 108, 109, 110, 111, 112, 113, 114, 115, 116, 117, 118, 119, 120, 121, 122, 123, 124, 413, 414, 415, 416, 137, 417, 418, 419, 420, 421, 422, 423, 424, 425, 426, 427, 428, 429, 430, 431, 432, 433, 434, 435, 436, 437, 438, 439, 440, 441, 451, 452, 453, 454, 455, 456, 457] (by decide +kernel) (by decide +kernel)
set_option maxRecDepth 20000 in
theorem gL_acts_X7_longest : GoodIn wsL_acts (wsV RL 31 RX7 yX7_longest wsX7_longest) := goodIn_app (goodIn_of _ (by decide +kernel)) ggL_acts_X7_longest
theorem dL_acts_0 : decode cL_acts 0 = .ok (.iload_n 1, 1) := by decide +kernel
theorem dL_acts_1 : decode cL_acts 1 = .ok (.bipush 24, 2) := by decide +kernel
theorem dL_acts_3 : decode cL_acts 3 = .ok (.invokestatic 38, 3) := by decide +kernel
theorem dL_acts_6 : decode cL_acts 6 = .ok (.istore_n 3, 1) := by decide +kernel
theorem dL_acts_7 : decode cL_acts 7 = .ok (.aload_n 0, 1) := by decide +kernel
theorem dL_acts_8 : decode cL_acts 8 = .ok (.iconst 0, 1) := by decide +kernel
theorem dL_acts_9 : decode cL_acts 9 = .ok (.invokevirtual 13, 3) := by decide +kernel
theorem dL_acts_12 : decode cL_acts 12 = .ok (.istore 4, 2) := by decide +kernel
theorem dL_acts_14 : decode cL_acts 14 = .ok (.iload_n 3, 1) := by decide +kernel
theorem dL_acts_15 : decode cL_acts 15 = .ok (.bipush 8, 2) := by decide +kernel
theorem dL_acts_17 : decode cL_acts 17 = .ok (.if_icmp .ge 135, 3) := by decide +kernel
theorem dL_acts_20 : decode cL_acts 20 = .ok (.iload_n 2, 1) := by decide +kernel
theorem dL_acts_21 : decode cL_acts 21 = .ok (.bipush 42, 2) := by decide +kernel
theorem dL_acts_23 : decode cL_acts 23 = .ok (.invokestatic 38, 3) := by decide +kernel
theorem dL_acts_26 : decode cL_acts 26 = .ok (.iconst 1, 1) := by decide +kernel
theorem dL_acts_27 : decode cL_acts 27 = .ok (.isub, 1) := by decide +kernel
theorem dL_acts_28 : decode cL_acts 28 = .ok (.istore 5, 2) := by decide +kernel
theorem dL_acts_30 : decode cL_acts 30 = .ok (.aload_n 0, 1) := by decide +kernel
theorem dL_acts_31 : decode cL_acts 31 = .ok (.iload 5, 2) := by decide +kernel
theorem dL_acts_33 : decode cL_acts 33 = .ok (.iconst 0, 1) := by decide +kernel
theorem dL_acts_34 : decode cL_acts 34 = .ok (.invokevirtual 41, 3) := by decide +kernel
theorem dL_acts_37 : decode cL_acts 37 = .ok (.istore 6, 2) := by decide +kernel
theorem dL_acts_39 : decode cL_acts 39 = .ok (.aload_n 0, 1) := by decide +kernel
theorem dL_acts_40 : decode cL_acts 40 = .ok (.bipush 7, 2) := by decide +kernel
theorem dL_acts_42 : decode cL_acts 42 = .ok (.invokevirtual 13, 3) := by decide +kernel
theorem dL_acts_45 : decode cL_acts 45 = .ok (.istore 7, 2) := by decide +kernel
theorem dL_acts_47 : decode cL_acts 47 = .ok (.aload_n 0, 1) := by decide +kernel
theorem dL_acts_48 : decode cL_acts 48 = .ok (.bipush 8, 2) := by decide +kernel
theorem dL_acts_50 : decode cL_acts 50 = .ok (.invokevirtual 13, 3) := by decide +kernel
theorem dL_acts_53 : decode cL_acts 53 = .ok (.istore 8, 2) := by decide +kernel
theorem dL_acts_55 : decode cL_acts 55 = .ok (.aload_n 0, 1) := by decide +kernel
theorem dL_acts_56 : decode cL_acts 56 = .ok (.iload 5, 2) := by decide +kernel
theorem dL_acts_58 : decode cL_acts 58 = .ok (.invokevirtual 80, 3) := by decide +kernel
theorem dL_acts_61 : decode cL_acts 61 = .ok (.istore 9, 2) := by decide +kernel
theorem dL_acts_63 : decode cL_acts 63 = .ok (.iload 9, 2) := by decide +kernel
theorem dL_acts_65 : decode cL_acts 65 = .ok (.iload 6, 2) := by decide +kernel
theorem dL_acts_67 : decode cL_acts 67 = .ok (.if_icmp .ne 83, 3) := by decide +kernel
theorem dL_acts_70 : decode cL_acts 70 = .ok (.aload_n 0, 1) := by decide +kernel
theorem dL_acts_71 : decode cL_acts 71 = .ok (.iconst 0, 1) := by decide +kernel
theorem dL_acts_72 : decode cL_acts 72 = .ok (.invokevirtual 13, 3) := by decide +kernel
theorem dL_acts_75 : decode cL_acts 75 = .ok (.iload 4, 2) := by decide +kernel
theorem dL_acts_77 : decode cL_acts 77 = .ok (.iload 9, 2) := by decide +kernel
theorem dL_acts_79 : decode cL_acts 79 = .ok (.sipush 1000, 3) := by decide +kernel
theorem dL_acts_82 : decode cL_acts 82 = .ok (.if_icmp .lt 7, 3) := by decide +kernel
theorem dL_acts_85 : decode cL_acts 85 = .ok (.iconst 1, 1) := by decide +kernel
theorem dL_acts_86 : decode cL_acts 86 = .ok (.goto 4, 3) := by decide +kernel
theorem dL_acts_89 : decode cL_acts 89 = .ok (.iconst 0, 1) := by decide +kernel
theorem dL_acts_90 : decode cL_acts 90 = .ok (.iadd, 1) := by decide +kernel
theorem dL_acts_91 : decode cL_acts 91 = .ok (.if_icmp .ne 59, 3) := by decide +kernel
theorem dL_acts_94 : decode cL_acts 94 = .ok (.aload_n 0, 1) := by decide +kernel
theorem dL_acts_95 : decode cL_acts 95 = .ok (.bipush 7, 2) := by decide +kernel
theorem dL_acts_97 : decode cL_acts 97 = .ok (.invokevirtual 13, 3) := by decide +kernel
theorem dL_acts_100 : decode cL_acts 100 = .ok (.iload 7, 2) := by decide +kernel
theorem dL_acts_102 : decode cL_acts 102 = .ok (.iload 9, 2) := by decide +kernel
theorem dL_acts_104 : decode cL_acts 104 = .ok (.ifCond .ge 7, 3) := by decide +kernel
theorem dL_acts_107 : decode cL_acts 107 = .ok (.iconst 0, 1) := by decide +kernel
theorem dL_acts_108 : decode cL_acts 108 = .ok (.goto 4, 3) := by decide +kernel
theorem dL_acts_111 : decode cL_acts 111 = .ok (.iconst 1, 1) := by decide +kernel
theorem dL_acts_112 : decode cL_acts 112 = .ok (.iadd, 1) := by decide +kernel
theorem dL_acts_113 : decode cL_acts 113 = .ok (.if_icmp .ne 37, 3) := by decide +kernel
theorem dL_acts_116 : decode cL_acts 116 = .ok (.aload_n 0, 1) := by decide +kernel
theorem dL_acts_117 : decode cL_acts 117 = .ok (.bipush 8, 2) := by decide +kernel
theorem dL_acts_119 : decode cL_acts 119 = .ok (.invokevirtual 13, 3) := by decide +kernel
theorem dL_acts_122 : decode cL_acts 122 = .ok (.iload 8, 2) := by decide +kernel
theorem dL_acts_124 : decode cL_acts 124 = .ok (.iload 9, 2) := by decide +kernel
theorem dL_acts_126 : decode cL_acts 126 = .ok (.ifCond .lt 11, 3) := by decide +kernel
theorem dL_acts_129 : decode cL_acts 129 = .ok (.iload 9, 2) := by decide +kernel
theorem dL_acts_131 : decode cL_acts 131 = .ok (.sipush 1000, 3) := by decide +kernel
theorem dL_acts_134 : decode cL_acts 134 = .ok (.if_icmp .lt 7, 3) := by decide +kernel
theorem dL_acts_137 : decode cL_acts 137 = .ok (.iconst 0, 1) := by decide +kernel
theorem dL_acts_138 : decode cL_acts 138 = .ok (.goto 4, 3) := by decide +kernel
theorem dL_acts_141 : decode cL_acts 141 = .ok (.iconst 1, 1) := by decide +kernel
theorem dL_acts_142 : decode cL_acts 142 = .ok (.iadd, 1) := by decide +kernel
theorem dL_acts_143 : decode cL_acts 143 = .ok (.if_icmp .ne 7, 3) := by decide +kernel
theorem dL_acts_146 : decode cL_acts 146 = .ok (.iconst 1, 1) := by decide +kernel
theorem dL_acts_147 : decode cL_acts 147 = .ok (.goto 4, 3) := by decide +kernel
theorem dL_acts_150 : decode cL_acts 150 = .ok (.iconst 0, 1) := by decide +kernel
theorem dL_acts_151 : decode cL_acts 151 = .ok (.ireturn, 1) := by decide +kernel
theorem dL_acts_152 : decode cL_acts 152 = .ok (.iload_n 3, 1) := by decide +kernel
theorem dL_acts_153 : decode cL_acts 153 = .ok (.bipush 12, 2) := by decide +kernel
theorem dL_acts_155 : decode cL_acts 155 = .ok (.if_icmp .ge 121, 3) := by decide +kernel
theorem dL_acts_158 : decode cL_acts 158 = .ok (.iload_n 2, 1) := by decide +kernel
theorem dL_acts_159 : decode cL_acts 159 = .ok (.bipush 22, 2) := by decide +kernel
theorem dL_acts_161 : decode cL_acts 161 = .ok (.invokestatic 38, 3) := by decide +kernel
theorem dL_acts_164 : decode cL_acts 164 = .ok (.istore 5, 2) := by decide +kernel
theorem dL_acts_166 : decode cL_acts 166 = .ok (.iload 5, 2) := by decide +kernel
theorem dL_acts_168 : decode cL_acts 168 = .ok (.ifCond .eq 10, 3) := by decide +kernel
theorem dL_acts_171 : decode cL_acts 171 = .ok (.iload 5, 2) := by decide +kernel
theorem dL_acts_173 : decode cL_acts 173 = .ok (.bipush 21, 2) := by decide +kernel
theorem dL_acts_175 : decode cL_acts 175 = .ok (.if_icmp .ne 7, 3) := by decide +kernel
theorem dL_acts_178 : decode cL_acts 178 = .ok (.iconst 1, 1) := by decide +kernel
theorem dL_acts_179 : decode cL_acts 179 = .ok (.goto 4, 3) := by decide +kernel
theorem dL_acts_182 : decode cL_acts 182 = .ok (.iconst 0, 1) := by decide +kernel
theorem dL_acts_183 : decode cL_acts 183 = .ok (.istore 6, 2) := by decide +kernel
theorem dL_acts_185 : decode cL_acts 185 = .ok (.aload_n 0, 1) := by decide +kernel
theorem dL_acts_186 : decode cL_acts 186 = .ok (.bipush 7, 2) := by decide +kernel
theorem dL_acts_188 : decode cL_acts 188 = .ok (.invokevirtual 13, 3) := by decide +kernel
theorem dL_acts_191 : decode cL_acts 191 = .ok (.istore 7, 2) := by decide +kernel
theorem dL_acts_193 : decode cL_acts 193 = .ok (.aload_n 0, 1) := by decide +kernel
theorem dL_acts_194 : decode cL_acts 194 = .ok (.iload 5, 2) := by decide +kernel
theorem dL_acts_196 : decode cL_acts 196 = .ok (.invokevirtual 83, 3) := by decide +kernel
theorem dL_acts_199 : decode cL_acts 199 = .ok (.istore 8, 2) := by decide +kernel
theorem dL_acts_201 : decode cL_acts 201 = .ok (.iload 6, 2) := by decide +kernel
theorem dL_acts_203 : decode cL_acts 203 = .ok (.ifCond .eq 28, 3) := by decide +kernel
theorem dL_acts_206 : decode cL_acts 206 = .ok (.iload 8, 2) := by decide +kernel
theorem dL_acts_208 : decode cL_acts 208 = .ok (.iconst (-1), 1) := by decide +kernel
theorem dL_acts_209 : decode cL_acts 209 = .ok (.if_icmp .ne 18, 3) := by decide +kernel
theorem dL_acts_212 : decode cL_acts 212 = .ok (.aload_n 0, 1) := by decide +kernel
theorem dL_acts_213 : decode cL_acts 213 = .ok (.bipush 7, 2) := by decide +kernel
theorem dL_acts_215 : decode cL_acts 215 = .ok (.invokevirtual 13, 3) := by decide +kernel
theorem dL_acts_218 : decode cL_acts 218 = .ok (.iload 7, 2) := by decide +kernel
theorem dL_acts_220 : decode cL_acts 220 = .ok (.if_icmp .ne 7, 3) := by decide +kernel
theorem dL_acts_223 : decode cL_acts 223 = .ok (.iconst 1, 1) := by decide +kernel
theorem dL_acts_224 : decode cL_acts 224 = .ok (.goto 51, 3) := by decide +kernel
theorem dL_acts_227 : decode cL_acts 227 = .ok (.iconst 0, 1) := by decide +kernel
theorem dL_acts_228 : decode cL_acts 228 = .ok (.goto 47, 3) := by decide +kernel
theorem dL_acts_231 : decode cL_acts 231 = .ok (.iload 8, 2) := by decide +kernel
theorem dL_acts_233 : decode cL_acts 233 = .ok (.ifCond .lt 41, 3) := by decide +kernel
theorem dL_acts_236 : decode cL_acts 236 = .ok (.iload 8, 2) := by decide +kernel
theorem dL_acts_238 : decode cL_acts 238 = .ok (.iload 5, 2) := by decide +kernel
theorem dL_acts_240 : decode cL_acts 240 = .ok (.if_icmp .gt 34, 3) := by decide +kernel
theorem dL_acts_243 : decode cL_acts 243 = .ok (.aload_n 0, 1) := by decide +kernel
theorem dL_acts_244 : decode cL_acts 244 = .ok (.iconst 0, 1) := by decide +kernel
theorem dL_acts_245 : decode cL_acts 245 = .ok (.invokevirtual 13, 3) := by decide +kernel
theorem dL_acts_248 : decode cL_acts 248 = .ok (.iload 4, 2) := by decide +kernel
theorem dL_acts_250 : decode cL_acts 250 = .ok (.iload 8, 2) := by decide +kernel
theorem dL_acts_252 : decode cL_acts 252 = .ok (.iadd, 1) := by decide +kernel
theorem dL_acts_253 : decode cL_acts 253 = .ok (.if_icmp .ne 21, 3) := by decide +kernel
theorem dL_acts_256 : decode cL_acts 256 = .ok (.aload_n 0, 1) := by decide +kernel
theorem dL_acts_257 : decode cL_acts 257 = .ok (.bipush 7, 2) := by decide +kernel
theorem dL_acts_259 : decode cL_acts 259 = .ok (.invokevirtual 13, 3) := by decide +kernel
theorem dL_acts_262 : decode cL_acts 262 = .ok (.iload 7, 2) := by decide +kernel
