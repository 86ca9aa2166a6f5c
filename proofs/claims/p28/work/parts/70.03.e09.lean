set_option maxRecDepth 20000 in
theorem hv_law_wsL_acts_r7 : GoodIn wsL_law wsL_acts_r7 := goodIn_r _ [295, 296, 297, 298, 299, 300, 301, 302, 303, 304, 18, 305, 59, 60, 61, 62, 63, 306, 307, 308, 309, 310, 311, 312] (by decide +kernel) (by decide +kernel)
set_option maxRecDepth 20000 in
theorem hv_law_wsL_acts_r8 : GoodIn wsL_law wsL_acts_r8 := goodIn_r _ [313, 314, 315, 316, 317, 318, 319, 320, 321, 322, 323, 324, 325, 326, 327, 328, 329, 330, 331, 401, 402, 403, 404, 377] (by decide +kernel) (by decide +kernel)
set_option maxRecDepth 20000 in
theorem hv_law_wsL_acts_r9 : GoodIn wsL_law wsL_acts_r9 := goodIn_r _ [378, 379, 380, 15, 381, 382, 383, 384, 346, 347, 348, 349, 350, 351, 352, 353, 47, 51, 52, 53, 54, 55, 405, 406] (by decide +kernel) (by decide +kernel)
set_option maxRecDepth 20000 in
theorem hv_law_wsL_acts_r10 : GoodIn wsL_law wsL_acts_r10 := goodIn_r _ [407, 408, 409, 410, 411, 412, 413, 121, 122, 123, 124, 104, 105, 107, 100, 101, 102, 103, 414, 415, 416, 417, 418, 419] (by decide +kernel) (by decide +kernel)
set_option maxRecDepth 20000 in
theorem hv_law_wsL_acts_r11 : GoodIn wsL_law wsL_acts_r11 := goodIn_r _ [420, 421, 422, 423, 424, 425, 426, 427, 226, 227, 228, 229, 230, 231, 232, 233, 234, 235, 236, 237, 238, 239, 428, 429] (by decide +kernel) (by decide +kernel)
set_option maxRecDepth 20000 in
theorem hv_law_wsL_acts_r12 : GoodIn wsL_law wsL_acts_r12 := goodIn_r _ [430, 431, 23, 342, 343, 344, 345, 273, 354, 355, 356, 22, 357, 68, 69, 358, 359, 360, 361, 362, 363, 432, 433, 434] (by decide +kernel) (by decide +kernel)
set_option maxRecDepth 20000 in
theorem hv_law_wsL_acts_r13 : GoodIn wsL_law wsL_acts_r13 := goodIn_r _ [435, 436, 437, 438, 439, 440, 441, 442, 443, 444, 445, 446, 447, 448, 449, 450, 451, 452, 453, 454, 455, 456, 457, 458] (by decide +kernel) (by decide +kernel)
set_option maxRecDepth 20000 in
theorem hv_law_wsL_acts_r14 : GoodIn wsL_law wsL_acts_r14 := goodIn_r _ [389, 390, 391, 392, 393, 459, 460, 461, 462, 38, 39, 40, 463, 464, 465, 466, 467, 468, 469, 470, 471, 472, 34, 473] (by decide +kernel) (by decide +kernel)
set_option maxRecDepth 20000 in
theorem hv_law_wsL_acts_r15 : GoodIn wsL_law wsL_acts_r15 := goodIn_r _ [91, 474, 475, 476, 477, 478, 479, 480, 481, 90, 482, 483, 484, 485, 486, 487, 488, 489, 490, 491, 492, 493, 494, 495] (by decide +kernel) (by decide +kernel)
set_option maxRecDepth 20000 in
theorem hv_law_wsL_acts_r16 : GoodIn wsL_law wsL_acts_r16 := goodIn_r _ [496, 497, 498, 499, 500, 501, 502, 503, 504, 505, 506, 507, 508, 509, 92, 510, 511, 512, 513, 93, 94, 95, 514, 515] (by decide +kernel) (by decide +kernel)
set_option maxRecDepth 20000 in
theorem hv_law_wsL_acts_r17 : GoodIn wsL_law wsL_acts_r17 := goodIn_r _ [516, 517, 518, 519, 520, 521, 96, 97, 98, 99, 108, 109, 110, 258, 259, 260, 261, 262, 263, 264, 265, 266, 267, 268] (by decide +kernel) (by decide +kernel)
set_option maxRecDepth 20000 in
theorem hv_law_wsL_acts_r18 : GoodIn wsL_law wsL_acts_r18 := goodIn_r _ [269, 270, 271, 272, 274, 275, 276, 277] (by decide +kernel) (by decide +kernel)
set_option maxRecDepth 20000 in
theorem hv_law_acts_wsX70 : GoodIn wsL_law wsX70 := goodIn_sub (by decide +kernel) (by decide +kernel)
set_option maxRecDepth 20000 in
theorem hv_law_acts_wsX40 : GoodIn wsL_law wsX40 := goodIn_sub (by decide +kernel) (by decide +kernel)
set_option maxRecDepth 20000 in
theorem hv_law_acts_wsX10 : GoodIn wsL_law wsX10 := goodIn_sub (by decide +kernel) (by decide +kernel)
set_option maxRecDepth 20000 in
theorem hv_law_acts_wsX30 : GoodIn wsL_law wsX30 := goodIn_sub (by decide +kernel) (by decide +kernel)
set_option maxRecDepth 20000 in
theorem hv_law_acts_wsX50 : GoodIn wsL_law wsX50 := goodIn_sub (by decide +kernel) (by decide +kernel)
set_option maxRecDepth 20000 in
theorem hv_law_acts_wsX60 : GoodIn wsL_law wsX60 := goodIn_sub (by decide +kernel) (by decide +kernel)
set_option maxRecDepth 20000 in
theorem hv_law_acts_wsX00 : GoodIn wsL_law wsX00 := goodIn_sub (by decide +kernel) (by decide +kernel)
theorem ggL_law_L_acts : GoodIn wsL_law wsL_acts := fun w h => (List.mem_cons.mp (show w ∈ Cond.code yL_acts cL_acts 10 (some .boolean) :: ((wsL_acts_r1 ++ (wsL_acts_r2 ++ (wsL_acts_r3 ++ (wsL_acts_r4 ++ (wsL_acts_r5 ++ (wsL_acts_r6 ++ (wsL_acts_r7 ++ (wsL_acts_r8 ++ (wsL_acts_r9 ++ (wsL_acts_r10 ++ (wsL_acts_r11 ++ (wsL_acts_r12 ++ (wsL_acts_r13 ++ (wsL_acts_r14 ++ (wsL_acts_r15 ++ (wsL_acts_r16 ++ (wsL_acts_r17 ++ wsL_acts_r18))))))))))))))))) ++ wsX70 ++ wsX40 ++ wsX10 ++ wsX30 ++ wsX50 ++ wsX60 ++ wsX00) from h)).elim (fun e => by
  rw [e]
  exact ⟨List.mem_of_getElem? at_law_acts, Or.inl rfl⟩) ((goodIn_app (goodIn_app (goodIn_app (goodIn_app (goodIn_app (goodIn_app (goodIn_app (goodIn_app hv_law_wsL_acts_r1 (goodIn_app hv_law_wsL_acts_r2 (goodIn_app hv_law_wsL_acts_r3 (goodIn_app hv_law_wsL_acts_r4 (goodIn_app hv_law_wsL_acts_r5 (goodIn_app hv_law_wsL_acts_r6 (goodIn_app hv_law_wsL_acts_r7 (goodIn_app hv_law_wsL_acts_r8 (goodIn_app hv_law_wsL_acts_r9 (goodIn_app hv_law_wsL_acts_r10 (goodIn_app hv_law_wsL_acts_r11 (goodIn_app hv_law_wsL_acts_r12 (goodIn_app hv_law_wsL_acts_r13 (goodIn_app hv_law_wsL_acts_r14 (goodIn_app hv_law_wsL_acts_r15 (goodIn_app hv_law_wsL_acts_r16 (goodIn_app hv_law_wsL_acts_r17 hv_law_wsL_acts_r18))))))))))))))))) hv_law_acts_wsX70) hv_law_acts_wsX40) hv_law_acts_wsX10) hv_law_acts_wsX30) hv_law_acts_wsX50) hv_law_acts_wsX60) hv_law_acts_wsX00) w)
set_option maxRecDepth 20000 in
theorem gL_law_L_acts : GoodIn wsL_law (va_wsS RL 124 yL_acts wsL_acts) := goodIn_app (goodIn_of _ (by decide +kernel)) ggL_law_L_acts
set_option maxRecDepth 20000 in
theorem ggL_law_L_low : GoodIn wsL_law wsL_low := goodIn_r _ [287, 288] (by decide +kernel) (by decide +kernel)
set_option maxRecDepth 20000 in
theorem gL_law_L_low : GoodIn wsL_law (va_wsS RL 38 yL_low wsL_low) := goodIn_app (goodIn_of _ (by decide +kernel)) ggL_law_L_low
theorem dL_law_0 : decode cL_law 0 = .ok (.new 14, 3) := by decide +kernel
theorem dL_law_3 : decode cL_law 3 = .ok (.dup, 1) := by decide +kernel
theorem dL_law_4 : decode cL_law 4 = .ok (.invokespecial 104, 3) := by decide +kernel
theorem dL_law_7 : decode cL_law 7 = .ok (.astore_n 1, 1) := by decide +kernel
theorem dL_law_8 : decode cL_law 8 = .ok (.aload_n 1, 1) := by decide +kernel
theorem dL_law_9 : decode cL_law 9 = .ok (.invokestatic 105, 3) := by decide +kernel
theorem dL_law_12 : decode cL_law 12 = .ok (.ifCond .eq 41, 3) := by decide +kernel
theorem dL_law_15 : decode cL_law 15 = .ok (.aload_n 1, 1) := by decide +kernel
theorem dL_law_16 : decode cL_law 16 = .ok (.iconst 0, 1) := by decide +kernel
theorem dL_law_17 : decode cL_law 17 = .ok (.invokestatic 109, 3) := by decide +kernel
theorem dL_law_20 : decode cL_law 20 = .ok (.ifCond .eq 33, 3) := by decide +kernel
theorem dL_law_23 : decode cL_law 23 = .ok (.aload_n 1, 1) := by decide +kernel
theorem dL_law_24 : decode cL_law 24 = .ok (.invokevirtual 112, 3) := by decide +kernel
theorem dL_law_27 : decode cL_law 27 = .ok (.bipush (-2), 2) := by decide +kernel
theorem dL_law_29 : decode cL_law 29 = .ok (.if_icmp .ne 24, 3) := by decide +kernel
theorem dL_law_32 : decode cL_law 32 = .ok (.aload_n 1, 1) := by decide +kernel
theorem dL_law_33 : decode cL_law 33 = .ok (.invokevirtual 115, 3) := by decide +kernel
theorem dL_law_36 : decode cL_law 36 = .ok (.bipush (-2), 2) := by decide +kernel
theorem dL_law_38 : decode cL_law 38 = .ok (.if_icmp .ne 15, 3) := by decide +kernel
theorem dL_law_41 : decode cL_law 41 = .ok (.aload_n 1, 1) := by decide +kernel
theorem dL_law_42 : decode cL_law 42 = .ok (.invokevirtual 118, 3) := by decide +kernel
theorem dL_law_45 : decode cL_law 45 = .ok (.iconst 1, 1) := by decide +kernel
theorem dL_law_46 : decode cL_law 46 = .ok (.if_icmp .ne 7, 3) := by decide +kernel
theorem dL_law_49 : decode cL_law 49 = .ok (.iconst 1, 1) := by decide +kernel
theorem dL_law_50 : decode cL_law 50 = .ok (.goto 4, 3) := by decide +kernel
theorem dL_law_53 : decode cL_law 53 = .ok (.iconst 0, 1) := by decide +kernel
theorem dL_law_54 : decode cL_law 54 = .ok (.istore_n 2, 1) := by decide +kernel
theorem dL_law_55 : decode cL_law 55 = .ok (.aload_n 1, 1) := by decide +kernel
theorem dL_law_56 : decode cL_law 56 = .ok (.invokestatic 64, 3) := by decide +kernel
theorem dL_law_59 : decode cL_law 59 = .ok (.lstore_n 3, 1) := by decide +kernel
theorem dL_law_60 : decode cL_law 60 = .ok (.iconst 0, 1) := by decide +kernel
theorem dL_law_61 : decode cL_law 61 = .ok (.istore 5, 2) := by decide +kernel
theorem dL_law_63 : decode cL_law 63 = .ok (.iload 5, 2) := by decide +kernel
theorem dL_law_65 : decode cL_law 65 = .ok (.bipush 46, 2) := by decide +kernel
theorem dL_law_67 : decode cL_law 67 = .ok (.if_icmp .ge 315, 3) := by decide +kernel
theorem dL_law_70 : decode cL_law 70 = .ok (.iload_n 2, 1) := by decide +kernel
theorem dL_law_71 : decode cL_law 71 = .ok (.ifCond .eq 311, 3) := by decide +kernel
theorem dL_law_74 : decode cL_law 74 = .ok (.aload_n 0, 1) := by decide +kernel
theorem dL_law_75 : decode cL_law 75 = .ok (.iconst 2, 1) := by decide +kernel
theorem dL_law_76 : decode cL_law 76 = .ok (.iload 5, 2) := by decide +kernel
theorem dL_law_78 : decode cL_law 78 = .ok (.imul, 1) := by decide +kernel
theorem dL_law_79 : decode cL_law 79 = .ok (.invokestatic 121, 3) := by decide +kernel
theorem dL_law_82 : decode cL_law 82 = .ok (.istore 6, 2) := by decide +kernel
theorem dL_law_84 : decode cL_law 84 = .ok (.aload_n 0, 1) := by decide +kernel
theorem dL_law_85 : decode cL_law 85 = .ok (.iconst 2, 1) := by decide +kernel
