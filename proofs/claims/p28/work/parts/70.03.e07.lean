theorem dL_acts_857 : decode cL_acts 857 = .ok (.iload 7, 2) := by decide +kernel
theorem dL_acts_859 : decode cL_acts 859 = .ok (.iconst (-1), 1) := by decide +kernel
theorem dL_acts_860 : decode cL_acts 860 = .ok (.if_icmp .ne 106, 3) := by decide +kernel
theorem dL_acts_863 : decode cL_acts 863 = .ok (.goto 99, 3) := by decide +kernel
theorem dL_acts_866 : decode cL_acts 866 = .ok (.iload 7, 2) := by decide +kernel
theorem dL_acts_868 : decode cL_acts 868 = .ok (.iload 5, 2) := by decide +kernel
theorem dL_acts_870 : decode cL_acts 870 = .ok (.ifCond .ne 7, 3) := by decide +kernel
theorem dL_acts_873 : decode cL_acts 873 = .ok (.iconst 1, 1) := by decide +kernel
theorem dL_acts_874 : decode cL_acts 874 = .ok (.goto 16, 3) := by decide +kernel
theorem dL_acts_877 : decode cL_acts 877 = .ok (.iload 5, 2) := by decide +kernel
theorem dL_acts_879 : decode cL_acts 879 = .ok (.iconst 1, 1) := by decide +kernel
theorem dL_acts_880 : decode cL_acts 880 = .ok (.if_icmp .ne 8, 3) := by decide +kernel
theorem dL_acts_883 : decode cL_acts 883 = .ok (.bipush 11, 2) := by decide +kernel
theorem dL_acts_885 : decode cL_acts 885 = .ok (.goto 5, 3) := by decide +kernel
theorem dL_acts_888 : decode cL_acts 888 = .ok (.bipush 16, 2) := by decide +kernel
theorem dL_acts_890 : decode cL_acts 890 = .ok (.if_icmp .ne 76, 3) := by decide +kernel
theorem dL_acts_893 : decode cL_acts 893 = .ok (.aload_n 0, 1) := by decide +kernel
theorem dL_acts_894 : decode cL_acts 894 = .ok (.iconst 0, 1) := by decide +kernel
theorem dL_acts_895 : decode cL_acts 895 = .ok (.invokevirtual 13, 3) := by decide +kernel
theorem dL_acts_898 : decode cL_acts 898 = .ok (.iload 7, 2) := by decide +kernel
theorem dL_acts_900 : decode cL_acts 900 = .ok (.if_icmp .ne 66, 3) := by decide +kernel
theorem dL_acts_903 : decode cL_acts 903 = .ok (.aload_n 0, 1) := by decide +kernel
theorem dL_acts_904 : decode cL_acts 904 = .ok (.iconst 1, 1) := by decide +kernel
theorem dL_acts_905 : decode cL_acts 905 = .ok (.invokevirtual 13, 3) := by decide +kernel
theorem dL_acts_908 : decode cL_acts 908 = .ok (.iload 7, 2) := by decide +kernel
theorem dL_acts_910 : decode cL_acts 910 = .ok (.if_icmp .ne 56, 3) := by decide +kernel
theorem dL_acts_913 : decode cL_acts 913 = .ok (.aload_n 0, 1) := by decide +kernel
theorem dL_acts_914 : decode cL_acts 914 = .ok (.bipush 7, 2) := by decide +kernel
theorem dL_acts_916 : decode cL_acts 916 = .ok (.invokevirtual 13, 3) := by decide +kernel
theorem dL_acts_919 : decode cL_acts 919 = .ok (.aload_n 0, 1) := by decide +kernel
theorem dL_acts_920 : decode cL_acts 920 = .ok (.bipush 8, 2) := by decide +kernel
theorem dL_acts_922 : decode cL_acts 922 = .ok (.invokevirtual 13, 3) := by decide +kernel
theorem dL_acts_925 : decode cL_acts 925 = .ok (.iadd, 1) := by decide +kernel
theorem dL_acts_926 : decode cL_acts 926 = .ok (.aload_n 0, 1) := by decide +kernel
theorem dL_acts_927 : decode cL_acts 927 = .ok (.bipush 9, 2) := by decide +kernel
theorem dL_acts_929 : decode cL_acts 929 = .ok (.invokevirtual 13, 3) := by decide +kernel
theorem dL_acts_932 : decode cL_acts 932 = .ok (.iadd, 1) := by decide +kernel
theorem dL_acts_933 : decode cL_acts 933 = .ok (.aload_n 0, 1) := by decide +kernel
theorem dL_acts_934 : decode cL_acts 934 = .ok (.bipush 10, 2) := by decide +kernel
theorem dL_acts_936 : decode cL_acts 936 = .ok (.invokevirtual 13, 3) := by decide +kernel
theorem dL_acts_939 : decode cL_acts 939 = .ok (.iadd, 1) := by decide +kernel
theorem dL_acts_940 : decode cL_acts 940 = .ok (.ifCond .ne 26, 3) := by decide +kernel
theorem dL_acts_943 : decode cL_acts 943 = .ok (.aload_n 0, 1) := by decide +kernel
theorem dL_acts_944 : decode cL_acts 944 = .ok (.bipush 17, 2) := by decide +kernel
theorem dL_acts_946 : decode cL_acts 946 = .ok (.invokevirtual 13, 3) := by decide +kernel
theorem dL_acts_949 : decode cL_acts 949 = .ok (.iload 6, 2) := by decide +kernel
theorem dL_acts_951 : decode cL_acts 951 = .ok (.if_icmp .ne 15, 3) := by decide +kernel
theorem dL_acts_954 : decode cL_acts 954 = .ok (.aload_n 0, 1) := by decide +kernel
theorem dL_acts_955 : decode cL_acts 955 = .ok (.iconst 0, 1) := by decide +kernel
theorem dL_acts_956 : decode cL_acts 956 = .ok (.invokevirtual 31, 3) := by decide +kernel
theorem dL_acts_959 : decode cL_acts 959 = .ok (.ifCond .ne 7, 3) := by decide +kernel
theorem dL_acts_962 : decode cL_acts 962 = .ok (.iconst 1, 1) := by decide +kernel
theorem dL_acts_963 : decode cL_acts 963 = .ok (.goto 4, 3) := by decide +kernel
theorem dL_acts_966 : decode cL_acts 966 = .ok (.iconst 0, 1) := by decide +kernel
theorem dL_acts_967 : decode cL_acts 967 = .ok (.ireturn, 1) := by decide +kernel
set_option maxRecDepth 20000 in
theorem ggL_law_X7_init : GoodIn wsL_law wsX7_init := goodIn_r _ [5, 6, 7, 8, 9, 10, 11, 12, 13, 14, 15, 16, 17, 18, 19, 20, 21, 22, 23, 24, 25, 26, 27, 28, 29, 30, 31, 32, 33, 34, 35, 36, 37, 38, 39, 40, 41, 42, 43, 44, 45, 46, 47, 48, 49, 50, 51, 52, 53, 54, 55, 56, 57, 58, 59, 60, 61, 62, 63, 64, 65, 66, 67, 68, 69, 70, 71, 72, 73, 74, 75, 76, 77, 78, 79, 80, 81, 82, 83, 84, 85, 86, 87, 88, 89, 90, 91, 92, 93, 94, 95, 96, 97, 98, 99, 100, 101, 102, 103, 104, 105, 106, 107, 108, 109, 110, 111, 112, 113, 114, 115, 116, 117, 118, 119, 120, 121, 122, 123, 124, 536, 537, 538, 539, 540, 541, 542, 543, 544, 545, 546, 522, 523, 524, 525, 526, 527, 528, 529, 530, 531, 532, 533, 534, 535, 547, 548, 549, 550, 551, 552, 553, 554, 555, 556, 557, 558, 559, 560, 561, 562, 563, 564, 565, 566, 567, 568, 569] (by decide +kernel) (by decide +kernel)
set_option maxRecDepth 20000 in
theorem gL_law_X7_init : GoodIn wsL_law (wsX7_init) := ggL_law_X7_init
theorem at_law_holds : wsL_law[128]? = some (Cond.code yL_holds cL_holds 13 (some .boolean)) := by rfl
set_option maxRecDepth 20000 in
theorem hv_law_wsL_holds_r1 : GoodIn wsL_law wsL_holds_r1 := goodIn_r _ [129, 130, 131, 2, 132, 12, 35, 36, 133, 134, 135, 11, 136, 50, 45, 137, 119, 116, 120, 111, 112, 106, 113, 114] (by decide +kernel) (by decide +kernel)
set_option maxRecDepth 20000 in
theorem hv_law_wsL_holds_r2 : GoodIn wsL_law wsL_holds_r2 := goodIn_r _ [115, 117, 118, 138, 139, 140, 141, 142, 143, 144, 145, 48, 146, 147, 148, 149, 150, 151, 152, 153, 154, 155, 156, 31] (by decide +kernel) (by decide +kernel)
set_option maxRecDepth 20000 in
theorem hv_law_wsL_holds_r3 : GoodIn wsL_law wsL_holds_r3 := goodIn_r _ [157, 158, 159, 30, 160, 84, 85, 83, 161, 162, 163, 164, 165, 166, 167, 168, 169, 170, 171, 172, 173, 174, 175, 176] (by decide +kernel) (by decide +kernel)
set_option maxRecDepth 20000 in
theorem hv_law_wsL_holds_r4 : GoodIn wsL_law wsL_holds_r4 := goodIn_r _ [177, 178, 179, 180, 181, 182, 183, 184, 185, 186, 187, 49, 188, 189, 190, 191, 27, 192, 193, 194, 26, 195, 79, 196] (by decide +kernel) (by decide +kernel)
set_option maxRecDepth 20000 in
theorem hv_law_wsL_holds_r5 : GoodIn wsL_law wsL_holds_r5 := goodIn_r _ [197, 198, 199, 46, 200, 201, 202, 203, 204, 73, 74, 75, 76, 77, 78, 205, 206, 207, 208, 209, 210, 211, 212, 213] (by decide +kernel) (by decide +kernel)
set_option maxRecDepth 20000 in
theorem hv_law_wsL_holds_r6 : GoodIn wsL_law wsL_holds_r6 := goodIn_r _ [214, 215, 216, 217, 218, 219, 220, 221, 222, 223, 224, 225, 226, 227, 228, 229, 230, 231, 232, 233, 234, 235, 236, 237] (by decide +kernel) (by decide +kernel)
set_option maxRecDepth 20000 in
theorem hv_law_wsL_holds_r7 : GoodIn wsL_law wsL_holds_r7 := goodIn_r _ [238, 239, 47, 240, 241, 242, 243, 244, 105, 107, 245, 246, 247, 248, 249, 250, 251, 252, 253, 254, 255, 256, 257, 258] (by decide +kernel) (by decide +kernel)
set_option maxRecDepth 20000 in
theorem hv_law_wsL_holds_r8 : GoodIn wsL_law wsL_holds_r8 := goodIn_r _ [259, 260, 261, 262, 263, 264, 265, 266, 267, 268, 269, 270, 271, 272, 273, 274, 275, 276, 277, 278, 279, 280, 281] (by decide +kernel) (by decide +kernel)
set_option maxRecDepth 20000 in
theorem hv_law_holds_wsX70 : GoodIn wsL_law wsX70 := goodIn_sub (by decide +kernel) (by decide +kernel)
set_option maxRecDepth 20000 in
theorem hv_law_holds_wsX40 : GoodIn wsL_law wsX40 := goodIn_sub (by decide +kernel) (by decide +kernel)
set_option maxRecDepth 20000 in
theorem hv_law_holds_wsX10 : GoodIn wsL_law wsX10 := goodIn_sub (by decide +kernel) (by decide +kernel)
set_option maxRecDepth 20000 in
theorem hv_law_holds_wsX30 : GoodIn wsL_law wsX30 := goodIn_sub (by decide +kernel) (by decide +kernel)
set_option maxRecDepth 20000 in
theorem hv_law_holds_wsX50 : GoodIn wsL_law wsX50 := goodIn_sub (by decide +kernel) (by decide +kernel)
theorem ggL_law_L_holds : GoodIn wsL_law wsL_holds := fun w h => (List.mem_cons.mp (show w ∈ Cond.code yL_holds cL_holds 13 (some .boolean) :: ((wsL_holds_r1 ++ (wsL_holds_r2 ++ (wsL_holds_r3 ++ (wsL_holds_r4 ++ (wsL_holds_r5 ++ (wsL_holds_r6 ++ (wsL_holds_r7 ++ wsL_holds_r8))))))) ++ wsX70 ++ wsX40 ++ wsX10 ++ wsX30 ++ wsX50) from h)).elim (fun e => by
  rw [e]
  exact ⟨List.mem_of_getElem? at_law_holds, Or.inl rfl⟩) ((goodIn_app (goodIn_app (goodIn_app (goodIn_app (goodIn_app (goodIn_app hv_law_wsL_holds_r1 (goodIn_app hv_law_wsL_holds_r2 (goodIn_app hv_law_wsL_holds_r3 (goodIn_app hv_law_wsL_holds_r4 (goodIn_app hv_law_wsL_holds_r5 (goodIn_app hv_law_wsL_holds_r6 (goodIn_app hv_law_wsL_holds_r7 hv_law_wsL_holds_r8))))))) hv_law_holds_wsX70) hv_law_holds_wsX40) hv_law_holds_wsX10) hv_law_holds_wsX30) hv_law_holds_wsX50) w)
set_option maxRecDepth 20000 in
theorem gL_law_L_holds : GoodIn wsL_law (va_wsS RL 105 yL_holds wsL_holds) := goodIn_app (goodIn_of _ (by decide +kernel)) ggL_law_L_holds
theorem at_law_would : wsL_law[284]? = some (Cond.code yL_would cL_would 17 (some .boolean)) := by rfl
set_option maxRecDepth 20000 in
theorem hv_law_wsL_would_r1 : GoodIn wsL_law wsL_would_r1 := goodIn_r _ [285, 286, 127, 287, 288, 289, 290, 291, 2, 292, 12, 19, 293, 294, 295, 11, 296, 297, 298, 106, 299, 300, 165, 166] (by decide +kernel) (by decide +kernel)
set_option maxRecDepth 20000 in
theorem hv_law_wsL_would_r2 : GoodIn wsL_law wsL_would_r2 := goodIn_r _ [142, 143, 144, 145, 48, 301, 302, 303, 304, 18, 305, 59, 60, 61, 62, 63, 306, 185, 186, 187, 49, 307, 308, 309] (by decide +kernel) (by decide +kernel)
