set_option maxRecDepth 20000 in
theorem wsL_law_r1_in : GoodIn lw_tbl wsL_law_r1 := goodIn_p wsL_law_r1 [70, 73] (by decide +kernel) (by decide +kernel)
set_option maxRecDepth 20000 in
theorem wsL_law_r2_in : GoodIn lw_tbl wsL_law_r2 := goodIn_p wsL_law_r2 [78] (by decide +kernel) (by decide +kernel)
set_option maxRecDepth 20000 in
theorem wsL_law_r3_in : GoodIn lw_tbl wsL_law_r3 := goodIn_p wsL_law_r3 [130, 158] (by decide +kernel) (by decide +kernel)
set_option maxRecDepth 20000 in
theorem wsL_law_r4_in : GoodIn lw_tbl wsL_law_r4 := goodIn_p wsL_law_r4 [172, 205, 223] (by decide +kernel) (by decide +kernel)
set_option maxRecDepth 20000 in
theorem wsL_law_r5_in : GoodIn lw_tbl wsL_law_r5 := goodIn_p wsL_law_r5 [252, 255, 258, 261, 264] (by decide +kernel) (by decide +kernel)
set_option maxRecDepth 20000 in
theorem wsL_law_r6_in : GoodIn lw_tbl wsL_law_r6 := goodIn_p wsL_law_r6 [268, 271, 678, 683, 686] (by decide +kernel) (by decide +kernel)
set_option maxRecDepth 20000 in
theorem wsL_law_r7_in : GoodIn lw_tbl wsL_law_r7 := goodIn_p wsL_law_r7 [689, 693, 318, 322, 326, 330] (by decide +kernel) (by decide +kernel)
set_option maxRecDepth 20000 in
theorem wsL_law_r8_in : GoodIn lw_tbl wsL_law_r8 := goodIn_p wsL_law_r8 [761, 764, 768, 771, 337] (by decide +kernel) (by decide +kernel)
set_option maxRecDepth 20000 in
theorem wsL_law_r9_in : GoodIn lw_tbl wsL_law_r9 := goodIn_p wsL_law_r9 [775, 341, 345, 348, 351, 355, 359] (by decide +kernel) (by decide +kernel)
set_option maxRecDepth 20000 in
theorem wsL_law_r10_in : GoodIn lw_tbl wsL_law_r10 := goodIn_p wsL_law_r10 [364, 368, 372, 376, 379, 383] (by decide +kernel) (by decide +kernel)
set_option maxRecDepth 20000 in
theorem wsL_law_r11_in : GoodIn lw_tbl wsL_law_r11 := goodIn_p wsL_law_r11 [386, 390, 396, 400, 404, 779] (by decide +kernel) (by decide +kernel)
set_option maxRecDepth 20000 in
theorem wsL_law_r12_in : GoodIn lw_tbl wsL_law_r12 := goodIn_p wsL_law_r12 [783, 786, 790, 793, 797, 801] (by decide +kernel) (by decide +kernel)
set_option maxRecDepth 20000 in
theorem wsL_law_r13_in : GoodIn lw_tbl wsL_law_r13 := goodIn_p wsL_law_r13 [805, 809, 813, 816, 820, 824] (by decide +kernel) (by decide +kernel)
set_option maxRecDepth 20000 in
theorem wsL_law_r14_in : GoodIn lw_tbl wsL_law_r14 := goodIn_p wsL_law_r14 [409, 413, 418, 828, 832] (by decide +kernel) (by decide +kernel)
set_option maxRecDepth 20000 in
theorem wsL_law_r15_in : GoodIn lw_tbl wsL_law_r15 := goodIn_p wsL_law_r15 [423, 427, 431, 435, 439, 444] (by decide +kernel) (by decide +kernel)
set_option maxRecDepth 20000 in
theorem wsL_law_r16_in : GoodIn lw_tbl wsL_law_r16 := goodIn_p wsL_law_r16 [836, 840, 844, 848, 852, 856] (by decide +kernel) (by decide +kernel)
set_option maxRecDepth 20000 in
theorem wsL_law_r17_in : GoodIn lw_tbl wsL_law_r17 := goodIn_p wsL_law_r17 [448, 452, 860, 864, 868, 456] (by decide +kernel) (by decide +kernel)
set_option maxRecDepth 20000 in
theorem wsL_law_r18_in : GoodIn lw_tbl wsL_law_r18 := goodIn_p wsL_law_r18 [459, 463, 872, 875, 878, 468] (by decide +kernel) (by decide +kernel)
set_option maxRecDepth 20000 in
theorem wsL_law_r19_in : GoodIn lw_tbl wsL_law_r19 := goodIn_p wsL_law_r19 [472, 882, 476, 480, 886, 484] (by decide +kernel) (by decide +kernel)
set_option maxRecDepth 20000 in
theorem wsL_law_r20_in : GoodIn lw_tbl wsL_law_r20 := goodIn_p wsL_law_r20 [488, 491, 494, 497, 890, 894] (by decide +kernel) (by decide +kernel)
set_option maxRecDepth 20000 in
theorem wsL_law_r21_in : GoodIn lw_tbl wsL_law_r21 := goodIn_p wsL_law_r21 [898, 902, 906, 910, 501, 505] (by decide +kernel) (by decide +kernel)
set_option maxRecDepth 20000 in
theorem wsL_law_r22_in : GoodIn lw_tbl wsL_law_r22 := goodIn_p wsL_law_r22 [509, 513, 914, 918, 517] (by decide +kernel) (by decide +kernel)
set_option maxRecDepth 20000 in
theorem wsL_law_r23_in : GoodIn lw_tbl wsL_law_r23 := goodIn_p wsL_law_r23 [922, 521, 528, 531, 926, 929] (by decide +kernel) (by decide +kernel)
set_option maxRecDepth 20000 in
theorem wsL_law_r24_in : GoodIn lw_tbl wsL_law_r24 := goodIn_p wsL_law_r24 [933, 936, 535, 540, 545, 549] (by decide +kernel) (by decide +kernel)
set_option maxRecDepth 20000 in
theorem wsL_law_r25_in : GoodIn lw_tbl wsL_law_r25 := goodIn_p wsL_law_r25 [553, 558, 562, 565, 569] (by decide +kernel) (by decide +kernel)
set_option maxRecDepth 20000 in
theorem wsL_law_r26_in : GoodIn lw_tbl wsL_law_r26 := goodIn_p wsL_law_r26 [575, 940, 944, 948, 952, 956] (by decide +kernel) (by decide +kernel)
set_option maxRecDepth 20000 in
theorem wsL_law_r27_in : GoodIn lw_tbl wsL_law_r27 := goodIn_p wsL_law_r27 [960, 964, 967, 971, 579, 975] (by decide +kernel) (by decide +kernel)
set_option maxRecDepth 20000 in
theorem wsL_law_r28_in : GoodIn lw_tbl wsL_law_r28 := goodIn_p wsL_law_r28 [585, 979, 589, 593, 597, 983] (by decide +kernel) (by decide +kernel)
set_option maxRecDepth 20000 in
theorem wsL_law_r29_in : GoodIn lw_tbl wsL_law_r29 := goodIn_p wsL_law_r29 [601, 605, 610, 987, 615] (by decide +kernel) (by decide +kernel)
set_option maxRecDepth 20000 in
theorem wsL_law_r30_in : GoodIn lw_tbl wsL_law_r30 := goodIn_p wsL_law_r30 [619, 623, 628, 632, 637, 641] (by decide +kernel) (by decide +kernel)
set_option maxRecDepth 20000 in
theorem wsL_law_r31_in : GoodIn lw_tbl wsL_law_r31 := goodIn_p wsL_law_r31 [645, 649, 991, 995, 999, 1003] (by decide +kernel) (by decide +kernel)
set_option maxRecDepth 20000 in
theorem wsL_law_r32_in : GoodIn lw_tbl wsL_law_r32 := goodIn_p wsL_law_r32 [1007, 1011, 653, 1015, 657, 1019] (by decide +kernel) (by decide +kernel)
set_option maxRecDepth 20000 in
theorem wsL_law_r33_in : GoodIn lw_tbl wsL_law_r33 := goodIn_p wsL_law_r33 [661, 1023, 1027, 665, 1031, 669] (by decide +kernel) (by decide +kernel)
set_option maxRecDepth 20000 in
theorem wsL_law_r34_in : GoodIn lw_tbl wsL_law_r34 := goodIn_p wsL_law_r34 [1035, 673, 1039] (by decide +kernel) (by decide +kernel)
set_option maxRecDepth 20000 in
theorem wsX70_lawin : GoodIn lw_tbl wsX70 := goodIn_p wsX70 [] (by decide +kernel) (by decide +kernel)
set_option maxRecDepth 20000 in
theorem wsX80_lawin : GoodIn lw_tbl wsX80 := goodIn_p wsX80 [] (by decide +kernel) (by decide +kernel)
set_option maxRecDepth 20000 in
theorem wsX40_lawin : GoodIn lw_tbl wsX40 := goodIn_p wsX40 [] (by decide +kernel) (by decide +kernel)
set_option maxRecDepth 20000 in
theorem wsX60_lawin : GoodIn lw_tbl wsX60 := goodIn_p wsX60 [] (by decide +kernel) (by decide +kernel)
set_option maxRecDepth 20000 in
theorem wsX00_lawin : GoodIn lw_tbl wsX00 := goodIn_p wsX00 [] (by decide +kernel) (by decide +kernel)
set_option maxRecDepth 20000 in
theorem wsX50_lawin : GoodIn lw_tbl wsX50 := goodIn_p wsX50 [] (by decide +kernel) (by decide +kernel)
set_option maxRecDepth 20000 in
theorem wsX30_lawin : GoodIn lw_tbl wsX30 := goodIn_p wsX30 [] (by decide +kernel) (by decide +kernel)
set_option maxRecDepth 20000 in
theorem wsX10_lawin : GoodIn lw_tbl wsX10 := goodIn_p wsX10 [] (by decide +kernel) (by decide +kernel)
theorem wsL_law_good : GoodIn lw_tbl wsL_law := goodIn_app (goodIn_app (goodIn_app (goodIn_app (goodIn_app (goodIn_app (goodIn_app (goodIn_app (goodIn_app (goodIn_app wsL_law_r1_in (goodIn_app wsL_law_r2_in (goodIn_app wsL_law_r3_in (goodIn_app wsL_law_r4_in (goodIn_app wsL_law_r5_in (goodIn_app wsL_law_r6_in (goodIn_app wsL_law_r7_in (goodIn_app wsL_law_r8_in (goodIn_app wsL_law_r9_in (goodIn_app wsL_law_r10_in (goodIn_app wsL_law_r11_in (goodIn_app wsL_law_r12_in (goodIn_app wsL_law_r13_in (goodIn_app wsL_law_r14_in (goodIn_app wsL_law_r15_in (goodIn_app wsL_law_r16_in (goodIn_app wsL_law_r17_in (goodIn_app wsL_law_r18_in (goodIn_app wsL_law_r19_in (goodIn_app wsL_law_r20_in (goodIn_app wsL_law_r21_in (goodIn_app wsL_law_r22_in (goodIn_app wsL_law_r23_in (goodIn_app wsL_law_r24_in (goodIn_app wsL_law_r25_in (goodIn_app wsL_law_r26_in (goodIn_app wsL_law_r27_in (goodIn_app wsL_law_r28_in (goodIn_app wsL_law_r29_in (goodIn_app wsL_law_r30_in (goodIn_app wsL_law_r31_in (goodIn_app wsL_law_r32_in (goodIn_app wsL_law_r33_in (wsL_law_r34_in)))))))))))))))))))))))))))))))))) wsX70_lawin) wsX80_lawin) wsX40_lawin) wsX60_lawin) wsX00_lawin) wsX50_lawin) wsX30_lawin) wsX10_lawin) (fun _ h => absurd h List.not_mem_nil)
theorem wsL_law_in : ∀ w ∈ wsL_law, w ∈ lw_tbl := fun w h => (wsL_law_good w h).1
theorem inlX0 : ∀ w ∈ wsX00, w ∈ wsL_law := fun _ h => List.mem_append_left _ (List.mem_append_left _ (List.mem_append_left _ (List.mem_append_left _ (List.mem_append_right _ h))))
theorem inX0 : ∀ w ∈ wsX00, w ∈ lw_tbl := fun w h => wsL_law_in w (inlX0 w h)
theorem inlX1 : ∀ w ∈ wsX10, w ∈ wsL_law := fun _ h => List.mem_append_left _ (List.mem_append_right _ h)
theorem inX1 : ∀ w ∈ wsX10, w ∈ lw_tbl := fun w h => wsL_law_in w (inlX1 w h)
theorem inX2 : ∀ w ∈ wsX20, w ∈ lw_tbl := by decide +kernel
theorem inlX3 : ∀ w ∈ wsX30, w ∈ wsL_law := fun _ h => List.mem_append_left _ (List.mem_append_left _ (List.mem_append_right _ h))
theorem inX3 : ∀ w ∈ wsX30, w ∈ lw_tbl := fun w h => wsL_law_in w (inlX3 w h)
theorem inlX4 : ∀ w ∈ wsX40, w ∈ wsL_law := fun _ h => List.mem_append_left _ (List.mem_append_left _ (List.mem_append_left _ (List.mem_append_left _ (List.mem_append_left _ (List.mem_append_left _ (List.mem_append_right _ h))))))
theorem inX4 : ∀ w ∈ wsX40, w ∈ lw_tbl := fun w h => wsL_law_in w (inlX4 w h)
theorem inlX5 : ∀ w ∈ wsX50, w ∈ wsL_law := fun _ h => List.mem_append_left _ (List.mem_append_left _ (List.mem_append_left _ (List.mem_append_right _ h)))
theorem inX5 : ∀ w ∈ wsX50, w ∈ lw_tbl := fun w h => wsL_law_in w (inlX5 w h)
theorem inlX6 : ∀ w ∈ wsX60, w ∈ wsL_law := fun _ h => List.mem_append_left _ (List.mem_append_left _ (List.mem_append_left _ (List.mem_append_left _ (List.mem_append_left _ (List.mem_append_right _ h)))))
theorem inX6 : ∀ w ∈ wsX60, w ∈ lw_tbl := fun w h => wsL_law_in w (inlX6 w h)
theorem inlX7 : ∀ w ∈ wsX70, w ∈ wsL_law := fun _ h => List.mem_append_left _ (List.mem_append_left _ (List.mem_append_left _ (List.mem_append_left _ (List.mem_append_left _ (List.mem_append_left _ (List.mem_append_left _ (List.mem_append_left _ (List.mem_append_right _ h))))))))
theorem inX7 : ∀ w ∈ wsX70, w ∈ lw_tbl := fun w h => wsL_law_in w (inlX7 w h)
theorem inlX8 : ∀ w ∈ wsX80, w ∈ wsL_law := fun _ h => List.mem_append_left _ (List.mem_append_left _ (List.mem_append_left _ (List.mem_append_left _ (List.mem_append_left _ (List.mem_append_left _ (List.mem_append_left _ (List.mem_append_right _ h)))))))
theorem inX8 : ∀ w ∈ wsX80, w ∈ lw_tbl := fun w h => wsL_law_in w (inlX8 w h)
theorem inJ9 : ∀ w ∈ wsJ90, w ∈ lw_tbl := by decide +kernel
theorem inJ10 : ∀ w ∈ wsJ100, w ∈ lw_tbl := by decide +kernel
