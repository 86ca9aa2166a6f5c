set_option maxRecDepth 20000 in
theorem hv_law_wsL_would_r3 : GoodIn wsL_law wsL_would_r3 := goodIn_r _ [310, 311, 147, 148, 149, 150, 151, 152, 312, 313, 314, 315, 316, 317, 318, 319, 320, 321, 322, 323, 324, 325, 326, 327] (by decide +kernel) (by decide +kernel)
set_option maxRecDepth 20000 in
theorem hv_law_wsL_would_r4 : GoodIn wsL_law wsL_would_r4 := goodIn_r _ [328, 329, 330, 331, 332, 333, 334, 335, 336, 337, 162, 30, 163, 164, 167, 168, 169, 170, 171, 226, 227, 228, 229, 27] (by decide +kernel) (by decide +kernel)
set_option maxRecDepth 20000 in
theorem hv_law_wsL_would_r5 : GoodIn wsL_law wsL_would_r5 := goodIn_r _ [230, 173, 174, 175, 50, 192, 193, 194, 26, 195, 79, 196, 197, 198, 199, 46, 200, 201, 202, 203, 204, 73, 74, 75] (by decide +kernel) (by decide +kernel)
set_option maxRecDepth 20000 in
theorem hv_law_wsL_would_r6 : GoodIn wsL_law wsL_would_r6 := goodIn_r _ [76, 77, 78, 205, 206, 207, 208, 209, 210, 211, 212, 231, 232, 233, 234, 45, 235, 180, 181, 182, 183, 31, 157, 158] (by decide +kernel) (by decide +kernel)
set_option maxRecDepth 20000 in
theorem hv_law_wsL_would_r7 : GoodIn wsL_law wsL_would_r7 := goodIn_r _ [159, 160, 84, 85, 83, 161, 172, 236, 237, 238, 239, 47, 129, 130, 131, 132, 35, 36, 133, 134, 135, 136, 137, 119] (by decide +kernel) (by decide +kernel)
set_option maxRecDepth 20000 in
theorem hv_law_wsL_would_r8 : GoodIn wsL_law wsL_would_r8 := goodIn_r _ [116, 120, 111, 112, 113, 114, 115, 117, 118, 138, 139, 140, 141, 146, 153, 154, 155, 156, 176, 177, 178, 179, 184, 188] (by decide +kernel) (by decide +kernel)
set_option maxRecDepth 20000 in
theorem hv_law_wsL_would_r9 : GoodIn wsL_law wsL_would_r9 := goodIn_r _ [189, 190, 191, 213, 214, 215, 216, 217, 218, 219, 220, 221, 222, 223, 224, 225, 338, 339, 340, 341, 14, 23, 342, 343] (by decide +kernel) (by decide +kernel)
set_option maxRecDepth 20000 in
theorem hv_law_wsL_would_r10 : GoodIn wsL_law wsL_would_r10 := goodIn_r _ [344, 345, 273, 346, 347, 348, 349, 350, 351, 352, 353, 51, 52, 53, 54, 55, 354, 355, 356, 22, 357, 68, 69, 358] (by decide +kernel) (by decide +kernel)
set_option maxRecDepth 20000 in
theorem hv_law_wsL_would_r11 : GoodIn wsL_law wsL_would_r11 := goodIn_r _ [359, 360, 361, 362, 363, 100, 101, 102, 103, 104, 105, 107, 364, 365, 366, 367, 368, 267, 268, 269, 270, 271, 272, 240] (by decide +kernel) (by decide +kernel)
set_option maxRecDepth 20000 in
theorem hv_law_wsL_would_r12 : GoodIn wsL_law wsL_would_r12 := goodIn_r _ [241, 242, 243, 244, 245, 246, 247, 248, 249, 250, 251, 252, 253, 258, 259, 260, 261, 262, 263, 264, 265, 266, 274, 275] (by decide +kernel) (by decide +kernel)
set_option maxRecDepth 20000 in
theorem hv_law_wsL_would_r13 : GoodIn wsL_law wsL_would_r13 := goodIn_r _ [276, 277] (by decide +kernel) (by decide +kernel)
set_option maxRecDepth 20000 in
theorem hv_law_would_wsX70 : GoodIn wsL_law wsX70 := goodIn_sub (by decide +kernel) (by decide +kernel)
set_option maxRecDepth 20000 in
theorem hv_law_would_wsX60 : GoodIn wsL_law wsX60 := goodIn_sub (by decide +kernel) (by decide +kernel)
set_option maxRecDepth 20000 in
theorem hv_law_would_wsX40 : GoodIn wsL_law wsX40 := goodIn_sub (by decide +kernel) (by decide +kernel)
set_option maxRecDepth 20000 in
theorem hv_law_would_wsX50 : GoodIn wsL_law wsX50 := goodIn_sub (by decide +kernel) (by decide +kernel)
set_option maxRecDepth 20000 in
theorem hv_law_would_wsX30 : GoodIn wsL_law wsX30 := goodIn_sub (by decide +kernel) (by decide +kernel)
set_option maxRecDepth 20000 in
theorem hv_law_would_wsX10 : GoodIn wsL_law wsX10 := goodIn_sub (by decide +kernel) (by decide +kernel)
set_option maxRecDepth 20000 in
theorem hv_law_would_wsX00 : GoodIn wsL_law wsX00 := goodIn_sub (by decide +kernel) (by decide +kernel)
theorem ggL_law_L_would : GoodIn wsL_law wsL_would := fun w h => (List.mem_cons.mp (show w ∈ Cond.code yL_would cL_would 17 (some .boolean) :: ((wsL_would_r1 ++ (wsL_would_r2 ++ (wsL_would_r3 ++ (wsL_would_r4 ++ (wsL_would_r5 ++ (wsL_would_r6 ++ (wsL_would_r7 ++ (wsL_would_r8 ++ (wsL_would_r9 ++ (wsL_would_r10 ++ (wsL_would_r11 ++ (wsL_would_r12 ++ wsL_would_r13)))))))))))) ++ wsX70 ++ wsX60 ++ wsX40 ++ wsX50 ++ wsX30 ++ wsX10 ++ wsX00) from h)).elim (fun e => by
  rw [e]
  exact ⟨List.mem_of_getElem? at_law_would, Or.inl rfl⟩) ((goodIn_app (goodIn_app (goodIn_app (goodIn_app (goodIn_app (goodIn_app (goodIn_app (goodIn_app hv_law_wsL_would_r1 (goodIn_app hv_law_wsL_would_r2 (goodIn_app hv_law_wsL_would_r3 (goodIn_app hv_law_wsL_would_r4 (goodIn_app hv_law_wsL_would_r5 (goodIn_app hv_law_wsL_would_r6 (goodIn_app hv_law_wsL_would_r7 (goodIn_app hv_law_wsL_would_r8 (goodIn_app hv_law_wsL_would_r9 (goodIn_app hv_law_wsL_would_r10 (goodIn_app hv_law_wsL_would_r11 (goodIn_app hv_law_wsL_would_r12 hv_law_wsL_would_r13)))))))))))) hv_law_would_wsX70) hv_law_would_wsX60) hv_law_would_wsX40) hv_law_would_wsX50) hv_law_would_wsX30) hv_law_would_wsX10) hv_law_would_wsX00) w)
set_option maxRecDepth 20000 in
theorem gL_law_L_would : GoodIn wsL_law (va_wsS RL 109 yL_would wsL_would) := goodIn_app (goodIn_of _ (by decide +kernel)) ggL_law_L_would
set_option maxRecDepth 20000 in
theorem ggL_law_X7_undo : GoodIn wsL_law wsX7_undo := goodIn_r _ [372, 36, 12, 15, 346, 347, 348, 11, 349, 45, 350, 351, 352, 353, 46, 47, 48, 49, 50, 51, 52, 53, 54, 55, 522, 523, 524, 525, 526, 527, 528, 529, 530, 531, 532, 533, 534, 535, 536, 537, 538, 539, 540, 541, 542, 543, 544, 545, 546] (by decide +kernel) (by decide +kernel)
set_option maxRecDepth 20000 in
theorem gL_law_X7_undo : GoodIn wsL_law (wsV RL 112 RX7 yX7_undo wsX7_undo) := goodIn_app (goodIn_of _ (by decide +kernel)) ggL_law_X7_undo
set_option maxRecDepth 20000 in
theorem ggL_law_X7_restore : GoodIn wsL_law wsX7_restore := goodIn_r _ [376, 37, 12, 13, 377, 378, 379, 2, 380, 36, 15, 381, 382, 383, 384, 346, 347, 348, 11, 349, 45, 350, 351, 352, 353, 46, 47, 48, 49, 50, 51, 52, 53, 54, 55, 522, 523, 524, 525, 526, 527, 528, 529, 530, 531, 532, 533, 534, 535, 536, 537, 538, 539, 540, 541, 542, 543, 544, 545, 546] (by decide +kernel) (by decide +kernel)
set_option maxRecDepth 20000 in
theorem gL_law_X7_restore : GoodIn wsL_law (wsV RL 115 RX7 yX7_restore wsX7_restore) := goodIn_app (goodIn_of _ (by decide +kernel)) ggL_law_X7_restore
set_option maxRecDepth 20000 in
theorem ggL_law_X7_save : GoodIn wsL_law wsX7_save := goodIn_r _ [388, 13, 12, 37, 346, 347, 348, 11, 349, 45, 350, 351, 352, 353, 46, 47, 48, 49, 50, 51, 52, 53, 54, 55, 522, 523, 524, 525, 526, 527, 528, 529, 530, 531, 532, 533, 534, 535, 536, 537, 538, 539, 540, 541, 542, 543, 544, 545, 546] (by decide +kernel) (by decide +kernel)
set_option maxRecDepth 20000 in
theorem gL_law_X7_save : GoodIn wsL_law (wsV RL 118 RX7 yX7_save wsX7_save) := goodIn_app (goodIn_of _ (by decide +kernel)) ggL_law_X7_save
set_option maxRecDepth 20000 in
theorem ggL_law_L_look : GoodIn wsL_law wsL_look := goodIn_r _ [391, 392, 393, 129, 130, 131, 2, 132, 12, 35, 36, 133, 134, 135, 11, 136, 50, 45, 137, 119, 116, 120, 111, 112, 106, 113, 114, 115, 117, 118, 138, 139, 140, 141, 142, 143, 144, 145, 48, 146, 147, 148, 149, 150, 151, 152, 153, 154, 155, 156, 31, 157, 158, 159, 30, 160, 84, 85, 83, 161, 162, 163, 164, 165, 166, 167, 168, 169, 170, 171, 172, 173, 174, 175, 176, 177, 178, 179, 180, 181, 182, 183, 184, 185, 186, 187, 49, 188, 189, 190, 191, 27, 192, 193, 194, 26, 195, 79, 196, 197, 198, 199, 46, 200, 201, 202, 203, 204, 73, 74, 75, 76, 77, 78, 205, 206, 207, 208, 209, 210, 211, 212, 213, 214, 215, 216, 217, 218, 219, 220, 221, 222, 223, 224, 225, 226, 227, 228, 229, 230, 231, 232, 233, 234, 235, 236, 237, 238, 239, 47, 522, 523, 524, 525, 526, 527, 528, 529, 530, 531, 532, 533, 534, 535, 536, 537, 538, 539, 540, 541, 542, 543, 544, 545, 546, 564, 565, 566, 567, 568, 569, 561, 562, 563, 554, 555, 556, 557, 558, 559, 560] (by decide +kernel) (by decide +kernel)
set_option maxRecDepth 20000 in
theorem gL_law_L_look : GoodIn wsL_law (va_wsS RL 64 yL_look wsL_look) := goodIn_app (goodIn_of _ (by decide +kernel)) ggL_law_L_look
set_option maxRecDepth 20000 in
theorem ggL_law_L_lot : GoodIn wsL_law wsL_lot := goodIn_r _ [396, 397] (by decide +kernel) (by decide +kernel)
set_option maxRecDepth 20000 in
theorem gL_law_L_lot : GoodIn wsL_law (va_wsS RL 121 yL_lot wsL_lot) := goodIn_app (goodIn_of _ (by decide +kernel)) ggL_law_L_lot
set_option maxRecDepth 20000 in
theorem ggL_law_X7_count : GoodIn wsL_law wsX7_count := goodIn_r _ [132, 12, 35, 36, 133, 134, 135, 11, 136, 50, 45, 137, 119, 116, 120, 111, 112, 106, 113, 114, 115, 117, 118, 138, 139, 140, 141, 142, 143, 144, 145, 48, 146, 147, 148, 149, 150, 151, 152, 153, 154, 155, 2, 156, 31, 157, 158, 159, 30, 160, 84, 85, 83, 161, 162, 163, 164, 165, 166, 167, 168, 169, 170, 171, 172, 173, 174, 175, 176, 177, 178, 179, 180, 181, 182, 183, 184, 185, 186, 187, 49, 188, 189, 190, 191, 27, 192, 193, 194, 26, 195, 79, 196, 197, 198, 199, 46, 200, 201, 202, 203, 204, 73, 74, 75, 76, 77, 78, 205, 206, 207, 208, 209, 210, 211, 212, 213, 214, 215, 216, 217, 218, 219, 220, 221, 222, 223, 224, 225, 522, 523, 524, 525, 526, 527, 528, 529, 530, 531, 532, 533, 534, 535, 536, 537, 538, 539, 540, 541, 542, 543, 544, 545, 546, 564, 565, 566, 567, 568, 569, 561, 562, 563, 554, 555, 556, 557, 558, 559, 560] (by decide +kernel) (by decide +kernel)
set_option maxRecDepth 20000 in
theorem gL_law_X7_count : GoodIn wsL_law (wsV RL 13 RX7 yX7_count wsX7_count) := goodIn_app (goodIn_of _ (by decide +kernel)) ggL_law_X7_count
theorem at_law_acts : wsL_law[400]? = some (Cond.code yL_acts cL_acts 10 (some .boolean)) := by rfl
set_option maxRecDepth 20000 in
theorem hv_law_wsL_acts_r1 : GoodIn wsL_law wsL_acts_r1 := goodIn_r _ [285, 286, 127, 287, 288, 129, 130, 131, 2, 132, 12, 35, 36, 133, 134, 135, 11, 136, 50, 45, 137, 119, 116, 120] (by decide +kernel) (by decide +kernel)
set_option maxRecDepth 20000 in
theorem hv_law_wsL_acts_r2 : GoodIn wsL_law wsL_acts_r2 := goodIn_r _ [111, 112, 106, 113, 114, 115, 117, 118, 138, 139, 140, 141, 142, 143, 144, 145, 48, 146, 147, 148, 149, 150, 151, 152] (by decide +kernel) (by decide +kernel)
set_option maxRecDepth 20000 in
theorem hv_law_wsL_acts_r3 : GoodIn wsL_law wsL_acts_r3 := goodIn_r _ [153, 154, 155, 156, 31, 157, 158, 159, 30, 160, 84, 85, 83, 161, 162, 163, 164, 165, 166, 167, 168, 169, 170, 171] (by decide +kernel) (by decide +kernel)
set_option maxRecDepth 20000 in
theorem hv_law_wsL_acts_r4 : GoodIn wsL_law wsL_acts_r4 := goodIn_r _ [172, 173, 174, 175, 176, 177, 178, 179, 180, 181, 182, 183, 184, 185, 186, 187, 49, 188, 189, 190, 191, 27, 192, 193] (by decide +kernel) (by decide +kernel)
set_option maxRecDepth 20000 in
theorem hv_law_wsL_acts_r5 : GoodIn wsL_law wsL_acts_r5 := goodIn_r _ [194, 26, 195, 79, 196, 197, 198, 199, 46, 200, 201, 202, 203, 204, 73, 74, 75, 76, 77, 78, 205, 206, 207, 208] (by decide +kernel) (by decide +kernel)
set_option maxRecDepth 20000 in
theorem hv_law_wsL_acts_r6 : GoodIn wsL_law wsL_acts_r6 := goodIn_r _ [209, 210, 211, 212, 213, 214, 215, 216, 217, 218, 219, 220, 221, 222, 223, 224, 225, 289, 290, 291, 292, 19, 293, 294] (by decide +kernel) (by decide +kernel)
