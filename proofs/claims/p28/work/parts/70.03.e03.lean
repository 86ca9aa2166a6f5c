theorem dL_carries_275 : decode cL_carries 275 = .ok (.if_icmp .eq 13, 3) := by decide +kernel
theorem dL_carries_278 : decode cL_carries 278 = .ok (.aload_n 0, 1) := by decide +kernel
theorem dL_carries_279 : decode cL_carries 279 = .ok (.iconst 0, 1) := by decide +kernel
theorem dL_carries_280 : decode cL_carries 280 = .ok (.invokevirtual 68, 3) := by decide +kernel
theorem dL_carries_283 : decode cL_carries 283 = .ok (.bipush (-2), 2) := by decide +kernel
theorem dL_carries_285 : decode cL_carries 285 = .ok (.if_icmp .ne 39, 3) := by decide +kernel
theorem dL_carries_288 : decode cL_carries 288 = .ok (.aload_n 0, 1) := by decide +kernel
theorem dL_carries_289 : decode cL_carries 289 = .ok (.iconst 1, 1) := by decide +kernel
theorem dL_carries_290 : decode cL_carries 290 = .ok (.invokevirtual 68, 3) := by decide +kernel
theorem dL_carries_293 : decode cL_carries 293 = .ok (.iload 11, 2) := by decide +kernel
theorem dL_carries_295 : decode cL_carries 295 = .ok (.if_icmp .ne 29, 3) := by decide +kernel
theorem dL_carries_298 : decode cL_carries 298 = .ok (.aload_n 0, 1) := by decide +kernel
theorem dL_carries_299 : decode cL_carries 299 = .ok (.iconst 2, 1) := by decide +kernel
theorem dL_carries_300 : decode cL_carries 300 = .ok (.invokevirtual 68, 3) := by decide +kernel
theorem dL_carries_303 : decode cL_carries 303 = .ok (.iconst 2, 1) := by decide +kernel
theorem dL_carries_304 : decode cL_carries 304 = .ok (.iload 11, 2) := by decide +kernel
theorem dL_carries_306 : decode cL_carries 306 = .ok (.imul, 1) := by decide +kernel
theorem dL_carries_307 : decode cL_carries 307 = .ok (.if_icmp .lt 17, 3) := by decide +kernel
theorem dL_carries_310 : decode cL_carries 310 = .ok (.aload_n 0, 1) := by decide +kernel
theorem dL_carries_311 : decode cL_carries 311 = .ok (.iconst 2, 1) := by decide +kernel
theorem dL_carries_312 : decode cL_carries 312 = .ok (.invokevirtual 68, 3) := by decide +kernel
theorem dL_carries_315 : decode cL_carries 315 = .ok (.iload 9, 2) := by decide +kernel
theorem dL_carries_317 : decode cL_carries 317 = .ok (.if_icmp .ge 7, 3) := by decide +kernel
theorem dL_carries_320 : decode cL_carries 320 = .ok (.iconst 1, 1) := by decide +kernel
theorem dL_carries_321 : decode cL_carries 321 = .ok (.goto 4, 3) := by decide +kernel
theorem dL_carries_324 : decode cL_carries 324 = .ok (.iconst 0, 1) := by decide +kernel
theorem dL_carries_325 : decode cL_carries 325 = .ok (.ireturn, 1) := by decide +kernel
set_option maxRecDepth 20000 in
theorem ggL_acts_L_low : GoodIn wsL_acts wsL_low := goodIn_r _ [4, 5] (by decide +kernel) (by decide +kernel)
set_option maxRecDepth 20000 in
theorem gL_acts_L_low : GoodIn wsL_acts (va_wsS RL 38 yL_low wsL_low) := goodIn_app (goodIn_of _ (by decide +kernel)) ggL_acts_L_low
set_option maxRecDepth 20000 in
theorem ggL_acts_X7_count : GoodIn wsL_acts wsX7_count := goodIn_r _ [10, 11, 12, 13, 14, 15, 16, 17, 18, 19, 20, 21, 22, 23, 24, 25, 26, 27, 28, 29, 30, 31, 32, 33, 34, 35, 36, 37, 38, 39, 40, 41, 42, 43, 44, 45, 46, 47, 48, 49, 50, 51, 9, 52, 53, 54, 55, 56, 57, 58, 59, 60, 61, 62, 63, 64, 65, 66, 67, 68, 69, 70, 71, 72, 73, 74, 75, 76, 77, 78, 79, 80, 81, 82, 83, 84, 85, 86, 87, 88, 89, 90, 91, 92, 93, 94, 95, 96, 97, 98, 99, 100, 101, 102, 103, 104, 105, 106, 107, 108, 109, 110, 111, 112, 113, 114, 115, 116, 117, 118, 119, 120, 121, 122, 123, 124, 125, 126, 127, 128, 129, 130, 131, 132, 133, 134, 135, 136, 137, 417, 418, 419, 420, 421, 422, 423, 424, 425, 426, 427, 428, 429, 430, 431, 432, 433, 434, 435, 436, 437, 438, 439, 440, 441, 442, 443, 444, 445, 446, 447, 448, 449, 450, 451, 452, 453, 454, 455, 456, 457] (by decide +kernel) (by decide +kernel)
set_option maxRecDepth 20000 in
theorem gL_acts_X7_count : GoodIn wsL_acts (wsV RL 13 RX7 yX7_count wsX7_count) := goodIn_app (goodIn_of _ (by decide +kernel)) ggL_acts_X7_count
set_option maxRecDepth 20000 in
theorem ggL_acts_X7_ifGone : GoodIn wsL_acts wsX7_ifGone := goodIn_r _ [141, 11, 142, 143, 144, 145, 17, 146, 147, 148, 27, 149, 150, 66, 67, 37, 38, 39, 40, 41, 151, 152, 153, 154, 155, 156, 157, 158, 159, 160, 161, 162, 86, 87, 88, 89, 163, 164, 165, 166, 167, 43, 44, 45, 46, 47, 48, 168, 169, 170, 171, 172, 9, 173, 174, 175, 176, 177, 178, 179, 180, 181, 182, 183, 184, 185, 186, 187, 417, 418, 419, 420, 421, 422, 423, 424, 425, 426, 427, 428, 429, 430, 458, 459, 460, 461, 462, 431, 432, 433, 434, 435, 436, 437, 438, 439, 440, 441] (by decide +kernel) (by decide +kernel)
set_option maxRecDepth 20000 in
theorem gL_acts_X7_ifGone : GoodIn wsL_acts (wsV RL 41 RX7 yX7_ifGone wsX7_ifGone) := goodIn_app (goodIn_of _ (by decide +kernel)) ggL_acts_X7_ifGone
set_option maxRecDepth 20000 in
theorem ggL_acts_X7_go : GoodIn wsL_acts wsX7_go := goodIn_r _ [191, 11, 143, 144, 145, 17, 146, 147, 148, 27, 149, 150, 66, 67, 37, 38, 39, 40, 41, 192, 193, 194, 9, 195, 13, 196, 197, 198, 199, 200, 201, 202, 203, 204, 20, 205, 206, 207, 208, 105, 209, 89, 19, 210, 211, 212, 213, 214, 215, 216, 217, 218, 142, 151, 152, 153, 154, 155, 156, 157, 158, 159, 160, 161, 162, 86, 87, 88, 163, 164, 165, 166, 167, 43, 44, 45, 46, 47, 48, 168, 169, 170, 171, 172, 173, 174, 175, 176, 177, 178, 179, 219, 220, 221, 222, 223, 185, 186, 187, 224, 225, 226, 227, 228, 229, 230, 231, 232, 233, 234, 180, 181, 182, 183, 184, 417, 418, 419, 420, 421, 422, 423, 424, 425, 426, 427, 428, 429, 430, 431, 432, 433, 434, 435, 436, 437, 438, 439, 440, 441, 458, 459, 460, 461, 462] (by decide +kernel) (by decide +kernel)
set_option maxRecDepth 20000 in
theorem gL_acts_X7_go : GoodIn wsL_acts (wsV RL 80 RX7 yX7_go wsX7_go) := goodIn_app (goodIn_of _ (by decide +kernel)) ggL_acts_X7_go
set_option maxRecDepth 20000 in
theorem ggL_acts_X7_rain : GoodIn wsL_acts wsX7_rain := goodIn_r _ [238, 192, 193, 194, 9, 195, 13, 196, 11, 197, 198, 199, 200, 201, 202, 203, 17, 204, 20, 205, 206, 207, 208, 105, 209, 41, 89, 19, 210, 211, 212, 213, 214, 239, 240, 241, 242, 142, 243, 172, 173, 143, 144, 145, 146, 147, 148, 27, 149, 150, 66, 67, 37, 38, 39, 40, 244, 245, 246, 247, 215, 216, 217, 218, 151, 152, 153, 154, 155, 156, 157, 158, 159, 160, 161, 162, 86, 87, 88, 163, 164, 165, 166, 167, 43, 44, 45, 46, 47, 48, 168, 169, 170, 171, 174, 175, 176, 177, 178, 179, 219, 220, 221, 222, 223, 185, 186, 187, 224, 225, 226, 227, 228, 229, 230, 231, 232, 233, 234, 180, 181, 182, 183, 184, 248, 417, 418, 419, 420, 421, 422, 423, 424, 425, 426, 427, 428, 429, 430, 431, 432, 433, 434, 435, 436, 437, 438, 439, 440, 441, 458, 459, 460, 461, 462] (by decide +kernel) (by decide +kernel)
set_option maxRecDepth 20000 in
theorem gL_acts_X7_rain : GoodIn wsL_acts (wsV RL 83 RX7 yX7_rain wsX7_rain) := goodIn_app (goodIn_of _ (by decide +kernel)) ggL_acts_X7_rain
set_option maxRecDepth 20000 in
theorem ggL_acts_X7_grain : GoodIn wsL_acts wsX7_grain := goodIn_r _ [252, 11, 94, 253, 74, 75, 17, 76, 19, 95, 96, 97, 98, 99, 100, 101, 102, 103, 104, 105, 106, 107, 108, 109, 110, 111, 112, 113, 114, 115, 116, 117, 118, 119, 120, 121, 122, 123, 124, 254, 255, 256, 257, 20, 258, 81, 82, 83, 9, 84, 53, 54, 55, 56, 57, 58, 59, 60, 61, 62, 63, 64, 65, 66, 27, 67, 68, 69, 70, 71, 38, 39, 40, 41, 72, 47, 48, 73, 259, 260, 261, 262, 209, 417, 418, 419, 420, 421, 422, 423, 424, 425, 426, 427, 428, 429, 430, 451, 452, 453, 454, 455, 456, 457, 431, 432, 433, 434, 435, 436, 437, 438, 439, 440, 441, 448, 449, 450] (by decide +kernel) (by decide +kernel)
set_option maxRecDepth 20000 in
theorem gL_acts_X7_grain : GoodIn wsL_acts (wsV RL 19 RX7 yX7_grain wsX7_grain) := goodIn_app (goodIn_of _ (by decide +kernel)) ggL_acts_X7_grain
set_option maxRecDepth 20000 in
theorem ggL_acts_X7_breakOff : GoodIn wsL_acts wsX7_breakOff := goodIn_r _ [266, 11, 267, 268, 269, 270, 17, 271, 106, 74, 75, 76, 19, 272, 102, 103, 104, 105, 192, 193, 194, 9, 195, 13, 196, 197, 198, 199, 200, 201, 202, 203, 204, 20, 205, 206, 207, 208, 209, 41, 89, 210, 211, 212, 213, 214, 273, 274, 275, 276, 277, 278, 279, 280, 281, 282, 283, 284, 285, 231, 232, 233, 234, 228, 229, 27, 230, 417, 418, 419, 420, 421, 422, 423, 424, 425, 426, 427, 428, 429, 430, 431, 432, 433, 434, 435, 436, 437, 438, 439, 440, 441, 463, 464] (by decide +kernel) (by decide +kernel)
set_option maxRecDepth 20000 in
theorem gL_acts_X7_breakOff : GoodIn wsL_acts (wsV RL 86 RX7 yX7_breakOff wsX7_breakOff) := goodIn_app (goodIn_of _ (by decide +kernel)) ggL_acts_X7_breakOff
set_option maxRecDepth 20000 in
theorem ggL_acts_X7_wash : GoodIn wsL_acts wsX7_wash := goodIn_r _ [289, 267, 11, 192, 193, 194, 9, 195, 13, 196, 197, 198, 199, 200, 201, 202, 203, 17, 204, 20, 205, 206, 207, 208, 105, 209, 41, 89, 19, 210, 211, 212, 213, 214, 290, 291, 292, 276, 293, 278, 279, 280, 102, 103, 104, 106, 74, 75, 76, 281, 282, 283, 284, 285, 231, 232, 233, 234, 228, 229, 27, 230, 417, 418, 419, 420, 421, 422, 423, 424, 425, 426, 427, 428, 429, 430, 431, 432, 433, 434, 435, 436, 437, 438, 439, 440, 441, 463, 464] (by decide +kernel) (by decide +kernel)
set_option maxRecDepth 20000 in
theorem gL_acts_X7_wash : GoodIn wsL_acts (wsV RL 89 RX7 yX7_wash wsX7_wash) := goodIn_app (goodIn_of _ (by decide +kernel)) ggL_acts_X7_wash
set_option maxRecDepth 20000 in
theorem ggL_acts_X7_lot : GoodIn wsL_acts wsX7_lot := goodIn_r _ [297, 11, 192, 193, 194, 9, 195, 13, 196, 197, 198, 199, 200, 201, 202, 203, 17, 204, 20, 205, 206, 207, 208, 105, 209, 41, 89, 19, 210, 211, 212, 213, 214, 417, 418, 419, 420, 421, 422, 423, 424, 425, 426, 427, 428, 429, 430, 431, 432, 433, 434, 435, 436, 437, 438, 439, 440, 441] (by decide +kernel) (by decide +kernel)
set_option maxRecDepth 20000 in
theorem gL_acts_X7_lot : GoodIn wsL_acts (wsV RL 92 RX7 yX7_lot wsX7_lot) := goodIn_app (goodIn_of _ (by decide +kernel)) ggL_acts_X7_lot
set_option maxRecDepth 20000 in
theorem ggL_acts_X7_set : GoodIn wsL_acts wsX7_set := goodIn_r _ [301, 11, 302, 303, 9, 304, 192, 193, 194, 195, 13, 196, 197, 198, 199, 200, 201, 202, 203, 17, 204, 20, 205, 206, 207, 208, 105, 209, 41, 89, 19, 210, 211, 212, 213, 214, 305, 306, 307, 308, 309, 86, 87, 88, 417, 418, 419, 420, 421, 422, 423, 424, 425, 426, 427, 428, 429, 430, 431, 432, 433, 434, 435, 436, 437, 438, 439, 440, 441] (by decide +kernel) (by decide +kernel)
set_option maxRecDepth 20000 in
theorem gL_acts_X7_set : GoodIn wsL_acts (wsV RL 95 RX7 yX7_set wsX7_set) := goodIn_app (goodIn_of _ (by decide +kernel)) ggL_acts_X7_set
theorem at_acts_carries : wsL_acts[312]? = some (Cond.code yL_carries cL_carries 14 (some .boolean)) := by rfl
set_option maxRecDepth 20000 in
theorem hv_acts_wsL_carries_r1 : GoodIn wsL_acts wsL_carries_r1 := goodIn_r _ [313, 314, 3, 315, 316, 317, 6, 7, 8, 9, 10, 11, 12, 13, 14, 15, 16, 17, 18, 19, 20, 21, 22, 23] (by decide +kernel) (by decide +kernel)
set_option maxRecDepth 20000 in
theorem hv_acts_wsL_carries_r2 : GoodIn wsL_acts wsL_carries_r2 := goodIn_r _ [24, 25, 26, 27, 28, 29, 30, 31, 32, 33, 34, 35, 36, 37, 38, 39, 40, 41, 42, 43, 44, 45, 46, 47] (by decide +kernel) (by decide +kernel)
set_option maxRecDepth 20000 in
theorem hv_acts_wsL_carries_r3 : GoodIn wsL_acts wsL_carries_r3 := goodIn_r _ [48, 49, 50, 51, 52, 53, 54, 55, 56, 57, 58, 59, 60, 61, 62, 63, 64, 65, 66, 67, 68, 69, 70, 71] (by decide +kernel) (by decide +kernel)
set_option maxRecDepth 20000 in
theorem hv_acts_wsL_carries_r4 : GoodIn wsL_acts wsL_carries_r4 := goodIn_r _ [72, 73, 74, 75, 76, 77, 78, 79, 80, 81, 82, 83, 84, 85, 86, 87, 88, 89, 90, 91, 92, 93, 94, 95] (by decide +kernel) (by decide +kernel)
set_option maxRecDepth 20000 in
theorem hv_acts_wsL_carries_r5 : GoodIn wsL_acts wsL_carries_r5 := goodIn_r _ [96, 97, 98, 99, 100, 101, 102, 103, 104, 105, 106, 107, 108, 109, 110, 111, 112, 113, 114, 115, 116, 117, 118, 119] (by decide +kernel) (by decide +kernel)
set_option maxRecDepth 20000 in
theorem hv_acts_wsL_carries_r6 : GoodIn wsL_acts wsL_carries_r6 := goodIn_r _ [120, 121, 122, 123, 124, 125, 126, 127, 128, 129, 130, 131, 132, 133, 134, 135, 136, 137, 249, 250, 251, 252, 253, 254] (by decide +kernel) (by decide +kernel)
set_option maxRecDepth 20000 in
theorem hv_acts_wsL_carries_r7 : GoodIn wsL_acts wsL_carries_r7 := goodIn_r _ [255, 256, 257, 258, 259, 260, 261, 262, 209, 1, 2, 4, 5, 318, 319, 320, 321, 322, 323, 324, 325, 326, 327, 328] (by decide +kernel) (by decide +kernel)
set_option maxRecDepth 20000 in
theorem hv_acts_wsL_carries_r8 : GoodIn wsL_acts wsL_carries_r8 := goodIn_r _ [329, 330, 331, 332, 333, 334, 335, 336, 337, 338, 339, 340, 341, 342, 343, 344, 345, 346, 347, 348, 349, 350, 351, 352] (by decide +kernel) (by decide +kernel)
set_option maxRecDepth 20000 in
theorem hv_acts_wsL_carries_r9 : GoodIn wsL_acts wsL_carries_r9 := goodIn_r _ [353, 354, 355, 356, 357, 358, 359, 360, 361, 362, 363, 364, 365, 366, 367, 368, 369, 370, 192, 193, 194, 195, 196, 197] (by decide +kernel) (by decide +kernel)
set_option maxRecDepth 20000 in
theorem hv_acts_wsL_carries_r10 : GoodIn wsL_acts wsL_carries_r10 := goodIn_r _ [198, 199, 200, 201, 202, 203, 204, 205, 206, 207, 208, 210, 211, 212, 213, 214, 371, 372, 373, 374, 375, 376, 377, 378] (by decide +kernel) (by decide +kernel)
set_option maxRecDepth 20000 in
theorem hv_acts_wsL_carries_r11 : GoodIn wsL_acts wsL_carries_r11 := goodIn_r _ [379, 380, 381, 382, 383, 384, 385, 386, 267, 290, 291, 292, 276, 293, 278, 279, 280, 281, 282, 283, 284, 285, 231, 232] (by decide +kernel) (by decide +kernel)
set_option maxRecDepth 20000 in
theorem hv_acts_wsL_carries_r12 : GoodIn wsL_acts wsL_carries_r12 := goodIn_r _ [233, 234, 228, 229, 230, 143, 144, 145, 146, 147, 148, 149, 150, 268, 269, 270, 271, 272, 215, 216, 217, 218, 142, 151] (by decide +kernel) (by decide +kernel)
set_option maxRecDepth 20000 in
theorem hv_acts_wsL_carries_r13 : GoodIn wsL_acts wsL_carries_r13 := goodIn_r _ [152, 153, 154, 155, 156, 157, 158, 159, 160, 161, 162, 163, 164, 165, 166, 167, 168, 169, 170, 171, 172, 173, 174, 175] (by decide +kernel) (by decide +kernel)
set_option maxRecDepth 20000 in
theorem hv_acts_wsL_carries_r14 : GoodIn wsL_acts wsL_carries_r14 := goodIn_r _ [176, 177, 178, 179, 219, 220, 221, 222, 223, 185, 186, 187, 224, 225, 226, 227, 180, 181, 182, 183, 184, 273, 274, 275] (by decide +kernel) (by decide +kernel)
set_option maxRecDepth 20000 in
theorem hv_acts_wsL_carries_r15 : GoodIn wsL_acts wsL_carries_r15 := goodIn_r _ [277] (by decide +kernel) (by decide +kernel)
set_option maxRecDepth 20000 in
theorem hv_acts_carries_wsX70 : GoodIn wsL_acts wsX70 := goodIn_sub (by decide +kernel) (by decide +kernel)
set_option maxRecDepth 20000 in
theorem hv_acts_carries_wsX40 : GoodIn wsL_acts wsX40 := goodIn_sub (by decide +kernel) (by decide +kernel)
set_option maxRecDepth 20000 in
theorem hv_acts_carries_wsX10 : GoodIn wsL_acts wsX10 := goodIn_sub (by decide +kernel) (by decide +kernel)
set_option maxRecDepth 20000 in
theorem hv_acts_carries_wsX30 : GoodIn wsL_acts wsX30 := goodIn_sub (by decide +kernel) (by decide +kernel)
set_option maxRecDepth 20000 in
theorem hv_acts_carries_wsX50 : GoodIn wsL_acts wsX50 := goodIn_sub (by decide +kernel) (by decide +kernel)
set_option maxRecDepth 20000 in
theorem hv_acts_carries_wsX00 : GoodIn wsL_acts wsX00 := goodIn_sub (by decide +kernel) (by decide +kernel)
