theorem dX0_init_0 : decode cX0_init 0 = .ok (.aload_n 0, 1) := by decide +kernel
theorem dX0_init_1 : decode cX0_init 1 = .ok (.invokespecial 3, 3) := by decide +kernel
theorem dX0_init_4 : decode cX0_init 4 = .ok (.aload_n 0, 1) := by decide +kernel
theorem dX0_init_5 : decode cX0_init 5 = .ok (.bipush 121, 2) := by decide +kernel
theorem dX0_init_7 : decode cX0_init 7 = .ok (.newarray .boolean, 2) := by decide +kernel
theorem dX0_init_9 : decode cX0_init 9 = .ok (.putfield 9, 3) := by decide +kernel
theorem dX0_init_12 : decode cX0_init 12 = .ok (.aload_n 0, 1) := by decide +kernel
theorem dX0_init_13 : decode cX0_init 13 = .ok (.bipush 121, 2) := by decide +kernel
theorem dX0_init_15 : decode cX0_init 15 = .ok (.newarray .int, 2) := by decide +kernel
theorem dX0_init_17 : decode cX0_init 17 = .ok (.putfield 15, 3) := by decide +kernel
theorem dX0_init_20 : decode cX0_init 20 = .ok (.return_, 1) := by decide +kernel
set_option maxRecDepth 20000 in
theorem ggX0_dropTree_X4_holderOf : GoodIn wsX0_dropTree wsX4_holderOf := goodIn_r _ [7, 8, 9, 10, 11, 6, 12, 13, 31, 32, 33, 34, 35, 36, 37, 38, 39, 40, 41] (by decide +kernel) (by decide +kernel)
set_option maxRecDepth 20000 in
theorem gX0_dropTree_X4_holderOf : GoodIn wsX0_dropTree (wsV RX0 25 RX4 yX4_holderOf wsX4_holderOf) := goodIn_app (goodIn_of _ (by decide +kernel)) ggX0_dropTree_X4_holderOf
set_option maxRecDepth 20000 in
theorem ggX0_dropTree_X4_isGrain : GoodIn wsX0_dropTree wsX4_isGrain := goodIn_r _ [12, 13, 31, 32, 33, 34, 35, 36, 37, 38, 39, 40, 41] (by decide +kernel) (by decide +kernel)
set_option maxRecDepth 20000 in
theorem gX0_dropTree_X4_isGrain : GoodIn wsX0_dropTree (wsV RX0 29 RX4 yX4_isGrain wsX4_isGrain) := goodIn_app (goodIn_of _ (by decide +kernel)) ggX0_dropTree_X4_isGrain
set_option maxRecDepth 20000 in
theorem ggX0_dropTree_X4_drop : GoodIn wsX0_dropTree wsX4_drop := goodIn_r _ [18, 13, 19, 8, 20, 21, 22, 23, 24, 6, 25, 26, 27, 28, 29, 30, 9, 10, 11, 12, 31, 32, 33, 34, 35, 36, 37, 38, 39, 40, 41] (by decide +kernel) (by decide +kernel)
set_option maxRecDepth 20000 in
theorem gX0_dropTree_X4_drop : GoodIn wsX0_dropTree (wsV RX0 33 RX4 yX4_drop wsX4_drop) := goodIn_app (goodIn_of _ (by decide +kernel)) ggX0_dropTree_X4_drop
theorem dX0_dropTree_0 : decode cX0_dropTree 0 = .ok (.iconst 0, 1) := by decide +kernel
theorem dX0_dropTree_1 : decode cX0_dropTree 1 = .ok (.istore_n 3, 1) := by decide +kernel
theorem dX0_dropTree_2 : decode cX0_dropTree 2 = .ok (.iload_n 3, 1) := by decide +kernel
theorem dX0_dropTree_3 : decode cX0_dropTree 3 = .ok (.aload_n 1, 1) := by decide +kernel
theorem dX0_dropTree_4 : decode cX0_dropTree 4 = .ok (.getfield 19, 3) := by decide +kernel
theorem dX0_dropTree_7 : decode cX0_dropTree 7 = .ok (.if_icmp .ge 51, 3) := by decide +kernel
theorem dX0_dropTree_10 : decode cX0_dropTree 10 = .ok (.aload_n 1, 1) := by decide +kernel
theorem dX0_dropTree_11 : decode cX0_dropTree 11 = .ok (.iload_n 3, 1) := by decide +kernel
theorem dX0_dropTree_12 : decode cX0_dropTree 12 = .ok (.invokevirtual 25, 3) := by decide +kernel
theorem dX0_dropTree_15 : decode cX0_dropTree 15 = .ok (.istore 4, 2) := by decide +kernel
theorem dX0_dropTree_17 : decode cX0_dropTree 17 = .ok (.aload_n 0, 1) := by decide +kernel
theorem dX0_dropTree_18 : decode cX0_dropTree 18 = .ok (.getfield 9, 3) := by decide +kernel
theorem dX0_dropTree_21 : decode cX0_dropTree 21 = .ok (.iload_n 3, 1) := by decide +kernel
theorem dX0_dropTree_22 : decode cX0_dropTree 22 = .ok (.iload_n 3, 1) := by decide +kernel
theorem dX0_dropTree_23 : decode cX0_dropTree 23 = .ok (.iload_n 2, 1) := by decide +kernel
theorem dX0_dropTree_24 : decode cX0_dropTree 24 = .ok (.if_icmp .eq 22, 3) := by decide +kernel
theorem dX0_dropTree_27 : decode cX0_dropTree 27 = .ok (.aload_n 1, 1) := by decide +kernel
theorem dX0_dropTree_28 : decode cX0_dropTree 28 = .ok (.iload 4, 2) := by decide +kernel
theorem dX0_dropTree_30 : decode cX0_dropTree 30 = .ok (.invokevirtual 29, 3) := by decide +kernel
theorem dX0_dropTree_33 : decode cX0_dropTree 33 = .ok (.ifCond .eq 17, 3) := by decide +kernel
theorem dX0_dropTree_36 : decode cX0_dropTree 36 = .ok (.aload_n 0, 1) := by decide +kernel
theorem dX0_dropTree_37 : decode cX0_dropTree 37 = .ok (.getfield 9, 3) := by decide +kernel
theorem dX0_dropTree_40 : decode cX0_dropTree 40 = .ok (.iload 4, 2) := by decide +kernel
theorem dX0_dropTree_42 : decode cX0_dropTree 42 = .ok (.baload, 1) := by decide +kernel
theorem dX0_dropTree_43 : decode cX0_dropTree 43 = .ok (.ifCond .eq 7, 3) := by decide +kernel
theorem dX0_dropTree_46 : decode cX0_dropTree 46 = .ok (.iconst 1, 1) := by decide +kernel
theorem dX0_dropTree_47 : decode cX0_dropTree 47 = .ok (.goto 4, 3) := by decide +kernel
theorem dX0_dropTree_50 : decode cX0_dropTree 50 = .ok (.iconst 0, 1) := by decide +kernel
theorem dX0_dropTree_51 : decode cX0_dropTree 51 = .ok (.bastore, 1) := by decide +kernel
theorem dX0_dropTree_52 : decode cX0_dropTree 52 = .ok (.iinc 3 1, 3) := by decide +kernel
theorem dX0_dropTree_55 : decode cX0_dropTree 55 = .ok (.goto (-53), 3) := by decide +kernel
theorem dX0_dropTree_58 : decode cX0_dropTree 58 = .ok (.aload_n 1, 1) := by decide +kernel
theorem dX0_dropTree_59 : decode cX0_dropTree 59 = .ok (.aload_n 0, 1) := by decide +kernel
theorem dX0_dropTree_60 : decode cX0_dropTree 60 = .ok (.getfield 9, 3) := by decide +kernel
theorem dX0_dropTree_63 : decode cX0_dropTree 63 = .ok (.aload_n 0, 1) := by decide +kernel
theorem dX0_dropTree_64 : decode cX0_dropTree 64 = .ok (.getfield 15, 3) := by decide +kernel
theorem dX0_dropTree_67 : decode cX0_dropTree 67 = .ok (.invokevirtual 33, 3) := by decide +kernel
theorem dX0_dropTree_70 : decode cX0_dropTree 70 = .ok (.ireturn, 1) := by decide +kernel
set_option maxRecDepth 20000 in
theorem ggX0_dropTips_X4_holderOf : GoodIn wsX0_dropTips wsX4_holderOf := goodIn_r _ [7, 8, 9, 10, 11, 6, 12, 13, 31, 32, 33, 34, 35, 36, 37, 38, 39, 40, 41] (by decide +kernel) (by decide +kernel)
set_option maxRecDepth 20000 in
theorem gX0_dropTips_X4_holderOf : GoodIn wsX0_dropTips (wsV RX0 25 RX4 yX4_holderOf wsX4_holderOf) := goodIn_app (goodIn_of _ (by decide +kernel)) ggX0_dropTips_X4_holderOf
set_option maxRecDepth 20000 in
theorem ggX0_dropTips_X4_isGrain : GoodIn wsX0_dropTips wsX4_isGrain := goodIn_r _ [12, 13, 31, 32, 33, 34, 35, 36, 37, 38, 39, 40, 41] (by decide +kernel) (by decide +kernel)
set_option maxRecDepth 20000 in
theorem gX0_dropTips_X4_isGrain : GoodIn wsX0_dropTips (wsV RX0 29 RX4 yX4_isGrain wsX4_isGrain) := goodIn_app (goodIn_of _ (by decide +kernel)) ggX0_dropTips_X4_isGrain
set_option maxRecDepth 20000 in
theorem ggX0_dropTips_X4_drop : GoodIn wsX0_dropTips wsX4_drop := goodIn_r _ [18, 13, 19, 8, 20, 21, 22, 23, 24, 6, 25, 26, 27, 28, 29, 30, 9, 10, 11, 12, 31, 32, 33, 34, 35, 36, 37, 38, 39, 40, 41] (by decide +kernel) (by decide +kernel)
set_option maxRecDepth 20000 in
theorem gX0_dropTips_X4_drop : GoodIn wsX0_dropTips (wsV RX0 33 RX4 yX4_drop wsX4_drop) := goodIn_app (goodIn_of _ (by decide +kernel)) ggX0_dropTips_X4_drop
theorem dX0_dropTips_0 : decode cX0_dropTips 0 = .ok (.iconst 0, 1) := by decide +kernel
theorem dX0_dropTips_1 : decode cX0_dropTips 1 = .ok (.istore_n 2, 1) := by decide +kernel
theorem dX0_dropTips_2 : decode cX0_dropTips 2 = .ok (.iload_n 2, 1) := by decide +kernel
theorem dX0_dropTips_3 : decode cX0_dropTips 3 = .ok (.aload_n 1, 1) := by decide +kernel
theorem dX0_dropTips_4 : decode cX0_dropTips 4 = .ok (.getfield 19, 3) := by decide +kernel
theorem dX0_dropTips_7 : decode cX0_dropTips 7 = .ok (.if_icmp .ge 41, 3) := by decide +kernel
theorem dX0_dropTips_10 : decode cX0_dropTips 10 = .ok (.aload_n 1, 1) := by decide +kernel
theorem dX0_dropTips_11 : decode cX0_dropTips 11 = .ok (.iload_n 2, 1) := by decide +kernel
theorem dX0_dropTips_12 : decode cX0_dropTips 12 = .ok (.invokevirtual 25, 3) := by decide +kernel
theorem dX0_dropTips_15 : decode cX0_dropTips 15 = .ok (.istore_n 3, 1) := by decide +kernel
theorem dX0_dropTips_16 : decode cX0_dropTips 16 = .ok (.aload_n 0, 1) := by decide +kernel
theorem dX0_dropTips_17 : decode cX0_dropTips 17 = .ok (.getfield 9, 3) := by decide +kernel
theorem dX0_dropTips_20 : decode cX0_dropTips 20 = .ok (.iload_n 2, 1) := by decide +kernel
theorem dX0_dropTips_21 : decode cX0_dropTips 21 = .ok (.aload_n 1, 1) := by decide +kernel
theorem dX0_dropTips_22 : decode cX0_dropTips 22 = .ok (.iload_n 3, 1) := by decide +kernel
theorem dX0_dropTips_23 : decode cX0_dropTips 23 = .ok (.invokevirtual 29, 3) := by decide +kernel
theorem dX0_dropTips_26 : decode cX0_dropTips 26 = .ok (.bastore, 1) := by decide +kernel
theorem dX0_dropTips_27 : decode cX0_dropTips 27 = .ok (.aload_n 1, 1) := by decide +kernel
theorem dX0_dropTips_28 : decode cX0_dropTips 28 = .ok (.iload_n 3, 1) := by decide +kernel
theorem dX0_dropTips_29 : decode cX0_dropTips 29 = .ok (.invokevirtual 29, 3) := by decide +kernel
theorem dX0_dropTips_32 : decode cX0_dropTips 32 = .ok (.ifCond .eq 10, 3) := by decide +kernel
theorem dX0_dropTips_35 : decode cX0_dropTips 35 = .ok (.aload_n 0, 1) := by decide +kernel
theorem dX0_dropTips_36 : decode cX0_dropTips 36 = .ok (.getfield 9, 3) := by decide +kernel
theorem dX0_dropTips_39 : decode cX0_dropTips 39 = .ok (.iload_n 3, 1) := by decide +kernel
theorem dX0_dropTips_40 : decode cX0_dropTips 40 = .ok (.iconst 0, 1) := by decide +kernel
theorem dX0_dropTips_41 : decode cX0_dropTips 41 = .ok (.bastore, 1) := by decide +kernel
theorem dX0_dropTips_42 : decode cX0_dropTips 42 = .ok (.iinc 2 1, 3) := by decide +kernel
theorem dX0_dropTips_45 : decode cX0_dropTips 45 = .ok (.goto (-43), 3) := by decide +kernel
theorem dX0_dropTips_48 : decode cX0_dropTips 48 = .ok (.aload_n 1, 1) := by decide +kernel
theorem dX0_dropTips_49 : decode cX0_dropTips 49 = .ok (.aload_n 0, 1) := by decide +kernel
theorem dX0_dropTips_50 : decode cX0_dropTips 50 = .ok (.getfield 9, 3) := by decide +kernel
theorem dX0_dropTips_53 : decode cX0_dropTips 53 = .ok (.aload_n 0, 1) := by decide +kernel
theorem dX0_dropTips_54 : decode cX0_dropTips 54 = .ok (.getfield 15, 3) := by decide +kernel
theorem dX0_dropTips_57 : decode cX0_dropTips 57 = .ok (.invokevirtual 33, 3) := by decide +kernel
theorem dX0_dropTips_60 : decode cX0_dropTips 60 = .ok (.ireturn, 1) := by decide +kernel
theorem dX1_init_0 : decode cX1_init 0 = .ok (.aload_n 0, 1) := by decide +kernel
theorem dX1_init_1 : decode cX1_init 1 = .ok (.invokespecial 3, 3) := by decide +kernel
theorem dX1_init_4 : decode cX1_init 4 = .ok (.aload_n 0, 1) := by decide +kernel
theorem dX1_init_5 : decode cX1_init 5 = .ok (.bipush 60, 2) := by decide +kernel
theorem dX1_init_7 : decode cX1_init 7 = .ok (.newarray .char, 2) := by decide +kernel
theorem dX1_init_9 : decode cX1_init 9 = .ok (.putfield 9, 3) := by decide +kernel
theorem dX1_init_12 : decode cX1_init 12 = .ok (.aload_n 0, 1) := by decide +kernel
theorem dX1_init_13 : decode cX1_init 13 = .ok (.iconst 0, 1) := by decide +kernel
theorem dX1_init_14 : decode cX1_init 14 = .ok (.putfield 15, 3) := by decide +kernel
theorem dX1_init_17 : decode cX1_init 17 = .ok (.aload_n 0, 1) := by decide +kernel
theorem dX1_init_18 : decode cX1_init 18 = .ok (.iconst 0, 1) := by decide +kernel
theorem dX1_init_19 : decode cX1_init 19 = .ok (.putfield 19, 3) := by decide +kernel
theorem dX1_init_22 : decode cX1_init 22 = .ok (.aload_n 0, 1) := by decide +kernel
theorem dX1_init_23 : decode cX1_init 23 = .ok (.iconst 0, 1) := by decide +kernel
theorem dX1_init_24 : decode cX1_init 24 = .ok (.putfield 22, 3) := by decide +kernel
theorem dX1_init_27 : decode cX1_init 27 = .ok (.aload_n 0, 1) := by decide +kernel
theorem dX1_init_28 : decode cX1_init 28 = .ok (.bipush 32, 2) := by decide +kernel
theorem dX1_init_30 : decode cX1_init 30 = .ok (.putfield 25, 3) := by decide +kernel
theorem dX1_init_33 : decode cX1_init 33 = .ok (.aload_n 0, 1) := by decide +kernel
theorem dX1_init_34 : decode cX1_init 34 = .ok (.iconst (-1), 1) := by decide +kernel
theorem dX1_init_35 : decode cX1_init 35 = .ok (.putfield 29, 3) := by decide +kernel
theorem dX1_init_38 : decode cX1_init 38 = .ok (.return_, 1) := by decide +kernel
theorem dX1_write_0 : decode cX1_write 0 = .ok (.aload_n 0, 1) := by decide +kernel
theorem dX1_write_1 : decode cX1_write 1 = .ok (.getfield 15, 3) := by decide +kernel
theorem dX1_write_4 : decode cX1_write 4 = .ok (.aload_n 0, 1) := by decide +kernel
theorem dX1_write_5 : decode cX1_write 5 = .ok (.getfield 9, 3) := by decide +kernel
theorem dX1_write_8 : decode cX1_write 8 = .ok (.arraylength, 1) := by decide +kernel
theorem dX1_write_9 : decode cX1_write 9 = .ok (.if_icmp .ge 23, 3) := by decide +kernel
theorem dX1_write_12 : decode cX1_write 12 = .ok (.aload_n 0, 1) := by decide +kernel
theorem dX1_write_13 : decode cX1_write 13 = .ok (.getfield 9, 3) := by decide +kernel
theorem dX1_write_16 : decode cX1_write 16 = .ok (.aload_n 0, 1) := by decide +kernel
theorem dX1_write_17 : decode cX1_write 17 = .ok (.getfield 15, 3) := by decide +kernel
theorem dX1_write_20 : decode cX1_write 20 = .ok (.iload_n 1, 1) := by decide +kernel
theorem dX1_write_21 : decode cX1_write 21 = .ok (.castore, 1) := by decide +kernel
theorem dX1_write_22 : decode cX1_write 22 = .ok (.aload_n 0, 1) := by decide +kernel
theorem dX1_write_23 : decode cX1_write 23 = .ok (.dup, 1) := by decide +kernel
theorem dX1_write_24 : decode cX1_write 24 = .ok (.getfield 15, 3) := by decide +kernel
theorem dX1_write_27 : decode cX1_write 27 = .ok (.iconst 1, 1) := by decide +kernel
theorem dX1_write_28 : decode cX1_write 28 = .ok (.iadd, 1) := by decide +kernel
theorem dX1_write_29 : decode cX1_write 29 = .ok (.putfield 15, 3) := by decide +kernel
theorem dX1_write_32 : decode cX1_write 32 = .ok (.return_, 1) := by decide +kernel
theorem dX1_wipe_0 : decode cX1_wipe 0 = .ok (.aload_n 0, 1) := by decide +kernel
theorem dX1_wipe_1 : decode cX1_wipe 1 = .ok (.iconst 0, 1) := by decide +kernel
theorem dX1_wipe_2 : decode cX1_wipe 2 = .ok (.putfield 15, 3) := by decide +kernel
theorem dX1_wipe_5 : decode cX1_wipe 5 = .ok (.return_, 1) := by decide +kernel
set_option maxRecDepth 20000 in
theorem ggX1_firstWrong_X1_isLetter : GoodIn wsX1_firstWrong wsX1_isLetter := goodIn_r _ [6] (by decide +kernel) (by decide +kernel)
set_option maxRecDepth 20000 in
theorem gX1_firstWrong_X1_isLetter : GoodIn wsX1_firstWrong (va_wsS RX1 32 yX1_isLetter wsX1_isLetter) := goodIn_app (goodIn_of _ (by decide +kernel)) ggX1_firstWrong_X1_isLetter
set_option maxRecDepth 20000 in
theorem ggX1_firstWrong_X1_isWhole : GoodIn wsX1_firstWrong wsX1_isWhole := goodIn_r _ [9] (by decide +kernel) (by decide +kernel)
set_option maxRecDepth 20000 in
theorem gX1_firstWrong_X1_isWhole : GoodIn wsX1_firstWrong (va_wsS RX1 36 yX1_isWhole wsX1_isWhole) := goodIn_app (goodIn_of _ (by decide +kernel)) ggX1_firstWrong_X1_isWhole
set_option maxRecDepth 20000 in
theorem ggX1_firstWrong_X1_withDigit : GoodIn wsX1_firstWrong wsX1_withDigit := goodIn_r _ [12] (by decide +kernel) (by decide +kernel)
set_option maxRecDepth 20000 in
theorem gX1_firstWrong_X1_withDigit : GoodIn wsX1_firstWrong (va_wsS RX1 40 yX1_withDigit wsX1_withDigit) := goodIn_app (goodIn_of _ (by decide +kernel)) ggX1_firstWrong_X1_withDigit
theorem dX1_firstWrong_0 : decode cX1_firstWrong 0 = .ok (.bipush 32, 2) := by decide +kernel
theorem dX1_firstWrong_2 : decode cX1_firstWrong 2 = .ok (.istore_n 1, 1) := by decide +kernel
theorem dX1_firstWrong_3 : decode cX1_firstWrong 3 = .ok (.iconst (-1), 1) := by decide +kernel
theorem dX1_firstWrong_4 : decode cX1_firstWrong 4 = .ok (.istore_n 2, 1) := by decide +kernel
theorem dX1_firstWrong_5 : decode cX1_firstWrong 5 = .ok (.iconst 0, 1) := by decide +kernel
theorem dX1_firstWrong_6 : decode cX1_firstWrong 6 = .ok (.istore_n 3, 1) := by decide +kernel
theorem dX1_firstWrong_7 : decode cX1_firstWrong 7 = .ok (.iload_n 3, 1) := by decide +kernel
theorem dX1_firstWrong_8 : decode cX1_firstWrong 8 = .ok (.aload_n 0, 1) := by decide +kernel
theorem dX1_firstWrong_9 : decode cX1_firstWrong 9 = .ok (.getfield 15, 3) := by decide +kernel
theorem dX1_firstWrong_12 : decode cX1_firstWrong 12 = .ok (.if_icmp .ge 80, 3) := by decide +kernel
theorem dX1_firstWrong_15 : decode cX1_firstWrong 15 = .ok (.aload_n 0, 1) := by decide +kernel
theorem dX1_firstWrong_16 : decode cX1_firstWrong 16 = .ok (.getfield 9, 3) := by decide +kernel
theorem dX1_firstWrong_19 : decode cX1_firstWrong 19 = .ok (.iload_n 3, 1) := by decide +kernel
theorem dX1_firstWrong_20 : decode cX1_firstWrong 20 = .ok (.caload, 1) := by decide +kernel
theorem dX1_firstWrong_21 : decode cX1_firstWrong 21 = .ok (.istore 4, 2) := by decide +kernel
theorem dX1_firstWrong_23 : decode cX1_firstWrong 23 = .ok (.iload_n 1, 1) := by decide +kernel
theorem dX1_firstWrong_24 : decode cX1_firstWrong 24 = .ok (.bipush 32, 2) := by decide +kernel
theorem dX1_firstWrong_26 : decode cX1_firstWrong 26 = .ok (.if_icmp .ne 21, 3) := by decide +kernel
theorem dX1_firstWrong_29 : decode cX1_firstWrong 29 = .ok (.iload 4, 2) := by decide +kernel
theorem dX1_firstWrong_31 : decode cX1_firstWrong 31 = .ok (.invokestatic 32, 3) := by decide +kernel
theorem dX1_firstWrong_34 : decode cX1_firstWrong 34 = .ok (.ifCond .ne 5, 3) := by decide +kernel
theorem dX1_firstWrong_37 : decode cX1_firstWrong 37 = .ok (.iload_n 3, 1) := by decide +kernel
theorem dX1_firstWrong_38 : decode cX1_firstWrong 38 = .ok (.ireturn, 1) := by decide +kernel
theorem dX1_firstWrong_39 : decode cX1_firstWrong 39 = .ok (.iload 4, 2) := by decide +kernel
theorem dX1_firstWrong_41 : decode cX1_firstWrong 41 = .ok (.istore_n 1, 1) := by decide +kernel
theorem dX1_firstWrong_42 : decode cX1_firstWrong 42 = .ok (.iconst (-1), 1) := by decide +kernel
theorem dX1_firstWrong_43 : decode cX1_firstWrong 43 = .ok (.istore_n 2, 1) := by decide +kernel
theorem dX1_firstWrong_44 : decode cX1_firstWrong 44 = .ok (.goto 42, 3) := by decide +kernel
theorem dX1_firstWrong_47 : decode cX1_firstWrong 47 = .ok (.iload 4, 2) := by decide +kernel
theorem dX1_firstWrong_49 : decode cX1_firstWrong 49 = .ok (.bipush 59, 2) := by decide +kernel
theorem dX1_firstWrong_51 : decode cX1_firstWrong 51 = .ok (.if_icmp .ne 19, 3) := by decide +kernel
theorem dX1_firstWrong_54 : decode cX1_firstWrong 54 = .ok (.iload_n 1, 1) := by decide +kernel
theorem dX1_firstWrong_55 : decode cX1_firstWrong 55 = .ok (.iload_n 2, 1) := by decide +kernel
theorem dX1_firstWrong_56 : decode cX1_firstWrong 56 = .ok (.invokestatic 36, 3) := by decide +kernel
theorem dX1_firstWrong_59 : decode cX1_firstWrong 59 = .ok (.ifCond .ne 5, 3) := by decide +kernel
theorem dX1_firstWrong_62 : decode cX1_firstWrong 62 = .ok (.iload_n 3, 1) := by decide +kernel
theorem dX1_firstWrong_63 : decode cX1_firstWrong 63 = .ok (.ireturn, 1) := by decide +kernel
theorem dX1_firstWrong_64 : decode cX1_firstWrong 64 = .ok (.bipush 32, 2) := by decide +kernel
theorem dX1_firstWrong_66 : decode cX1_firstWrong 66 = .ok (.istore_n 1, 1) := by decide +kernel
theorem dX1_firstWrong_67 : decode cX1_firstWrong 67 = .ok (.goto 19, 3) := by decide +kernel
theorem dX1_firstWrong_70 : decode cX1_firstWrong 70 = .ok (.iload_n 1, 1) := by decide +kernel
theorem dX1_firstWrong_71 : decode cX1_firstWrong 71 = .ok (.iload_n 2, 1) := by decide +kernel
theorem dX1_firstWrong_72 : decode cX1_firstWrong 72 = .ok (.iload 4, 2) := by decide +kernel
theorem dX1_firstWrong_74 : decode cX1_firstWrong 74 = .ok (.invokestatic 40, 3) := by decide +kernel
theorem dX1_firstWrong_77 : decode cX1_firstWrong 77 = .ok (.istore_n 2, 1) := by decide +kernel
theorem dX1_firstWrong_78 : decode cX1_firstWrong 78 = .ok (.iload_n 2, 1) := by decide +kernel
theorem dX1_firstWrong_79 : decode cX1_firstWrong 79 = .ok (.bipush (-2), 2) := by decide +kernel
theorem dX1_firstWrong_81 : decode cX1_firstWrong 81 = .ok (.if_icmp .ne 5, 3) := by decide +kernel
theorem dX1_firstWrong_84 : decode cX1_firstWrong 84 = .ok (.iload_n 3, 1) := by decide +kernel
theorem dX1_firstWrong_85 : decode cX1_firstWrong 85 = .ok (.ireturn, 1) := by decide +kernel
theorem dX1_firstWrong_86 : decode cX1_firstWrong 86 = .ok (.iinc 3 1, 3) := by decide +kernel
theorem dX1_firstWrong_89 : decode cX1_firstWrong 89 = .ok (.goto (-82), 3) := by decide +kernel
theorem dX1_firstWrong_92 : decode cX1_firstWrong 92 = .ok (.iload_n 1, 1) := by decide +kernel
theorem dX1_firstWrong_93 : decode cX1_firstWrong 93 = .ok (.iload_n 2, 1) := by decide +kernel
theorem dX1_firstWrong_94 : decode cX1_firstWrong 94 = .ok (.invokestatic 36, 3) := by decide +kernel
theorem dX1_firstWrong_97 : decode cX1_firstWrong 97 = .ok (.ifCond .eq 8, 3) := by decide +kernel
theorem dX1_firstWrong_100 : decode cX1_firstWrong 100 = .ok (.bipush (-4), 2) := by decide +kernel
theorem dX1_firstWrong_102 : decode cX1_firstWrong 102 = .ok (.goto 7, 3) := by decide +kernel
theorem dX1_firstWrong_105 : decode cX1_firstWrong 105 = .ok (.aload_n 0, 1) := by decide +kernel
theorem dX1_firstWrong_106 : decode cX1_firstWrong 106 = .ok (.getfield 15, 3) := by decide +kernel
theorem dX1_firstWrong_109 : decode cX1_firstWrong 109 = .ok (.ireturn, 1) := by decide +kernel
theorem dX1_isLetter_0 : decode cX1_isLetter 0 = .ok (.iload_n 0, 1) := by decide +kernel
theorem dX1_isLetter_1 : decode cX1_isLetter 1 = .ok (.bipush 103, 2) := by decide +kernel
theorem dX1_isLetter_3 : decode cX1_isLetter 3 = .ok (.if_icmp .eq 15, 3) := by decide +kernel
theorem dX1_isLetter_6 : decode cX1_isLetter 6 = .ok (.iload_n 0, 1) := by decide +kernel
theorem dX1_isLetter_7 : decode cX1_isLetter 7 = .ok (.bipush 98, 2) := by decide +kernel
theorem dX1_isLetter_9 : decode cX1_isLetter 9 = .ok (.if_icmp .eq 9, 3) := by decide +kernel
theorem dX1_isLetter_12 : decode cX1_isLetter 12 = .ok (.iload_n 0, 1) := by decide +kernel
theorem dX1_isLetter_13 : decode cX1_isLetter 13 = .ok (.bipush 119, 2) := by decide +kernel
theorem dX1_isLetter_15 : decode cX1_isLetter 15 = .ok (.if_icmp .ne 7, 3) := by decide +kernel
theorem dX1_isLetter_18 : decode cX1_isLetter 18 = .ok (.iconst 1, 1) := by decide +kernel
theorem dX1_isLetter_19 : decode cX1_isLetter 19 = .ok (.goto 4, 3) := by decide +kernel
theorem dX1_isLetter_22 : decode cX1_isLetter 22 = .ok (.iconst 0, 1) := by decide +kernel
theorem dX1_isLetter_23 : decode cX1_isLetter 23 = .ok (.ireturn, 1) := by decide +kernel
theorem dX1_isWhole_0 : decode cX1_isWhole 0 = .ok (.iload_n 0, 1) := by decide +kernel
theorem dX1_isWhole_1 : decode cX1_isWhole 1 = .ok (.bipush 119, 2) := by decide +kernel
theorem dX1_isWhole_3 : decode cX1_isWhole 3 = .ok (.if_icmp .eq 14, 3) := by decide +kernel
theorem dX1_isWhole_6 : decode cX1_isWhole 6 = .ok (.iload_n 0, 1) := by decide +kernel
theorem dX1_isWhole_7 : decode cX1_isWhole 7 = .ok (.bipush 32, 2) := by decide +kernel
theorem dX1_isWhole_9 : decode cX1_isWhole 9 = .ok (.if_icmp .eq 12, 3) := by decide +kernel
theorem dX1_isWhole_12 : decode cX1_isWhole 12 = .ok (.iload_n 1, 1) := by decide +kernel
theorem dX1_isWhole_13 : decode cX1_isWhole 13 = .ok (.iconst (-1), 1) := by decide +kernel
theorem dX1_isWhole_14 : decode cX1_isWhole 14 = .ok (.if_icmp .eq 7, 3) := by decide +kernel
theorem dX1_isWhole_17 : decode cX1_isWhole 17 = .ok (.iconst 1, 1) := by decide +kernel
theorem dX1_isWhole_18 : decode cX1_isWhole 18 = .ok (.goto 4, 3) := by decide +kernel
theorem dX1_isWhole_21 : decode cX1_isWhole 21 = .ok (.iconst 0, 1) := by decide +kernel
theorem dX1_isWhole_22 : decode cX1_isWhole 22 = .ok (.ireturn, 1) := by decide +kernel
theorem dX1_withDigit_0 : decode cX1_withDigit 0 = .ok (.iload_n 0, 1) := by decide +kernel
theorem dX1_withDigit_1 : decode cX1_withDigit 1 = .ok (.bipush 119, 2) := by decide +kernel
theorem dX1_withDigit_3 : decode cX1_withDigit 3 = .ok (.if_icmp .eq 19, 3) := by decide +kernel
theorem dX1_withDigit_6 : decode cX1_withDigit 6 = .ok (.iload_n 2, 1) := by decide +kernel
theorem dX1_withDigit_7 : decode cX1_withDigit 7 = .ok (.bipush 48, 2) := by decide +kernel
theorem dX1_withDigit_9 : decode cX1_withDigit 9 = .ok (.if_icmp .lt 13, 3) := by decide +kernel
theorem dX1_withDigit_12 : decode cX1_withDigit 12 = .ok (.iload_n 2, 1) := by decide +kernel
theorem dX1_withDigit_13 : decode cX1_withDigit 13 = .ok (.bipush 57, 2) := by decide +kernel
theorem dX1_withDigit_15 : decode cX1_withDigit 15 = .ok (.if_icmp .gt 7, 3) := by decide +kernel
theorem dX1_withDigit_18 : decode cX1_withDigit 18 = .ok (.iload_n 1, 1) := by decide +kernel
theorem dX1_withDigit_19 : decode cX1_withDigit 19 = .ok (.ifCond .ne 6, 3) := by decide +kernel
theorem dX1_withDigit_22 : decode cX1_withDigit 22 = .ok (.bipush (-2), 2) := by decide +kernel
theorem dX1_withDigit_24 : decode cX1_withDigit 24 = .ok (.ireturn, 1) := by decide +kernel
theorem dX1_withDigit_25 : decode cX1_withDigit 25 = .ok (.iload_n 2, 1) := by decide +kernel
theorem dX1_withDigit_26 : decode cX1_withDigit 26 = .ok (.bipush 48, 2) := by decide +kernel
theorem dX1_withDigit_28 : decode cX1_withDigit 28 = .ok (.isub, 1) := by decide +kernel
theorem dX1_withDigit_29 : decode cX1_withDigit 29 = .ok (.istore_n 3, 1) := by decide +kernel
theorem dX1_withDigit_30 : decode cX1_withDigit 30 = .ok (.iload_n 1, 1) := by decide +kernel
theorem dX1_withDigit_31 : decode cX1_withDigit 31 = .ok (.iconst (-1), 1) := by decide +kernel
theorem dX1_withDigit_32 : decode cX1_withDigit 32 = .ok (.if_icmp .ne 7, 3) := by decide +kernel
theorem dX1_withDigit_35 : decode cX1_withDigit 35 = .ok (.iload_n 3, 1) := by decide +kernel
theorem dX1_withDigit_36 : decode cX1_withDigit 36 = .ok (.goto 9, 3) := by decide +kernel
theorem dX1_withDigit_39 : decode cX1_withDigit 39 = .ok (.bipush 10, 2) := by decide +kernel
theorem dX1_withDigit_41 : decode cX1_withDigit 41 = .ok (.iload_n 1, 1) := by decide +kernel
theorem dX1_withDigit_42 : decode cX1_withDigit 42 = .ok (.imul, 1) := by decide +kernel
theorem dX1_withDigit_43 : decode cX1_withDigit 43 = .ok (.iload_n 3, 1) := by decide +kernel
theorem dX1_withDigit_44 : decode cX1_withDigit 44 = .ok (.iadd, 1) := by decide +kernel
theorem dX1_withDigit_45 : decode cX1_withDigit 45 = .ok (.istore 4, 2) := by decide +kernel
theorem dX1_withDigit_47 : decode cX1_withDigit 47 = .ok (.iload_n 0, 1) := by decide +kernel
theorem dX1_withDigit_48 : decode cX1_withDigit 48 = .ok (.bipush 103, 2) := by decide +kernel
theorem dX1_withDigit_50 : decode cX1_withDigit 50 = .ok (.if_icmp .ne 8, 3) := by decide +kernel
theorem dX1_withDigit_53 : decode cX1_withDigit 53 = .ok (.bipush 39, 2) := by decide +kernel
theorem dX1_withDigit_55 : decode cX1_withDigit 55 = .ok (.goto 5, 3) := by decide +kernel
theorem dX1_withDigit_58 : decode cX1_withDigit 58 = .ok (.bipush 120, 2) := by decide +kernel
theorem dX1_withDigit_60 : decode cX1_withDigit 60 = .ok (.istore 5, 2) := by decide +kernel
theorem dX1_withDigit_62 : decode cX1_withDigit 62 = .ok (.iload 4, 2) := by decide +kernel
theorem dX1_withDigit_64 : decode cX1_withDigit 64 = .ok (.iload 5, 2) := by decide +kernel
theorem dX1_withDigit_66 : decode cX1_withDigit 66 = .ok (.if_icmp .gt 8, 3) := by decide +kernel
theorem dX1_withDigit_69 : decode cX1_withDigit 69 = .ok (.iload 4, 2) := by decide +kernel
theorem dX1_withDigit_71 : decode cX1_withDigit 71 = .ok (.goto 5, 3) := by decide +kernel
theorem dX1_withDigit_74 : decode cX1_withDigit 74 = .ok (.bipush (-2), 2) := by decide +kernel
theorem dX1_withDigit_76 : decode cX1_withDigit 76 = .ok (.ireturn, 1) := by decide +kernel
theorem dX1_startReading_0 : decode cX1_startReading 0 = .ok (.aload_n 0, 1) := by decide +kernel
theorem dX1_startReading_1 : decode cX1_startReading 1 = .ok (.iconst 0, 1) := by decide +kernel
theorem dX1_startReading_2 : decode cX1_startReading 2 = .ok (.putfield 19, 3) := by decide +kernel
theorem dX1_startReading_5 : decode cX1_startReading 5 = .ok (.return_, 1) := by decide +kernel
theorem dX1_readDeed_0 : decode cX1_readDeed 0 = .ok (.aload_n 0, 1) := by decide +kernel
theorem dX1_readDeed_1 : decode cX1_readDeed 1 = .ok (.getfield 19, 3) := by decide +kernel
theorem dX1_readDeed_4 : decode cX1_readDeed 4 = .ok (.aload_n 0, 1) := by decide +kernel
theorem dX1_readDeed_5 : decode cX1_readDeed 5 = .ok (.getfield 15, 3) := by decide +kernel
theorem dX1_readDeed_8 : decode cX1_readDeed 8 = .ok (.if_icmp .lt 5, 3) := by decide +kernel
theorem dX1_readDeed_11 : decode cX1_readDeed 11 = .ok (.iconst 0, 1) := by decide +kernel
theorem dX1_readDeed_12 : decode cX1_readDeed 12 = .ok (.ireturn, 1) := by decide +kernel
theorem dX1_readDeed_13 : decode cX1_readDeed 13 = .ok (.aload_n 0, 1) := by decide +kernel
theorem dX1_readDeed_14 : decode cX1_readDeed 14 = .ok (.aload_n 0, 1) := by decide +kernel
theorem dX1_readDeed_15 : decode cX1_readDeed 15 = .ok (.getfield 19, 3) := by decide +kernel
theorem dX1_readDeed_18 : decode cX1_readDeed 18 = .ok (.putfield 22, 3) := by decide +kernel
theorem dX1_readDeed_21 : decode cX1_readDeed 21 = .ok (.aload_n 0, 1) := by decide +kernel
theorem dX1_readDeed_22 : decode cX1_readDeed 22 = .ok (.aload_n 0, 1) := by decide +kernel
theorem dX1_readDeed_23 : decode cX1_readDeed 23 = .ok (.getfield 9, 3) := by decide +kernel
theorem dX1_readDeed_26 : decode cX1_readDeed 26 = .ok (.aload_n 0, 1) := by decide +kernel
theorem dX1_readDeed_27 : decode cX1_readDeed 27 = .ok (.getfield 19, 3) := by decide +kernel
theorem dX1_readDeed_30 : decode cX1_readDeed 30 = .ok (.caload, 1) := by decide +kernel
theorem dX1_readDeed_31 : decode cX1_readDeed 31 = .ok (.putfield 25, 3) := by decide +kernel
theorem dX1_readDeed_34 : decode cX1_readDeed 34 = .ok (.aload_n 0, 1) := by decide +kernel
theorem dX1_readDeed_35 : decode cX1_readDeed 35 = .ok (.iconst 0, 1) := by decide +kernel
theorem dX1_readDeed_36 : decode cX1_readDeed 36 = .ok (.putfield 29, 3) := by decide +kernel
theorem dX1_readDeed_39 : decode cX1_readDeed 39 = .ok (.aload_n 0, 1) := by decide +kernel
theorem dX1_readDeed_40 : decode cX1_readDeed 40 = .ok (.dup, 1) := by decide +kernel
theorem dX1_readDeed_41 : decode cX1_readDeed 41 = .ok (.getfield 19, 3) := by decide +kernel
theorem dX1_readDeed_44 : decode cX1_readDeed 44 = .ok (.iconst 1, 1) := by decide +kernel
theorem dX1_readDeed_45 : decode cX1_readDeed 45 = .ok (.iadd, 1) := by decide +kernel
theorem dX1_readDeed_46 : decode cX1_readDeed 46 = .ok (.putfield 19, 3) := by decide +kernel
theorem dX1_readDeed_49 : decode cX1_readDeed 49 = .ok (.aload_n 0, 1) := by decide +kernel
theorem dX1_readDeed_50 : decode cX1_readDeed 50 = .ok (.getfield 19, 3) := by decide +kernel
theorem dX1_readDeed_53 : decode cX1_readDeed 53 = .ok (.aload_n 0, 1) := by decide +kernel
theorem dX1_readDeed_54 : decode cX1_readDeed 54 = .ok (.getfield 15, 3) := by decide +kernel
theorem dX1_readDeed_57 : decode cX1_readDeed 57 = .ok (.if_icmp .ge 54, 3) := by decide +kernel
theorem dX1_readDeed_60 : decode cX1_readDeed 60 = .ok (.aload_n 0, 1) := by decide +kernel
theorem dX1_readDeed_61 : decode cX1_readDeed 61 = .ok (.getfield 9, 3) := by decide +kernel
theorem dX1_readDeed_64 : decode cX1_readDeed 64 = .ok (.aload_n 0, 1) := by decide +kernel
theorem dX1_readDeed_65 : decode cX1_readDeed 65 = .ok (.getfield 19, 3) := by decide +kernel
theorem dX1_readDeed_68 : decode cX1_readDeed 68 = .ok (.caload, 1) := by decide +kernel
theorem dX1_readDeed_69 : decode cX1_readDeed 69 = .ok (.bipush 59, 2) := by decide +kernel
theorem dX1_readDeed_71 : decode cX1_readDeed 71 = .ok (.if_icmp .eq 40, 3) := by decide +kernel
theorem dX1_readDeed_74 : decode cX1_readDeed 74 = .ok (.aload_n 0, 1) := by decide +kernel
theorem dX1_readDeed_75 : decode cX1_readDeed 75 = .ok (.bipush 10, 2) := by decide +kernel
theorem dX1_readDeed_77 : decode cX1_readDeed 77 = .ok (.aload_n 0, 1) := by decide +kernel
theorem dX1_readDeed_78 : decode cX1_readDeed 78 = .ok (.getfield 29, 3) := by decide +kernel
theorem dX1_readDeed_81 : decode cX1_readDeed 81 = .ok (.imul, 1) := by decide +kernel
theorem dX1_readDeed_82 : decode cX1_readDeed 82 = .ok (.aload_n 0, 1) := by decide +kernel
theorem dX1_readDeed_83 : decode cX1_readDeed 83 = .ok (.getfield 9, 3) := by decide +kernel
theorem dX1_readDeed_86 : decode cX1_readDeed 86 = .ok (.aload_n 0, 1) := by decide +kernel
theorem dX1_readDeed_87 : decode cX1_readDeed 87 = .ok (.getfield 19, 3) := by decide +kernel
theorem dX1_readDeed_90 : decode cX1_readDeed 90 = .ok (.caload, 1) := by decide +kernel
theorem dX1_readDeed_91 : decode cX1_readDeed 91 = .ok (.iadd, 1) := by decide +kernel
theorem dX1_readDeed_92 : decode cX1_readDeed 92 = .ok (.bipush 48, 2) := by decide +kernel
theorem dX1_readDeed_94 : decode cX1_readDeed 94 = .ok (.isub, 1) := by decide +kernel
theorem dX1_readDeed_95 : decode cX1_readDeed 95 = .ok (.putfield 29, 3) := by decide +kernel
theorem dX1_readDeed_98 : decode cX1_readDeed 98 = .ok (.aload_n 0, 1) := by decide +kernel
theorem dX1_readDeed_99 : decode cX1_readDeed 99 = .ok (.dup, 1) := by decide +kernel
theorem dX1_readDeed_100 : decode cX1_readDeed 100 = .ok (.getfield 19, 3) := by decide +kernel
theorem dX1_readDeed_103 : decode cX1_readDeed 103 = .ok (.iconst 1, 1) := by decide +kernel
theorem dX1_readDeed_104 : decode cX1_readDeed 104 = .ok (.iadd, 1) := by decide +kernel
theorem dX1_readDeed_105 : decode cX1_readDeed 105 = .ok (.putfield 19, 3) := by decide +kernel
theorem dX1_readDeed_108 : decode cX1_readDeed 108 = .ok (.goto (-59), 3) := by decide +kernel
theorem dX1_readDeed_111 : decode cX1_readDeed 111 = .ok (.aload_n 0, 1) := by decide +kernel
theorem dX1_readDeed_112 : decode cX1_readDeed 112 = .ok (.dup, 1) := by decide +kernel
theorem dX1_readDeed_113 : decode cX1_readDeed 113 = .ok (.getfield 19, 3) := by decide +kernel
theorem dX1_readDeed_116 : decode cX1_readDeed 116 = .ok (.iconst 1, 1) := by decide +kernel
theorem dX1_readDeed_117 : decode cX1_readDeed 117 = .ok (.iadd, 1) := by decide +kernel
theorem dX1_readDeed_118 : decode cX1_readDeed 118 = .ok (.putfield 19, 3) := by decide +kernel
theorem dX1_readDeed_121 : decode cX1_readDeed 121 = .ok (.iconst 1, 1) := by decide +kernel
theorem dX1_readDeed_122 : decode cX1_readDeed 122 = .ok (.ireturn, 1) := by decide +kernel
theorem dX2_isCell_0 : decode cX2_isCell 0 = .ok (.iload_n 0, 1) := by decide +kernel
theorem dX2_isCell_1 : decode cX2_isCell 1 = .ok (.ifCond .lt 13, 3) := by decide +kernel
theorem dX2_isCell_4 : decode cX2_isCell 4 = .ok (.iload_n 0, 1) := by decide +kernel
theorem dX2_isCell_5 : decode cX2_isCell 5 = .ok (.bipush 121, 2) := by decide +kernel
theorem dX2_isCell_7 : decode cX2_isCell 7 = .ok (.if_icmp .ge 7, 3) := by decide +kernel
theorem dX2_isCell_10 : decode cX2_isCell 10 = .ok (.iconst 1, 1) := by decide +kernel
theorem dX2_isCell_11 : decode cX2_isCell 11 = .ok (.goto 4, 3) := by decide +kernel
theorem dX2_isCell_14 : decode cX2_isCell 14 = .ok (.iconst 0, 1) := by decide +kernel
theorem dX2_isCell_15 : decode cX2_isCell 15 = .ok (.ireturn, 1) := by decide +kernel
theorem dX2_isRim_0 : decode cX2_isRim 0 = .ok (.iload_n 0, 1) := by decide +kernel
theorem dX2_isRim_1 : decode cX2_isRim 1 = .ok (.ifCond .lt 13, 3) := by decide +kernel
theorem dX2_isRim_4 : decode cX2_isRim 4 = .ok (.iload_n 0, 1) := by decide +kernel
theorem dX2_isRim_5 : decode cX2_isRim 5 = .ok (.bipush 40, 2) := by decide +kernel
theorem dX2_isRim_7 : decode cX2_isRim 7 = .ok (.if_icmp .ge 7, 3) := by decide +kernel
theorem dX2_isRim_10 : decode cX2_isRim 10 = .ok (.iconst 1, 1) := by decide +kernel
theorem dX2_isRim_11 : decode cX2_isRim 11 = .ok (.goto 4, 3) := by decide +kernel
theorem dX2_isRim_14 : decode cX2_isRim 14 = .ok (.iconst 0, 1) := by decide +kernel
theorem dX2_isRim_15 : decode cX2_isRim 15 = .ok (.ireturn, 1) := by decide +kernel
theorem dX2_neighbour_0 : decode cX2_neighbour 0 = .ok (.iload_n 0, 1) := by decide +kernel
theorem dX2_neighbour_1 : decode cX2_neighbour 1 = .ok (.ifCond .lt 9, 3) := by decide +kernel
theorem dX2_neighbour_4 : decode cX2_neighbour 4 = .ok (.iload_n 0, 1) := by decide +kernel
theorem dX2_neighbour_5 : decode cX2_neighbour 5 = .ok (.bipush 121, 2) := by decide +kernel
theorem dX2_neighbour_7 : decode cX2_neighbour 7 = .ok (.if_icmp .lt 6, 3) := by decide +kernel
theorem dX2_neighbour_10 : decode cX2_neighbour 10 = .ok (.bipush (-4), 2) := by decide +kernel
theorem dX2_neighbour_12 : decode cX2_neighbour 12 = .ok (.ireturn, 1) := by decide +kernel
theorem dX2_neighbour_13 : decode cX2_neighbour 13 = .ok (.iload_n 0, 1) := by decide +kernel
theorem dX2_neighbour_14 : decode cX2_neighbour 14 = .ok (.bipush 11, 2) := by decide +kernel
theorem dX2_neighbour_16 : decode cX2_neighbour 16 = .ok (.idiv, 1) := by decide +kernel
theorem dX2_neighbour_17 : decode cX2_neighbour 17 = .ok (.istore_n 2, 1) := by decide +kernel
theorem dX2_neighbour_18 : decode cX2_neighbour 18 = .ok (.iload_n 0, 1) := by decide +kernel
theorem dX2_neighbour_19 : decode cX2_neighbour 19 = .ok (.bipush 11, 2) := by decide +kernel
theorem dX2_neighbour_21 : decode cX2_neighbour 21 = .ok (.irem, 1) := by decide +kernel
theorem dX2_neighbour_22 : decode cX2_neighbour 22 = .ok (.istore_n 3, 1) := by decide +kernel
theorem dX2_neighbour_23 : decode cX2_neighbour 23 = .ok (.iload_n 1, 1) := by decide +kernel
theorem dX2_neighbour_24 : decode cX2_neighbour 24 = .ok (.tableswitch 90 0 3 #[32, 46, 61, 77], 32) := by decide +kernel
theorem dX2_neighbour_56 : decode cX2_neighbour 56 = .ok (.iload_n 2, 1) := by decide +kernel
theorem dX2_neighbour_57 : decode cX2_neighbour 57 = .ok (.ifCond .le 10, 3) := by decide +kernel
theorem dX2_neighbour_60 : decode cX2_neighbour 60 = .ok (.iload_n 0, 1) := by decide +kernel
theorem dX2_neighbour_61 : decode cX2_neighbour 61 = .ok (.bipush 11, 2) := by decide +kernel
theorem dX2_neighbour_63 : decode cX2_neighbour 63 = .ok (.isub, 1) := by decide +kernel
theorem dX2_neighbour_64 : decode cX2_neighbour 64 = .ok (.goto 5, 3) := by decide +kernel
theorem dX2_neighbour_67 : decode cX2_neighbour 67 = .ok (.bipush (-4), 2) := by decide +kernel
theorem dX2_neighbour_69 : decode cX2_neighbour 69 = .ok (.ireturn, 1) := by decide +kernel
theorem dX2_neighbour_70 : decode cX2_neighbour 70 = .ok (.iload_n 3, 1) := by decide +kernel
theorem dX2_neighbour_71 : decode cX2_neighbour 71 = .ok (.bipush 10, 2) := by decide +kernel
theorem dX2_neighbour_73 : decode cX2_neighbour 73 = .ok (.if_icmp .ge 9, 3) := by decide +kernel
theorem dX2_neighbour_76 : decode cX2_neighbour 76 = .ok (.iload_n 0, 1) := by decide +kernel
theorem dX2_neighbour_77 : decode cX2_neighbour 77 = .ok (.iconst 1, 1) := by decide +kernel
theorem dX2_neighbour_78 : decode cX2_neighbour 78 = .ok (.iadd, 1) := by decide +kernel
theorem dX2_neighbour_79 : decode cX2_neighbour 79 = .ok (.goto 5, 3) := by decide +kernel
theorem dX2_neighbour_82 : decode cX2_neighbour 82 = .ok (.bipush (-4), 2) := by decide +kernel
theorem dX2_neighbour_84 : decode cX2_neighbour 84 = .ok (.ireturn, 1) := by decide +kernel
theorem dX2_neighbour_85 : decode cX2_neighbour 85 = .ok (.iload_n 2, 1) := by decide +kernel
theorem dX2_neighbour_86 : decode cX2_neighbour 86 = .ok (.bipush 10, 2) := by decide +kernel
theorem dX2_neighbour_88 : decode cX2_neighbour 88 = .ok (.if_icmp .ge 10, 3) := by decide +kernel
theorem dX2_neighbour_91 : decode cX2_neighbour 91 = .ok (.iload_n 0, 1) := by decide +kernel
theorem dX2_neighbour_92 : decode cX2_neighbour 92 = .ok (.bipush 11, 2) := by decide +kernel
theorem dX2_neighbour_94 : decode cX2_neighbour 94 = .ok (.iadd, 1) := by decide +kernel
theorem dX2_neighbour_95 : decode cX2_neighbour 95 = .ok (.goto 5, 3) := by decide +kernel
theorem dX2_neighbour_98 : decode cX2_neighbour 98 = .ok (.bipush (-4), 2) := by decide +kernel
theorem dX2_neighbour_100 : decode cX2_neighbour 100 = .ok (.ireturn, 1) := by decide +kernel
theorem dX2_neighbour_101 : decode cX2_neighbour 101 = .ok (.iload_n 3, 1) := by decide +kernel
theorem dX2_neighbour_102 : decode cX2_neighbour 102 = .ok (.ifCond .le 9, 3) := by decide +kernel
theorem dX2_neighbour_105 : decode cX2_neighbour 105 = .ok (.iload_n 0, 1) := by decide +kernel
theorem dX2_neighbour_106 : decode cX2_neighbour 106 = .ok (.iconst 1, 1) := by decide +kernel
theorem dX2_neighbour_107 : decode cX2_neighbour 107 = .ok (.isub, 1) := by decide +kernel
theorem dX2_neighbour_108 : decode cX2_neighbour 108 = .ok (.goto 5, 3) := by decide +kernel
theorem dX2_neighbour_111 : decode cX2_neighbour 111 = .ok (.bipush (-4), 2) := by decide +kernel
theorem dX2_neighbour_113 : decode cX2_neighbour 113 = .ok (.ireturn, 1) := by decide +kernel
theorem dX2_neighbour_114 : decode cX2_neighbour 114 = .ok (.bipush (-4), 2) := by decide +kernel
theorem dX2_neighbour_116 : decode cX2_neighbour 116 = .ok (.ireturn, 1) := by decide +kernel
theorem dX2_ringOf_0 : decode cX2_ringOf 0 = .ok (.iload_n 0, 1) := by decide +kernel
theorem dX2_ringOf_1 : decode cX2_ringOf 1 = .ok (.bipush 11, 2) := by decide +kernel
theorem dX2_ringOf_3 : decode cX2_ringOf 3 = .ok (.idiv, 1) := by decide +kernel
theorem dX2_ringOf_4 : decode cX2_ringOf 4 = .ok (.iconst 5, 1) := by decide +kernel
theorem dX2_ringOf_5 : decode cX2_ringOf 5 = .ok (.isub, 1) := by decide +kernel
theorem dX2_ringOf_6 : decode cX2_ringOf 6 = .ok (.invokestatic 9, 3) := by decide +kernel
theorem dX2_ringOf_9 : decode cX2_ringOf 9 = .ok (.iload_n 0, 1) := by decide +kernel
theorem dX2_ringOf_10 : decode cX2_ringOf 10 = .ok (.bipush 11, 2) := by decide +kernel
theorem dX2_ringOf_12 : decode cX2_ringOf 12 = .ok (.irem, 1) := by decide +kernel
theorem dX2_ringOf_13 : decode cX2_ringOf 13 = .ok (.iconst 5, 1) := by decide +kernel
theorem dX2_ringOf_14 : decode cX2_ringOf 14 = .ok (.isub, 1) := by decide +kernel
theorem dX2_ringOf_15 : decode cX2_ringOf 15 = .ok (.invokestatic 9, 3) := by decide +kernel
theorem dX2_ringOf_18 : decode cX2_ringOf 18 = .ok (.invokestatic 15, 3) := by decide +kernel
theorem dX2_ringOf_21 : decode cX2_ringOf 21 = .ok (.ireturn, 1) := by decide +kernel
theorem dX2_cellOfRim_0 : decode cX2_cellOfRim 0 = .ok (.iload_n 0, 1) := by decide +kernel
theorem dX2_cellOfRim_1 : decode cX2_cellOfRim 1 = .ok (.bipush 10, 2) := by decide +kernel
theorem dX2_cellOfRim_3 : decode cX2_cellOfRim 3 = .ok (.if_icmp .gt 5, 3) := by decide +kernel
theorem dX2_cellOfRim_6 : decode cX2_cellOfRim 6 = .ok (.iload_n 0, 1) := by decide +kernel
theorem dX2_cellOfRim_7 : decode cX2_cellOfRim 7 = .ok (.ireturn, 1) := by decide +kernel
theorem dX2_cellOfRim_8 : decode cX2_cellOfRim 8 = .ok (.iload_n 0, 1) := by decide +kernel
theorem dX2_cellOfRim_9 : decode cX2_cellOfRim 9 = .ok (.bipush 20, 2) := by decide +kernel
theorem dX2_cellOfRim_11 : decode cX2_cellOfRim 11 = .ok (.if_icmp .gt 16, 3) := by decide +kernel
theorem dX2_cellOfRim_14 : decode cX2_cellOfRim 14 = .ok (.bipush 11, 2) := by decide +kernel
theorem dX2_cellOfRim_16 : decode cX2_cellOfRim 16 = .ok (.iload_n 0, 1) := by decide +kernel
theorem dX2_cellOfRim_17 : decode cX2_cellOfRim 17 = .ok (.bipush 10, 2) := by decide +kernel
theorem dX2_cellOfRim_19 : decode cX2_cellOfRim 19 = .ok (.isub, 1) := by decide +kernel
theorem dX2_cellOfRim_20 : decode cX2_cellOfRim 20 = .ok (.imul, 1) := by decide +kernel
theorem dX2_cellOfRim_21 : decode cX2_cellOfRim 21 = .ok (.bipush 11, 2) := by decide +kernel
theorem dX2_cellOfRim_23 : decode cX2_cellOfRim 23 = .ok (.iadd, 1) := by decide +kernel
theorem dX2_cellOfRim_24 : decode cX2_cellOfRim 24 = .ok (.iconst 1, 1) := by decide +kernel
theorem dX2_cellOfRim_25 : decode cX2_cellOfRim 25 = .ok (.isub, 1) := by decide +kernel
theorem dX2_cellOfRim_26 : decode cX2_cellOfRim 26 = .ok (.ireturn, 1) := by decide +kernel
theorem dX2_cellOfRim_27 : decode cX2_cellOfRim 27 = .ok (.iload_n 0, 1) := by decide +kernel
theorem dX2_cellOfRim_28 : decode cX2_cellOfRim 28 = .ok (.bipush 30, 2) := by decide +kernel
theorem dX2_cellOfRim_30 : decode cX2_cellOfRim 30 = .ok (.if_icmp .gt 9, 3) := by decide +kernel
theorem dX2_cellOfRim_33 : decode cX2_cellOfRim 33 = .ok (.sipush 140, 3) := by decide +kernel
theorem dX2_cellOfRim_36 : decode cX2_cellOfRim 36 = .ok (.iload_n 0, 1) := by decide +kernel
theorem dX2_cellOfRim_37 : decode cX2_cellOfRim 37 = .ok (.isub, 1) := by decide +kernel
theorem dX2_cellOfRim_38 : decode cX2_cellOfRim 38 = .ok (.ireturn, 1) := by decide +kernel
theorem dX2_cellOfRim_39 : decode cX2_cellOfRim 39 = .ok (.bipush 11, 2) := by decide +kernel
theorem dX2_cellOfRim_41 : decode cX2_cellOfRim 41 = .ok (.bipush 40, 2) := by decide +kernel
theorem dX2_cellOfRim_43 : decode cX2_cellOfRim 43 = .ok (.iload_n 0, 1) := by decide +kernel
theorem dX2_cellOfRim_44 : decode cX2_cellOfRim 44 = .ok (.isub, 1) := by decide +kernel
theorem dX2_cellOfRim_45 : decode cX2_cellOfRim 45 = .ok (.imul, 1) := by decide +kernel
theorem dX2_cellOfRim_46 : decode cX2_cellOfRim 46 = .ok (.ireturn, 1) := by decide +kernel
theorem dX2_rimOf_0 : decode cX2_rimOf 0 = .ok (.iload_n 0, 1) := by decide +kernel
theorem dX2_rimOf_1 : decode cX2_rimOf 1 = .ok (.bipush 11, 2) := by decide +kernel
theorem dX2_rimOf_3 : decode cX2_rimOf 3 = .ok (.idiv, 1) := by decide +kernel
theorem dX2_rimOf_4 : decode cX2_rimOf 4 = .ok (.istore_n 1, 1) := by decide +kernel
theorem dX2_rimOf_5 : decode cX2_rimOf 5 = .ok (.iload_n 0, 1) := by decide +kernel
theorem dX2_rimOf_6 : decode cX2_rimOf 6 = .ok (.bipush 11, 2) := by decide +kernel
theorem dX2_rimOf_8 : decode cX2_rimOf 8 = .ok (.irem, 1) := by decide +kernel
theorem dX2_rimOf_9 : decode cX2_rimOf 9 = .ok (.istore_n 2, 1) := by decide +kernel
theorem dX2_rimOf_10 : decode cX2_rimOf 10 = .ok (.iload_n 1, 1) := by decide +kernel
theorem dX2_rimOf_11 : decode cX2_rimOf 11 = .ok (.ifCond .ne 5, 3) := by decide +kernel
theorem dX2_rimOf_14 : decode cX2_rimOf 14 = .ok (.iload_n 2, 1) := by decide +kernel
theorem dX2_rimOf_15 : decode cX2_rimOf 15 = .ok (.ireturn, 1) := by decide +kernel
theorem dX2_rimOf_16 : decode cX2_rimOf 16 = .ok (.iload_n 2, 1) := by decide +kernel
theorem dX2_rimOf_17 : decode cX2_rimOf 17 = .ok (.bipush 10, 2) := by decide +kernel
theorem dX2_rimOf_19 : decode cX2_rimOf 19 = .ok (.if_icmp .ne 8, 3) := by decide +kernel
theorem dX2_rimOf_22 : decode cX2_rimOf 22 = .ok (.bipush 10, 2) := by decide +kernel
theorem dX2_rimOf_24 : decode cX2_rimOf 24 = .ok (.iload_n 1, 1) := by decide +kernel
theorem dX2_rimOf_25 : decode cX2_rimOf 25 = .ok (.iadd, 1) := by decide +kernel
theorem dX2_rimOf_26 : decode cX2_rimOf 26 = .ok (.ireturn, 1) := by decide +kernel
theorem dX2_rimOf_27 : decode cX2_rimOf 27 = .ok (.iload_n 1, 1) := by decide +kernel
theorem dX2_rimOf_28 : decode cX2_rimOf 28 = .ok (.bipush 10, 2) := by decide +kernel
theorem dX2_rimOf_30 : decode cX2_rimOf 30 = .ok (.if_icmp .ne 8, 3) := by decide +kernel
theorem dX2_rimOf_33 : decode cX2_rimOf 33 = .ok (.bipush 30, 2) := by decide +kernel
theorem dX2_rimOf_35 : decode cX2_rimOf 35 = .ok (.iload_n 2, 1) := by decide +kernel
theorem dX2_rimOf_36 : decode cX2_rimOf 36 = .ok (.isub, 1) := by decide +kernel
theorem dX2_rimOf_37 : decode cX2_rimOf 37 = .ok (.ireturn, 1) := by decide +kernel
theorem dX2_rimOf_38 : decode cX2_rimOf 38 = .ok (.iload_n 2, 1) := by decide +kernel
theorem dX2_rimOf_39 : decode cX2_rimOf 39 = .ok (.ifCond .ne 10, 3) := by decide +kernel
theorem dX2_rimOf_42 : decode cX2_rimOf 42 = .ok (.bipush 40, 2) := by decide +kernel
theorem dX2_rimOf_44 : decode cX2_rimOf 44 = .ok (.iload_n 1, 1) := by decide +kernel
theorem dX2_rimOf_45 : decode cX2_rimOf 45 = .ok (.isub, 1) := by decide +kernel
theorem dX2_rimOf_46 : decode cX2_rimOf 46 = .ok (.goto 5, 3) := by decide +kernel
theorem dX2_rimOf_49 : decode cX2_rimOf 49 = .ok (.bipush (-4), 2) := by decide +kernel
theorem dX2_rimOf_51 : decode cX2_rimOf 51 = .ok (.ireturn, 1) := by decide +kernel
theorem dX2_directionInward_0 : decode cX2_directionInward 0 = .ok (.iload_n 0, 1) := by decide +kernel
theorem dX2_directionInward_1 : decode cX2_directionInward 1 = .ok (.bipush 10, 2) := by decide +kernel
theorem dX2_directionInward_3 : decode cX2_directionInward 3 = .ok (.if_icmp .gt 5, 3) := by decide +kernel
theorem dX2_directionInward_6 : decode cX2_directionInward 6 = .ok (.iconst 2, 1) := by decide +kernel
theorem dX2_directionInward_7 : decode cX2_directionInward 7 = .ok (.ireturn, 1) := by decide +kernel
theorem dX2_directionInward_8 : decode cX2_directionInward 8 = .ok (.iload_n 0, 1) := by decide +kernel
theorem dX2_directionInward_9 : decode cX2_directionInward 9 = .ok (.bipush 19, 2) := by decide +kernel
theorem dX2_directionInward_11 : decode cX2_directionInward 11 = .ok (.if_icmp .gt 5, 3) := by decide +kernel
theorem dX2_directionInward_14 : decode cX2_directionInward 14 = .ok (.iconst 3, 1) := by decide +kernel
theorem dX2_directionInward_15 : decode cX2_directionInward 15 = .ok (.ireturn, 1) := by decide +kernel
theorem dX2_directionInward_16 : decode cX2_directionInward 16 = .ok (.iload_n 0, 1) := by decide +kernel
theorem dX2_directionInward_17 : decode cX2_directionInward 17 = .ok (.bipush 30, 2) := by decide +kernel
theorem dX2_directionInward_19 : decode cX2_directionInward 19 = .ok (.if_icmp .gt 7, 3) := by decide +kernel
theorem dX2_directionInward_22 : decode cX2_directionInward 22 = .ok (.iconst 0, 1) := by decide +kernel
theorem dX2_directionInward_23 : decode cX2_directionInward 23 = .ok (.goto 4, 3) := by decide +kernel
theorem dX2_directionInward_26 : decode cX2_directionInward 26 = .ok (.iconst 1, 1) := by decide +kernel
theorem dX2_directionInward_27 : decode cX2_directionInward 27 = .ok (.ireturn, 1) := by decide +kernel
theorem dX3_init_0 : decode cX3_init 0 = .ok (.aload_n 0, 1) := by decide +kernel
theorem dX3_init_1 : decode cX3_init 1 = .ok (.invokespecial 3, 3) := by decide +kernel
theorem dX3_init_4 : decode cX3_init 4 = .ok (.aload_n 0, 1) := by decide +kernel
theorem dX3_init_5 : decode cX3_init 5 = .ok (.bipush 121, 2) := by decide +kernel
theorem dX3_init_7 : decode cX3_init 7 = .ok (.newarray .int, 2) := by decide +kernel
theorem dX3_init_9 : decode cX3_init 9 = .ok (.putfield 9, 3) := by decide +kernel
theorem dX3_init_12 : decode cX3_init 12 = .ok (.aload_n 0, 1) := by decide +kernel
theorem dX3_init_13 : decode cX3_init 13 = .ok (.iconst 0, 1) := by decide +kernel
theorem dX3_init_14 : decode cX3_init 14 = .ok (.putfield 15, 3) := by decide +kernel
theorem dX3_init_17 : decode cX3_init 17 = .ok (.aload_n 0, 1) := by decide +kernel
theorem dX3_init_18 : decode cX3_init 18 = .ok (.iconst 0, 1) := by decide +kernel
theorem dX3_init_19 : decode cX3_init 19 = .ok (.putfield 19, 3) := by decide +kernel
theorem dX3_init_22 : decode cX3_init 22 = .ok (.return_, 1) := by decide +kernel
set_option maxRecDepth 20000 in
theorem ggX3_read_X3_firstMet : GoodIn wsX3_read wsX3_firstMet := goodIn_r _ [7, 8, 9, 10, 11, 12, 13, 14, 15, 16, 17, 18, 19, 20, 21, 22, 23, 29, 30, 31, 32, 33, 34, 35, 36, 37, 38, 39] (by decide +kernel) (by decide +kernel)
set_option maxRecDepth 20000 in
theorem gX3_read_X3_firstMet : GoodIn wsX3_read (va_wsS RX3 25 yX3_firstMet wsX3_firstMet) := goodIn_app (goodIn_of _ (by decide +kernel)) ggX3_read_X3_firstMet
set_option maxRecDepth 20000 in
theorem ggX3_read_X4_isGrain : GoodIn wsX3_read wsX4_isGrain := goodIn_r _ [27, 28, 29, 30, 31, 32, 33, 34, 35, 36, 37, 38, 39] (by decide +kernel) (by decide +kernel)
set_option maxRecDepth 20000 in
theorem gX3_read_X4_isGrain : GoodIn wsX3_read (wsV RX3 29 RX4 yX4_isGrain wsX4_isGrain) := goodIn_app (goodIn_of _ (by decide +kernel)) ggX3_read_X4_isGrain
theorem dX3_read_0 : decode cX3_read 0 = .ok (.aload_n 0, 1) := by decide +kernel
theorem dX3_read_1 : decode cX3_read 1 = .ok (.aload_n 1, 1) := by decide +kernel
theorem dX3_read_2 : decode cX3_read 2 = .ok (.getfield 22, 3) := by decide +kernel
theorem dX3_read_5 : decode cX3_read 5 = .ok (.putfield 15, 3) := by decide +kernel
theorem dX3_read_8 : decode cX3_read 8 = .ok (.aload_n 0, 1) := by decide +kernel
theorem dX3_read_9 : decode cX3_read 9 = .ok (.iconst 0, 1) := by decide +kernel
theorem dX3_read_10 : decode cX3_read 10 = .ok (.putfield 19, 3) := by decide +kernel
theorem dX3_read_13 : decode cX3_read 13 = .ok (.iconst 0, 1) := by decide +kernel
theorem dX3_read_14 : decode cX3_read 14 = .ok (.istore_n 2, 1) := by decide +kernel
theorem dX3_read_15 : decode cX3_read 15 = .ok (.iload_n 2, 1) := by decide +kernel
theorem dX3_read_16 : decode cX3_read 16 = .ok (.aload_n 0, 1) := by decide +kernel
theorem dX3_read_17 : decode cX3_read 17 = .ok (.getfield 15, 3) := by decide +kernel
theorem dX3_read_20 : decode cX3_read 20 = .ok (.if_icmp .ge 16, 3) := by decide +kernel
theorem dX3_read_23 : decode cX3_read 23 = .ok (.aload_n 0, 1) := by decide +kernel
theorem dX3_read_24 : decode cX3_read 24 = .ok (.getfield 9, 3) := by decide +kernel
theorem dX3_read_27 : decode cX3_read 27 = .ok (.iload_n 2, 1) := by decide +kernel
theorem dX3_read_28 : decode cX3_read 28 = .ok (.iconst 0, 1) := by decide +kernel
theorem dX3_read_29 : decode cX3_read 29 = .ok (.iastore, 1) := by decide +kernel
theorem dX3_read_30 : decode cX3_read 30 = .ok (.iinc 2 1, 3) := by decide +kernel
theorem dX3_read_33 : decode cX3_read 33 = .ok (.goto (-18), 3) := by decide +kernel
theorem dX3_read_36 : decode cX3_read 36 = .ok (.iconst 0, 1) := by decide +kernel
theorem dX3_read_37 : decode cX3_read 37 = .ok (.istore_n 2, 1) := by decide +kernel
theorem dX3_read_38 : decode cX3_read 38 = .ok (.iload_n 2, 1) := by decide +kernel
theorem dX3_read_39 : decode cX3_read 39 = .ok (.bipush 40, 2) := by decide +kernel
theorem dX3_read_41 : decode cX3_read 41 = .ok (.if_icmp .ge 46, 3) := by decide +kernel
theorem dX3_read_44 : decode cX3_read 44 = .ok (.aload_n 1, 1) := by decide +kernel
theorem dX3_read_45 : decode cX3_read 45 = .ok (.iload_n 2, 1) := by decide +kernel
theorem dX3_read_46 : decode cX3_read 46 = .ok (.invokestatic 25, 3) := by decide +kernel
theorem dX3_read_49 : decode cX3_read 49 = .ok (.istore_n 3, 1) := by decide +kernel
theorem dX3_read_50 : decode cX3_read 50 = .ok (.aload_n 1, 1) := by decide +kernel
theorem dX3_read_51 : decode cX3_read 51 = .ok (.iload_n 3, 1) := by decide +kernel
theorem dX3_read_52 : decode cX3_read 52 = .ok (.invokevirtual 29, 3) := by decide +kernel
theorem dX3_read_55 : decode cX3_read 55 = .ok (.ifCond .eq 16, 3) := by decide +kernel
theorem dX3_read_58 : decode cX3_read 58 = .ok (.aload_n 0, 1) := by decide +kernel
theorem dX3_read_59 : decode cX3_read 59 = .ok (.getfield 9, 3) := by decide +kernel
theorem dX3_read_62 : decode cX3_read 62 = .ok (.iload_n 3, 1) := by decide +kernel
theorem dX3_read_63 : decode cX3_read 63 = .ok (.dup2, 1) := by decide +kernel
theorem dX3_read_64 : decode cX3_read 64 = .ok (.iaload, 1) := by decide +kernel
theorem dX3_read_65 : decode cX3_read 65 = .ok (.iconst 1, 1) := by decide +kernel
theorem dX3_read_66 : decode cX3_read 66 = .ok (.iadd, 1) := by decide +kernel
theorem dX3_read_67 : decode cX3_read 67 = .ok (.iastore, 1) := by decide +kernel
theorem dX3_read_68 : decode cX3_read 68 = .ok (.goto 13, 3) := by decide +kernel
theorem dX3_read_71 : decode cX3_read 71 = .ok (.aload_n 0, 1) := by decide +kernel
theorem dX3_read_72 : decode cX3_read 72 = .ok (.dup, 1) := by decide +kernel
theorem dX3_read_73 : decode cX3_read 73 = .ok (.getfield 19, 3) := by decide +kernel
theorem dX3_read_76 : decode cX3_read 76 = .ok (.iconst 1, 1) := by decide +kernel
theorem dX3_read_77 : decode cX3_read 77 = .ok (.iadd, 1) := by decide +kernel
theorem dX3_read_78 : decode cX3_read 78 = .ok (.putfield 19, 3) := by decide +kernel
theorem dX3_read_81 : decode cX3_read 81 = .ok (.iinc 2 1, 3) := by decide +kernel
theorem dX3_read_84 : decode cX3_read 84 = .ok (.goto (-46), 3) := by decide +kernel
theorem dX3_read_87 : decode cX3_read 87 = .ok (.return_, 1) := by decide +kernel
theorem dX3_bestGrain_0 : decode cX3_bestGrain 0 = .ok (.iconst 0, 1) := by decide +kernel
theorem dX3_bestGrain_1 : decode cX3_bestGrain 1 = .ok (.istore_n 1, 1) := by decide +kernel
theorem dX3_bestGrain_2 : decode cX3_bestGrain 2 = .ok (.iconst 1, 1) := by decide +kernel
theorem dX3_bestGrain_3 : decode cX3_bestGrain 3 = .ok (.istore_n 2, 1) := by decide +kernel
theorem dX3_bestGrain_4 : decode cX3_bestGrain 4 = .ok (.iload_n 2, 1) := by decide +kernel
theorem dX3_bestGrain_5 : decode cX3_bestGrain 5 = .ok (.aload_n 0, 1) := by decide +kernel
theorem dX3_bestGrain_6 : decode cX3_bestGrain 6 = .ok (.getfield 15, 3) := by decide +kernel
theorem dX3_bestGrain_9 : decode cX3_bestGrain 9 = .ok (.if_icmp .ge 26, 3) := by decide +kernel
theorem dX3_bestGrain_12 : decode cX3_bestGrain 12 = .ok (.aload_n 0, 1) := by decide +kernel
theorem dX3_bestGrain_13 : decode cX3_bestGrain 13 = .ok (.getfield 9, 3) := by decide +kernel
theorem dX3_bestGrain_16 : decode cX3_bestGrain 16 = .ok (.iload_n 2, 1) := by decide +kernel
theorem dX3_bestGrain_17 : decode cX3_bestGrain 17 = .ok (.iaload, 1) := by decide +kernel
theorem dX3_bestGrain_18 : decode cX3_bestGrain 18 = .ok (.aload_n 0, 1) := by decide +kernel
theorem dX3_bestGrain_19 : decode cX3_bestGrain 19 = .ok (.getfield 9, 3) := by decide +kernel
theorem dX3_bestGrain_22 : decode cX3_bestGrain 22 = .ok (.iload_n 1, 1) := by decide +kernel
theorem dX3_bestGrain_23 : decode cX3_bestGrain 23 = .ok (.iaload, 1) := by decide +kernel
theorem dX3_bestGrain_24 : decode cX3_bestGrain 24 = .ok (.if_icmp .le 5, 3) := by decide +kernel
theorem dX3_bestGrain_27 : decode cX3_bestGrain 27 = .ok (.iload_n 2, 1) := by decide +kernel
theorem dX3_bestGrain_28 : decode cX3_bestGrain 28 = .ok (.istore_n 1, 1) := by decide +kernel
theorem dX3_bestGrain_29 : decode cX3_bestGrain 29 = .ok (.iinc 2 1, 3) := by decide +kernel
theorem dX3_bestGrain_32 : decode cX3_bestGrain 32 = .ok (.goto (-28), 3) := by decide +kernel
theorem dX3_bestGrain_35 : decode cX3_bestGrain 35 = .ok (.iload_n 1, 1) := by decide +kernel
theorem dX3_bestGrain_36 : decode cX3_bestGrain 36 = .ok (.ireturn, 1) := by decide +kernel
set_option maxRecDepth 20000 in
theorem ggX3_firstMet_X2_cellOfRim : GoodIn wsX3_firstMet wsX2_cellOfRim := goodIn_r _ [4] (by decide +kernel) (by decide +kernel)
set_option maxRecDepth 20000 in
theorem gX3_firstMet_X2_cellOfRim : GoodIn wsX3_firstMet (va_wsS RX3 33 yX2_cellOfRim wsX2_cellOfRim) := goodIn_app (goodIn_of _ (by decide +kernel)) ggX3_firstMet_X2_cellOfRim
set_option maxRecDepth 20000 in
theorem ggX3_firstMet_X2_directionInward : GoodIn wsX3_firstMet wsX2_directionInward := goodIn_r _ [7] (by decide +kernel) (by decide +kernel)
set_option maxRecDepth 20000 in
theorem gX3_firstMet_X2_directionInward : GoodIn wsX3_firstMet (va_wsS RX3 39 yX2_directionInward wsX2_directionInward) := goodIn_app (goodIn_of _ (by decide +kernel)) ggX3_firstMet_X2_directionInward
set_option maxRecDepth 20000 in
theorem ggX3_firstMet_X4_grainAt : GoodIn wsX3_firstMet wsX4_grainAt := goodIn_r _ [12, 13, 17, 18, 19, 20, 21, 22, 23, 24, 25, 26, 27] (by decide +kernel) (by decide +kernel)
set_option maxRecDepth 20000 in
theorem gX3_firstMet_X4_grainAt : GoodIn wsX3_firstMet (wsV RX3 42 RX4 yX4_grainAt wsX4_grainAt) := goodIn_app (goodIn_of _ (by decide +kernel)) ggX3_firstMet_X4_grainAt
set_option maxRecDepth 20000 in
theorem ggX3_firstMet_X2_neighbour : GoodIn wsX3_firstMet wsX2_neighbour := goodIn_r _ [16] (by decide +kernel) (by decide +kernel)
set_option maxRecDepth 20000 in
theorem gX3_firstMet_X2_neighbour : GoodIn wsX3_firstMet (va_wsS RX3 45 yX2_neighbour wsX2_neighbour) := goodIn_app (goodIn_of _ (by decide +kernel)) ggX3_firstMet_X2_neighbour
theorem dX3_firstMet_0 : decode cX3_firstMet 0 = .ok (.iload_n 1, 1) := by decide +kernel
theorem dX3_firstMet_1 : decode cX3_firstMet 1 = .ok (.invokestatic 33, 3) := by decide +kernel
theorem dX3_firstMet_4 : decode cX3_firstMet 4 = .ok (.istore_n 2, 1) := by decide +kernel
theorem dX3_firstMet_5 : decode cX3_firstMet 5 = .ok (.iload_n 1, 1) := by decide +kernel
theorem dX3_firstMet_6 : decode cX3_firstMet 6 = .ok (.invokestatic 39, 3) := by decide +kernel
theorem dX3_firstMet_9 : decode cX3_firstMet 9 = .ok (.istore_n 3, 1) := by decide +kernel
theorem dX3_firstMet_10 : decode cX3_firstMet 10 = .ok (.iconst 0, 1) := by decide +kernel
theorem dX3_firstMet_11 : decode cX3_firstMet 11 = .ok (.istore 4, 2) := by decide +kernel
theorem dX3_firstMet_13 : decode cX3_firstMet 13 = .ok (.iload 4, 2) := by decide +kernel
theorem dX3_firstMet_15 : decode cX3_firstMet 15 = .ok (.bipush 11, 2) := by decide +kernel
theorem dX3_firstMet_17 : decode cX3_firstMet 17 = .ok (.if_icmp .ge 32, 3) := by decide +kernel
theorem dX3_firstMet_20 : decode cX3_firstMet 20 = .ok (.aload_n 0, 1) := by decide +kernel
theorem dX3_firstMet_21 : decode cX3_firstMet 21 = .ok (.iload_n 2, 1) := by decide +kernel
theorem dX3_firstMet_22 : decode cX3_firstMet 22 = .ok (.invokevirtual 42, 3) := by decide +kernel
theorem dX3_firstMet_25 : decode cX3_firstMet 25 = .ok (.istore 5, 2) := by decide +kernel
theorem dX3_firstMet_27 : decode cX3_firstMet 27 = .ok (.iload 5, 2) := by decide +kernel
theorem dX3_firstMet_29 : decode cX3_firstMet 29 = .ok (.bipush (-4), 2) := by decide +kernel
theorem dX3_firstMet_31 : decode cX3_firstMet 31 = .ok (.if_icmp .eq 6, 3) := by decide +kernel
theorem dX3_firstMet_34 : decode cX3_firstMet 34 = .ok (.iload 5, 2) := by decide +kernel
theorem dX3_firstMet_36 : decode cX3_firstMet 36 = .ok (.ireturn, 1) := by decide +kernel
theorem dX3_firstMet_37 : decode cX3_firstMet 37 = .ok (.iload_n 2, 1) := by decide +kernel
theorem dX3_firstMet_38 : decode cX3_firstMet 38 = .ok (.iload_n 3, 1) := by decide +kernel
theorem dX3_firstMet_39 : decode cX3_firstMet 39 = .ok (.invokestatic 45, 3) := by decide +kernel
theorem dX3_firstMet_42 : decode cX3_firstMet 42 = .ok (.istore_n 2, 1) := by decide +kernel
theorem dX3_firstMet_43 : decode cX3_firstMet 43 = .ok (.iinc 4 1, 3) := by decide +kernel
theorem dX3_firstMet_46 : decode cX3_firstMet 46 = .ok (.goto (-33), 3) := by decide +kernel
theorem dX3_firstMet_49 : decode cX3_firstMet 49 = .ok (.bipush (-4), 2) := by decide +kernel
theorem dX3_firstMet_51 : decode cX3_firstMet 51 = .ok (.ireturn, 1) := by decide +kernel
theorem dX4_init_0 : decode cX4_init 0 = .ok (.aload_n 0, 1) := by decide +kernel
theorem dX4_init_1 : decode cX4_init 1 = .ok (.invokespecial 3, 3) := by decide +kernel
theorem dX4_init_4 : decode cX4_init 4 = .ok (.aload_n 0, 1) := by decide +kernel
theorem dX4_init_5 : decode cX4_init 5 = .ok (.bipush 121, 2) := by decide +kernel
theorem dX4_init_7 : decode cX4_init 7 = .ok (.newarray .int, 2) := by decide +kernel
theorem dX4_init_9 : decode cX4_init 9 = .ok (.putfield 9, 3) := by decide +kernel
theorem dX4_init_12 : decode cX4_init 12 = .ok (.aload_n 0, 1) := by decide +kernel
theorem dX4_init_13 : decode cX4_init 13 = .ok (.bipush 121, 2) := by decide +kernel
theorem dX4_init_15 : decode cX4_init 15 = .ok (.newarray .int, 2) := by decide +kernel
theorem dX4_init_17 : decode cX4_init 17 = .ok (.putfield 15, 3) := by decide +kernel
theorem dX4_init_20 : decode cX4_init 20 = .ok (.aload_n 0, 1) := by decide +kernel
theorem dX4_init_21 : decode cX4_init 21 = .ok (.bipush 121, 2) := by decide +kernel
theorem dX4_init_23 : decode cX4_init 23 = .ok (.newarray .int, 2) := by decide +kernel
theorem dX4_init_25 : decode cX4_init 25 = .ok (.putfield 18, 3) := by decide +kernel
theorem dX4_init_28 : decode cX4_init 28 = .ok (.aload_n 0, 1) := by decide +kernel
theorem dX4_init_29 : decode cX4_init 29 = .ok (.bipush 121, 2) := by decide +kernel
theorem dX4_init_31 : decode cX4_init 31 = .ok (.newarray .int, 2) := by decide +kernel
theorem dX4_init_33 : decode cX4_init 33 = .ok (.putfield 21, 3) := by decide +kernel
theorem dX4_init_36 : decode cX4_init 36 = .ok (.aload_n 0, 1) := by decide +kernel
theorem dX4_init_37 : decode cX4_init 37 = .ok (.iconst 4, 1) := by decide +kernel
theorem dX4_init_38 : decode cX4_init 38 = .ok (.newarray .int, 2) := by decide +kernel
theorem dX4_init_40 : decode cX4_init 40 = .ok (.dup, 1) := by decide +kernel
theorem dX4_init_41 : decode cX4_init 41 = .ok (.iconst 0, 1) := by decide +kernel
theorem dX4_init_42 : decode cX4_init 42 = .ok (.iconst 4, 1) := by decide +kernel
theorem dX4_init_43 : decode cX4_init 43 = .ok (.iastore, 1) := by decide +kernel
theorem dX4_init_44 : decode cX4_init 44 = .ok (.dup, 1) := by decide +kernel
theorem dX4_init_45 : decode cX4_init 45 = .ok (.iconst 1, 1) := by decide +kernel
theorem dX4_init_46 : decode cX4_init 46 = .ok (.bipush 60, 2) := by decide +kernel
theorem dX4_init_48 : decode cX4_init 48 = .ok (.iastore, 1) := by decide +kernel
theorem dX4_init_49 : decode cX4_init 49 = .ok (.dup, 1) := by decide +kernel
theorem dX4_init_50 : decode cX4_init 50 = .ok (.iconst 2, 1) := by decide +kernel
theorem dX4_init_51 : decode cX4_init 51 = .ok (.iconst 0, 1) := by decide +kernel
theorem dX4_init_52 : decode cX4_init 52 = .ok (.iastore, 1) := by decide +kernel
theorem dX4_init_53 : decode cX4_init 53 = .ok (.dup, 1) := by decide +kernel
theorem dX4_init_54 : decode cX4_init 54 = .ok (.iconst 3, 1) := by decide +kernel
theorem dX4_init_55 : decode cX4_init 55 = .ok (.iconst 2, 1) := by decide +kernel
theorem dX4_init_56 : decode cX4_init 56 = .ok (.iastore, 1) := by decide +kernel
theorem dX4_init_57 : decode cX4_init 57 = .ok (.putfield 24, 3) := by decide +kernel
theorem dX4_init_60 : decode cX4_init 60 = .ok (.aload_n 0, 1) := by decide +kernel
theorem dX4_init_61 : decode cX4_init 61 = .ok (.iconst 0, 1) := by decide +kernel
theorem dX4_init_62 : decode cX4_init 62 = .ok (.putfield 27, 3) := by decide +kernel
theorem dX4_init_65 : decode cX4_init 65 = .ok (.aload_n 0, 1) := by decide +kernel
theorem dX4_init_66 : decode cX4_init 66 = .ok (.iconst 1, 1) := by decide +kernel
theorem dX4_init_67 : decode cX4_init 67 = .ok (.putfield 31, 3) := by decide +kernel
theorem dX4_init_70 : decode cX4_init 70 = .ok (.aload_n 0, 1) := by decide +kernel
theorem dX4_init_71 : decode cX4_init 71 = .ok (.iconst 0, 1) := by decide +kernel
theorem dX4_init_72 : decode cX4_init 72 = .ok (.putfield 34, 3) := by decide +kernel
theorem dX4_init_75 : decode cX4_init 75 = .ok (.aload_n 0, 1) := by decide +kernel
theorem dX4_init_76 : decode cX4_init 76 = .ok (.iconst 0, 1) := by decide +kernel
theorem dX4_init_77 : decode cX4_init 77 = .ok (.putfield 37, 3) := by decide +kernel
theorem dX4_init_80 : decode cX4_init 80 = .ok (.aload_n 0, 1) := by decide +kernel
theorem dX4_init_81 : decode cX4_init 81 = .ok (.iconst 0, 1) := by decide +kernel
theorem dX4_init_82 : decode cX4_init 82 = .ok (.putfield 40, 3) := by decide +kernel
theorem dX4_init_85 : decode cX4_init 85 = .ok (.aload_n 0, 1) := by decide +kernel
theorem dX4_init_86 : decode cX4_init 86 = .ok (.iconst 0, 1) := by decide +kernel
theorem dX4_init_87 : decode cX4_init 87 = .ok (.putfield 43, 3) := by decide +kernel
theorem dX4_init_90 : decode cX4_init 90 = .ok (.return_, 1) := by decide +kernel
theorem dX4_takeOver_0 : decode cX4_takeOver 0 = .ok (.aload_n 1, 1) := by decide +kernel
theorem dX4_takeOver_1 : decode cX4_takeOver 1 = .ok (.getfield 9, 3) := by decide +kernel
theorem dX4_takeOver_4 : decode cX4_takeOver 4 = .ok (.iconst 0, 1) := by decide +kernel
theorem dX4_takeOver_5 : decode cX4_takeOver 5 = .ok (.aload_n 0, 1) := by decide +kernel
theorem dX4_takeOver_6 : decode cX4_takeOver 6 = .ok (.getfield 9, 3) := by decide +kernel
theorem dX4_takeOver_9 : decode cX4_takeOver 9 = .ok (.iconst 0, 1) := by decide +kernel
theorem dX4_takeOver_10 : decode cX4_takeOver 10 = .ok (.bipush 121, 2) := by decide +kernel
theorem dX4_takeOver_12 : decode cX4_takeOver 12 = .ok (.invokestatic 46, 3) := by decide +kernel
theorem dX4_takeOver_15 : decode cX4_takeOver 15 = .ok (.aload_n 1, 1) := by decide +kernel
theorem dX4_takeOver_16 : decode cX4_takeOver 16 = .ok (.getfield 15, 3) := by decide +kernel
theorem dX4_takeOver_19 : decode cX4_takeOver 19 = .ok (.iconst 0, 1) := by decide +kernel
theorem dX4_takeOver_20 : decode cX4_takeOver 20 = .ok (.aload_n 0, 1) := by decide +kernel
theorem dX4_takeOver_21 : decode cX4_takeOver 21 = .ok (.getfield 15, 3) := by decide +kernel
theorem dX4_takeOver_24 : decode cX4_takeOver 24 = .ok (.iconst 0, 1) := by decide +kernel
theorem dX4_takeOver_25 : decode cX4_takeOver 25 = .ok (.bipush 121, 2) := by decide +kernel
theorem dX4_takeOver_27 : decode cX4_takeOver 27 = .ok (.invokestatic 46, 3) := by decide +kernel
theorem dX4_takeOver_30 : decode cX4_takeOver 30 = .ok (.aload_n 1, 1) := by decide +kernel
theorem dX4_takeOver_31 : decode cX4_takeOver 31 = .ok (.getfield 18, 3) := by decide +kernel
theorem dX4_takeOver_34 : decode cX4_takeOver 34 = .ok (.iconst 0, 1) := by decide +kernel
theorem dX4_takeOver_35 : decode cX4_takeOver 35 = .ok (.aload_n 0, 1) := by decide +kernel
theorem dX4_takeOver_36 : decode cX4_takeOver 36 = .ok (.getfield 18, 3) := by decide +kernel
theorem dX4_takeOver_39 : decode cX4_takeOver 39 = .ok (.iconst 0, 1) := by decide +kernel
theorem dX4_takeOver_40 : decode cX4_takeOver 40 = .ok (.bipush 121, 2) := by decide +kernel
theorem dX4_takeOver_42 : decode cX4_takeOver 42 = .ok (.invokestatic 46, 3) := by decide +kernel
theorem dX4_takeOver_45 : decode cX4_takeOver 45 = .ok (.aload_n 1, 1) := by decide +kernel
theorem dX4_takeOver_46 : decode cX4_takeOver 46 = .ok (.getfield 21, 3) := by decide +kernel
theorem dX4_takeOver_49 : decode cX4_takeOver 49 = .ok (.iconst 0, 1) := by decide +kernel
theorem dX4_takeOver_50 : decode cX4_takeOver 50 = .ok (.aload_n 0, 1) := by decide +kernel
theorem dX4_takeOver_51 : decode cX4_takeOver 51 = .ok (.getfield 21, 3) := by decide +kernel
theorem dX4_takeOver_54 : decode cX4_takeOver 54 = .ok (.iconst 0, 1) := by decide +kernel
theorem dX4_takeOver_55 : decode cX4_takeOver 55 = .ok (.bipush 121, 2) := by decide +kernel
theorem dX4_takeOver_57 : decode cX4_takeOver 57 = .ok (.invokestatic 46, 3) := by decide +kernel
theorem dX4_takeOver_60 : decode cX4_takeOver 60 = .ok (.aload_n 1, 1) := by decide +kernel
theorem dX4_takeOver_61 : decode cX4_takeOver 61 = .ok (.getfield 24, 3) := by decide +kernel
theorem dX4_takeOver_64 : decode cX4_takeOver 64 = .ok (.iconst 0, 1) := by decide +kernel
theorem dX4_takeOver_65 : decode cX4_takeOver 65 = .ok (.aload_n 0, 1) := by decide +kernel
theorem dX4_takeOver_66 : decode cX4_takeOver 66 = .ok (.getfield 24, 3) := by decide +kernel
theorem dX4_takeOver_69 : decode cX4_takeOver 69 = .ok (.iconst 0, 1) := by decide +kernel
theorem dX4_takeOver_70 : decode cX4_takeOver 70 = .ok (.iconst 4, 1) := by decide +kernel
theorem dX4_takeOver_71 : decode cX4_takeOver 71 = .ok (.invokestatic 46, 3) := by decide +kernel
theorem dX4_takeOver_74 : decode cX4_takeOver 74 = .ok (.aload_n 0, 1) := by decide +kernel
theorem dX4_takeOver_75 : decode cX4_takeOver 75 = .ok (.aload_n 1, 1) := by decide +kernel
theorem dX4_takeOver_76 : decode cX4_takeOver 76 = .ok (.getfield 27, 3) := by decide +kernel
theorem dX4_takeOver_79 : decode cX4_takeOver 79 = .ok (.putfield 27, 3) := by decide +kernel
theorem dX4_takeOver_82 : decode cX4_takeOver 82 = .ok (.aload_n 0, 1) := by decide +kernel
theorem dX4_takeOver_83 : decode cX4_takeOver 83 = .ok (.aload_n 1, 1) := by decide +kernel
theorem dX4_takeOver_84 : decode cX4_takeOver 84 = .ok (.getfield 31, 3) := by decide +kernel
theorem dX4_takeOver_87 : decode cX4_takeOver 87 = .ok (.putfield 31, 3) := by decide +kernel
theorem dX4_takeOver_90 : decode cX4_takeOver 90 = .ok (.aload_n 0, 1) := by decide +kernel
theorem dX4_takeOver_91 : decode cX4_takeOver 91 = .ok (.aload_n 1, 1) := by decide +kernel
theorem dX4_takeOver_92 : decode cX4_takeOver 92 = .ok (.getfield 34, 3) := by decide +kernel
theorem dX4_takeOver_95 : decode cX4_takeOver 95 = .ok (.putfield 34, 3) := by decide +kernel
theorem dX4_takeOver_98 : decode cX4_takeOver 98 = .ok (.aload_n 0, 1) := by decide +kernel
theorem dX4_takeOver_99 : decode cX4_takeOver 99 = .ok (.aload_n 1, 1) := by decide +kernel
theorem dX4_takeOver_100 : decode cX4_takeOver 100 = .ok (.getfield 37, 3) := by decide +kernel
theorem dX4_takeOver_103 : decode cX4_takeOver 103 = .ok (.putfield 37, 3) := by decide +kernel
theorem dX4_takeOver_106 : decode cX4_takeOver 106 = .ok (.aload_n 0, 1) := by decide +kernel
theorem dX4_takeOver_107 : decode cX4_takeOver 107 = .ok (.aload_n 1, 1) := by decide +kernel
theorem dX4_takeOver_108 : decode cX4_takeOver 108 = .ok (.getfield 40, 3) := by decide +kernel
theorem dX4_takeOver_111 : decode cX4_takeOver 111 = .ok (.putfield 40, 3) := by decide +kernel
theorem dX4_takeOver_114 : decode cX4_takeOver 114 = .ok (.aload_n 0, 1) := by decide +kernel
theorem dX4_takeOver_115 : decode cX4_takeOver 115 = .ok (.aload_n 1, 1) := by decide +kernel
theorem dX4_takeOver_116 : decode cX4_takeOver 116 = .ok (.getfield 43, 3) := by decide +kernel
theorem dX4_takeOver_119 : decode cX4_takeOver 119 = .ok (.putfield 43, 3) := by decide +kernel
theorem dX4_takeOver_122 : decode cX4_takeOver 122 = .ok (.return_, 1) := by decide +kernel
set_option maxRecDepth 20000 in
theorem ggX4_plant_X4_mark : GoodIn wsX4_plant wsX4_mark := goodIn_r _ [10, 11, 12, 13, 14, 15, 36, 37, 38, 39, 40, 41, 42, 43, 44, 45, 46] (by decide +kernel) (by decide +kernel)
set_option maxRecDepth 20000 in
theorem gX4_plant_X4_mark : GoodIn wsX4_plant (wsV RX4 52 RX4 yX4_mark wsX4_mark) := goodIn_app (goodIn_of _ (by decide +kernel)) ggX4_plant_X4_mark
set_option maxRecDepth 20000 in
theorem ggX4_plant_X4_isRootCell : GoodIn wsX4_plant wsX4_isRootCell := goodIn_r _ [18, 19, 20, 14, 21, 22, 23, 24, 25, 26, 27, 28] (by decide +kernel) (by decide +kernel)
set_option maxRecDepth 20000 in
theorem gX4_plant_X4_isRootCell : GoodIn wsX4_plant (va_wsS RX4 56 yX4_isRootCell wsX4_isRootCell) := goodIn_app (goodIn_of _ (by decide +kernel)) ggX4_plant_X4_isRootCell
set_option maxRecDepth 20000 in
theorem ggX4_plant_X4_add : GoodIn wsX4_plant wsX4_add := goodIn_r _ [32, 1, 33, 34, 35, 12, 13, 14, 15, 6, 7, 8, 9, 10, 11, 36, 37, 38, 39, 40, 41, 42, 43, 44, 45, 46] (by decide +kernel) (by decide +kernel)
set_option maxRecDepth 20000 in
theorem gX4_plant_X4_add : GoodIn wsX4_plant (wsV RX4 60 RX4 yX4_add wsX4_add) := goodIn_app (goodIn_of _ (by decide +kernel)) ggX4_plant_X4_add
theorem dX4_plant_0 : decode cX4_plant 0 = .ok (.aload_n 0, 1) := by decide +kernel
theorem dX4_plant_1 : decode cX4_plant 1 = .ok (.iconst 0, 1) := by decide +kernel
theorem dX4_plant_2 : decode cX4_plant 2 = .ok (.putfield 27, 3) := by decide +kernel
theorem dX4_plant_5 : decode cX4_plant 5 = .ok (.aload_n 0, 1) := by decide +kernel
theorem dX4_plant_6 : decode cX4_plant 6 = .ok (.iconst 0, 1) := by decide +kernel
theorem dX4_plant_7 : decode cX4_plant 7 = .ok (.putfield 34, 3) := by decide +kernel
theorem dX4_plant_10 : decode cX4_plant 10 = .ok (.aload_n 0, 1) := by decide +kernel
theorem dX4_plant_11 : decode cX4_plant 11 = .ok (.iconst 0, 1) := by decide +kernel
theorem dX4_plant_12 : decode cX4_plant 12 = .ok (.putfield 37, 3) := by decide +kernel
theorem dX4_plant_15 : decode cX4_plant 15 = .ok (.aload_n 0, 1) := by decide +kernel
theorem dX4_plant_16 : decode cX4_plant 16 = .ok (.iconst 0, 1) := by decide +kernel
theorem dX4_plant_17 : decode cX4_plant 17 = .ok (.putfield 40, 3) := by decide +kernel
theorem dX4_plant_20 : decode cX4_plant 20 = .ok (.aload_n 0, 1) := by decide +kernel
theorem dX4_plant_21 : decode cX4_plant 21 = .ok (.iconst 0, 1) := by decide +kernel
theorem dX4_plant_22 : decode cX4_plant 22 = .ok (.putfield 43, 3) := by decide +kernel
theorem dX4_plant_25 : decode cX4_plant 25 = .ok (.iconst 0, 1) := by decide +kernel
theorem dX4_plant_26 : decode cX4_plant 26 = .ok (.istore_n 2, 1) := by decide +kernel
theorem dX4_plant_27 : decode cX4_plant 27 = .ok (.iload_n 2, 1) := by decide +kernel
theorem dX4_plant_28 : decode cX4_plant 28 = .ok (.bipush 121, 2) := by decide +kernel
theorem dX4_plant_30 : decode cX4_plant 30 = .ok (.if_icmp .ge 16, 3) := by decide +kernel
theorem dX4_plant_33 : decode cX4_plant 33 = .ok (.aload_n 0, 1) := by decide +kernel
theorem dX4_plant_34 : decode cX4_plant 34 = .ok (.iload_n 2, 1) := by decide +kernel
theorem dX4_plant_35 : decode cX4_plant 35 = .ok (.bipush (-4), 2) := by decide +kernel
theorem dX4_plant_37 : decode cX4_plant 37 = .ok (.invokevirtual 52, 3) := by decide +kernel
theorem dX4_plant_40 : decode cX4_plant 40 = .ok (.iinc 2 1, 3) := by decide +kernel
theorem dX4_plant_43 : decode cX4_plant 43 = .ok (.goto (-16), 3) := by decide +kernel
theorem dX4_plant_46 : decode cX4_plant 46 = .ok (.iconst 0, 1) := by decide +kernel
theorem dX4_plant_47 : decode cX4_plant 47 = .ok (.istore_n 2, 1) := by decide +kernel
theorem dX4_plant_48 : decode cX4_plant 48 = .ok (.iload_n 2, 1) := by decide +kernel
theorem dX4_plant_49 : decode cX4_plant 49 = .ok (.bipush 121, 2) := by decide +kernel
theorem dX4_plant_51 : decode cX4_plant 51 = .ok (.if_icmp .ge 25, 3) := by decide +kernel
theorem dX4_plant_54 : decode cX4_plant 54 = .ok (.iload_n 1, 1) := by decide +kernel
theorem dX4_plant_55 : decode cX4_plant 55 = .ok (.iload_n 2, 1) := by decide +kernel
theorem dX4_plant_56 : decode cX4_plant 56 = .ok (.invokestatic 56, 3) := by decide +kernel
theorem dX4_plant_59 : decode cX4_plant 59 = .ok (.ifCond .eq 11, 3) := by decide +kernel
theorem dX4_plant_62 : decode cX4_plant 62 = .ok (.aload_n 0, 1) := by decide +kernel
theorem dX4_plant_63 : decode cX4_plant 63 = .ok (.iload_n 2, 1) := by decide +kernel
theorem dX4_plant_64 : decode cX4_plant 64 = .ok (.bipush (-4), 2) := by decide +kernel
theorem dX4_plant_66 : decode cX4_plant 66 = .ok (.iconst 0, 1) := by decide +kernel
theorem dX4_plant_67 : decode cX4_plant 67 = .ok (.invokevirtual 60, 3) := by decide +kernel
theorem dX4_plant_70 : decode cX4_plant 70 = .ok (.iinc 2 1, 3) := by decide +kernel
theorem dX4_plant_73 : decode cX4_plant 73 = .ok (.goto (-25), 3) := by decide +kernel
theorem dX4_plant_76 : decode cX4_plant 76 = .ok (.aload_n 0, 1) := by decide +kernel
theorem dX4_plant_77 : decode cX4_plant 77 = .ok (.getfield 27, 3) := by decide +kernel
theorem dX4_plant_80 : decode cX4_plant 80 = .ok (.ireturn, 1) := by decide +kernel
set_option maxRecDepth 20000 in
theorem ggX4_isRootCell_X2_ringOf : GoodIn wsX4_isRootCell wsX2_ringOf := goodIn_r _ [4, 5, 6, 7, 8, 9, 10, 11] (by decide +kernel) (by decide +kernel)
set_option maxRecDepth 20000 in
theorem gX4_isRootCell_X2_ringOf : GoodIn wsX4_isRootCell (va_wsS RX4 64 yX2_ringOf wsX2_ringOf) := goodIn_app (goodIn_of _ (by decide +kernel)) ggX4_isRootCell_X2_ringOf
theorem dX4_isRootCell_0 : decode cX4_isRootCell 0 = .ok (.iload_n 0, 1) := by decide +kernel
theorem dX4_isRootCell_1 : decode cX4_isRootCell 1 = .ok (.lookupswitch 55 #[(0, 27), (1, 40)], 27) := by decide +kernel
theorem dX4_isRootCell_28 : decode cX4_isRootCell 28 = .ok (.iload_n 1, 1) := by decide +kernel
theorem dX4_isRootCell_29 : decode cX4_isRootCell 29 = .ok (.invokestatic 64, 3) := by decide +kernel
theorem dX4_isRootCell_32 : decode cX4_isRootCell 32 = .ok (.ifCond .ne 7, 3) := by decide +kernel
theorem dX4_isRootCell_35 : decode cX4_isRootCell 35 = .ok (.iconst 1, 1) := by decide +kernel
theorem dX4_isRootCell_36 : decode cX4_isRootCell 36 = .ok (.goto 4, 3) := by decide +kernel
theorem dX4_isRootCell_39 : decode cX4_isRootCell 39 = .ok (.iconst 0, 1) := by decide +kernel
theorem dX4_isRootCell_40 : decode cX4_isRootCell 40 = .ok (.ireturn, 1) := by decide +kernel
theorem dX4_isRootCell_41 : decode cX4_isRootCell 41 = .ok (.iload_n 1, 1) := by decide +kernel
theorem dX4_isRootCell_42 : decode cX4_isRootCell 42 = .ok (.bipush 11, 2) := by decide +kernel
theorem dX4_isRootCell_44 : decode cX4_isRootCell 44 = .ok (.idiv, 1) := by decide +kernel
theorem dX4_isRootCell_45 : decode cX4_isRootCell 45 = .ok (.bipush 10, 2) := by decide +kernel
theorem dX4_isRootCell_47 : decode cX4_isRootCell 47 = .ok (.if_icmp .ne 7, 3) := by decide +kernel
theorem dX4_isRootCell_50 : decode cX4_isRootCell 50 = .ok (.iconst 1, 1) := by decide +kernel
theorem dX4_isRootCell_51 : decode cX4_isRootCell 51 = .ok (.goto 4, 3) := by decide +kernel
theorem dX4_isRootCell_54 : decode cX4_isRootCell 54 = .ok (.iconst 0, 1) := by decide +kernel
theorem dX4_isRootCell_55 : decode cX4_isRootCell 55 = .ok (.ireturn, 1) := by decide +kernel
theorem dX4_isRootCell_56 : decode cX4_isRootCell 56 = .ok (.iload_n 1, 1) := by decide +kernel
theorem dX4_isRootCell_57 : decode cX4_isRootCell 57 = .ok (.invokestatic 64, 3) := by decide +kernel
theorem dX4_isRootCell_60 : decode cX4_isRootCell 60 = .ok (.iconst 2, 1) := by decide +kernel
theorem dX4_isRootCell_61 : decode cX4_isRootCell 61 = .ok (.if_icmp .ne 7, 3) := by decide +kernel
theorem dX4_isRootCell_64 : decode cX4_isRootCell 64 = .ok (.iconst 1, 1) := by decide +kernel
theorem dX4_isRootCell_65 : decode cX4_isRootCell 65 = .ok (.goto 4, 3) := by decide +kernel
theorem dX4_isRootCell_68 : decode cX4_isRootCell 68 = .ok (.iconst 0, 1) := by decide +kernel
theorem dX4_isRootCell_69 : decode cX4_isRootCell 69 = .ok (.ireturn, 1) := by decide +kernel
set_option maxRecDepth 20000 in
theorem ggX4_add_X2_isCell : GoodIn wsX4_add wsX2_isCell := goodIn_r _ [8] (by decide +kernel) (by decide +kernel)
set_option maxRecDepth 20000 in
theorem gX4_add_X2_isCell : GoodIn wsX4_add (va_wsS RX4 70 yX2_isCell wsX2_isCell) := goodIn_app (goodIn_of _ (by decide +kernel)) ggX4_add_X2_isCell
set_option maxRecDepth 20000 in
theorem ggX4_add_X4_mark : GoodIn wsX4_add wsX4_mark := goodIn_r _ [13, 14, 5, 6, 7, 8, 15, 16, 17, 18, 19, 20, 21, 22, 23, 24, 25] (by decide +kernel) (by decide +kernel)
set_option maxRecDepth 20000 in
theorem gX4_add_X4_mark : GoodIn wsX4_add (wsV RX4 52 RX4 yX4_mark wsX4_mark) := goodIn_app (goodIn_of _ (by decide +kernel)) ggX4_add_X4_mark
theorem dX4_add_0 : decode cX4_add 0 = .ok (.aload_n 0, 1) := by decide +kernel
theorem dX4_add_1 : decode cX4_add 1 = .ok (.getfield 27, 3) := by decide +kernel
theorem dX4_add_4 : decode cX4_add 4 = .ok (.bipush 121, 2) := by decide +kernel
theorem dX4_add_6 : decode cX4_add 6 = .ok (.if_icmp .ge 10, 3) := by decide +kernel
theorem dX4_add_9 : decode cX4_add 9 = .ok (.iload_n 1, 1) := by decide +kernel
theorem dX4_add_10 : decode cX4_add 10 = .ok (.invokestatic 70, 3) := by decide +kernel
theorem dX4_add_13 : decode cX4_add 13 = .ok (.ifCond .ne 4, 3) := by decide +kernel
theorem dX4_add_16 : decode cX4_add 16 = .ok (.return_, 1) := by decide +kernel
theorem dX4_add_17 : decode cX4_add 17 = .ok (.aload_n 0, 1) := by decide +kernel
theorem dX4_add_18 : decode cX4_add 18 = .ok (.getfield 9, 3) := by decide +kernel
theorem dX4_add_21 : decode cX4_add 21 = .ok (.aload_n 0, 1) := by decide +kernel
theorem dX4_add_22 : decode cX4_add 22 = .ok (.getfield 27, 3) := by decide +kernel
theorem dX4_add_25 : decode cX4_add 25 = .ok (.iload_n 1, 1) := by decide +kernel
theorem dX4_add_26 : decode cX4_add 26 = .ok (.iastore, 1) := by decide +kernel
theorem dX4_add_27 : decode cX4_add 27 = .ok (.aload_n 0, 1) := by decide +kernel
theorem dX4_add_28 : decode cX4_add 28 = .ok (.getfield 15, 3) := by decide +kernel
theorem dX4_add_31 : decode cX4_add 31 = .ok (.aload_n 0, 1) := by decide +kernel
theorem dX4_add_32 : decode cX4_add 32 = .ok (.getfield 27, 3) := by decide +kernel
theorem dX4_add_35 : decode cX4_add 35 = .ok (.iload_n 2, 1) := by decide +kernel
theorem dX4_add_36 : decode cX4_add 36 = .ok (.iastore, 1) := by decide +kernel
theorem dX4_add_37 : decode cX4_add 37 = .ok (.aload_n 0, 1) := by decide +kernel
theorem dX4_add_38 : decode cX4_add 38 = .ok (.getfield 18, 3) := by decide +kernel
theorem dX4_add_41 : decode cX4_add 41 = .ok (.aload_n 0, 1) := by decide +kernel
theorem dX4_add_42 : decode cX4_add 42 = .ok (.getfield 27, 3) := by decide +kernel
theorem dX4_add_45 : decode cX4_add 45 = .ok (.iload_n 3, 1) := by decide +kernel
theorem dX4_add_46 : decode cX4_add 46 = .ok (.iastore, 1) := by decide +kernel
theorem dX4_add_47 : decode cX4_add 47 = .ok (.aload_n 0, 1) := by decide +kernel
theorem dX4_add_48 : decode cX4_add 48 = .ok (.iload_n 1, 1) := by decide +kernel
theorem dX4_add_49 : decode cX4_add 49 = .ok (.aload_n 0, 1) := by decide +kernel
theorem dX4_add_50 : decode cX4_add 50 = .ok (.getfield 27, 3) := by decide +kernel
theorem dX4_add_53 : decode cX4_add 53 = .ok (.invokevirtual 52, 3) := by decide +kernel
theorem dX4_add_56 : decode cX4_add 56 = .ok (.aload_n 0, 1) := by decide +kernel
theorem dX4_add_57 : decode cX4_add 57 = .ok (.dup, 1) := by decide +kernel
theorem dX4_add_58 : decode cX4_add 58 = .ok (.getfield 27, 3) := by decide +kernel
theorem dX4_add_61 : decode cX4_add 61 = .ok (.iconst 1, 1) := by decide +kernel
theorem dX4_add_62 : decode cX4_add 62 = .ok (.iadd, 1) := by decide +kernel
theorem dX4_add_63 : decode cX4_add 63 = .ok (.putfield 27, 3) := by decide +kernel
theorem dX4_add_66 : decode cX4_add 66 = .ok (.return_, 1) := by decide +kernel
set_option maxRecDepth 20000 in
theorem ggX4_mark_X2_isCell : GoodIn wsX4_mark wsX2_isCell := goodIn_r _ [5] (by decide +kernel) (by decide +kernel)
set_option maxRecDepth 20000 in
theorem gX4_mark_X2_isCell : GoodIn wsX4_mark (va_wsS RX4 70 yX2_isCell wsX2_isCell) := goodIn_app (goodIn_of _ (by decide +kernel)) ggX4_mark_X2_isCell
theorem dX4_mark_0 : decode cX4_mark 0 = .ok (.iload_n 1, 1) := by decide +kernel
theorem dX4_mark_1 : decode cX4_mark 1 = .ok (.invokestatic 70, 3) := by decide +kernel
theorem dX4_mark_4 : decode cX4_mark 4 = .ok (.ifCond .eq 10, 3) := by decide +kernel
theorem dX4_mark_7 : decode cX4_mark 7 = .ok (.aload_n 0, 1) := by decide +kernel
theorem dX4_mark_8 : decode cX4_mark 8 = .ok (.getfield 21, 3) := by decide +kernel
theorem dX4_mark_11 : decode cX4_mark 11 = .ok (.iload_n 1, 1) := by decide +kernel
theorem dX4_mark_12 : decode cX4_mark 12 = .ok (.iload_n 2, 1) := by decide +kernel
theorem dX4_mark_13 : decode cX4_mark 13 = .ok (.iastore, 1) := by decide +kernel
theorem dX4_mark_14 : decode cX4_mark 14 = .ok (.return_, 1) := by decide +kernel
set_option maxRecDepth 20000 in
theorem ggX4_change_X4_setting : GoodIn wsX4_change wsX4_setting := goodIn_r _ [6, 1, 7, 8, 9, 10, 11, 12, 13, 14, 15, 16, 17] (by decide +kernel) (by decide +kernel)
set_option maxRecDepth 20000 in
theorem gX4_change_X4_setting : GoodIn wsX4_change (wsV RX4 74 RX4 yX4_setting wsX4_setting) := goodIn_app (goodIn_of _ (by decide +kernel)) ggX4_change_X4_setting
theorem dX4_change_0 : decode cX4_change 0 = .ok (.aload_n 0, 1) := by decide +kernel
theorem dX4_change_1 : decode cX4_change 1 = .ok (.iload_n 1, 1) := by decide +kernel
theorem dX4_change_2 : decode cX4_change 2 = .ok (.invokevirtual 74, 3) := by decide +kernel
theorem dX4_change_5 : decode cX4_change 5 = .ok (.istore_n 3, 1) := by decide +kernel
theorem dX4_change_6 : decode cX4_change 6 = .ok (.iload_n 1, 1) := by decide +kernel
theorem dX4_change_7 : decode cX4_change 7 = .ok (.ifCond .lt 15, 3) := by decide +kernel
theorem dX4_change_10 : decode cX4_change 10 = .ok (.iload_n 1, 1) := by decide +kernel
theorem dX4_change_11 : decode cX4_change 11 = .ok (.iconst 4, 1) := by decide +kernel
theorem dX4_change_12 : decode cX4_change 12 = .ok (.if_icmp .ge 10, 3) := by decide +kernel
theorem dX4_change_15 : decode cX4_change 15 = .ok (.aload_n 0, 1) := by decide +kernel
theorem dX4_change_16 : decode cX4_change 16 = .ok (.getfield 24, 3) := by decide +kernel
theorem dX4_change_19 : decode cX4_change 19 = .ok (.iload_n 1, 1) := by decide +kernel
theorem dX4_change_20 : decode cX4_change 20 = .ok (.iload_n 2, 1) := by decide +kernel
theorem dX4_change_21 : decode cX4_change 21 = .ok (.iastore, 1) := by decide +kernel
theorem dX4_change_22 : decode cX4_change 22 = .ok (.iload_n 3, 1) := by decide +kernel
theorem dX4_change_23 : decode cX4_change 23 = .ok (.ireturn, 1) := by decide +kernel
set_option maxRecDepth 20000 in
theorem ggX4_settle_X6_sticks : GoodIn wsX4_settle wsX6_sticks := goodIn_r _ [9, 10, 29, 30, 31, 32, 33] (by decide +kernel) (by decide +kernel)
set_option maxRecDepth 20000 in
theorem gX4_settle_X6_sticks : GoodIn wsX4_settle (wsV RX4 82 RX6 yX6_sticks wsX6_sticks) := goodIn_app (goodIn_of _ (by decide +kernel)) ggX4_settle_X6_sticks
set_option maxRecDepth 20000 in
theorem ggX4_settle_X4_add : GoodIn wsX4_settle wsX4_add := goodIn_r _ [15, 16, 17, 18, 19, 20, 21, 22, 23, 24, 25, 26, 14, 27, 28, 34, 35, 36, 37, 38, 39, 40, 41, 42, 43, 44] (by decide +kernel) (by decide +kernel)
set_option maxRecDepth 20000 in
theorem gX4_settle_X4_add : GoodIn wsX4_settle (wsV RX4 60 RX4 yX4_add wsX4_add) := goodIn_app (goodIn_of _ (by decide +kernel)) ggX4_settle_X4_add
theorem dX4_settle_0 : decode cX4_settle 0 = .ok (.aload_n 0, 1) := by decide +kernel
theorem dX4_settle_1 : decode cX4_settle 1 = .ok (.aload_n 1, 1) := by decide +kernel
theorem dX4_settle_2 : decode cX4_settle 2 = .ok (.getfield 77, 3) := by decide +kernel
theorem dX4_settle_5 : decode cX4_settle 5 = .ok (.putfield 31, 3) := by decide +kernel
theorem dX4_settle_8 : decode cX4_settle 8 = .ok (.aload_n 0, 1) := by decide +kernel
theorem dX4_settle_9 : decode cX4_settle 9 = .ok (.dup, 1) := by decide +kernel
theorem dX4_settle_10 : decode cX4_settle 10 = .ok (.getfield 34, 3) := by decide +kernel
theorem dX4_settle_13 : decode cX4_settle 13 = .ok (.iconst 1, 1) := by decide +kernel
theorem dX4_settle_14 : decode cX4_settle 14 = .ok (.iadd, 1) := by decide +kernel
theorem dX4_settle_15 : decode cX4_settle 15 = .ok (.putfield 34, 3) := by decide +kernel
theorem dX4_settle_18 : decode cX4_settle 18 = .ok (.aload_n 0, 1) := by decide +kernel
theorem dX4_settle_19 : decode cX4_settle 19 = .ok (.dup, 1) := by decide +kernel
theorem dX4_settle_20 : decode cX4_settle 20 = .ok (.getfield 43, 3) := by decide +kernel
theorem dX4_settle_23 : decode cX4_settle 23 = .ok (.aload_n 1, 1) := by decide +kernel
theorem dX4_settle_24 : decode cX4_settle 24 = .ok (.getfield 80, 3) := by decide +kernel
theorem dX4_settle_27 : decode cX4_settle 27 = .ok (.iadd, 1) := by decide +kernel
theorem dX4_settle_28 : decode cX4_settle 28 = .ok (.putfield 43, 3) := by decide +kernel
theorem dX4_settle_31 : decode cX4_settle 31 = .ok (.aload_n 1, 1) := by decide +kernel
theorem dX4_settle_32 : decode cX4_settle 32 = .ok (.invokevirtual 82, 3) := by decide +kernel
theorem dX4_settle_35 : decode cX4_settle 35 = .ok (.ifCond .eq 22, 3) := by decide +kernel
theorem dX4_settle_38 : decode cX4_settle 38 = .ok (.aload_n 0, 1) := by decide +kernel
theorem dX4_settle_39 : decode cX4_settle 39 = .ok (.aload_n 1, 1) := by decide +kernel
theorem dX4_settle_40 : decode cX4_settle 40 = .ok (.getfield 86, 3) := by decide +kernel
theorem dX4_settle_43 : decode cX4_settle 43 = .ok (.aload_n 1, 1) := by decide +kernel
theorem dX4_settle_44 : decode cX4_settle 44 = .ok (.getfield 89, 3) := by decide +kernel
theorem dX4_settle_47 : decode cX4_settle 47 = .ok (.aload_n 1, 1) := by decide +kernel
theorem dX4_settle_48 : decode cX4_settle 48 = .ok (.getfield 80, 3) := by decide +kernel
theorem dX4_settle_51 : decode cX4_settle 51 = .ok (.invokevirtual 60, 3) := by decide +kernel
theorem dX4_settle_54 : decode cX4_settle 54 = .ok (.goto 13, 3) := by decide +kernel
theorem dX4_settle_57 : decode cX4_settle 57 = .ok (.aload_n 0, 1) := by decide +kernel
theorem dX4_settle_58 : decode cX4_settle 58 = .ok (.dup, 1) := by decide +kernel
theorem dX4_settle_59 : decode cX4_settle 59 = .ok (.getfield 37, 3) := by decide +kernel
theorem dX4_settle_62 : decode cX4_settle 62 = .ok (.iconst 1, 1) := by decide +kernel
theorem dX4_settle_63 : decode cX4_settle 63 = .ok (.iadd, 1) := by decide +kernel
theorem dX4_settle_64 : decode cX4_settle 64 = .ok (.putfield 37, 3) := by decide +kernel
theorem dX4_settle_67 : decode cX4_settle 67 = .ok (.return_, 1) := by decide +kernel
theorem dX4_loseAtOnce_0 : decode cX4_loseAtOnce 0 = .ok (.aload_n 0, 1) := by decide +kernel
theorem dX4_loseAtOnce_1 : decode cX4_loseAtOnce 1 = .ok (.dup, 1) := by decide +kernel
theorem dX4_loseAtOnce_2 : decode cX4_loseAtOnce 2 = .ok (.getfield 34, 3) := by decide +kernel
theorem dX4_loseAtOnce_5 : decode cX4_loseAtOnce 5 = .ok (.iconst 1, 1) := by decide +kernel
theorem dX4_loseAtOnce_6 : decode cX4_loseAtOnce 6 = .ok (.iadd, 1) := by decide +kernel
theorem dX4_loseAtOnce_7 : decode cX4_loseAtOnce 7 = .ok (.putfield 34, 3) := by decide +kernel
theorem dX4_loseAtOnce_10 : decode cX4_loseAtOnce 10 = .ok (.aload_n 0, 1) := by decide +kernel
theorem dX4_loseAtOnce_11 : decode cX4_loseAtOnce 11 = .ok (.dup, 1) := by decide +kernel
theorem dX4_loseAtOnce_12 : decode cX4_loseAtOnce 12 = .ok (.getfield 37, 3) := by decide +kernel
theorem dX4_loseAtOnce_15 : decode cX4_loseAtOnce 15 = .ok (.iconst 1, 1) := by decide +kernel
theorem dX4_loseAtOnce_16 : decode cX4_loseAtOnce 16 = .ok (.iadd, 1) := by decide +kernel
theorem dX4_loseAtOnce_17 : decode cX4_loseAtOnce 17 = .ok (.putfield 37, 3) := by decide +kernel
theorem dX4_loseAtOnce_20 : decode cX4_loseAtOnce 20 = .ok (.return_, 1) := by decide +kernel
set_option maxRecDepth 20000 in
theorem ggX4_drop_X4_mark : GoodIn wsX4_drop wsX4_mark := goodIn_r _ [10, 11, 12, 13, 14, 15, 20, 21, 22, 23, 24, 25, 26, 27, 28, 29, 30] (by decide +kernel) (by decide +kernel)
set_option maxRecDepth 20000 in
theorem gX4_drop_X4_mark : GoodIn wsX4_drop (wsV RX4 52 RX4 yX4_mark wsX4_mark) := goodIn_app (goodIn_of _ (by decide +kernel)) ggX4_drop_X4_mark
set_option maxRecDepth 20000 in
theorem ggX4_drop_X4_isGrain : GoodIn wsX4_drop wsX4_isGrain := goodIn_r _ [19, 1, 20, 21, 22, 23, 24, 25, 26, 27, 28, 29, 30] (by decide +kernel) (by decide +kernel)
set_option maxRecDepth 20000 in
theorem gX4_drop_X4_isGrain : GoodIn wsX4_drop (wsV RX4 92 RX4 yX4_isGrain wsX4_isGrain) := goodIn_app (goodIn_of _ (by decide +kernel)) ggX4_drop_X4_isGrain
theorem dX4_drop_0 : decode cX4_drop 0 = .ok (.iconst 0, 1) := by decide +kernel
theorem dX4_drop_1 : decode cX4_drop 1 = .ok (.istore_n 3, 1) := by decide +kernel
theorem dX4_drop_2 : decode cX4_drop 2 = .ok (.iconst 0, 1) := by decide +kernel
theorem dX4_drop_3 : decode cX4_drop 3 = .ok (.istore 4, 2) := by decide +kernel
theorem dX4_drop_5 : decode cX4_drop 5 = .ok (.iload 4, 2) := by decide +kernel
theorem dX4_drop_7 : decode cX4_drop 7 = .ok (.aload_n 0, 1) := by decide +kernel
theorem dX4_drop_8 : decode cX4_drop 8 = .ok (.getfield 27, 3) := by decide +kernel
theorem dX4_drop_11 : decode cX4_drop 11 = .ok (.if_icmp .ge 111, 3) := by decide +kernel
theorem dX4_drop_14 : decode cX4_drop 14 = .ok (.aload_n 0, 1) := by decide +kernel
theorem dX4_drop_15 : decode cX4_drop 15 = .ok (.getfield 9, 3) := by decide +kernel
theorem dX4_drop_18 : decode cX4_drop 18 = .ok (.iload 4, 2) := by decide +kernel
theorem dX4_drop_20 : decode cX4_drop 20 = .ok (.iaload, 1) := by decide +kernel
theorem dX4_drop_21 : decode cX4_drop 21 = .ok (.istore 5, 2) := by decide +kernel
theorem dX4_drop_23 : decode cX4_drop 23 = .ok (.aload_n 1, 1) := by decide +kernel
theorem dX4_drop_24 : decode cX4_drop 24 = .ok (.iload 4, 2) := by decide +kernel
theorem dX4_drop_26 : decode cX4_drop 26 = .ok (.baload, 1) := by decide +kernel
theorem dX4_drop_27 : decode cX4_drop 27 = .ok (.ifCond .eq 20, 3) := by decide +kernel
theorem dX4_drop_30 : decode cX4_drop 30 = .ok (.aload_n 2, 1) := by decide +kernel
theorem dX4_drop_31 : decode cX4_drop 31 = .ok (.iload 4, 2) := by decide +kernel
theorem dX4_drop_33 : decode cX4_drop 33 = .ok (.bipush (-4), 2) := by decide +kernel
theorem dX4_drop_35 : decode cX4_drop 35 = .ok (.iastore, 1) := by decide +kernel
theorem dX4_drop_36 : decode cX4_drop 36 = .ok (.aload_n 0, 1) := by decide +kernel
theorem dX4_drop_37 : decode cX4_drop 37 = .ok (.iload 5, 2) := by decide +kernel
theorem dX4_drop_39 : decode cX4_drop 39 = .ok (.bipush (-4), 2) := by decide +kernel
theorem dX4_drop_41 : decode cX4_drop 41 = .ok (.invokevirtual 52, 3) := by decide +kernel
theorem dX4_drop_44 : decode cX4_drop 44 = .ok (.goto 72, 3) := by decide +kernel
theorem dX4_drop_47 : decode cX4_drop 47 = .ok (.aload_n 0, 1) := by decide +kernel
theorem dX4_drop_48 : decode cX4_drop 48 = .ok (.getfield 15, 3) := by decide +kernel
theorem dX4_drop_51 : decode cX4_drop 51 = .ok (.iload 4, 2) := by decide +kernel
theorem dX4_drop_53 : decode cX4_drop 53 = .ok (.iaload, 1) := by decide +kernel
theorem dX4_drop_54 : decode cX4_drop 54 = .ok (.istore 6, 2) := by decide +kernel
theorem dX4_drop_56 : decode cX4_drop 56 = .ok (.aload_n 2, 1) := by decide +kernel
theorem dX4_drop_57 : decode cX4_drop 57 = .ok (.iload 4, 2) := by decide +kernel
theorem dX4_drop_59 : decode cX4_drop 59 = .ok (.iload_n 3, 1) := by decide +kernel
theorem dX4_drop_60 : decode cX4_drop 60 = .ok (.iastore, 1) := by decide +kernel
theorem dX4_drop_61 : decode cX4_drop 61 = .ok (.aload_n 0, 1) := by decide +kernel
theorem dX4_drop_62 : decode cX4_drop 62 = .ok (.getfield 9, 3) := by decide +kernel
theorem dX4_drop_65 : decode cX4_drop 65 = .ok (.iload_n 3, 1) := by decide +kernel
theorem dX4_drop_66 : decode cX4_drop 66 = .ok (.iload 5, 2) := by decide +kernel
theorem dX4_drop_68 : decode cX4_drop 68 = .ok (.iastore, 1) := by decide +kernel
theorem dX4_drop_69 : decode cX4_drop 69 = .ok (.aload_n 0, 1) := by decide +kernel
theorem dX4_drop_70 : decode cX4_drop 70 = .ok (.getfield 15, 3) := by decide +kernel
theorem dX4_drop_73 : decode cX4_drop 73 = .ok (.iload_n 3, 1) := by decide +kernel
theorem dX4_drop_74 : decode cX4_drop 74 = .ok (.aload_n 0, 1) := by decide +kernel
theorem dX4_drop_75 : decode cX4_drop 75 = .ok (.iload 6, 2) := by decide +kernel
theorem dX4_drop_77 : decode cX4_drop 77 = .ok (.invokevirtual 92, 3) := by decide +kernel
theorem dX4_drop_80 : decode cX4_drop 80 = .ok (.ifCond .eq 10, 3) := by decide +kernel
theorem dX4_drop_83 : decode cX4_drop 83 = .ok (.aload_n 2, 1) := by decide +kernel
theorem dX4_drop_84 : decode cX4_drop 84 = .ok (.iload 6, 2) := by decide +kernel
theorem dX4_drop_86 : decode cX4_drop 86 = .ok (.iaload, 1) := by decide +kernel
theorem dX4_drop_87 : decode cX4_drop 87 = .ok (.goto 5, 3) := by decide +kernel
theorem dX4_drop_90 : decode cX4_drop 90 = .ok (.bipush (-4), 2) := by decide +kernel
theorem dX4_drop_92 : decode cX4_drop 92 = .ok (.iastore, 1) := by decide +kernel
theorem dX4_drop_93 : decode cX4_drop 93 = .ok (.aload_n 0, 1) := by decide +kernel
theorem dX4_drop_94 : decode cX4_drop 94 = .ok (.getfield 18, 3) := by decide +kernel
theorem dX4_drop_97 : decode cX4_drop 97 = .ok (.iload_n 3, 1) := by decide +kernel
theorem dX4_drop_98 : decode cX4_drop 98 = .ok (.aload_n 0, 1) := by decide +kernel
theorem dX4_drop_99 : decode cX4_drop 99 = .ok (.getfield 18, 3) := by decide +kernel
theorem dX4_drop_102 : decode cX4_drop 102 = .ok (.iload 4, 2) := by decide +kernel
theorem dX4_drop_104 : decode cX4_drop 104 = .ok (.iaload, 1) := by decide +kernel
theorem dX4_drop_105 : decode cX4_drop 105 = .ok (.iastore, 1) := by decide +kernel
theorem dX4_drop_106 : decode cX4_drop 106 = .ok (.aload_n 0, 1) := by decide +kernel
theorem dX4_drop_107 : decode cX4_drop 107 = .ok (.iload 5, 2) := by decide +kernel
theorem dX4_drop_109 : decode cX4_drop 109 = .ok (.iload_n 3, 1) := by decide +kernel
theorem dX4_drop_110 : decode cX4_drop 110 = .ok (.invokevirtual 52, 3) := by decide +kernel
theorem dX4_drop_113 : decode cX4_drop 113 = .ok (.iinc 3 1, 3) := by decide +kernel
theorem dX4_drop_116 : decode cX4_drop 116 = .ok (.iinc 4 1, 3) := by decide +kernel
theorem dX4_drop_119 : decode cX4_drop 119 = .ok (.goto (-114), 3) := by decide +kernel
theorem dX4_drop_122 : decode cX4_drop 122 = .ok (.aload_n 0, 1) := by decide +kernel
theorem dX4_drop_123 : decode cX4_drop 123 = .ok (.getfield 27, 3) := by decide +kernel
theorem dX4_drop_126 : decode cX4_drop 126 = .ok (.iload_n 3, 1) := by decide +kernel
theorem dX4_drop_127 : decode cX4_drop 127 = .ok (.isub, 1) := by decide +kernel
theorem dX4_drop_128 : decode cX4_drop 128 = .ok (.istore 4, 2) := by decide +kernel
theorem dX4_drop_130 : decode cX4_drop 130 = .ok (.aload_n 0, 1) := by decide +kernel
theorem dX4_drop_131 : decode cX4_drop 131 = .ok (.iload_n 3, 1) := by decide +kernel
theorem dX4_drop_132 : decode cX4_drop 132 = .ok (.putfield 27, 3) := by decide +kernel
theorem dX4_drop_135 : decode cX4_drop 135 = .ok (.aload_n 0, 1) := by decide +kernel
theorem dX4_drop_136 : decode cX4_drop 136 = .ok (.dup, 1) := by decide +kernel
theorem dX4_drop_137 : decode cX4_drop 137 = .ok (.getfield 40, 3) := by decide +kernel
theorem dX4_drop_140 : decode cX4_drop 140 = .ok (.iload 4, 2) := by decide +kernel
theorem dX4_drop_142 : decode cX4_drop 142 = .ok (.iadd, 1) := by decide +kernel
theorem dX4_drop_143 : decode cX4_drop 143 = .ok (.putfield 40, 3) := by decide +kernel
theorem dX4_drop_146 : decode cX4_drop 146 = .ok (.iload 4, 2) := by decide +kernel
theorem dX4_drop_148 : decode cX4_drop 148 = .ok (.ireturn, 1) := by decide +kernel
set_option maxRecDepth 20000 in
theorem ggX4_refusalToGo_X2_isRim : GoodIn wsX4_refusalToGo wsX2_isRim := goodIn_r _ [4] (by decide +kernel) (by decide +kernel)
set_option maxRecDepth 20000 in
theorem gX4_refusalToGo_X2_isRim : GoodIn wsX4_refusalToGo (va_wsS RX4 95 yX2_isRim wsX2_isRim) := goodIn_app (goodIn_of _ (by decide +kernel)) ggX4_refusalToGo_X2_isRim
set_option maxRecDepth 20000 in
theorem ggX4_refusalToGo_X2_cellOfRim : GoodIn wsX4_refusalToGo wsX2_cellOfRim := goodIn_r _ [7] (by decide +kernel) (by decide +kernel)
set_option maxRecDepth 20000 in
theorem gX4_refusalToGo_X2_cellOfRim : GoodIn wsX4_refusalToGo (va_wsS RX4 98 yX2_cellOfRim wsX2_cellOfRim) := goodIn_app (goodIn_of _ (by decide +kernel)) ggX4_refusalToGo_X2_cellOfRim
set_option maxRecDepth 20000 in
theorem ggX4_refusalToGo_X4_grainAt : GoodIn wsX4_refusalToGo wsX4_grainAt := goodIn_r _ [12, 13, 14, 15, 16, 17, 18, 19, 20, 21, 22, 23, 24] (by decide +kernel) (by decide +kernel)
set_option maxRecDepth 20000 in
theorem gX4_refusalToGo_X4_grainAt : GoodIn wsX4_refusalToGo (wsV RX4 101 RX4 yX4_grainAt wsX4_grainAt) := goodIn_app (goodIn_of _ (by decide +kernel)) ggX4_refusalToGo_X4_grainAt
theorem dX4_refusalToGo_0 : decode cX4_refusalToGo 0 = .ok (.iload_n 1, 1) := by decide +kernel
theorem dX4_refusalToGo_1 : decode cX4_refusalToGo 1 = .ok (.invokestatic 95, 3) := by decide +kernel
theorem dX4_refusalToGo_4 : decode cX4_refusalToGo 4 = .ok (.ifCond .ne 5, 3) := by decide +kernel
theorem dX4_refusalToGo_7 : decode cX4_refusalToGo 7 = .ok (.iconst (-1), 1) := by decide +kernel
theorem dX4_refusalToGo_8 : decode cX4_refusalToGo 8 = .ok (.ireturn, 1) := by decide +kernel
theorem dX4_refusalToGo_9 : decode cX4_refusalToGo 9 = .ok (.aload_n 0, 1) := by decide +kernel
theorem dX4_refusalToGo_10 : decode cX4_refusalToGo 10 = .ok (.iload_n 1, 1) := by decide +kernel
theorem dX4_refusalToGo_11 : decode cX4_refusalToGo 11 = .ok (.invokestatic 98, 3) := by decide +kernel
theorem dX4_refusalToGo_14 : decode cX4_refusalToGo 14 = .ok (.invokevirtual 101, 3) := by decide +kernel
theorem dX4_refusalToGo_17 : decode cX4_refusalToGo 17 = .ok (.bipush (-4), 2) := by decide +kernel
theorem dX4_refusalToGo_19 : decode cX4_refusalToGo 19 = .ok (.if_icmp .ne 7, 3) := by decide +kernel
theorem dX4_refusalToGo_22 : decode cX4_refusalToGo 22 = .ok (.iconst 0, 1) := by decide +kernel
theorem dX4_refusalToGo_23 : decode cX4_refusalToGo 23 = .ok (.goto 5, 3) := by decide +kernel
theorem dX4_refusalToGo_26 : decode cX4_refusalToGo 26 = .ok (.bipush (-2), 2) := by decide +kernel
theorem dX4_refusalToGo_28 : decode cX4_refusalToGo 28 = .ok (.ireturn, 1) := by decide +kernel
set_option maxRecDepth 20000 in
theorem ggX4_refusalToBreak_X4_isGrain : GoodIn wsX4_refusalToBreak wsX4_isGrain := goodIn_r _ [5, 6, 12, 13, 14, 15, 16, 17, 18, 19, 20, 21, 22] (by decide +kernel) (by decide +kernel)
set_option maxRecDepth 20000 in
theorem gX4_refusalToBreak_X4_isGrain : GoodIn wsX4_refusalToBreak (wsV RX4 92 RX4 yX4_isGrain wsX4_isGrain) := goodIn_app (goodIn_of _ (by decide +kernel)) ggX4_refusalToBreak_X4_isGrain
set_option maxRecDepth 20000 in
theorem ggX4_refusalToBreak_X4_holderOf : GoodIn wsX4_refusalToBreak wsX4_holderOf := goodIn_r _ [10, 11, 1, 2, 3, 4, 5, 6, 12, 13, 14, 15, 16, 17, 18, 19, 20, 21, 22] (by decide +kernel) (by decide +kernel)
set_option maxRecDepth 20000 in
theorem gX4_refusalToBreak_X4_holderOf : GoodIn wsX4_refusalToBreak (wsV RX4 104 RX4 yX4_holderOf wsX4_holderOf) := goodIn_app (goodIn_of _ (by decide +kernel)) ggX4_refusalToBreak_X4_holderOf
theorem dX4_refusalToBreak_0 : decode cX4_refusalToBreak 0 = .ok (.aload_n 0, 1) := by decide +kernel
theorem dX4_refusalToBreak_1 : decode cX4_refusalToBreak 1 = .ok (.iload_n 1, 1) := by decide +kernel
theorem dX4_refusalToBreak_2 : decode cX4_refusalToBreak 2 = .ok (.invokevirtual 92, 3) := by decide +kernel
theorem dX4_refusalToBreak_5 : decode cX4_refusalToBreak 5 = .ok (.ifCond .ne 5, 3) := by decide +kernel
theorem dX4_refusalToBreak_8 : decode cX4_refusalToBreak 8 = .ok (.iconst (-1), 1) := by decide +kernel
theorem dX4_refusalToBreak_9 : decode cX4_refusalToBreak 9 = .ok (.ireturn, 1) := by decide +kernel
theorem dX4_refusalToBreak_10 : decode cX4_refusalToBreak 10 = .ok (.aload_n 0, 1) := by decide +kernel
theorem dX4_refusalToBreak_11 : decode cX4_refusalToBreak 11 = .ok (.iload_n 1, 1) := by decide +kernel
theorem dX4_refusalToBreak_12 : decode cX4_refusalToBreak 12 = .ok (.invokevirtual 104, 3) := by decide +kernel
theorem dX4_refusalToBreak_15 : decode cX4_refusalToBreak 15 = .ok (.bipush (-4), 2) := by decide +kernel
theorem dX4_refusalToBreak_17 : decode cX4_refusalToBreak 17 = .ok (.if_icmp .ne 8, 3) := by decide +kernel
theorem dX4_refusalToBreak_20 : decode cX4_refusalToBreak 20 = .ok (.bipush (-2), 2) := by decide +kernel
theorem dX4_refusalToBreak_22 : decode cX4_refusalToBreak 22 = .ok (.goto 4, 3) := by decide +kernel
theorem dX4_refusalToBreak_25 : decode cX4_refusalToBreak 25 = .ok (.iconst 0, 1) := by decide +kernel
theorem dX4_refusalToBreak_26 : decode cX4_refusalToBreak 26 = .ok (.ireturn, 1) := by decide +kernel
theorem dX4_isGrain_0 : decode cX4_isGrain 0 = .ok (.iload_n 1, 1) := by decide +kernel
theorem dX4_isGrain_1 : decode cX4_isGrain 1 = .ok (.ifCond .lt 15, 3) := by decide +kernel
theorem dX4_isGrain_4 : decode cX4_isGrain 4 = .ok (.iload_n 1, 1) := by decide +kernel
theorem dX4_isGrain_5 : decode cX4_isGrain 5 = .ok (.aload_n 0, 1) := by decide +kernel
theorem dX4_isGrain_6 : decode cX4_isGrain 6 = .ok (.getfield 27, 3) := by decide +kernel
theorem dX4_isGrain_9 : decode cX4_isGrain 9 = .ok (.if_icmp .ge 7, 3) := by decide +kernel
theorem dX4_isGrain_12 : decode cX4_isGrain 12 = .ok (.iconst 1, 1) := by decide +kernel
theorem dX4_isGrain_13 : decode cX4_isGrain 13 = .ok (.goto 4, 3) := by decide +kernel
theorem dX4_isGrain_16 : decode cX4_isGrain 16 = .ok (.iconst 0, 1) := by decide +kernel
theorem dX4_isGrain_17 : decode cX4_isGrain 17 = .ok (.ireturn, 1) := by decide +kernel
set_option maxRecDepth 20000 in
theorem ggX4_cellOf_X4_isGrain : GoodIn wsX4_cellOf wsX4_isGrain := goodIn_r _ [6, 7, 8, 9, 10, 11, 12, 13, 14, 15, 16, 17, 18] (by decide +kernel) (by decide +kernel)
set_option maxRecDepth 20000 in
theorem gX4_cellOf_X4_isGrain : GoodIn wsX4_cellOf (wsV RX4 92 RX4 yX4_isGrain wsX4_isGrain) := goodIn_app (goodIn_of _ (by decide +kernel)) ggX4_cellOf_X4_isGrain
theorem dX4_cellOf_0 : decode cX4_cellOf 0 = .ok (.aload_n 0, 1) := by decide +kernel
theorem dX4_cellOf_1 : decode cX4_cellOf 1 = .ok (.iload_n 1, 1) := by decide +kernel
theorem dX4_cellOf_2 : decode cX4_cellOf 2 = .ok (.invokevirtual 92, 3) := by decide +kernel
theorem dX4_cellOf_5 : decode cX4_cellOf 5 = .ok (.ifCond .eq 12, 3) := by decide +kernel
theorem dX4_cellOf_8 : decode cX4_cellOf 8 = .ok (.aload_n 0, 1) := by decide +kernel
theorem dX4_cellOf_9 : decode cX4_cellOf 9 = .ok (.getfield 9, 3) := by decide +kernel
theorem dX4_cellOf_12 : decode cX4_cellOf 12 = .ok (.iload_n 1, 1) := by decide +kernel
theorem dX4_cellOf_13 : decode cX4_cellOf 13 = .ok (.iaload, 1) := by decide +kernel
theorem dX4_cellOf_14 : decode cX4_cellOf 14 = .ok (.goto 5, 3) := by decide +kernel
theorem dX4_cellOf_17 : decode cX4_cellOf 17 = .ok (.bipush (-4), 2) := by decide +kernel
theorem dX4_cellOf_19 : decode cX4_cellOf 19 = .ok (.ireturn, 1) := by decide +kernel
set_option maxRecDepth 20000 in
theorem ggX4_holderOf_X4_isGrain : GoodIn wsX4_holderOf wsX4_isGrain := goodIn_r _ [6, 7, 8, 9, 10, 11, 12, 13, 14, 15, 16, 17, 18] (by decide +kernel) (by decide +kernel)
set_option maxRecDepth 20000 in
theorem gX4_holderOf_X4_isGrain : GoodIn wsX4_holderOf (wsV RX4 92 RX4 yX4_isGrain wsX4_isGrain) := goodIn_app (goodIn_of _ (by decide +kernel)) ggX4_holderOf_X4_isGrain
theorem dX4_holderOf_0 : decode cX4_holderOf 0 = .ok (.aload_n 0, 1) := by decide +kernel
theorem dX4_holderOf_1 : decode cX4_holderOf 1 = .ok (.iload_n 1, 1) := by decide +kernel
theorem dX4_holderOf_2 : decode cX4_holderOf 2 = .ok (.invokevirtual 92, 3) := by decide +kernel
theorem dX4_holderOf_5 : decode cX4_holderOf 5 = .ok (.ifCond .eq 12, 3) := by decide +kernel
theorem dX4_holderOf_8 : decode cX4_holderOf 8 = .ok (.aload_n 0, 1) := by decide +kernel
theorem dX4_holderOf_9 : decode cX4_holderOf 9 = .ok (.getfield 15, 3) := by decide +kernel
theorem dX4_holderOf_12 : decode cX4_holderOf 12 = .ok (.iload_n 1, 1) := by decide +kernel
theorem dX4_holderOf_13 : decode cX4_holderOf 13 = .ok (.iaload, 1) := by decide +kernel
theorem dX4_holderOf_14 : decode cX4_holderOf 14 = .ok (.goto 5, 3) := by decide +kernel
theorem dX4_holderOf_17 : decode cX4_holderOf 17 = .ok (.bipush (-4), 2) := by decide +kernel
theorem dX4_holderOf_19 : decode cX4_holderOf 19 = .ok (.ireturn, 1) := by decide +kernel
set_option maxRecDepth 20000 in
theorem ggX4_stepsOf_X4_isGrain : GoodIn wsX4_stepsOf wsX4_isGrain := goodIn_r _ [6, 7, 8, 9, 10, 11, 12, 13, 14, 15, 16, 17, 18] (by decide +kernel) (by decide +kernel)
set_option maxRecDepth 20000 in
theorem gX4_stepsOf_X4_isGrain : GoodIn wsX4_stepsOf (wsV RX4 92 RX4 yX4_isGrain wsX4_isGrain) := goodIn_app (goodIn_of _ (by decide +kernel)) ggX4_stepsOf_X4_isGrain
theorem dX4_stepsOf_0 : decode cX4_stepsOf 0 = .ok (.aload_n 0, 1) := by decide +kernel
theorem dX4_stepsOf_1 : decode cX4_stepsOf 1 = .ok (.iload_n 1, 1) := by decide +kernel
theorem dX4_stepsOf_2 : decode cX4_stepsOf 2 = .ok (.invokevirtual 92, 3) := by decide +kernel
theorem dX4_stepsOf_5 : decode cX4_stepsOf 5 = .ok (.ifCond .eq 12, 3) := by decide +kernel
theorem dX4_stepsOf_8 : decode cX4_stepsOf 8 = .ok (.aload_n 0, 1) := by decide +kernel
theorem dX4_stepsOf_9 : decode cX4_stepsOf 9 = .ok (.getfield 18, 3) := by decide +kernel
theorem dX4_stepsOf_12 : decode cX4_stepsOf 12 = .ok (.iload_n 1, 1) := by decide +kernel
theorem dX4_stepsOf_13 : decode cX4_stepsOf 13 = .ok (.iaload, 1) := by decide +kernel
theorem dX4_stepsOf_14 : decode cX4_stepsOf 14 = .ok (.goto 5, 3) := by decide +kernel
theorem dX4_stepsOf_17 : decode cX4_stepsOf 17 = .ok (.bipush (-4), 2) := by decide +kernel
theorem dX4_stepsOf_19 : decode cX4_stepsOf 19 = .ok (.ireturn, 1) := by decide +kernel
theorem dX4_grainAt_0 : decode cX4_grainAt 0 = .ok (.iload_n 1, 1) := by decide +kernel
theorem dX4_grainAt_1 : decode cX4_grainAt 1 = .ok (.ifCond .lt 18, 3) := by decide +kernel
theorem dX4_grainAt_4 : decode cX4_grainAt 4 = .ok (.iload_n 1, 1) := by decide +kernel
theorem dX4_grainAt_5 : decode cX4_grainAt 5 = .ok (.bipush 121, 2) := by decide +kernel
theorem dX4_grainAt_7 : decode cX4_grainAt 7 = .ok (.if_icmp .ge 12, 3) := by decide +kernel
theorem dX4_grainAt_10 : decode cX4_grainAt 10 = .ok (.aload_n 0, 1) := by decide +kernel
theorem dX4_grainAt_11 : decode cX4_grainAt 11 = .ok (.getfield 21, 3) := by decide +kernel
theorem dX4_grainAt_14 : decode cX4_grainAt 14 = .ok (.iload_n 1, 1) := by decide +kernel
theorem dX4_grainAt_15 : decode cX4_grainAt 15 = .ok (.iaload, 1) := by decide +kernel
theorem dX4_grainAt_16 : decode cX4_grainAt 16 = .ok (.goto 5, 3) := by decide +kernel
theorem dX4_grainAt_19 : decode cX4_grainAt 19 = .ok (.bipush (-4), 2) := by decide +kernel
theorem dX4_grainAt_21 : decode cX4_grainAt 21 = .ok (.ireturn, 1) := by decide +kernel
theorem dX4_setting_0 : decode cX4_setting 0 = .ok (.iload_n 1, 1) := by decide +kernel
theorem dX4_setting_1 : decode cX4_setting 1 = .ok (.ifCond .lt 17, 3) := by decide +kernel
theorem dX4_setting_4 : decode cX4_setting 4 = .ok (.iload_n 1, 1) := by decide +kernel
theorem dX4_setting_5 : decode cX4_setting 5 = .ok (.iconst 4, 1) := by decide +kernel
theorem dX4_setting_6 : decode cX4_setting 6 = .ok (.if_icmp .ge 12, 3) := by decide +kernel
theorem dX4_setting_9 : decode cX4_setting 9 = .ok (.aload_n 0, 1) := by decide +kernel
theorem dX4_setting_10 : decode cX4_setting 10 = .ok (.getfield 24, 3) := by decide +kernel
theorem dX4_setting_13 : decode cX4_setting 13 = .ok (.iload_n 1, 1) := by decide +kernel
theorem dX4_setting_14 : decode cX4_setting 14 = .ok (.iaload, 1) := by decide +kernel
theorem dX4_setting_15 : decode cX4_setting 15 = .ok (.goto 4, 3) := by decide +kernel
theorem dX4_setting_18 : decode cX4_setting 18 = .ok (.iconst 0, 1) := by decide +kernel
theorem dX4_setting_19 : decode cX4_setting 19 = .ok (.ireturn, 1) := by decide +kernel
set_option maxRecDepth 20000 in
theorem ggX4_firstGrainBeside_X2_neighbour : GoodIn wsX4_firstGrainBeside wsX2_neighbour := goodIn_r _ [4] (by decide +kernel) (by decide +kernel)
set_option maxRecDepth 20000 in
theorem gX4_firstGrainBeside_X2_neighbour : GoodIn wsX4_firstGrainBeside (va_wsS RX4 107 yX2_neighbour wsX2_neighbour) := goodIn_app (goodIn_of _ (by decide +kernel)) ggX4_firstGrainBeside_X2_neighbour
set_option maxRecDepth 20000 in
theorem ggX4_firstGrainBeside_X4_grainAt : GoodIn wsX4_firstGrainBeside wsX4_grainAt := goodIn_r _ [9, 10, 11, 12, 13, 14, 15, 16, 17, 18, 19, 20, 21] (by decide +kernel) (by decide +kernel)
set_option maxRecDepth 20000 in
theorem gX4_firstGrainBeside_X4_grainAt : GoodIn wsX4_firstGrainBeside (wsV RX4 101 RX4 yX4_grainAt wsX4_grainAt) := goodIn_app (goodIn_of _ (by decide +kernel)) ggX4_firstGrainBeside_X4_grainAt
theorem dX4_firstGrainBeside_0 : decode cX4_firstGrainBeside 0 = .ok (.iconst 0, 1) := by decide +kernel
theorem dX4_firstGrainBeside_1 : decode cX4_firstGrainBeside 1 = .ok (.istore_n 2, 1) := by decide +kernel
theorem dX4_firstGrainBeside_2 : decode cX4_firstGrainBeside 2 = .ok (.iload_n 2, 1) := by decide +kernel
theorem dX4_firstGrainBeside_3 : decode cX4_firstGrainBeside 3 = .ok (.iconst 4, 1) := by decide +kernel
theorem dX4_firstGrainBeside_4 : decode cX4_firstGrainBeside 4 = .ok (.if_icmp .ge 27, 3) := by decide +kernel
theorem dX4_firstGrainBeside_7 : decode cX4_firstGrainBeside 7 = .ok (.aload_n 0, 1) := by decide +kernel
theorem dX4_firstGrainBeside_8 : decode cX4_firstGrainBeside 8 = .ok (.iload_n 1, 1) := by decide +kernel
theorem dX4_firstGrainBeside_9 : decode cX4_firstGrainBeside 9 = .ok (.iload_n 2, 1) := by decide +kernel
theorem dX4_firstGrainBeside_10 : decode cX4_firstGrainBeside 10 = .ok (.invokestatic 107, 3) := by decide +kernel
theorem dX4_firstGrainBeside_13 : decode cX4_firstGrainBeside 13 = .ok (.invokevirtual 101, 3) := by decide +kernel
theorem dX4_firstGrainBeside_16 : decode cX4_firstGrainBeside 16 = .ok (.istore_n 3, 1) := by decide +kernel
theorem dX4_firstGrainBeside_17 : decode cX4_firstGrainBeside 17 = .ok (.iload_n 3, 1) := by decide +kernel
theorem dX4_firstGrainBeside_18 : decode cX4_firstGrainBeside 18 = .ok (.bipush (-4), 2) := by decide +kernel
theorem dX4_firstGrainBeside_20 : decode cX4_firstGrainBeside 20 = .ok (.if_icmp .eq 5, 3) := by decide +kernel
theorem dX4_firstGrainBeside_23 : decode cX4_firstGrainBeside 23 = .ok (.iload_n 3, 1) := by decide +kernel
theorem dX4_firstGrainBeside_24 : decode cX4_firstGrainBeside 24 = .ok (.ireturn, 1) := by decide +kernel
theorem dX4_firstGrainBeside_25 : decode cX4_firstGrainBeside 25 = .ok (.iinc 2 1, 3) := by decide +kernel
theorem dX4_firstGrainBeside_28 : decode cX4_firstGrainBeside 28 = .ok (.goto (-26), 3) := by decide +kernel
theorem dX4_firstGrainBeside_31 : decode cX4_firstGrainBeside 31 = .ok (.bipush (-4), 2) := by decide +kernel
theorem dX4_firstGrainBeside_33 : decode cX4_firstGrainBeside 33 = .ok (.ireturn, 1) := by decide +kernel
set_option maxRecDepth 20000 in
theorem ggX4_grainsAround_X2_neighbour : GoodIn wsX4_grainsAround wsX2_neighbour := goodIn_r _ [4] (by decide +kernel) (by decide +kernel)
set_option maxRecDepth 20000 in
theorem gX4_grainsAround_X2_neighbour : GoodIn wsX4_grainsAround (va_wsS RX4 107 yX2_neighbour wsX2_neighbour) := goodIn_app (goodIn_of _ (by decide +kernel)) ggX4_grainsAround_X2_neighbour
set_option maxRecDepth 20000 in
theorem ggX4_grainsAround_X4_grainAt : GoodIn wsX4_grainsAround wsX4_grainAt := goodIn_r _ [9, 10, 11, 12, 13, 14, 15, 16, 17, 18, 19, 20, 21] (by decide +kernel) (by decide +kernel)
set_option maxRecDepth 20000 in
theorem gX4_grainsAround_X4_grainAt : GoodIn wsX4_grainsAround (wsV RX4 101 RX4 yX4_grainAt wsX4_grainAt) := goodIn_app (goodIn_of _ (by decide +kernel)) ggX4_grainsAround_X4_grainAt
theorem dX4_grainsAround_0 : decode cX4_grainsAround 0 = .ok (.iconst 0, 1) := by decide +kernel
theorem dX4_grainsAround_1 : decode cX4_grainsAround 1 = .ok (.istore_n 2, 1) := by decide +kernel
theorem dX4_grainsAround_2 : decode cX4_grainsAround 2 = .ok (.iconst 0, 1) := by decide +kernel
theorem dX4_grainsAround_3 : decode cX4_grainsAround 3 = .ok (.istore_n 3, 1) := by decide +kernel
theorem dX4_grainsAround_4 : decode cX4_grainsAround 4 = .ok (.iload_n 3, 1) := by decide +kernel
theorem dX4_grainsAround_5 : decode cX4_grainsAround 5 = .ok (.iconst 4, 1) := by decide +kernel
theorem dX4_grainsAround_6 : decode cX4_grainsAround 6 = .ok (.if_icmp .ge 26, 3) := by decide +kernel
theorem dX4_grainsAround_9 : decode cX4_grainsAround 9 = .ok (.aload_n 0, 1) := by decide +kernel
theorem dX4_grainsAround_10 : decode cX4_grainsAround 10 = .ok (.iload_n 1, 1) := by decide +kernel
theorem dX4_grainsAround_11 : decode cX4_grainsAround 11 = .ok (.iload_n 3, 1) := by decide +kernel
theorem dX4_grainsAround_12 : decode cX4_grainsAround 12 = .ok (.invokestatic 107, 3) := by decide +kernel
theorem dX4_grainsAround_15 : decode cX4_grainsAround 15 = .ok (.invokevirtual 101, 3) := by decide +kernel
theorem dX4_grainsAround_18 : decode cX4_grainsAround 18 = .ok (.bipush (-4), 2) := by decide +kernel
theorem dX4_grainsAround_20 : decode cX4_grainsAround 20 = .ok (.if_icmp .eq 6, 3) := by decide +kernel
theorem dX4_grainsAround_23 : decode cX4_grainsAround 23 = .ok (.iinc 2 1, 3) := by decide +kernel
theorem dX4_grainsAround_26 : decode cX4_grainsAround 26 = .ok (.iinc 3 1, 3) := by decide +kernel
theorem dX4_grainsAround_29 : decode cX4_grainsAround 29 = .ok (.goto (-25), 3) := by decide +kernel
theorem dX4_grainsAround_32 : decode cX4_grainsAround 32 = .ok (.iload_n 2, 1) := by decide +kernel
theorem dX4_grainsAround_33 : decode cX4_grainsAround 33 = .ok (.ireturn, 1) := by decide +kernel
set_option maxRecDepth 20000 in
theorem ggX4_freeCellsBeside_X4_grainAt : GoodIn wsX4_freeCellsBeside wsX4_grainAt := goodIn_r _ [5, 6, 15, 16, 17, 18, 19, 20, 21, 22, 23, 24, 25] (by decide +kernel) (by decide +kernel)
set_option maxRecDepth 20000 in
theorem gX4_freeCellsBeside_X4_grainAt : GoodIn wsX4_freeCellsBeside (wsV RX4 101 RX4 yX4_grainAt wsX4_grainAt) := goodIn_app (goodIn_of _ (by decide +kernel)) ggX4_freeCellsBeside_X4_grainAt
set_option maxRecDepth 20000 in
theorem ggX4_freeCellsBeside_X4_firstGrainBeside : GoodIn wsX4_freeCellsBeside wsX4_firstGrainBeside := goodIn_r _ [10, 11, 12, 13, 14, 1, 2, 3, 4, 5, 6, 15, 16, 17, 18, 19, 20, 21, 22, 23, 24, 25] (by decide +kernel) (by decide +kernel)
set_option maxRecDepth 20000 in
theorem gX4_freeCellsBeside_X4_firstGrainBeside : GoodIn wsX4_freeCellsBeside (wsV RX4 111 RX4 yX4_firstGrainBeside wsX4_firstGrainBeside) := goodIn_app (goodIn_of _ (by decide +kernel)) ggX4_freeCellsBeside_X4_firstGrainBeside
theorem dX4_freeCellsBeside_0 : decode cX4_freeCellsBeside 0 = .ok (.iconst 0, 1) := by decide +kernel
theorem dX4_freeCellsBeside_1 : decode cX4_freeCellsBeside 1 = .ok (.istore_n 1, 1) := by decide +kernel
theorem dX4_freeCellsBeside_2 : decode cX4_freeCellsBeside 2 = .ok (.iconst 0, 1) := by decide +kernel
theorem dX4_freeCellsBeside_3 : decode cX4_freeCellsBeside 3 = .ok (.istore_n 2, 1) := by decide +kernel
theorem dX4_freeCellsBeside_4 : decode cX4_freeCellsBeside 4 = .ok (.iload_n 2, 1) := by decide +kernel
theorem dX4_freeCellsBeside_5 : decode cX4_freeCellsBeside 5 = .ok (.bipush 121, 2) := by decide +kernel
theorem dX4_freeCellsBeside_7 : decode cX4_freeCellsBeside 7 = .ok (.if_icmp .ge 32, 3) := by decide +kernel
theorem dX4_freeCellsBeside_10 : decode cX4_freeCellsBeside 10 = .ok (.aload_n 0, 1) := by decide +kernel
theorem dX4_freeCellsBeside_11 : decode cX4_freeCellsBeside 11 = .ok (.iload_n 2, 1) := by decide +kernel
theorem dX4_freeCellsBeside_12 : decode cX4_freeCellsBeside 12 = .ok (.invokevirtual 101, 3) := by decide +kernel
theorem dX4_freeCellsBeside_15 : decode cX4_freeCellsBeside 15 = .ok (.bipush (-4), 2) := by decide +kernel
theorem dX4_freeCellsBeside_17 : decode cX4_freeCellsBeside 17 = .ok (.if_icmp .ne 16, 3) := by decide +kernel
theorem dX4_freeCellsBeside_20 : decode cX4_freeCellsBeside 20 = .ok (.aload_n 0, 1) := by decide +kernel
theorem dX4_freeCellsBeside_21 : decode cX4_freeCellsBeside 21 = .ok (.iload_n 2, 1) := by decide +kernel
theorem dX4_freeCellsBeside_22 : decode cX4_freeCellsBeside 22 = .ok (.invokevirtual 111, 3) := by decide +kernel
theorem dX4_freeCellsBeside_25 : decode cX4_freeCellsBeside 25 = .ok (.bipush (-4), 2) := by decide +kernel
theorem dX4_freeCellsBeside_27 : decode cX4_freeCellsBeside 27 = .ok (.if_icmp .eq 6, 3) := by decide +kernel
theorem dX4_freeCellsBeside_30 : decode cX4_freeCellsBeside 30 = .ok (.iinc 1 1, 3) := by decide +kernel
theorem dX4_freeCellsBeside_33 : decode cX4_freeCellsBeside 33 = .ok (.iinc 2 1, 3) := by decide +kernel
theorem dX4_freeCellsBeside_36 : decode cX4_freeCellsBeside 36 = .ok (.goto (-32), 3) := by decide +kernel
theorem dX4_freeCellsBeside_39 : decode cX4_freeCellsBeside 39 = .ok (.iload_n 1, 1) := by decide +kernel
theorem dX4_freeCellsBeside_40 : decode cX4_freeCellsBeside 40 = .ok (.ireturn, 1) := by decide +kernel
set_option maxRecDepth 20000 in
theorem ggX4_reach_X2_ringOf : GoodIn wsX4_reach wsX2_ringOf := goodIn_r _ [10, 11, 12, 5, 13, 14, 4, 6] (by decide +kernel) (by decide +kernel)
set_option maxRecDepth 20000 in
theorem gX4_reach_X2_ringOf : GoodIn wsX4_reach (va_wsS RX4 64 yX2_ringOf wsX2_ringOf) := goodIn_app (goodIn_of _ (by decide +kernel)) ggX4_reach_X2_ringOf
theorem dX4_reach_0 : decode cX4_reach 0 = .ok (.iconst 0, 1) := by decide +kernel
theorem dX4_reach_1 : decode cX4_reach 1 = .ok (.istore_n 1, 1) := by decide +kernel
theorem dX4_reach_2 : decode cX4_reach 2 = .ok (.iconst 0, 1) := by decide +kernel
theorem dX4_reach_3 : decode cX4_reach 3 = .ok (.istore_n 2, 1) := by decide +kernel
theorem dX4_reach_4 : decode cX4_reach 4 = .ok (.iload_n 2, 1) := by decide +kernel
theorem dX4_reach_5 : decode cX4_reach 5 = .ok (.aload_n 0, 1) := by decide +kernel
theorem dX4_reach_6 : decode cX4_reach 6 = .ok (.getfield 27, 3) := by decide +kernel
theorem dX4_reach_9 : decode cX4_reach 9 = .ok (.if_icmp .ge 23, 3) := by decide +kernel
theorem dX4_reach_12 : decode cX4_reach 12 = .ok (.iload_n 1, 1) := by decide +kernel
theorem dX4_reach_13 : decode cX4_reach 13 = .ok (.aload_n 0, 1) := by decide +kernel
theorem dX4_reach_14 : decode cX4_reach 14 = .ok (.getfield 9, 3) := by decide +kernel
theorem dX4_reach_17 : decode cX4_reach 17 = .ok (.iload_n 2, 1) := by decide +kernel
theorem dX4_reach_18 : decode cX4_reach 18 = .ok (.iaload, 1) := by decide +kernel
theorem dX4_reach_19 : decode cX4_reach 19 = .ok (.invokestatic 64, 3) := by decide +kernel
theorem dX4_reach_22 : decode cX4_reach 22 = .ok (.invokestatic 114, 3) := by decide +kernel
theorem dX4_reach_25 : decode cX4_reach 25 = .ok (.istore_n 1, 1) := by decide +kernel
theorem dX4_reach_26 : decode cX4_reach 26 = .ok (.iinc 2 1, 3) := by decide +kernel
theorem dX4_reach_29 : decode cX4_reach 29 = .ok (.goto (-25), 3) := by decide +kernel
theorem dX4_reach_32 : decode cX4_reach 32 = .ok (.iload_n 1, 1) := by decide +kernel
theorem dX4_reach_33 : decode cX4_reach 33 = .ok (.ireturn, 1) := by decide +kernel
set_option maxRecDepth 20000 in
theorem ggX4_holdsBetween_X4_holderOf : GoodIn wsX4_holdsBetween wsX4_holderOf := goodIn_r _ [12, 13, 14, 15, 16, 11, 17, 18, 19, 20, 21, 22, 23, 24, 25, 26, 27, 28, 29] (by decide +kernel) (by decide +kernel)
set_option maxRecDepth 20000 in
theorem gX4_holdsBetween_X4_holderOf : GoodIn wsX4_holdsBetween (wsV RX4 104 RX4 yX4_holderOf wsX4_holderOf) := goodIn_app (goodIn_of _ (by decide +kernel)) ggX4_holdsBetween_X4_holderOf
theorem dX4_holdsBetween_0 : decode cX4_holdsBetween 0 = .ok (.iload_n 1, 1) := by decide +kernel
theorem dX4_holdsBetween_1 : decode cX4_holdsBetween 1 = .ok (.istore_n 3, 1) := by decide +kernel
theorem dX4_holdsBetween_2 : decode cX4_holdsBetween 2 = .ok (.iload_n 2, 1) := by decide +kernel
theorem dX4_holdsBetween_3 : decode cX4_holdsBetween 3 = .ok (.istore 4, 2) := by decide +kernel
theorem dX4_holdsBetween_5 : decode cX4_holdsBetween 5 = .ok (.iconst 0, 1) := by decide +kernel
theorem dX4_holdsBetween_6 : decode cX4_holdsBetween 6 = .ok (.istore 5, 2) := by decide +kernel
theorem dX4_holdsBetween_8 : decode cX4_holdsBetween 8 = .ok (.iload 5, 2) := by decide +kernel
theorem dX4_holdsBetween_10 : decode cX4_holdsBetween 10 = .ok (.bipush 121, 2) := by decide +kernel
theorem dX4_holdsBetween_12 : decode cX4_holdsBetween 12 = .ok (.if_icmp .ge 51, 3) := by decide +kernel
theorem dX4_holdsBetween_15 : decode cX4_holdsBetween 15 = .ok (.iload_n 3, 1) := by decide +kernel
theorem dX4_holdsBetween_16 : decode cX4_holdsBetween 16 = .ok (.iload 4, 2) := by decide +kernel
theorem dX4_holdsBetween_18 : decode cX4_holdsBetween 18 = .ok (.if_icmp .ne 6, 3) := by decide +kernel
theorem dX4_holdsBetween_21 : decode cX4_holdsBetween 21 = .ok (.iload 5, 2) := by decide +kernel
theorem dX4_holdsBetween_23 : decode cX4_holdsBetween 23 = .ok (.ireturn, 1) := by decide +kernel
theorem dX4_holdsBetween_24 : decode cX4_holdsBetween 24 = .ok (.iload_n 3, 1) := by decide +kernel
theorem dX4_holdsBetween_25 : decode cX4_holdsBetween 25 = .ok (.iload 4, 2) := by decide +kernel
theorem dX4_holdsBetween_27 : decode cX4_holdsBetween 27 = .ok (.invokestatic 114, 3) := by decide +kernel
theorem dX4_holdsBetween_30 : decode cX4_holdsBetween 30 = .ok (.istore 6, 2) := by decide +kernel
theorem dX4_holdsBetween_32 : decode cX4_holdsBetween 32 = .ok (.iload_n 3, 1) := by decide +kernel
theorem dX4_holdsBetween_33 : decode cX4_holdsBetween 33 = .ok (.iload 4, 2) := by decide +kernel
theorem dX4_holdsBetween_35 : decode cX4_holdsBetween 35 = .ok (.invokestatic 119, 3) := by decide +kernel
theorem dX4_holdsBetween_38 : decode cX4_holdsBetween 38 = .ok (.istore_n 3, 1) := by decide +kernel
theorem dX4_holdsBetween_39 : decode cX4_holdsBetween 39 = .ok (.aload_n 0, 1) := by decide +kernel
theorem dX4_holdsBetween_40 : decode cX4_holdsBetween 40 = .ok (.iload 6, 2) := by decide +kernel
theorem dX4_holdsBetween_42 : decode cX4_holdsBetween 42 = .ok (.invokevirtual 104, 3) := by decide +kernel
theorem dX4_holdsBetween_45 : decode cX4_holdsBetween 45 = .ok (.istore 4, 2) := by decide +kernel
theorem dX4_holdsBetween_47 : decode cX4_holdsBetween 47 = .ok (.iload 4, 2) := by decide +kernel
theorem dX4_holdsBetween_49 : decode cX4_holdsBetween 49 = .ok (.bipush (-4), 2) := by decide +kernel
theorem dX4_holdsBetween_51 : decode cX4_holdsBetween 51 = .ok (.if_icmp .ne 6, 3) := by decide +kernel
theorem dX4_holdsBetween_54 : decode cX4_holdsBetween 54 = .ok (.bipush (-4), 2) := by decide +kernel
theorem dX4_holdsBetween_56 : decode cX4_holdsBetween 56 = .ok (.ireturn, 1) := by decide +kernel
theorem dX4_holdsBetween_57 : decode cX4_holdsBetween 57 = .ok (.iinc 5 1, 3) := by decide +kernel
theorem dX4_holdsBetween_60 : decode cX4_holdsBetween 60 = .ok (.goto (-52), 3) := by decide +kernel
theorem dX4_holdsBetween_63 : decode cX4_holdsBetween 63 = .ok (.bipush (-4), 2) := by decide +kernel
theorem dX4_holdsBetween_65 : decode cX4_holdsBetween 65 = .ok (.ireturn, 1) := by decide +kernel
set_option maxRecDepth 20000 in
theorem ggX4_longestOfPairs_X4_holdsBetween : GoodIn wsX4_longestOfPairs wsX4_holdsBetween := goodIn_r _ [10, 2, 3, 4, 5, 11, 12, 13, 14, 15, 16, 9, 17, 18, 19, 20, 21, 22, 1, 23, 24, 25, 26, 27, 28, 29, 30, 31, 32, 33] (by decide +kernel) (by decide +kernel)
set_option maxRecDepth 20000 in
theorem gX4_longestOfPairs_X4_holdsBetween : GoodIn wsX4_longestOfPairs (wsV RX4 122 RX4 yX4_holdsBetween wsX4_holdsBetween) := goodIn_app (goodIn_of _ (by decide +kernel)) ggX4_longestOfPairs_X4_holdsBetween
theorem dX4_longestOfPairs_0 : decode cX4_longestOfPairs 0 = .ok (.iconst 0, 1) := by decide +kernel
theorem dX4_longestOfPairs_1 : decode cX4_longestOfPairs 1 = .ok (.istore_n 1, 1) := by decide +kernel
theorem dX4_longestOfPairs_2 : decode cX4_longestOfPairs 2 = .ok (.iconst 0, 1) := by decide +kernel
theorem dX4_longestOfPairs_3 : decode cX4_longestOfPairs 3 = .ok (.istore_n 2, 1) := by decide +kernel
theorem dX4_longestOfPairs_4 : decode cX4_longestOfPairs 4 = .ok (.iload_n 2, 1) := by decide +kernel
theorem dX4_longestOfPairs_5 : decode cX4_longestOfPairs 5 = .ok (.aload_n 0, 1) := by decide +kernel
theorem dX4_longestOfPairs_6 : decode cX4_longestOfPairs 6 = .ok (.getfield 27, 3) := by decide +kernel
theorem dX4_longestOfPairs_9 : decode cX4_longestOfPairs 9 = .ok (.if_icmp .ge 38, 3) := by decide +kernel
theorem dX4_longestOfPairs_12 : decode cX4_longestOfPairs 12 = .ok (.iload_n 2, 1) := by decide +kernel
theorem dX4_longestOfPairs_13 : decode cX4_longestOfPairs 13 = .ok (.iconst 1, 1) := by decide +kernel
theorem dX4_longestOfPairs_14 : decode cX4_longestOfPairs 14 = .ok (.iadd, 1) := by decide +kernel
theorem dX4_longestOfPairs_15 : decode cX4_longestOfPairs 15 = .ok (.istore_n 3, 1) := by decide +kernel
theorem dX4_longestOfPairs_16 : decode cX4_longestOfPairs 16 = .ok (.iload_n 3, 1) := by decide +kernel
theorem dX4_longestOfPairs_17 : decode cX4_longestOfPairs 17 = .ok (.aload_n 0, 1) := by decide +kernel
theorem dX4_longestOfPairs_18 : decode cX4_longestOfPairs 18 = .ok (.getfield 27, 3) := by decide +kernel
theorem dX4_longestOfPairs_21 : decode cX4_longestOfPairs 21 = .ok (.if_icmp .ge 20, 3) := by decide +kernel
theorem dX4_longestOfPairs_24 : decode cX4_longestOfPairs 24 = .ok (.iload_n 1, 1) := by decide +kernel
theorem dX4_longestOfPairs_25 : decode cX4_longestOfPairs 25 = .ok (.aload_n 0, 1) := by decide +kernel
theorem dX4_longestOfPairs_26 : decode cX4_longestOfPairs 26 = .ok (.iload_n 2, 1) := by decide +kernel
theorem dX4_longestOfPairs_27 : decode cX4_longestOfPairs 27 = .ok (.iload_n 3, 1) := by decide +kernel
theorem dX4_longestOfPairs_28 : decode cX4_longestOfPairs 28 = .ok (.invokevirtual 122, 3) := by decide +kernel
theorem dX4_longestOfPairs_31 : decode cX4_longestOfPairs 31 = .ok (.invokestatic 114, 3) := by decide +kernel
theorem dX4_longestOfPairs_34 : decode cX4_longestOfPairs 34 = .ok (.istore_n 1, 1) := by decide +kernel
theorem dX4_longestOfPairs_35 : decode cX4_longestOfPairs 35 = .ok (.iinc 3 1, 3) := by decide +kernel
theorem dX4_longestOfPairs_38 : decode cX4_longestOfPairs 38 = .ok (.goto (-22), 3) := by decide +kernel
theorem dX4_longestOfPairs_41 : decode cX4_longestOfPairs 41 = .ok (.iinc 2 1, 3) := by decide +kernel
theorem dX4_longestOfPairs_44 : decode cX4_longestOfPairs 44 = .ok (.goto (-40), 3) := by decide +kernel
theorem dX4_longestOfPairs_47 : decode cX4_longestOfPairs 47 = .ok (.iload_n 1, 1) := by decide +kernel
theorem dX4_longestOfPairs_48 : decode cX4_longestOfPairs 48 = .ok (.ireturn, 1) := by decide +kernel
theorem dX5_init_0 : decode cX5_init 0 = .ok (.aload_n 0, 1) := by decide +kernel
theorem dX5_init_1 : decode cX5_init 1 = .ok (.invokespecial 3, 3) := by decide +kernel
theorem dX5_init_4 : decode cX5_init 4 = .ok (.aload_n 0, 1) := by decide +kernel
theorem dX5_init_5 : decode cX5_init 5 = .ok (.bipush 121, 2) := by decide +kernel
theorem dX5_init_7 : decode cX5_init 7 = .ok (.newarray .int, 2) := by decide +kernel
theorem dX5_init_9 : decode cX5_init 9 = .ok (.putfield 9, 3) := by decide +kernel
theorem dX5_init_12 : decode cX5_init 12 = .ok (.aload_n 0, 1) := by decide +kernel
theorem dX5_init_13 : decode cX5_init 13 = .ok (.bipush 121, 2) := by decide +kernel
theorem dX5_init_15 : decode cX5_init 15 = .ok (.newarray .int, 2) := by decide +kernel
theorem dX5_init_17 : decode cX5_init 17 = .ok (.putfield 15, 3) := by decide +kernel
theorem dX5_init_20 : decode cX5_init 20 = .ok (.aload_n 0, 1) := by decide +kernel
theorem dX5_init_21 : decode cX5_init 21 = .ok (.bipush 121, 2) := by decide +kernel
theorem dX5_init_23 : decode cX5_init 23 = .ok (.newarray .int, 2) := by decide +kernel
theorem dX5_init_25 : decode cX5_init 25 = .ok (.putfield 18, 3) := by decide +kernel
theorem dX5_init_28 : decode cX5_init 28 = .ok (.aload_n 0, 1) := by decide +kernel
theorem dX5_init_29 : decode cX5_init 29 = .ok (.bipush 121, 2) := by decide +kernel
theorem dX5_init_31 : decode cX5_init 31 = .ok (.newarray .int, 2) := by decide +kernel
theorem dX5_init_33 : decode cX5_init 33 = .ok (.putfield 21, 3) := by decide +kernel
theorem dX5_init_36 : decode cX5_init 36 = .ok (.aload_n 0, 1) := by decide +kernel
theorem dX5_init_37 : decode cX5_init 37 = .ok (.bipush 121, 2) := by decide +kernel
theorem dX5_init_39 : decode cX5_init 39 = .ok (.newarray .int, 2) := by decide +kernel
theorem dX5_init_41 : decode cX5_init 41 = .ok (.putfield 24, 3) := by decide +kernel
theorem dX5_init_44 : decode cX5_init 44 = .ok (.aload_n 0, 1) := by decide +kernel
theorem dX5_init_45 : decode cX5_init 45 = .ok (.bipush 121, 2) := by decide +kernel
theorem dX5_init_47 : decode cX5_init 47 = .ok (.newarray .int, 2) := by decide +kernel
theorem dX5_init_49 : decode cX5_init 49 = .ok (.putfield 27, 3) := by decide +kernel
theorem dX5_init_52 : decode cX5_init 52 = .ok (.aload_n 0, 1) := by decide +kernel
theorem dX5_init_53 : decode cX5_init 53 = .ok (.iconst 0, 1) := by decide +kernel
theorem dX5_init_54 : decode cX5_init 54 = .ok (.putfield 30, 3) := by decide +kernel
theorem dX5_init_57 : decode cX5_init 57 = .ok (.return_, 1) := by decide +kernel
set_option maxRecDepth 20000 in
theorem ggX5_read_X4_holderOf : GoodIn wsX5_read wsX4_holderOf := goodIn_r _ [6, 7, 8, 9, 10, 5, 11, 12, 32, 33, 34, 35, 36, 37, 38, 39, 40, 41, 42] (by decide +kernel) (by decide +kernel)
set_option maxRecDepth 20000 in
theorem gX5_read_X4_holderOf : GoodIn wsX5_read (wsV RX5 37 RX4 yX4_holderOf wsX4_holderOf) := goodIn_app (goodIn_of _ (by decide +kernel)) ggX5_read_X4_holderOf
set_option maxRecDepth 20000 in
theorem ggX5_read_X5_readFromHolder : GoodIn wsX5_read wsX5_readFromHolder := goodIn_r _ [17, 18, 19, 20, 21, 22, 23, 24, 25, 26, 16, 27, 1, 43, 44, 45, 46, 47, 48, 49] (by decide +kernel) (by decide +kernel)
set_option maxRecDepth 20000 in
theorem gX5_read_X5_readFromHolder : GoodIn wsX5_read (wsV RX5 41 RX5 yX5_readFromHolder wsX5_readFromHolder) := goodIn_app (goodIn_of _ (by decide +kernel)) ggX5_read_X5_readFromHolder
set_option maxRecDepth 20000 in
theorem ggX5_read_X5_isGrain : GoodIn wsX5_read wsX5_isGrain := goodIn_r _ [27, 1, 43, 44, 45, 46, 47, 48, 49] (by decide +kernel) (by decide +kernel)
set_option maxRecDepth 20000 in
theorem gX5_read_X5_isGrain : GoodIn wsX5_read (wsV RX5 45 RX5 yX5_isGrain wsX5_isGrain) := goodIn_app (goodIn_of _ (by decide +kernel)) ggX5_read_X5_isGrain
set_option maxRecDepth 20000 in
theorem ggX5_read_X5_addToHolder : GoodIn wsX5_read wsX5_addToHolder := goodIn_r _ [31, 20, 21, 22, 23, 43, 44, 45, 46, 47, 48, 49] (by decide +kernel) (by decide +kernel)
set_option maxRecDepth 20000 in
theorem gX5_read_X5_addToHolder : GoodIn wsX5_read (wsV RX5 49 RX5 yX5_addToHolder wsX5_addToHolder) := goodIn_app (goodIn_of _ (by decide +kernel)) ggX5_read_X5_addToHolder
theorem dX5_read_0 : decode cX5_read 0 = .ok (.aload_n 0, 1) := by decide +kernel
theorem dX5_read_1 : decode cX5_read 1 = .ok (.aload_n 1, 1) := by decide +kernel
theorem dX5_read_2 : decode cX5_read 2 = .ok (.getfield 34, 3) := by decide +kernel
theorem dX5_read_5 : decode cX5_read 5 = .ok (.putfield 30, 3) := by decide +kernel
theorem dX5_read_8 : decode cX5_read 8 = .ok (.iconst 0, 1) := by decide +kernel
theorem dX5_read_9 : decode cX5_read 9 = .ok (.istore_n 2, 1) := by decide +kernel
theorem dX5_read_10 : decode cX5_read 10 = .ok (.iload_n 2, 1) := by decide +kernel
theorem dX5_read_11 : decode cX5_read 11 = .ok (.aload_n 0, 1) := by decide +kernel
theorem dX5_read_12 : decode cX5_read 12 = .ok (.getfield 30, 3) := by decide +kernel
theorem dX5_read_15 : decode cX5_read 15 = .ok (.if_icmp .ge 19, 3) := by decide +kernel
theorem dX5_read_18 : decode cX5_read 18 = .ok (.aload_n 0, 1) := by decide +kernel
theorem dX5_read_19 : decode cX5_read 19 = .ok (.iload_n 2, 1) := by decide +kernel
theorem dX5_read_20 : decode cX5_read 20 = .ok (.aload_n 1, 1) := by decide +kernel
theorem dX5_read_21 : decode cX5_read 21 = .ok (.iload_n 2, 1) := by decide +kernel
theorem dX5_read_22 : decode cX5_read 22 = .ok (.invokevirtual 37, 3) := by decide +kernel
theorem dX5_read_25 : decode cX5_read 25 = .ok (.invokevirtual 41, 3) := by decide +kernel
theorem dX5_read_28 : decode cX5_read 28 = .ok (.iinc 2 1, 3) := by decide +kernel
theorem dX5_read_31 : decode cX5_read 31 = .ok (.goto (-21), 3) := by decide +kernel
theorem dX5_read_34 : decode cX5_read 34 = .ok (.aload_n 0, 1) := by decide +kernel
theorem dX5_read_35 : decode cX5_read 35 = .ok (.getfield 30, 3) := by decide +kernel
theorem dX5_read_38 : decode cX5_read 38 = .ok (.iconst 1, 1) := by decide +kernel
theorem dX5_read_39 : decode cX5_read 39 = .ok (.isub, 1) := by decide +kernel
theorem dX5_read_40 : decode cX5_read 40 = .ok (.istore_n 2, 1) := by decide +kernel
theorem dX5_read_41 : decode cX5_read 41 = .ok (.iload_n 2, 1) := by decide +kernel
theorem dX5_read_42 : decode cX5_read 42 = .ok (.ifCond .lt 29, 3) := by decide +kernel
theorem dX5_read_45 : decode cX5_read 45 = .ok (.aload_n 1, 1) := by decide +kernel
theorem dX5_read_46 : decode cX5_read 46 = .ok (.iload_n 2, 1) := by decide +kernel
theorem dX5_read_47 : decode cX5_read 47 = .ok (.invokevirtual 37, 3) := by decide +kernel
theorem dX5_read_50 : decode cX5_read 50 = .ok (.istore_n 3, 1) := by decide +kernel
theorem dX5_read_51 : decode cX5_read 51 = .ok (.aload_n 0, 1) := by decide +kernel
theorem dX5_read_52 : decode cX5_read 52 = .ok (.iload_n 3, 1) := by decide +kernel
theorem dX5_read_53 : decode cX5_read 53 = .ok (.invokevirtual 45, 3) := by decide +kernel
theorem dX5_read_56 : decode cX5_read 56 = .ok (.ifCond .eq 9, 3) := by decide +kernel
theorem dX5_read_59 : decode cX5_read 59 = .ok (.aload_n 0, 1) := by decide +kernel
theorem dX5_read_60 : decode cX5_read 60 = .ok (.iload_n 2, 1) := by decide +kernel
theorem dX5_read_61 : decode cX5_read 61 = .ok (.iload_n 3, 1) := by decide +kernel
theorem dX5_read_62 : decode cX5_read 62 = .ok (.invokevirtual 49, 3) := by decide +kernel
theorem dX5_read_65 : decode cX5_read 65 = .ok (.iinc 2 (-1), 3) := by decide +kernel
theorem dX5_read_68 : decode cX5_read 68 = .ok (.goto (-27), 3) := by decide +kernel
theorem dX5_read_71 : decode cX5_read 71 = .ok (.return_, 1) := by decide +kernel
