theorem dX8_set_0 : decode cX8_set 0 = .ok (.iload_n 1, 1) := by decide +kernel
theorem dX8_set_1 : decode cX8_set 1 = .ok (.iconst 0, 1) := by decide +kernel
theorem dX8_set_2 : decode cX8_set 2 = .ok (.iconst 3, 1) := by decide +kernel
theorem dX8_set_3 : decode cX8_set 3 = .ok (.invokestatic 47, 3) := by decide +kernel
theorem dX8_set_6 : decode cX8_set 6 = .ok (.ifCond .eq 18, 3) := by decide +kernel
theorem dX8_set_9 : decode cX8_set 9 = .ok (.iload_n 2, 1) := by decide +kernel
theorem dX8_set_10 : decode cX8_set 10 = .ok (.iload_n 1, 1) := by decide +kernel
theorem dX8_set_11 : decode cX8_set 11 = .ok (.invokestatic 138, 3) := by decide +kernel
theorem dX8_set_14 : decode cX8_set 14 = .ok (.iload_n 1, 1) := by decide +kernel
theorem dX8_set_15 : decode cX8_set 15 = .ok (.invokestatic 141, 3) := by decide +kernel
theorem dX8_set_18 : decode cX8_set 18 = .ok (.invokestatic 47, 3) := by decide +kernel
theorem dX8_set_21 : decode cX8_set 21 = .ok (.ifCond .ne 5, 3) := by decide +kernel
theorem dX8_set_24 : decode cX8_set 24 = .ok (.iconst (-1), 1) := by decide +kernel
theorem dX8_set_25 : decode cX8_set 25 = .ok (.ireturn, 1) := by decide +kernel
theorem dX8_set_26 : decode cX8_set 26 = .ok (.aload_n 0, 1) := by decide +kernel
theorem dX8_set_27 : decode cX8_set 27 = .ok (.invokevirtual 120, 3) := by decide +kernel
theorem dX8_set_30 : decode cX8_set 30 = .ok (.aload_n 0, 1) := by decide +kernel
theorem dX8_set_31 : decode cX8_set 31 = .ok (.getfield 7, 3) := by decide +kernel
theorem dX8_set_34 : decode cX8_set 34 = .ok (.iconst 2, 1) := by decide +kernel
theorem dX8_set_35 : decode cX8_set 35 = .ok (.iload_n 1, 1) := by decide +kernel
theorem dX8_set_36 : decode cX8_set 36 = .ok (.iadd, 1) := by decide +kernel
theorem dX8_set_37 : decode cX8_set 37 = .ok (.iaload, 1) := by decide +kernel
theorem dX8_set_38 : decode cX8_set 38 = .ok (.istore_n 3, 1) := by decide +kernel
theorem dX8_set_39 : decode cX8_set 39 = .ok (.aload_n 0, 1) := by decide +kernel
theorem dX8_set_40 : decode cX8_set 40 = .ok (.getfield 7, 3) := by decide +kernel
theorem dX8_set_43 : decode cX8_set 43 = .ok (.iconst 2, 1) := by decide +kernel
theorem dX8_set_44 : decode cX8_set 44 = .ok (.iload_n 1, 1) := by decide +kernel
theorem dX8_set_45 : decode cX8_set 45 = .ok (.iadd, 1) := by decide +kernel
theorem dX8_set_46 : decode cX8_set 46 = .ok (.iload_n 2, 1) := by decide +kernel
theorem dX8_set_47 : decode cX8_set 47 = .ok (.iastore, 1) := by decide +kernel
theorem dX8_set_48 : decode cX8_set 48 = .ok (.iload_n 3, 1) := by decide +kernel
theorem dX8_set_49 : decode cX8_set 49 = .ok (.ireturn, 1) := by decide +kernel
set_option maxRecDepth 20000 in
theorem ggX8_append_X8_in : GoodIn wsX8_append wsX8_in := goodIn_r _ [6] (by decide +kernel) (by decide +kernel)
set_option maxRecDepth 20000 in
theorem gX8_append_X8_in : GoodIn wsX8_append (va_wsS RX8 47 yX8_in wsX8_in) := goodIn_app (goodIn_of _ (by decide +kernel)) ggX8_append_X8_in
theorem dX8_append_0 : decode cX8_append 0 = .ok (.iload_n 1, 1) := by decide +kernel
theorem dX8_append_1 : decode cX8_append 1 = .ok (.bipush 33, 2) := by decide +kernel
theorem dX8_append_3 : decode cX8_append 3 = .ok (.bipush 126, 2) := by decide +kernel
theorem dX8_append_5 : decode cX8_append 5 = .ok (.invokestatic 47, 3) := by decide +kernel
theorem dX8_append_8 : decode cX8_append 8 = .ok (.ifCond .ne 5, 3) := by decide +kernel
theorem dX8_append_11 : decode cX8_append 11 = .ok (.iconst (-1), 1) := by decide +kernel
theorem dX8_append_12 : decode cX8_append 12 = .ok (.ireturn, 1) := by decide +kernel
theorem dX8_append_13 : decode cX8_append 13 = .ok (.aload_n 0, 1) := by decide +kernel
theorem dX8_append_14 : decode cX8_append 14 = .ok (.getfield 144, 3) := by decide +kernel
theorem dX8_append_17 : decode cX8_append 17 = .ok (.bipush 60, 2) := by decide +kernel
theorem dX8_append_19 : decode cX8_append 19 = .ok (.if_icmp .ne 6, 3) := by decide +kernel
theorem dX8_append_22 : decode cX8_append 22 = .ok (.bipush (-3), 2) := by decide +kernel
theorem dX8_append_24 : decode cX8_append 24 = .ok (.ireturn, 1) := by decide +kernel
theorem dX8_append_25 : decode cX8_append 25 = .ok (.aload_n 0, 1) := by decide +kernel
theorem dX8_append_26 : decode cX8_append 26 = .ok (.getfield 22, 3) := by decide +kernel
theorem dX8_append_29 : decode cX8_append 29 = .ok (.aload_n 0, 1) := by decide +kernel
theorem dX8_append_30 : decode cX8_append 30 = .ok (.getfield 144, 3) := by decide +kernel
theorem dX8_append_33 : decode cX8_append 33 = .ok (.iload_n 1, 1) := by decide +kernel
theorem dX8_append_34 : decode cX8_append 34 = .ok (.iastore, 1) := by decide +kernel
theorem dX8_append_35 : decode cX8_append 35 = .ok (.aload_n 0, 1) := by decide +kernel
theorem dX8_append_36 : decode cX8_append 36 = .ok (.dup, 1) := by decide +kernel
theorem dX8_append_37 : decode cX8_append 37 = .ok (.getfield 144, 3) := by decide +kernel
theorem dX8_append_40 : decode cX8_append 40 = .ok (.iconst 1, 1) := by decide +kernel
theorem dX8_append_41 : decode cX8_append 41 = .ok (.iadd, 1) := by decide +kernel
theorem dX8_append_42 : decode cX8_append 42 = .ok (.putfield 144, 3) := by decide +kernel
theorem dX8_append_45 : decode cX8_append 45 = .ok (.aload_n 0, 1) := by decide +kernel
theorem dX8_append_46 : decode cX8_append 46 = .ok (.getfield 144, 3) := by decide +kernel
theorem dX8_append_49 : decode cX8_append 49 = .ok (.ireturn, 1) := by decide +kernel
theorem dX8_clear_0 : decode cX8_clear 0 = .ok (.aload_n 0, 1) := by decide +kernel
theorem dX8_clear_1 : decode cX8_clear 1 = .ok (.getfield 144, 3) := by decide +kernel
theorem dX8_clear_4 : decode cX8_clear 4 = .ok (.istore_n 1, 1) := by decide +kernel
theorem dX8_clear_5 : decode cX8_clear 5 = .ok (.aload_n 0, 1) := by decide +kernel
theorem dX8_clear_6 : decode cX8_clear 6 = .ok (.iconst 0, 1) := by decide +kernel
theorem dX8_clear_7 : decode cX8_clear 7 = .ok (.putfield 144, 3) := by decide +kernel
theorem dX8_clear_10 : decode cX8_clear 10 = .ok (.iload_n 1, 1) := by decide +kernel
theorem dX8_clear_11 : decode cX8_clear 11 = .ok (.ireturn, 1) := by decide +kernel
theorem dX8_here_0 : decode cX8_here 0 = .ok (.aload_n 0, 1) := by decide +kernel
theorem dX8_here_1 : decode cX8_here 1 = .ok (.getfield 147, 3) := by decide +kernel
theorem dX8_here_4 : decode cX8_here 4 = .ok (.aload_n 0, 1) := by decide +kernel
theorem dX8_here_5 : decode cX8_here 5 = .ok (.getfield 144, 3) := by decide +kernel
theorem dX8_here_8 : decode cX8_here 8 = .ok (.if_icmp .ge 15, 3) := by decide +kernel
theorem dX8_here_11 : decode cX8_here 11 = .ok (.aload_n 0, 1) := by decide +kernel
theorem dX8_here_12 : decode cX8_here 12 = .ok (.getfield 22, 3) := by decide +kernel
theorem dX8_here_15 : decode cX8_here 15 = .ok (.aload_n 0, 1) := by decide +kernel
theorem dX8_here_16 : decode cX8_here 16 = .ok (.getfield 147, 3) := by decide +kernel
theorem dX8_here_19 : decode cX8_here 19 = .ok (.iaload, 1) := by decide +kernel
theorem dX8_here_20 : decode cX8_here 20 = .ok (.goto 4, 3) := by decide +kernel
theorem dX8_here_23 : decode cX8_here 23 = .ok (.iconst 0, 1) := by decide +kernel
theorem dX8_here_24 : decode cX8_here 24 = .ok (.ireturn, 1) := by decide +kernel
theorem dX8_takes_0 : decode cX8_takes 0 = .ok (.aload_n 0, 1) := by decide +kernel
theorem dX8_takes_1 : decode cX8_takes 1 = .ok (.aload_n 0, 1) := by decide +kernel
theorem dX8_takes_2 : decode cX8_takes 2 = .ok (.getfield 150, 3) := by decide +kernel
theorem dX8_takes_5 : decode cX8_takes 5 = .ok (.ifCond .eq 11, 3) := by decide +kernel
theorem dX8_takes_8 : decode cX8_takes 8 = .ok (.iload_n 1, 1) := by decide +kernel
theorem dX8_takes_9 : decode cX8_takes 9 = .ok (.ifCond .eq 7, 3) := by decide +kernel
theorem dX8_takes_12 : decode cX8_takes 12 = .ok (.iconst 1, 1) := by decide +kernel
theorem dX8_takes_13 : decode cX8_takes 13 = .ok (.goto 4, 3) := by decide +kernel
theorem dX8_takes_16 : decode cX8_takes 16 = .ok (.iconst 0, 1) := by decide +kernel
theorem dX8_takes_17 : decode cX8_takes 17 = .ok (.putfield 150, 3) := by decide +kernel
theorem dX8_takes_20 : decode cX8_takes 20 = .ok (.aload_n 0, 1) := by decide +kernel
theorem dX8_takes_21 : decode cX8_takes 21 = .ok (.dup, 1) := by decide +kernel
theorem dX8_takes_22 : decode cX8_takes 22 = .ok (.getfield 147, 3) := by decide +kernel
theorem dX8_takes_25 : decode cX8_takes 25 = .ok (.aload_n 0, 1) := by decide +kernel
theorem dX8_takes_26 : decode cX8_takes 26 = .ok (.getfield 150, 3) := by decide +kernel
theorem dX8_takes_29 : decode cX8_takes 29 = .ok (.ifCond .eq 7, 3) := by decide +kernel
theorem dX8_takes_32 : decode cX8_takes 32 = .ok (.iconst 1, 1) := by decide +kernel
theorem dX8_takes_33 : decode cX8_takes 33 = .ok (.goto 4, 3) := by decide +kernel
theorem dX8_takes_36 : decode cX8_takes 36 = .ok (.iconst 0, 1) := by decide +kernel
theorem dX8_takes_37 : decode cX8_takes 37 = .ok (.iadd, 1) := by decide +kernel
theorem dX8_takes_38 : decode cX8_takes 38 = .ok (.putfield 147, 3) := by decide +kernel
theorem dX8_takes_41 : decode cX8_takes 41 = .ok (.return_, 1) := by decide +kernel
set_option maxRecDepth 20000 in
theorem ggX8_takesNumber_X8_here : GoodIn wsX8_takesNumber wsX8_here := goodIn_r _ [8, 3, 9, 10, 18, 19, 20, 21, 22, 23, 24, 25, 26, 27, 28, 29, 30, 31, 32, 33, 34, 35, 36, 37, 38] (by decide +kernel) (by decide +kernel)
set_option maxRecDepth 20000 in
theorem gX8_takesNumber_X8_here : GoodIn wsX8_takesNumber (wsV RX8 154 RX8 yX8_here wsX8_here) := goodIn_app (goodIn_of _ (by decide +kernel)) ggX8_takesNumber_X8_here
set_option maxRecDepth 20000 in
theorem ggX8_takesNumber_X8_in : GoodIn wsX8_takesNumber wsX8_in := goodIn_r _ [13] (by decide +kernel) (by decide +kernel)
set_option maxRecDepth 20000 in
theorem gX8_takesNumber_X8_in : GoodIn wsX8_takesNumber (va_wsS RX8 47 yX8_in wsX8_in) := goodIn_app (goodIn_of _ (by decide +kernel)) ggX8_takesNumber_X8_in
set_option maxRecDepth 20000 in
theorem ggX8_takesNumber_X8_takes : GoodIn wsX8_takesNumber wsX8_takes := goodIn_r _ [17, 2, 3, 18, 19, 20, 21, 22, 23, 24, 25, 26, 27, 28, 29, 30, 31, 32, 33, 34, 35, 36, 37, 38] (by decide +kernel) (by decide +kernel)
set_option maxRecDepth 20000 in
theorem gX8_takesNumber_X8_takes : GoodIn wsX8_takesNumber (wsV RX8 160 RX8 yX8_takes wsX8_takes) := goodIn_app (goodIn_of _ (by decide +kernel)) ggX8_takesNumber_X8_takes
theorem dX8_takesNumber_0 : decode cX8_takesNumber 0 = .ok (.aload_n 0, 1) := by decide +kernel
theorem dX8_takesNumber_1 : decode cX8_takesNumber 1 = .ok (.aload_n 0, 1) := by decide +kernel
theorem dX8_takesNumber_2 : decode cX8_takesNumber 2 = .ok (.invokevirtual 154, 3) := by decide +kernel
theorem dX8_takesNumber_5 : decode cX8_takesNumber 5 = .ok (.bipush 48, 2) := by decide +kernel
theorem dX8_takesNumber_7 : decode cX8_takesNumber 7 = .ok (.isub, 1) := by decide +kernel
theorem dX8_takesNumber_8 : decode cX8_takesNumber 8 = .ok (.putfield 157, 3) := by decide +kernel
theorem dX8_takesNumber_11 : decode cX8_takesNumber 11 = .ok (.aload_n 0, 1) := by decide +kernel
theorem dX8_takesNumber_12 : decode cX8_takesNumber 12 = .ok (.aload_n 0, 1) := by decide +kernel
theorem dX8_takesNumber_13 : decode cX8_takesNumber 13 = .ok (.invokevirtual 154, 3) := by decide +kernel
theorem dX8_takesNumber_16 : decode cX8_takesNumber 16 = .ok (.bipush 48, 2) := by decide +kernel
theorem dX8_takesNumber_18 : decode cX8_takesNumber 18 = .ok (.bipush 57, 2) := by decide +kernel
theorem dX8_takesNumber_20 : decode cX8_takesNumber 20 = .ok (.invokestatic 47, 3) := by decide +kernel
theorem dX8_takesNumber_23 : decode cX8_takesNumber 23 = .ok (.invokevirtual 160, 3) := by decide +kernel
theorem dX8_takesNumber_26 : decode cX8_takesNumber 26 = .ok (.aload_n 0, 1) := by decide +kernel
theorem dX8_takesNumber_27 : decode cX8_takesNumber 27 = .ok (.getfield 150, 3) := by decide +kernel
theorem dX8_takesNumber_30 : decode cX8_takesNumber 30 = .ok (.ifCond .eq 75, 3) := by decide +kernel
theorem dX8_takesNumber_33 : decode cX8_takesNumber 33 = .ok (.aload_n 0, 1) := by decide +kernel
theorem dX8_takesNumber_34 : decode cX8_takesNumber 34 = .ok (.getfield 157, 3) := by decide +kernel
theorem dX8_takesNumber_37 : decode cX8_takesNumber 37 = .ok (.ifCond .le 68, 3) := by decide +kernel
theorem dX8_takesNumber_40 : decode cX8_takesNumber 40 = .ok (.aload_n 0, 1) := by decide +kernel
theorem dX8_takesNumber_41 : decode cX8_takesNumber 41 = .ok (.invokevirtual 154, 3) := by decide +kernel
theorem dX8_takesNumber_44 : decode cX8_takesNumber 44 = .ok (.bipush 48, 2) := by decide +kernel
theorem dX8_takesNumber_46 : decode cX8_takesNumber 46 = .ok (.bipush 57, 2) := by decide +kernel
theorem dX8_takesNumber_48 : decode cX8_takesNumber 48 = .ok (.invokestatic 47, 3) := by decide +kernel
theorem dX8_takesNumber_51 : decode cX8_takesNumber 51 = .ok (.ifCond .eq 54, 3) := by decide +kernel
theorem dX8_takesNumber_54 : decode cX8_takesNumber 54 = .ok (.bipush 10, 2) := by decide +kernel
theorem dX8_takesNumber_56 : decode cX8_takesNumber 56 = .ok (.aload_n 0, 1) := by decide +kernel
theorem dX8_takesNumber_57 : decode cX8_takesNumber 57 = .ok (.getfield 157, 3) := by decide +kernel
theorem dX8_takesNumber_60 : decode cX8_takesNumber 60 = .ok (.imul, 1) := by decide +kernel
theorem dX8_takesNumber_61 : decode cX8_takesNumber 61 = .ok (.aload_n 0, 1) := by decide +kernel
theorem dX8_takesNumber_62 : decode cX8_takesNumber 62 = .ok (.invokevirtual 154, 3) := by decide +kernel
theorem dX8_takesNumber_65 : decode cX8_takesNumber 65 = .ok (.iadd, 1) := by decide +kernel
theorem dX8_takesNumber_66 : decode cX8_takesNumber 66 = .ok (.bipush 48, 2) := by decide +kernel
theorem dX8_takesNumber_68 : decode cX8_takesNumber 68 = .ok (.isub, 1) := by decide +kernel
theorem dX8_takesNumber_69 : decode cX8_takesNumber 69 = .ok (.iload_n 1, 1) := by decide +kernel
theorem dX8_takesNumber_70 : decode cX8_takesNumber 70 = .ok (.if_icmp .gt 35, 3) := by decide +kernel
theorem dX8_takesNumber_73 : decode cX8_takesNumber 73 = .ok (.aload_n 0, 1) := by decide +kernel
theorem dX8_takesNumber_74 : decode cX8_takesNumber 74 = .ok (.bipush 10, 2) := by decide +kernel
theorem dX8_takesNumber_76 : decode cX8_takesNumber 76 = .ok (.aload_n 0, 1) := by decide +kernel
theorem dX8_takesNumber_77 : decode cX8_takesNumber 77 = .ok (.getfield 157, 3) := by decide +kernel
theorem dX8_takesNumber_80 : decode cX8_takesNumber 80 = .ok (.imul, 1) := by decide +kernel
theorem dX8_takesNumber_81 : decode cX8_takesNumber 81 = .ok (.aload_n 0, 1) := by decide +kernel
theorem dX8_takesNumber_82 : decode cX8_takesNumber 82 = .ok (.invokevirtual 154, 3) := by decide +kernel
theorem dX8_takesNumber_85 : decode cX8_takesNumber 85 = .ok (.iadd, 1) := by decide +kernel
theorem dX8_takesNumber_86 : decode cX8_takesNumber 86 = .ok (.bipush 48, 2) := by decide +kernel
theorem dX8_takesNumber_88 : decode cX8_takesNumber 88 = .ok (.isub, 1) := by decide +kernel
theorem dX8_takesNumber_89 : decode cX8_takesNumber 89 = .ok (.putfield 157, 3) := by decide +kernel
theorem dX8_takesNumber_92 : decode cX8_takesNumber 92 = .ok (.aload_n 0, 1) := by decide +kernel
theorem dX8_takesNumber_93 : decode cX8_takesNumber 93 = .ok (.dup, 1) := by decide +kernel
theorem dX8_takesNumber_94 : decode cX8_takesNumber 94 = .ok (.getfield 147, 3) := by decide +kernel
theorem dX8_takesNumber_97 : decode cX8_takesNumber 97 = .ok (.iconst 1, 1) := by decide +kernel
theorem dX8_takesNumber_98 : decode cX8_takesNumber 98 = .ok (.iadd, 1) := by decide +kernel
theorem dX8_takesNumber_99 : decode cX8_takesNumber 99 = .ok (.putfield 147, 3) := by decide +kernel
theorem dX8_takesNumber_102 : decode cX8_takesNumber 102 = .ok (.goto (-76), 3) := by decide +kernel
theorem dX8_takesNumber_105 : decode cX8_takesNumber 105 = .ok (.return_, 1) := by decide +kernel
set_option maxRecDepth 20000 in
theorem ggX8_takesDeed_X8_here : GoodIn wsX8_takesDeed wsX8_here := goodIn_r _ [6, 7, 8, 9, 23, 24, 25, 26, 27, 28, 29, 30, 31, 32, 33, 34, 35, 36, 37, 38, 39, 40, 41, 42, 43] (by decide +kernel) (by decide +kernel)
set_option maxRecDepth 20000 in
theorem gX8_takesDeed_X8_here : GoodIn wsX8_takesDeed (wsV RX8 154 RX8 yX8_here wsX8_here) := goodIn_app (goodIn_of _ (by decide +kernel)) ggX8_takesDeed_X8_here
set_option maxRecDepth 20000 in
theorem ggX8_takesDeed_X8_takes : GoodIn wsX8_takesDeed wsX8_takes := goodIn_r _ [13, 14, 7, 23, 24, 25, 26, 27, 28, 29, 30, 31, 32, 33, 34, 35, 36, 37, 38, 39, 40, 41, 42, 43] (by decide +kernel) (by decide +kernel)
set_option maxRecDepth 20000 in
theorem gX8_takesDeed_X8_takes : GoodIn wsX8_takesDeed (wsV RX8 160 RX8 yX8_takes wsX8_takes) := goodIn_app (goodIn_of _ (by decide +kernel)) ggX8_takesDeed_X8_takes
set_option maxRecDepth 20000 in
theorem ggX8_takesDeed_X8_takesNumber : GoodIn wsX8_takesDeed wsX8_takesNumber := goodIn_r _ [18, 19, 14, 7, 2, 3, 4, 5, 6, 8, 9, 20, 21, 22, 10, 11, 12, 13, 23, 24, 25, 26, 27, 28, 29, 30, 31, 32, 33, 34, 35, 36, 37, 38, 39, 40, 41, 42, 43] (by decide +kernel) (by decide +kernel)
set_option maxRecDepth 20000 in
theorem gX8_takesDeed_X8_takesNumber : GoodIn wsX8_takesDeed (wsV RX8 167 RX8 yX8_takesNumber wsX8_takesNumber) := goodIn_app (goodIn_of _ (by decide +kernel)) ggX8_takesDeed_X8_takesNumber
theorem dX8_takesDeed_0 : decode cX8_takesDeed 0 = .ok (.aload_n 0, 1) := by decide +kernel
theorem dX8_takesDeed_1 : decode cX8_takesDeed 1 = .ok (.aload_n 0, 1) := by decide +kernel
theorem dX8_takesDeed_2 : decode cX8_takesDeed 2 = .ok (.invokevirtual 154, 3) := by decide +kernel
theorem dX8_takesDeed_5 : decode cX8_takesDeed 5 = .ok (.putfield 164, 3) := by decide +kernel
theorem dX8_takesDeed_8 : decode cX8_takesDeed 8 = .ok (.aload_n 0, 1) := by decide +kernel
theorem dX8_takesDeed_9 : decode cX8_takesDeed 9 = .ok (.aload_n 0, 1) := by decide +kernel
theorem dX8_takesDeed_10 : decode cX8_takesDeed 10 = .ok (.getfield 164, 3) := by decide +kernel
theorem dX8_takesDeed_13 : decode cX8_takesDeed 13 = .ok (.bipush 103, 2) := by decide +kernel
theorem dX8_takesDeed_15 : decode cX8_takesDeed 15 = .ok (.if_icmp .eq 21, 3) := by decide +kernel
theorem dX8_takesDeed_18 : decode cX8_takesDeed 18 = .ok (.aload_n 0, 1) := by decide +kernel
theorem dX8_takesDeed_19 : decode cX8_takesDeed 19 = .ok (.getfield 164, 3) := by decide +kernel
theorem dX8_takesDeed_22 : decode cX8_takesDeed 22 = .ok (.bipush 98, 2) := by decide +kernel
theorem dX8_takesDeed_24 : decode cX8_takesDeed 24 = .ok (.if_icmp .eq 12, 3) := by decide +kernel
theorem dX8_takesDeed_27 : decode cX8_takesDeed 27 = .ok (.aload_n 0, 1) := by decide +kernel
theorem dX8_takesDeed_28 : decode cX8_takesDeed 28 = .ok (.getfield 164, 3) := by decide +kernel
theorem dX8_takesDeed_31 : decode cX8_takesDeed 31 = .ok (.bipush 119, 2) := by decide +kernel
theorem dX8_takesDeed_33 : decode cX8_takesDeed 33 = .ok (.if_icmp .ne 7, 3) := by decide +kernel
theorem dX8_takesDeed_36 : decode cX8_takesDeed 36 = .ok (.iconst 1, 1) := by decide +kernel
theorem dX8_takesDeed_37 : decode cX8_takesDeed 37 = .ok (.goto 4, 3) := by decide +kernel
theorem dX8_takesDeed_40 : decode cX8_takesDeed 40 = .ok (.iconst 0, 1) := by decide +kernel
theorem dX8_takesDeed_41 : decode cX8_takesDeed 41 = .ok (.invokevirtual 160, 3) := by decide +kernel
theorem dX8_takesDeed_44 : decode cX8_takesDeed 44 = .ok (.aload_n 0, 1) := by decide +kernel
theorem dX8_takesDeed_45 : decode cX8_takesDeed 45 = .ok (.getfield 164, 3) := by decide +kernel
theorem dX8_takesDeed_48 : decode cX8_takesDeed 48 = .ok (.bipush 119, 2) := by decide +kernel
theorem dX8_takesDeed_50 : decode cX8_takesDeed 50 = .ok (.if_icmp .eq 23, 3) := by decide +kernel
theorem dX8_takesDeed_53 : decode cX8_takesDeed 53 = .ok (.aload_n 0, 1) := by decide +kernel
theorem dX8_takesDeed_54 : decode cX8_takesDeed 54 = .ok (.aload_n 0, 1) := by decide +kernel
theorem dX8_takesDeed_55 : decode cX8_takesDeed 55 = .ok (.getfield 164, 3) := by decide +kernel
theorem dX8_takesDeed_58 : decode cX8_takesDeed 58 = .ok (.bipush 103, 2) := by decide +kernel
theorem dX8_takesDeed_60 : decode cX8_takesDeed 60 = .ok (.if_icmp .ne 8, 3) := by decide +kernel
theorem dX8_takesDeed_63 : decode cX8_takesDeed 63 = .ok (.bipush 39, 2) := by decide +kernel
theorem dX8_takesDeed_65 : decode cX8_takesDeed 65 = .ok (.goto 5, 3) := by decide +kernel
theorem dX8_takesDeed_68 : decode cX8_takesDeed 68 = .ok (.bipush 120, 2) := by decide +kernel
theorem dX8_takesDeed_70 : decode cX8_takesDeed 70 = .ok (.invokevirtual 167, 3) := by decide +kernel
theorem dX8_takesDeed_73 : decode cX8_takesDeed 73 = .ok (.return_, 1) := by decide +kernel
set_option maxRecDepth 20000 in
theorem ggX8_isText_X8_takesDeed : GoodIn wsX8_isText wsX8_takesDeed := goodIn_r _ [8, 9, 10, 11, 12, 7, 13, 1, 3, 14, 15, 16, 17, 18, 2, 19, 20, 21, 22, 23, 24, 25, 26, 27, 28, 29, 30, 31, 32, 33, 34, 35, 36, 37, 38, 39, 40, 41, 42, 43, 44, 45, 46, 47] (by decide +kernel) (by decide +kernel)
set_option maxRecDepth 20000 in
theorem gX8_isText_X8_takesDeed : GoodIn wsX8_isText (wsV RX8 170 RX8 yX8_takesDeed wsX8_takesDeed) := goodIn_app (goodIn_of _ (by decide +kernel)) ggX8_isText_X8_takesDeed
set_option maxRecDepth 20000 in
theorem ggX8_isText_X8_here : GoodIn wsX8_isText wsX8_here := goodIn_r _ [13, 1, 3, 14, 27, 28, 29, 30, 31, 32, 33, 34, 35, 36, 37, 38, 39, 40, 41, 42, 43, 44, 45, 46, 47] (by decide +kernel) (by decide +kernel)
set_option maxRecDepth 20000 in
theorem gX8_isText_X8_here : GoodIn wsX8_isText (wsV RX8 154 RX8 yX8_here wsX8_here) := goodIn_app (goodIn_of _ (by decide +kernel)) ggX8_isText_X8_here
set_option maxRecDepth 20000 in
theorem ggX8_isText_X8_takes : GoodIn wsX8_isText wsX8_takes := goodIn_r _ [18, 2, 1, 27, 28, 29, 30, 31, 32, 33, 34, 35, 36, 37, 38, 39, 40, 41, 42, 43, 44, 45, 46, 47] (by decide +kernel) (by decide +kernel)
set_option maxRecDepth 20000 in
theorem gX8_isText_X8_takes : GoodIn wsX8_isText (wsV RX8 160 RX8 yX8_takes wsX8_takes) := goodIn_app (goodIn_of _ (by decide +kernel)) ggX8_isText_X8_takes
theorem dX8_isText_0 : decode cX8_isText 0 = .ok (.aload_n 0, 1) := by decide +kernel
theorem dX8_isText_1 : decode cX8_isText 1 = .ok (.iconst 0, 1) := by decide +kernel
theorem dX8_isText_2 : decode cX8_isText 2 = .ok (.putfield 147, 3) := by decide +kernel
theorem dX8_isText_5 : decode cX8_isText 5 = .ok (.aload_n 0, 1) := by decide +kernel
theorem dX8_isText_6 : decode cX8_isText 6 = .ok (.iconst 1, 1) := by decide +kernel
theorem dX8_isText_7 : decode cX8_isText 7 = .ok (.putfield 150, 3) := by decide +kernel
theorem dX8_isText_10 : decode cX8_isText 10 = .ok (.aload_n 0, 1) := by decide +kernel
theorem dX8_isText_11 : decode cX8_isText 11 = .ok (.invokevirtual 170, 3) := by decide +kernel
theorem dX8_isText_14 : decode cX8_isText 14 = .ok (.aload_n 0, 1) := by decide +kernel
theorem dX8_isText_15 : decode cX8_isText 15 = .ok (.getfield 150, 3) := by decide +kernel
theorem dX8_isText_18 : decode cX8_isText 18 = .ok (.ifCond .eq 46, 3) := by decide +kernel
theorem dX8_isText_21 : decode cX8_isText 21 = .ok (.aload_n 0, 1) := by decide +kernel
theorem dX8_isText_22 : decode cX8_isText 22 = .ok (.getfield 147, 3) := by decide +kernel
theorem dX8_isText_25 : decode cX8_isText 25 = .ok (.aload_n 0, 1) := by decide +kernel
theorem dX8_isText_26 : decode cX8_isText 26 = .ok (.getfield 144, 3) := by decide +kernel
theorem dX8_isText_29 : decode cX8_isText 29 = .ok (.if_icmp .ge 35, 3) := by decide +kernel
theorem dX8_isText_32 : decode cX8_isText 32 = .ok (.aload_n 0, 1) := by decide +kernel
theorem dX8_isText_33 : decode cX8_isText 33 = .ok (.aload_n 0, 1) := by decide +kernel
theorem dX8_isText_34 : decode cX8_isText 34 = .ok (.invokevirtual 154, 3) := by decide +kernel
theorem dX8_isText_37 : decode cX8_isText 37 = .ok (.bipush 59, 2) := by decide +kernel
theorem dX8_isText_39 : decode cX8_isText 39 = .ok (.if_icmp .ne 7, 3) := by decide +kernel
theorem dX8_isText_42 : decode cX8_isText 42 = .ok (.iconst 1, 1) := by decide +kernel
theorem dX8_isText_43 : decode cX8_isText 43 = .ok (.goto 4, 3) := by decide +kernel
theorem dX8_isText_46 : decode cX8_isText 46 = .ok (.iconst 0, 1) := by decide +kernel
theorem dX8_isText_47 : decode cX8_isText 47 = .ok (.invokevirtual 160, 3) := by decide +kernel
theorem dX8_isText_50 : decode cX8_isText 50 = .ok (.aload_n 0, 1) := by decide +kernel
theorem dX8_isText_51 : decode cX8_isText 51 = .ok (.getfield 150, 3) := by decide +kernel
theorem dX8_isText_54 : decode cX8_isText 54 = .ok (.ifCond .eq (-40), 3) := by decide +kernel
theorem dX8_isText_57 : decode cX8_isText 57 = .ok (.aload_n 0, 1) := by decide +kernel
theorem dX8_isText_58 : decode cX8_isText 58 = .ok (.invokevirtual 170, 3) := by decide +kernel
theorem dX8_isText_61 : decode cX8_isText 61 = .ok (.goto (-47), 3) := by decide +kernel
theorem dX8_isText_64 : decode cX8_isText 64 = .ok (.aload_n 0, 1) := by decide +kernel
theorem dX8_isText_65 : decode cX8_isText 65 = .ok (.getfield 150, 3) := by decide +kernel
theorem dX8_isText_68 : decode cX8_isText 68 = .ok (.ireturn, 1) := by decide +kernel
set_option maxRecDepth 20000 in
theorem ggX8_fault_X8_isText : GoodIn wsX8_fault wsX8_isText := goodIn_r _ [6, 1, 7, 8, 9, 10, 11, 5, 12, 13, 14, 15, 16, 17, 18, 19, 20, 21, 22, 23, 24, 25, 26, 27, 28, 29, 30, 31, 32, 33, 34, 35, 36, 37, 38, 39, 40, 41, 42, 43, 44, 45, 46, 47, 48, 49, 50, 51] (by decide +kernel) (by decide +kernel)
set_option maxRecDepth 20000 in
theorem gX8_fault_X8_isText : GoodIn wsX8_fault (wsV RX8 173 RX8 yX8_isText wsX8_isText) := goodIn_app (goodIn_of _ (by decide +kernel)) ggX8_fault_X8_isText
theorem dX8_fault_0 : decode cX8_fault 0 = .ok (.aload_n 0, 1) := by decide +kernel
theorem dX8_fault_1 : decode cX8_fault 1 = .ok (.invokevirtual 173, 3) := by decide +kernel
theorem dX8_fault_4 : decode cX8_fault 4 = .ok (.ifCond .eq 8, 3) := by decide +kernel
theorem dX8_fault_7 : decode cX8_fault 7 = .ok (.bipush (-4), 2) := by decide +kernel
theorem dX8_fault_9 : decode cX8_fault 9 = .ok (.goto 7, 3) := by decide +kernel
theorem dX8_fault_12 : decode cX8_fault 12 = .ok (.aload_n 0, 1) := by decide +kernel
theorem dX8_fault_13 : decode cX8_fault 13 = .ok (.getfield 147, 3) := by decide +kernel
theorem dX8_fault_16 : decode cX8_fault 16 = .ok (.ireturn, 1) := by decide +kernel
set_option maxRecDepth 20000 in
theorem ggX8_doesDeed_X8_errorGo : GoodIn wsX8_doesDeed wsX8_errorGo := goodIn_r _ [7, 8, 9, 6, 10, 11, 12, 13, 14, 15, 16, 17, 18, 19, 20, 21, 22, 23, 24, 25, 26, 27, 28, 29, 90, 91, 92, 93, 94, 95, 96, 97, 98, 99, 100, 101, 102, 103, 104, 105, 106, 107, 108, 109, 110] (by decide +kernel) (by decide +kernel)
set_option maxRecDepth 20000 in
theorem gX8_doesDeed_X8_errorGo : GoodIn wsX8_doesDeed (wsV RX8 123 RX8 yX8_errorGo wsX8_errorGo) := goodIn_app (goodIn_of _ (by decide +kernel)) ggX8_doesDeed_X8_errorGo
set_option maxRecDepth 20000 in
theorem ggX8_doesDeed_X8_errorBreak : GoodIn wsX8_doesDeed wsX8_errorBreak := goodIn_r _ [33, 34, 35, 36, 6, 37, 25, 11, 12, 13, 38, 39, 40, 41, 26, 27, 28, 29, 90, 91, 92, 93, 94, 95, 96, 97, 98, 99, 100, 101, 102, 103, 104, 105, 106, 107, 108, 109, 110] (by decide +kernel) (by decide +kernel)
set_option maxRecDepth 20000 in
theorem gX8_doesDeed_X8_errorBreak : GoodIn wsX8_doesDeed (wsV RX8 129 RX8 yX8_errorBreak wsX8_errorBreak) := goodIn_app (goodIn_of _ (by decide +kernel)) ggX8_doesDeed_X8_errorBreak
set_option maxRecDepth 20000 in
theorem ggX8_doesDeed_X8_goGrain : GoodIn wsX8_doesDeed wsX8_goGrain := goodIn_r _ [45, 25, 46, 47, 18, 19, 6, 20, 48, 49, 50, 51, 52, 53, 54, 55, 56, 57, 58, 59, 11, 12, 13, 21, 22, 23, 24, 26, 27, 28, 29, 60, 61, 62, 63, 64, 65, 66, 67, 68, 69, 70, 71, 90, 91, 92, 93, 94, 95, 96, 97, 98, 99, 100, 101, 102, 103, 104, 105, 106, 107, 108, 109, 110] (by decide +kernel) (by decide +kernel)
set_option maxRecDepth 20000 in
theorem gX8_doesDeed_X8_goGrain : GoodIn wsX8_doesDeed (wsV RX8 102 RX8 yX8_goGrain wsX8_goGrain) := goodIn_app (goodIn_of _ (by decide +kernel)) ggX8_doesDeed_X8_goGrain
set_option maxRecDepth 20000 in
theorem ggX8_doesDeed_X8_goBreak : GoodIn wsX8_doesDeed wsX8_goBreak := goodIn_r _ [75, 25, 76, 38, 39, 40, 6, 41, 26, 27, 28, 29, 77, 78, 79, 80, 81, 68, 69, 70, 71, 90, 91, 92, 93, 94, 95, 96, 97, 98, 99, 100, 101, 102, 103, 104, 105, 106, 107, 108, 109, 110] (by decide +kernel) (by decide +kernel)
set_option maxRecDepth 20000 in
theorem gX8_doesDeed_X8_goBreak : GoodIn wsX8_doesDeed (wsV RX8 132 RX8 yX8_goBreak wsX8_goBreak) := goodIn_app (goodIn_of _ (by decide +kernel)) ggX8_doesDeed_X8_goBreak
set_option maxRecDepth 20000 in
theorem ggX8_doesDeed_X8_goWash : GoodIn wsX8_doesDeed wsX8_goWash := goodIn_r _ [85, 25, 76, 38, 39, 40, 6, 41, 26, 27, 28, 29, 86, 87, 88, 89, 77, 78, 79, 80, 81, 68, 69, 70, 71, 90, 91, 92, 93, 94, 95, 96, 97, 98, 99, 100, 101, 102, 103, 104, 105, 106, 107, 108, 109, 110] (by decide +kernel) (by decide +kernel)
set_option maxRecDepth 20000 in
theorem gX8_doesDeed_X8_goWash : GoodIn wsX8_doesDeed (wsV RX8 135 RX8 yX8_goWash wsX8_goWash) := goodIn_app (goodIn_of _ (by decide +kernel)) ggX8_doesDeed_X8_goWash
theorem dX8_doesDeed_0 : decode cX8_doesDeed 0 = .ok (.aload_n 0, 1) := by decide +kernel
theorem dX8_doesDeed_1 : decode cX8_doesDeed 1 = .ok (.getfield 164, 3) := by decide +kernel
theorem dX8_doesDeed_4 : decode cX8_doesDeed 4 = .ok (.bipush 103, 2) := by decide +kernel
theorem dX8_doesDeed_6 : decode cX8_doesDeed 6 = .ok (.if_icmp .ne 14, 3) := by decide +kernel
theorem dX8_doesDeed_9 : decode cX8_doesDeed 9 = .ok (.aload_n 0, 1) := by decide +kernel
theorem dX8_doesDeed_10 : decode cX8_doesDeed 10 = .ok (.aload_n 0, 1) := by decide +kernel
theorem dX8_doesDeed_11 : decode cX8_doesDeed 11 = .ok (.getfield 157, 3) := by decide +kernel
theorem dX8_doesDeed_14 : decode cX8_doesDeed 14 = .ok (.invokevirtual 123, 3) := by decide +kernel
theorem dX8_doesDeed_17 : decode cX8_doesDeed 17 = .ok (.goto 24, 3) := by decide +kernel
theorem dX8_doesDeed_20 : decode cX8_doesDeed 20 = .ok (.aload_n 0, 1) := by decide +kernel
theorem dX8_doesDeed_21 : decode cX8_doesDeed 21 = .ok (.getfield 164, 3) := by decide +kernel
theorem dX8_doesDeed_24 : decode cX8_doesDeed 24 = .ok (.bipush 98, 2) := by decide +kernel
theorem dX8_doesDeed_26 : decode cX8_doesDeed 26 = .ok (.if_icmp .ne 14, 3) := by decide +kernel
theorem dX8_doesDeed_29 : decode cX8_doesDeed 29 = .ok (.aload_n 0, 1) := by decide +kernel
theorem dX8_doesDeed_30 : decode cX8_doesDeed 30 = .ok (.aload_n 0, 1) := by decide +kernel
theorem dX8_doesDeed_31 : decode cX8_doesDeed 31 = .ok (.getfield 157, 3) := by decide +kernel
theorem dX8_doesDeed_34 : decode cX8_doesDeed 34 = .ok (.invokevirtual 129, 3) := by decide +kernel
theorem dX8_doesDeed_37 : decode cX8_doesDeed 37 = .ok (.goto 4, 3) := by decide +kernel
theorem dX8_doesDeed_40 : decode cX8_doesDeed 40 = .ok (.iconst 0, 1) := by decide +kernel
theorem dX8_doesDeed_41 : decode cX8_doesDeed 41 = .ok (.istore_n 1, 1) := by decide +kernel
theorem dX8_doesDeed_42 : decode cX8_doesDeed 42 = .ok (.iload_n 1, 1) := by decide +kernel
theorem dX8_doesDeed_43 : decode cX8_doesDeed 43 = .ok (.ifCond .ge 5, 3) := by decide +kernel
theorem dX8_doesDeed_46 : decode cX8_doesDeed 46 = .ok (.iload_n 1, 1) := by decide +kernel
theorem dX8_doesDeed_47 : decode cX8_doesDeed 47 = .ok (.ireturn, 1) := by decide +kernel
theorem dX8_doesDeed_48 : decode cX8_doesDeed 48 = .ok (.aload_n 0, 1) := by decide +kernel
theorem dX8_doesDeed_49 : decode cX8_doesDeed 49 = .ok (.getfield 164, 3) := by decide +kernel
theorem dX8_doesDeed_52 : decode cX8_doesDeed 52 = .ok (.bipush 103, 2) := by decide +kernel
theorem dX8_doesDeed_54 : decode cX8_doesDeed 54 = .ok (.if_icmp .ne 14, 3) := by decide +kernel
theorem dX8_doesDeed_57 : decode cX8_doesDeed 57 = .ok (.aload_n 0, 1) := by decide +kernel
theorem dX8_doesDeed_58 : decode cX8_doesDeed 58 = .ok (.aload_n 0, 1) := by decide +kernel
theorem dX8_doesDeed_59 : decode cX8_doesDeed 59 = .ok (.getfield 157, 3) := by decide +kernel
theorem dX8_doesDeed_62 : decode cX8_doesDeed 62 = .ok (.invokevirtual 102, 3) := by decide +kernel
theorem dX8_doesDeed_65 : decode cX8_doesDeed 65 = .ok (.goto 27, 3) := by decide +kernel
theorem dX8_doesDeed_68 : decode cX8_doesDeed 68 = .ok (.aload_n 0, 1) := by decide +kernel
theorem dX8_doesDeed_69 : decode cX8_doesDeed 69 = .ok (.getfield 164, 3) := by decide +kernel
theorem dX8_doesDeed_72 : decode cX8_doesDeed 72 = .ok (.bipush 98, 2) := by decide +kernel
theorem dX8_doesDeed_74 : decode cX8_doesDeed 74 = .ok (.if_icmp .ne 14, 3) := by decide +kernel
theorem dX8_doesDeed_77 : decode cX8_doesDeed 77 = .ok (.aload_n 0, 1) := by decide +kernel
theorem dX8_doesDeed_78 : decode cX8_doesDeed 78 = .ok (.aload_n 0, 1) := by decide +kernel
theorem dX8_doesDeed_79 : decode cX8_doesDeed 79 = .ok (.getfield 157, 3) := by decide +kernel
theorem dX8_doesDeed_82 : decode cX8_doesDeed 82 = .ok (.invokevirtual 132, 3) := by decide +kernel
theorem dX8_doesDeed_85 : decode cX8_doesDeed 85 = .ok (.goto 7, 3) := by decide +kernel
theorem dX8_doesDeed_88 : decode cX8_doesDeed 88 = .ok (.aload_n 0, 1) := by decide +kernel
theorem dX8_doesDeed_89 : decode cX8_doesDeed 89 = .ok (.invokevirtual 135, 3) := by decide +kernel
theorem dX8_doesDeed_92 : decode cX8_doesDeed 92 = .ok (.istore_n 2, 1) := by decide +kernel
theorem dX8_doesDeed_93 : decode cX8_doesDeed 93 = .ok (.iconst 0, 1) := by decide +kernel
theorem dX8_doesDeed_94 : decode cX8_doesDeed 94 = .ok (.ireturn, 1) := by decide +kernel
set_option maxRecDepth 20000 in
theorem ggX8_carryOut_X8_isText : GoodIn wsX8_carryOut wsX8_isText := goodIn_r _ [10, 1, 11, 3, 12, 13, 14, 9, 15, 16, 17, 18, 19, 20, 21, 22, 23, 24, 25, 26, 27, 28, 29, 30, 31, 32, 33, 130, 131, 132, 133, 134, 135, 136, 137, 138, 139, 140, 141, 142, 143, 144, 145, 146, 147, 148, 149, 150] (by decide +kernel) (by decide +kernel)
set_option maxRecDepth 20000 in
theorem gX8_carryOut_X8_isText : GoodIn wsX8_carryOut (wsV RX8 173 RX8 yX8_isText wsX8_isText) := goodIn_app (goodIn_of _ (by decide +kernel)) ggX8_carryOut_X8_isText
set_option maxRecDepth 20000 in
theorem ggX8_carryOut_X8_records : GoodIn wsX8_carryOut wsX8_records := goodIn_r _ [37, 38, 39, 40, 41, 42, 9, 43, 130, 131, 132, 133, 134, 135, 136, 137, 138, 139, 140, 141, 142, 143, 144, 145, 146, 147, 148, 149, 150] (by decide +kernel) (by decide +kernel)
set_option maxRecDepth 20000 in
theorem gX8_carryOut_X8_records : GoodIn wsX8_carryOut (wsV RX8 120 RX8 yX8_records wsX8_records) := goodIn_app (goodIn_of _ (by decide +kernel)) ggX8_carryOut_X8_records
set_option maxRecDepth 20000 in
theorem ggX8_carryOut_X8_takesDeed : GoodIn wsX8_carryOut wsX8_takesDeed := goodIn_r _ [15, 16, 17, 18, 19, 9, 20, 1, 3, 21, 22, 23, 24, 25, 11, 26, 27, 28, 29, 30, 31, 32, 33, 130, 131, 132, 133, 134, 135, 136, 137, 138, 139, 140, 141, 142, 143, 144, 145, 146, 147, 148, 149, 150] (by decide +kernel) (by decide +kernel)
set_option maxRecDepth 20000 in
theorem gX8_carryOut_X8_takesDeed : GoodIn wsX8_carryOut (wsV RX8 170 RX8 yX8_takesDeed wsX8_takesDeed) := goodIn_app (goodIn_of _ (by decide +kernel)) ggX8_carryOut_X8_takesDeed
set_option maxRecDepth 20000 in
theorem ggX8_carryOut_X8_doesDeed : GoodIn wsX8_carryOut wsX8_doesDeed := goodIn_r _ [47, 16, 30, 48, 49, 50, 9, 51, 52, 53, 54, 31, 32, 33, 55, 56, 57, 58, 59, 60, 61, 62, 63, 64, 65, 40, 66, 67, 68, 69, 70, 71, 72, 73, 74, 75, 76, 77, 78, 79, 80, 81, 82, 83, 84, 85, 86, 87, 88, 89, 90, 91, 92, 93, 94, 95, 96, 97, 98, 99, 100, 101, 102, 103, 104, 105, 106, 107, 108, 109, 110, 111, 112, 113, 114, 115, 116, 117, 118, 119, 120, 121, 122, 123, 124, 125, 126, 127, 128, 129, 130, 131, 132, 133, 134, 135, 136, 137, 138, 139, 140, 141, 142, 143, 144, 145, 146, 147, 148, 149, 150] (by decide +kernel) (by decide +kernel)
set_option maxRecDepth 20000 in
theorem gX8_carryOut_X8_doesDeed : GoodIn wsX8_carryOut (wsV RX8 185 RX8 yX8_doesDeed wsX8_doesDeed) := goodIn_app (goodIn_of _ (by decide +kernel)) ggX8_carryOut_X8_doesDeed
theorem dX8_carryOut_0 : decode cX8_carryOut 0 = .ok (.aload_n 0, 1) := by decide +kernel
theorem dX8_carryOut_1 : decode cX8_carryOut 1 = .ok (.invokevirtual 173, 3) := by decide +kernel
theorem dX8_carryOut_4 : decode cX8_carryOut 4 = .ok (.ifCond .ne 6, 3) := by decide +kernel
theorem dX8_carryOut_7 : decode cX8_carryOut 7 = .ok (.bipush (-2), 2) := by decide +kernel
theorem dX8_carryOut_9 : decode cX8_carryOut 9 = .ok (.ireturn, 1) := by decide +kernel
theorem dX8_carryOut_10 : decode cX8_carryOut 10 = .ok (.aload_n 0, 1) := by decide +kernel
theorem dX8_carryOut_11 : decode cX8_carryOut 11 = .ok (.invokevirtual 120, 3) := by decide +kernel
theorem dX8_carryOut_14 : decode cX8_carryOut 14 = .ok (.aload_n 0, 1) := by decide +kernel
theorem dX8_carryOut_15 : decode cX8_carryOut 15 = .ok (.iconst 0, 1) := by decide +kernel
theorem dX8_carryOut_16 : decode cX8_carryOut 16 = .ok (.putfield 147, 3) := by decide +kernel
theorem dX8_carryOut_19 : decode cX8_carryOut 19 = .ok (.aload_n 0, 1) := by decide +kernel
theorem dX8_carryOut_20 : decode cX8_carryOut 20 = .ok (.iconst 0, 1) := by decide +kernel
theorem dX8_carryOut_21 : decode cX8_carryOut 21 = .ok (.putfield 176, 3) := by decide +kernel
theorem dX8_carryOut_24 : decode cX8_carryOut 24 = .ok (.iconst 0, 1) := by decide +kernel
theorem dX8_carryOut_25 : decode cX8_carryOut 25 = .ok (.istore_n 1, 1) := by decide +kernel
theorem dX8_carryOut_26 : decode cX8_carryOut 26 = .ok (.aload_n 0, 1) := by decide +kernel
theorem dX8_carryOut_27 : decode cX8_carryOut 27 = .ok (.getfield 176, 3) := by decide +kernel
theorem dX8_carryOut_30 : decode cX8_carryOut 30 = .ok (.ifCond .ne 67, 3) := by decide +kernel
theorem dX8_carryOut_33 : decode cX8_carryOut 33 = .ok (.aload_n 0, 1) := by decide +kernel
theorem dX8_carryOut_34 : decode cX8_carryOut 34 = .ok (.getfield 147, 3) := by decide +kernel
theorem dX8_carryOut_37 : decode cX8_carryOut 37 = .ok (.aload_n 0, 1) := by decide +kernel
theorem dX8_carryOut_38 : decode cX8_carryOut 38 = .ok (.getfield 144, 3) := by decide +kernel
theorem dX8_carryOut_41 : decode cX8_carryOut 41 = .ok (.if_icmp .ge 56, 3) := by decide +kernel
theorem dX8_carryOut_44 : decode cX8_carryOut 44 = .ok (.aload_n 0, 1) := by decide +kernel
theorem dX8_carryOut_45 : decode cX8_carryOut 45 = .ok (.aload_n 0, 1) := by decide +kernel
theorem dX8_carryOut_46 : decode cX8_carryOut 46 = .ok (.getfield 147, 3) := by decide +kernel
theorem dX8_carryOut_49 : decode cX8_carryOut 49 = .ok (.putfield 179, 3) := by decide +kernel
theorem dX8_carryOut_52 : decode cX8_carryOut 52 = .ok (.aload_n 0, 1) := by decide +kernel
theorem dX8_carryOut_53 : decode cX8_carryOut 53 = .ok (.iload_n 1, 1) := by decide +kernel
theorem dX8_carryOut_54 : decode cX8_carryOut 54 = .ok (.putfield 182, 3) := by decide +kernel
theorem dX8_carryOut_57 : decode cX8_carryOut 57 = .ok (.aload_n 0, 1) := by decide +kernel
theorem dX8_carryOut_58 : decode cX8_carryOut 58 = .ok (.invokevirtual 170, 3) := by decide +kernel
theorem dX8_carryOut_61 : decode cX8_carryOut 61 = .ok (.aload_n 0, 1) := by decide +kernel
theorem dX8_carryOut_62 : decode cX8_carryOut 62 = .ok (.dup, 1) := by decide +kernel
theorem dX8_carryOut_63 : decode cX8_carryOut 63 = .ok (.getfield 147, 3) := by decide +kernel
theorem dX8_carryOut_66 : decode cX8_carryOut 66 = .ok (.iconst 1, 1) := by decide +kernel
theorem dX8_carryOut_67 : decode cX8_carryOut 67 = .ok (.iadd, 1) := by decide +kernel
theorem dX8_carryOut_68 : decode cX8_carryOut 68 = .ok (.putfield 147, 3) := by decide +kernel
theorem dX8_carryOut_71 : decode cX8_carryOut 71 = .ok (.aload_n 0, 1) := by decide +kernel
theorem dX8_carryOut_72 : decode cX8_carryOut 72 = .ok (.aload_n 0, 1) := by decide +kernel
theorem dX8_carryOut_73 : decode cX8_carryOut 73 = .ok (.invokevirtual 185, 3) := by decide +kernel
theorem dX8_carryOut_76 : decode cX8_carryOut 76 = .ok (.putfield 176, 3) := by decide +kernel
theorem dX8_carryOut_79 : decode cX8_carryOut 79 = .ok (.iload_n 1, 1) := by decide +kernel
theorem dX8_carryOut_80 : decode cX8_carryOut 80 = .ok (.aload_n 0, 1) := by decide +kernel
theorem dX8_carryOut_81 : decode cX8_carryOut 81 = .ok (.getfield 176, 3) := by decide +kernel
theorem dX8_carryOut_84 : decode cX8_carryOut 84 = .ok (.ifCond .ne 7, 3) := by decide +kernel
theorem dX8_carryOut_87 : decode cX8_carryOut 87 = .ok (.iconst 1, 1) := by decide +kernel
theorem dX8_carryOut_88 : decode cX8_carryOut 88 = .ok (.goto 4, 3) := by decide +kernel
theorem dX8_carryOut_91 : decode cX8_carryOut 91 = .ok (.iconst 0, 1) := by decide +kernel
theorem dX8_carryOut_92 : decode cX8_carryOut 92 = .ok (.iadd, 1) := by decide +kernel
theorem dX8_carryOut_93 : decode cX8_carryOut 93 = .ok (.istore_n 1, 1) := by decide +kernel
theorem dX8_carryOut_94 : decode cX8_carryOut 94 = .ok (.goto (-68), 3) := by decide +kernel
theorem dX8_carryOut_97 : decode cX8_carryOut 97 = .ok (.aload_n 0, 1) := by decide +kernel
theorem dX8_carryOut_98 : decode cX8_carryOut 98 = .ok (.iconst 0, 1) := by decide +kernel
theorem dX8_carryOut_99 : decode cX8_carryOut 99 = .ok (.putfield 144, 3) := by decide +kernel
theorem dX8_carryOut_102 : decode cX8_carryOut 102 = .ok (.iload_n 1, 1) := by decide +kernel
theorem dX8_carryOut_103 : decode cX8_carryOut 103 = .ok (.ireturn, 1) := by decide +kernel
set_option maxRecDepth 20000 in
theorem ggX8_why_X8_in : GoodIn wsX8_why wsX8_in := goodIn_r _ [7] (by decide +kernel) (by decide +kernel)
set_option maxRecDepth 20000 in
theorem gX8_why_X8_in : GoodIn wsX8_why (va_wsS RX8 47 yX8_in wsX8_in) := goodIn_app (goodIn_of _ (by decide +kernel)) ggX8_why_X8_in
theorem dX8_why_0 : decode cX8_why 0 = .ok (.iload_n 1, 1) := by decide +kernel
theorem dX8_why_1 : decode cX8_why 1 = .ok (.iconst 0, 1) := by decide +kernel
theorem dX8_why_2 : decode cX8_why 2 = .ok (.iconst 2, 1) := by decide +kernel
theorem dX8_why_3 : decode cX8_why 3 = .ok (.invokestatic 47, 3) := by decide +kernel
theorem dX8_why_6 : decode cX8_why 6 = .ok (.ifCond .ne 5, 3) := by decide +kernel
theorem dX8_why_9 : decode cX8_why 9 = .ok (.iconst (-1), 1) := by decide +kernel
theorem dX8_why_10 : decode cX8_why 10 = .ok (.ireturn, 1) := by decide +kernel
theorem dX8_why_11 : decode cX8_why 11 = .ok (.aload_n 0, 1) := by decide +kernel
theorem dX8_why_12 : decode cX8_why 12 = .ok (.getfield 176, 3) := by decide +kernel
theorem dX8_why_15 : decode cX8_why 15 = .ok (.ifCond .ne 8, 3) := by decide +kernel
theorem dX8_why_18 : decode cX8_why 18 = .ok (.bipush (-4), 2) := by decide +kernel
theorem dX8_why_20 : decode cX8_why 20 = .ok (.goto 30, 3) := by decide +kernel
theorem dX8_why_23 : decode cX8_why 23 = .ok (.iload_n 1, 1) := by decide +kernel
theorem dX8_why_24 : decode cX8_why 24 = .ok (.ifCond .ne 10, 3) := by decide +kernel
theorem dX8_why_27 : decode cX8_why 27 = .ok (.aload_n 0, 1) := by decide +kernel
theorem dX8_why_28 : decode cX8_why 28 = .ok (.getfield 176, 3) := by decide +kernel
theorem dX8_why_31 : decode cX8_why 31 = .ok (.goto 19, 3) := by decide +kernel
theorem dX8_why_34 : decode cX8_why 34 = .ok (.iload_n 1, 1) := by decide +kernel
theorem dX8_why_35 : decode cX8_why 35 = .ok (.iconst 1, 1) := by decide +kernel
theorem dX8_why_36 : decode cX8_why 36 = .ok (.if_icmp .ne 10, 3) := by decide +kernel
theorem dX8_why_39 : decode cX8_why 39 = .ok (.aload_n 0, 1) := by decide +kernel
theorem dX8_why_40 : decode cX8_why 40 = .ok (.getfield 182, 3) := by decide +kernel
theorem dX8_why_43 : decode cX8_why 43 = .ok (.goto 7, 3) := by decide +kernel
theorem dX8_why_46 : decode cX8_why 46 = .ok (.aload_n 0, 1) := by decide +kernel
theorem dX8_why_47 : decode cX8_why 47 = .ok (.getfield 179, 3) := by decide +kernel
theorem dX8_why_50 : decode cX8_why 50 = .ok (.ireturn, 1) := by decide +kernel
set_option maxRecDepth 20000 in
theorem ggX8_cell_X8_isCell : GoodIn wsX8_cell wsX8_isCell := goodIn_r _ [4, 5, 6, 3, 7] (by decide +kernel) (by decide +kernel)
set_option maxRecDepth 20000 in
theorem gX8_cell_X8_isCell : GoodIn wsX8_cell (va_wsS RX8 188 yX8_isCell wsX8_isCell) := goodIn_app (goodIn_of _ (by decide +kernel)) ggX8_cell_X8_isCell
set_option maxRecDepth 20000 in
theorem ggX8_cell_X8_grainAt : GoodIn wsX8_cell wsX8_grainAt := goodIn_r _ [11, 12, 13, 14, 15, 3, 16, 36, 37, 38, 39, 40, 41, 42, 43, 44, 45, 46, 47, 48, 49, 50, 51, 52, 53, 54, 55, 56] (by decide +kernel) (by decide +kernel)
set_option maxRecDepth 20000 in
theorem gX8_cell_X8_grainAt : GoodIn wsX8_cell (wsV RX8 72 RX8 yX8_grainAt wsX8_grainAt) := goodIn_app (goodIn_of _ (by decide +kernel)) ggX8_cell_X8_grainAt
set_option maxRecDepth 20000 in
theorem ggX8_cell_X8_ringOf : GoodIn wsX8_cell wsX8_ringOf := goodIn_r _ [19, 20, 21, 3, 22] (by decide +kernel) (by decide +kernel)
set_option maxRecDepth 20000 in
theorem gX8_cell_X8_ringOf : GoodIn wsX8_cell (va_wsS RX8 62 yX8_ringOf wsX8_ringOf) := goodIn_app (goodIn_of _ (by decide +kernel)) ggX8_cell_X8_ringOf
set_option maxRecDepth 20000 in
theorem ggX8_cell_X8_besides : GoodIn wsX8_cell wsX8_besides := goodIn_r _ [26, 27, 28, 3, 29, 5, 6, 7, 8, 9, 10, 11, 12, 13, 14, 15, 16, 36, 37, 38, 39, 40, 41, 42, 43, 44, 45, 46, 47, 48, 49, 50, 51, 52, 53, 54, 55, 56] (by decide +kernel) (by decide +kernel)
set_option maxRecDepth 20000 in
theorem gX8_cell_X8_besides : GoodIn wsX8_cell (wsV RX8 191 RX8 yX8_besides wsX8_besides) := goodIn_app (goodIn_of _ (by decide +kernel)) ggX8_cell_X8_besides
set_option maxRecDepth 20000 in
theorem ggX8_cell_X8_rimOf : GoodIn wsX8_cell wsX8_rimOf := goodIn_r _ [32, 33, 34, 3, 35] (by decide +kernel) (by decide +kernel)
set_option maxRecDepth 20000 in
theorem gX8_cell_X8_rimOf : GoodIn wsX8_cell (va_wsS RX8 194 yX8_rimOf wsX8_rimOf) := goodIn_app (goodIn_of _ (by decide +kernel)) ggX8_cell_X8_rimOf
theorem dX8_cell_0 : decode cX8_cell 0 = .ok (.iload_n 1, 1) := by decide +kernel
theorem dX8_cell_1 : decode cX8_cell 1 = .ok (.invokestatic 188, 3) := by decide +kernel
theorem dX8_cell_4 : decode cX8_cell 4 = .ok (.ifCond .ne 5, 3) := by decide +kernel
theorem dX8_cell_7 : decode cX8_cell 7 = .ok (.iconst (-1), 1) := by decide +kernel
theorem dX8_cell_8 : decode cX8_cell 8 = .ok (.ireturn, 1) := by decide +kernel
theorem dX8_cell_9 : decode cX8_cell 9 = .ok (.iload_n 2, 1) := by decide +kernel
theorem dX8_cell_10 : decode cX8_cell 10 = .ok (.tableswitch 52 0 3 #[30, 36, 41, 47], 30) := by decide +kernel
theorem dX8_cell_40 : decode cX8_cell 40 = .ok (.aload_n 0, 1) := by decide +kernel
theorem dX8_cell_41 : decode cX8_cell 41 = .ok (.iload_n 1, 1) := by decide +kernel
theorem dX8_cell_42 : decode cX8_cell 42 = .ok (.invokevirtual 72, 3) := by decide +kernel
theorem dX8_cell_45 : decode cX8_cell 45 = .ok (.ireturn, 1) := by decide +kernel
theorem dX8_cell_46 : decode cX8_cell 46 = .ok (.iload_n 1, 1) := by decide +kernel
theorem dX8_cell_47 : decode cX8_cell 47 = .ok (.invokestatic 62, 3) := by decide +kernel
theorem dX8_cell_50 : decode cX8_cell 50 = .ok (.ireturn, 1) := by decide +kernel
theorem dX8_cell_51 : decode cX8_cell 51 = .ok (.aload_n 0, 1) := by decide +kernel
theorem dX8_cell_52 : decode cX8_cell 52 = .ok (.iload_n 1, 1) := by decide +kernel
theorem dX8_cell_53 : decode cX8_cell 53 = .ok (.invokevirtual 191, 3) := by decide +kernel
theorem dX8_cell_56 : decode cX8_cell 56 = .ok (.ireturn, 1) := by decide +kernel
theorem dX8_cell_57 : decode cX8_cell 57 = .ok (.iload_n 1, 1) := by decide +kernel
theorem dX8_cell_58 : decode cX8_cell 58 = .ok (.invokestatic 194, 3) := by decide +kernel
theorem dX8_cell_61 : decode cX8_cell 61 = .ok (.ireturn, 1) := by decide +kernel
theorem dX8_cell_62 : decode cX8_cell 62 = .ok (.iconst (-1), 1) := by decide +kernel
theorem dX8_cell_63 : decode cX8_cell 63 = .ok (.ireturn, 1) := by decide +kernel
set_option maxRecDepth 20000 in
theorem ggX8_depthOf_X8_holder : GoodIn wsX8_depthOf wsX8_holder := goodIn_r _ [5, 6, 7, 8, 4, 9, 10, 11, 12, 13, 14, 15, 16, 17, 18, 19, 20, 21, 22, 23, 24, 25, 26, 27, 28, 29, 30, 31] (by decide +kernel) (by decide +kernel)
set_option maxRecDepth 20000 in
theorem gX8_depthOf_X8_holder : GoodIn wsX8_depthOf (wsV RX8 105 RX8 yX8_holder wsX8_holder) := goodIn_app (goodIn_of _ (by decide +kernel)) ggX8_depthOf_X8_holder
theorem dX8_depthOf_0 : decode cX8_depthOf 0 = .ok (.iconst 0, 1) := by decide +kernel
theorem dX8_depthOf_1 : decode cX8_depthOf 1 = .ok (.istore_n 2, 1) := by decide +kernel
theorem dX8_depthOf_2 : decode cX8_depthOf 2 = .ok (.aload_n 0, 1) := by decide +kernel
theorem dX8_depthOf_3 : decode cX8_depthOf 3 = .ok (.iload_n 1, 1) := by decide +kernel
theorem dX8_depthOf_4 : decode cX8_depthOf 4 = .ok (.invokevirtual 105, 3) := by decide +kernel
theorem dX8_depthOf_7 : decode cX8_depthOf 7 = .ok (.istore_n 3, 1) := by decide +kernel
theorem dX8_depthOf_8 : decode cX8_depthOf 8 = .ok (.iload_n 3, 1) := by decide +kernel
theorem dX8_depthOf_9 : decode cX8_depthOf 9 = .ok (.ifCond .lt 15, 3) := by decide +kernel
theorem dX8_depthOf_12 : decode cX8_depthOf 12 = .ok (.iinc 2 1, 3) := by decide +kernel
theorem dX8_depthOf_15 : decode cX8_depthOf 15 = .ok (.aload_n 0, 1) := by decide +kernel
theorem dX8_depthOf_16 : decode cX8_depthOf 16 = .ok (.iload_n 3, 1) := by decide +kernel
theorem dX8_depthOf_17 : decode cX8_depthOf 17 = .ok (.invokevirtual 105, 3) := by decide +kernel
theorem dX8_depthOf_20 : decode cX8_depthOf 20 = .ok (.istore_n 3, 1) := by decide +kernel
theorem dX8_depthOf_21 : decode cX8_depthOf 21 = .ok (.goto (-13), 3) := by decide +kernel
theorem dX8_depthOf_24 : decode cX8_depthOf 24 = .ok (.iload_n 2, 1) := by decide +kernel
theorem dX8_depthOf_25 : decode cX8_depthOf 25 = .ok (.ireturn, 1) := by decide +kernel
set_option maxRecDepth 20000 in
theorem ggX8_rootOf_X8_holder : GoodIn wsX8_rootOf wsX8_holder := goodIn_r _ [5, 6, 7, 8, 4, 9, 10, 11, 12, 13, 14, 15, 16, 17, 18, 19, 20, 21, 22, 23, 24, 25, 26, 27, 28, 29, 30, 31] (by decide +kernel) (by decide +kernel)
set_option maxRecDepth 20000 in
theorem gX8_rootOf_X8_holder : GoodIn wsX8_rootOf (wsV RX8 105 RX8 yX8_holder wsX8_holder) := goodIn_app (goodIn_of _ (by decide +kernel)) ggX8_rootOf_X8_holder
theorem dX8_rootOf_0 : decode cX8_rootOf 0 = .ok (.iload_n 1, 1) := by decide +kernel
theorem dX8_rootOf_1 : decode cX8_rootOf 1 = .ok (.istore_n 2, 1) := by decide +kernel
theorem dX8_rootOf_2 : decode cX8_rootOf 2 = .ok (.aload_n 0, 1) := by decide +kernel
theorem dX8_rootOf_3 : decode cX8_rootOf 3 = .ok (.iload_n 2, 1) := by decide +kernel
theorem dX8_rootOf_4 : decode cX8_rootOf 4 = .ok (.invokevirtual 105, 3) := by decide +kernel
theorem dX8_rootOf_7 : decode cX8_rootOf 7 = .ok (.ifCond .lt 12, 3) := by decide +kernel
theorem dX8_rootOf_10 : decode cX8_rootOf 10 = .ok (.aload_n 0, 1) := by decide +kernel
theorem dX8_rootOf_11 : decode cX8_rootOf 11 = .ok (.iload_n 2, 1) := by decide +kernel
theorem dX8_rootOf_12 : decode cX8_rootOf 12 = .ok (.invokevirtual 105, 3) := by decide +kernel
theorem dX8_rootOf_15 : decode cX8_rootOf 15 = .ok (.istore_n 2, 1) := by decide +kernel
theorem dX8_rootOf_16 : decode cX8_rootOf 16 = .ok (.goto (-14), 3) := by decide +kernel
theorem dX8_rootOf_19 : decode cX8_rootOf 19 = .ok (.iload_n 2, 1) := by decide +kernel
theorem dX8_rootOf_20 : decode cX8_rootOf 20 = .ok (.ireturn, 1) := by decide +kernel
set_option maxRecDepth 20000 in
theorem ggX8_isIn_X8_holder : GoodIn wsX8_isIn wsX8_holder := goodIn_r _ [5, 6, 7, 8, 4, 9, 10, 11, 12, 13, 14, 15, 16, 17, 18, 19, 20, 21, 22, 23, 24, 25, 26, 27, 28, 29, 30, 31] (by decide +kernel) (by decide +kernel)
set_option maxRecDepth 20000 in
theorem gX8_isIn_X8_holder : GoodIn wsX8_isIn (wsV RX8 105 RX8 yX8_holder wsX8_holder) := goodIn_app (goodIn_of _ (by decide +kernel)) ggX8_isIn_X8_holder
theorem dX8_isIn_0 : decode cX8_isIn 0 = .ok (.iload_n 1, 1) := by decide +kernel
theorem dX8_isIn_1 : decode cX8_isIn 1 = .ok (.istore_n 3, 1) := by decide +kernel
theorem dX8_isIn_2 : decode cX8_isIn 2 = .ok (.iload_n 3, 1) := by decide +kernel
theorem dX8_isIn_3 : decode cX8_isIn 3 = .ok (.iload_n 2, 1) := by decide +kernel
theorem dX8_isIn_4 : decode cX8_isIn 4 = .ok (.if_icmp .le 12, 3) := by decide +kernel
theorem dX8_isIn_7 : decode cX8_isIn 7 = .ok (.aload_n 0, 1) := by decide +kernel
theorem dX8_isIn_8 : decode cX8_isIn 8 = .ok (.iload_n 3, 1) := by decide +kernel
theorem dX8_isIn_9 : decode cX8_isIn 9 = .ok (.invokevirtual 105, 3) := by decide +kernel
theorem dX8_isIn_12 : decode cX8_isIn 12 = .ok (.istore_n 3, 1) := by decide +kernel
theorem dX8_isIn_13 : decode cX8_isIn 13 = .ok (.goto (-11), 3) := by decide +kernel
theorem dX8_isIn_16 : decode cX8_isIn 16 = .ok (.iload_n 3, 1) := by decide +kernel
theorem dX8_isIn_17 : decode cX8_isIn 17 = .ok (.iload_n 2, 1) := by decide +kernel
theorem dX8_isIn_18 : decode cX8_isIn 18 = .ok (.if_icmp .ne 7, 3) := by decide +kernel
theorem dX8_isIn_21 : decode cX8_isIn 21 = .ok (.iconst 1, 1) := by decide +kernel
theorem dX8_isIn_22 : decode cX8_isIn 22 = .ok (.goto 4, 3) := by decide +kernel
theorem dX8_isIn_25 : decode cX8_isIn 25 = .ok (.iconst 0, 1) := by decide +kernel
theorem dX8_isIn_26 : decode cX8_isIn 26 = .ok (.ireturn, 1) := by decide +kernel
set_option maxRecDepth 20000 in
theorem ggX8_treeOf_X8_isIn : GoodIn wsX8_treeOf wsX8_isIn := goodIn_r _ [6, 7, 8, 9, 5, 10, 11, 12, 13, 14, 1, 15, 16, 17, 18, 19, 20, 21, 22, 23, 24, 25, 26, 27, 28, 29, 30, 31, 32, 33, 34, 35] (by decide +kernel) (by decide +kernel)
set_option maxRecDepth 20000 in
theorem gX8_treeOf_X8_isIn : GoodIn wsX8_treeOf (wsV RX8 197 RX8 yX8_isIn wsX8_isIn) := goodIn_app (goodIn_of _ (by decide +kernel)) ggX8_treeOf_X8_isIn
theorem dX8_treeOf_0 : decode cX8_treeOf 0 = .ok (.iconst 0, 1) := by decide +kernel
theorem dX8_treeOf_1 : decode cX8_treeOf 1 = .ok (.istore_n 2, 1) := by decide +kernel
theorem dX8_treeOf_2 : decode cX8_treeOf 2 = .ok (.iload_n 1, 1) := by decide +kernel
theorem dX8_treeOf_3 : decode cX8_treeOf 3 = .ok (.istore_n 3, 1) := by decide +kernel
theorem dX8_treeOf_4 : decode cX8_treeOf 4 = .ok (.iload_n 3, 1) := by decide +kernel
theorem dX8_treeOf_5 : decode cX8_treeOf 5 = .ok (.aload_n 0, 1) := by decide +kernel
theorem dX8_treeOf_6 : decode cX8_treeOf 6 = .ok (.getfield 7, 3) := by decide +kernel
theorem dX8_treeOf_9 : decode cX8_treeOf 9 = .ok (.iconst 0, 1) := by decide +kernel
theorem dX8_treeOf_10 : decode cX8_treeOf 10 = .ok (.iaload, 1) := by decide +kernel
theorem dX8_treeOf_11 : decode cX8_treeOf 11 = .ok (.if_icmp .ge 26, 3) := by decide +kernel
theorem dX8_treeOf_14 : decode cX8_treeOf 14 = .ok (.iload_n 2, 1) := by decide +kernel
theorem dX8_treeOf_15 : decode cX8_treeOf 15 = .ok (.aload_n 0, 1) := by decide +kernel
theorem dX8_treeOf_16 : decode cX8_treeOf 16 = .ok (.iload_n 3, 1) := by decide +kernel
theorem dX8_treeOf_17 : decode cX8_treeOf 17 = .ok (.iload_n 1, 1) := by decide +kernel
theorem dX8_treeOf_18 : decode cX8_treeOf 18 = .ok (.invokevirtual 197, 3) := by decide +kernel
theorem dX8_treeOf_21 : decode cX8_treeOf 21 = .ok (.ifCond .eq 7, 3) := by decide +kernel
theorem dX8_treeOf_24 : decode cX8_treeOf 24 = .ok (.iconst 1, 1) := by decide +kernel
theorem dX8_treeOf_25 : decode cX8_treeOf 25 = .ok (.goto 4, 3) := by decide +kernel
theorem dX8_treeOf_28 : decode cX8_treeOf 28 = .ok (.iconst 0, 1) := by decide +kernel
theorem dX8_treeOf_29 : decode cX8_treeOf 29 = .ok (.iadd, 1) := by decide +kernel
theorem dX8_treeOf_30 : decode cX8_treeOf 30 = .ok (.istore_n 2, 1) := by decide +kernel
theorem dX8_treeOf_31 : decode cX8_treeOf 31 = .ok (.iinc 3 1, 3) := by decide +kernel
theorem dX8_treeOf_34 : decode cX8_treeOf 34 = .ok (.goto (-30), 3) := by decide +kernel
theorem dX8_treeOf_37 : decode cX8_treeOf 37 = .ok (.iload_n 2, 1) := by decide +kernel
theorem dX8_treeOf_38 : decode cX8_treeOf 38 = .ok (.ireturn, 1) := by decide +kernel
set_option maxRecDepth 20000 in
theorem ggX8_highOf_X8_isIn : GoodIn wsX8_highOf wsX8_isIn := goodIn_r _ [6, 7, 8, 9, 5, 10, 11, 12, 13, 14, 1, 19, 20, 21, 22, 23, 24, 25, 26, 27, 28, 29, 30, 31, 32, 33, 34, 35, 36, 37, 38, 39] (by decide +kernel) (by decide +kernel)
set_option maxRecDepth 20000 in
theorem gX8_highOf_X8_isIn : GoodIn wsX8_highOf (wsV RX8 197 RX8 yX8_isIn wsX8_isIn) := goodIn_app (goodIn_of _ (by decide +kernel)) ggX8_highOf_X8_isIn
set_option maxRecDepth 20000 in
theorem ggX8_highOf_X8_depthOf : GoodIn wsX8_highOf wsX8_depthOf := goodIn_r _ [18, 7, 8, 9, 5, 10, 11, 12, 13, 14, 1, 19, 20, 21, 22, 23, 24, 25, 26, 27, 28, 29, 30, 31, 32, 33, 34, 35, 36, 37, 38, 39] (by decide +kernel) (by decide +kernel)
set_option maxRecDepth 20000 in
theorem gX8_highOf_X8_depthOf : GoodIn wsX8_highOf (wsV RX8 201 RX8 yX8_depthOf wsX8_depthOf) := goodIn_app (goodIn_of _ (by decide +kernel)) ggX8_highOf_X8_depthOf
theorem dX8_highOf_0 : decode cX8_highOf 0 = .ok (.iconst 0, 1) := by decide +kernel
theorem dX8_highOf_1 : decode cX8_highOf 1 = .ok (.istore_n 2, 1) := by decide +kernel
theorem dX8_highOf_2 : decode cX8_highOf 2 = .ok (.iload_n 1, 1) := by decide +kernel
theorem dX8_highOf_3 : decode cX8_highOf 3 = .ok (.istore_n 3, 1) := by decide +kernel
theorem dX8_highOf_4 : decode cX8_highOf 4 = .ok (.iload_n 3, 1) := by decide +kernel
theorem dX8_highOf_5 : decode cX8_highOf 5 = .ok (.aload_n 0, 1) := by decide +kernel
theorem dX8_highOf_6 : decode cX8_highOf 6 = .ok (.getfield 7, 3) := by decide +kernel
theorem dX8_highOf_9 : decode cX8_highOf 9 = .ok (.iconst 0, 1) := by decide +kernel
theorem dX8_highOf_10 : decode cX8_highOf 10 = .ok (.iaload, 1) := by decide +kernel
theorem dX8_highOf_11 : decode cX8_highOf 11 = .ok (.if_icmp .ge 48, 3) := by decide +kernel
theorem dX8_highOf_14 : decode cX8_highOf 14 = .ok (.aload_n 0, 1) := by decide +kernel
theorem dX8_highOf_15 : decode cX8_highOf 15 = .ok (.iload_n 3, 1) := by decide +kernel
theorem dX8_highOf_16 : decode cX8_highOf 16 = .ok (.iload_n 1, 1) := by decide +kernel
theorem dX8_highOf_17 : decode cX8_highOf 17 = .ok (.invokevirtual 197, 3) := by decide +kernel
theorem dX8_highOf_20 : decode cX8_highOf 20 = .ok (.ifCond .eq 17, 3) := by decide +kernel
theorem dX8_highOf_23 : decode cX8_highOf 23 = .ok (.aload_n 0, 1) := by decide +kernel
theorem dX8_highOf_24 : decode cX8_highOf 24 = .ok (.iload_n 3, 1) := by decide +kernel
theorem dX8_highOf_25 : decode cX8_highOf 25 = .ok (.invokevirtual 201, 3) := by decide +kernel
theorem dX8_highOf_28 : decode cX8_highOf 28 = .ok (.aload_n 0, 1) := by decide +kernel
theorem dX8_highOf_29 : decode cX8_highOf 29 = .ok (.iload_n 1, 1) := by decide +kernel
theorem dX8_highOf_30 : decode cX8_highOf 30 = .ok (.invokevirtual 201, 3) := by decide +kernel
theorem dX8_highOf_33 : decode cX8_highOf 33 = .ok (.isub, 1) := by decide +kernel
theorem dX8_highOf_34 : decode cX8_highOf 34 = .ok (.goto 4, 3) := by decide +kernel
theorem dX8_highOf_37 : decode cX8_highOf 37 = .ok (.iconst 0, 1) := by decide +kernel
theorem dX8_highOf_38 : decode cX8_highOf 38 = .ok (.istore 4, 2) := by decide +kernel
theorem dX8_highOf_40 : decode cX8_highOf 40 = .ok (.iload 4, 2) := by decide +kernel
theorem dX8_highOf_42 : decode cX8_highOf 42 = .ok (.iload_n 2, 1) := by decide +kernel
theorem dX8_highOf_43 : decode cX8_highOf 43 = .ok (.if_icmp .le 8, 3) := by decide +kernel
theorem dX8_highOf_46 : decode cX8_highOf 46 = .ok (.iload 4, 2) := by decide +kernel
theorem dX8_highOf_48 : decode cX8_highOf 48 = .ok (.goto 4, 3) := by decide +kernel
theorem dX8_highOf_51 : decode cX8_highOf 51 = .ok (.iload_n 2, 1) := by decide +kernel
theorem dX8_highOf_52 : decode cX8_highOf 52 = .ok (.istore_n 2, 1) := by decide +kernel
theorem dX8_highOf_53 : decode cX8_highOf 53 = .ok (.iinc 3 1, 3) := by decide +kernel
theorem dX8_highOf_56 : decode cX8_highOf 56 = .ok (.goto (-52), 3) := by decide +kernel
theorem dX8_highOf_59 : decode cX8_highOf 59 = .ok (.iload_n 2, 1) := by decide +kernel
theorem dX8_highOf_60 : decode cX8_highOf 60 = .ok (.ireturn, 1) := by decide +kernel
theorem dX8_lookingFrom_0 : decode cX8_lookingFrom 0 = .ok (.iload_n 0, 1) := by decide +kernel
theorem dX8_lookingFrom_1 : decode cX8_lookingFrom 1 = .ok (.bipush 11, 2) := by decide +kernel
theorem dX8_lookingFrom_3 : decode cX8_lookingFrom 3 = .ok (.if_icmp .ge 7, 3) := by decide +kernel
theorem dX8_lookingFrom_6 : decode cX8_lookingFrom 6 = .ok (.iconst 2, 1) := by decide +kernel
theorem dX8_lookingFrom_7 : decode cX8_lookingFrom 7 = .ok (.goto 24, 3) := by decide +kernel
theorem dX8_lookingFrom_10 : decode cX8_lookingFrom 10 = .ok (.iload_n 0, 1) := by decide +kernel
theorem dX8_lookingFrom_11 : decode cX8_lookingFrom 11 = .ok (.bipush 20, 2) := by decide +kernel
theorem dX8_lookingFrom_13 : decode cX8_lookingFrom 13 = .ok (.if_icmp .ge 7, 3) := by decide +kernel
theorem dX8_lookingFrom_16 : decode cX8_lookingFrom 16 = .ok (.iconst 3, 1) := by decide +kernel
theorem dX8_lookingFrom_17 : decode cX8_lookingFrom 17 = .ok (.goto 14, 3) := by decide +kernel
theorem dX8_lookingFrom_20 : decode cX8_lookingFrom 20 = .ok (.iload_n 0, 1) := by decide +kernel
theorem dX8_lookingFrom_21 : decode cX8_lookingFrom 21 = .ok (.bipush 31, 2) := by decide +kernel
theorem dX8_lookingFrom_23 : decode cX8_lookingFrom 23 = .ok (.if_icmp .ge 7, 3) := by decide +kernel
theorem dX8_lookingFrom_26 : decode cX8_lookingFrom 26 = .ok (.iconst 0, 1) := by decide +kernel
theorem dX8_lookingFrom_27 : decode cX8_lookingFrom 27 = .ok (.goto 4, 3) := by decide +kernel
theorem dX8_lookingFrom_30 : decode cX8_lookingFrom 30 = .ok (.iconst 1, 1) := by decide +kernel
theorem dX8_lookingFrom_31 : decode cX8_lookingFrom 31 = .ok (.ireturn, 1) := by decide +kernel
set_option maxRecDepth 20000 in
theorem ggX8_screening_X8_rimCell : GoodIn wsX8_screening wsX8_rimCell := goodIn_r _ [4] (by decide +kernel) (by decide +kernel)
set_option maxRecDepth 20000 in
theorem gX8_screening_X8_rimCell : GoodIn wsX8_screening (va_wsS RX8 55 yX8_rimCell wsX8_rimCell) := goodIn_app (goodIn_of _ (by decide +kernel)) ggX8_screening_X8_rimCell
set_option maxRecDepth 20000 in
theorem ggX8_screening_X8_grainAt : GoodIn wsX8_screening wsX8_grainAt := goodIn_r _ [8, 9, 10, 11, 12, 3, 13, 23, 24, 25, 26, 27, 28, 29, 30, 31, 32, 33, 34, 35, 36, 37, 38, 39, 40, 41, 42, 43] (by decide +kernel) (by decide +kernel)
set_option maxRecDepth 20000 in
theorem gX8_screening_X8_grainAt : GoodIn wsX8_screening (wsV RX8 72 RX8 yX8_grainAt wsX8_grainAt) := goodIn_app (goodIn_of _ (by decide +kernel)) ggX8_screening_X8_grainAt
set_option maxRecDepth 20000 in
theorem ggX8_screening_X8_lookingFrom : GoodIn wsX8_screening wsX8_lookingFrom := goodIn_r _ [16] (by decide +kernel) (by decide +kernel)
set_option maxRecDepth 20000 in
theorem gX8_screening_X8_lookingFrom : GoodIn wsX8_screening (va_wsS RX8 204 yX8_lookingFrom wsX8_lookingFrom) := goodIn_app (goodIn_of _ (by decide +kernel)) ggX8_screening_X8_lookingFrom
set_option maxRecDepth 20000 in
theorem ggX8_screening_X8_beside : GoodIn wsX8_screening wsX8_beside := goodIn_r _ [19, 20, 21, 3, 22] (by decide +kernel) (by decide +kernel)
set_option maxRecDepth 20000 in
theorem gX8_screening_X8_beside : GoodIn wsX8_screening (va_wsS RX8 69 yX8_beside wsX8_beside) := goodIn_app (goodIn_of _ (by decide +kernel)) ggX8_screening_X8_beside
theorem dX8_screening_0 : decode cX8_screening 0 = .ok (.iload_n 1, 1) := by decide +kernel
theorem dX8_screening_1 : decode cX8_screening 1 = .ok (.invokestatic 55, 3) := by decide +kernel
theorem dX8_screening_4 : decode cX8_screening 4 = .ok (.istore_n 2, 1) := by decide +kernel
theorem dX8_screening_5 : decode cX8_screening 5 = .ok (.iload_n 2, 1) := by decide +kernel
theorem dX8_screening_6 : decode cX8_screening 6 = .ok (.ifCond .lt 23, 3) := by decide +kernel
theorem dX8_screening_9 : decode cX8_screening 9 = .ok (.aload_n 0, 1) := by decide +kernel
theorem dX8_screening_10 : decode cX8_screening 10 = .ok (.iload_n 2, 1) := by decide +kernel
theorem dX8_screening_11 : decode cX8_screening 11 = .ok (.invokevirtual 72, 3) := by decide +kernel
theorem dX8_screening_14 : decode cX8_screening 14 = .ok (.ifCond .ge 15, 3) := by decide +kernel
theorem dX8_screening_17 : decode cX8_screening 17 = .ok (.iload_n 2, 1) := by decide +kernel
theorem dX8_screening_18 : decode cX8_screening 18 = .ok (.iload_n 1, 1) := by decide +kernel
theorem dX8_screening_19 : decode cX8_screening 19 = .ok (.invokestatic 204, 3) := by decide +kernel
theorem dX8_screening_22 : decode cX8_screening 22 = .ok (.invokestatic 69, 3) := by decide +kernel
theorem dX8_screening_25 : decode cX8_screening 25 = .ok (.istore_n 2, 1) := by decide +kernel
theorem dX8_screening_26 : decode cX8_screening 26 = .ok (.goto (-21), 3) := by decide +kernel
theorem dX8_screening_29 : decode cX8_screening 29 = .ok (.iload_n 2, 1) := by decide +kernel
theorem dX8_screening_30 : decode cX8_screening 30 = .ok (.ifCond .ge 8, 3) := by decide +kernel
theorem dX8_screening_33 : decode cX8_screening 33 = .ok (.bipush (-4), 2) := by decide +kernel
theorem dX8_screening_35 : decode cX8_screening 35 = .ok (.goto 8, 3) := by decide +kernel
theorem dX8_screening_38 : decode cX8_screening 38 = .ok (.aload_n 0, 1) := by decide +kernel
theorem dX8_screening_39 : decode cX8_screening 39 = .ok (.iload_n 2, 1) := by decide +kernel
theorem dX8_screening_40 : decode cX8_screening 40 = .ok (.invokevirtual 72, 3) := by decide +kernel
theorem dX8_screening_43 : decode cX8_screening 43 = .ok (.ireturn, 1) := by decide +kernel
set_option maxRecDepth 20000 in
theorem ggX8_catchOf_X8_screening : GoodIn wsX8_catchOf wsX8_screening := goodIn_r _ [5, 6, 7, 4, 8, 9, 10, 11, 12, 13, 14, 15, 16, 17, 18, 19, 20, 21, 22, 23, 24, 25, 26, 27, 28, 29, 30, 31, 32, 33, 34, 35, 36, 37, 38, 39, 40, 41, 42, 43, 44, 45, 46, 47] (by decide +kernel) (by decide +kernel)
set_option maxRecDepth 20000 in
theorem gX8_catchOf_X8_screening : GoodIn wsX8_catchOf (wsV RX8 207 RX8 yX8_screening wsX8_screening) := goodIn_app (goodIn_of _ (by decide +kernel)) ggX8_catchOf_X8_screening
theorem dX8_catchOf_0 : decode cX8_catchOf 0 = .ok (.iconst 0, 1) := by decide +kernel
theorem dX8_catchOf_1 : decode cX8_catchOf 1 = .ok (.istore_n 2, 1) := by decide +kernel
theorem dX8_catchOf_2 : decode cX8_catchOf 2 = .ok (.iconst 0, 1) := by decide +kernel
theorem dX8_catchOf_3 : decode cX8_catchOf 3 = .ok (.istore_n 3, 1) := by decide +kernel
theorem dX8_catchOf_4 : decode cX8_catchOf 4 = .ok (.iload_n 3, 1) := by decide +kernel
theorem dX8_catchOf_5 : decode cX8_catchOf 5 = .ok (.bipush 40, 2) := by decide +kernel
theorem dX8_catchOf_7 : decode cX8_catchOf 7 = .ok (.if_icmp .ge 26, 3) := by decide +kernel
theorem dX8_catchOf_10 : decode cX8_catchOf 10 = .ok (.iload_n 2, 1) := by decide +kernel
theorem dX8_catchOf_11 : decode cX8_catchOf 11 = .ok (.aload_n 0, 1) := by decide +kernel
theorem dX8_catchOf_12 : decode cX8_catchOf 12 = .ok (.iload_n 3, 1) := by decide +kernel
theorem dX8_catchOf_13 : decode cX8_catchOf 13 = .ok (.invokevirtual 207, 3) := by decide +kernel
theorem dX8_catchOf_16 : decode cX8_catchOf 16 = .ok (.iload_n 1, 1) := by decide +kernel
theorem dX8_catchOf_17 : decode cX8_catchOf 17 = .ok (.if_icmp .ne 7, 3) := by decide +kernel
theorem dX8_catchOf_20 : decode cX8_catchOf 20 = .ok (.iconst 1, 1) := by decide +kernel
theorem dX8_catchOf_21 : decode cX8_catchOf 21 = .ok (.goto 4, 3) := by decide +kernel
theorem dX8_catchOf_24 : decode cX8_catchOf 24 = .ok (.iconst 0, 1) := by decide +kernel
theorem dX8_catchOf_25 : decode cX8_catchOf 25 = .ok (.iadd, 1) := by decide +kernel
theorem dX8_catchOf_26 : decode cX8_catchOf 26 = .ok (.istore_n 2, 1) := by decide +kernel
theorem dX8_catchOf_27 : decode cX8_catchOf 27 = .ok (.iinc 3 1, 3) := by decide +kernel
theorem dX8_catchOf_30 : decode cX8_catchOf 30 = .ok (.goto (-26), 3) := by decide +kernel
theorem dX8_catchOf_33 : decode cX8_catchOf 33 = .ok (.iload_n 2, 1) := by decide +kernel
theorem dX8_catchOf_34 : decode cX8_catchOf 34 = .ok (.ireturn, 1) := by decide +kernel
set_option maxRecDepth 20000 in
theorem ggX8_grain_X8_isGrain : GoodIn wsX8_grain wsX8_isGrain := goodIn_r _ [5, 6, 7, 8, 4, 9, 63, 64, 65, 66, 67, 68, 69, 70, 71, 72, 73, 74, 75, 76, 77, 78, 79, 80, 81, 82, 83] (by decide +kernel) (by decide +kernel)
set_option maxRecDepth 20000 in
theorem gX8_grain_X8_isGrain : GoodIn wsX8_grain (wsV RX8 117 RX8 yX8_isGrain wsX8_isGrain) := goodIn_app (goodIn_of _ (by decide +kernel)) ggX8_grain_X8_isGrain
set_option maxRecDepth 20000 in
theorem ggX8_grain_X8_of : GoodIn wsX8_grain wsX8_of := goodIn_r _ [13, 6, 63, 64, 65, 66, 67, 68, 69, 70, 71, 72, 73, 74, 75, 76, 77, 78, 79, 80, 81, 82, 83] (by decide +kernel) (by decide +kernel)
set_option maxRecDepth 20000 in
theorem gX8_grain_X8_of : GoodIn wsX8_grain (wsV RX8 58 RX8 yX8_of wsX8_of) := goodIn_app (goodIn_of _ (by decide +kernel)) ggX8_grain_X8_of
set_option maxRecDepth 20000 in
theorem ggX8_grain_X8_holder : GoodIn wsX8_grain wsX8_holder := goodIn_r _ [17, 10, 11, 12, 4, 13, 6, 63, 64, 65, 66, 67, 68, 69, 70, 71, 72, 73, 74, 75, 76, 77, 78, 79, 80, 81, 82, 83] (by decide +kernel) (by decide +kernel)
set_option maxRecDepth 20000 in
theorem gX8_grain_X8_holder : GoodIn wsX8_grain (wsV RX8 105 RX8 yX8_holder wsX8_holder) := goodIn_app (goodIn_of _ (by decide +kernel)) ggX8_grain_X8_holder
set_option maxRecDepth 20000 in
theorem ggX8_grain_X8_depthOf : GoodIn wsX8_grain wsX8_depthOf := goodIn_r _ [21, 14, 15, 16, 4, 17, 10, 11, 12, 13, 6, 63, 64, 65, 66, 67, 68, 69, 70, 71, 72, 73, 74, 75, 76, 77, 78, 79, 80, 81, 82, 83] (by decide +kernel) (by decide +kernel)
set_option maxRecDepth 20000 in
theorem gX8_grain_X8_depthOf : GoodIn wsX8_grain (wsV RX8 201 RX8 yX8_depthOf wsX8_depthOf) := goodIn_app (goodIn_of _ (by decide +kernel)) ggX8_grain_X8_depthOf
set_option maxRecDepth 20000 in
theorem ggX8_grain_X8_children : GoodIn wsX8_grain wsX8_children := goodIn_r _ [25, 6, 14, 15, 16, 4, 17, 10, 11, 12, 13, 63, 64, 65, 66, 67, 68, 69, 70, 71, 72, 73, 74, 75, 76, 77, 78, 79, 80, 81, 82, 83] (by decide +kernel) (by decide +kernel)
set_option maxRecDepth 20000 in
theorem gX8_grain_X8_children : GoodIn wsX8_grain (wsV RX8 111 RX8 yX8_children wsX8_children) := goodIn_app (goodIn_of _ (by decide +kernel)) ggX8_grain_X8_children
set_option maxRecDepth 20000 in
theorem ggX8_grain_X8_treeOf : GoodIn wsX8_grain wsX8_treeOf := goodIn_r _ [29, 6, 30, 31, 32, 4, 33, 14, 15, 16, 17, 10, 11, 12, 13, 63, 64, 65, 66, 67, 68, 69, 70, 71, 72, 73, 74, 75, 76, 77, 78, 79, 80, 81, 82, 83] (by decide +kernel) (by decide +kernel)
set_option maxRecDepth 20000 in
theorem gX8_grain_X8_treeOf : GoodIn wsX8_grain (wsV RX8 210 RX8 yX8_treeOf wsX8_treeOf) := goodIn_app (goodIn_of _ (by decide +kernel)) ggX8_grain_X8_treeOf
set_option maxRecDepth 20000 in
theorem ggX8_grain_X8_highOf : GoodIn wsX8_grain wsX8_highOf := goodIn_r _ [37, 6, 30, 31, 32, 4, 33, 14, 15, 16, 17, 10, 11, 12, 13, 18, 19, 20, 21, 63, 64, 65, 66, 67, 68, 69, 70, 71, 72, 73, 74, 75, 76, 77, 78, 79, 80, 81, 82, 83] (by decide +kernel) (by decide +kernel)
set_option maxRecDepth 20000 in
theorem gX8_grain_X8_highOf : GoodIn wsX8_grain (wsV RX8 213 RX8 yX8_highOf wsX8_highOf) := goodIn_app (goodIn_of _ (by decide +kernel)) ggX8_grain_X8_highOf
set_option maxRecDepth 20000 in
theorem ggX8_grain_X8_catchOf : GoodIn wsX8_grain wsX8_catchOf := goodIn_r _ [41, 42, 43, 44, 4, 45, 46, 47, 48, 49, 50, 51, 52, 6, 10, 11, 12, 13, 53, 54, 55, 56, 57, 58, 7, 8, 9, 63, 64, 65, 66, 67, 68, 69, 70, 71, 72, 73, 74, 75, 76, 77, 78, 79, 80, 81, 82, 83] (by decide +kernel) (by decide +kernel)
set_option maxRecDepth 20000 in
theorem gX8_grain_X8_catchOf : GoodIn wsX8_grain (wsV RX8 216 RX8 yX8_catchOf wsX8_catchOf) := goodIn_app (goodIn_of _ (by decide +kernel)) ggX8_grain_X8_catchOf
set_option maxRecDepth 20000 in
theorem ggX8_grain_X8_rootOf : GoodIn wsX8_grain wsX8_rootOf := goodIn_r _ [62, 14, 15, 16, 4, 17, 10, 11, 12, 13, 6, 63, 64, 65, 66, 67, 68, 69, 70, 71, 72, 73, 74, 75, 76, 77, 78, 79, 80, 81, 82, 83] (by decide +kernel) (by decide +kernel)
set_option maxRecDepth 20000 in
theorem gX8_grain_X8_rootOf : GoodIn wsX8_grain (wsV RX8 219 RX8 yX8_rootOf wsX8_rootOf) := goodIn_app (goodIn_of _ (by decide +kernel)) ggX8_grain_X8_rootOf
theorem dX8_grain_0 : decode cX8_grain 0 = .ok (.aload_n 0, 1) := by decide +kernel
theorem dX8_grain_1 : decode cX8_grain 1 = .ok (.iload_n 1, 1) := by decide +kernel
theorem dX8_grain_2 : decode cX8_grain 2 = .ok (.invokevirtual 117, 3) := by decide +kernel
theorem dX8_grain_5 : decode cX8_grain 5 = .ok (.ifCond .ne 5, 3) := by decide +kernel
theorem dX8_grain_8 : decode cX8_grain 8 = .ok (.iconst (-1), 1) := by decide +kernel
theorem dX8_grain_9 : decode cX8_grain 9 = .ok (.ireturn, 1) := by decide +kernel
theorem dX8_grain_10 : decode cX8_grain 10 = .ok (.iload_n 2, 1) := by decide +kernel
theorem dX8_grain_11 : decode cX8_grain 11 = .ok (.tableswitch 118 0 8 #[49, 56, 75, 81, 87, 93, 99, 105, 111], 49) := by decide +kernel
theorem dX8_grain_60 : decode cX8_grain 60 = .ok (.aload_n 0, 1) := by decide +kernel
theorem dX8_grain_61 : decode cX8_grain 61 = .ok (.iload_n 1, 1) := by decide +kernel
theorem dX8_grain_62 : decode cX8_grain 62 = .ok (.iconst 0, 1) := by decide +kernel
theorem dX8_grain_63 : decode cX8_grain 63 = .ok (.invokevirtual 58, 3) := by decide +kernel
theorem dX8_grain_66 : decode cX8_grain 66 = .ok (.ireturn, 1) := by decide +kernel
theorem dX8_grain_67 : decode cX8_grain 67 = .ok (.aload_n 0, 1) := by decide +kernel
theorem dX8_grain_68 : decode cX8_grain 68 = .ok (.iload_n 1, 1) := by decide +kernel
theorem dX8_grain_69 : decode cX8_grain 69 = .ok (.invokevirtual 105, 3) := by decide +kernel
theorem dX8_grain_72 : decode cX8_grain 72 = .ok (.ifCond .ge 8, 3) := by decide +kernel
theorem dX8_grain_75 : decode cX8_grain 75 = .ok (.bipush (-4), 2) := by decide +kernel
theorem dX8_grain_77 : decode cX8_grain 77 = .ok (.goto 8, 3) := by decide +kernel
theorem dX8_grain_80 : decode cX8_grain 80 = .ok (.aload_n 0, 1) := by decide +kernel
theorem dX8_grain_81 : decode cX8_grain 81 = .ok (.iload_n 1, 1) := by decide +kernel
theorem dX8_grain_82 : decode cX8_grain 82 = .ok (.invokevirtual 105, 3) := by decide +kernel
theorem dX8_grain_85 : decode cX8_grain 85 = .ok (.ireturn, 1) := by decide +kernel
theorem dX8_grain_86 : decode cX8_grain 86 = .ok (.aload_n 0, 1) := by decide +kernel
theorem dX8_grain_87 : decode cX8_grain 87 = .ok (.iload_n 1, 1) := by decide +kernel
theorem dX8_grain_88 : decode cX8_grain 88 = .ok (.invokevirtual 201, 3) := by decide +kernel
theorem dX8_grain_91 : decode cX8_grain 91 = .ok (.ireturn, 1) := by decide +kernel
theorem dX8_grain_92 : decode cX8_grain 92 = .ok (.aload_n 0, 1) := by decide +kernel
theorem dX8_grain_93 : decode cX8_grain 93 = .ok (.iload_n 1, 1) := by decide +kernel
theorem dX8_grain_94 : decode cX8_grain 94 = .ok (.invokevirtual 111, 3) := by decide +kernel
theorem dX8_grain_97 : decode cX8_grain 97 = .ok (.ireturn, 1) := by decide +kernel
theorem dX8_grain_98 : decode cX8_grain 98 = .ok (.aload_n 0, 1) := by decide +kernel
theorem dX8_grain_99 : decode cX8_grain 99 = .ok (.iload_n 1, 1) := by decide +kernel
theorem dX8_grain_100 : decode cX8_grain 100 = .ok (.invokevirtual 210, 3) := by decide +kernel
theorem dX8_grain_103 : decode cX8_grain 103 = .ok (.ireturn, 1) := by decide +kernel
theorem dX8_grain_104 : decode cX8_grain 104 = .ok (.aload_n 0, 1) := by decide +kernel
theorem dX8_grain_105 : decode cX8_grain 105 = .ok (.iload_n 1, 1) := by decide +kernel
theorem dX8_grain_106 : decode cX8_grain 106 = .ok (.invokevirtual 213, 3) := by decide +kernel
theorem dX8_grain_109 : decode cX8_grain 109 = .ok (.ireturn, 1) := by decide +kernel
theorem dX8_grain_110 : decode cX8_grain 110 = .ok (.aload_n 0, 1) := by decide +kernel
theorem dX8_grain_111 : decode cX8_grain 111 = .ok (.iload_n 1, 1) := by decide +kernel
theorem dX8_grain_112 : decode cX8_grain 112 = .ok (.invokevirtual 216, 3) := by decide +kernel
theorem dX8_grain_115 : decode cX8_grain 115 = .ok (.ireturn, 1) := by decide +kernel
theorem dX8_grain_116 : decode cX8_grain 116 = .ok (.aload_n 0, 1) := by decide +kernel
theorem dX8_grain_117 : decode cX8_grain 117 = .ok (.iload_n 1, 1) := by decide +kernel
theorem dX8_grain_118 : decode cX8_grain 118 = .ok (.invokevirtual 219, 3) := by decide +kernel
theorem dX8_grain_121 : decode cX8_grain 121 = .ok (.ireturn, 1) := by decide +kernel
theorem dX8_grain_122 : decode cX8_grain 122 = .ok (.aload_n 0, 1) := by decide +kernel
theorem dX8_grain_123 : decode cX8_grain 123 = .ok (.iload_n 1, 1) := by decide +kernel
theorem dX8_grain_124 : decode cX8_grain 124 = .ok (.iconst 2, 1) := by decide +kernel
theorem dX8_grain_125 : decode cX8_grain 125 = .ok (.invokevirtual 58, 3) := by decide +kernel
theorem dX8_grain_128 : decode cX8_grain 128 = .ok (.ireturn, 1) := by decide +kernel
theorem dX8_grain_129 : decode cX8_grain 129 = .ok (.iconst (-1), 1) := by decide +kernel
theorem dX8_grain_130 : decode cX8_grain 130 = .ok (.ireturn, 1) := by decide +kernel
set_option maxRecDepth 20000 in
theorem ggX8_screens_X8_isRim : GoodIn wsX8_screens wsX8_isRim := goodIn_r _ [4, 5, 6, 3, 7] (by decide +kernel) (by decide +kernel)
set_option maxRecDepth 20000 in
theorem gX8_screens_X8_isRim : GoodIn wsX8_screens (va_wsS RX8 114 yX8_isRim wsX8_isRim) := goodIn_app (goodIn_of _ (by decide +kernel)) ggX8_screens_X8_isRim
set_option maxRecDepth 20000 in
theorem ggX8_screens_X8_screening : GoodIn wsX8_screens wsX8_screening := goodIn_r _ [11, 12, 13, 3, 14, 15, 16, 17, 18, 19, 20, 21, 22, 23, 24, 25, 26, 27, 28, 29, 5, 6, 7, 30, 31, 32, 33, 34, 35, 36, 37, 38, 39, 40, 41, 42, 43, 44, 45, 46, 47, 48, 49, 50] (by decide +kernel) (by decide +kernel)
set_option maxRecDepth 20000 in
theorem gX8_screens_X8_screening : GoodIn wsX8_screens (wsV RX8 207 RX8 yX8_screening wsX8_screening) := goodIn_app (goodIn_of _ (by decide +kernel)) ggX8_screens_X8_screening
theorem dX8_screens_0 : decode cX8_screens 0 = .ok (.iload_n 1, 1) := by decide +kernel
theorem dX8_screens_1 : decode cX8_screens 1 = .ok (.invokestatic 114, 3) := by decide +kernel
theorem dX8_screens_4 : decode cX8_screens 4 = .ok (.ifCond .eq 11, 3) := by decide +kernel
theorem dX8_screens_7 : decode cX8_screens 7 = .ok (.aload_n 0, 1) := by decide +kernel
theorem dX8_screens_8 : decode cX8_screens 8 = .ok (.iload_n 1, 1) := by decide +kernel
theorem dX8_screens_9 : decode cX8_screens 9 = .ok (.invokevirtual 207, 3) := by decide +kernel
theorem dX8_screens_12 : decode cX8_screens 12 = .ok (.goto 4, 3) := by decide +kernel
theorem dX8_screens_15 : decode cX8_screens 15 = .ok (.iconst (-1), 1) := by decide +kernel
theorem dX8_screens_16 : decode cX8_screens 16 = .ok (.ireturn, 1) := by decide +kernel
set_option maxRecDepth 20000 in
theorem ggX8_ring_X8_in : GoodIn wsX8_ring wsX8_in := goodIn_r _ [5] (by decide +kernel) (by decide +kernel)
set_option maxRecDepth 20000 in
theorem gX8_ring_X8_in : GoodIn wsX8_ring (va_wsS RX8 47 yX8_in wsX8_in) := goodIn_app (goodIn_of _ (by decide +kernel)) ggX8_ring_X8_in
set_option maxRecDepth 20000 in
theorem ggX8_ring_X8_of : GoodIn wsX8_ring wsX8_of := goodIn_r _ [9, 1, 16, 17, 18, 19, 20, 21, 22, 23, 24, 25, 26, 27, 28, 29, 30, 31, 32, 33, 34, 35, 36] (by decide +kernel) (by decide +kernel)
set_option maxRecDepth 20000 in
theorem gX8_ring_X8_of : GoodIn wsX8_ring (wsV RX8 58 RX8 yX8_of wsX8_of) := goodIn_app (goodIn_of _ (by decide +kernel)) ggX8_ring_X8_of
set_option maxRecDepth 20000 in
theorem ggX8_ring_X8_ringOf : GoodIn wsX8_ring wsX8_ringOf := goodIn_r _ [12, 13, 14, 4, 15] (by decide +kernel) (by decide +kernel)
set_option maxRecDepth 20000 in
theorem gX8_ring_X8_ringOf : GoodIn wsX8_ring (va_wsS RX8 62 yX8_ringOf wsX8_ringOf) := goodIn_app (goodIn_of _ (by decide +kernel)) ggX8_ring_X8_ringOf
theorem dX8_ring_0 : decode cX8_ring 0 = .ok (.iload_n 1, 1) := by decide +kernel
theorem dX8_ring_1 : decode cX8_ring 1 = .ok (.iconst 0, 1) := by decide +kernel
theorem dX8_ring_2 : decode cX8_ring 2 = .ok (.iconst 5, 1) := by decide +kernel
theorem dX8_ring_3 : decode cX8_ring 3 = .ok (.invokestatic 47, 3) := by decide +kernel
theorem dX8_ring_6 : decode cX8_ring 6 = .ok (.ifCond .ne 5, 3) := by decide +kernel
theorem dX8_ring_9 : decode cX8_ring 9 = .ok (.iconst (-1), 1) := by decide +kernel
theorem dX8_ring_10 : decode cX8_ring 10 = .ok (.ireturn, 1) := by decide +kernel
theorem dX8_ring_11 : decode cX8_ring 11 = .ok (.iconst 0, 1) := by decide +kernel
theorem dX8_ring_12 : decode cX8_ring 12 = .ok (.istore_n 2, 1) := by decide +kernel
theorem dX8_ring_13 : decode cX8_ring 13 = .ok (.iconst 0, 1) := by decide +kernel
theorem dX8_ring_14 : decode cX8_ring 14 = .ok (.istore_n 3, 1) := by decide +kernel
theorem dX8_ring_15 : decode cX8_ring 15 = .ok (.iload_n 3, 1) := by decide +kernel
theorem dX8_ring_16 : decode cX8_ring 16 = .ok (.aload_n 0, 1) := by decide +kernel
theorem dX8_ring_17 : decode cX8_ring 17 = .ok (.getfield 7, 3) := by decide +kernel
theorem dX8_ring_20 : decode cX8_ring 20 = .ok (.iconst 0, 1) := by decide +kernel
theorem dX8_ring_21 : decode cX8_ring 21 = .ok (.iaload, 1) := by decide +kernel
theorem dX8_ring_22 : decode cX8_ring 22 = .ok (.if_icmp .ge 30, 3) := by decide +kernel
theorem dX8_ring_25 : decode cX8_ring 25 = .ok (.iload_n 2, 1) := by decide +kernel
theorem dX8_ring_26 : decode cX8_ring 26 = .ok (.aload_n 0, 1) := by decide +kernel
theorem dX8_ring_27 : decode cX8_ring 27 = .ok (.iload_n 3, 1) := by decide +kernel
theorem dX8_ring_28 : decode cX8_ring 28 = .ok (.iconst 0, 1) := by decide +kernel
theorem dX8_ring_29 : decode cX8_ring 29 = .ok (.invokevirtual 58, 3) := by decide +kernel
theorem dX8_ring_32 : decode cX8_ring 32 = .ok (.invokestatic 62, 3) := by decide +kernel
theorem dX8_ring_35 : decode cX8_ring 35 = .ok (.iload_n 1, 1) := by decide +kernel
theorem dX8_ring_36 : decode cX8_ring 36 = .ok (.if_icmp .ne 7, 3) := by decide +kernel
theorem dX8_ring_39 : decode cX8_ring 39 = .ok (.iconst 1, 1) := by decide +kernel
theorem dX8_ring_40 : decode cX8_ring 40 = .ok (.goto 4, 3) := by decide +kernel
theorem dX8_ring_43 : decode cX8_ring 43 = .ok (.iconst 0, 1) := by decide +kernel
theorem dX8_ring_44 : decode cX8_ring 44 = .ok (.iadd, 1) := by decide +kernel
theorem dX8_ring_45 : decode cX8_ring 45 = .ok (.istore_n 2, 1) := by decide +kernel
theorem dX8_ring_46 : decode cX8_ring 46 = .ok (.iinc 3 1, 3) := by decide +kernel
theorem dX8_ring_49 : decode cX8_ring 49 = .ok (.goto (-34), 3) := by decide +kernel
theorem dX8_ring_52 : decode cX8_ring 52 = .ok (.iload_n 2, 1) := by decide +kernel
theorem dX8_ring_53 : decode cX8_ring 53 = .ok (.ireturn, 1) := by decide +kernel
set_option maxRecDepth 20000 in
theorem ggX8_apart_X8_isGrain : GoodIn wsX8_apart wsX8_isGrain := goodIn_r _ [5, 6, 7, 8, 4, 9, 18, 19, 20, 21, 22, 23, 24, 25, 26, 27, 28, 29, 30, 31, 32, 33, 34, 35, 36, 37, 38] (by decide +kernel) (by decide +kernel)
set_option maxRecDepth 20000 in
theorem gX8_apart_X8_isGrain : GoodIn wsX8_apart (wsV RX8 117 RX8 yX8_isGrain wsX8_isGrain) := goodIn_app (goodIn_of _ (by decide +kernel)) ggX8_apart_X8_isGrain
set_option maxRecDepth 20000 in
theorem ggX8_apart_X8_holder : GoodIn wsX8_apart wsX8_holder := goodIn_r _ [13, 14, 15, 16, 4, 17, 6, 18, 19, 20, 21, 22, 23, 24, 25, 26, 27, 28, 29, 30, 31, 32, 33, 34, 35, 36, 37, 38] (by decide +kernel) (by decide +kernel)
set_option maxRecDepth 20000 in
theorem gX8_apart_X8_holder : GoodIn wsX8_apart (wsV RX8 105 RX8 yX8_holder wsX8_holder) := goodIn_app (goodIn_of _ (by decide +kernel)) ggX8_apart_X8_holder
theorem dX8_apart_0 : decode cX8_apart 0 = .ok (.aload_n 0, 1) := by decide +kernel
theorem dX8_apart_1 : decode cX8_apart 1 = .ok (.iload_n 1, 1) := by decide +kernel
theorem dX8_apart_2 : decode cX8_apart 2 = .ok (.invokevirtual 117, 3) := by decide +kernel
theorem dX8_apart_5 : decode cX8_apart 5 = .ok (.ifCond .eq 11, 3) := by decide +kernel
theorem dX8_apart_8 : decode cX8_apart 8 = .ok (.aload_n 0, 1) := by decide +kernel
theorem dX8_apart_9 : decode cX8_apart 9 = .ok (.iload_n 2, 1) := by decide +kernel
theorem dX8_apart_10 : decode cX8_apart 10 = .ok (.invokevirtual 117, 3) := by decide +kernel
theorem dX8_apart_13 : decode cX8_apart 13 = .ok (.ifCond .ne 5, 3) := by decide +kernel
theorem dX8_apart_16 : decode cX8_apart 16 = .ok (.iconst (-1), 1) := by decide +kernel
theorem dX8_apart_17 : decode cX8_apart 17 = .ok (.ireturn, 1) := by decide +kernel
theorem dX8_apart_18 : decode cX8_apart 18 = .ok (.iload_n 1, 1) := by decide +kernel
theorem dX8_apart_19 : decode cX8_apart 19 = .ok (.istore_n 3, 1) := by decide +kernel
theorem dX8_apart_20 : decode cX8_apart 20 = .ok (.iload_n 2, 1) := by decide +kernel
theorem dX8_apart_21 : decode cX8_apart 21 = .ok (.istore 4, 2) := by decide +kernel
theorem dX8_apart_23 : decode cX8_apart 23 = .ok (.iconst 0, 1) := by decide +kernel
theorem dX8_apart_24 : decode cX8_apart 24 = .ok (.istore 5, 2) := by decide +kernel
theorem dX8_apart_26 : decode cX8_apart 26 = .ok (.iload_n 3, 1) := by decide +kernel
theorem dX8_apart_27 : decode cX8_apart 27 = .ok (.iload 4, 2) := by decide +kernel
theorem dX8_apart_29 : decode cX8_apart 29 = .ok (.if_icmp .eq 41, 3) := by decide +kernel
theorem dX8_apart_32 : decode cX8_apart 32 = .ok (.iload_n 3, 1) := by decide +kernel
theorem dX8_apart_33 : decode cX8_apart 33 = .ok (.ifCond .lt 37, 3) := by decide +kernel
theorem dX8_apart_36 : decode cX8_apart 36 = .ok (.iload 4, 2) := by decide +kernel
theorem dX8_apart_38 : decode cX8_apart 38 = .ok (.ifCond .lt 32, 3) := by decide +kernel
theorem dX8_apart_41 : decode cX8_apart 41 = .ok (.iinc 5 1, 3) := by decide +kernel
theorem dX8_apart_44 : decode cX8_apart 44 = .ok (.iload_n 3, 1) := by decide +kernel
theorem dX8_apart_45 : decode cX8_apart 45 = .ok (.iload 4, 2) := by decide +kernel
theorem dX8_apart_47 : decode cX8_apart 47 = .ok (.if_icmp .le 12, 3) := by decide +kernel
theorem dX8_apart_50 : decode cX8_apart 50 = .ok (.aload_n 0, 1) := by decide +kernel
theorem dX8_apart_51 : decode cX8_apart 51 = .ok (.iload_n 3, 1) := by decide +kernel
theorem dX8_apart_52 : decode cX8_apart 52 = .ok (.invokevirtual 105, 3) := by decide +kernel
theorem dX8_apart_55 : decode cX8_apart 55 = .ok (.istore_n 3, 1) := by decide +kernel
theorem dX8_apart_56 : decode cX8_apart 56 = .ok (.goto (-30), 3) := by decide +kernel
theorem dX8_apart_59 : decode cX8_apart 59 = .ok (.aload_n 0, 1) := by decide +kernel
theorem dX8_apart_60 : decode cX8_apart 60 = .ok (.iload 4, 2) := by decide +kernel
theorem dX8_apart_62 : decode cX8_apart 62 = .ok (.invokevirtual 105, 3) := by decide +kernel
theorem dX8_apart_65 : decode cX8_apart 65 = .ok (.istore 4, 2) := by decide +kernel
theorem dX8_apart_67 : decode cX8_apart 67 = .ok (.goto (-41), 3) := by decide +kernel
theorem dX8_apart_70 : decode cX8_apart 70 = .ok (.iload_n 3, 1) := by decide +kernel
theorem dX8_apart_71 : decode cX8_apart 71 = .ok (.iload 4, 2) := by decide +kernel
theorem dX8_apart_73 : decode cX8_apart 73 = .ok (.if_icmp .ne 8, 3) := by decide +kernel
theorem dX8_apart_76 : decode cX8_apart 76 = .ok (.iload 5, 2) := by decide +kernel
theorem dX8_apart_78 : decode cX8_apart 78 = .ok (.goto 5, 3) := by decide +kernel
theorem dX8_apart_81 : decode cX8_apart 81 = .ok (.bipush (-4), 2) := by decide +kernel
theorem dX8_apart_83 : decode cX8_apart 83 = .ok (.ireturn, 1) := by decide +kernel
set_option maxRecDepth 20000 in
theorem ggX8_longest_X8_in : GoodIn wsX8_longest wsX8_in := goodIn_r _ [6] (by decide +kernel) (by decide +kernel)
set_option maxRecDepth 20000 in
theorem gX8_longest_X8_in : GoodIn wsX8_longest (va_wsS RX8 47 yX8_in wsX8_in) := goodIn_app (goodIn_of _ (by decide +kernel)) ggX8_longest_X8_in
set_option maxRecDepth 20000 in
theorem ggX8_longest_X8_holder : GoodIn wsX8_longest wsX8_holder := goodIn_r _ [10, 11, 12, 13, 5, 14, 1, 15, 16, 17, 18, 19, 20, 21, 22, 23, 24, 25, 26, 27, 28, 29, 30, 31, 32, 33, 34, 35] (by decide +kernel) (by decide +kernel)
set_option maxRecDepth 20000 in
theorem gX8_longest_X8_holder : GoodIn wsX8_longest (wsV RX8 105 RX8 yX8_holder wsX8_holder) := goodIn_app (goodIn_of _ (by decide +kernel)) ggX8_longest_X8_holder
theorem dX8_longest_0 : decode cX8_longest 0 = .ok (.iload_n 1, 1) := by decide +kernel
theorem dX8_longest_1 : decode cX8_longest 1 = .ok (.iconst 0, 1) := by decide +kernel
theorem dX8_longest_2 : decode cX8_longest 2 = .ok (.iconst 1, 1) := by decide +kernel
theorem dX8_longest_3 : decode cX8_longest 3 = .ok (.invokestatic 47, 3) := by decide +kernel
theorem dX8_longest_6 : decode cX8_longest 6 = .ok (.ifCond .ne 5, 3) := by decide +kernel
theorem dX8_longest_9 : decode cX8_longest 9 = .ok (.iconst (-1), 1) := by decide +kernel
theorem dX8_longest_10 : decode cX8_longest 10 = .ok (.ireturn, 1) := by decide +kernel
theorem dX8_longest_11 : decode cX8_longest 11 = .ok (.iconst 0, 1) := by decide +kernel
theorem dX8_longest_12 : decode cX8_longest 12 = .ok (.istore_n 2, 1) := by decide +kernel
theorem dX8_longest_13 : decode cX8_longest 13 = .ok (.iconst 0, 1) := by decide +kernel
theorem dX8_longest_14 : decode cX8_longest 14 = .ok (.istore_n 3, 1) := by decide +kernel
theorem dX8_longest_15 : decode cX8_longest 15 = .ok (.iload_n 3, 1) := by decide +kernel
theorem dX8_longest_16 : decode cX8_longest 16 = .ok (.aload_n 0, 1) := by decide +kernel
theorem dX8_longest_17 : decode cX8_longest 17 = .ok (.getfield 7, 3) := by decide +kernel
theorem dX8_longest_20 : decode cX8_longest 20 = .ok (.iconst 0, 1) := by decide +kernel
theorem dX8_longest_21 : decode cX8_longest 21 = .ok (.iaload, 1) := by decide +kernel
theorem dX8_longest_22 : decode cX8_longest 22 = .ok (.if_icmp .ge 16, 3) := by decide +kernel
theorem dX8_longest_25 : decode cX8_longest 25 = .ok (.aload_n 0, 1) := by decide +kernel
theorem dX8_longest_26 : decode cX8_longest 26 = .ok (.getfield 32, 3) := by decide +kernel
theorem dX8_longest_29 : decode cX8_longest 29 = .ok (.iload_n 3, 1) := by decide +kernel
theorem dX8_longest_30 : decode cX8_longest 30 = .ok (.iconst 0, 1) := by decide +kernel
theorem dX8_longest_31 : decode cX8_longest 31 = .ok (.iastore, 1) := by decide +kernel
theorem dX8_longest_32 : decode cX8_longest 32 = .ok (.iinc 3 1, 3) := by decide +kernel
theorem dX8_longest_35 : decode cX8_longest 35 = .ok (.goto (-20), 3) := by decide +kernel
theorem dX8_longest_38 : decode cX8_longest 38 = .ok (.aload_n 0, 1) := by decide +kernel
theorem dX8_longest_39 : decode cX8_longest 39 = .ok (.getfield 7, 3) := by decide +kernel
theorem dX8_longest_42 : decode cX8_longest 42 = .ok (.iconst 0, 1) := by decide +kernel
theorem dX8_longest_43 : decode cX8_longest 43 = .ok (.iaload, 1) := by decide +kernel
theorem dX8_longest_44 : decode cX8_longest 44 = .ok (.iconst 1, 1) := by decide +kernel
theorem dX8_longest_45 : decode cX8_longest 45 = .ok (.isub, 1) := by decide +kernel
theorem dX8_longest_46 : decode cX8_longest 46 = .ok (.istore_n 3, 1) := by decide +kernel
theorem dX8_longest_47 : decode cX8_longest 47 = .ok (.iload_n 3, 1) := by decide +kernel
theorem dX8_longest_48 : decode cX8_longest 48 = .ok (.ifCond .lt 86, 3) := by decide +kernel
theorem dX8_longest_51 : decode cX8_longest 51 = .ok (.aload_n 0, 1) := by decide +kernel
theorem dX8_longest_52 : decode cX8_longest 52 = .ok (.iload_n 3, 1) := by decide +kernel
theorem dX8_longest_53 : decode cX8_longest 53 = .ok (.invokevirtual 105, 3) := by decide +kernel
theorem dX8_longest_56 : decode cX8_longest 56 = .ok (.istore 4, 2) := by decide +kernel
theorem dX8_longest_58 : decode cX8_longest 58 = .ok (.aload_n 0, 1) := by decide +kernel
theorem dX8_longest_59 : decode cX8_longest 59 = .ok (.getfield 32, 3) := by decide +kernel
theorem dX8_longest_62 : decode cX8_longest 62 = .ok (.iload_n 3, 1) := by decide +kernel
theorem dX8_longest_63 : decode cX8_longest 63 = .ok (.iaload, 1) := by decide +kernel
theorem dX8_longest_64 : decode cX8_longest 64 = .ok (.iconst 1, 1) := by decide +kernel
theorem dX8_longest_65 : decode cX8_longest 65 = .ok (.iadd, 1) := by decide +kernel
theorem dX8_longest_66 : decode cX8_longest 66 = .ok (.istore 5, 2) := by decide +kernel
theorem dX8_longest_68 : decode cX8_longest 68 = .ok (.iload 4, 2) := by decide +kernel
theorem dX8_longest_70 : decode cX8_longest 70 = .ok (.ifCond .lt 30, 3) := by decide +kernel
theorem dX8_longest_73 : decode cX8_longest 73 = .ok (.aload_n 0, 1) := by decide +kernel
theorem dX8_longest_74 : decode cX8_longest 74 = .ok (.getfield 32, 3) := by decide +kernel
theorem dX8_longest_77 : decode cX8_longest 77 = .ok (.iload 4, 2) := by decide +kernel
theorem dX8_longest_79 : decode cX8_longest 79 = .ok (.iaload, 1) := by decide +kernel
theorem dX8_longest_80 : decode cX8_longest 80 = .ok (.iload 5, 2) := by decide +kernel
theorem dX8_longest_82 : decode cX8_longest 82 = .ok (.iadd, 1) := by decide +kernel
theorem dX8_longest_83 : decode cX8_longest 83 = .ok (.iload_n 2, 1) := by decide +kernel
theorem dX8_longest_84 : decode cX8_longest 84 = .ok (.if_icmp .le 16, 3) := by decide +kernel
theorem dX8_longest_87 : decode cX8_longest 87 = .ok (.aload_n 0, 1) := by decide +kernel
theorem dX8_longest_88 : decode cX8_longest 88 = .ok (.getfield 32, 3) := by decide +kernel
theorem dX8_longest_91 : decode cX8_longest 91 = .ok (.iload 4, 2) := by decide +kernel
theorem dX8_longest_93 : decode cX8_longest 93 = .ok (.iaload, 1) := by decide +kernel
theorem dX8_longest_94 : decode cX8_longest 94 = .ok (.iload 5, 2) := by decide +kernel
theorem dX8_longest_96 : decode cX8_longest 96 = .ok (.iadd, 1) := by decide +kernel
theorem dX8_longest_97 : decode cX8_longest 97 = .ok (.goto 4, 3) := by decide +kernel
theorem dX8_longest_100 : decode cX8_longest 100 = .ok (.iload_n 2, 1) := by decide +kernel
theorem dX8_longest_101 : decode cX8_longest 101 = .ok (.istore_n 2, 1) := by decide +kernel
theorem dX8_longest_102 : decode cX8_longest 102 = .ok (.iload 4, 2) := by decide +kernel
theorem dX8_longest_104 : decode cX8_longest 104 = .ok (.ifCond .lt 24, 3) := by decide +kernel
theorem dX8_longest_107 : decode cX8_longest 107 = .ok (.iload 5, 2) := by decide +kernel
theorem dX8_longest_109 : decode cX8_longest 109 = .ok (.aload_n 0, 1) := by decide +kernel
theorem dX8_longest_110 : decode cX8_longest 110 = .ok (.getfield 32, 3) := by decide +kernel
theorem dX8_longest_113 : decode cX8_longest 113 = .ok (.iload 4, 2) := by decide +kernel
theorem dX8_longest_115 : decode cX8_longest 115 = .ok (.iaload, 1) := by decide +kernel
theorem dX8_longest_116 : decode cX8_longest 116 = .ok (.if_icmp .le 12, 3) := by decide +kernel
theorem dX8_longest_119 : decode cX8_longest 119 = .ok (.aload_n 0, 1) := by decide +kernel
theorem dX8_longest_120 : decode cX8_longest 120 = .ok (.getfield 32, 3) := by decide +kernel
theorem dX8_longest_123 : decode cX8_longest 123 = .ok (.iload 4, 2) := by decide +kernel
theorem dX8_longest_125 : decode cX8_longest 125 = .ok (.iload 5, 2) := by decide +kernel
theorem dX8_longest_127 : decode cX8_longest 127 = .ok (.iastore, 1) := by decide +kernel
theorem dX8_longest_128 : decode cX8_longest 128 = .ok (.iinc 3 (-1), 3) := by decide +kernel
theorem dX8_longest_131 : decode cX8_longest 131 = .ok (.goto (-84), 3) := by decide +kernel
theorem dX8_longest_134 : decode cX8_longest 134 = .ok (.iload_n 2, 1) := by decide +kernel
theorem dX8_longest_135 : decode cX8_longest 135 = .ok (.ireturn, 1) := by decide +kernel
set_option maxRecDepth 20000 in
theorem ggX8_reachOf_X8_of : GoodIn wsX8_reachOf wsX8_of := goodIn_r _ [6, 1, 13, 14, 15, 16, 17, 18, 19, 20, 21, 22, 23, 24, 25, 26, 27, 28, 29, 30, 31, 32, 33] (by decide +kernel) (by decide +kernel)
set_option maxRecDepth 20000 in
theorem gX8_reachOf_X8_of : GoodIn wsX8_reachOf (wsV RX8 58 RX8 yX8_of wsX8_of) := goodIn_app (goodIn_of _ (by decide +kernel)) ggX8_reachOf_X8_of
set_option maxRecDepth 20000 in
theorem ggX8_reachOf_X8_ringOf : GoodIn wsX8_reachOf wsX8_ringOf := goodIn_r _ [9, 10, 11, 5, 12] (by decide +kernel) (by decide +kernel)
set_option maxRecDepth 20000 in
theorem gX8_reachOf_X8_ringOf : GoodIn wsX8_reachOf (va_wsS RX8 62 yX8_ringOf wsX8_ringOf) := goodIn_app (goodIn_of _ (by decide +kernel)) ggX8_reachOf_X8_ringOf
theorem dX8_reachOf_0 : decode cX8_reachOf 0 = .ok (.iconst 0, 1) := by decide +kernel
theorem dX8_reachOf_1 : decode cX8_reachOf 1 = .ok (.istore_n 1, 1) := by decide +kernel
theorem dX8_reachOf_2 : decode cX8_reachOf 2 = .ok (.iconst 0, 1) := by decide +kernel
theorem dX8_reachOf_3 : decode cX8_reachOf 3 = .ok (.istore_n 2, 1) := by decide +kernel
theorem dX8_reachOf_4 : decode cX8_reachOf 4 = .ok (.iload_n 2, 1) := by decide +kernel
theorem dX8_reachOf_5 : decode cX8_reachOf 5 = .ok (.aload_n 0, 1) := by decide +kernel
theorem dX8_reachOf_6 : decode cX8_reachOf 6 = .ok (.getfield 7, 3) := by decide +kernel
theorem dX8_reachOf_9 : decode cX8_reachOf 9 = .ok (.iconst 0, 1) := by decide +kernel
theorem dX8_reachOf_10 : decode cX8_reachOf 10 = .ok (.iaload, 1) := by decide +kernel
theorem dX8_reachOf_11 : decode cX8_reachOf 11 = .ok (.if_icmp .ge 36, 3) := by decide +kernel
theorem dX8_reachOf_14 : decode cX8_reachOf 14 = .ok (.aload_n 0, 1) := by decide +kernel
theorem dX8_reachOf_15 : decode cX8_reachOf 15 = .ok (.iload_n 2, 1) := by decide +kernel
theorem dX8_reachOf_16 : decode cX8_reachOf 16 = .ok (.iconst 0, 1) := by decide +kernel
theorem dX8_reachOf_17 : decode cX8_reachOf 17 = .ok (.invokevirtual 58, 3) := by decide +kernel
theorem dX8_reachOf_20 : decode cX8_reachOf 20 = .ok (.invokestatic 62, 3) := by decide +kernel
theorem dX8_reachOf_23 : decode cX8_reachOf 23 = .ok (.iload_n 1, 1) := by decide +kernel
theorem dX8_reachOf_24 : decode cX8_reachOf 24 = .ok (.if_icmp .le 15, 3) := by decide +kernel
theorem dX8_reachOf_27 : decode cX8_reachOf 27 = .ok (.aload_n 0, 1) := by decide +kernel
theorem dX8_reachOf_28 : decode cX8_reachOf 28 = .ok (.iload_n 2, 1) := by decide +kernel
theorem dX8_reachOf_29 : decode cX8_reachOf 29 = .ok (.iconst 0, 1) := by decide +kernel
theorem dX8_reachOf_30 : decode cX8_reachOf 30 = .ok (.invokevirtual 58, 3) := by decide +kernel
theorem dX8_reachOf_33 : decode cX8_reachOf 33 = .ok (.invokestatic 62, 3) := by decide +kernel
theorem dX8_reachOf_36 : decode cX8_reachOf 36 = .ok (.goto 4, 3) := by decide +kernel
theorem dX8_reachOf_39 : decode cX8_reachOf 39 = .ok (.iload_n 1, 1) := by decide +kernel
theorem dX8_reachOf_40 : decode cX8_reachOf 40 = .ok (.istore_n 1, 1) := by decide +kernel
theorem dX8_reachOf_41 : decode cX8_reachOf 41 = .ok (.iinc 2 1, 3) := by decide +kernel
theorem dX8_reachOf_44 : decode cX8_reachOf 44 = .ok (.goto (-40), 3) := by decide +kernel
theorem dX8_reachOf_47 : decode cX8_reachOf 47 = .ok (.iload_n 1, 1) := by decide +kernel
theorem dX8_reachOf_48 : decode cX8_reachOf 48 = .ok (.ireturn, 1) := by decide +kernel
set_option maxRecDepth 20000 in
theorem ggX8_deepest_X8_depthOf : GoodIn wsX8_deepest wsX8_depthOf := goodIn_r _ [6, 7, 8, 9, 5, 10, 11, 12, 13, 14, 1, 15, 16, 17, 18, 19, 20, 21, 22, 23, 24, 25, 26, 27, 28, 29, 30, 31, 32, 33, 34, 35] (by decide +kernel) (by decide +kernel)
set_option maxRecDepth 20000 in
theorem gX8_deepest_X8_depthOf : GoodIn wsX8_deepest (wsV RX8 201 RX8 yX8_depthOf wsX8_depthOf) := goodIn_app (goodIn_of _ (by decide +kernel)) ggX8_deepest_X8_depthOf
theorem dX8_deepest_0 : decode cX8_deepest 0 = .ok (.iconst 0, 1) := by decide +kernel
theorem dX8_deepest_1 : decode cX8_deepest 1 = .ok (.istore_n 1, 1) := by decide +kernel
theorem dX8_deepest_2 : decode cX8_deepest 2 = .ok (.iconst 0, 1) := by decide +kernel
theorem dX8_deepest_3 : decode cX8_deepest 3 = .ok (.istore_n 2, 1) := by decide +kernel
theorem dX8_deepest_4 : decode cX8_deepest 4 = .ok (.iload_n 2, 1) := by decide +kernel
theorem dX8_deepest_5 : decode cX8_deepest 5 = .ok (.aload_n 0, 1) := by decide +kernel
theorem dX8_deepest_6 : decode cX8_deepest 6 = .ok (.getfield 7, 3) := by decide +kernel
theorem dX8_deepest_9 : decode cX8_deepest 9 = .ok (.iconst 0, 1) := by decide +kernel
theorem dX8_deepest_10 : decode cX8_deepest 10 = .ok (.iaload, 1) := by decide +kernel
theorem dX8_deepest_11 : decode cX8_deepest 11 = .ok (.if_icmp .ge 28, 3) := by decide +kernel
theorem dX8_deepest_14 : decode cX8_deepest 14 = .ok (.aload_n 0, 1) := by decide +kernel
theorem dX8_deepest_15 : decode cX8_deepest 15 = .ok (.iload_n 2, 1) := by decide +kernel
theorem dX8_deepest_16 : decode cX8_deepest 16 = .ok (.invokevirtual 201, 3) := by decide +kernel
theorem dX8_deepest_19 : decode cX8_deepest 19 = .ok (.iload_n 1, 1) := by decide +kernel
theorem dX8_deepest_20 : decode cX8_deepest 20 = .ok (.if_icmp .le 11, 3) := by decide +kernel
theorem dX8_deepest_23 : decode cX8_deepest 23 = .ok (.aload_n 0, 1) := by decide +kernel
theorem dX8_deepest_24 : decode cX8_deepest 24 = .ok (.iload_n 2, 1) := by decide +kernel
theorem dX8_deepest_25 : decode cX8_deepest 25 = .ok (.invokevirtual 201, 3) := by decide +kernel
theorem dX8_deepest_28 : decode cX8_deepest 28 = .ok (.goto 4, 3) := by decide +kernel
theorem dX8_deepest_31 : decode cX8_deepest 31 = .ok (.iload_n 1, 1) := by decide +kernel
theorem dX8_deepest_32 : decode cX8_deepest 32 = .ok (.istore_n 1, 1) := by decide +kernel
theorem dX8_deepest_33 : decode cX8_deepest 33 = .ok (.iinc 2 1, 3) := by decide +kernel
theorem dX8_deepest_36 : decode cX8_deepest 36 = .ok (.goto (-32), 3) := by decide +kernel
theorem dX8_deepest_39 : decode cX8_deepest 39 = .ok (.iload_n 1, 1) := by decide +kernel
theorem dX8_deepest_40 : decode cX8_deepest 40 = .ok (.ireturn, 1) := by decide +kernel
set_option maxRecDepth 20000 in
theorem ggX8_ofKind_X8_holder : GoodIn wsX8_ofKind wsX8_holder := goodIn_r _ [6, 7, 8, 9, 5, 10, 1, 15, 16, 17, 18, 19, 20, 21, 22, 23, 24, 25, 26, 27, 28, 29, 30, 31, 32, 33, 34, 35] (by decide +kernel) (by decide +kernel)
set_option maxRecDepth 20000 in
theorem gX8_ofKind_X8_holder : GoodIn wsX8_ofKind (wsV RX8 105 RX8 yX8_holder wsX8_holder) := goodIn_app (goodIn_of _ (by decide +kernel)) ggX8_ofKind_X8_holder
set_option maxRecDepth 20000 in
theorem ggX8_ofKind_X8_children : GoodIn wsX8_ofKind wsX8_children := goodIn_r _ [14, 1, 2, 3, 4, 5, 6, 7, 8, 9, 10, 15, 16, 17, 18, 19, 20, 21, 22, 23, 24, 25, 26, 27, 28, 29, 30, 31, 32, 33, 34, 35] (by decide +kernel) (by decide +kernel)
set_option maxRecDepth 20000 in
theorem gX8_ofKind_X8_children : GoodIn wsX8_ofKind (wsV RX8 111 RX8 yX8_children wsX8_children) := goodIn_app (goodIn_of _ (by decide +kernel)) ggX8_ofKind_X8_children
theorem dX8_ofKind_0 : decode cX8_ofKind 0 = .ok (.iconst 0, 1) := by decide +kernel
theorem dX8_ofKind_1 : decode cX8_ofKind 1 = .ok (.istore_n 2, 1) := by decide +kernel
theorem dX8_ofKind_2 : decode cX8_ofKind 2 = .ok (.iconst 0, 1) := by decide +kernel
theorem dX8_ofKind_3 : decode cX8_ofKind 3 = .ok (.istore_n 3, 1) := by decide +kernel
theorem dX8_ofKind_4 : decode cX8_ofKind 4 = .ok (.iload_n 3, 1) := by decide +kernel
theorem dX8_ofKind_5 : decode cX8_ofKind 5 = .ok (.aload_n 0, 1) := by decide +kernel
theorem dX8_ofKind_6 : decode cX8_ofKind 6 = .ok (.getfield 7, 3) := by decide +kernel
theorem dX8_ofKind_9 : decode cX8_ofKind 9 = .ok (.iconst 0, 1) := by decide +kernel
theorem dX8_ofKind_10 : decode cX8_ofKind 10 = .ok (.iaload, 1) := by decide +kernel
theorem dX8_ofKind_11 : decode cX8_ofKind 11 = .ok (.if_icmp .ge 80, 3) := by decide +kernel
theorem dX8_ofKind_14 : decode cX8_ofKind 14 = .ok (.iload_n 1, 1) := by decide +kernel
theorem dX8_ofKind_15 : decode cX8_ofKind 15 = .ok (.iconst 1, 1) := by decide +kernel
theorem dX8_ofKind_16 : decode cX8_ofKind 16 = .ok (.if_icmp .ne 19, 3) := by decide +kernel
theorem dX8_ofKind_19 : decode cX8_ofKind 19 = .ok (.aload_n 0, 1) := by decide +kernel
theorem dX8_ofKind_20 : decode cX8_ofKind 20 = .ok (.iload_n 3, 1) := by decide +kernel
theorem dX8_ofKind_21 : decode cX8_ofKind 21 = .ok (.invokevirtual 105, 3) := by decide +kernel
theorem dX8_ofKind_24 : decode cX8_ofKind 24 = .ok (.ifCond .ge 7, 3) := by decide +kernel
theorem dX8_ofKind_27 : decode cX8_ofKind 27 = .ok (.iconst 1, 1) := by decide +kernel
theorem dX8_ofKind_28 : decode cX8_ofKind 28 = .ok (.goto 42, 3) := by decide +kernel
theorem dX8_ofKind_31 : decode cX8_ofKind 31 = .ok (.iconst 0, 1) := by decide +kernel
theorem dX8_ofKind_32 : decode cX8_ofKind 32 = .ok (.goto 38, 3) := by decide +kernel
theorem dX8_ofKind_35 : decode cX8_ofKind 35 = .ok (.iload_n 1, 1) := by decide +kernel
theorem dX8_ofKind_36 : decode cX8_ofKind 36 = .ok (.iconst 2, 1) := by decide +kernel
theorem dX8_ofKind_37 : decode cX8_ofKind 37 = .ok (.if_icmp .ne 19, 3) := by decide +kernel
theorem dX8_ofKind_40 : decode cX8_ofKind 40 = .ok (.aload_n 0, 1) := by decide +kernel
theorem dX8_ofKind_41 : decode cX8_ofKind 41 = .ok (.iload_n 3, 1) := by decide +kernel
theorem dX8_ofKind_42 : decode cX8_ofKind 42 = .ok (.invokevirtual 111, 3) := by decide +kernel
theorem dX8_ofKind_45 : decode cX8_ofKind 45 = .ok (.ifCond .ne 7, 3) := by decide +kernel
theorem dX8_ofKind_48 : decode cX8_ofKind 48 = .ok (.iconst 1, 1) := by decide +kernel
theorem dX8_ofKind_49 : decode cX8_ofKind 49 = .ok (.goto 21, 3) := by decide +kernel
theorem dX8_ofKind_52 : decode cX8_ofKind 52 = .ok (.iconst 0, 1) := by decide +kernel
theorem dX8_ofKind_53 : decode cX8_ofKind 53 = .ok (.goto 17, 3) := by decide +kernel
theorem dX8_ofKind_56 : decode cX8_ofKind 56 = .ok (.aload_n 0, 1) := by decide +kernel
theorem dX8_ofKind_57 : decode cX8_ofKind 57 = .ok (.iload_n 3, 1) := by decide +kernel
theorem dX8_ofKind_58 : decode cX8_ofKind 58 = .ok (.invokevirtual 111, 3) := by decide +kernel
theorem dX8_ofKind_61 : decode cX8_ofKind 61 = .ok (.iconst 1, 1) := by decide +kernel
theorem dX8_ofKind_62 : decode cX8_ofKind 62 = .ok (.if_icmp .le 7, 3) := by decide +kernel
theorem dX8_ofKind_65 : decode cX8_ofKind 65 = .ok (.iconst 1, 1) := by decide +kernel
theorem dX8_ofKind_66 : decode cX8_ofKind 66 = .ok (.goto 4, 3) := by decide +kernel
theorem dX8_ofKind_69 : decode cX8_ofKind 69 = .ok (.iconst 0, 1) := by decide +kernel
theorem dX8_ofKind_70 : decode cX8_ofKind 70 = .ok (.istore 4, 2) := by decide +kernel
theorem dX8_ofKind_72 : decode cX8_ofKind 72 = .ok (.iload_n 2, 1) := by decide +kernel
theorem dX8_ofKind_73 : decode cX8_ofKind 73 = .ok (.iload 4, 2) := by decide +kernel
theorem dX8_ofKind_75 : decode cX8_ofKind 75 = .ok (.ifCond .eq 7, 3) := by decide +kernel
theorem dX8_ofKind_78 : decode cX8_ofKind 78 = .ok (.iconst 1, 1) := by decide +kernel
theorem dX8_ofKind_79 : decode cX8_ofKind 79 = .ok (.goto 4, 3) := by decide +kernel
theorem dX8_ofKind_82 : decode cX8_ofKind 82 = .ok (.iconst 0, 1) := by decide +kernel
theorem dX8_ofKind_83 : decode cX8_ofKind 83 = .ok (.iadd, 1) := by decide +kernel
theorem dX8_ofKind_84 : decode cX8_ofKind 84 = .ok (.istore_n 2, 1) := by decide +kernel
theorem dX8_ofKind_85 : decode cX8_ofKind 85 = .ok (.iinc 3 1, 3) := by decide +kernel
theorem dX8_ofKind_88 : decode cX8_ofKind 88 = .ok (.goto (-84), 3) := by decide +kernel
theorem dX8_ofKind_91 : decode cX8_ofKind 91 = .ok (.iload_n 2, 1) := by decide +kernel
theorem dX8_ofKind_92 : decode cX8_ofKind 92 = .ok (.ireturn, 1) := by decide +kernel
set_option maxRecDepth 20000 in
theorem ggX8_shore_X8_grainAt : GoodIn wsX8_shore wsX8_grainAt := goodIn_r _ [5, 6, 7, 8, 9, 4, 10, 21, 22, 23, 24, 25, 26, 27, 28, 29, 30, 31, 32, 33, 34, 35, 36, 37, 38, 39, 40, 41] (by decide +kernel) (by decide +kernel)
set_option maxRecDepth 20000 in
theorem gX8_shore_X8_grainAt : GoodIn wsX8_shore (wsV RX8 72 RX8 yX8_grainAt wsX8_grainAt) := goodIn_app (goodIn_of _ (by decide +kernel)) ggX8_shore_X8_grainAt
set_option maxRecDepth 20000 in
theorem ggX8_shore_X8_besides : GoodIn wsX8_shore wsX8_besides := goodIn_r _ [14, 15, 16, 4, 17, 18, 19, 20, 1, 2, 3, 5, 6, 7, 8, 9, 10, 21, 22, 23, 24, 25, 26, 27, 28, 29, 30, 31, 32, 33, 34, 35, 36, 37, 38, 39, 40, 41] (by decide +kernel) (by decide +kernel)
set_option maxRecDepth 20000 in
theorem gX8_shore_X8_besides : GoodIn wsX8_shore (wsV RX8 191 RX8 yX8_besides wsX8_besides) := goodIn_app (goodIn_of _ (by decide +kernel)) ggX8_shore_X8_besides
theorem dX8_shore_0 : decode cX8_shore 0 = .ok (.iconst 0, 1) := by decide +kernel
theorem dX8_shore_1 : decode cX8_shore 1 = .ok (.istore_n 1, 1) := by decide +kernel
theorem dX8_shore_2 : decode cX8_shore 2 = .ok (.iconst 0, 1) := by decide +kernel
theorem dX8_shore_3 : decode cX8_shore 3 = .ok (.istore_n 2, 1) := by decide +kernel
theorem dX8_shore_4 : decode cX8_shore 4 = .ok (.iload_n 2, 1) := by decide +kernel
theorem dX8_shore_5 : decode cX8_shore 5 = .ok (.bipush 121, 2) := by decide +kernel
theorem dX8_shore_7 : decode cX8_shore 7 = .ok (.if_icmp .ge 33, 3) := by decide +kernel
theorem dX8_shore_10 : decode cX8_shore 10 = .ok (.iload_n 1, 1) := by decide +kernel
theorem dX8_shore_11 : decode cX8_shore 11 = .ok (.aload_n 0, 1) := by decide +kernel
theorem dX8_shore_12 : decode cX8_shore 12 = .ok (.iload_n 2, 1) := by decide +kernel
theorem dX8_shore_13 : decode cX8_shore 13 = .ok (.invokevirtual 72, 3) := by decide +kernel
theorem dX8_shore_16 : decode cX8_shore 16 = .ok (.ifCond .ge 15, 3) := by decide +kernel
theorem dX8_shore_19 : decode cX8_shore 19 = .ok (.aload_n 0, 1) := by decide +kernel
theorem dX8_shore_20 : decode cX8_shore 20 = .ok (.iload_n 2, 1) := by decide +kernel
theorem dX8_shore_21 : decode cX8_shore 21 = .ok (.invokevirtual 191, 3) := by decide +kernel
theorem dX8_shore_24 : decode cX8_shore 24 = .ok (.ifCond .le 7, 3) := by decide +kernel
theorem dX8_shore_27 : decode cX8_shore 27 = .ok (.iconst 1, 1) := by decide +kernel
theorem dX8_shore_28 : decode cX8_shore 28 = .ok (.goto 4, 3) := by decide +kernel
theorem dX8_shore_31 : decode cX8_shore 31 = .ok (.iconst 0, 1) := by decide +kernel
theorem dX8_shore_32 : decode cX8_shore 32 = .ok (.iadd, 1) := by decide +kernel
theorem dX8_shore_33 : decode cX8_shore 33 = .ok (.istore_n 1, 1) := by decide +kernel
theorem dX8_shore_34 : decode cX8_shore 34 = .ok (.iinc 2 1, 3) := by decide +kernel
theorem dX8_shore_37 : decode cX8_shore 37 = .ok (.goto (-33), 3) := by decide +kernel
theorem dX8_shore_40 : decode cX8_shore 40 = .ok (.iload_n 1, 1) := by decide +kernel
theorem dX8_shore_41 : decode cX8_shore 41 = .ok (.ireturn, 1) := by decide +kernel
set_option maxRecDepth 20000 in
theorem ggX8_bestCatch_X8_catchOf : GoodIn wsX8_bestCatch wsX8_catchOf := goodIn_r _ [6, 7, 8, 9, 5, 10, 11, 12, 13, 14, 15, 16, 17, 1, 18, 19, 20, 21, 22, 23, 24, 25, 26, 27, 28, 29, 30, 31, 32, 33, 34, 35, 36, 37, 38, 39, 40, 41, 42, 43, 44, 45, 46, 47, 48, 49, 50, 51] (by decide +kernel) (by decide +kernel)
set_option maxRecDepth 20000 in
theorem gX8_bestCatch_X8_catchOf : GoodIn wsX8_bestCatch (wsV RX8 216 RX8 yX8_catchOf wsX8_catchOf) := goodIn_app (goodIn_of _ (by decide +kernel)) ggX8_bestCatch_X8_catchOf
theorem dX8_bestCatch_0 : decode cX8_bestCatch 0 = .ok (.iconst 0, 1) := by decide +kernel
theorem dX8_bestCatch_1 : decode cX8_bestCatch 1 = .ok (.istore_n 1, 1) := by decide +kernel
theorem dX8_bestCatch_2 : decode cX8_bestCatch 2 = .ok (.iconst 1, 1) := by decide +kernel
theorem dX8_bestCatch_3 : decode cX8_bestCatch 3 = .ok (.istore_n 2, 1) := by decide +kernel
theorem dX8_bestCatch_4 : decode cX8_bestCatch 4 = .ok (.iload_n 2, 1) := by decide +kernel
theorem dX8_bestCatch_5 : decode cX8_bestCatch 5 = .ok (.aload_n 0, 1) := by decide +kernel
theorem dX8_bestCatch_6 : decode cX8_bestCatch 6 = .ok (.getfield 7, 3) := by decide +kernel
theorem dX8_bestCatch_9 : decode cX8_bestCatch 9 = .ok (.iconst 0, 1) := by decide +kernel
theorem dX8_bestCatch_10 : decode cX8_bestCatch 10 = .ok (.iaload, 1) := by decide +kernel
theorem dX8_bestCatch_11 : decode cX8_bestCatch 11 = .ok (.if_icmp .ge 28, 3) := by decide +kernel
theorem dX8_bestCatch_14 : decode cX8_bestCatch 14 = .ok (.aload_n 0, 1) := by decide +kernel
theorem dX8_bestCatch_15 : decode cX8_bestCatch 15 = .ok (.iload_n 2, 1) := by decide +kernel
theorem dX8_bestCatch_16 : decode cX8_bestCatch 16 = .ok (.invokevirtual 216, 3) := by decide +kernel
theorem dX8_bestCatch_19 : decode cX8_bestCatch 19 = .ok (.aload_n 0, 1) := by decide +kernel
theorem dX8_bestCatch_20 : decode cX8_bestCatch 20 = .ok (.iload_n 1, 1) := by decide +kernel
theorem dX8_bestCatch_21 : decode cX8_bestCatch 21 = .ok (.invokevirtual 216, 3) := by decide +kernel
theorem dX8_bestCatch_24 : decode cX8_bestCatch 24 = .ok (.if_icmp .le 7, 3) := by decide +kernel
theorem dX8_bestCatch_27 : decode cX8_bestCatch 27 = .ok (.iload_n 2, 1) := by decide +kernel
theorem dX8_bestCatch_28 : decode cX8_bestCatch 28 = .ok (.goto 4, 3) := by decide +kernel
theorem dX8_bestCatch_31 : decode cX8_bestCatch 31 = .ok (.iload_n 1, 1) := by decide +kernel
theorem dX8_bestCatch_32 : decode cX8_bestCatch 32 = .ok (.istore_n 1, 1) := by decide +kernel
theorem dX8_bestCatch_33 : decode cX8_bestCatch 33 = .ok (.iinc 2 1, 3) := by decide +kernel
theorem dX8_bestCatch_36 : decode cX8_bestCatch 36 = .ok (.goto (-32), 3) := by decide +kernel
theorem dX8_bestCatch_39 : decode cX8_bestCatch 39 = .ok (.iload_n 1, 1) := by decide +kernel
theorem dX8_bestCatch_40 : decode cX8_bestCatch 40 = .ok (.ireturn, 1) := by decide +kernel
set_option maxRecDepth 20000 in
theorem ggX8_count_X8_ofKind : GoodIn wsX8_count wsX8_ofKind := goodIn_r _ [8, 1, 9, 10, 11, 7, 12, 13, 14, 15, 16, 17, 18, 19, 20, 75, 76, 77, 78, 79, 80, 81, 82, 83, 84, 85, 86, 87, 88, 89, 90, 91, 92, 93, 94, 95] (by decide +kernel) (by decide +kernel)
set_option maxRecDepth 20000 in
theorem gX8_count_X8_ofKind : GoodIn wsX8_count (wsV RX8 222 RX8 yX8_ofKind wsX8_ofKind) := goodIn_app (goodIn_of _ (by decide +kernel)) ggX8_count_X8_ofKind
set_option maxRecDepth 20000 in
theorem ggX8_count_X8_deepest : GoodIn wsX8_count wsX8_deepest := goodIn_r _ [24, 1, 25, 26, 27, 7, 28, 9, 10, 11, 12, 13, 14, 15, 16, 75, 76, 77, 78, 79, 80, 81, 82, 83, 84, 85, 86, 87, 88, 89, 90, 91, 92, 93, 94, 95] (by decide +kernel) (by decide +kernel)
set_option maxRecDepth 20000 in
theorem gX8_count_X8_deepest : GoodIn wsX8_count (wsV RX8 225 RX8 yX8_deepest wsX8_deepest) := goodIn_app (goodIn_of _ (by decide +kernel)) ggX8_count_X8_deepest
set_option maxRecDepth 20000 in
theorem ggX8_count_X8_reachOf : GoodIn wsX8_count wsX8_reachOf := goodIn_r _ [32, 1, 13, 14, 15, 7, 16, 33, 34, 35, 36, 37, 38, 75, 76, 77, 78, 79, 80, 81, 82, 83, 84, 85, 86, 87, 88, 89, 90, 91, 92, 93, 94, 95] (by decide +kernel) (by decide +kernel)
set_option maxRecDepth 20000 in
theorem gX8_count_X8_reachOf : GoodIn wsX8_count (wsV RX8 228 RX8 yX8_reachOf wsX8_reachOf) := goodIn_app (goodIn_of _ (by decide +kernel)) ggX8_count_X8_reachOf
set_option maxRecDepth 20000 in
theorem ggX8_count_X8_shore : GoodIn wsX8_count wsX8_shore := goodIn_r _ [42, 43, 44, 45, 7, 46, 1, 13, 14, 15, 16, 47, 48, 49, 50, 51, 52, 53, 54, 55, 56, 75, 76, 77, 78, 79, 80, 81, 82, 83, 84, 85, 86, 87, 88, 89, 90, 91, 92, 93, 94, 95] (by decide +kernel) (by decide +kernel)
set_option maxRecDepth 20000 in
theorem gX8_count_X8_shore : GoodIn wsX8_count (wsV RX8 231 RX8 yX8_shore wsX8_shore) := goodIn_app (goodIn_of _ (by decide +kernel)) ggX8_count_X8_shore
set_option maxRecDepth 20000 in
theorem ggX8_count_X8_bestCatch : GoodIn wsX8_count wsX8_bestCatch := goodIn_r _ [60, 1, 61, 62, 63, 7, 64, 65, 66, 67, 68, 69, 70, 71, 43, 44, 45, 46, 13, 14, 15, 16, 72, 73, 74, 51, 52, 53, 54, 55, 56, 75, 76, 77, 78, 79, 80, 81, 82, 83, 84, 85, 86, 87, 88, 89, 90, 91, 92, 93, 94, 95] (by decide +kernel) (by decide +kernel)
set_option maxRecDepth 20000 in
theorem gX8_count_X8_bestCatch : GoodIn wsX8_count (wsV RX8 234 RX8 yX8_bestCatch wsX8_bestCatch) := goodIn_app (goodIn_of _ (by decide +kernel)) ggX8_count_X8_bestCatch
set_option maxRecDepth 20000 in
theorem ggX8_count_X8_catchOf : GoodIn wsX8_count wsX8_catchOf := goodIn_r _ [64, 65, 66, 67, 7, 68, 69, 70, 71, 43, 44, 45, 46, 1, 13, 14, 15, 16, 72, 73, 74, 51, 52, 53, 54, 55, 56, 75, 76, 77, 78, 79, 80, 81, 82, 83, 84, 85, 86, 87, 88, 89, 90, 91, 92, 93, 94, 95] (by decide +kernel) (by decide +kernel)
set_option maxRecDepth 20000 in
theorem gX8_count_X8_catchOf : GoodIn wsX8_count (wsV RX8 216 RX8 yX8_catchOf wsX8_catchOf) := goodIn_app (goodIn_of _ (by decide +kernel)) ggX8_count_X8_catchOf
theorem dX8_count_0 : decode cX8_count 0 = .ok (.iload_n 1, 1) := by decide +kernel
theorem dX8_count_1 : decode cX8_count 1 = .ok (.tableswitch 179 0 19 #[95, 102, 102, 102, 108, 113, 118, 123, 123, 123, 123, 136, 145, 150, 150, 150, 150, 162, 169, 174], 95) := by decide +kernel
theorem dX8_count_96 : decode cX8_count 96 = .ok (.aload_n 0, 1) := by decide +kernel
theorem dX8_count_97 : decode cX8_count 97 = .ok (.getfield 7, 3) := by decide +kernel
theorem dX8_count_100 : decode cX8_count 100 = .ok (.iconst 0, 1) := by decide +kernel
theorem dX8_count_101 : decode cX8_count 101 = .ok (.iaload, 1) := by decide +kernel
theorem dX8_count_102 : decode cX8_count 102 = .ok (.ireturn, 1) := by decide +kernel
theorem dX8_count_103 : decode cX8_count 103 = .ok (.aload_n 0, 1) := by decide +kernel
theorem dX8_count_104 : decode cX8_count 104 = .ok (.iload_n 1, 1) := by decide +kernel
theorem dX8_count_105 : decode cX8_count 105 = .ok (.invokevirtual 222, 3) := by decide +kernel
theorem dX8_count_108 : decode cX8_count 108 = .ok (.ireturn, 1) := by decide +kernel
theorem dX8_count_109 : decode cX8_count 109 = .ok (.aload_n 0, 1) := by decide +kernel
theorem dX8_count_110 : decode cX8_count 110 = .ok (.invokevirtual 225, 3) := by decide +kernel
theorem dX8_count_113 : decode cX8_count 113 = .ok (.ireturn, 1) := by decide +kernel
theorem dX8_count_114 : decode cX8_count 114 = .ok (.aload_n 0, 1) := by decide +kernel
theorem dX8_count_115 : decode cX8_count 115 = .ok (.invokevirtual 228, 3) := by decide +kernel
theorem dX8_count_118 : decode cX8_count 118 = .ok (.ireturn, 1) := by decide +kernel
theorem dX8_count_119 : decode cX8_count 119 = .ok (.aload_n 0, 1) := by decide +kernel
theorem dX8_count_120 : decode cX8_count 120 = .ok (.invokevirtual 231, 3) := by decide +kernel
theorem dX8_count_123 : decode cX8_count 123 = .ok (.ireturn, 1) := by decide +kernel
theorem dX8_count_124 : decode cX8_count 124 = .ok (.aload_n 0, 1) := by decide +kernel
theorem dX8_count_125 : decode cX8_count 125 = .ok (.getfield 7, 3) := by decide +kernel
theorem dX8_count_128 : decode cX8_count 128 = .ok (.bipush 6, 2) := by decide +kernel
theorem dX8_count_130 : decode cX8_count 130 = .ok (.iload_n 1, 1) := by decide +kernel
theorem dX8_count_131 : decode cX8_count 131 = .ok (.iadd, 1) := by decide +kernel
theorem dX8_count_132 : decode cX8_count 132 = .ok (.bipush 7, 2) := by decide +kernel
theorem dX8_count_134 : decode cX8_count 134 = .ok (.isub, 1) := by decide +kernel
theorem dX8_count_135 : decode cX8_count 135 = .ok (.iaload, 1) := by decide +kernel
theorem dX8_count_136 : decode cX8_count 136 = .ok (.ireturn, 1) := by decide +kernel
theorem dX8_count_137 : decode cX8_count 137 = .ok (.aload_n 0, 1) := by decide +kernel
theorem dX8_count_138 : decode cX8_count 138 = .ok (.aload_n 0, 1) := by decide +kernel
theorem dX8_count_139 : decode cX8_count 139 = .ok (.invokevirtual 234, 3) := by decide +kernel
theorem dX8_count_142 : decode cX8_count 142 = .ok (.invokevirtual 216, 3) := by decide +kernel
theorem dX8_count_145 : decode cX8_count 145 = .ok (.ireturn, 1) := by decide +kernel
theorem dX8_count_146 : decode cX8_count 146 = .ok (.aload_n 0, 1) := by decide +kernel
theorem dX8_count_147 : decode cX8_count 147 = .ok (.invokevirtual 234, 3) := by decide +kernel
theorem dX8_count_150 : decode cX8_count 150 = .ok (.ireturn, 1) := by decide +kernel
theorem dX8_count_151 : decode cX8_count 151 = .ok (.aload_n 0, 1) := by decide +kernel
theorem dX8_count_152 : decode cX8_count 152 = .ok (.getfield 7, 3) := by decide +kernel
theorem dX8_count_155 : decode cX8_count 155 = .ok (.iconst 2, 1) := by decide +kernel
theorem dX8_count_156 : decode cX8_count 156 = .ok (.iload_n 1, 1) := by decide +kernel
theorem dX8_count_157 : decode cX8_count 157 = .ok (.iadd, 1) := by decide +kernel
theorem dX8_count_158 : decode cX8_count 158 = .ok (.bipush 13, 2) := by decide +kernel
theorem dX8_count_160 : decode cX8_count 160 = .ok (.isub, 1) := by decide +kernel
theorem dX8_count_161 : decode cX8_count 161 = .ok (.iaload, 1) := by decide +kernel
theorem dX8_count_162 : decode cX8_count 162 = .ok (.ireturn, 1) := by decide +kernel
theorem dX8_count_163 : decode cX8_count 163 = .ok (.aload_n 0, 1) := by decide +kernel
theorem dX8_count_164 : decode cX8_count 164 = .ok (.getfield 7, 3) := by decide +kernel
theorem dX8_count_167 : decode cX8_count 167 = .ok (.iconst 1, 1) := by decide +kernel
theorem dX8_count_168 : decode cX8_count 168 = .ok (.iaload, 1) := by decide +kernel
theorem dX8_count_169 : decode cX8_count 169 = .ok (.ireturn, 1) := by decide +kernel
theorem dX8_count_170 : decode cX8_count 170 = .ok (.aload_n 0, 1) := by decide +kernel
theorem dX8_count_171 : decode cX8_count 171 = .ok (.getfield 144, 3) := by decide +kernel
theorem dX8_count_174 : decode cX8_count 174 = .ok (.ireturn, 1) := by decide +kernel
theorem dX8_count_175 : decode cX8_count 175 = .ok (.aload_n 0, 1) := by decide +kernel
theorem dX8_count_176 : decode cX8_count 176 = .ok (.getfield 39, 3) := by decide +kernel
theorem dX8_count_179 : decode cX8_count 179 = .ok (.ireturn, 1) := by decide +kernel
theorem dX8_count_180 : decode cX8_count 180 = .ok (.iconst (-1), 1) := by decide +kernel
theorem dX8_count_181 : decode cX8_count 181 = .ok (.ireturn, 1) := by decide +kernel
set_option maxRecDepth 20000 in
theorem ggX8_density_X8_reachOf : GoodIn wsX8_density wsX8_reachOf := goodIn_r _ [6, 1, 7, 8, 9, 5, 10, 11, 12, 13, 14, 15, 16, 17, 18, 19, 20, 21, 22, 23, 24, 25, 26, 27, 28, 29, 30, 31, 32, 33, 34, 35, 36, 37] (by decide +kernel) (by decide +kernel)
set_option maxRecDepth 20000 in
theorem gX8_density_X8_reachOf : GoodIn wsX8_density (wsV RX8 228 RX8 yX8_reachOf wsX8_reachOf) := goodIn_app (goodIn_of _ (by decide +kernel)) ggX8_density_X8_reachOf
theorem dX8_density_0 : decode cX8_density 0 = .ok (.iconst 2, 1) := by decide +kernel
theorem dX8_density_1 : decode cX8_density 1 = .ok (.aload_n 0, 1) := by decide +kernel
theorem dX8_density_2 : decode cX8_density 2 = .ok (.invokevirtual 228, 3) := by decide +kernel
theorem dX8_density_5 : decode cX8_density 5 = .ok (.imul, 1) := by decide +kernel
theorem dX8_density_6 : decode cX8_density 6 = .ok (.iconst 1, 1) := by decide +kernel
theorem dX8_density_7 : decode cX8_density 7 = .ok (.iadd, 1) := by decide +kernel
theorem dX8_density_8 : decode cX8_density 8 = .ok (.istore_n 1, 1) := by decide +kernel
theorem dX8_density_9 : decode cX8_density 9 = .ok (.aload_n 0, 1) := by decide +kernel
theorem dX8_density_10 : decode cX8_density 10 = .ok (.getfield 7, 3) := by decide +kernel
theorem dX8_density_13 : decode cX8_density 13 = .ok (.iconst 0, 1) := by decide +kernel
theorem dX8_density_14 : decode cX8_density 14 = .ok (.iaload, 1) := by decide +kernel
theorem dX8_density_15 : decode cX8_density 15 = .ok (.i2d, 1) := by decide +kernel
theorem dX8_density_16 : decode cX8_density 16 = .ok (.iload_n 1, 1) := by decide +kernel
theorem dX8_density_17 : decode cX8_density 17 = .ok (.iload_n 1, 1) := by decide +kernel
theorem dX8_density_18 : decode cX8_density 18 = .ok (.imul, 1) := by decide +kernel
theorem dX8_density_19 : decode cX8_density 19 = .ok (.i2d, 1) := by decide +kernel
theorem dX8_density_20 : decode cX8_density 20 = .ok (.ddiv, 1) := by decide +kernel
theorem dX8_density_21 : decode cX8_density 21 = .ok (.dreturn, 1) := by decide +kernel
set_option maxRecDepth 20000 in
theorem ggX8_ifGone_X8_isRim : GoodIn wsX8_ifGone wsX8_isRim := goodIn_r _ [8, 9, 10, 7, 11] (by decide +kernel) (by decide +kernel)
set_option maxRecDepth 20000 in
theorem gX8_ifGone_X8_isRim : GoodIn wsX8_ifGone (va_wsS RX8 114 yX8_isRim wsX8_isRim) := goodIn_app (goodIn_of _ (by decide +kernel)) ggX8_ifGone_X8_isRim
set_option maxRecDepth 20000 in
theorem ggX8_ifGone_X8_in : GoodIn wsX8_ifGone wsX8_in := goodIn_r _ [11] (by decide +kernel) (by decide +kernel)
set_option maxRecDepth 20000 in
theorem gX8_ifGone_X8_in : GoodIn wsX8_ifGone (va_wsS RX8 47 yX8_in wsX8_in) := goodIn_app (goodIn_of _ (by decide +kernel)) ggX8_ifGone_X8_in
set_option maxRecDepth 20000 in
theorem ggX8_ifGone_X8_isBlocked : GoodIn wsX8_ifGone wsX8_isBlocked := goodIn_r _ [15, 16, 17, 7, 18, 19, 20, 21, 22, 1, 23, 24, 25, 26, 46, 47, 48, 49, 50, 51, 52, 53, 54, 55, 56, 57, 58, 59, 60, 61, 62, 63, 64, 65, 66] (by decide +kernel) (by decide +kernel)
set_option maxRecDepth 20000 in
theorem gX8_ifGone_X8_isBlocked : GoodIn wsX8_ifGone (wsV RX8 99 RX8 yX8_isBlocked wsX8_isBlocked) := goodIn_app (goodIn_of _ (by decide +kernel)) ggX8_ifGone_X8_isBlocked
set_option maxRecDepth 20000 in
theorem ggX8_ifGone_X8_rimCell : GoodIn wsX8_ifGone wsX8_rimCell := goodIn_r _ [18] (by decide +kernel) (by decide +kernel)
set_option maxRecDepth 20000 in
theorem gX8_ifGone_X8_rimCell : GoodIn wsX8_ifGone (va_wsS RX8 55 yX8_rimCell wsX8_rimCell) := goodIn_app (goodIn_of _ (by decide +kernel)) ggX8_ifGone_X8_rimCell
set_option maxRecDepth 20000 in
theorem ggX8_ifGone_X8_walks : GoodIn wsX8_ifGone wsX8_walks := goodIn_r _ [30, 2, 4, 3, 1, 31, 32, 33, 7, 34, 35, 36, 37, 9, 10, 11, 19, 20, 21, 22, 23, 24, 25, 26, 38, 39, 40, 41, 42, 43, 44, 45, 46, 47, 48, 49, 50, 51, 52, 53, 54, 55, 56, 57, 58, 59, 60, 61, 62, 63, 64, 65, 66] (by decide +kernel) (by decide +kernel)
set_option maxRecDepth 20000 in
theorem gX8_ifGone_X8_walks : GoodIn wsX8_ifGone (wsV RX8 95 RX8 yX8_walks wsX8_walks) := goodIn_app (goodIn_of _ (by decide +kernel)) ggX8_ifGone_X8_walks
theorem dX8_ifGone_0 : decode cX8_ifGone 0 = .ok (.iload_n 1, 1) := by decide +kernel
theorem dX8_ifGone_1 : decode cX8_ifGone 1 = .ok (.invokestatic 114, 3) := by decide +kernel
theorem dX8_ifGone_4 : decode cX8_ifGone 4 = .ok (.ifCond .eq 12, 3) := by decide +kernel
theorem dX8_ifGone_7 : decode cX8_ifGone 7 = .ok (.iload_n 2, 1) := by decide +kernel
theorem dX8_ifGone_8 : decode cX8_ifGone 8 = .ok (.iconst 0, 1) := by decide +kernel
theorem dX8_ifGone_9 : decode cX8_ifGone 9 = .ok (.iconst 2, 1) := by decide +kernel
theorem dX8_ifGone_10 : decode cX8_ifGone 10 = .ok (.invokestatic 47, 3) := by decide +kernel
theorem dX8_ifGone_13 : decode cX8_ifGone 13 = .ok (.ifCond .ne 5, 3) := by decide +kernel
theorem dX8_ifGone_16 : decode cX8_ifGone 16 = .ok (.iconst (-1), 1) := by decide +kernel
theorem dX8_ifGone_17 : decode cX8_ifGone 17 = .ok (.ireturn, 1) := by decide +kernel
theorem dX8_ifGone_18 : decode cX8_ifGone 18 = .ok (.aload_n 0, 1) := by decide +kernel
theorem dX8_ifGone_19 : decode cX8_ifGone 19 = .ok (.iload_n 1, 1) := by decide +kernel
theorem dX8_ifGone_20 : decode cX8_ifGone 20 = .ok (.invokevirtual 99, 3) := by decide +kernel
theorem dX8_ifGone_23 : decode cX8_ifGone 23 = .ok (.ifCond .eq 6, 3) := by decide +kernel
theorem dX8_ifGone_26 : decode cX8_ifGone 26 = .ok (.bipush (-2), 2) := by decide +kernel
theorem dX8_ifGone_28 : decode cX8_ifGone 28 = .ok (.ireturn, 1) := by decide +kernel
theorem dX8_ifGone_29 : decode cX8_ifGone 29 = .ok (.aload_n 0, 1) := by decide +kernel
theorem dX8_ifGone_30 : decode cX8_ifGone 30 = .ok (.getfield 7, 3) := by decide +kernel
theorem dX8_ifGone_33 : decode cX8_ifGone 33 = .ok (.iconst 1, 1) := by decide +kernel
theorem dX8_ifGone_34 : decode cX8_ifGone 34 = .ok (.iaload, 1) := by decide +kernel
theorem dX8_ifGone_35 : decode cX8_ifGone 35 = .ok (.istore_n 3, 1) := by decide +kernel
theorem dX8_ifGone_36 : decode cX8_ifGone 36 = .ok (.aload_n 0, 1) := by decide +kernel
theorem dX8_ifGone_37 : decode cX8_ifGone 37 = .ok (.iload_n 1, 1) := by decide +kernel
theorem dX8_ifGone_38 : decode cX8_ifGone 38 = .ok (.invokestatic 55, 3) := by decide +kernel
theorem dX8_ifGone_41 : decode cX8_ifGone 41 = .ok (.invokevirtual 95, 3) := by decide +kernel
theorem dX8_ifGone_44 : decode cX8_ifGone 44 = .ok (.istore 4, 2) := by decide +kernel
theorem dX8_ifGone_46 : decode cX8_ifGone 46 = .ok (.aload_n 0, 1) := by decide +kernel
theorem dX8_ifGone_47 : decode cX8_ifGone 47 = .ok (.getfield 7, 3) := by decide +kernel
theorem dX8_ifGone_50 : decode cX8_ifGone 50 = .ok (.iconst 1, 1) := by decide +kernel
theorem dX8_ifGone_51 : decode cX8_ifGone 51 = .ok (.iload_n 3, 1) := by decide +kernel
theorem dX8_ifGone_52 : decode cX8_ifGone 52 = .ok (.iastore, 1) := by decide +kernel
theorem dX8_ifGone_53 : decode cX8_ifGone 53 = .ok (.iload_n 2, 1) := by decide +kernel
theorem dX8_ifGone_54 : decode cX8_ifGone 54 = .ok (.iconst 1, 1) := by decide +kernel
theorem dX8_ifGone_55 : decode cX8_ifGone 55 = .ok (.if_icmp .ne 10, 3) := by decide +kernel
theorem dX8_ifGone_58 : decode cX8_ifGone 58 = .ok (.aload_n 0, 1) := by decide +kernel
theorem dX8_ifGone_59 : decode cX8_ifGone 59 = .ok (.getfield 78, 3) := by decide +kernel
theorem dX8_ifGone_62 : decode cX8_ifGone 62 = .ok (.goto 35, 3) := by decide +kernel
theorem dX8_ifGone_65 : decode cX8_ifGone 65 = .ok (.iload_n 2, 1) := by decide +kernel
theorem dX8_ifGone_66 : decode cX8_ifGone 66 = .ok (.iconst 2, 1) := by decide +kernel
theorem dX8_ifGone_67 : decode cX8_ifGone 67 = .ok (.if_icmp .ne 10, 3) := by decide +kernel
theorem dX8_ifGone_70 : decode cX8_ifGone 70 = .ok (.aload_n 0, 1) := by decide +kernel
theorem dX8_ifGone_71 : decode cX8_ifGone 71 = .ok (.getfield 75, 3) := by decide +kernel
theorem dX8_ifGone_74 : decode cX8_ifGone 74 = .ok (.goto 23, 3) := by decide +kernel
theorem dX8_ifGone_77 : decode cX8_ifGone 77 = .ok (.iload 4, 2) := by decide +kernel
theorem dX8_ifGone_79 : decode cX8_ifGone 79 = .ok (.ifCond .eq 14, 3) := by decide +kernel
theorem dX8_ifGone_82 : decode cX8_ifGone 82 = .ok (.sipush 1000, 3) := by decide +kernel
theorem dX8_ifGone_85 : decode cX8_ifGone 85 = .ok (.aload_n 0, 1) := by decide +kernel
theorem dX8_ifGone_86 : decode cX8_ifGone 86 = .ok (.getfield 78, 3) := by decide +kernel
theorem dX8_ifGone_89 : decode cX8_ifGone 89 = .ok (.iadd, 1) := by decide +kernel
theorem dX8_ifGone_90 : decode cX8_ifGone 90 = .ok (.goto 7, 3) := by decide +kernel
theorem dX8_ifGone_93 : decode cX8_ifGone 93 = .ok (.aload_n 0, 1) := by decide +kernel
theorem dX8_ifGone_94 : decode cX8_ifGone 94 = .ok (.getfield 81, 3) := by decide +kernel
theorem dX8_ifGone_97 : decode cX8_ifGone 97 = .ok (.ireturn, 1) := by decide +kernel
set_option maxRecDepth 20000 in
theorem ggX8_unscreened_X8_screening : GoodIn wsX8_unscreened wsX8_screening := goodIn_r _ [5, 6, 7, 4, 8, 9, 10, 11, 12, 13, 14, 15, 16, 17, 18, 19, 20, 21, 22, 23, 24, 25, 26, 27, 28, 29, 30, 31, 32, 33, 34, 35, 36, 37, 38, 39, 40, 41, 42, 43, 44, 45, 46, 47] (by decide +kernel) (by decide +kernel)
set_option maxRecDepth 20000 in
theorem gX8_unscreened_X8_screening : GoodIn wsX8_unscreened (wsV RX8 207 RX8 yX8_screening wsX8_screening) := goodIn_app (goodIn_of _ (by decide +kernel)) ggX8_unscreened_X8_screening
theorem dX8_unscreened_0 : decode cX8_unscreened 0 = .ok (.iconst 0, 1) := by decide +kernel
theorem dX8_unscreened_1 : decode cX8_unscreened 1 = .ok (.istore_n 1, 1) := by decide +kernel
theorem dX8_unscreened_2 : decode cX8_unscreened 2 = .ok (.iconst 0, 1) := by decide +kernel
theorem dX8_unscreened_3 : decode cX8_unscreened 3 = .ok (.istore_n 2, 1) := by decide +kernel
theorem dX8_unscreened_4 : decode cX8_unscreened 4 = .ok (.iload_n 2, 1) := by decide +kernel
theorem dX8_unscreened_5 : decode cX8_unscreened 5 = .ok (.bipush 40, 2) := by decide +kernel
theorem dX8_unscreened_7 : decode cX8_unscreened 7 = .ok (.if_icmp .ge 25, 3) := by decide +kernel
theorem dX8_unscreened_10 : decode cX8_unscreened 10 = .ok (.iload_n 1, 1) := by decide +kernel
theorem dX8_unscreened_11 : decode cX8_unscreened 11 = .ok (.aload_n 0, 1) := by decide +kernel
theorem dX8_unscreened_12 : decode cX8_unscreened 12 = .ok (.iload_n 2, 1) := by decide +kernel
theorem dX8_unscreened_13 : decode cX8_unscreened 13 = .ok (.invokevirtual 207, 3) := by decide +kernel
theorem dX8_unscreened_16 : decode cX8_unscreened 16 = .ok (.ifCond .ge 7, 3) := by decide +kernel
theorem dX8_unscreened_19 : decode cX8_unscreened 19 = .ok (.iconst 1, 1) := by decide +kernel
theorem dX8_unscreened_20 : decode cX8_unscreened 20 = .ok (.goto 4, 3) := by decide +kernel
theorem dX8_unscreened_23 : decode cX8_unscreened 23 = .ok (.iconst 0, 1) := by decide +kernel
theorem dX8_unscreened_24 : decode cX8_unscreened 24 = .ok (.iadd, 1) := by decide +kernel
theorem dX8_unscreened_25 : decode cX8_unscreened 25 = .ok (.istore_n 1, 1) := by decide +kernel
theorem dX8_unscreened_26 : decode cX8_unscreened 26 = .ok (.iinc 2 1, 3) := by decide +kernel
theorem dX8_unscreened_29 : decode cX8_unscreened 29 = .ok (.goto (-25), 3) := by decide +kernel
theorem dX8_unscreened_32 : decode cX8_unscreened 32 = .ok (.iload_n 1, 1) := by decide +kernel
theorem dX8_unscreened_33 : decode cX8_unscreened 33 = .ok (.ireturn, 1) := by decide +kernel
set_option maxRecDepth 20000 in
theorem ggX8_ifBroken_X8_isGrain : GoodIn wsX8_ifBroken wsX8_isGrain := goodIn_r _ [7, 1, 8, 9, 6, 10, 75, 76, 77, 78, 79, 80, 81, 82, 83, 84, 85, 86, 87, 88, 89, 90, 91, 92, 93, 94, 95] (by decide +kernel) (by decide +kernel)
set_option maxRecDepth 20000 in
theorem gX8_ifBroken_X8_isGrain : GoodIn wsX8_ifBroken (wsV RX8 117 RX8 yX8_isGrain wsX8_isGrain) := goodIn_app (goodIn_of _ (by decide +kernel)) ggX8_ifBroken_X8_isGrain
set_option maxRecDepth 20000 in
theorem ggX8_ifBroken_X8_in : GoodIn wsX8_ifBroken wsX8_in := goodIn_r _ [10] (by decide +kernel) (by decide +kernel)
set_option maxRecDepth 20000 in
theorem gX8_ifBroken_X8_in : GoodIn wsX8_ifBroken (va_wsS RX8 47 yX8_in wsX8_in) := goodIn_app (goodIn_of _ (by decide +kernel)) ggX8_ifBroken_X8_in
set_option maxRecDepth 20000 in
theorem ggX8_ifBroken_X8_holder : GoodIn wsX8_ifBroken wsX8_holder := goodIn_r _ [14, 15, 16, 17, 6, 18, 1, 75, 76, 77, 78, 79, 80, 81, 82, 83, 84, 85, 86, 87, 88, 89, 90, 91, 92, 93, 94, 95] (by decide +kernel) (by decide +kernel)
set_option maxRecDepth 20000 in
theorem gX8_ifBroken_X8_holder : GoodIn wsX8_ifBroken (wsV RX8 105 RX8 yX8_holder wsX8_holder) := goodIn_app (goodIn_of _ (by decide +kernel)) ggX8_ifBroken_X8_holder
set_option maxRecDepth 20000 in
theorem ggX8_ifBroken_X8_copies : GoodIn wsX8_ifBroken wsX8_copies := goodIn_r _ [21] (by decide +kernel) (by decide +kernel)
set_option maxRecDepth 20000 in
theorem gX8_ifBroken_X8_copies : GoodIn wsX8_ifBroken (va_wsS RX8 43 yX8_copies wsX8_copies) := goodIn_app (goodIn_of _ (by decide +kernel)) ggX8_ifBroken_X8_copies
set_option maxRecDepth 20000 in
theorem ggX8_ifBroken_X8_goBreak : GoodIn wsX8_ifBroken wsX8_goBreak := goodIn_r _ [25, 1, 26, 11, 12, 13, 6, 14, 15, 16, 17, 18, 27, 28, 29, 30, 31, 32, 33, 34, 35, 75, 76, 77, 78, 79, 80, 81, 82, 83, 84, 85, 86, 87, 88, 89, 90, 91, 92, 93, 94, 95] (by decide +kernel) (by decide +kernel)
set_option maxRecDepth 20000 in
theorem gX8_ifBroken_X8_goBreak : GoodIn wsX8_ifBroken (wsV RX8 132 RX8 yX8_goBreak wsX8_goBreak) := goodIn_app (goodIn_of _ (by decide +kernel)) ggX8_ifBroken_X8_goBreak
set_option maxRecDepth 20000 in
theorem ggX8_ifBroken_X8_reachOf : GoodIn wsX8_ifBroken wsX8_reachOf := goodIn_r _ [39, 1, 15, 16, 17, 6, 18, 40, 41, 42, 43, 44, 45, 75, 76, 77, 78, 79, 80, 81, 82, 83, 84, 85, 86, 87, 88, 89, 90, 91, 92, 93, 94, 95] (by decide +kernel) (by decide +kernel)
set_option maxRecDepth 20000 in
theorem gX8_ifBroken_X8_reachOf : GoodIn wsX8_ifBroken (wsV RX8 228 RX8 yX8_reachOf wsX8_reachOf) := goodIn_app (goodIn_of _ (by decide +kernel)) ggX8_ifBroken_X8_reachOf
set_option maxRecDepth 20000 in
theorem ggX8_ifBroken_X8_deepest : GoodIn wsX8_ifBroken wsX8_deepest := goodIn_r _ [49, 1, 50, 51, 52, 6, 53, 11, 12, 13, 14, 15, 16, 17, 18, 75, 76, 77, 78, 79, 80, 81, 82, 83, 84, 85, 86, 87, 88, 89, 90, 91, 92, 93, 94, 95] (by decide +kernel) (by decide +kernel)
set_option maxRecDepth 20000 in
theorem gX8_ifBroken_X8_deepest : GoodIn wsX8_ifBroken (wsV RX8 225 RX8 yX8_deepest wsX8_deepest) := goodIn_app (goodIn_of _ (by decide +kernel)) ggX8_ifBroken_X8_deepest
set_option maxRecDepth 20000 in
theorem ggX8_ifBroken_X8_unscreened : GoodIn wsX8_ifBroken wsX8_unscreened := goodIn_r _ [57, 58, 59, 60, 6, 61, 62, 63, 64, 65, 66, 67, 68, 1, 15, 16, 17, 18, 69, 70, 71, 72, 73, 74, 8, 9, 10, 75, 76, 77, 78, 79, 80, 81, 82, 83, 84, 85, 86, 87, 88, 89, 90, 91, 92, 93, 94, 95] (by decide +kernel) (by decide +kernel)
set_option maxRecDepth 20000 in
theorem gX8_ifBroken_X8_unscreened : GoodIn wsX8_ifBroken (wsV RX8 237 RX8 yX8_unscreened wsX8_unscreened) := goodIn_app (goodIn_of _ (by decide +kernel)) ggX8_ifBroken_X8_unscreened
theorem dX8_ifBroken_0 : decode cX8_ifBroken 0 = .ok (.aload_n 0, 1) := by decide +kernel
theorem dX8_ifBroken_1 : decode cX8_ifBroken 1 = .ok (.iload_n 1, 1) := by decide +kernel
theorem dX8_ifBroken_2 : decode cX8_ifBroken 2 = .ok (.invokevirtual 117, 3) := by decide +kernel
theorem dX8_ifBroken_5 : decode cX8_ifBroken 5 = .ok (.ifCond .eq 12, 3) := by decide +kernel
theorem dX8_ifBroken_8 : decode cX8_ifBroken 8 = .ok (.iload_n 2, 1) := by decide +kernel
theorem dX8_ifBroken_9 : decode cX8_ifBroken 9 = .ok (.iconst 0, 1) := by decide +kernel
theorem dX8_ifBroken_10 : decode cX8_ifBroken 10 = .ok (.iconst 3, 1) := by decide +kernel
theorem dX8_ifBroken_11 : decode cX8_ifBroken 11 = .ok (.invokestatic 47, 3) := by decide +kernel
theorem dX8_ifBroken_14 : decode cX8_ifBroken 14 = .ok (.ifCond .ne 5, 3) := by decide +kernel
theorem dX8_ifBroken_17 : decode cX8_ifBroken 17 = .ok (.iconst (-1), 1) := by decide +kernel
theorem dX8_ifBroken_18 : decode cX8_ifBroken 18 = .ok (.ireturn, 1) := by decide +kernel
theorem dX8_ifBroken_19 : decode cX8_ifBroken 19 = .ok (.aload_n 0, 1) := by decide +kernel
theorem dX8_ifBroken_20 : decode cX8_ifBroken 20 = .ok (.iload_n 1, 1) := by decide +kernel
theorem dX8_ifBroken_21 : decode cX8_ifBroken 21 = .ok (.invokevirtual 105, 3) := by decide +kernel
theorem dX8_ifBroken_24 : decode cX8_ifBroken 24 = .ok (.ifCond .ge 6, 3) := by decide +kernel
theorem dX8_ifBroken_27 : decode cX8_ifBroken 27 = .ok (.bipush (-2), 2) := by decide +kernel
theorem dX8_ifBroken_29 : decode cX8_ifBroken 29 = .ok (.ireturn, 1) := by decide +kernel
theorem dX8_ifBroken_30 : decode cX8_ifBroken 30 = .ok (.aload_n 0, 1) := by decide +kernel
theorem dX8_ifBroken_31 : decode cX8_ifBroken 31 = .ok (.getfield 7, 3) := by decide +kernel
theorem dX8_ifBroken_34 : decode cX8_ifBroken 34 = .ok (.iconst 0, 1) := by decide +kernel
theorem dX8_ifBroken_35 : decode cX8_ifBroken 35 = .ok (.aload_n 0, 1) := by decide +kernel
theorem dX8_ifBroken_36 : decode cX8_ifBroken 36 = .ok (.getfield 13, 3) := by decide +kernel
theorem dX8_ifBroken_39 : decode cX8_ifBroken 39 = .ok (.iconst 0, 1) := by decide +kernel
theorem dX8_ifBroken_40 : decode cX8_ifBroken 40 = .ok (.invokestatic 43, 3) := by decide +kernel
theorem dX8_ifBroken_43 : decode cX8_ifBroken 43 = .ok (.aload_n 0, 1) := by decide +kernel
theorem dX8_ifBroken_44 : decode cX8_ifBroken 44 = .ok (.iload_n 1, 1) := by decide +kernel
theorem dX8_ifBroken_45 : decode cX8_ifBroken 45 = .ok (.invokevirtual 132, 3) := by decide +kernel
theorem dX8_ifBroken_48 : decode cX8_ifBroken 48 = .ok (.istore_n 3, 1) := by decide +kernel
theorem dX8_ifBroken_49 : decode cX8_ifBroken 49 = .ok (.iload_n 2, 1) := by decide +kernel
theorem dX8_ifBroken_50 : decode cX8_ifBroken 50 = .ok (.ifCond .ne 12, 3) := by decide +kernel
theorem dX8_ifBroken_53 : decode cX8_ifBroken 53 = .ok (.aload_n 0, 1) := by decide +kernel
theorem dX8_ifBroken_54 : decode cX8_ifBroken 54 = .ok (.getfield 7, 3) := by decide +kernel
theorem dX8_ifBroken_57 : decode cX8_ifBroken 57 = .ok (.iconst 0, 1) := by decide +kernel
theorem dX8_ifBroken_58 : decode cX8_ifBroken 58 = .ok (.iaload, 1) := by decide +kernel
theorem dX8_ifBroken_59 : decode cX8_ifBroken 59 = .ok (.goto 31, 3) := by decide +kernel
theorem dX8_ifBroken_62 : decode cX8_ifBroken 62 = .ok (.iload_n 2, 1) := by decide +kernel
theorem dX8_ifBroken_63 : decode cX8_ifBroken 63 = .ok (.iconst 1, 1) := by decide +kernel
theorem dX8_ifBroken_64 : decode cX8_ifBroken 64 = .ok (.if_icmp .ne 10, 3) := by decide +kernel
theorem dX8_ifBroken_67 : decode cX8_ifBroken 67 = .ok (.aload_n 0, 1) := by decide +kernel
theorem dX8_ifBroken_68 : decode cX8_ifBroken 68 = .ok (.invokevirtual 228, 3) := by decide +kernel
theorem dX8_ifBroken_71 : decode cX8_ifBroken 71 = .ok (.goto 19, 3) := by decide +kernel
theorem dX8_ifBroken_74 : decode cX8_ifBroken 74 = .ok (.iload_n 2, 1) := by decide +kernel
theorem dX8_ifBroken_75 : decode cX8_ifBroken 75 = .ok (.iconst 2, 1) := by decide +kernel
theorem dX8_ifBroken_76 : decode cX8_ifBroken 76 = .ok (.if_icmp .ne 10, 3) := by decide +kernel
theorem dX8_ifBroken_79 : decode cX8_ifBroken 79 = .ok (.aload_n 0, 1) := by decide +kernel
theorem dX8_ifBroken_80 : decode cX8_ifBroken 80 = .ok (.invokevirtual 225, 3) := by decide +kernel
theorem dX8_ifBroken_83 : decode cX8_ifBroken 83 = .ok (.goto 7, 3) := by decide +kernel
theorem dX8_ifBroken_86 : decode cX8_ifBroken 86 = .ok (.aload_n 0, 1) := by decide +kernel
theorem dX8_ifBroken_87 : decode cX8_ifBroken 87 = .ok (.invokevirtual 237, 3) := by decide +kernel
theorem dX8_ifBroken_90 : decode cX8_ifBroken 90 = .ok (.istore 4, 2) := by decide +kernel
theorem dX8_ifBroken_92 : decode cX8_ifBroken 92 = .ok (.aload_n 0, 1) := by decide +kernel
theorem dX8_ifBroken_93 : decode cX8_ifBroken 93 = .ok (.getfield 13, 3) := by decide +kernel
theorem dX8_ifBroken_96 : decode cX8_ifBroken 96 = .ok (.iconst 0, 1) := by decide +kernel
theorem dX8_ifBroken_97 : decode cX8_ifBroken 97 = .ok (.aload_n 0, 1) := by decide +kernel
theorem dX8_ifBroken_98 : decode cX8_ifBroken 98 = .ok (.getfield 7, 3) := by decide +kernel
theorem dX8_ifBroken_101 : decode cX8_ifBroken 101 = .ok (.iconst 0, 1) := by decide +kernel
theorem dX8_ifBroken_102 : decode cX8_ifBroken 102 = .ok (.invokestatic 43, 3) := by decide +kernel
theorem dX8_ifBroken_105 : decode cX8_ifBroken 105 = .ok (.iload 4, 2) := by decide +kernel
theorem dX8_ifBroken_107 : decode cX8_ifBroken 107 = .ok (.ireturn, 1) := by decide +kernel
set_option maxRecDepth 20000 in
theorem ggX8_undo_X8_copies : GoodIn wsX8_undo wsX8_copies := goodIn_r _ [7] (by decide +kernel) (by decide +kernel)
set_option maxRecDepth 20000 in
theorem gX8_undo_X8_copies : GoodIn wsX8_undo (va_wsS RX8 43 yX8_copies wsX8_copies) := goodIn_app (goodIn_of _ (by decide +kernel)) ggX8_undo_X8_copies
theorem dX8_undo_0 : decode cX8_undo 0 = .ok (.aload_n 0, 1) := by decide +kernel
theorem dX8_undo_1 : decode cX8_undo 1 = .ok (.getfield 39, 3) := by decide +kernel
theorem dX8_undo_4 : decode cX8_undo 4 = .ok (.ifCond .ne 6, 3) := by decide +kernel
theorem dX8_undo_7 : decode cX8_undo 7 = .ok (.bipush (-2), 2) := by decide +kernel
theorem dX8_undo_9 : decode cX8_undo 9 = .ok (.ireturn, 1) := by decide +kernel
theorem dX8_undo_10 : decode cX8_undo 10 = .ok (.aload_n 0, 1) := by decide +kernel
theorem dX8_undo_11 : decode cX8_undo 11 = .ok (.dup, 1) := by decide +kernel
theorem dX8_undo_12 : decode cX8_undo 12 = .ok (.getfield 39, 3) := by decide +kernel
theorem dX8_undo_15 : decode cX8_undo 15 = .ok (.iconst 1, 1) := by decide +kernel
theorem dX8_undo_16 : decode cX8_undo 16 = .ok (.isub, 1) := by decide +kernel
theorem dX8_undo_17 : decode cX8_undo 17 = .ok (.putfield 39, 3) := by decide +kernel
theorem dX8_undo_20 : decode cX8_undo 20 = .ok (.aload_n 0, 1) := by decide +kernel
theorem dX8_undo_21 : decode cX8_undo 21 = .ok (.getfield 16, 3) := by decide +kernel
theorem dX8_undo_24 : decode cX8_undo 24 = .ok (.sipush 373, 3) := by decide +kernel
theorem dX8_undo_27 : decode cX8_undo 27 = .ok (.aload_n 0, 1) := by decide +kernel
theorem dX8_undo_28 : decode cX8_undo 28 = .ok (.getfield 39, 3) := by decide +kernel
theorem dX8_undo_31 : decode cX8_undo 31 = .ok (.imul, 1) := by decide +kernel
theorem dX8_undo_32 : decode cX8_undo 32 = .ok (.aload_n 0, 1) := by decide +kernel
theorem dX8_undo_33 : decode cX8_undo 33 = .ok (.getfield 7, 3) := by decide +kernel
theorem dX8_undo_36 : decode cX8_undo 36 = .ok (.iconst 0, 1) := by decide +kernel
theorem dX8_undo_37 : decode cX8_undo 37 = .ok (.invokestatic 43, 3) := by decide +kernel
theorem dX8_undo_40 : decode cX8_undo 40 = .ok (.aload_n 0, 1) := by decide +kernel
theorem dX8_undo_41 : decode cX8_undo 41 = .ok (.getfield 39, 3) := by decide +kernel
theorem dX8_undo_44 : decode cX8_undo 44 = .ok (.ireturn, 1) := by decide +kernel
set_option maxRecDepth 20000 in
theorem ggX8_save_X8_copies : GoodIn wsX8_save wsX8_copies := goodIn_r _ [7] (by decide +kernel) (by decide +kernel)
set_option maxRecDepth 20000 in
theorem gX8_save_X8_copies : GoodIn wsX8_save (va_wsS RX8 43 yX8_copies wsX8_copies) := goodIn_app (goodIn_of _ (by decide +kernel)) ggX8_save_X8_copies
