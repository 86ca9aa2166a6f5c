theorem dX7_letWalk_0 : decode cX7_letWalk 0 = .ok (.aload_n 0, 1) := by decide +kernel
theorem dX7_letWalk_1 : decode cX7_letWalk 1 = .ok (.getfield 29, 3) := by decide +kernel
theorem dX7_letWalk_4 : decode cX7_letWalk 4 = .ok (.aload_n 0, 1) := by decide +kernel
theorem dX7_letWalk_5 : decode cX7_letWalk 5 = .ok (.getfield 12, 3) := by decide +kernel
theorem dX7_letWalk_8 : decode cX7_letWalk 8 = .ok (.iload_n 1, 1) := by decide +kernel
theorem dX7_letWalk_9 : decode cX7_letWalk 9 = .ok (.invokestatic 249, 3) := by decide +kernel
theorem dX7_letWalk_12 : decode cX7_letWalk 12 = .ok (.invokevirtual 252, 3) := by decide +kernel
theorem dX7_letWalk_15 : decode cX7_letWalk 15 = .ok (.aload_n 0, 1) := by decide +kernel
theorem dX7_letWalk_16 : decode cX7_letWalk 16 = .ok (.getfield 12, 3) := by decide +kernel
theorem dX7_letWalk_19 : decode cX7_letWalk 19 = .ok (.aload_n 0, 1) := by decide +kernel
theorem dX7_letWalk_20 : decode cX7_letWalk 20 = .ok (.getfield 29, 3) := by decide +kernel
theorem dX7_letWalk_23 : decode cX7_letWalk 23 = .ok (.invokevirtual 276, 3) := by decide +kernel
theorem dX7_letWalk_26 : decode cX7_letWalk 26 = .ok (.aload_n 0, 1) := by decide +kernel
theorem dX7_letWalk_27 : decode cX7_letWalk 27 = .ok (.getfield 29, 3) := by decide +kernel
theorem dX7_letWalk_30 : decode cX7_letWalk 30 = .ok (.invokevirtual 256, 3) := by decide +kernel
theorem dX7_letWalk_33 : decode cX7_letWalk 33 = .ok (.ireturn, 1) := by decide +kernel
set_option maxRecDepth 20000 in
theorem ggX7_dropSticks_X7_nextLot : GoodIn wsX7_dropSticks wsX7_nextLot := goodIn_r _ [6] (by decide +kernel) (by decide +kernel)
set_option maxRecDepth 20000 in
theorem gX7_dropSticks_X7_nextLot : GoodIn wsX7_dropSticks (va_wsS RX7 280 yX7_nextLot wsX7_nextLot) := goodIn_app (goodIn_of _ (by decide +kernel)) ggX7_dropSticks_X7_nextLot
set_option maxRecDepth 20000 in
theorem ggX7_dropSticks_X4_refusalToGo : GoodIn wsX7_dropSticks wsX4_refusalToGo := goodIn_r _ [11, 12, 13, 14, 15, 16, 17, 18, 19, 20, 21, 10, 22, 23, 116, 117, 118, 119, 120, 121, 122, 123, 124, 125, 126] (by decide +kernel) (by decide +kernel)
set_option maxRecDepth 20000 in
theorem gX7_dropSticks_X4_refusalToGo : GoodIn wsX7_dropSticks (wsV RX7 88 RX4 yX4_refusalToGo wsX4_refusalToGo) := goodIn_app (goodIn_of _ (by decide +kernel)) ggX7_dropSticks_X4_refusalToGo
set_option maxRecDepth 20000 in
theorem ggX7_dropSticks_X4_loseAtOnce : GoodIn wsX7_dropSticks wsX4_loseAtOnce := goodIn_r _ [27, 28, 29, 116, 117, 118, 119, 120, 121, 122, 123, 124, 125, 126] (by decide +kernel) (by decide +kernel)
set_option maxRecDepth 20000 in
theorem gX7_dropSticks_X4_loseAtOnce : GoodIn wsX7_dropSticks (wsV RX7 283 RX4 yX4_loseAtOnce wsX4_loseAtOnce) := goodIn_app (goodIn_of _ (by decide +kernel)) ggX7_dropSticks_X4_loseAtOnce
set_option maxRecDepth 20000 in
theorem ggX7_dropSticks_X7_letWalk : GoodIn wsX7_dropSticks wsX7_letWalk := goodIn_r _ [33, 2, 1, 34, 17, 14, 18, 35, 36, 37, 38, 39, 40, 41, 42, 43, 44, 45, 46, 47, 10, 48, 49, 50, 51, 52, 53, 54, 55, 56, 57, 58, 59, 60, 19, 20, 21, 22, 23, 61, 62, 63, 64, 4, 5, 6, 65, 66, 67, 68, 69, 70, 71, 72, 73, 74, 75, 28, 76, 29, 77, 78, 79, 80, 81, 82, 83, 84, 85, 86, 87, 88, 89, 90, 91, 92, 93, 94, 95, 96, 97, 98, 99, 100, 102, 103, 104, 105, 106, 107, 108, 109, 110, 111, 112, 113, 114, 115, 127, 128, 129, 130, 131, 116, 117, 118, 119, 120, 121, 122, 123, 124, 125, 126] (by decide +kernel) (by decide +kernel)
set_option maxRecDepth 20000 in
theorem gX7_dropSticks_X7_letWalk : GoodIn wsX7_dropSticks (wsV RX7 91 RX7 yX7_letWalk wsX7_letWalk) := goodIn_app (goodIn_of _ (by decide +kernel)) ggX7_dropSticks_X7_letWalk
set_option maxRecDepth 20000 in
theorem ggX7_dropSticks_X6_sticks : GoodIn wsX7_dropSticks wsX6_sticks := goodIn_r _ [80, 44, 127, 128, 129, 130, 131] (by decide +kernel) (by decide +kernel)
set_option maxRecDepth 20000 in
theorem gX7_dropSticks_X6_sticks : GoodIn wsX7_dropSticks (wsV RX7 286 RX6 yX6_sticks wsX6_sticks) := goodIn_app (goodIn_of _ (by decide +kernel)) ggX7_dropSticks_X6_sticks
theorem dX7_dropSticks_0 : decode cX7_dropSticks 0 = .ok (.aload_n 0, 1) := by decide +kernel
theorem dX7_dropSticks_1 : decode cX7_dropSticks 1 = .ok (.getfield 12, 3) := by decide +kernel
theorem dX7_dropSticks_4 : decode cX7_dropSticks 4 = .ok (.aload_n 0, 1) := by decide +kernel
theorem dX7_dropSticks_5 : decode cX7_dropSticks 5 = .ok (.getfield 12, 3) := by decide +kernel
theorem dX7_dropSticks_8 : decode cX7_dropSticks 8 = .ok (.getfield 85, 3) := by decide +kernel
theorem dX7_dropSticks_11 : decode cX7_dropSticks 11 = .ok (.invokestatic 280, 3) := by decide +kernel
theorem dX7_dropSticks_14 : decode cX7_dropSticks 14 = .ok (.putfield 85, 3) := by decide +kernel
theorem dX7_dropSticks_17 : decode cX7_dropSticks 17 = .ok (.aload_n 0, 1) := by decide +kernel
theorem dX7_dropSticks_18 : decode cX7_dropSticks 18 = .ok (.getfield 12, 3) := by decide +kernel
theorem dX7_dropSticks_21 : decode cX7_dropSticks 21 = .ok (.getfield 85, 3) := by decide +kernel
theorem dX7_dropSticks_24 : decode cX7_dropSticks 24 = .ok (.bipush 40, 2) := by decide +kernel
theorem dX7_dropSticks_26 : decode cX7_dropSticks 26 = .ok (.irem, 1) := by decide +kernel
theorem dX7_dropSticks_27 : decode cX7_dropSticks 27 = .ok (.istore_n 1, 1) := by decide +kernel
theorem dX7_dropSticks_28 : decode cX7_dropSticks 28 = .ok (.aload_n 0, 1) := by decide +kernel
theorem dX7_dropSticks_29 : decode cX7_dropSticks 29 = .ok (.getfield 12, 3) := by decide +kernel
theorem dX7_dropSticks_32 : decode cX7_dropSticks 32 = .ok (.iload_n 1, 1) := by decide +kernel
theorem dX7_dropSticks_33 : decode cX7_dropSticks 33 = .ok (.invokevirtual 88, 3) := by decide +kernel
theorem dX7_dropSticks_36 : decode cX7_dropSticks 36 = .ok (.ifCond .eq 12, 3) := by decide +kernel
theorem dX7_dropSticks_39 : decode cX7_dropSticks 39 = .ok (.aload_n 0, 1) := by decide +kernel
theorem dX7_dropSticks_40 : decode cX7_dropSticks 40 = .ok (.getfield 12, 3) := by decide +kernel
theorem dX7_dropSticks_43 : decode cX7_dropSticks 43 = .ok (.invokevirtual 283, 3) := by decide +kernel
theorem dX7_dropSticks_46 : decode cX7_dropSticks 46 = .ok (.iconst 0, 1) := by decide +kernel
theorem dX7_dropSticks_47 : decode cX7_dropSticks 47 = .ok (.ireturn, 1) := by decide +kernel
theorem dX7_dropSticks_48 : decode cX7_dropSticks 48 = .ok (.aload_n 0, 1) := by decide +kernel
theorem dX7_dropSticks_49 : decode cX7_dropSticks 49 = .ok (.iload_n 1, 1) := by decide +kernel
theorem dX7_dropSticks_50 : decode cX7_dropSticks 50 = .ok (.invokevirtual 91, 3) := by decide +kernel
theorem dX7_dropSticks_53 : decode cX7_dropSticks 53 = .ok (.pop, 1) := by decide +kernel
theorem dX7_dropSticks_54 : decode cX7_dropSticks 54 = .ok (.aload_n 0, 1) := by decide +kernel
theorem dX7_dropSticks_55 : decode cX7_dropSticks 55 = .ok (.getfield 29, 3) := by decide +kernel
theorem dX7_dropSticks_58 : decode cX7_dropSticks 58 = .ok (.invokevirtual 286, 3) := by decide +kernel
theorem dX7_dropSticks_61 : decode cX7_dropSticks 61 = .ok (.ireturn, 1) := by decide +kernel
set_option maxRecDepth 20000 in
theorem ggX7_answerOfDeed_X0_dropTips : GoodIn wsX7_answerOfDeed wsX0_dropTips := goodIn_r _ [7, 8, 9, 10, 11, 12, 13, 14, 15, 16, 17, 18, 19, 20, 21, 22, 23, 24, 25, 26, 27, 28, 29, 30, 31, 32, 33, 34, 35, 36, 37, 141, 142, 143, 144, 145, 146, 147, 148, 149, 150, 151, 152, 153] (by decide +kernel) (by decide +kernel)
set_option maxRecDepth 20000 in
theorem gX7_answerOfDeed_X0_dropTips : GoodIn wsX7_answerOfDeed (wsV RX7 105 RX0 yX0_dropTips wsX0_dropTips) := goodIn_app (goodIn_of _ (by decide +kernel)) ggX7_answerOfDeed_X0_dropTips
set_option maxRecDepth 20000 in
theorem ggX7_answerOfDeed_X4_refusalToGo : GoodIn wsX7_answerOfDeed wsX4_refusalToGo := goodIn_r _ [41, 42, 43, 36, 44, 45, 46, 47, 48, 49, 50, 13, 51, 33, 141, 142, 143, 144, 145, 146, 147, 148, 149, 150, 151] (by decide +kernel) (by decide +kernel)
set_option maxRecDepth 20000 in
theorem gX7_answerOfDeed_X4_refusalToGo : GoodIn wsX7_answerOfDeed (wsV RX7 88 RX4 yX4_refusalToGo wsX4_refusalToGo) := goodIn_app (goodIn_of _ (by decide +kernel)) ggX7_answerOfDeed_X4_refusalToGo
set_option maxRecDepth 20000 in
theorem ggX7_answerOfDeed_X4_refusalToBreak : GoodIn wsX7_answerOfDeed wsX4_refusalToBreak := goodIn_r _ [55, 16, 17, 18, 13, 19, 20, 56, 11, 12, 14, 15, 141, 142, 143, 144, 145, 146, 147, 148, 149, 150, 151] (by decide +kernel) (by decide +kernel)
set_option maxRecDepth 20000 in
theorem gX7_answerOfDeed_X4_refusalToBreak : GoodIn wsX7_answerOfDeed (wsV RX7 98 RX4 yX4_refusalToBreak wsX4_refusalToBreak) := goodIn_app (goodIn_of _ (by decide +kernel)) ggX7_answerOfDeed_X4_refusalToBreak
set_option maxRecDepth 20000 in
theorem ggX7_answerOfDeed_X7_letWalk : GoodIn wsX7_answerOfDeed wsX7_letWalk := goodIn_r _ [61, 62, 2, 63, 46, 36, 47, 64, 65, 66, 67, 68, 69, 70, 71, 72, 73, 74, 75, 76, 13, 77, 78, 79, 80, 81, 82, 83, 84, 85, 86, 87, 88, 89, 48, 49, 50, 51, 33, 90, 91, 92, 93, 94, 60, 95, 96, 97, 98, 99, 100, 101, 102, 103, 104, 105, 106, 107, 108, 109, 110, 111, 112, 113, 114, 115, 116, 117, 20, 26, 15, 27, 34, 35, 37, 29, 30, 31, 32, 118, 119, 120, 121, 122, 127, 128, 129, 130, 131, 132, 133, 134, 135, 136, 137, 138, 139, 140, 154, 155, 156, 157, 158, 141, 142, 143, 144, 145, 146, 147, 148, 149, 150, 151] (by decide +kernel) (by decide +kernel)
set_option maxRecDepth 20000 in
theorem gX7_answerOfDeed_X7_letWalk : GoodIn wsX7_answerOfDeed (wsV RX7 91 RX7 yX7_letWalk wsX7_letWalk) := goodIn_app (goodIn_of _ (by decide +kernel)) ggX7_answerOfDeed_X7_letWalk
set_option maxRecDepth 20000 in
theorem ggX7_answerOfDeed_X0_dropTree : GoodIn wsX7_answerOfDeed wsX0_dropTree := goodIn_r _ [126, 8, 9, 10, 11, 12, 13, 14, 15, 16, 17, 18, 19, 20, 21, 22, 23, 24, 25, 26, 27, 28, 29, 30, 31, 32, 33, 34, 35, 36, 37, 141, 142, 143, 144, 145, 146, 147, 148, 149, 150, 151, 152, 153] (by decide +kernel) (by decide +kernel)
set_option maxRecDepth 20000 in
theorem gX7_answerOfDeed_X0_dropTree : GoodIn wsX7_answerOfDeed (wsV RX7 101 RX0 yX0_dropTree wsX0_dropTree) := goodIn_app (goodIn_of _ (by decide +kernel)) ggX7_answerOfDeed_X0_dropTree
theorem dX7_answerOfDeed_0 : decode cX7_answerOfDeed 0 = .ok (.iload_n 1, 1) := by decide +kernel
theorem dX7_answerOfDeed_1 : decode cX7_answerOfDeed 1 = .ok (.bipush 119, 2) := by decide +kernel
theorem dX7_answerOfDeed_3 : decode cX7_answerOfDeed 3 = .ok (.if_icmp .ne 15, 3) := by decide +kernel
theorem dX7_answerOfDeed_6 : decode cX7_answerOfDeed 6 = .ok (.aload_n 0, 1) := by decide +kernel
theorem dX7_answerOfDeed_7 : decode cX7_answerOfDeed 7 = .ok (.getfield 36, 3) := by decide +kernel
theorem dX7_answerOfDeed_10 : decode cX7_answerOfDeed 10 = .ok (.aload_n 0, 1) := by decide +kernel
theorem dX7_answerOfDeed_11 : decode cX7_answerOfDeed 11 = .ok (.getfield 12, 3) := by decide +kernel
theorem dX7_answerOfDeed_14 : decode cX7_answerOfDeed 14 = .ok (.invokevirtual 105, 3) := by decide +kernel
theorem dX7_answerOfDeed_17 : decode cX7_answerOfDeed 17 = .ok (.ireturn, 1) := by decide +kernel
theorem dX7_answerOfDeed_18 : decode cX7_answerOfDeed 18 = .ok (.iload_n 1, 1) := by decide +kernel
theorem dX7_answerOfDeed_19 : decode cX7_answerOfDeed 19 = .ok (.bipush 103, 2) := by decide +kernel
theorem dX7_answerOfDeed_21 : decode cX7_answerOfDeed 21 = .ok (.if_icmp .ne 14, 3) := by decide +kernel
theorem dX7_answerOfDeed_24 : decode cX7_answerOfDeed 24 = .ok (.aload_n 0, 1) := by decide +kernel
theorem dX7_answerOfDeed_25 : decode cX7_answerOfDeed 25 = .ok (.getfield 12, 3) := by decide +kernel
theorem dX7_answerOfDeed_28 : decode cX7_answerOfDeed 28 = .ok (.iload_n 2, 1) := by decide +kernel
theorem dX7_answerOfDeed_29 : decode cX7_answerOfDeed 29 = .ok (.invokevirtual 88, 3) := by decide +kernel
theorem dX7_answerOfDeed_32 : decode cX7_answerOfDeed 32 = .ok (.goto 11, 3) := by decide +kernel
theorem dX7_answerOfDeed_35 : decode cX7_answerOfDeed 35 = .ok (.aload_n 0, 1) := by decide +kernel
theorem dX7_answerOfDeed_36 : decode cX7_answerOfDeed 36 = .ok (.getfield 12, 3) := by decide +kernel
theorem dX7_answerOfDeed_39 : decode cX7_answerOfDeed 39 = .ok (.iload_n 2, 1) := by decide +kernel
theorem dX7_answerOfDeed_40 : decode cX7_answerOfDeed 40 = .ok (.invokevirtual 98, 3) := by decide +kernel
theorem dX7_answerOfDeed_43 : decode cX7_answerOfDeed 43 = .ok (.istore_n 3, 1) := by decide +kernel
theorem dX7_answerOfDeed_44 : decode cX7_answerOfDeed 44 = .ok (.iload_n 3, 1) := by decide +kernel
theorem dX7_answerOfDeed_45 : decode cX7_answerOfDeed 45 = .ok (.ifCond .eq 5, 3) := by decide +kernel
theorem dX7_answerOfDeed_48 : decode cX7_answerOfDeed 48 = .ok (.iload_n 3, 1) := by decide +kernel
theorem dX7_answerOfDeed_49 : decode cX7_answerOfDeed 49 = .ok (.ireturn, 1) := by decide +kernel
theorem dX7_answerOfDeed_50 : decode cX7_answerOfDeed 50 = .ok (.iload_n 1, 1) := by decide +kernel
theorem dX7_answerOfDeed_51 : decode cX7_answerOfDeed 51 = .ok (.bipush 103, 2) := by decide +kernel
theorem dX7_answerOfDeed_53 : decode cX7_answerOfDeed 53 = .ok (.if_icmp .ne 11, 3) := by decide +kernel
theorem dX7_answerOfDeed_56 : decode cX7_answerOfDeed 56 = .ok (.aload_n 0, 1) := by decide +kernel
theorem dX7_answerOfDeed_57 : decode cX7_answerOfDeed 57 = .ok (.iload_n 2, 1) := by decide +kernel
theorem dX7_answerOfDeed_58 : decode cX7_answerOfDeed 58 = .ok (.invokevirtual 91, 3) := by decide +kernel
theorem dX7_answerOfDeed_61 : decode cX7_answerOfDeed 61 = .ok (.goto 15, 3) := by decide +kernel
theorem dX7_answerOfDeed_64 : decode cX7_answerOfDeed 64 = .ok (.aload_n 0, 1) := by decide +kernel
theorem dX7_answerOfDeed_65 : decode cX7_answerOfDeed 65 = .ok (.getfield 36, 3) := by decide +kernel
theorem dX7_answerOfDeed_68 : decode cX7_answerOfDeed 68 = .ok (.aload_n 0, 1) := by decide +kernel
theorem dX7_answerOfDeed_69 : decode cX7_answerOfDeed 69 = .ok (.getfield 12, 3) := by decide +kernel
theorem dX7_answerOfDeed_72 : decode cX7_answerOfDeed 72 = .ok (.iload_n 2, 1) := by decide +kernel
theorem dX7_answerOfDeed_73 : decode cX7_answerOfDeed 73 = .ok (.invokevirtual 101, 3) := by decide +kernel
theorem dX7_answerOfDeed_76 : decode cX7_answerOfDeed 76 = .ok (.ireturn, 1) := by decide +kernel
set_option maxRecDepth 20000 in
theorem ggX7_catchOf_X3_read : GoodIn wsX7_catchOf wsX3_read := goodIn_r _ [7, 8, 9, 10, 11, 12, 6, 13, 14, 15, 16, 17, 18, 19, 20, 21, 22, 23, 24, 25, 26, 27, 28, 29, 30, 31, 32, 33, 34, 52, 53, 54, 55, 56, 57, 58, 59, 60, 61, 62, 49, 50, 51] (by decide +kernel) (by decide +kernel)
set_option maxRecDepth 20000 in
theorem gX7_catchOf_X3_read : GoodIn wsX7_catchOf (wsV RX7 269 RX3 yX3_read wsX3_read) := goodIn_app (goodIn_of _ (by decide +kernel)) ggX7_catchOf_X3_read
theorem dX7_catchOf_0 : decode cX7_catchOf 0 = .ok (.aload_n 0, 1) := by decide +kernel
theorem dX7_catchOf_1 : decode cX7_catchOf 1 = .ok (.getfield 50, 3) := by decide +kernel
theorem dX7_catchOf_4 : decode cX7_catchOf 4 = .ok (.aload_n 0, 1) := by decide +kernel
theorem dX7_catchOf_5 : decode cX7_catchOf 5 = .ok (.getfield 12, 3) := by decide +kernel
theorem dX7_catchOf_8 : decode cX7_catchOf 8 = .ok (.invokevirtual 269, 3) := by decide +kernel
theorem dX7_catchOf_11 : decode cX7_catchOf 11 = .ok (.aload_n 0, 1) := by decide +kernel
theorem dX7_catchOf_12 : decode cX7_catchOf 12 = .ok (.getfield 50, 3) := by decide +kernel
theorem dX7_catchOf_15 : decode cX7_catchOf 15 = .ok (.getfield 289, 3) := by decide +kernel
theorem dX7_catchOf_18 : decode cX7_catchOf 18 = .ok (.iload_n 1, 1) := by decide +kernel
theorem dX7_catchOf_19 : decode cX7_catchOf 19 = .ok (.iaload, 1) := by decide +kernel
theorem dX7_catchOf_20 : decode cX7_catchOf 20 = .ok (.ireturn, 1) := by decide +kernel
set_option maxRecDepth 20000 in
theorem ggX7_bestCatcher_X3_read : GoodIn wsX7_bestCatcher wsX3_read := goodIn_r _ [7, 8, 9, 10, 11, 12, 6, 13, 14, 15, 16, 17, 18, 19, 20, 21, 22, 23, 24, 25, 26, 27, 28, 29, 30, 31, 32, 33, 34, 53, 54, 55, 56, 57, 58, 59, 60, 61, 62, 63, 64, 65, 66] (by decide +kernel) (by decide +kernel)
set_option maxRecDepth 20000 in
theorem gX7_bestCatcher_X3_read : GoodIn wsX7_bestCatcher (wsV RX7 269 RX3 yX3_read wsX3_read) := goodIn_app (goodIn_of _ (by decide +kernel)) ggX7_bestCatcher_X3_read
set_option maxRecDepth 20000 in
theorem ggX7_bestCatcher_X3_bestGrain : GoodIn wsX7_bestCatcher wsX3_bestGrain := goodIn_r _ [38, 8, 10, 64, 65, 66] (by decide +kernel) (by decide +kernel)
set_option maxRecDepth 20000 in
theorem gX7_bestCatcher_X3_bestGrain : GoodIn wsX7_bestCatcher (wsV RX7 292 RX3 yX3_bestGrain wsX3_bestGrain) := goodIn_app (goodIn_of _ (by decide +kernel)) ggX7_bestCatcher_X3_bestGrain
theorem dX7_bestCatcher_0 : decode cX7_bestCatcher 0 = .ok (.aload_n 0, 1) := by decide +kernel
theorem dX7_bestCatcher_1 : decode cX7_bestCatcher 1 = .ok (.getfield 50, 3) := by decide +kernel
theorem dX7_bestCatcher_4 : decode cX7_bestCatcher 4 = .ok (.aload_n 0, 1) := by decide +kernel
theorem dX7_bestCatcher_5 : decode cX7_bestCatcher 5 = .ok (.getfield 12, 3) := by decide +kernel
theorem dX7_bestCatcher_8 : decode cX7_bestCatcher 8 = .ok (.invokevirtual 269, 3) := by decide +kernel
theorem dX7_bestCatcher_11 : decode cX7_bestCatcher 11 = .ok (.aload_n 0, 1) := by decide +kernel
theorem dX7_bestCatcher_12 : decode cX7_bestCatcher 12 = .ok (.getfield 50, 3) := by decide +kernel
theorem dX7_bestCatcher_15 : decode cX7_bestCatcher 15 = .ok (.invokevirtual 292, 3) := by decide +kernel
theorem dX7_bestCatcher_18 : decode cX7_bestCatcher 18 = .ok (.ireturn, 1) := by decide +kernel
set_option maxRecDepth 20000 in
theorem ggX7_countOfTrees_X5_read : GoodIn wsX7_countOfTrees wsX5_read := goodIn_r _ [7, 8, 9, 10, 11, 12, 13, 14, 15, 16, 17, 18, 19, 20, 21, 22, 6, 23, 24, 25, 26, 27, 28, 29, 30, 31, 32, 33, 34, 35, 36, 37, 68, 69, 70, 71, 72, 73, 74, 75, 76, 77, 78, 79, 80, 81, 82, 83, 84, 85] (by decide +kernel) (by decide +kernel)
set_option maxRecDepth 20000 in
theorem gX7_countOfTrees_X5_read : GoodIn wsX7_countOfTrees (wsV RX7 172 RX5 yX5_read wsX5_read) := goodIn_app (goodIn_of _ (by decide +kernel)) ggX7_countOfTrees_X5_read
set_option maxRecDepth 20000 in
theorem ggX7_countOfTrees_X5_rootGrains : GoodIn wsX7_countOfTrees wsX5_rootGrains := goodIn_r _ [41, 8, 25, 79, 80, 81, 82, 83, 84, 85] (by decide +kernel) (by decide +kernel)
set_option maxRecDepth 20000 in
theorem gX7_countOfTrees_X5_rootGrains : GoodIn wsX7_countOfTrees (wsV RX7 295 RX5 yX5_rootGrains wsX5_rootGrains) := goodIn_app (goodIn_of _ (by decide +kernel)) ggX7_countOfTrees_X5_rootGrains
set_option maxRecDepth 20000 in
theorem ggX7_countOfTrees_X5_grainsHeldBy : GoodIn wsX7_countOfTrees wsX5_grainsHeldBy := goodIn_r _ [45, 8, 26, 79, 80, 81, 82, 83, 84, 85] (by decide +kernel) (by decide +kernel)
set_option maxRecDepth 20000 in
theorem gX7_countOfTrees_X5_grainsHeldBy : GoodIn wsX7_countOfTrees (wsV RX7 298 RX5 yX5_grainsHeldBy wsX5_grainsHeldBy) := goodIn_app (goodIn_of _ (by decide +kernel)) ggX7_countOfTrees_X5_grainsHeldBy
set_option maxRecDepth 20000 in
theorem ggX7_countOfTrees_X5_deepest : GoodIn wsX7_countOfTrees wsX5_deepest := goodIn_r _ [49, 8, 24, 50, 51, 52, 53, 79, 80, 81, 82, 83, 84, 85] (by decide +kernel) (by decide +kernel)
set_option maxRecDepth 20000 in
theorem gX7_countOfTrees_X5_deepest : GoodIn wsX7_countOfTrees (wsV RX7 266 RX5 yX5_deepest wsX5_deepest) := goodIn_app (goodIn_of _ (by decide +kernel)) ggX7_countOfTrees_X5_deepest
theorem dX7_countOfTrees_0 : decode cX7_countOfTrees 0 = .ok (.aload_n 0, 1) := by decide +kernel
theorem dX7_countOfTrees_1 : decode cX7_countOfTrees 1 = .ok (.getfield 43, 3) := by decide +kernel
theorem dX7_countOfTrees_4 : decode cX7_countOfTrees 4 = .ok (.aload_n 0, 1) := by decide +kernel
theorem dX7_countOfTrees_5 : decode cX7_countOfTrees 5 = .ok (.getfield 12, 3) := by decide +kernel
theorem dX7_countOfTrees_8 : decode cX7_countOfTrees 8 = .ok (.invokevirtual 172, 3) := by decide +kernel
theorem dX7_countOfTrees_11 : decode cX7_countOfTrees 11 = .ok (.iload_n 1, 1) := by decide +kernel
theorem dX7_countOfTrees_12 : decode cX7_countOfTrees 12 = .ok (.tableswitch 56 1 3 #[28, 36, 46], 28) := by decide +kernel
theorem dX7_countOfTrees_40 : decode cX7_countOfTrees 40 = .ok (.aload_n 0, 1) := by decide +kernel
theorem dX7_countOfTrees_41 : decode cX7_countOfTrees 41 = .ok (.getfield 43, 3) := by decide +kernel
theorem dX7_countOfTrees_44 : decode cX7_countOfTrees 44 = .ok (.invokevirtual 295, 3) := by decide +kernel
theorem dX7_countOfTrees_47 : decode cX7_countOfTrees 47 = .ok (.ireturn, 1) := by decide +kernel
theorem dX7_countOfTrees_48 : decode cX7_countOfTrees 48 = .ok (.aload_n 0, 1) := by decide +kernel
theorem dX7_countOfTrees_49 : decode cX7_countOfTrees 49 = .ok (.getfield 43, 3) := by decide +kernel
theorem dX7_countOfTrees_52 : decode cX7_countOfTrees 52 = .ok (.iconst 0, 1) := by decide +kernel
theorem dX7_countOfTrees_53 : decode cX7_countOfTrees 53 = .ok (.iconst 0, 1) := by decide +kernel
theorem dX7_countOfTrees_54 : decode cX7_countOfTrees 54 = .ok (.invokevirtual 298, 3) := by decide +kernel
theorem dX7_countOfTrees_57 : decode cX7_countOfTrees 57 = .ok (.ireturn, 1) := by decide +kernel
theorem dX7_countOfTrees_58 : decode cX7_countOfTrees 58 = .ok (.aload_n 0, 1) := by decide +kernel
theorem dX7_countOfTrees_59 : decode cX7_countOfTrees 59 = .ok (.getfield 43, 3) := by decide +kernel
theorem dX7_countOfTrees_62 : decode cX7_countOfTrees 62 = .ok (.iconst 2, 1) := by decide +kernel
theorem dX7_countOfTrees_63 : decode cX7_countOfTrees 63 = .ok (.iconst 4, 1) := by decide +kernel
theorem dX7_countOfTrees_64 : decode cX7_countOfTrees 64 = .ok (.invokevirtual 298, 3) := by decide +kernel
theorem dX7_countOfTrees_67 : decode cX7_countOfTrees 67 = .ok (.ireturn, 1) := by decide +kernel
theorem dX7_countOfTrees_68 : decode cX7_countOfTrees 68 = .ok (.aload_n 0, 1) := by decide +kernel
theorem dX7_countOfTrees_69 : decode cX7_countOfTrees 69 = .ok (.getfield 43, 3) := by decide +kernel
theorem dX7_countOfTrees_72 : decode cX7_countOfTrees 72 = .ok (.invokevirtual 266, 3) := by decide +kernel
theorem dX7_countOfTrees_75 : decode cX7_countOfTrees 75 = .ok (.ireturn, 1) := by decide +kernel
theorem dX7_isSettingValue_0 : decode cX7_isSettingValue 0 = .ok (.iload_n 0, 1) := by decide +kernel
theorem dX7_isSettingValue_1 : decode cX7_isSettingValue 1 = .ok (.tableswitch 96 0 3 #[31, 47, 66, 81], 31) := by decide +kernel
theorem dX7_isSettingValue_32 : decode cX7_isSettingValue 32 = .ok (.iload_n 1, 1) := by decide +kernel
theorem dX7_isSettingValue_33 : decode cX7_isSettingValue 33 = .ok (.iconst 1, 1) := by decide +kernel
theorem dX7_isSettingValue_34 : decode cX7_isSettingValue 34 = .ok (.if_icmp .lt 12, 3) := by decide +kernel
theorem dX7_isSettingValue_37 : decode cX7_isSettingValue 37 = .ok (.iload_n 1, 1) := by decide +kernel
theorem dX7_isSettingValue_38 : decode cX7_isSettingValue 38 = .ok (.iconst 4, 1) := by decide +kernel
theorem dX7_isSettingValue_39 : decode cX7_isSettingValue 39 = .ok (.if_icmp .gt 7, 3) := by decide +kernel
theorem dX7_isSettingValue_42 : decode cX7_isSettingValue 42 = .ok (.iconst 1, 1) := by decide +kernel
theorem dX7_isSettingValue_43 : decode cX7_isSettingValue 43 = .ok (.goto 4, 3) := by decide +kernel
theorem dX7_isSettingValue_46 : decode cX7_isSettingValue 46 = .ok (.iconst 0, 1) := by decide +kernel
theorem dX7_isSettingValue_47 : decode cX7_isSettingValue 47 = .ok (.ireturn, 1) := by decide +kernel
theorem dX7_isSettingValue_48 : decode cX7_isSettingValue 48 = .ok (.iload_n 1, 1) := by decide +kernel
theorem dX7_isSettingValue_49 : decode cX7_isSettingValue 49 = .ok (.bipush 10, 2) := by decide +kernel
theorem dX7_isSettingValue_51 : decode cX7_isSettingValue 51 = .ok (.if_icmp .lt 14, 3) := by decide +kernel
theorem dX7_isSettingValue_54 : decode cX7_isSettingValue 54 = .ok (.iload_n 1, 1) := by decide +kernel
theorem dX7_isSettingValue_55 : decode cX7_isSettingValue 55 = .ok (.sipush 200, 3) := by decide +kernel
theorem dX7_isSettingValue_58 : decode cX7_isSettingValue 58 = .ok (.if_icmp .gt 7, 3) := by decide +kernel
theorem dX7_isSettingValue_61 : decode cX7_isSettingValue 61 = .ok (.iconst 1, 1) := by decide +kernel
theorem dX7_isSettingValue_62 : decode cX7_isSettingValue 62 = .ok (.goto 4, 3) := by decide +kernel
theorem dX7_isSettingValue_65 : decode cX7_isSettingValue 65 = .ok (.iconst 0, 1) := by decide +kernel
theorem dX7_isSettingValue_66 : decode cX7_isSettingValue 66 = .ok (.ireturn, 1) := by decide +kernel
theorem dX7_isSettingValue_67 : decode cX7_isSettingValue 67 = .ok (.iload_n 1, 1) := by decide +kernel
theorem dX7_isSettingValue_68 : decode cX7_isSettingValue 68 = .ok (.ifCond .lt 12, 3) := by decide +kernel
theorem dX7_isSettingValue_71 : decode cX7_isSettingValue 71 = .ok (.iload_n 1, 1) := by decide +kernel
theorem dX7_isSettingValue_72 : decode cX7_isSettingValue 72 = .ok (.iconst 4, 1) := by decide +kernel
theorem dX7_isSettingValue_73 : decode cX7_isSettingValue 73 = .ok (.if_icmp .gt 7, 3) := by decide +kernel
theorem dX7_isSettingValue_76 : decode cX7_isSettingValue 76 = .ok (.iconst 1, 1) := by decide +kernel
theorem dX7_isSettingValue_77 : decode cX7_isSettingValue 77 = .ok (.goto 4, 3) := by decide +kernel
theorem dX7_isSettingValue_80 : decode cX7_isSettingValue 80 = .ok (.iconst 0, 1) := by decide +kernel
theorem dX7_isSettingValue_81 : decode cX7_isSettingValue 81 = .ok (.ireturn, 1) := by decide +kernel
theorem dX7_isSettingValue_82 : decode cX7_isSettingValue 82 = .ok (.iload_n 1, 1) := by decide +kernel
theorem dX7_isSettingValue_83 : decode cX7_isSettingValue 83 = .ok (.ifCond .lt 12, 3) := by decide +kernel
theorem dX7_isSettingValue_86 : decode cX7_isSettingValue 86 = .ok (.iload_n 1, 1) := by decide +kernel
theorem dX7_isSettingValue_87 : decode cX7_isSettingValue 87 = .ok (.iconst 4, 1) := by decide +kernel
theorem dX7_isSettingValue_88 : decode cX7_isSettingValue 88 = .ok (.if_icmp .ge 7, 3) := by decide +kernel
theorem dX7_isSettingValue_91 : decode cX7_isSettingValue 91 = .ok (.iconst 1, 1) := by decide +kernel
theorem dX7_isSettingValue_92 : decode cX7_isSettingValue 92 = .ok (.goto 4, 3) := by decide +kernel
theorem dX7_isSettingValue_95 : decode cX7_isSettingValue 95 = .ok (.iconst 0, 1) := by decide +kernel
theorem dX7_isSettingValue_96 : decode cX7_isSettingValue 96 = .ok (.ireturn, 1) := by decide +kernel
theorem dX7_isSettingValue_97 : decode cX7_isSettingValue 97 = .ok (.iconst 0, 1) := by decide +kernel
theorem dX7_isSettingValue_98 : decode cX7_isSettingValue 98 = .ok (.ireturn, 1) := by decide +kernel
theorem dX7_nextLot_0 : decode cX7_nextLot 0 = .ok (.sipush 421, 3) := by decide +kernel
theorem dX7_nextLot_3 : decode cX7_nextLot 3 = .ok (.iload_n 0, 1) := by decide +kernel
theorem dX7_nextLot_4 : decode cX7_nextLot 4 = .ok (.imul, 1) := by decide +kernel
theorem dX7_nextLot_5 : decode cX7_nextLot 5 = .ok (.sipush 1663, 3) := by decide +kernel
theorem dX7_nextLot_8 : decode cX7_nextLot 8 = .ok (.iadd, 1) := by decide +kernel
theorem dX7_nextLot_9 : decode cX7_nextLot 9 = .ok (.sipush 10000, 3) := by decide +kernel
theorem dX7_nextLot_12 : decode cX7_nextLot 12 = .ok (.irem, 1) := by decide +kernel
theorem dX7_nextLot_13 : decode cX7_nextLot 13 = .ok (.ireturn, 1) := by decide +kernel
theorem dJ9_abs_0f7a4_0 : decode cJ9_abs_0f7a4 0 = .ok (.iload_n 0, 1) := by decide +kernel
theorem dJ9_abs_0f7a4_1 : decode cJ9_abs_0f7a4 1 = .ok (.ifCond .ge 8, 3) := by decide +kernel
theorem dJ9_abs_0f7a4_4 : decode cJ9_abs_0f7a4 4 = .ok (.iload_n 0, 1) := by decide +kernel
theorem dJ9_abs_0f7a4_5 : decode cJ9_abs_0f7a4 5 = .ok (.ineg, 1) := by decide +kernel
theorem dJ9_abs_0f7a4_6 : decode cJ9_abs_0f7a4 6 = .ok (.goto 4, 3) := by decide +kernel
theorem dJ9_abs_0f7a4_9 : decode cJ9_abs_0f7a4 9 = .ok (.iload_n 0, 1) := by decide +kernel
theorem dJ9_abs_0f7a4_10 : decode cJ9_abs_0f7a4 10 = .ok (.ireturn, 1) := by decide +kernel
theorem dJ9_max_7cf53_0 : decode cJ9_max_7cf53 0 = .ok (.iload_n 0, 1) := by decide +kernel
theorem dJ9_max_7cf53_1 : decode cJ9_max_7cf53 1 = .ok (.iload_n 1, 1) := by decide +kernel
theorem dJ9_max_7cf53_2 : decode cJ9_max_7cf53 2 = .ok (.if_icmp .lt 7, 3) := by decide +kernel
theorem dJ9_max_7cf53_5 : decode cJ9_max_7cf53 5 = .ok (.iload_n 0, 1) := by decide +kernel
theorem dJ9_max_7cf53_6 : decode cJ9_max_7cf53 6 = .ok (.goto 4, 3) := by decide +kernel
theorem dJ9_max_7cf53_9 : decode cJ9_max_7cf53 9 = .ok (.iload_n 1, 1) := by decide +kernel
theorem dJ9_max_7cf53_10 : decode cJ9_max_7cf53 10 = .ok (.ireturn, 1) := by decide +kernel
theorem dJ9_min_7cf53_0 : decode cJ9_min_7cf53 0 = .ok (.iload_n 0, 1) := by decide +kernel
theorem dJ9_min_7cf53_1 : decode cJ9_min_7cf53 1 = .ok (.iload_n 1, 1) := by decide +kernel
theorem dJ9_min_7cf53_2 : decode cJ9_min_7cf53 2 = .ok (.if_icmp .gt 7, 3) := by decide +kernel
theorem dJ9_min_7cf53_5 : decode cJ9_min_7cf53 5 = .ok (.iload_n 0, 1) := by decide +kernel
theorem dJ9_min_7cf53_6 : decode cJ9_min_7cf53 6 = .ok (.goto 4, 3) := by decide +kernel
theorem dJ9_min_7cf53_9 : decode cJ9_min_7cf53 9 = .ok (.iload_n 1, 1) := by decide +kernel
theorem dJ9_min_7cf53_10 : decode cJ9_min_7cf53 10 = .ok (.ireturn, 1) := by decide +kernel
theorem dL_lot_0 : decode cL_lot 0 = .ok (.iload_n 1, 1) := by decide +kernel
theorem dL_lot_1 : decode cL_lot 1 = .ok (.aload_n 0, 1) := by decide +kernel
theorem dL_lot_2 : decode cL_lot 2 = .ok (.arraylength, 1) := by decide +kernel
theorem dL_lot_3 : decode cL_lot 3 = .ok (.if_icmp .ge 9, 3) := by decide +kernel
theorem dL_lot_6 : decode cL_lot 6 = .ok (.aload_n 0, 1) := by decide +kernel
theorem dL_lot_7 : decode cL_lot 7 = .ok (.iload_n 1, 1) := by decide +kernel
theorem dL_lot_8 : decode cL_lot 8 = .ok (.iaload, 1) := by decide +kernel
theorem dL_lot_9 : decode cL_lot 9 = .ok (.goto 15, 3) := by decide +kernel
theorem dL_lot_12 : decode cL_lot 12 = .ok (.ldc 7, 2) := by decide +kernel
theorem dL_lot_14 : decode cL_lot 14 = .ok (.iload_n 1, 1) := by decide +kernel
theorem dL_lot_15 : decode cL_lot 15 = .ok (.sipush 4373, 3) := by decide +kernel
theorem dL_lot_18 : decode cL_lot 18 = .ok (.iadd, 1) := by decide +kernel
theorem dL_lot_19 : decode cL_lot 19 = .ok (.imul, 1) := by decide +kernel
theorem dL_lot_20 : decode cL_lot 20 = .ok (.sipush 4133, 3) := by decide +kernel
theorem dL_lot_23 : decode cL_lot 23 = .ok (.iadd, 1) := by decide +kernel
theorem dL_lot_24 : decode cL_lot 24 = .ok (.ireturn, 1) := by decide +kernel
theorem dL_low_0 : decode cL_low 0 = .ok (.iload_n 0, 1) := by decide +kernel
theorem dL_low_1 : decode cL_low 1 = .ok (.ldc 8, 2) := by decide +kernel
theorem dL_low_3 : decode cL_low 3 = .ok (.iand, 1) := by decide +kernel
theorem dL_low_4 : decode cL_low 4 = .ok (.iload_n 1, 1) := by decide +kernel
theorem dL_low_5 : decode cL_low 5 = .ok (.irem, 1) := by decide +kernel
theorem dL_low_6 : decode cL_low 6 = .ok (.ireturn, 1) := by decide +kernel
set_option maxRecDepth 20000 in
theorem ggL_look_X7_count : GoodIn wsL_look wsX7_count := goodIn_r _ [7, 8, 9, 10, 11, 12, 13, 14, 15, 16, 17, 18, 19, 20, 21, 22, 23, 24, 25, 26, 27, 28, 29, 30, 31, 32, 33, 34, 35, 36, 37, 38, 39, 40, 41, 42, 43, 44, 45, 46, 47, 48, 6, 49, 50, 51, 52, 53, 54, 55, 56, 57, 58, 59, 60, 61, 62, 63, 64, 65, 66, 67, 68, 69, 70, 71, 72, 73, 74, 75, 76, 77, 78, 79, 80, 81, 82, 83, 84, 85, 86, 87, 88, 89, 90, 91, 92, 93, 94, 95, 96, 97, 98, 99, 100, 101, 102, 103, 104, 105, 106, 107, 108, 109, 110, 111, 112, 113, 114, 115, 116, 117, 118, 119, 120, 121, 122, 123, 124, 125, 126, 127, 128, 129, 130, 131, 132, 133, 134, 150, 151, 152, 153, 154, 155, 156, 157, 158, 159, 160, 161, 162, 163, 164, 165, 166, 167, 168, 169, 170, 171, 172, 173, 174, 175, 176, 177, 178, 179, 180, 181, 182, 183, 184, 185, 186, 187, 188, 189, 190] (by decide +kernel) (by decide +kernel)
set_option maxRecDepth 20000 in
theorem gL_look_X7_count : GoodIn wsL_look (wsV RL 13 RX7 yX7_count wsX7_count) := goodIn_app (goodIn_of _ (by decide +kernel)) ggL_look_X7_count
set_option maxRecDepth 20000 in
theorem ggL_look_X7_grain : GoodIn wsL_look wsX7_grain := goodIn_r _ [138, 8, 91, 139, 71, 72, 14, 73, 16, 92, 93, 94, 95, 96, 97, 98, 99, 100, 101, 102, 103, 104, 105, 106, 107, 108, 109, 110, 111, 112, 113, 114, 115, 116, 117, 118, 119, 120, 121, 140, 141, 142, 143, 17, 144, 78, 79, 80, 6, 81, 50, 51, 52, 53, 54, 55, 56, 57, 58, 59, 60, 61, 62, 63, 24, 64, 65, 66, 67, 68, 35, 36, 37, 38, 69, 44, 45, 70, 145, 146, 147, 148, 149, 150, 151, 152, 153, 154, 155, 156, 157, 158, 159, 160, 161, 162, 163, 184, 185, 186, 187, 188, 189, 190, 164, 165, 166, 167, 168, 169, 170, 171, 172, 173, 174, 181, 182, 183] (by decide +kernel) (by decide +kernel)
set_option maxRecDepth 20000 in
theorem gL_look_X7_grain : GoodIn wsL_look (wsV RL 19 RX7 yX7_grain wsX7_grain) := goodIn_app (goodIn_of _ (by decide +kernel)) ggL_look_X7_grain
theorem dL_look_0 : decode cL_look 0 = .ok (.ldc2_w 9, 3) := by decide +kernel
theorem dL_look_3 : decode cL_look 3 = .ok (.lstore_n 1, 1) := by decide +kernel
theorem dL_look_4 : decode cL_look 4 = .ok (.ldc2_w 11, 3) := by decide +kernel
theorem dL_look_7 : decode cL_look 7 = .ok (.ldc2_w 11, 3) := by decide +kernel
theorem dL_look_10 : decode cL_look 10 = .ok (.lload_n 1, 1) := by decide +kernel
theorem dL_look_11 : decode cL_look 11 = .ok (.lmul, 1) := by decide +kernel
theorem dL_look_12 : decode cL_look 12 = .ok (.aload_n 0, 1) := by decide +kernel
theorem dL_look_13 : decode cL_look 13 = .ok (.iconst 0, 1) := by decide +kernel
theorem dL_look_14 : decode cL_look 14 = .ok (.invokevirtual 13, 3) := by decide +kernel
theorem dL_look_17 : decode cL_look 17 = .ok (.i2l, 1) := by decide +kernel
theorem dL_look_18 : decode cL_look 18 = .ok (.ladd, 1) := by decide +kernel
theorem dL_look_19 : decode cL_look 19 = .ok (.lmul, 1) := by decide +kernel
theorem dL_look_20 : decode cL_look 20 = .ok (.aload_n 0, 1) := by decide +kernel
theorem dL_look_21 : decode cL_look 21 = .ok (.bipush 17, 2) := by decide +kernel
theorem dL_look_23 : decode cL_look 23 = .ok (.invokevirtual 13, 3) := by decide +kernel
theorem dL_look_26 : decode cL_look 26 = .ok (.i2l, 1) := by decide +kernel
theorem dL_look_27 : decode cL_look 27 = .ok (.ladd, 1) := by decide +kernel
theorem dL_look_28 : decode cL_look 28 = .ok (.lstore_n 1, 1) := by decide +kernel
theorem dL_look_29 : decode cL_look 29 = .ok (.bipush 7, 2) := by decide +kernel
theorem dL_look_31 : decode cL_look 31 = .ok (.istore_n 3, 1) := by decide +kernel
theorem dL_look_32 : decode cL_look 32 = .ok (.iload_n 3, 1) := by decide +kernel
theorem dL_look_33 : decode cL_look 33 = .ok (.bipush 11, 2) := by decide +kernel
theorem dL_look_35 : decode cL_look 35 = .ok (.if_icmp .ge 22, 3) := by decide +kernel
theorem dL_look_38 : decode cL_look 38 = .ok (.ldc2_w 11, 3) := by decide +kernel
theorem dL_look_41 : decode cL_look 41 = .ok (.lload_n 1, 1) := by decide +kernel
theorem dL_look_42 : decode cL_look 42 = .ok (.lmul, 1) := by decide +kernel
theorem dL_look_43 : decode cL_look 43 = .ok (.aload_n 0, 1) := by decide +kernel
theorem dL_look_44 : decode cL_look 44 = .ok (.iload_n 3, 1) := by decide +kernel
theorem dL_look_45 : decode cL_look 45 = .ok (.invokevirtual 13, 3) := by decide +kernel
theorem dL_look_48 : decode cL_look 48 = .ok (.i2l, 1) := by decide +kernel
theorem dL_look_49 : decode cL_look 49 = .ok (.ladd, 1) := by decide +kernel
theorem dL_look_50 : decode cL_look 50 = .ok (.lstore_n 1, 1) := by decide +kernel
theorem dL_look_51 : decode cL_look 51 = .ok (.iinc 3 1, 3) := by decide +kernel
theorem dL_look_54 : decode cL_look 54 = .ok (.goto (-22), 3) := by decide +kernel
theorem dL_look_57 : decode cL_look 57 = .ok (.bipush 13, 2) := by decide +kernel
theorem dL_look_59 : decode cL_look 59 = .ok (.istore_n 3, 1) := by decide +kernel
theorem dL_look_60 : decode cL_look 60 = .ok (.iload_n 3, 1) := by decide +kernel
theorem dL_look_61 : decode cL_look 61 = .ok (.bipush 17, 2) := by decide +kernel
theorem dL_look_63 : decode cL_look 63 = .ok (.if_icmp .ge 22, 3) := by decide +kernel
theorem dL_look_66 : decode cL_look 66 = .ok (.ldc2_w 11, 3) := by decide +kernel
theorem dL_look_69 : decode cL_look 69 = .ok (.lload_n 1, 1) := by decide +kernel
theorem dL_look_70 : decode cL_look 70 = .ok (.lmul, 1) := by decide +kernel
theorem dL_look_71 : decode cL_look 71 = .ok (.aload_n 0, 1) := by decide +kernel
theorem dL_look_72 : decode cL_look 72 = .ok (.iload_n 3, 1) := by decide +kernel
theorem dL_look_73 : decode cL_look 73 = .ok (.invokevirtual 13, 3) := by decide +kernel
theorem dL_look_76 : decode cL_look 76 = .ok (.i2l, 1) := by decide +kernel
theorem dL_look_77 : decode cL_look 77 = .ok (.ladd, 1) := by decide +kernel
theorem dL_look_78 : decode cL_look 78 = .ok (.lstore_n 1, 1) := by decide +kernel
theorem dL_look_79 : decode cL_look 79 = .ok (.iinc 3 1, 3) := by decide +kernel
theorem dL_look_82 : decode cL_look 82 = .ok (.goto (-22), 3) := by decide +kernel
theorem dL_look_85 : decode cL_look 85 = .ok (.iconst 0, 1) := by decide +kernel
theorem dL_look_86 : decode cL_look 86 = .ok (.istore_n 3, 1) := by decide +kernel
theorem dL_look_87 : decode cL_look 87 = .ok (.iload_n 3, 1) := by decide +kernel
theorem dL_look_88 : decode cL_look 88 = .ok (.aload_n 0, 1) := by decide +kernel
theorem dL_look_89 : decode cL_look 89 = .ok (.iconst 0, 1) := by decide +kernel
theorem dL_look_90 : decode cL_look 90 = .ok (.invokevirtual 13, 3) := by decide +kernel
theorem dL_look_93 : decode cL_look 93 = .ok (.if_icmp .ge 48, 3) := by decide +kernel
theorem dL_look_96 : decode cL_look 96 = .ok (.ldc2_w 11, 3) := by decide +kernel
theorem dL_look_99 : decode cL_look 99 = .ok (.ldc2_w 11, 3) := by decide +kernel
theorem dL_look_102 : decode cL_look 102 = .ok (.ldc2_w 11, 3) := by decide +kernel
theorem dL_look_105 : decode cL_look 105 = .ok (.lload_n 1, 1) := by decide +kernel
theorem dL_look_106 : decode cL_look 106 = .ok (.lmul, 1) := by decide +kernel
theorem dL_look_107 : decode cL_look 107 = .ok (.aload_n 0, 1) := by decide +kernel
theorem dL_look_108 : decode cL_look 108 = .ok (.iload_n 3, 1) := by decide +kernel
theorem dL_look_109 : decode cL_look 109 = .ok (.iconst 0, 1) := by decide +kernel
theorem dL_look_110 : decode cL_look 110 = .ok (.invokevirtual 19, 3) := by decide +kernel
theorem dL_look_113 : decode cL_look 113 = .ok (.i2l, 1) := by decide +kernel
theorem dL_look_114 : decode cL_look 114 = .ok (.ladd, 1) := by decide +kernel
theorem dL_look_115 : decode cL_look 115 = .ok (.lmul, 1) := by decide +kernel
theorem dL_look_116 : decode cL_look 116 = .ok (.aload_n 0, 1) := by decide +kernel
theorem dL_look_117 : decode cL_look 117 = .ok (.iload_n 3, 1) := by decide +kernel
theorem dL_look_118 : decode cL_look 118 = .ok (.iconst 1, 1) := by decide +kernel
theorem dL_look_119 : decode cL_look 119 = .ok (.invokevirtual 19, 3) := by decide +kernel
theorem dL_look_122 : decode cL_look 122 = .ok (.i2l, 1) := by decide +kernel
theorem dL_look_123 : decode cL_look 123 = .ok (.ladd, 1) := by decide +kernel
theorem dL_look_124 : decode cL_look 124 = .ok (.lmul, 1) := by decide +kernel
theorem dL_look_125 : decode cL_look 125 = .ok (.aload_n 0, 1) := by decide +kernel
theorem dL_look_126 : decode cL_look 126 = .ok (.iload_n 3, 1) := by decide +kernel
theorem dL_look_127 : decode cL_look 127 = .ok (.bipush 8, 2) := by decide +kernel
theorem dL_look_129 : decode cL_look 129 = .ok (.invokevirtual 19, 3) := by decide +kernel
theorem dL_look_132 : decode cL_look 132 = .ok (.i2l, 1) := by decide +kernel
theorem dL_look_133 : decode cL_look 133 = .ok (.ladd, 1) := by decide +kernel
theorem dL_look_134 : decode cL_look 134 = .ok (.lstore_n 1, 1) := by decide +kernel
theorem dL_look_135 : decode cL_look 135 = .ok (.iinc 3 1, 3) := by decide +kernel
theorem dL_look_138 : decode cL_look 138 = .ok (.goto (-51), 3) := by decide +kernel
theorem dL_look_141 : decode cL_look 141 = .ok (.lload_n 1, 1) := by decide +kernel
theorem dL_look_142 : decode cL_look 142 = .ok (.lreturn, 1) := by decide +kernel
set_option maxRecDepth 20000 in
theorem ggL_holds_X7_count : GoodIn wsL_holds wsX7_count := goodIn_r _ [5, 6, 7, 8, 9, 10, 11, 12, 13, 14, 15, 16, 17, 18, 19, 20, 21, 22, 23, 24, 25, 26, 27, 28, 29, 30, 31, 32, 33, 34, 35, 36, 37, 38, 39, 40, 41, 42, 43, 44, 45, 46, 4, 47, 48, 49, 50, 51, 52, 53, 54, 55, 56, 57, 58, 59, 60, 61, 62, 63, 64, 65, 66, 67, 68, 69, 70, 71, 72, 73, 74, 75, 76, 77, 78, 79, 80, 81, 82, 83, 84, 85, 86, 87, 88, 89, 90, 91, 92, 93, 94, 95, 96, 97, 98, 99, 100, 101, 102, 103, 104, 105, 106, 107, 108, 109, 110, 111, 112, 113, 114, 115, 116, 117, 118, 119, 120, 121, 122, 123, 124, 125, 126, 127, 128, 129, 130, 131, 132, 192, 193, 194, 195, 196, 197, 198, 199, 200, 201, 202, 203, 204, 205, 206, 207, 208, 209, 210, 211, 212, 213, 214, 215, 216, 217, 218, 219, 220, 221, 222, 223, 224, 225, 226, 227, 228, 229, 230, 231, 232] (by decide +kernel) (by decide +kernel)
set_option maxRecDepth 20000 in
theorem gL_holds_X7_count : GoodIn wsL_holds (wsV RL 13 RX7 yX7_count wsX7_count) := goodIn_app (goodIn_of _ (by decide +kernel)) ggL_holds_X7_count
set_option maxRecDepth 20000 in
theorem ggL_holds_X7_grain : GoodIn wsL_holds wsX7_grain := goodIn_r _ [136, 6, 89, 137, 69, 70, 12, 71, 14, 90, 91, 92, 93, 94, 95, 96, 97, 98, 99, 100, 101, 102, 103, 104, 105, 106, 107, 108, 109, 110, 111, 112, 113, 114, 115, 116, 117, 118, 119, 138, 139, 140, 141, 15, 142, 76, 77, 78, 4, 79, 48, 49, 50, 51, 52, 53, 54, 55, 56, 57, 58, 59, 60, 61, 22, 62, 63, 64, 65, 66, 33, 34, 35, 36, 67, 42, 43, 68, 143, 144, 145, 146, 147, 192, 193, 194, 195, 196, 197, 198, 199, 200, 201, 202, 203, 204, 205, 226, 227, 228, 229, 230, 231, 232, 206, 207, 208, 209, 210, 211, 212, 213, 214, 215, 216, 223, 224, 225] (by decide +kernel) (by decide +kernel)
set_option maxRecDepth 20000 in
theorem gL_holds_X7_grain : GoodIn wsL_holds (wsV RL 19 RX7 yX7_grain wsX7_grain) := goodIn_app (goodIn_of _ (by decide +kernel)) ggL_holds_X7_grain
set_option maxRecDepth 20000 in
theorem ggL_holds_X7_cell : GoodIn wsL_holds wsX7_cell := goodIn_r _ [151, 6, 152, 153, 22, 154, 155, 33, 34, 12, 35, 36, 156, 21, 23, 24, 25, 18, 26, 27, 17, 19, 157, 158, 159, 160, 41, 42, 43, 32, 161, 162, 163, 192, 193, 194, 195, 196, 197, 198, 199, 200, 201, 202, 203, 204, 205, 206, 207, 208, 209, 210, 211, 212, 213, 214, 215, 216] (by decide +kernel) (by decide +kernel)
set_option maxRecDepth 20000 in
theorem gL_holds_X7_cell : GoodIn wsL_holds (wsV RL 25 RX7 yX7_cell wsX7_cell) := goodIn_app (goodIn_of _ (by decide +kernel)) ggL_holds_X7_cell
set_option maxRecDepth 20000 in
theorem ggL_holds_X7_ring : GoodIn wsL_holds wsX7_ring := goodIn_r _ [167, 6, 138, 139, 140, 12, 141, 15, 101, 69, 70, 71, 14, 156, 21, 22, 23, 24, 25, 18, 26, 27, 17, 19, 192, 193, 194, 195, 196, 197, 198, 199, 200, 201, 202, 203, 204, 205, 206, 207, 208, 209, 210, 211, 212, 213, 214, 215, 216] (by decide +kernel) (by decide +kernel)
set_option maxRecDepth 20000 in
theorem gL_holds_X7_ring : GoodIn wsL_holds (wsV RL 28 RX7 yX7_ring wsX7_ring) := goodIn_app (goodIn_of _ (by decide +kernel)) ggL_holds_X7_ring
set_option maxRecDepth 20000 in
theorem ggL_holds_X7_longest : GoodIn wsL_holds wsX7_longest := goodIn_r _ [171, 6, 89, 172, 173, 174, 12, 175, 14, 16, 17, 18, 19, 176, 177, 178, 179, 180, 181, 182, 183, 97, 98, 99, 100, 101, 69, 70, 71, 90, 91, 92, 93, 94, 95, 96, 102, 103, 104, 105, 106, 107, 108, 109, 110, 111, 112, 113, 114, 115, 116, 117, 118, 119, 184, 185, 186, 187, 132, 192, 193, 194, 195, 196, 197, 198, 199, 200, 201, 202, 203, 204, 205, 206, 207, 208, 209, 210, 211, 212, 213, 214, 215, 216, 226, 227, 228, 229, 230, 231, 232] (by decide +kernel) (by decide +kernel)
set_option maxRecDepth 20000 in
theorem gL_holds_X7_longest : GoodIn wsL_holds (wsV RL 31 RX7 yX7_longest wsX7_longest) := goodIn_app (goodIn_of _ (by decide +kernel)) ggL_holds_X7_longest
set_option maxRecDepth 20000 in
theorem ggL_holds_X7_density : GoodIn wsL_holds wsX7_density := goodIn_r _ [191, 6, 9, 10, 11, 12, 13, 14, 15, 16, 17, 18, 19, 20, 21, 22, 23, 24, 25, 26, 27, 192, 193, 194, 195, 196, 197, 198, 199, 200, 201, 202, 203, 204, 205, 206, 207, 208, 209, 210, 211, 212, 213, 214, 215, 216] (by decide +kernel) (by decide +kernel)
set_option maxRecDepth 20000 in
theorem gL_holds_X7_density : GoodIn wsL_holds (wsV RL 34 RX7 yX7_density wsX7_density) := goodIn_app (goodIn_of _ (by decide +kernel)) ggL_holds_X7_density
theorem dL_holds_0 : decode cL_holds 0 = .ok (.aload_n 0, 1) := by decide +kernel
theorem dL_holds_1 : decode cL_holds 1 = .ok (.iconst 0, 1) := by decide +kernel
theorem dL_holds_2 : decode cL_holds 2 = .ok (.invokevirtual 13, 3) := by decide +kernel
theorem dL_holds_5 : decode cL_holds 5 = .ok (.istore_n 1, 1) := by decide +kernel
theorem dL_holds_6 : decode cL_holds 6 = .ok (.iconst 0, 1) := by decide +kernel
theorem dL_holds_7 : decode cL_holds 7 = .ok (.istore_n 2, 1) := by decide +kernel
theorem dL_holds_8 : decode cL_holds 8 = .ok (.iconst 0, 1) := by decide +kernel
theorem dL_holds_9 : decode cL_holds 9 = .ok (.istore_n 3, 1) := by decide +kernel
theorem dL_holds_10 : decode cL_holds 10 = .ok (.iconst 0, 1) := by decide +kernel
theorem dL_holds_11 : decode cL_holds 11 = .ok (.istore 4, 2) := by decide +kernel
theorem dL_holds_13 : decode cL_holds 13 = .ok (.iconst 0, 1) := by decide +kernel
theorem dL_holds_14 : decode cL_holds 14 = .ok (.istore 5, 2) := by decide +kernel
theorem dL_holds_16 : decode cL_holds 16 = .ok (.iconst 0, 1) := by decide +kernel
theorem dL_holds_17 : decode cL_holds 17 = .ok (.istore 6, 2) := by decide +kernel
theorem dL_holds_19 : decode cL_holds 19 = .ok (.iload_n 1, 1) := by decide +kernel
theorem dL_holds_20 : decode cL_holds 20 = .ok (.ifCond .le 74, 3) := by decide +kernel
theorem dL_holds_23 : decode cL_holds 23 = .ok (.iload_n 1, 1) := by decide +kernel
theorem dL_holds_24 : decode cL_holds 24 = .ok (.bipush 121, 2) := by decide +kernel
theorem dL_holds_26 : decode cL_holds 26 = .ok (.if_icmp .gt 68, 3) := by decide +kernel
theorem dL_holds_29 : decode cL_holds 29 = .ok (.iload_n 1, 1) := by decide +kernel
theorem dL_holds_30 : decode cL_holds 30 = .ok (.aload_n 0, 1) := by decide +kernel
theorem dL_holds_31 : decode cL_holds 31 = .ok (.iconst 1, 1) := by decide +kernel
theorem dL_holds_32 : decode cL_holds 32 = .ok (.invokevirtual 13, 3) := by decide +kernel
theorem dL_holds_35 : decode cL_holds 35 = .ok (.isub, 1) := by decide +kernel
theorem dL_holds_36 : decode cL_holds 36 = .ok (.aload_n 0, 1) := by decide +kernel
theorem dL_holds_37 : decode cL_holds 37 = .ok (.bipush 7, 2) := by decide +kernel
theorem dL_holds_39 : decode cL_holds 39 = .ok (.invokevirtual 13, 3) := by decide +kernel
theorem dL_holds_42 : decode cL_holds 42 = .ok (.aload_n 0, 1) := by decide +kernel
theorem dL_holds_43 : decode cL_holds 43 = .ok (.bipush 8, 2) := by decide +kernel
theorem dL_holds_45 : decode cL_holds 45 = .ok (.invokevirtual 13, 3) := by decide +kernel
theorem dL_holds_48 : decode cL_holds 48 = .ok (.isub, 1) := by decide +kernel
theorem dL_holds_49 : decode cL_holds 49 = .ok (.aload_n 0, 1) := by decide +kernel
theorem dL_holds_50 : decode cL_holds 50 = .ok (.bipush 9, 2) := by decide +kernel
theorem dL_holds_52 : decode cL_holds 52 = .ok (.invokevirtual 13, 3) := by decide +kernel
theorem dL_holds_55 : decode cL_holds 55 = .ok (.isub, 1) := by decide +kernel
theorem dL_holds_56 : decode cL_holds 56 = .ok (.if_icmp .ne 38, 3) := by decide +kernel
theorem dL_holds_59 : decode cL_holds 59 = .ok (.aload_n 0, 1) := by decide +kernel
theorem dL_holds_60 : decode cL_holds 60 = .ok (.bipush 17, 2) := by decide +kernel
theorem dL_holds_62 : decode cL_holds 62 = .ok (.invokevirtual 13, 3) := by decide +kernel
theorem dL_holds_65 : decode cL_holds 65 = .ok (.ifCond .lt 29, 3) := by decide +kernel
theorem dL_holds_68 : decode cL_holds 68 = .ok (.aload_n 0, 1) := by decide +kernel
theorem dL_holds_69 : decode cL_holds 69 = .ok (.bipush 17, 2) := by decide +kernel
theorem dL_holds_71 : decode cL_holds 71 = .ok (.invokevirtual 13, 3) := by decide +kernel
theorem dL_holds_74 : decode cL_holds 74 = .ok (.sipush 10000, 3) := by decide +kernel
theorem dL_holds_77 : decode cL_holds 77 = .ok (.if_icmp .ge 17, 3) := by decide +kernel
theorem dL_holds_80 : decode cL_holds 80 = .ok (.aload_n 0, 1) := by decide +kernel
theorem dL_holds_81 : decode cL_holds 81 = .ok (.iload_n 1, 1) := by decide +kernel
theorem dL_holds_82 : decode cL_holds 82 = .ok (.iconst 0, 1) := by decide +kernel
theorem dL_holds_83 : decode cL_holds 83 = .ok (.invokevirtual 19, 3) := by decide +kernel
theorem dL_holds_86 : decode cL_holds 86 = .ok (.iconst (-1), 1) := by decide +kernel
theorem dL_holds_87 : decode cL_holds 87 = .ok (.if_icmp .ne 7, 3) := by decide +kernel
theorem dL_holds_90 : decode cL_holds 90 = .ok (.iconst 1, 1) := by decide +kernel
theorem dL_holds_91 : decode cL_holds 91 = .ok (.goto 4, 3) := by decide +kernel
theorem dL_holds_94 : decode cL_holds 94 = .ok (.iconst 0, 1) := by decide +kernel
theorem dL_holds_95 : decode cL_holds 95 = .ok (.istore 7, 2) := by decide +kernel
theorem dL_holds_97 : decode cL_holds 97 = .ok (.iconst 0, 1) := by decide +kernel
theorem dL_holds_98 : decode cL_holds 98 = .ok (.istore 8, 2) := by decide +kernel
theorem dL_holds_100 : decode cL_holds 100 = .ok (.iload 8, 2) := by decide +kernel
theorem dL_holds_102 : decode cL_holds 102 = .ok (.iload_n 1, 1) := by decide +kernel
theorem dL_holds_103 : decode cL_holds 103 = .ok (.if_icmp .ge 299, 3) := by decide +kernel
theorem dL_holds_106 : decode cL_holds 106 = .ok (.iload 7, 2) := by decide +kernel
theorem dL_holds_108 : decode cL_holds 108 = .ok (.ifCond .eq 294, 3) := by decide +kernel
theorem dL_holds_111 : decode cL_holds 111 = .ok (.aload_n 0, 1) := by decide +kernel
theorem dL_holds_112 : decode cL_holds 112 = .ok (.iload 8, 2) := by decide +kernel
theorem dL_holds_114 : decode cL_holds 114 = .ok (.iconst 1, 1) := by decide +kernel
theorem dL_holds_115 : decode cL_holds 115 = .ok (.invokevirtual 19, 3) := by decide +kernel
theorem dL_holds_118 : decode cL_holds 118 = .ok (.istore 9, 2) := by decide +kernel
theorem dL_holds_120 : decode cL_holds 120 = .ok (.aload_n 0, 1) := by decide +kernel
theorem dL_holds_121 : decode cL_holds 121 = .ok (.iload 8, 2) := by decide +kernel
theorem dL_holds_123 : decode cL_holds 123 = .ok (.iconst 0, 1) := by decide +kernel
theorem dL_holds_124 : decode cL_holds 124 = .ok (.invokevirtual 19, 3) := by decide +kernel
theorem dL_holds_127 : decode cL_holds 127 = .ok (.istore 10, 2) := by decide +kernel
theorem dL_holds_129 : decode cL_holds 129 = .ok (.iload 9, 2) := by decide +kernel
theorem dL_holds_131 : decode cL_holds 131 = .ok (.bipush (-4), 2) := by decide +kernel
theorem dL_holds_133 : decode cL_holds 133 = .ok (.if_icmp .ne 8, 3) := by decide +kernel
theorem dL_holds_136 : decode cL_holds 136 = .ok (.iload 10, 2) := by decide +kernel
theorem dL_holds_138 : decode cL_holds 138 = .ok (.goto 10, 3) := by decide +kernel
theorem dL_holds_141 : decode cL_holds 141 = .ok (.aload_n 0, 1) := by decide +kernel
theorem dL_holds_142 : decode cL_holds 142 = .ok (.iload 9, 2) := by decide +kernel
theorem dL_holds_144 : decode cL_holds 144 = .ok (.iconst 0, 1) := by decide +kernel
theorem dL_holds_145 : decode cL_holds 145 = .ok (.invokevirtual 19, 3) := by decide +kernel
theorem dL_holds_148 : decode cL_holds 148 = .ok (.istore 11, 2) := by decide +kernel
theorem dL_holds_150 : decode cL_holds 150 = .ok (.iload 10, 2) := by decide +kernel
theorem dL_holds_152 : decode cL_holds 152 = .ok (.iload 11, 2) := by decide +kernel
theorem dL_holds_154 : decode cL_holds 154 = .ok (.if_icmp .le 11, 3) := by decide +kernel
theorem dL_holds_157 : decode cL_holds 157 = .ok (.iload 10, 2) := by decide +kernel
theorem dL_holds_159 : decode cL_holds 159 = .ok (.iload 11, 2) := by decide +kernel
theorem dL_holds_161 : decode cL_holds 161 = .ok (.isub, 1) := by decide +kernel
theorem dL_holds_162 : decode cL_holds 162 = .ok (.goto 8, 3) := by decide +kernel
theorem dL_holds_165 : decode cL_holds 165 = .ok (.iload 11, 2) := by decide +kernel
theorem dL_holds_167 : decode cL_holds 167 = .ok (.iload 10, 2) := by decide +kernel
theorem dL_holds_169 : decode cL_holds 169 = .ok (.isub, 1) := by decide +kernel
theorem dL_holds_170 : decode cL_holds 170 = .ok (.istore 12, 2) := by decide +kernel
theorem dL_holds_172 : decode cL_holds 172 = .ok (.iload_n 2, 1) := by decide +kernel
theorem dL_holds_173 : decode cL_holds 173 = .ok (.iload 9, 2) := by decide +kernel
theorem dL_holds_175 : decode cL_holds 175 = .ok (.bipush (-4), 2) := by decide +kernel
theorem dL_holds_177 : decode cL_holds 177 = .ok (.if_icmp .ne 7, 3) := by decide +kernel
theorem dL_holds_180 : decode cL_holds 180 = .ok (.iconst 1, 1) := by decide +kernel
theorem dL_holds_181 : decode cL_holds 181 = .ok (.goto 4, 3) := by decide +kernel
theorem dL_holds_184 : decode cL_holds 184 = .ok (.iconst 0, 1) := by decide +kernel
theorem dL_holds_185 : decode cL_holds 185 = .ok (.iadd, 1) := by decide +kernel
theorem dL_holds_186 : decode cL_holds 186 = .ok (.istore_n 2, 1) := by decide +kernel
theorem dL_holds_187 : decode cL_holds 187 = .ok (.iload_n 3, 1) := by decide +kernel
theorem dL_holds_188 : decode cL_holds 188 = .ok (.aload_n 0, 1) := by decide +kernel
theorem dL_holds_189 : decode cL_holds 189 = .ok (.iload 8, 2) := by decide +kernel
theorem dL_holds_191 : decode cL_holds 191 = .ok (.iconst 3, 1) := by decide +kernel
theorem dL_holds_192 : decode cL_holds 192 = .ok (.invokevirtual 19, 3) := by decide +kernel
theorem dL_holds_195 : decode cL_holds 195 = .ok (.ifCond .ne 7, 3) := by decide +kernel
theorem dL_holds_198 : decode cL_holds 198 = .ok (.iconst 1, 1) := by decide +kernel
theorem dL_holds_199 : decode cL_holds 199 = .ok (.goto 4, 3) := by decide +kernel
theorem dL_holds_202 : decode cL_holds 202 = .ok (.iconst 0, 1) := by decide +kernel
theorem dL_holds_203 : decode cL_holds 203 = .ok (.iadd, 1) := by decide +kernel
theorem dL_holds_204 : decode cL_holds 204 = .ok (.istore_n 3, 1) := by decide +kernel
theorem dL_holds_205 : decode cL_holds 205 = .ok (.iload 4, 2) := by decide +kernel
theorem dL_holds_207 : decode cL_holds 207 = .ok (.aload_n 0, 1) := by decide +kernel
theorem dL_holds_208 : decode cL_holds 208 = .ok (.iload 8, 2) := by decide +kernel
theorem dL_holds_210 : decode cL_holds 210 = .ok (.iconst 3, 1) := by decide +kernel
theorem dL_holds_211 : decode cL_holds 211 = .ok (.invokevirtual 19, 3) := by decide +kernel
theorem dL_holds_214 : decode cL_holds 214 = .ok (.iconst 1, 1) := by decide +kernel
theorem dL_holds_215 : decode cL_holds 215 = .ok (.if_icmp .le 7, 3) := by decide +kernel
theorem dL_holds_218 : decode cL_holds 218 = .ok (.iconst 1, 1) := by decide +kernel
theorem dL_holds_219 : decode cL_holds 219 = .ok (.goto 4, 3) := by decide +kernel
theorem dL_holds_222 : decode cL_holds 222 = .ok (.iconst 0, 1) := by decide +kernel
theorem dL_holds_223 : decode cL_holds 223 = .ok (.iadd, 1) := by decide +kernel
theorem dL_holds_224 : decode cL_holds 224 = .ok (.istore 4, 2) := by decide +kernel
theorem dL_holds_226 : decode cL_holds 226 = .ok (.iload 5, 2) := by decide +kernel
theorem dL_holds_228 : decode cL_holds 228 = .ok (.aload_n 0, 1) := by decide +kernel
theorem dL_holds_229 : decode cL_holds 229 = .ok (.iload 8, 2) := by decide +kernel
theorem dL_holds_231 : decode cL_holds 231 = .ok (.iconst 3, 1) := by decide +kernel
theorem dL_holds_232 : decode cL_holds 232 = .ok (.invokevirtual 19, 3) := by decide +kernel
theorem dL_holds_235 : decode cL_holds 235 = .ok (.iadd, 1) := by decide +kernel
theorem dL_holds_236 : decode cL_holds 236 = .ok (.istore 5, 2) := by decide +kernel
theorem dL_holds_238 : decode cL_holds 238 = .ok (.aload_n 0, 1) := by decide +kernel
theorem dL_holds_239 : decode cL_holds 239 = .ok (.iload 10, 2) := by decide +kernel
theorem dL_holds_241 : decode cL_holds 241 = .ok (.iconst 0, 1) := by decide +kernel
theorem dL_holds_242 : decode cL_holds 242 = .ok (.invokevirtual 25, 3) := by decide +kernel
theorem dL_holds_245 : decode cL_holds 245 = .ok (.iload 8, 2) := by decide +kernel
theorem dL_holds_247 : decode cL_holds 247 = .ok (.if_icmp .ne 146, 3) := by decide +kernel
theorem dL_holds_250 : decode cL_holds 250 = .ok (.iload 9, 2) := by decide +kernel
theorem dL_holds_252 : decode cL_holds 252 = .ok (.bipush (-4), 2) := by decide +kernel
theorem dL_holds_254 : decode cL_holds 254 = .ok (.if_icmp .ne 30, 3) := by decide +kernel
theorem dL_holds_257 : decode cL_holds 257 = .ok (.aload_n 0, 1) := by decide +kernel
theorem dL_holds_258 : decode cL_holds 258 = .ok (.iload 8, 2) := by decide +kernel
theorem dL_holds_260 : decode cL_holds 260 = .ok (.bipush 8, 2) := by decide +kernel
theorem dL_holds_262 : decode cL_holds 262 = .ok (.invokevirtual 19, 3) := by decide +kernel
theorem dL_holds_265 : decode cL_holds 265 = .ok (.ifCond .ne 128, 3) := by decide +kernel
theorem dL_holds_268 : decode cL_holds 268 = .ok (.aload_n 0, 1) := by decide +kernel
theorem dL_holds_269 : decode cL_holds 269 = .ok (.iload 8, 2) := by decide +kernel
theorem dL_holds_271 : decode cL_holds 271 = .ok (.bipush 7, 2) := by decide +kernel
theorem dL_holds_273 : decode cL_holds 273 = .ok (.invokevirtual 19, 3) := by decide +kernel
theorem dL_holds_276 : decode cL_holds 276 = .ok (.iload 8, 2) := by decide +kernel
theorem dL_holds_278 : decode cL_holds 278 = .ok (.if_icmp .ne 115, 3) := by decide +kernel
theorem dL_holds_281 : decode cL_holds 281 = .ok (.goto 79, 3) := by decide +kernel
theorem dL_holds_284 : decode cL_holds 284 = .ok (.iload 9, 2) := by decide +kernel
theorem dL_holds_286 : decode cL_holds 286 = .ok (.ifCond .lt 107, 3) := by decide +kernel
theorem dL_holds_289 : decode cL_holds 289 = .ok (.iload 9, 2) := by decide +kernel
theorem dL_holds_291 : decode cL_holds 291 = .ok (.iload 8, 2) := by decide +kernel
theorem dL_holds_293 : decode cL_holds 293 = .ok (.if_icmp .ge 100, 3) := by decide +kernel
theorem dL_holds_296 : decode cL_holds 296 = .ok (.iload 12, 2) := by decide +kernel
theorem dL_holds_298 : decode cL_holds 298 = .ok (.bipush 11, 2) := by decide +kernel
theorem dL_holds_300 : decode cL_holds 300 = .ok (.if_icmp .eq 22, 3) := by decide +kernel
theorem dL_holds_303 : decode cL_holds 303 = .ok (.iload 12, 2) := by decide +kernel
theorem dL_holds_305 : decode cL_holds 305 = .ok (.iconst 1, 1) := by decide +kernel
theorem dL_holds_306 : decode cL_holds 306 = .ok (.if_icmp .ne 87, 3) := by decide +kernel
theorem dL_holds_309 : decode cL_holds 309 = .ok (.iload 10, 2) := by decide +kernel
theorem dL_holds_311 : decode cL_holds 311 = .ok (.bipush 11, 2) := by decide +kernel
theorem dL_holds_313 : decode cL_holds 313 = .ok (.idiv, 1) := by decide +kernel
theorem dL_holds_314 : decode cL_holds 314 = .ok (.iload 11, 2) := by decide +kernel
theorem dL_holds_316 : decode cL_holds 316 = .ok (.bipush 11, 2) := by decide +kernel
theorem dL_holds_318 : decode cL_holds 318 = .ok (.idiv, 1) := by decide +kernel
theorem dL_holds_319 : decode cL_holds 319 = .ok (.if_icmp .ne 74, 3) := by decide +kernel
theorem dL_holds_322 : decode cL_holds 322 = .ok (.aload_n 0, 1) := by decide +kernel
theorem dL_holds_323 : decode cL_holds 323 = .ok (.iload 8, 2) := by decide +kernel
theorem dL_holds_325 : decode cL_holds 325 = .ok (.bipush 7, 2) := by decide +kernel
theorem dL_holds_327 : decode cL_holds 327 = .ok (.invokevirtual 19, 3) := by decide +kernel
theorem dL_holds_330 : decode cL_holds 330 = .ok (.aload_n 0, 1) := by decide +kernel
theorem dL_holds_331 : decode cL_holds 331 = .ok (.iload 9, 2) := by decide +kernel
theorem dL_holds_333 : decode cL_holds 333 = .ok (.bipush 7, 2) := by decide +kernel
theorem dL_holds_335 : decode cL_holds 335 = .ok (.invokevirtual 19, 3) := by decide +kernel
theorem dL_holds_338 : decode cL_holds 338 = .ok (.if_icmp .ne 55, 3) := by decide +kernel
theorem dL_holds_341 : decode cL_holds 341 = .ok (.aload_n 0, 1) := by decide +kernel
theorem dL_holds_342 : decode cL_holds 342 = .ok (.iload 8, 2) := by decide +kernel
theorem dL_holds_344 : decode cL_holds 344 = .ok (.iconst 2, 1) := by decide +kernel
theorem dL_holds_345 : decode cL_holds 345 = .ok (.invokevirtual 19, 3) := by decide +kernel
theorem dL_holds_348 : decode cL_holds 348 = .ok (.aload_n 0, 1) := by decide +kernel
theorem dL_holds_349 : decode cL_holds 349 = .ok (.iload 9, 2) := by decide +kernel
theorem dL_holds_351 : decode cL_holds 351 = .ok (.iconst 2, 1) := by decide +kernel
theorem dL_holds_352 : decode cL_holds 352 = .ok (.invokevirtual 19, 3) := by decide +kernel
theorem dL_holds_355 : decode cL_holds 355 = .ok (.iconst 1, 1) := by decide +kernel
theorem dL_holds_356 : decode cL_holds 356 = .ok (.iadd, 1) := by decide +kernel
theorem dL_holds_357 : decode cL_holds 357 = .ok (.if_icmp .ne 36, 3) := by decide +kernel
theorem dL_holds_360 : decode cL_holds 360 = .ok (.aload_n 0, 1) := by decide +kernel
theorem dL_holds_361 : decode cL_holds 361 = .ok (.iload 8, 2) := by decide +kernel
theorem dL_holds_363 : decode cL_holds 363 = .ok (.bipush 8, 2) := by decide +kernel
theorem dL_holds_365 : decode cL_holds 365 = .ok (.invokevirtual 19, 3) := by decide +kernel
theorem dL_holds_368 : decode cL_holds 368 = .ok (.sipush 200, 3) := by decide +kernel
theorem dL_holds_371 : decode cL_holds 371 = .ok (.if_icmp .gt 22, 3) := by decide +kernel
theorem dL_holds_374 : decode cL_holds 374 = .ok (.aload_n 0, 1) := by decide +kernel
theorem dL_holds_375 : decode cL_holds 375 = .ok (.iload 10, 2) := by decide +kernel
theorem dL_holds_377 : decode cL_holds 377 = .ok (.iconst 1, 1) := by decide +kernel
theorem dL_holds_378 : decode cL_holds 378 = .ok (.invokevirtual 25, 3) := by decide +kernel
theorem dL_holds_381 : decode cL_holds 381 = .ok (.aload_n 0, 1) := by decide +kernel
theorem dL_holds_382 : decode cL_holds 382 = .ok (.iconst 5, 1) := by decide +kernel
theorem dL_holds_383 : decode cL_holds 383 = .ok (.invokevirtual 13, 3) := by decide +kernel
theorem dL_holds_386 : decode cL_holds 386 = .ok (.if_icmp .gt 7, 3) := by decide +kernel
theorem dL_holds_389 : decode cL_holds 389 = .ok (.iconst 1, 1) := by decide +kernel
theorem dL_holds_390 : decode cL_holds 390 = .ok (.goto 4, 3) := by decide +kernel
theorem dL_holds_393 : decode cL_holds 393 = .ok (.iconst 0, 1) := by decide +kernel
theorem dL_holds_394 : decode cL_holds 394 = .ok (.istore 7, 2) := by decide +kernel
theorem dL_holds_396 : decode cL_holds 396 = .ok (.iinc 8 1, 3) := by decide +kernel
theorem dL_holds_399 : decode cL_holds 399 = .ok (.goto (-299), 3) := by decide +kernel
theorem dL_holds_402 : decode cL_holds 402 = .ok (.iconst 0, 1) := by decide +kernel
theorem dL_holds_403 : decode cL_holds 403 = .ok (.istore 8, 2) := by decide +kernel
theorem dL_holds_405 : decode cL_holds 405 = .ok (.iload 8, 2) := by decide +kernel
theorem dL_holds_407 : decode cL_holds 407 = .ok (.bipush 6, 2) := by decide +kernel
theorem dL_holds_409 : decode cL_holds 409 = .ok (.if_icmp .ge 20, 3) := by decide +kernel
theorem dL_holds_412 : decode cL_holds 412 = .ok (.iload 6, 2) := by decide +kernel
theorem dL_holds_414 : decode cL_holds 414 = .ok (.aload_n 0, 1) := by decide +kernel
theorem dL_holds_415 : decode cL_holds 415 = .ok (.iload 8, 2) := by decide +kernel
theorem dL_holds_417 : decode cL_holds 417 = .ok (.invokevirtual 28, 3) := by decide +kernel
theorem dL_holds_420 : decode cL_holds 420 = .ok (.iadd, 1) := by decide +kernel
theorem dL_holds_421 : decode cL_holds 421 = .ok (.istore 6, 2) := by decide +kernel
theorem dL_holds_423 : decode cL_holds 423 = .ok (.iinc 8 1, 3) := by decide +kernel
theorem dL_holds_426 : decode cL_holds 426 = .ok (.goto (-21), 3) := by decide +kernel
theorem dL_holds_429 : decode cL_holds 429 = .ok (.iload 7, 2) := by decide +kernel
theorem dL_holds_431 : decode cL_holds 431 = .ok (.ifCond .eq 101, 3) := by decide +kernel
theorem dL_holds_434 : decode cL_holds 434 = .ok (.iload_n 2, 1) := by decide +kernel
theorem dL_holds_435 : decode cL_holds 435 = .ok (.aload_n 0, 1) := by decide +kernel
theorem dL_holds_436 : decode cL_holds 436 = .ok (.iconst 1, 1) := by decide +kernel
theorem dL_holds_437 : decode cL_holds 437 = .ok (.invokevirtual 13, 3) := by decide +kernel
theorem dL_holds_440 : decode cL_holds 440 = .ok (.if_icmp .ne 92, 3) := by decide +kernel
theorem dL_holds_443 : decode cL_holds 443 = .ok (.iload_n 3, 1) := by decide +kernel
theorem dL_holds_444 : decode cL_holds 444 = .ok (.aload_n 0, 1) := by decide +kernel
theorem dL_holds_445 : decode cL_holds 445 = .ok (.iconst 2, 1) := by decide +kernel
theorem dL_holds_446 : decode cL_holds 446 = .ok (.invokevirtual 13, 3) := by decide +kernel
theorem dL_holds_449 : decode cL_holds 449 = .ok (.if_icmp .ne 83, 3) := by decide +kernel
theorem dL_holds_452 : decode cL_holds 452 = .ok (.iload 4, 2) := by decide +kernel
theorem dL_holds_454 : decode cL_holds 454 = .ok (.aload_n 0, 1) := by decide +kernel
theorem dL_holds_455 : decode cL_holds 455 = .ok (.iconst 3, 1) := by decide +kernel
theorem dL_holds_456 : decode cL_holds 456 = .ok (.invokevirtual 13, 3) := by decide +kernel
theorem dL_holds_459 : decode cL_holds 459 = .ok (.if_icmp .ne 73, 3) := by decide +kernel
theorem dL_holds_462 : decode cL_holds 462 = .ok (.iload 5, 2) := by decide +kernel
theorem dL_holds_464 : decode cL_holds 464 = .ok (.iload_n 1, 1) := by decide +kernel
theorem dL_holds_465 : decode cL_holds 465 = .ok (.iload_n 2, 1) := by decide +kernel
theorem dL_holds_466 : decode cL_holds 466 = .ok (.isub, 1) := by decide +kernel
theorem dL_holds_467 : decode cL_holds 467 = .ok (.if_icmp .ne 65, 3) := by decide +kernel
theorem dL_holds_470 : decode cL_holds 470 = .ok (.iload 6, 2) := by decide +kernel
theorem dL_holds_472 : decode cL_holds 472 = .ok (.iload_n 1, 1) := by decide +kernel
theorem dL_holds_473 : decode cL_holds 473 = .ok (.if_icmp .ne 59, 3) := by decide +kernel
theorem dL_holds_476 : decode cL_holds 476 = .ok (.aload_n 0, 1) := by decide +kernel
theorem dL_holds_477 : decode cL_holds 477 = .ok (.iconst 0, 1) := by decide +kernel
theorem dL_holds_478 : decode cL_holds 478 = .ok (.invokevirtual 31, 3) := by decide +kernel
theorem dL_holds_481 : decode cL_holds 481 = .ok (.aload_n 0, 1) := by decide +kernel
theorem dL_holds_482 : decode cL_holds 482 = .ok (.iconst 1, 1) := by decide +kernel
theorem dL_holds_483 : decode cL_holds 483 = .ok (.invokevirtual 31, 3) := by decide +kernel
theorem dL_holds_486 : decode cL_holds 486 = .ok (.if_icmp .ne 46, 3) := by decide +kernel
theorem dL_holds_489 : decode cL_holds 489 = .ok (.aload_n 0, 1) := by decide +kernel
theorem dL_holds_490 : decode cL_holds 490 = .ok (.aload_n 0, 1) := by decide +kernel
theorem dL_holds_491 : decode cL_holds 491 = .ok (.bipush 12, 2) := by decide +kernel
theorem dL_holds_493 : decode cL_holds 493 = .ok (.invokevirtual 13, 3) := by decide +kernel
theorem dL_holds_496 : decode cL_holds 496 = .ok (.bipush 6, 2) := by decide +kernel
theorem dL_holds_498 : decode cL_holds 498 = .ok (.invokevirtual 19, 3) := by decide +kernel
theorem dL_holds_501 : decode cL_holds 501 = .ok (.aload_n 0, 1) := by decide +kernel
theorem dL_holds_502 : decode cL_holds 502 = .ok (.bipush 11, 2) := by decide +kernel
theorem dL_holds_504 : decode cL_holds 504 = .ok (.invokevirtual 13, 3) := by decide +kernel
theorem dL_holds_507 : decode cL_holds 507 = .ok (.if_icmp .ne 25, 3) := by decide +kernel
theorem dL_holds_510 : decode cL_holds 510 = .ok (.aload_n 0, 1) := by decide +kernel
theorem dL_holds_511 : decode cL_holds 511 = .ok (.invokevirtual 34, 3) := by decide +kernel
theorem dL_holds_514 : decode cL_holds 514 = .ok (.dconst 0, 1) := by decide +kernel
theorem dL_holds_515 : decode cL_holds 515 = .ok (.dcmp .l, 1) := by decide +kernel
theorem dL_holds_516 : decode cL_holds 516 = .ok (.ifCond .le 16, 3) := by decide +kernel
theorem dL_holds_519 : decode cL_holds 519 = .ok (.aload_n 0, 1) := by decide +kernel
theorem dL_holds_520 : decode cL_holds 520 = .ok (.invokevirtual 34, 3) := by decide +kernel
theorem dL_holds_523 : decode cL_holds 523 = .ok (.dconst 1, 1) := by decide +kernel
theorem dL_holds_524 : decode cL_holds 524 = .ok (.dcmp .g, 1) := by decide +kernel
theorem dL_holds_525 : decode cL_holds 525 = .ok (.ifCond .gt 7, 3) := by decide +kernel
theorem dL_holds_528 : decode cL_holds 528 = .ok (.iconst 1, 1) := by decide +kernel
theorem dL_holds_529 : decode cL_holds 529 = .ok (.goto 4, 3) := by decide +kernel
theorem dL_holds_532 : decode cL_holds 532 = .ok (.iconst 0, 1) := by decide +kernel
theorem dL_holds_533 : decode cL_holds 533 = .ok (.ireturn, 1) := by decide +kernel
set_option maxRecDepth 20000 in
theorem ggL_would_L_low : GoodIn wsL_would wsL_low := goodIn_r _ [4, 5] (by decide +kernel) (by decide +kernel)
set_option maxRecDepth 20000 in
theorem gL_would_L_low : GoodIn wsL_would (va_wsS RL 38 yL_low wsL_low) := goodIn_app (goodIn_of _ (by decide +kernel)) ggL_would_L_low
set_option maxRecDepth 20000 in
theorem ggL_would_X7_ifGone : GoodIn wsL_would wsX7_ifGone := goodIn_r _ [10, 11, 12, 13, 14, 15, 16, 17, 18, 19, 20, 21, 22, 23, 24, 25, 26, 27, 28, 29, 30, 31, 32, 33, 34, 35, 36, 37, 38, 39, 40, 41, 42, 43, 44, 45, 46, 47, 48, 49, 50, 51, 52, 53, 54, 55, 56, 57, 58, 59, 60, 61, 9, 62, 63, 64, 65, 66, 67, 68, 69, 70, 71, 72, 73, 74, 75, 76, 291, 292, 293, 294, 295, 296, 297, 298, 299, 300, 301, 302, 303, 304, 305, 306, 307, 308, 309, 310, 311, 312, 313, 314, 315, 316, 317, 318, 319, 320] (by decide +kernel) (by decide +kernel)
set_option maxRecDepth 20000 in
theorem gL_would_X7_ifGone : GoodIn wsL_would (wsV RL 41 RX7 yX7_ifGone wsX7_ifGone) := goodIn_app (goodIn_of _ (by decide +kernel)) ggL_would_X7_ifGone
set_option maxRecDepth 20000 in
theorem ggL_would_X7_screens : GoodIn wsL_would wsX7_screens := goodIn_r _ [80, 11, 81, 19, 20, 21, 82, 83, 84, 85, 86, 23, 24, 87, 88, 89, 90, 26, 27, 16, 28, 29, 91, 55, 56, 291, 292, 293, 294, 295, 296, 297, 298, 299, 300, 301, 302, 303, 304, 310, 311, 312, 313, 314, 315, 316, 317, 318, 319, 320] (by decide +kernel) (by decide +kernel)
set_option maxRecDepth 20000 in
theorem gL_would_X7_screens : GoodIn wsL_would (wsV RL 44 RX7 yX7_screens wsX7_screens) := goodIn_app (goodIn_of _ (by decide +kernel)) ggL_would_X7_screens
set_option maxRecDepth 20000 in
theorem ggL_would_X7_grain : GoodIn wsL_would wsX7_grain := goodIn_r _ [95, 11, 96, 97, 98, 99, 16, 100, 101, 102, 103, 104, 105, 106, 107, 108, 109, 110, 111, 112, 113, 114, 115, 116, 117, 118, 119, 120, 121, 122, 123, 124, 125, 126, 127, 128, 129, 130, 131, 132, 133, 134, 135, 136, 137, 138, 139, 140, 9, 141, 142, 143, 144, 145, 84, 146, 147, 148, 149, 150, 83, 85, 86, 23, 20, 24, 87, 88, 89, 90, 26, 27, 28, 29, 91, 55, 56, 151, 152, 153, 154, 155, 156, 291, 292, 293, 294, 295, 296, 297, 298, 299, 300, 301, 302, 303, 304, 321, 322, 323, 324, 325, 326, 327, 310, 311, 312, 313, 314, 315, 316, 317, 318, 319, 320, 328, 329, 330] (by decide +kernel) (by decide +kernel)
set_option maxRecDepth 20000 in
theorem gL_would_X7_grain : GoodIn wsL_would (wsV RL 19 RX7 yX7_grain wsX7_grain) := goodIn_app (goodIn_of _ (by decide +kernel)) ggL_would_X7_grain
set_option maxRecDepth 20000 in
theorem ggL_would_X7_count : GoodIn wsL_would wsX7_count := goodIn_r _ [160, 11, 161, 162, 163, 164, 165, 16, 166, 101, 136, 167, 168, 169, 170, 171, 172, 20, 173, 174, 175, 176, 177, 178, 179, 180, 181, 25, 26, 27, 28, 29, 182, 51, 52, 53, 54, 55, 56, 183, 184, 185, 9, 186, 142, 143, 144, 145, 84, 146, 147, 148, 149, 150, 83, 85, 86, 23, 24, 87, 88, 89, 90, 91, 151, 98, 99, 100, 187, 188, 189, 190, 138, 139, 140, 141, 191, 42, 43, 44, 45, 192, 193, 194, 195, 96, 102, 103, 104, 105, 106, 107, 108, 109, 110, 111, 112, 113, 114, 115, 116, 117, 118, 119, 120, 121, 122, 123, 124, 125, 126, 127, 128, 129, 130, 131, 196, 197, 198, 199, 200, 201, 202, 203, 204, 205, 206, 207, 208, 291, 292, 293, 294, 295, 296, 297, 298, 299, 300, 301, 302, 303, 304, 310, 311, 312, 313, 314, 315, 316, 317, 318, 319, 320, 331, 332, 333, 334, 335, 336, 328, 329, 330, 321, 322, 323, 324, 325, 326, 327] (by decide +kernel) (by decide +kernel)
set_option maxRecDepth 20000 in
theorem gL_would_X7_count : GoodIn wsL_would (wsV RL 13 RX7 yX7_count wsX7_count) := goodIn_app (goodIn_of _ (by decide +kernel)) ggL_would_X7_count
set_option maxRecDepth 20000 in
theorem ggL_would_X7_ifBroken : GoodIn wsL_would wsX7_ifBroken := goodIn_r _ [212, 11, 213, 214, 96, 142, 215, 216, 217, 16, 218, 113, 98, 99, 100, 101, 219, 109, 110, 111, 112, 220, 221, 222, 223, 136, 224, 225, 226, 227, 156, 29, 45, 228, 229, 230, 231, 232, 233, 234, 235, 236, 237, 238, 239, 240, 241, 242, 243, 244, 245, 246, 247, 248, 249, 250, 251, 20, 252, 163, 164, 165, 166, 167, 168, 169, 170, 171, 172, 173, 174, 175, 176, 177, 102, 103, 104, 105, 106, 107, 108, 114, 115, 116, 117, 118, 119, 120, 121, 122, 123, 124, 125, 126, 127, 128, 129, 130, 131, 204, 205, 206, 207, 208, 143, 144, 145, 84, 146, 147, 148, 149, 150, 83, 85, 86, 23, 24, 87, 88, 89, 90, 26, 27, 28, 91, 55, 56, 151, 291, 292, 293, 294, 295, 296, 297, 298, 299, 300, 301, 302, 303, 304, 310, 311, 312, 313, 314, 315, 316, 317, 318, 319, 320, 328, 329, 330, 337, 338, 321, 322, 323, 324, 325, 326, 327] (by decide +kernel) (by decide +kernel)
set_option maxRecDepth 20000 in
theorem gL_would_X7_ifBroken : GoodIn wsL_would (wsV RL 47 RX7 yX7_ifBroken wsX7_ifBroken) := goodIn_app (goodIn_of _ (by decide +kernel)) ggL_would_X7_ifBroken
set_option maxRecDepth 20000 in
theorem ggL_would_X7_apart : GoodIn wsL_would wsX7_apart := goodIn_r _ [256, 11, 97, 98, 99, 16, 100, 101, 257, 258, 259, 260, 167, 168, 169, 170, 261, 262, 263, 219, 109, 110, 111, 112, 113, 291, 292, 293, 294, 295, 296, 297, 298, 299, 300, 301, 302, 303, 304, 310, 311, 312, 313, 314, 315, 316, 317, 318, 319, 320] (by decide +kernel) (by decide +kernel)
set_option maxRecDepth 20000 in
theorem gL_would_X7_apart : GoodIn wsL_would (wsV RL 50 RX7 yX7_apart wsX7_apart) := goodIn_app (goodIn_of _ (by decide +kernel)) ggL_would_X7_apart
set_option maxRecDepth 20000 in
theorem ggL_would_X7_cell : GoodIn wsL_would wsX7_cell := goodIn_r _ [267, 11, 268, 251, 20, 252, 269, 26, 27, 16, 28, 29, 270, 172, 173, 174, 175, 169, 176, 177, 168, 170, 271, 272, 273, 274, 54, 55, 56, 25, 275, 276, 277, 291, 292, 293, 294, 295, 296, 297, 298, 299, 300, 301, 302, 303, 304, 310, 311, 312, 313, 314, 315, 316, 317, 318, 319, 320] (by decide +kernel) (by decide +kernel)
set_option maxRecDepth 20000 in
theorem gL_would_X7_cell : GoodIn wsL_would (wsV RL 25 RX7 yX7_cell wsX7_cell) := goodIn_app (goodIn_of _ (by decide +kernel)) ggL_would_X7_cell
set_option maxRecDepth 20000 in
theorem ggL_would_X7_longest : GoodIn wsL_would wsX7_longest := goodIn_r _ [281, 11, 96, 282, 283, 284, 16, 285, 101, 167, 168, 169, 170, 286, 258, 259, 260, 261, 262, 263, 219, 109, 110, 111, 112, 113, 98, 99, 100, 102, 103, 104, 105, 106, 107, 108, 114, 115, 116, 117, 118, 119, 120, 121, 122, 123, 124, 125, 126, 127, 128, 129, 130, 131, 287, 288, 289, 290, 208, 291, 292, 293, 294, 295, 296, 297, 298, 299, 300, 301, 302, 303, 304, 310, 311, 312, 313, 314, 315, 316, 317, 318, 319, 320, 321, 322, 323, 324, 325, 326, 327] (by decide +kernel) (by decide +kernel)
set_option maxRecDepth 20000 in
theorem gL_would_X7_longest : GoodIn wsL_would (wsV RL 31 RX7 yX7_longest wsX7_longest) := goodIn_app (goodIn_of _ (by decide +kernel)) ggL_would_X7_longest
theorem dL_would_0 : decode cL_would 0 = .ok (.iload_n 1, 1) := by decide +kernel
theorem dL_would_1 : decode cL_would 1 = .ok (.bipush 42, 2) := by decide +kernel
theorem dL_would_3 : decode cL_would 3 = .ok (.invokestatic 38, 3) := by decide +kernel
theorem dL_would_6 : decode cL_would 6 = .ok (.iconst 1, 1) := by decide +kernel
theorem dL_would_7 : decode cL_would 7 = .ok (.isub, 1) := by decide +kernel
theorem dL_would_8 : decode cL_would 8 = .ok (.istore_n 2, 1) := by decide +kernel
theorem dL_would_9 : decode cL_would 9 = .ok (.iload_n 1, 1) := by decide +kernel
theorem dL_would_10 : decode cL_would 10 = .ok (.bipush 6, 2) := by decide +kernel
theorem dL_would_12 : decode cL_would 12 = .ok (.ishr, 1) := by decide +kernel
theorem dL_would_13 : decode cL_would 13 = .ok (.iconst 5, 1) := by decide +kernel
theorem dL_would_14 : decode cL_would 14 = .ok (.invokestatic 38, 3) := by decide +kernel
theorem dL_would_17 : decode cL_would 17 = .ok (.iconst 1, 1) := by decide +kernel
theorem dL_would_18 : decode cL_would 18 = .ok (.isub, 1) := by decide +kernel
theorem dL_would_19 : decode cL_would 19 = .ok (.istore_n 3, 1) := by decide +kernel
theorem dL_would_20 : decode cL_would 20 = .ok (.aload_n 0, 1) := by decide +kernel
theorem dL_would_21 : decode cL_would 21 = .ok (.iload_n 2, 1) := by decide +kernel
theorem dL_would_22 : decode cL_would 22 = .ok (.iload_n 3, 1) := by decide +kernel
theorem dL_would_23 : decode cL_would 23 = .ok (.invokevirtual 41, 3) := by decide +kernel
theorem dL_would_26 : decode cL_would 26 = .ok (.istore 4, 2) := by decide +kernel
theorem dL_would_28 : decode cL_would 28 = .ok (.iload_n 2, 1) := by decide +kernel
theorem dL_would_29 : decode cL_would 29 = .ok (.ifCond .lt 9, 3) := by decide +kernel
theorem dL_would_32 : decode cL_would 32 = .ok (.iload_n 2, 1) := by decide +kernel
theorem dL_would_33 : decode cL_would 33 = .ok (.bipush 39, 2) := by decide +kernel
theorem dL_would_35 : decode cL_would 35 = .ok (.if_icmp .le 8, 3) := by decide +kernel
theorem dL_would_38 : decode cL_would 38 = .ok (.bipush (-4), 2) := by decide +kernel
theorem dL_would_40 : decode cL_would 40 = .ok (.goto 8, 3) := by decide +kernel
theorem dL_would_43 : decode cL_would 43 = .ok (.aload_n 0, 1) := by decide +kernel
theorem dL_would_44 : decode cL_would 44 = .ok (.iload_n 2, 1) := by decide +kernel
theorem dL_would_45 : decode cL_would 45 = .ok (.invokevirtual 44, 3) := by decide +kernel
theorem dL_would_48 : decode cL_would 48 = .ok (.istore 5, 2) := by decide +kernel
theorem dL_would_50 : decode cL_would 50 = .ok (.iload_n 2, 1) := by decide +kernel
theorem dL_would_51 : decode cL_would 51 = .ok (.ifCond .lt 9, 3) := by decide +kernel
theorem dL_would_54 : decode cL_would 54 = .ok (.iload_n 2, 1) := by decide +kernel
theorem dL_would_55 : decode cL_would 55 = .ok (.bipush 39, 2) := by decide +kernel
theorem dL_would_57 : decode cL_would 57 = .ok (.if_icmp .le 7, 3) := by decide +kernel
theorem dL_would_60 : decode cL_would 60 = .ok (.iconst 0, 1) := by decide +kernel
theorem dL_would_61 : decode cL_would 61 = .ok (.goto 53, 3) := by decide +kernel
theorem dL_would_64 : decode cL_would 64 = .ok (.iload_n 2, 1) := by decide +kernel
theorem dL_would_65 : decode cL_would 65 = .ok (.bipush 11, 2) := by decide +kernel
theorem dL_would_67 : decode cL_would 67 = .ok (.if_icmp .ge 7, 3) := by decide +kernel
theorem dL_would_70 : decode cL_would 70 = .ok (.iload_n 2, 1) := by decide +kernel
theorem dL_would_71 : decode cL_would 71 = .ok (.goto 43, 3) := by decide +kernel
theorem dL_would_74 : decode cL_would 74 = .ok (.iload_n 2, 1) := by decide +kernel
theorem dL_would_75 : decode cL_would 75 = .ok (.bipush 21, 2) := by decide +kernel
theorem dL_would_77 : decode cL_would 77 = .ok (.if_icmp .ge 16, 3) := by decide +kernel
theorem dL_would_80 : decode cL_would 80 = .ok (.bipush 11, 2) := by decide +kernel
theorem dL_would_82 : decode cL_would 82 = .ok (.iload_n 2, 1) := by decide +kernel
theorem dL_would_83 : decode cL_would 83 = .ok (.bipush 10, 2) := by decide +kernel
theorem dL_would_85 : decode cL_would 85 = .ok (.isub, 1) := by decide +kernel
theorem dL_would_86 : decode cL_would 86 = .ok (.imul, 1) := by decide +kernel
theorem dL_would_87 : decode cL_would 87 = .ok (.bipush 10, 2) := by decide +kernel
theorem dL_would_89 : decode cL_would 89 = .ok (.iadd, 1) := by decide +kernel
theorem dL_would_90 : decode cL_would 90 = .ok (.goto 24, 3) := by decide +kernel
theorem dL_would_93 : decode cL_would 93 = .ok (.iload_n 2, 1) := by decide +kernel
theorem dL_would_94 : decode cL_would 94 = .ok (.bipush 31, 2) := by decide +kernel
theorem dL_would_96 : decode cL_would 96 = .ok (.if_icmp .ge 11, 3) := by decide +kernel
theorem dL_would_99 : decode cL_would 99 = .ok (.sipush 140, 3) := by decide +kernel
theorem dL_would_102 : decode cL_would 102 = .ok (.iload_n 2, 1) := by decide +kernel
theorem dL_would_103 : decode cL_would 103 = .ok (.isub, 1) := by decide +kernel
theorem dL_would_104 : decode cL_would 104 = .ok (.goto 10, 3) := by decide +kernel
theorem dL_would_107 : decode cL_would 107 = .ok (.bipush 11, 2) := by decide +kernel
theorem dL_would_109 : decode cL_would 109 = .ok (.bipush 40, 2) := by decide +kernel
theorem dL_would_111 : decode cL_would 111 = .ok (.iload_n 2, 1) := by decide +kernel
theorem dL_would_112 : decode cL_would 112 = .ok (.isub, 1) := by decide +kernel
theorem dL_would_113 : decode cL_would 113 = .ok (.imul, 1) := by decide +kernel
theorem dL_would_114 : decode cL_would 114 = .ok (.istore 6, 2) := by decide +kernel
theorem dL_would_116 : decode cL_would 116 = .ok (.iload_n 2, 1) := by decide +kernel
theorem dL_would_117 : decode cL_would 117 = .ok (.ifCond .lt 18, 3) := by decide +kernel
theorem dL_would_120 : decode cL_would 120 = .ok (.iload_n 2, 1) := by decide +kernel
theorem dL_would_121 : decode cL_would 121 = .ok (.bipush 39, 2) := by decide +kernel
theorem dL_would_123 : decode cL_would 123 = .ok (.if_icmp .gt 12, 3) := by decide +kernel
theorem dL_would_126 : decode cL_would 126 = .ok (.iload_n 3, 1) := by decide +kernel
theorem dL_would_127 : decode cL_would 127 = .ok (.ifCond .lt 8, 3) := by decide +kernel
theorem dL_would_130 : decode cL_would 130 = .ok (.iload_n 3, 1) := by decide +kernel
theorem dL_would_131 : decode cL_would 131 = .ok (.iconst 2, 1) := by decide +kernel
theorem dL_would_132 : decode cL_would 132 = .ok (.if_icmp .le 7, 3) := by decide +kernel
theorem dL_would_135 : decode cL_would 135 = .ok (.iconst 1, 1) := by decide +kernel
theorem dL_would_136 : decode cL_would 136 = .ok (.goto 4, 3) := by decide +kernel
theorem dL_would_139 : decode cL_would 139 = .ok (.iconst 0, 1) := by decide +kernel
theorem dL_would_140 : decode cL_would 140 = .ok (.istore 7, 2) := by decide +kernel
theorem dL_would_142 : decode cL_would 142 = .ok (.iload 5, 2) := by decide +kernel
theorem dL_would_144 : decode cL_would 144 = .ok (.ifCond .lt 19, 3) := by decide +kernel
theorem dL_would_147 : decode cL_would 147 = .ok (.aload_n 0, 1) := by decide +kernel
theorem dL_would_148 : decode cL_would 148 = .ok (.iload 5, 2) := by decide +kernel
theorem dL_would_150 : decode cL_would 150 = .ok (.iconst 0, 1) := by decide +kernel
theorem dL_would_151 : decode cL_would 151 = .ok (.invokevirtual 19, 3) := by decide +kernel
theorem dL_would_154 : decode cL_would 154 = .ok (.iload 6, 2) := by decide +kernel
theorem dL_would_156 : decode cL_would 156 = .ok (.if_icmp .ne 7, 3) := by decide +kernel
theorem dL_would_159 : decode cL_would 159 = .ok (.iconst 1, 1) := by decide +kernel
theorem dL_would_160 : decode cL_would 160 = .ok (.goto 4, 3) := by decide +kernel
theorem dL_would_163 : decode cL_would 163 = .ok (.iconst 0, 1) := by decide +kernel
theorem dL_would_164 : decode cL_would 164 = .ok (.istore 8, 2) := by decide +kernel
theorem dL_would_166 : decode cL_would 166 = .ok (.iload_n 1, 1) := by decide +kernel
theorem dL_would_167 : decode cL_would 167 = .ok (.bipush 9, 2) := by decide +kernel
theorem dL_would_169 : decode cL_would 169 = .ok (.ishr, 1) := by decide +kernel
theorem dL_would_170 : decode cL_would 170 = .ok (.aload_n 0, 1) := by decide +kernel
theorem dL_would_171 : decode cL_would 171 = .ok (.iconst 0, 1) := by decide +kernel
theorem dL_would_172 : decode cL_would 172 = .ok (.invokevirtual 13, 3) := by decide +kernel
theorem dL_would_175 : decode cL_would 175 = .ok (.iconst 1, 1) := by decide +kernel
theorem dL_would_176 : decode cL_would 176 = .ok (.iadd, 1) := by decide +kernel
theorem dL_would_177 : decode cL_would 177 = .ok (.invokestatic 38, 3) := by decide +kernel
theorem dL_would_180 : decode cL_would 180 = .ok (.istore 9, 2) := by decide +kernel
theorem dL_would_182 : decode cL_would 182 = .ok (.iload_n 1, 1) := by decide +kernel
theorem dL_would_183 : decode cL_would 183 = .ok (.bipush 16, 2) := by decide +kernel
theorem dL_would_185 : decode cL_would 185 = .ok (.ishr, 1) := by decide +kernel
theorem dL_would_186 : decode cL_would 186 = .ok (.bipush 6, 2) := by decide +kernel
theorem dL_would_188 : decode cL_would 188 = .ok (.invokestatic 38, 3) := by decide +kernel
theorem dL_would_191 : decode cL_would 191 = .ok (.iconst 1, 1) := by decide +kernel
theorem dL_would_192 : decode cL_would 192 = .ok (.isub, 1) := by decide +kernel
theorem dL_would_193 : decode cL_would 193 = .ok (.istore 10, 2) := by decide +kernel
theorem dL_would_195 : decode cL_would 195 = .ok (.aload_n 0, 1) := by decide +kernel
theorem dL_would_196 : decode cL_would 196 = .ok (.iload 9, 2) := by decide +kernel
theorem dL_would_198 : decode cL_would 198 = .ok (.iload 10, 2) := by decide +kernel
theorem dL_would_200 : decode cL_would 200 = .ok (.invokevirtual 47, 3) := by decide +kernel
theorem dL_would_203 : decode cL_would 203 = .ok (.istore 11, 2) := by decide +kernel
theorem dL_would_205 : decode cL_would 205 = .ok (.iload 9, 2) := by decide +kernel
theorem dL_would_207 : decode cL_would 207 = .ok (.aload_n 0, 1) := by decide +kernel
theorem dL_would_208 : decode cL_would 208 = .ok (.iconst 0, 1) := by decide +kernel
theorem dL_would_209 : decode cL_would 209 = .ok (.invokevirtual 13, 3) := by decide +kernel
theorem dL_would_212 : decode cL_would 212 = .ok (.if_icmp .eq 14, 3) := by decide +kernel
theorem dL_would_215 : decode cL_would 215 = .ok (.iload 10, 2) := by decide +kernel
theorem dL_would_217 : decode cL_would 217 = .ok (.ifCond .lt 9, 3) := by decide +kernel
theorem dL_would_220 : decode cL_would 220 = .ok (.iload 10, 2) := by decide +kernel
theorem dL_would_222 : decode cL_would 222 = .ok (.iconst 3, 1) := by decide +kernel
theorem dL_would_223 : decode cL_would 223 = .ok (.if_icmp .le 7, 3) := by decide +kernel
theorem dL_would_226 : decode cL_would 226 = .ok (.iconst 1, 1) := by decide +kernel
theorem dL_would_227 : decode cL_would 227 = .ok (.goto 4, 3) := by decide +kernel
theorem dL_would_230 : decode cL_would 230 = .ok (.iconst 0, 1) := by decide +kernel
theorem dL_would_231 : decode cL_would 231 = .ok (.istore 12, 2) := by decide +kernel
theorem dL_would_233 : decode cL_would 233 = .ok (.iload_n 1, 1) := by decide +kernel
theorem dL_would_234 : decode cL_would 234 = .ok (.iconst 4, 1) := by decide +kernel
theorem dL_would_235 : decode cL_would 235 = .ok (.ishr, 1) := by decide +kernel
theorem dL_would_236 : decode cL_would 236 = .ok (.aload_n 0, 1) := by decide +kernel
theorem dL_would_237 : decode cL_would 237 = .ok (.iconst 0, 1) := by decide +kernel
theorem dL_would_238 : decode cL_would 238 = .ok (.invokevirtual 13, 3) := by decide +kernel
theorem dL_would_241 : decode cL_would 241 = .ok (.invokestatic 38, 3) := by decide +kernel
theorem dL_would_244 : decode cL_would 244 = .ok (.istore 13, 2) := by decide +kernel
theorem dL_would_246 : decode cL_would 246 = .ok (.iload_n 1, 1) := by decide +kernel
theorem dL_would_247 : decode cL_would 247 = .ok (.bipush 12, 2) := by decide +kernel
theorem dL_would_249 : decode cL_would 249 = .ok (.ishr, 1) := by decide +kernel
theorem dL_would_250 : decode cL_would 250 = .ok (.aload_n 0, 1) := by decide +kernel
theorem dL_would_251 : decode cL_would 251 = .ok (.iconst 0, 1) := by decide +kernel
theorem dL_would_252 : decode cL_would 252 = .ok (.invokevirtual 13, 3) := by decide +kernel
theorem dL_would_255 : decode cL_would 255 = .ok (.invokestatic 38, 3) := by decide +kernel
theorem dL_would_258 : decode cL_would 258 = .ok (.istore 14, 2) := by decide +kernel
theorem dL_would_260 : decode cL_would 260 = .ok (.aload_n 0, 1) := by decide +kernel
theorem dL_would_261 : decode cL_would 261 = .ok (.iload 13, 2) := by decide +kernel
theorem dL_would_263 : decode cL_would 263 = .ok (.iload 14, 2) := by decide +kernel
theorem dL_would_265 : decode cL_would 265 = .ok (.invokevirtual 50, 3) := by decide +kernel
theorem dL_would_268 : decode cL_would 268 = .ok (.istore 15, 2) := by decide +kernel
theorem dL_would_270 : decode cL_would 270 = .ok (.iload 7, 2) := by decide +kernel
theorem dL_would_272 : decode cL_would 272 = .ok (.ifCond .eq 12, 3) := by decide +kernel
theorem dL_would_275 : decode cL_would 275 = .ok (.iload 4, 2) := by decide +kernel
theorem dL_would_277 : decode cL_would 277 = .ok (.iconst (-1), 1) := by decide +kernel
theorem dL_would_278 : decode cL_would 278 = .ok (.if_icmp .ne 212, 3) := by decide +kernel
theorem dL_would_281 : decode cL_would 281 = .ok (.goto 114, 3) := by decide +kernel
theorem dL_would_284 : decode cL_would 284 = .ok (.iload 8, 2) := by decide +kernel
theorem dL_would_286 : decode cL_would 286 = .ok (.ifCond .eq 13, 3) := by decide +kernel
theorem dL_would_289 : decode cL_would 289 = .ok (.iload 4, 2) := by decide +kernel
theorem dL_would_291 : decode cL_would 291 = .ok (.bipush (-2), 2) := by decide +kernel
theorem dL_would_293 : decode cL_would 293 = .ok (.if_icmp .ne 197, 3) := by decide +kernel
theorem dL_would_296 : decode cL_would 296 = .ok (.goto 99, 3) := by decide +kernel
theorem dL_would_299 : decode cL_would 299 = .ok (.iload_n 3, 1) := by decide +kernel
theorem dL_would_300 : decode cL_would 300 = .ok (.iconst 1, 1) := by decide +kernel
theorem dL_would_301 : decode cL_would 301 = .ok (.if_icmp .ne 30, 3) := by decide +kernel
theorem dL_would_304 : decode cL_would 304 = .ok (.iload 4, 2) := by decide +kernel
theorem dL_would_306 : decode cL_would 306 = .ok (.ifCond .lt 184, 3) := by decide +kernel
theorem dL_would_309 : decode cL_would 309 = .ok (.iload 4, 2) := by decide +kernel
theorem dL_would_311 : decode cL_would 311 = .ok (.bipush 121, 2) := by decide +kernel
theorem dL_would_313 : decode cL_would 313 = .ok (.if_icmp .ge 177, 3) := by decide +kernel
theorem dL_would_316 : decode cL_would 316 = .ok (.aload_n 0, 1) := by decide +kernel
theorem dL_would_317 : decode cL_would 317 = .ok (.iload 4, 2) := by decide +kernel
theorem dL_would_319 : decode cL_would 319 = .ok (.iconst 0, 1) := by decide +kernel
theorem dL_would_320 : decode cL_would 320 = .ok (.invokevirtual 25, 3) := by decide +kernel
theorem dL_would_323 : decode cL_would 323 = .ok (.bipush (-4), 2) := by decide +kernel
theorem dL_would_325 : decode cL_would 325 = .ok (.if_icmp .ne 165, 3) := by decide +kernel
theorem dL_would_328 : decode cL_would 328 = .ok (.goto 67, 3) := by decide +kernel
theorem dL_would_331 : decode cL_would 331 = .ok (.iload_n 3, 1) := by decide +kernel
theorem dL_would_332 : decode cL_would 332 = .ok (.iconst 2, 1) := by decide +kernel
theorem dL_would_333 : decode cL_would 333 = .ok (.if_icmp .ne 20, 3) := by decide +kernel
theorem dL_would_336 : decode cL_would 336 = .ok (.iload 4, 2) := by decide +kernel
theorem dL_would_338 : decode cL_would 338 = .ok (.iconst 1, 1) := by decide +kernel
theorem dL_would_339 : decode cL_would 339 = .ok (.if_icmp .lt 151, 3) := by decide +kernel
theorem dL_would_342 : decode cL_would 342 = .ok (.iload 4, 2) := by decide +kernel
theorem dL_would_344 : decode cL_would 344 = .ok (.sipush 401, 3) := by decide +kernel
theorem dL_would_347 : decode cL_would 347 = .ok (.if_icmp .gt 143, 3) := by decide +kernel
theorem dL_would_350 : decode cL_would 350 = .ok (.goto 45, 3) := by decide +kernel
theorem dL_would_353 : decode cL_would 353 = .ok (.iload 4, 2) := by decide +kernel
theorem dL_would_355 : decode cL_would 355 = .ok (.sipush 1000, 3) := by decide +kernel
theorem dL_would_358 : decode cL_would 358 = .ok (.if_icmp .lt 20, 3) := by decide +kernel
theorem dL_would_361 : decode cL_would 361 = .ok (.aload_n 0, 1) := by decide +kernel
theorem dL_would_362 : decode cL_would 362 = .ok (.iload 4, 2) := by decide +kernel
theorem dL_would_364 : decode cL_would 364 = .ok (.sipush 1000, 3) := by decide +kernel
theorem dL_would_367 : decode cL_would 367 = .ok (.isub, 1) := by decide +kernel
theorem dL_would_368 : decode cL_would 368 = .ok (.iconst 2, 1) := by decide +kernel
theorem dL_would_369 : decode cL_would 369 = .ok (.invokevirtual 25, 3) := by decide +kernel
theorem dL_would_372 : decode cL_would 372 = .ok (.ifCond .le 118, 3) := by decide +kernel
theorem dL_would_375 : decode cL_would 375 = .ok (.goto 20, 3) := by decide +kernel
theorem dL_would_378 : decode cL_would 378 = .ok (.iload 4, 2) := by decide +kernel
theorem dL_would_380 : decode cL_would 380 = .ok (.iconst 1, 1) := by decide +kernel
theorem dL_would_381 : decode cL_would 381 = .ok (.if_icmp .lt 109, 3) := by decide +kernel
theorem dL_would_384 : decode cL_would 384 = .ok (.iload 4, 2) := by decide +kernel
theorem dL_would_386 : decode cL_would 386 = .ok (.aload_n 0, 1) := by decide +kernel
theorem dL_would_387 : decode cL_would 387 = .ok (.bipush 14, 2) := by decide +kernel
theorem dL_would_389 : decode cL_would 389 = .ok (.invokevirtual 13, 3) := by decide +kernel
theorem dL_would_392 : decode cL_would 392 = .ok (.if_icmp .gt 98, 3) := by decide +kernel
theorem dL_would_395 : decode cL_would 395 = .ok (.iload 12, 2) := by decide +kernel
theorem dL_would_397 : decode cL_would 397 = .ok (.ifCond .eq 12, 3) := by decide +kernel
theorem dL_would_400 : decode cL_would 400 = .ok (.iload 11, 2) := by decide +kernel
theorem dL_would_402 : decode cL_would 402 = .ok (.iconst (-1), 1) := by decide +kernel
theorem dL_would_403 : decode cL_would 403 = .ok (.if_icmp .ne 87, 3) := by decide +kernel
theorem dL_would_406 : decode cL_would 406 = .ok (.goto 80, 3) := by decide +kernel
theorem dL_would_409 : decode cL_would 409 = .ok (.aload_n 0, 1) := by decide +kernel
theorem dL_would_410 : decode cL_would 410 = .ok (.iload 9, 2) := by decide +kernel
theorem dL_would_412 : decode cL_would 412 = .ok (.iconst 1, 1) := by decide +kernel
theorem dL_would_413 : decode cL_would 413 = .ok (.invokevirtual 19, 3) := by decide +kernel
theorem dL_would_416 : decode cL_would 416 = .ok (.bipush (-4), 2) := by decide +kernel
theorem dL_would_418 : decode cL_would 418 = .ok (.if_icmp .ne 13, 3) := by decide +kernel
theorem dL_would_421 : decode cL_would 421 = .ok (.iload 11, 2) := by decide +kernel
theorem dL_would_423 : decode cL_would 423 = .ok (.bipush (-2), 2) := by decide +kernel
theorem dL_would_425 : decode cL_would 425 = .ok (.if_icmp .ne 65, 3) := by decide +kernel
theorem dL_would_428 : decode cL_would 428 = .ok (.goto 58, 3) := by decide +kernel
theorem dL_would_431 : decode cL_would 431 = .ok (.iload 11, 2) := by decide +kernel
theorem dL_would_433 : decode cL_would 433 = .ok (.ifCond .lt 57, 3) := by decide +kernel
theorem dL_would_436 : decode cL_would 436 = .ok (.iload 11, 2) := by decide +kernel
theorem dL_would_438 : decode cL_would 438 = .ok (.iload 10, 2) := by decide +kernel
theorem dL_would_440 : decode cL_would 440 = .ok (.ifCond .ne 13, 3) := by decide +kernel
theorem dL_would_443 : decode cL_would 443 = .ok (.aload_n 0, 1) := by decide +kernel
theorem dL_would_444 : decode cL_would 444 = .ok (.iconst 0, 1) := by decide +kernel
theorem dL_would_445 : decode cL_would 445 = .ok (.invokevirtual 13, 3) := by decide +kernel
theorem dL_would_448 : decode cL_would 448 = .ok (.iconst 1, 1) := by decide +kernel
theorem dL_would_449 : decode cL_would 449 = .ok (.isub, 1) := by decide +kernel
theorem dL_would_450 : decode cL_would 450 = .ok (.goto 33, 3) := by decide +kernel
theorem dL_would_453 : decode cL_would 453 = .ok (.iload 10, 2) := by decide +kernel
theorem dL_would_455 : decode cL_would 455 = .ok (.iconst 1, 1) := by decide +kernel
theorem dL_would_456 : decode cL_would 456 = .ok (.if_icmp .ne 11, 3) := by decide +kernel
theorem dL_would_459 : decode cL_would 459 = .ok (.aload_n 0, 1) := by decide +kernel
theorem dL_would_460 : decode cL_would 460 = .ok (.iconst 5, 1) := by decide +kernel
theorem dL_would_461 : decode cL_would 461 = .ok (.invokevirtual 13, 3) := by decide +kernel
theorem dL_would_464 : decode cL_would 464 = .ok (.goto 19, 3) := by decide +kernel
theorem dL_would_467 : decode cL_would 467 = .ok (.iload 10, 2) := by decide +kernel
theorem dL_would_469 : decode cL_would 469 = .ok (.iconst 2, 1) := by decide +kernel
theorem dL_would_470 : decode cL_would 470 = .ok (.if_icmp .ne 11, 3) := by decide +kernel
theorem dL_would_473 : decode cL_would 473 = .ok (.aload_n 0, 1) := by decide +kernel
theorem dL_would_474 : decode cL_would 474 = .ok (.iconst 4, 1) := by decide +kernel
theorem dL_would_475 : decode cL_would 475 = .ok (.invokevirtual 13, 3) := by decide +kernel
theorem dL_would_478 : decode cL_would 478 = .ok (.goto 5, 3) := by decide +kernel
theorem dL_would_481 : decode cL_would 481 = .ok (.bipush 40, 2) := by decide +kernel
theorem dL_would_483 : decode cL_would 483 = .ok (.if_icmp .gt 7, 3) := by decide +kernel
theorem dL_would_486 : decode cL_would 486 = .ok (.iconst 1, 1) := by decide +kernel
theorem dL_would_487 : decode cL_would 487 = .ok (.goto 4, 3) := by decide +kernel
theorem dL_would_490 : decode cL_would 490 = .ok (.iconst 0, 1) := by decide +kernel
theorem dL_would_491 : decode cL_would 491 = .ok (.istore 16, 2) := by decide +kernel
theorem dL_would_493 : decode cL_would 493 = .ok (.iload 16, 2) := by decide +kernel
theorem dL_would_495 : decode cL_would 495 = .ok (.ifCond .eq 94, 3) := by decide +kernel
theorem dL_would_498 : decode cL_would 498 = .ok (.iload 15, 2) := by decide +kernel
theorem dL_would_500 : decode cL_would 500 = .ok (.aload_n 0, 1) := by decide +kernel
theorem dL_would_501 : decode cL_would 501 = .ok (.iload 14, 2) := by decide +kernel
theorem dL_would_503 : decode cL_would 503 = .ok (.iload 13, 2) := by decide +kernel
theorem dL_would_505 : decode cL_would 505 = .ok (.invokevirtual 50, 3) := by decide +kernel
theorem dL_would_508 : decode cL_would 508 = .ok (.if_icmp .ne 81, 3) := by decide +kernel
theorem dL_would_511 : decode cL_would 511 = .ok (.iload 15, 2) := by decide +kernel
theorem dL_would_513 : decode cL_would 513 = .ok (.ifCond .ne 7, 3) := by decide +kernel
theorem dL_would_516 : decode cL_would 516 = .ok (.iconst 1, 1) := by decide +kernel
theorem dL_would_517 : decode cL_would 517 = .ok (.goto 4, 3) := by decide +kernel
theorem dL_would_520 : decode cL_would 520 = .ok (.iconst 0, 1) := by decide +kernel
theorem dL_would_521 : decode cL_would 521 = .ok (.iload 13, 2) := by decide +kernel
theorem dL_would_523 : decode cL_would 523 = .ok (.iload 14, 2) := by decide +kernel
theorem dL_would_525 : decode cL_would 525 = .ok (.if_icmp .ne 7, 3) := by decide +kernel
theorem dL_would_528 : decode cL_would 528 = .ok (.iconst 1, 1) := by decide +kernel
theorem dL_would_529 : decode cL_would 529 = .ok (.goto 4, 3) := by decide +kernel
theorem dL_would_532 : decode cL_would 532 = .ok (.iconst 0, 1) := by decide +kernel
theorem dL_would_533 : decode cL_would 533 = .ok (.if_icmp .ne 56, 3) := by decide +kernel
theorem dL_would_536 : decode cL_would 536 = .ok (.iload 15, 2) := by decide +kernel
theorem dL_would_538 : decode cL_would 538 = .ok (.bipush (-4), 2) := by decide +kernel
theorem dL_would_540 : decode cL_would 540 = .ok (.if_icmp .ne 7, 3) := by decide +kernel
theorem dL_would_543 : decode cL_would 543 = .ok (.iconst 1, 1) := by decide +kernel
theorem dL_would_544 : decode cL_would 544 = .ok (.goto 4, 3) := by decide +kernel
theorem dL_would_547 : decode cL_would 547 = .ok (.iconst 0, 1) := by decide +kernel
theorem dL_would_548 : decode cL_would 548 = .ok (.aload_n 0, 1) := by decide +kernel
theorem dL_would_549 : decode cL_would 549 = .ok (.iload 13, 2) := by decide +kernel
theorem dL_would_551 : decode cL_would 551 = .ok (.bipush 7, 2) := by decide +kernel
theorem dL_would_553 : decode cL_would 553 = .ok (.invokevirtual 19, 3) := by decide +kernel
theorem dL_would_556 : decode cL_would 556 = .ok (.aload_n 0, 1) := by decide +kernel
theorem dL_would_557 : decode cL_would 557 = .ok (.iload 14, 2) := by decide +kernel
theorem dL_would_559 : decode cL_would 559 = .ok (.bipush 7, 2) := by decide +kernel
theorem dL_would_561 : decode cL_would 561 = .ok (.invokevirtual 19, 3) := by decide +kernel
theorem dL_would_564 : decode cL_would 564 = .ok (.if_icmp .eq 7, 3) := by decide +kernel
theorem dL_would_567 : decode cL_would 567 = .ok (.iconst 1, 1) := by decide +kernel
theorem dL_would_568 : decode cL_would 568 = .ok (.goto 4, 3) := by decide +kernel
theorem dL_would_571 : decode cL_would 571 = .ok (.iconst 0, 1) := by decide +kernel
theorem dL_would_572 : decode cL_would 572 = .ok (.if_icmp .ne 17, 3) := by decide +kernel
theorem dL_would_575 : decode cL_would 575 = .ok (.iload 15, 2) := by decide +kernel
theorem dL_would_577 : decode cL_would 577 = .ok (.aload_n 0, 1) := by decide +kernel
theorem dL_would_578 : decode cL_would 578 = .ok (.iconst 0, 1) := by decide +kernel
theorem dL_would_579 : decode cL_would 579 = .ok (.invokevirtual 31, 3) := by decide +kernel
theorem dL_would_582 : decode cL_would 582 = .ok (.if_icmp .gt 7, 3) := by decide +kernel
theorem dL_would_585 : decode cL_would 585 = .ok (.iconst 1, 1) := by decide +kernel
theorem dL_would_586 : decode cL_would 586 = .ok (.goto 4, 3) := by decide +kernel
theorem dL_would_589 : decode cL_would 589 = .ok (.iconst 0, 1) := by decide +kernel
theorem dL_would_590 : decode cL_would 590 = .ok (.ireturn, 1) := by decide +kernel
set_option maxRecDepth 20000 in
theorem ggL_number_X7_append : GoodIn wsL_number wsX7_append := goodIn_r _ [5, 6, 7, 8, 9, 10, 11, 12, 13, 14, 15, 16, 17, 18, 19, 20, 21, 22, 23, 24, 25, 26, 27, 28, 29, 30, 31, 32, 33] (by decide +kernel) (by decide +kernel)
set_option maxRecDepth 20000 in
theorem gL_number_X7_append : GoodIn wsL_number (wsV RL 53 RX7 yX7_append wsX7_append) := goodIn_app (goodIn_of _ (by decide +kernel)) ggL_number_X7_append
theorem dL_number_0 : decode cL_number 0 = .ok (.iload_n 1, 1) := by decide +kernel
theorem dL_number_1 : decode cL_number 1 = .ok (.bipush 100, 2) := by decide +kernel
theorem dL_number_3 : decode cL_number 3 = .ok (.if_icmp .lt 17, 3) := by decide +kernel
theorem dL_number_6 : decode cL_number 6 = .ok (.aload_n 0, 1) := by decide +kernel
theorem dL_number_7 : decode cL_number 7 = .ok (.bipush 48, 2) := by decide +kernel
theorem dL_number_9 : decode cL_number 9 = .ok (.iload_n 1, 1) := by decide +kernel
theorem dL_number_10 : decode cL_number 10 = .ok (.bipush 100, 2) := by decide +kernel
theorem dL_number_12 : decode cL_number 12 = .ok (.idiv, 1) := by decide +kernel
theorem dL_number_13 : decode cL_number 13 = .ok (.iadd, 1) := by decide +kernel
theorem dL_number_14 : decode cL_number 14 = .ok (.invokevirtual 53, 3) := by decide +kernel
theorem dL_number_17 : decode cL_number 17 = .ok (.ifCond .le 44, 3) := by decide +kernel
theorem dL_number_20 : decode cL_number 20 = .ok (.iload_n 1, 1) := by decide +kernel
theorem dL_number_21 : decode cL_number 21 = .ok (.bipush 10, 2) := by decide +kernel
theorem dL_number_23 : decode cL_number 23 = .ok (.if_icmp .lt 20, 3) := by decide +kernel
theorem dL_number_26 : decode cL_number 26 = .ok (.aload_n 0, 1) := by decide +kernel
theorem dL_number_27 : decode cL_number 27 = .ok (.bipush 48, 2) := by decide +kernel
theorem dL_number_29 : decode cL_number 29 = .ok (.iload_n 1, 1) := by decide +kernel
theorem dL_number_30 : decode cL_number 30 = .ok (.bipush 10, 2) := by decide +kernel
theorem dL_number_32 : decode cL_number 32 = .ok (.idiv, 1) := by decide +kernel
theorem dL_number_33 : decode cL_number 33 = .ok (.bipush 10, 2) := by decide +kernel
theorem dL_number_35 : decode cL_number 35 = .ok (.irem, 1) := by decide +kernel
theorem dL_number_36 : decode cL_number 36 = .ok (.iadd, 1) := by decide +kernel
theorem dL_number_37 : decode cL_number 37 = .ok (.invokevirtual 53, 3) := by decide +kernel
theorem dL_number_40 : decode cL_number 40 = .ok (.ifCond .le 21, 3) := by decide +kernel
theorem dL_number_43 : decode cL_number 43 = .ok (.aload_n 0, 1) := by decide +kernel
theorem dL_number_44 : decode cL_number 44 = .ok (.bipush 48, 2) := by decide +kernel
theorem dL_number_46 : decode cL_number 46 = .ok (.iload_n 1, 1) := by decide +kernel
theorem dL_number_47 : decode cL_number 47 = .ok (.bipush 10, 2) := by decide +kernel
theorem dL_number_49 : decode cL_number 49 = .ok (.irem, 1) := by decide +kernel
theorem dL_number_50 : decode cL_number 50 = .ok (.iadd, 1) := by decide +kernel
theorem dL_number_51 : decode cL_number 51 = .ok (.invokevirtual 53, 3) := by decide +kernel
theorem dL_number_54 : decode cL_number 54 = .ok (.ifCond .le 7, 3) := by decide +kernel
theorem dL_number_57 : decode cL_number 57 = .ok (.iconst 1, 1) := by decide +kernel
theorem dL_number_58 : decode cL_number 58 = .ok (.goto 4, 3) := by decide +kernel
theorem dL_number_61 : decode cL_number 61 = .ok (.iconst 0, 1) := by decide +kernel
theorem dL_number_62 : decode cL_number 62 = .ok (.ireturn, 1) := by decide +kernel
set_option maxRecDepth 20000 in
theorem ggL_types_L_low : GoodIn wsL_types wsL_low := goodIn_r _ [4, 5] (by decide +kernel) (by decide +kernel)
set_option maxRecDepth 20000 in
theorem gL_types_L_low : GoodIn wsL_types (va_wsS RL 38 yL_low wsL_low) := goodIn_app (goodIn_of _ (by decide +kernel)) ggL_types_L_low
set_option maxRecDepth 20000 in
theorem ggL_types_X7_clear : GoodIn wsL_types wsX7_clear := goodIn_r _ [10, 11, 12, 13, 14, 15, 16, 17, 30, 31, 32, 33, 34, 35, 36, 37, 38, 39, 40, 41, 42, 43, 44, 45, 46, 47, 48, 49] (by decide +kernel) (by decide +kernel)
set_option maxRecDepth 20000 in
theorem gL_types_X7_clear : GoodIn wsL_types (wsV RL 56 RX7 yX7_clear wsX7_clear) := goodIn_app (goodIn_of _ (by decide +kernel)) ggL_types_X7_clear
set_option maxRecDepth 20000 in
theorem ggL_types_X7_append : GoodIn wsL_types wsX7_append := goodIn_r _ [21, 11, 22, 23, 24, 15, 25, 17, 26, 30, 31, 32, 33, 34, 35, 36, 37, 38, 39, 40, 41, 42, 43, 44, 45, 46, 47, 48, 49] (by decide +kernel) (by decide +kernel)
set_option maxRecDepth 20000 in
theorem gL_types_X7_append : GoodIn wsL_types (wsV RL 53 RX7 yX7_append wsX7_append) := goodIn_app (goodIn_of _ (by decide +kernel)) ggL_types_X7_append
set_option maxRecDepth 20000 in
theorem ggL_types_L_number : GoodIn wsL_types wsL_number := goodIn_r _ [29, 18, 19, 20, 9, 21, 11, 22, 23, 24, 15, 25, 17, 26, 30, 31, 32, 33, 34, 35, 36, 37, 38, 39, 40, 41, 42, 43, 44, 45, 46, 47, 48, 49] (by decide +kernel) (by decide +kernel)
set_option maxRecDepth 20000 in
theorem gL_types_L_number : GoodIn wsL_types (va_wsS RL 60 yL_number wsL_number) := goodIn_app (goodIn_of _ (by decide +kernel)) ggL_types_L_number
theorem dL_types_0 : decode cL_types 0 = .ok (.iload_n 1, 1) := by decide +kernel
theorem dL_types_1 : decode cL_types 1 = .ok (.bipush 9, 2) := by decide +kernel
theorem dL_types_3 : decode cL_types 3 = .ok (.invokestatic 38, 3) := by decide +kernel
theorem dL_types_6 : decode cL_types 6 = .ok (.istore_n 2, 1) := by decide +kernel
theorem dL_types_7 : decode cL_types 7 = .ok (.aload_n 0, 1) := by decide +kernel
theorem dL_types_8 : decode cL_types 8 = .ok (.invokevirtual 56, 3) := by decide +kernel
theorem dL_types_11 : decode cL_types 11 = .ok (.ifCond .lt 7, 3) := by decide +kernel
theorem dL_types_14 : decode cL_types 14 = .ok (.iconst 1, 1) := by decide +kernel
theorem dL_types_15 : decode cL_types 15 = .ok (.goto 4, 3) := by decide +kernel
theorem dL_types_18 : decode cL_types 18 = .ok (.iconst 0, 1) := by decide +kernel
theorem dL_types_19 : decode cL_types 19 = .ok (.istore_n 3, 1) := by decide +kernel
theorem dL_types_20 : decode cL_types 20 = .ok (.iconst 0, 1) := by decide +kernel
theorem dL_types_21 : decode cL_types 21 = .ok (.istore 4, 2) := by decide +kernel
theorem dL_types_23 : decode cL_types 23 = .ok (.iload 4, 2) := by decide +kernel
theorem dL_types_25 : decode cL_types 25 = .ok (.iload_n 2, 1) := by decide +kernel
theorem dL_types_26 : decode cL_types 26 = .ok (.if_icmp .ge 157, 3) := by decide +kernel
theorem dL_types_29 : decode cL_types 29 = .ok (.iload_n 1, 1) := by decide +kernel
theorem dL_types_30 : decode cL_types 30 = .ok (.iconst 2, 1) := by decide +kernel
theorem dL_types_31 : decode cL_types 31 = .ok (.iconst 2, 1) := by decide +kernel
theorem dL_types_32 : decode cL_types 32 = .ok (.iload 4, 2) := by decide +kernel
theorem dL_types_34 : decode cL_types 34 = .ok (.imul, 1) := by decide +kernel
theorem dL_types_35 : decode cL_types 35 = .ok (.iadd, 1) := by decide +kernel
theorem dL_types_36 : decode cL_types 36 = .ok (.ishr, 1) := by decide +kernel
theorem dL_types_37 : decode cL_types 37 = .ok (.istore 5, 2) := by decide +kernel
theorem dL_types_39 : decode cL_types 39 = .ok (.iload 5, 2) := by decide +kernel
theorem dL_types_41 : decode cL_types 41 = .ok (.bipush 7, 2) := by decide +kernel
theorem dL_types_43 : decode cL_types 43 = .ok (.invokestatic 38, 3) := by decide +kernel
theorem dL_types_46 : decode cL_types 46 = .ok (.istore 6, 2) := by decide +kernel
theorem dL_types_48 : decode cL_types 48 = .ok (.iload_n 3, 1) := by decide +kernel
theorem dL_types_49 : decode cL_types 49 = .ok (.ifCond .eq 126, 3) := by decide +kernel
theorem dL_types_52 : decode cL_types 52 = .ok (.iload 4, 2) := by decide +kernel
theorem dL_types_54 : decode cL_types 54 = .ok (.ifCond .eq 12, 3) := by decide +kernel
theorem dL_types_57 : decode cL_types 57 = .ok (.aload_n 0, 1) := by decide +kernel
theorem dL_types_58 : decode cL_types 58 = .ok (.bipush 59, 2) := by decide +kernel
theorem dL_types_60 : decode cL_types 60 = .ok (.invokevirtual 53, 3) := by decide +kernel
theorem dL_types_63 : decode cL_types 63 = .ok (.ifCond .le 112, 3) := by decide +kernel
theorem dL_types_66 : decode cL_types 66 = .ok (.aload_n 0, 1) := by decide +kernel
theorem dL_types_67 : decode cL_types 67 = .ok (.iload 6, 2) := by decide +kernel
theorem dL_types_69 : decode cL_types 69 = .ok (.iconst 5, 1) := by decide +kernel
theorem dL_types_70 : decode cL_types 70 = .ok (.if_icmp .ge 8, 3) := by decide +kernel
theorem dL_types_73 : decode cL_types 73 = .ok (.bipush 103, 2) := by decide +kernel
theorem dL_types_75 : decode cL_types 75 = .ok (.goto 16, 3) := by decide +kernel
theorem dL_types_78 : decode cL_types 78 = .ok (.iload 6, 2) := by decide +kernel
theorem dL_types_80 : decode cL_types 80 = .ok (.iconst 5, 1) := by decide +kernel
theorem dL_types_81 : decode cL_types 81 = .ok (.if_icmp .ne 8, 3) := by decide +kernel
theorem dL_types_84 : decode cL_types 84 = .ok (.bipush 98, 2) := by decide +kernel
theorem dL_types_86 : decode cL_types 86 = .ok (.goto 5, 3) := by decide +kernel
theorem dL_types_89 : decode cL_types 89 = .ok (.bipush 119, 2) := by decide +kernel
theorem dL_types_91 : decode cL_types 91 = .ok (.invokevirtual 53, 3) := by decide +kernel
theorem dL_types_94 : decode cL_types 94 = .ok (.ifCond .le 81, 3) := by decide +kernel
theorem dL_types_97 : decode cL_types 97 = .ok (.iload 6, 2) := by decide +kernel
theorem dL_types_99 : decode cL_types 99 = .ok (.bipush 6, 2) := by decide +kernel
theorem dL_types_101 : decode cL_types 101 = .ok (.if_icmp .eq 70, 3) := by decide +kernel
theorem dL_types_104 : decode cL_types 104 = .ok (.aload_n 0, 1) := by decide +kernel
theorem dL_types_105 : decode cL_types 105 = .ok (.iload 6, 2) := by decide +kernel
theorem dL_types_107 : decode cL_types 107 = .ok (.iconst 5, 1) := by decide +kernel
theorem dL_types_108 : decode cL_types 108 = .ok (.if_icmp .ge 32, 3) := by decide +kernel
theorem dL_types_111 : decode cL_types 111 = .ok (.iload 5, 2) := by decide +kernel
theorem dL_types_113 : decode cL_types 113 = .ok (.iconst 2, 1) := by decide +kernel
theorem dL_types_114 : decode cL_types 114 = .ok (.ishr, 1) := by decide +kernel
theorem dL_types_115 : decode cL_types 115 = .ok (.iload_n 1, 1) := by decide +kernel
theorem dL_types_116 : decode cL_types 116 = .ok (.bipush 22, 2) := by decide +kernel
theorem dL_types_118 : decode cL_types 118 = .ok (.ishr, 1) := by decide +kernel
theorem dL_types_119 : decode cL_types 119 = .ok (.bipush 9, 2) := by decide +kernel
theorem dL_types_121 : decode cL_types 121 = .ok (.invokestatic 38, 3) := by decide +kernel
theorem dL_types_124 : decode cL_types 124 = .ok (.ifCond .ne 8, 3) := by decide +kernel
theorem dL_types_127 : decode cL_types 127 = .ok (.bipush 44, 2) := by decide +kernel
theorem dL_types_129 : decode cL_types 129 = .ok (.goto 5, 3) := by decide +kernel
theorem dL_types_132 : decode cL_types 132 = .ok (.bipush 40, 2) := by decide +kernel
theorem dL_types_134 : decode cL_types 134 = .ok (.invokestatic 38, 3) := by decide +kernel
theorem dL_types_137 : decode cL_types 137 = .ok (.goto 28, 3) := by decide +kernel
theorem dL_types_140 : decode cL_types 140 = .ok (.iload 5, 2) := by decide +kernel
theorem dL_types_142 : decode cL_types 142 = .ok (.iconst 2, 1) := by decide +kernel
theorem dL_types_143 : decode cL_types 143 = .ok (.ishr, 1) := by decide +kernel
theorem dL_types_144 : decode cL_types 144 = .ok (.iload_n 1, 1) := by decide +kernel
theorem dL_types_145 : decode cL_types 145 = .ok (.bipush 23, 2) := by decide +kernel
theorem dL_types_147 : decode cL_types 147 = .ok (.ishr, 1) := by decide +kernel
theorem dL_types_148 : decode cL_types 148 = .ok (.iconst 5, 1) := by decide +kernel
theorem dL_types_149 : decode cL_types 149 = .ok (.invokestatic 38, 3) := by decide +kernel
theorem dL_types_152 : decode cL_types 152 = .ok (.ifCond .ne 8, 3) := by decide +kernel
theorem dL_types_155 : decode cL_types 155 = .ok (.bipush 125, 2) := by decide +kernel
theorem dL_types_157 : decode cL_types 157 = .ok (.goto 5, 3) := by decide +kernel
theorem dL_types_160 : decode cL_types 160 = .ok (.bipush 9, 2) := by decide +kernel
theorem dL_types_162 : decode cL_types 162 = .ok (.invokestatic 38, 3) := by decide +kernel
theorem dL_types_165 : decode cL_types 165 = .ok (.invokestatic 60, 3) := by decide +kernel
theorem dL_types_168 : decode cL_types 168 = .ok (.ifCond .eq 7, 3) := by decide +kernel
theorem dL_types_171 : decode cL_types 171 = .ok (.iconst 1, 1) := by decide +kernel
theorem dL_types_172 : decode cL_types 172 = .ok (.goto 4, 3) := by decide +kernel
theorem dL_types_175 : decode cL_types 175 = .ok (.iconst 0, 1) := by decide +kernel
theorem dL_types_176 : decode cL_types 176 = .ok (.istore_n 3, 1) := by decide +kernel
theorem dL_types_177 : decode cL_types 177 = .ok (.iinc 4 1, 3) := by decide +kernel
theorem dL_types_180 : decode cL_types 180 = .ok (.goto (-157), 3) := by decide +kernel
theorem dL_types_183 : decode cL_types 183 = .ok (.iload_n 3, 1) := by decide +kernel
theorem dL_types_184 : decode cL_types 184 = .ok (.ifCond .eq 28, 3) := by decide +kernel
theorem dL_types_187 : decode cL_types 187 = .ok (.iload_n 1, 1) := by decide +kernel
theorem dL_types_188 : decode cL_types 188 = .ok (.bipush 26, 2) := by decide +kernel
theorem dL_types_190 : decode cL_types 190 = .ok (.ishr, 1) := by decide +kernel
theorem dL_types_191 : decode cL_types 191 = .ok (.bipush 6, 2) := by decide +kernel
theorem dL_types_193 : decode cL_types 193 = .ok (.invokestatic 38, 3) := by decide +kernel
theorem dL_types_196 : decode cL_types 196 = .ok (.ifCond .gt 12, 3) := by decide +kernel
theorem dL_types_199 : decode cL_types 199 = .ok (.aload_n 0, 1) := by decide +kernel
theorem dL_types_200 : decode cL_types 200 = .ok (.bipush 59, 2) := by decide +kernel
theorem dL_types_202 : decode cL_types 202 = .ok (.invokevirtual 53, 3) := by decide +kernel
theorem dL_types_205 : decode cL_types 205 = .ok (.ifCond .le 7, 3) := by decide +kernel
theorem dL_types_208 : decode cL_types 208 = .ok (.iconst 1, 1) := by decide +kernel
theorem dL_types_209 : decode cL_types 209 = .ok (.goto 4, 3) := by decide +kernel
theorem dL_types_212 : decode cL_types 212 = .ok (.iconst 0, 1) := by decide +kernel
theorem dL_types_213 : decode cL_types 213 = .ok (.ireturn, 1) := by decide +kernel
set_option maxRecDepth 20000 in
theorem ggL_carries_L_look : GoodIn wsL_carries wsL_look := goodIn_r _ [4, 5, 6, 7, 8, 9, 10, 11, 12, 13, 14, 15, 16, 17, 18, 19, 20, 21, 22, 23, 24, 25, 26, 27, 28, 29, 30, 31, 32, 33, 34, 35, 36, 37, 38, 39, 40, 41, 42, 43, 44, 45, 46, 47, 48, 49, 50, 51, 52, 53, 54, 55, 56, 57, 58, 59, 60, 61, 62, 63, 64, 65, 66, 67, 68, 69, 70, 71, 72, 73, 74, 75, 76, 77, 78, 79, 80, 81, 82, 83, 84, 85, 86, 87, 88, 89, 90, 91, 92, 93, 94, 95, 96, 97, 98, 99, 100, 101, 102, 103, 104, 105, 106, 107, 108, 109, 110, 111, 112, 113, 114, 115, 116, 117, 118, 119, 120, 121, 122, 123, 124, 125, 126, 127, 128, 129, 130, 131, 132, 133, 134, 135, 136, 137, 138, 139, 140, 141, 142, 143, 144, 145, 146, 147, 148, 149, 150, 151, 152, 153, 338, 339, 340, 341, 342, 343, 344, 345, 346, 347, 348, 349, 350, 351, 352, 353, 354, 355, 356, 357, 358, 359, 360, 361, 362, 363, 364, 365, 366, 367, 368, 369, 370, 371, 372, 373, 374, 375, 376, 377, 378] (by decide +kernel) (by decide +kernel)
set_option maxRecDepth 20000 in
theorem gL_carries_L_look : GoodIn wsL_carries (va_wsS RL 64 yL_look wsL_look) := goodIn_app (goodIn_of _ (by decide +kernel)) ggL_carries_L_look
set_option maxRecDepth 20000 in
theorem ggL_carries_L_low : GoodIn wsL_carries wsL_low := goodIn_r _ [156, 157] (by decide +kernel) (by decide +kernel)
set_option maxRecDepth 20000 in
theorem gL_carries_L_low : GoodIn wsL_carries (va_wsS RL 38 yL_low wsL_low) := goodIn_app (goodIn_of _ (by decide +kernel)) ggL_carries_L_low
set_option maxRecDepth 20000 in
theorem ggL_carries_X7_count : GoodIn wsL_carries wsX7_count := goodIn_r _ [11, 12, 13, 14, 15, 16, 17, 18, 19, 20, 21, 22, 23, 24, 25, 26, 27, 28, 29, 30, 31, 32, 33, 34, 35, 36, 37, 38, 39, 40, 41, 42, 43, 44, 45, 46, 47, 48, 49, 50, 51, 52, 10, 53, 54, 55, 56, 57, 58, 59, 60, 61, 62, 63, 64, 65, 66, 67, 68, 69, 70, 71, 72, 73, 74, 75, 76, 77, 78, 79, 80, 81, 82, 83, 84, 85, 86, 87, 88, 89, 90, 91, 92, 93, 94, 95, 96, 97, 98, 99, 100, 101, 102, 103, 104, 105, 106, 107, 108, 109, 110, 111, 112, 113, 114, 115, 116, 117, 118, 119, 120, 121, 122, 123, 124, 125, 126, 127, 128, 129, 130, 131, 132, 133, 134, 135, 136, 137, 138, 338, 339, 340, 341, 342, 343, 344, 345, 346, 347, 348, 349, 350, 351, 352, 353, 354, 355, 356, 357, 358, 359, 360, 361, 362, 363, 364, 365, 366, 367, 368, 369, 370, 371, 372, 373, 374, 375, 376, 377, 378] (by decide +kernel) (by decide +kernel)
set_option maxRecDepth 20000 in
theorem gL_carries_X7_count : GoodIn wsL_carries (wsV RL 13 RX7 yX7_count wsX7_count) := goodIn_app (goodIn_of _ (by decide +kernel)) ggL_carries_X7_count
set_option maxRecDepth 20000 in
theorem ggL_carries_X7_why : GoodIn wsL_carries wsX7_why := goodIn_r _ [161, 162, 163, 164, 338, 339, 340, 341, 342, 343, 344, 345, 346, 347, 348, 349, 350, 351] (by decide +kernel) (by decide +kernel)
set_option maxRecDepth 20000 in
theorem gL_carries_X7_why : GoodIn wsL_carries (wsV RL 68 RX7 yX7_why wsX7_why) := goodIn_app (goodIn_of _ (by decide +kernel)) ggL_carries_X7_why
set_option maxRecDepth 20000 in
theorem ggL_carries_L_types : GoodIn wsL_carries wsL_types := goodIn_r _ [167, 154, 155, 3, 156, 157, 168, 169, 170, 10, 171, 13, 172, 173, 174, 175, 176, 177, 178, 179, 180, 181, 182, 183, 184, 185, 186, 187, 188, 189, 338, 339, 340, 341, 342, 343, 344, 345, 346, 347, 348, 349, 350, 351, 363, 364, 365, 366, 367, 368] (by decide +kernel) (by decide +kernel)
set_option maxRecDepth 20000 in
theorem gL_carries_L_types : GoodIn wsL_carries (va_wsS RL 71 yL_types wsL_types) := goodIn_app (goodIn_of _ (by decide +kernel)) ggL_carries_L_types
set_option maxRecDepth 20000 in
theorem ggL_carries_X7_fault : GoodIn wsL_carries wsX7_fault := goodIn_r _ [193, 13, 194, 195, 196, 175, 197, 177, 186, 198, 199, 200, 201, 202, 203, 204, 205, 206, 338, 339, 340, 341, 342, 343, 344, 345, 346, 347, 348, 349, 350, 351, 363, 364, 365, 366, 367, 368] (by decide +kernel) (by decide +kernel)
set_option maxRecDepth 20000 in
theorem gL_carries_X7_fault : GoodIn wsL_carries (wsV RL 74 RX7 yX7_fault wsX7_fault) := goodIn_app (goodIn_of _ (by decide +kernel)) ggL_carries_X7_fault
set_option maxRecDepth 20000 in
theorem ggL_carries_X7_carryOut : GoodIn wsL_carries wsX7_carryOut := goodIn_r _ [210, 13, 162, 163, 164, 194, 195, 196, 175, 197, 177, 186, 198, 199, 200, 201, 202, 203, 204, 205, 206, 211, 212, 213, 10, 214, 14, 215, 12, 216, 217, 218, 219, 220, 221, 222, 18, 223, 21, 224, 225, 226, 227, 106, 153, 42, 90, 20, 228, 229, 230, 231, 232, 233, 234, 235, 236, 237, 238, 239, 240, 241, 242, 243, 244, 245, 246, 247, 248, 249, 250, 251, 252, 253, 254, 255, 256, 257, 103, 104, 105, 107, 75, 76, 77, 258, 259, 260, 261, 262, 263, 264, 265, 266, 267, 268, 28, 269, 270, 271, 272, 273, 274, 275, 276, 277, 67, 68, 38, 39, 40, 41, 278, 279, 280, 281, 282, 283, 284, 285, 286, 287, 288, 289, 290, 291, 292, 293, 294, 295, 296, 297, 298, 299, 87, 88, 89, 300, 301, 302, 303, 304, 44, 45, 46, 47, 48, 49, 305, 306, 307, 308, 309, 310, 311, 312, 313, 314, 315, 316, 317, 318, 319, 320, 321, 322, 323, 324, 325, 326, 327, 328, 329, 330, 331, 332, 333, 334, 335, 336, 337, 172, 173, 174, 176, 338, 339, 340, 341, 342, 343, 344, 345, 346, 347, 348, 349, 350, 351, 363, 364, 365, 366, 367, 368, 352, 353, 354, 355, 356, 357, 358, 359, 360, 361, 362, 379, 380, 381, 382, 383, 384, 385] (by decide +kernel) (by decide +kernel)
set_option maxRecDepth 20000 in
theorem gL_carries_X7_carryOut : GoodIn wsL_carries (wsV RL 77 RX7 yX7_carryOut wsX7_carryOut) := goodIn_app (goodIn_of _ (by decide +kernel)) ggL_carries_X7_carryOut
set_option maxRecDepth 20000 in
theorem ggL_carries_X7_clear : GoodIn wsL_carries wsX7_clear := goodIn_r _ [171, 13, 172, 173, 174, 175, 176, 177, 338, 339, 340, 341, 342, 343, 344, 345, 346, 347, 348, 349, 350, 351, 363, 364, 365, 366, 367, 368] (by decide +kernel) (by decide +kernel)
set_option maxRecDepth 20000 in
theorem gL_carries_X7_clear : GoodIn wsL_carries (wsV RL 56 RX7 yX7_clear wsX7_clear) := goodIn_app (goodIn_of _ (by decide +kernel)) ggL_carries_X7_clear
theorem dL_carries_0 : decode cL_carries 0 = .ok (.aload_n 0, 1) := by decide +kernel
theorem dL_carries_1 : decode cL_carries 1 = .ok (.invokestatic 64, 3) := by decide +kernel
theorem dL_carries_4 : decode cL_carries 4 = .ok (.lstore_n 2, 1) := by decide +kernel
theorem dL_carries_5 : decode cL_carries 5 = .ok (.iload_n 1, 1) := by decide +kernel
theorem dL_carries_6 : decode cL_carries 6 = .ok (.bipush 9, 2) := by decide +kernel
theorem dL_carries_8 : decode cL_carries 8 = .ok (.invokestatic 38, 3) := by decide +kernel
theorem dL_carries_11 : decode cL_carries 11 = .ok (.istore 4, 2) := by decide +kernel
theorem dL_carries_13 : decode cL_carries 13 = .ok (.aload_n 0, 1) := by decide +kernel
theorem dL_carries_14 : decode cL_carries 14 = .ok (.bipush 19, 2) := by decide +kernel
theorem dL_carries_16 : decode cL_carries 16 = .ok (.invokevirtual 13, 3) := by decide +kernel
theorem dL_carries_19 : decode cL_carries 19 = .ok (.istore 5, 2) := by decide +kernel
theorem dL_carries_21 : decode cL_carries 21 = .ok (.aload_n 0, 1) := by decide +kernel
theorem dL_carries_22 : decode cL_carries 22 = .ok (.iconst 0, 1) := by decide +kernel
theorem dL_carries_23 : decode cL_carries 23 = .ok (.invokevirtual 68, 3) := by decide +kernel
theorem dL_carries_26 : decode cL_carries 26 = .ok (.istore 6, 2) := by decide +kernel
theorem dL_carries_28 : decode cL_carries 28 = .ok (.aload_n 0, 1) := by decide +kernel
theorem dL_carries_29 : decode cL_carries 29 = .ok (.iconst 2, 1) := by decide +kernel
theorem dL_carries_30 : decode cL_carries 30 = .ok (.invokevirtual 68, 3) := by decide +kernel
theorem dL_carries_33 : decode cL_carries 33 = .ok (.istore 7, 2) := by decide +kernel
theorem dL_carries_35 : decode cL_carries 35 = .ok (.aload_n 0, 1) := by decide +kernel
theorem dL_carries_36 : decode cL_carries 36 = .ok (.iload_n 1, 1) := by decide +kernel
theorem dL_carries_37 : decode cL_carries 37 = .ok (.invokestatic 71, 3) := by decide +kernel
theorem dL_carries_40 : decode cL_carries 40 = .ok (.istore 8, 2) := by decide +kernel
theorem dL_carries_42 : decode cL_carries 42 = .ok (.aload_n 0, 1) := by decide +kernel
theorem dL_carries_43 : decode cL_carries 43 = .ok (.bipush 18, 2) := by decide +kernel
theorem dL_carries_45 : decode cL_carries 45 = .ok (.invokevirtual 13, 3) := by decide +kernel
theorem dL_carries_48 : decode cL_carries 48 = .ok (.istore 9, 2) := by decide +kernel
theorem dL_carries_50 : decode cL_carries 50 = .ok (.aload_n 0, 1) := by decide +kernel
theorem dL_carries_51 : decode cL_carries 51 = .ok (.invokevirtual 74, 3) := by decide +kernel
theorem dL_carries_54 : decode cL_carries 54 = .ok (.istore 10, 2) := by decide +kernel
theorem dL_carries_56 : decode cL_carries 56 = .ok (.aload_n 0, 1) := by decide +kernel
theorem dL_carries_57 : decode cL_carries 57 = .ok (.invokevirtual 77, 3) := by decide +kernel
theorem dL_carries_60 : decode cL_carries 60 = .ok (.istore 11, 2) := by decide +kernel
theorem dL_carries_62 : decode cL_carries 62 = .ok (.aload_n 0, 1) := by decide +kernel
theorem dL_carries_63 : decode cL_carries 63 = .ok (.invokevirtual 56, 3) := by decide +kernel
theorem dL_carries_66 : decode cL_carries 66 = .ok (.istore 12, 2) := by decide +kernel
theorem dL_carries_68 : decode cL_carries 68 = .ok (.iload 8, 2) := by decide +kernel
theorem dL_carries_70 : decode cL_carries 70 = .ok (.ifCond .eq 34, 3) := by decide +kernel
theorem dL_carries_73 : decode cL_carries 73 = .ok (.iload 11, 2) := by decide +kernel
theorem dL_carries_75 : decode cL_carries 75 = .ok (.bipush (-2), 2) := by decide +kernel
theorem dL_carries_77 : decode cL_carries 77 = .ok (.if_icmp .ne 7, 3) := by decide +kernel
theorem dL_carries_80 : decode cL_carries 80 = .ok (.iconst 1, 1) := by decide +kernel
theorem dL_carries_81 : decode cL_carries 81 = .ok (.goto 4, 3) := by decide +kernel
theorem dL_carries_84 : decode cL_carries 84 = .ok (.iconst 0, 1) := by decide +kernel
theorem dL_carries_85 : decode cL_carries 85 = .ok (.iload 10, 2) := by decide +kernel
theorem dL_carries_87 : decode cL_carries 87 = .ok (.bipush (-4), 2) := by decide +kernel
theorem dL_carries_89 : decode cL_carries 89 = .ok (.if_icmp .eq 7, 3) := by decide +kernel
theorem dL_carries_92 : decode cL_carries 92 = .ok (.iconst 1, 1) := by decide +kernel
theorem dL_carries_93 : decode cL_carries 93 = .ok (.goto 4, 3) := by decide +kernel
theorem dL_carries_96 : decode cL_carries 96 = .ok (.iconst 0, 1) := by decide +kernel
theorem dL_carries_97 : decode cL_carries 97 = .ok (.if_icmp .ne 7, 3) := by decide +kernel
theorem dL_carries_100 : decode cL_carries 100 = .ok (.iconst 1, 1) := by decide +kernel
theorem dL_carries_101 : decode cL_carries 101 = .ok (.goto 4, 3) := by decide +kernel
theorem dL_carries_104 : decode cL_carries 104 = .ok (.iconst 0, 1) := by decide +kernel
theorem dL_carries_105 : decode cL_carries 105 = .ok (.istore 13, 2) := by decide +kernel
theorem dL_carries_107 : decode cL_carries 107 = .ok (.iload 10, 2) := by decide +kernel
theorem dL_carries_109 : decode cL_carries 109 = .ok (.bipush (-4), 2) := by decide +kernel
theorem dL_carries_111 : decode cL_carries 111 = .ok (.if_icmp .eq 73, 3) := by decide +kernel
theorem dL_carries_114 : decode cL_carries 114 = .ok (.iload 13, 2) := by decide +kernel
theorem dL_carries_116 : decode cL_carries 116 = .ok (.ifCond .eq 66, 3) := by decide +kernel
theorem dL_carries_119 : decode cL_carries 119 = .ok (.iload 10, 2) := by decide +kernel
theorem dL_carries_121 : decode cL_carries 121 = .ok (.ifCond .lt 61, 3) := by decide +kernel
theorem dL_carries_124 : decode cL_carries 124 = .ok (.iload 10, 2) := by decide +kernel
theorem dL_carries_126 : decode cL_carries 126 = .ok (.iload 9, 2) := by decide +kernel
theorem dL_carries_128 : decode cL_carries 128 = .ok (.if_icmp .gt 54, 3) := by decide +kernel
theorem dL_carries_131 : decode cL_carries 131 = .ok (.iload 12, 2) := by decide +kernel
theorem dL_carries_133 : decode cL_carries 133 = .ok (.iload 9, 2) := by decide +kernel
theorem dL_carries_135 : decode cL_carries 135 = .ok (.if_icmp .ne 47, 3) := by decide +kernel
theorem dL_carries_138 : decode cL_carries 138 = .ok (.aload_n 0, 1) := by decide +kernel
theorem dL_carries_139 : decode cL_carries 139 = .ok (.invokestatic 64, 3) := by decide +kernel
theorem dL_carries_142 : decode cL_carries 142 = .ok (.lload_n 2, 1) := by decide +kernel
theorem dL_carries_143 : decode cL_carries 143 = .ok (.lcmp, 1) := by decide +kernel
theorem dL_carries_144 : decode cL_carries 144 = .ok (.ifCond .ne 38, 3) := by decide +kernel
theorem dL_carries_147 : decode cL_carries 147 = .ok (.aload_n 0, 1) := by decide +kernel
theorem dL_carries_148 : decode cL_carries 148 = .ok (.bipush 19, 2) := by decide +kernel
theorem dL_carries_150 : decode cL_carries 150 = .ok (.invokevirtual 13, 3) := by decide +kernel
theorem dL_carries_153 : decode cL_carries 153 = .ok (.iload 5, 2) := by decide +kernel
theorem dL_carries_155 : decode cL_carries 155 = .ok (.if_icmp .ne 27, 3) := by decide +kernel
theorem dL_carries_158 : decode cL_carries 158 = .ok (.aload_n 0, 1) := by decide +kernel
theorem dL_carries_159 : decode cL_carries 159 = .ok (.iconst 0, 1) := by decide +kernel
theorem dL_carries_160 : decode cL_carries 160 = .ok (.invokevirtual 68, 3) := by decide +kernel
theorem dL_carries_163 : decode cL_carries 163 = .ok (.iload 6, 2) := by decide +kernel
theorem dL_carries_165 : decode cL_carries 165 = .ok (.if_icmp .ne 17, 3) := by decide +kernel
theorem dL_carries_168 : decode cL_carries 168 = .ok (.aload_n 0, 1) := by decide +kernel
theorem dL_carries_169 : decode cL_carries 169 = .ok (.iconst 2, 1) := by decide +kernel
theorem dL_carries_170 : decode cL_carries 170 = .ok (.invokevirtual 68, 3) := by decide +kernel
theorem dL_carries_173 : decode cL_carries 173 = .ok (.iload 7, 2) := by decide +kernel
theorem dL_carries_175 : decode cL_carries 175 = .ok (.if_icmp .ne 7, 3) := by decide +kernel
theorem dL_carries_178 : decode cL_carries 178 = .ok (.iconst 1, 1) := by decide +kernel
theorem dL_carries_179 : decode cL_carries 179 = .ok (.goto 4, 3) := by decide +kernel
theorem dL_carries_182 : decode cL_carries 182 = .ok (.iconst 0, 1) := by decide +kernel
theorem dL_carries_183 : decode cL_carries 183 = .ok (.ireturn, 1) := by decide +kernel
theorem dL_carries_184 : decode cL_carries 184 = .ok (.iload 13, 2) := by decide +kernel
theorem dL_carries_186 : decode cL_carries 186 = .ok (.ifCond .eq 138, 3) := by decide +kernel
theorem dL_carries_189 : decode cL_carries 189 = .ok (.iload 11, 2) := by decide +kernel
theorem dL_carries_191 : decode cL_carries 191 = .ok (.ifCond .lt 133, 3) := by decide +kernel
theorem dL_carries_194 : decode cL_carries 194 = .ok (.iload 11, 2) := by decide +kernel
theorem dL_carries_196 : decode cL_carries 196 = .ok (.iload 4, 2) := by decide +kernel
theorem dL_carries_198 : decode cL_carries 198 = .ok (.if_icmp .gt 126, 3) := by decide +kernel
theorem dL_carries_201 : decode cL_carries 201 = .ok (.iload 12, 2) := by decide +kernel
theorem dL_carries_203 : decode cL_carries 203 = .ok (.ifCond .ne 121, 3) := by decide +kernel
theorem dL_carries_206 : decode cL_carries 206 = .ok (.aload_n 0, 1) := by decide +kernel
theorem dL_carries_207 : decode cL_carries 207 = .ok (.bipush 19, 2) := by decide +kernel
theorem dL_carries_209 : decode cL_carries 209 = .ok (.invokevirtual 13, 3) := by decide +kernel
theorem dL_carries_212 : decode cL_carries 212 = .ok (.iload 5, 2) := by decide +kernel
theorem dL_carries_214 : decode cL_carries 214 = .ok (.iconst 4, 1) := by decide +kernel
theorem dL_carries_215 : decode cL_carries 215 = .ok (.if_icmp .ge 10, 3) := by decide +kernel
theorem dL_carries_218 : decode cL_carries 218 = .ok (.iload 5, 2) := by decide +kernel
theorem dL_carries_220 : decode cL_carries 220 = .ok (.iconst 1, 1) := by decide +kernel
theorem dL_carries_221 : decode cL_carries 221 = .ok (.iadd, 1) := by decide +kernel
theorem dL_carries_222 : decode cL_carries 222 = .ok (.goto 4, 3) := by decide +kernel
theorem dL_carries_225 : decode cL_carries 225 = .ok (.iconst 4, 1) := by decide +kernel
theorem dL_carries_226 : decode cL_carries 226 = .ok (.if_icmp .ne 98, 3) := by decide +kernel
theorem dL_carries_229 : decode cL_carries 229 = .ok (.iload 11, 2) := by decide +kernel
theorem dL_carries_231 : decode cL_carries 231 = .ok (.iload 4, 2) := by decide +kernel
theorem dL_carries_233 : decode cL_carries 233 = .ok (.if_icmp .ne 36, 3) := by decide +kernel
theorem dL_carries_236 : decode cL_carries 236 = .ok (.aload_n 0, 1) := by decide +kernel
theorem dL_carries_237 : decode cL_carries 237 = .ok (.iconst 0, 1) := by decide +kernel
theorem dL_carries_238 : decode cL_carries 238 = .ok (.invokevirtual 68, 3) := by decide +kernel
theorem dL_carries_241 : decode cL_carries 241 = .ok (.bipush (-4), 2) := by decide +kernel
theorem dL_carries_243 : decode cL_carries 243 = .ok (.if_icmp .ne 81, 3) := by decide +kernel
theorem dL_carries_246 : decode cL_carries 246 = .ok (.aload_n 0, 1) := by decide +kernel
theorem dL_carries_247 : decode cL_carries 247 = .ok (.iconst 1, 1) := by decide +kernel
theorem dL_carries_248 : decode cL_carries 248 = .ok (.invokevirtual 68, 3) := by decide +kernel
theorem dL_carries_251 : decode cL_carries 251 = .ok (.bipush (-4), 2) := by decide +kernel
theorem dL_carries_253 : decode cL_carries 253 = .ok (.if_icmp .ne 71, 3) := by decide +kernel
theorem dL_carries_256 : decode cL_carries 256 = .ok (.aload_n 0, 1) := by decide +kernel
theorem dL_carries_257 : decode cL_carries 257 = .ok (.iconst 2, 1) := by decide +kernel
theorem dL_carries_258 : decode cL_carries 258 = .ok (.invokevirtual 68, 3) := by decide +kernel
theorem dL_carries_261 : decode cL_carries 261 = .ok (.bipush (-4), 2) := by decide +kernel
theorem dL_carries_263 : decode cL_carries 263 = .ok (.if_icmp .ne 61, 3) := by decide +kernel
theorem dL_carries_266 : decode cL_carries 266 = .ok (.goto 54, 3) := by decide +kernel
theorem dL_carries_269 : decode cL_carries 269 = .ok (.aload_n 0, 1) := by decide +kernel
theorem dL_carries_270 : decode cL_carries 270 = .ok (.iconst 0, 1) := by decide +kernel
theorem dL_carries_271 : decode cL_carries 271 = .ok (.invokevirtual 68, 3) := by decide +kernel
theorem dL_carries_274 : decode cL_carries 274 = .ok (.iconst (-1), 1) := by decide +kernel
theorem dL_carries_275 : decode cL_carries 275 = .ok (.if_icmp .eq 13, 3) := by decide +kernel
theorem dL_carries_278 : decode cL_carries 278 = .ok (.aload_n 0, 1) := by decide +kernel
theorem dL_carries_279 : decode cL_carries 279 = .ok (.iconst 0, 1) := by decide +kernel
theorem dL_carries_280 : decode cL_carries 280 = .ok (.invokevirtual 68, 3) := by decide +kernel
theorem dL_carries_283 : decode cL_carries 283 = .ok (.bipush (-2), 2) := by decide +kernel
theorem dL_carries_285 : decode cL_carries 285 = .ok (.if_icmp .ne 39, 3) := by decide +kernel
theorem dL_carries_288 : decode cL_carries 288 = .ok (.aload_n 0, 1) := by decide +kernel
theorem dL_carries_289 : decode cL_carries 289 = .ok (.iconst 1, 1) := by decide +kernel
theorem dL_carries_290 : decode cL_carries 290 = .ok (.invokevirtual 68, 3) := by decide +kernel
theorem dL_carries_293 : decode cL_carries 293 = .ok (.iload 11, 2) := by decide +kernel
theorem dL_carries_295 : decode cL_carries 295 = .ok (.if_icmp .ne 29, 3) := by decide +kernel
theorem dL_carries_298 : decode cL_carries 298 = .ok (.aload_n 0, 1) := by decide +kernel
theorem dL_carries_299 : decode cL_carries 299 = .ok (.iconst 2, 1) := by decide +kernel
theorem dL_carries_300 : decode cL_carries 300 = .ok (.invokevirtual 68, 3) := by decide +kernel
theorem dL_carries_303 : decode cL_carries 303 = .ok (.iconst 2, 1) := by decide +kernel
theorem dL_carries_304 : decode cL_carries 304 = .ok (.iload 11, 2) := by decide +kernel
theorem dL_carries_306 : decode cL_carries 306 = .ok (.imul, 1) := by decide +kernel
theorem dL_carries_307 : decode cL_carries 307 = .ok (.if_icmp .lt 17, 3) := by decide +kernel
theorem dL_carries_310 : decode cL_carries 310 = .ok (.aload_n 0, 1) := by decide +kernel
theorem dL_carries_311 : decode cL_carries 311 = .ok (.iconst 2, 1) := by decide +kernel
theorem dL_carries_312 : decode cL_carries 312 = .ok (.invokevirtual 68, 3) := by decide +kernel
theorem dL_carries_315 : decode cL_carries 315 = .ok (.iload 9, 2) := by decide +kernel
theorem dL_carries_317 : decode cL_carries 317 = .ok (.if_icmp .ge 7, 3) := by decide +kernel
theorem dL_carries_320 : decode cL_carries 320 = .ok (.iconst 1, 1) := by decide +kernel
theorem dL_carries_321 : decode cL_carries 321 = .ok (.goto 4, 3) := by decide +kernel
theorem dL_carries_324 : decode cL_carries 324 = .ok (.iconst 0, 1) := by decide +kernel
theorem dL_carries_325 : decode cL_carries 325 = .ok (.ireturn, 1) := by decide +kernel
set_option maxRecDepth 20000 in
theorem ggL_acts_L_low : GoodIn wsL_acts wsL_low := goodIn_r _ [4, 5] (by decide +kernel) (by decide +kernel)
set_option maxRecDepth 20000 in
theorem gL_acts_L_low : GoodIn wsL_acts (va_wsS RL 38 yL_low wsL_low) := goodIn_app (goodIn_of _ (by decide +kernel)) ggL_acts_L_low
set_option maxRecDepth 20000 in
theorem ggL_acts_X7_count : GoodIn wsL_acts wsX7_count := goodIn_r _ [10, 11, 12, 13, 14, 15, 16, 17, 18, 19, 20, 21, 22, 23, 24, 25, 26, 27, 28, 29, 30, 31, 32, 33, 34, 35, 36, 37, 38, 39, 40, 41, 42, 43, 44, 45, 46, 47, 48, 49, 50, 51, 9, 52, 53, 54, 55, 56, 57, 58, 59, 60, 61, 62, 63, 64, 65, 66, 67, 68, 69, 70, 71, 72, 73, 74, 75, 76, 77, 78, 79, 80, 81, 82, 83, 84, 85, 86, 87, 88, 89, 90, 91, 92, 93, 94, 95, 96, 97, 98, 99, 100, 101, 102, 103, 104, 105, 106, 107, 108, 109, 110, 111, 112, 113, 114, 115, 116, 117, 118, 119, 120, 121, 122, 123, 124, 125, 126, 127, 128, 129, 130, 131, 132, 133, 134, 135, 136, 137, 417, 418, 419, 420, 421, 422, 423, 424, 425, 426, 427, 428, 429, 430, 431, 432, 433, 434, 435, 436, 437, 438, 439, 440, 441, 442, 443, 444, 445, 446, 447, 448, 449, 450, 451, 452, 453, 454, 455, 456, 457] (by decide +kernel) (by decide +kernel)
set_option maxRecDepth 20000 in
theorem gL_acts_X7_count : GoodIn wsL_acts (wsV RL 13 RX7 yX7_count wsX7_count) := goodIn_app (goodIn_of _ (by decide +kernel)) ggL_acts_X7_count
set_option maxRecDepth 20000 in
theorem ggL_acts_X7_ifGone : GoodIn wsL_acts wsX7_ifGone := goodIn_r _ [141, 11, 142, 143, 144, 145, 17, 146, 147, 148, 27, 149, 150, 66, 67, 37, 38, 39, 40, 41, 151, 152, 153, 154, 155, 156, 157, 158, 159, 160, 161, 162, 86, 87, 88, 89, 163, 164, 165, 166, 167, 43, 44, 45, 46, 47, 48, 168, 169, 170, 171, 172, 9, 173, 174, 175, 176, 177, 178, 179, 180, 181, 182, 183, 184, 185, 186, 187, 417, 418, 419, 420, 421, 422, 423, 424, 425, 426, 427, 428, 429, 430, 458, 459, 460, 461, 462, 431, 432, 433, 434, 435, 436, 437, 438, 439, 440, 441] (by decide +kernel) (by decide +kernel)
set_option maxRecDepth 20000 in
theorem gL_acts_X7_ifGone : GoodIn wsL_acts (wsV RL 41 RX7 yX7_ifGone wsX7_ifGone) := goodIn_app (goodIn_of _ (by decide +kernel)) ggL_acts_X7_ifGone
set_option maxRecDepth 20000 in
theorem ggL_acts_X7_go : GoodIn wsL_acts wsX7_go := goodIn_r _ [191, 11, 143, 144, 145, 17, 146, 147, 148, 27, 149, 150, 66, 67, 37, 38, 39, 40, 41, 192, 193, 194, 9, 195, 13, 196, 197, 198, 199, 200, 201, 202, 203, 204, 20, 205, 206, 207, 208, 105, 209, 89, 19, 210, 211, 212, 213, 214, 215, 216, 217, 218, 142, 151, 152, 153, 154, 155, 156, 157, 158, 159, 160, 161, 162, 86, 87, 88, 163, 164, 165, 166, 167, 43, 44, 45, 46, 47, 48, 168, 169, 170, 171, 172, 173, 174, 175, 176, 177, 178, 179, 219, 220, 221, 222, 223, 185, 186, 187, 224, 225, 226, 227, 228, 229, 230, 231, 232, 233, 234, 180, 181, 182, 183, 184, 417, 418, 419, 420, 421, 422, 423, 424, 425, 426, 427, 428, 429, 430, 431, 432, 433, 434, 435, 436, 437, 438, 439, 440, 441, 458, 459, 460, 461, 462] (by decide +kernel) (by decide +kernel)
set_option maxRecDepth 20000 in
theorem gL_acts_X7_go : GoodIn wsL_acts (wsV RL 80 RX7 yX7_go wsX7_go) := goodIn_app (goodIn_of _ (by decide +kernel)) ggL_acts_X7_go
set_option maxRecDepth 20000 in
theorem ggL_acts_X7_rain : GoodIn wsL_acts wsX7_rain := goodIn_r _ [238, 192, 193, 194, 9, 195, 13, 196, 11, 197, 198, 199, 200, 201, 202, 203, 17, 204, 20, 205, 206, 207, 208, 105, 209, 41, 89, 19, 210, 211, 212, 213, 214, 239, 240, 241, 242, 142, 243, 172, 173, 143, 144, 145, 146, 147, 148, 27, 149, 150, 66, 67, 37, 38, 39, 40, 244, 245, 246, 247, 215, 216, 217, 218, 151, 152, 153, 154, 155, 156, 157, 158, 159, 160, 161, 162, 86, 87, 88, 163, 164, 165, 166, 167, 43, 44, 45, 46, 47, 48, 168, 169, 170, 171, 174, 175, 176, 177, 178, 179, 219, 220, 221, 222, 223, 185, 186, 187, 224, 225, 226, 227, 228, 229, 230, 231, 232, 233, 234, 180, 181, 182, 183, 184, 248, 417, 418, 419, 420, 421, 422, 423, 424, 425, 426, 427, 428, 429, 430, 431, 432, 433, 434, 435, 436, 437, 438, 439, 440, 441, 458, 459, 460, 461, 462] (by decide +kernel) (by decide +kernel)
set_option maxRecDepth 20000 in
theorem gL_acts_X7_rain : GoodIn wsL_acts (wsV RL 83 RX7 yX7_rain wsX7_rain) := goodIn_app (goodIn_of _ (by decide +kernel)) ggL_acts_X7_rain
set_option maxRecDepth 20000 in
theorem ggL_acts_X7_grain : GoodIn wsL_acts wsX7_grain := goodIn_r _ [252, 11, 94, 253, 74, 75, 17, 76, 19, 95, 96, 97, 98, 99, 100, 101, 102, 103, 104, 105, 106, 107, 108, 109, 110, 111, 112, 113, 114, 115, 116, 117, 118, 119, 120, 121, 122, 123, 124, 254, 255, 256, 257, 20, 258, 81, 82, 83, 9, 84, 53, 54, 55, 56, 57, 58, 59, 60, 61, 62, 63, 64, 65, 66, 27, 67, 68, 69, 70, 71, 38, 39, 40, 41, 72, 47, 48, 73, 259, 260, 261, 262, 209, 417, 418, 419, 420, 421, 422, 423, 424, 425, 426, 427, 428, 429, 430, 451, 452, 453, 454, 455, 456, 457, 431, 432, 433, 434, 435, 436, 437, 438, 439, 440, 441, 448, 449, 450] (by decide +kernel) (by decide +kernel)
set_option maxRecDepth 20000 in
theorem gL_acts_X7_grain : GoodIn wsL_acts (wsV RL 19 RX7 yX7_grain wsX7_grain) := goodIn_app (goodIn_of _ (by decide +kernel)) ggL_acts_X7_grain
set_option maxRecDepth 20000 in
theorem ggL_acts_X7_breakOff : GoodIn wsL_acts wsX7_breakOff := goodIn_r _ [266, 11, 267, 268, 269, 270, 17, 271, 106, 74, 75, 76, 19, 272, 102, 103, 104, 105, 192, 193, 194, 9, 195, 13, 196, 197, 198, 199, 200, 201, 202, 203, 204, 20, 205, 206, 207, 208, 209, 41, 89, 210, 211, 212, 213, 214, 273, 274, 275, 276, 277, 278, 279, 280, 281, 282, 283, 284, 285, 231, 232, 233, 234, 228, 229, 27, 230, 417, 418, 419, 420, 421, 422, 423, 424, 425, 426, 427, 428, 429, 430, 431, 432, 433, 434, 435, 436, 437, 438, 439, 440, 441, 463, 464] (by decide +kernel) (by decide +kernel)
set_option maxRecDepth 20000 in
theorem gL_acts_X7_breakOff : GoodIn wsL_acts (wsV RL 86 RX7 yX7_breakOff wsX7_breakOff) := goodIn_app (goodIn_of _ (by decide +kernel)) ggL_acts_X7_breakOff
set_option maxRecDepth 20000 in
theorem ggL_acts_X7_wash : GoodIn wsL_acts wsX7_wash := goodIn_r _ [289, 267, 11, 192, 193, 194, 9, 195, 13, 196, 197, 198, 199, 200, 201, 202, 203, 17, 204, 20, 205, 206, 207, 208, 105, 209, 41, 89, 19, 210, 211, 212, 213, 214, 290, 291, 292, 276, 293, 278, 279, 280, 102, 103, 104, 106, 74, 75, 76, 281, 282, 283, 284, 285, 231, 232, 233, 234, 228, 229, 27, 230, 417, 418, 419, 420, 421, 422, 423, 424, 425, 426, 427, 428, 429, 430, 431, 432, 433, 434, 435, 436, 437, 438, 439, 440, 441, 463, 464] (by decide +kernel) (by decide +kernel)
set_option maxRecDepth 20000 in
theorem gL_acts_X7_wash : GoodIn wsL_acts (wsV RL 89 RX7 yX7_wash wsX7_wash) := goodIn_app (goodIn_of _ (by decide +kernel)) ggL_acts_X7_wash
set_option maxRecDepth 20000 in
theorem ggL_acts_X7_lot : GoodIn wsL_acts wsX7_lot := goodIn_r _ [297, 11, 192, 193, 194, 9, 195, 13, 196, 197, 198, 199, 200, 201, 202, 203, 17, 204, 20, 205, 206, 207, 208, 105, 209, 41, 89, 19, 210, 211, 212, 213, 214, 417, 418, 419, 420, 421, 422, 423, 424, 425, 426, 427, 428, 429, 430, 431, 432, 433, 434, 435, 436, 437, 438, 439, 440, 441] (by decide +kernel) (by decide +kernel)
set_option maxRecDepth 20000 in
theorem gL_acts_X7_lot : GoodIn wsL_acts (wsV RL 92 RX7 yX7_lot wsX7_lot) := goodIn_app (goodIn_of _ (by decide +kernel)) ggL_acts_X7_lot
set_option maxRecDepth 20000 in
theorem ggL_acts_X7_set : GoodIn wsL_acts wsX7_set := goodIn_r _ [301, 11, 302, 303, 9, 304, 192, 193, 194, 195, 13, 196, 197, 198, 199, 200, 201, 202, 203, 17, 204, 20, 205, 206, 207, 208, 105, 209, 41, 89, 19, 210, 211, 212, 213, 214, 305, 306, 307, 308, 309, 86, 87, 88, 417, 418, 419, 420, 421, 422, 423, 424, 425, 426, 427, 428, 429, 430, 431, 432, 433, 434, 435, 436, 437, 438, 439, 440, 441] (by decide +kernel) (by decide +kernel)
set_option maxRecDepth 20000 in
theorem gL_acts_X7_set : GoodIn wsL_acts (wsV RL 95 RX7 yX7_set wsX7_set) := goodIn_app (goodIn_of _ (by decide +kernel)) ggL_acts_X7_set
set_option maxRecDepth 20000 in
theorem ggL_acts_L_carries : GoodIn wsL_acts wsL_carries := goodIn_r _ [312, 313, 314, 3, 315, 316, 317, 6, 7, 8, 9, 10, 11, 12, 13, 14, 15, 16, 17, 18, 19, 20, 21, 22, 23, 24, 25, 26, 27, 28, 29, 30, 31, 32, 33, 34, 35, 36, 37, 38, 39, 40, 41, 42, 43, 44, 45, 46, 47, 48, 49, 50, 51, 52, 53, 54, 55, 56, 57, 58, 59, 60, 61, 62, 63, 64, 65, 66, 67, 68, 69, 70, 71, 72, 73, 74, 75, 76, 77, 78, 79, 80, 81, 82, 83, 84, 85, 86, 87, 88, 89, 90, 91, 92, 93, 94, 95, 96, 97, 98, 99, 100, 101, 102, 103, 104, 105, 106, 107, 108, 109, 110, 111, 112, 113, 114, 115, 116, 117, 118, 119, 120, 121, 122, 123, 124, 125, 126, 127, 128, 129, 130, 131, 132, 133, 134, 135, 136, 137, 249, 250, 251, 252, 253, 254, 255, 256, 257, 258, 259, 260, 261, 262, 209, 1, 2, 4, 5, 318, 319, 320, 321, 322, 323, 324, 325, 326, 327, 328, 329, 330, 331, 332, 333, 334, 335, 336, 337, 338, 339, 340, 341, 342, 343, 344, 345, 346, 347, 348, 349, 350, 351, 352, 353, 354, 355, 356, 357, 358, 359, 360, 361, 362, 363, 364, 365, 366, 367, 368, 369, 370, 192, 193, 194, 195, 196, 197, 198, 199, 200, 201, 202, 203, 204, 205, 206, 207, 208, 210, 211, 212, 213, 214, 371, 372, 373, 374, 375, 376, 377, 378, 379, 380, 381, 382, 383, 384, 385, 386, 267, 290, 291, 292, 276, 293, 278, 279, 280, 281, 282, 283, 284, 285, 231, 232, 233, 234, 228, 229, 230, 143, 144, 145, 146, 147, 148, 149, 150, 268, 269, 270, 271, 272, 215, 216, 217, 218, 142, 151, 152, 153, 154, 155, 156, 157, 158, 159, 160, 161, 162, 163, 164, 165, 166, 167, 168, 169, 170, 171, 172, 173, 174, 175, 176, 177, 178, 179, 219, 220, 221, 222, 223, 185, 186, 187, 224, 225, 226, 227, 180, 181, 182, 183, 184, 273, 274, 275, 277, 417, 418, 419, 420, 421, 422, 423, 424, 425, 426, 427, 428, 429, 430, 431, 432, 433, 434, 435, 436, 437, 438, 439, 440, 441, 442, 443, 444, 445, 446, 447, 448, 449, 450, 451, 452, 453, 454, 455, 456, 457, 463, 464, 458, 459, 460, 461, 462] (by decide +kernel) (by decide +kernel)
set_option maxRecDepth 20000 in
theorem gL_acts_L_carries : GoodIn wsL_acts (va_wsS RL 98 yL_carries wsL_carries) := goodIn_app (goodIn_of _ (by decide +kernel)) ggL_acts_L_carries
set_option maxRecDepth 20000 in
theorem ggL_acts_X7_begin : GoodIn wsL_acts wsX7_begin := goodIn_r _ [390, 11, 192, 193, 194, 9, 195, 13, 196, 197, 198, 199, 200, 201, 202, 203, 17, 204, 20, 205, 206, 207, 208, 105, 209, 41, 89, 19, 210, 211, 212, 213, 214, 391, 392, 393, 394, 231, 232, 233, 234, 228, 229, 27, 230, 395, 396, 397, 25, 26, 28, 29, 30, 23, 31, 32, 22, 24, 224, 225, 226, 227, 417, 418, 419, 420, 421, 422, 423, 424, 425, 426, 427, 428, 429, 430, 431, 432, 433, 434, 435, 436, 437, 438, 439, 440, 441] (by decide +kernel) (by decide +kernel)
set_option maxRecDepth 20000 in
theorem gL_acts_X7_begin : GoodIn wsL_acts (wsV RL 101 RX7 yX7_begin wsX7_begin) := goodIn_app (goodIn_of _ (by decide +kernel)) ggL_acts_X7_begin
set_option maxRecDepth 20000 in
theorem ggL_acts_X7_longest : GoodIn wsL_acts wsX7_longest := goodIn_r _ [401, 11, 94, 402, 403, 404, 17, 405, 19, 21, 22, 23, 24, 406, 407, 408, 409, 410, 411, 412, 272, 102, 103, 104, 105, 106, 74, 75, 76, 95, 96, 97, 98, 99, 100, 101, 107, 108, 109, 110, 111, 112, 113, 114, 115, 116, 117, 118, 119, 120, 121, 122, 123, 124, 413, 414, 415, 416, 137, 417, 418, 419, 420, 421, 422, 423, 424, 425, 426, 427, 428, 429, 430, 431, 432, 433, 434, 435, 436, 437, 438, 439, 440, 441, 451, 452, 453, 454, 455, 456, 457] (by decide +kernel) (by decide +kernel)
set_option maxRecDepth 20000 in
theorem gL_acts_X7_longest : GoodIn wsL_acts (wsV RL 31 RX7 yX7_longest wsX7_longest) := goodIn_app (goodIn_of _ (by decide +kernel)) ggL_acts_X7_longest
theorem dL_acts_0 : decode cL_acts 0 = .ok (.iload_n 1, 1) := by decide +kernel
theorem dL_acts_1 : decode cL_acts 1 = .ok (.bipush 24, 2) := by decide +kernel
theorem dL_acts_3 : decode cL_acts 3 = .ok (.invokestatic 38, 3) := by decide +kernel
theorem dL_acts_6 : decode cL_acts 6 = .ok (.istore_n 3, 1) := by decide +kernel
theorem dL_acts_7 : decode cL_acts 7 = .ok (.aload_n 0, 1) := by decide +kernel
theorem dL_acts_8 : decode cL_acts 8 = .ok (.iconst 0, 1) := by decide +kernel
theorem dL_acts_9 : decode cL_acts 9 = .ok (.invokevirtual 13, 3) := by decide +kernel
theorem dL_acts_12 : decode cL_acts 12 = .ok (.istore 4, 2) := by decide +kernel
theorem dL_acts_14 : decode cL_acts 14 = .ok (.iload_n 3, 1) := by decide +kernel
theorem dL_acts_15 : decode cL_acts 15 = .ok (.bipush 8, 2) := by decide +kernel
theorem dL_acts_17 : decode cL_acts 17 = .ok (.if_icmp .ge 135, 3) := by decide +kernel
theorem dL_acts_20 : decode cL_acts 20 = .ok (.iload_n 2, 1) := by decide +kernel
theorem dL_acts_21 : decode cL_acts 21 = .ok (.bipush 42, 2) := by decide +kernel
theorem dL_acts_23 : decode cL_acts 23 = .ok (.invokestatic 38, 3) := by decide +kernel
theorem dL_acts_26 : decode cL_acts 26 = .ok (.iconst 1, 1) := by decide +kernel
theorem dL_acts_27 : decode cL_acts 27 = .ok (.isub, 1) := by decide +kernel
theorem dL_acts_28 : decode cL_acts 28 = .ok (.istore 5, 2) := by decide +kernel
theorem dL_acts_30 : decode cL_acts 30 = .ok (.aload_n 0, 1) := by decide +kernel
theorem dL_acts_31 : decode cL_acts 31 = .ok (.iload 5, 2) := by decide +kernel
theorem dL_acts_33 : decode cL_acts 33 = .ok (.iconst 0, 1) := by decide +kernel
theorem dL_acts_34 : decode cL_acts 34 = .ok (.invokevirtual 41, 3) := by decide +kernel
theorem dL_acts_37 : decode cL_acts 37 = .ok (.istore 6, 2) := by decide +kernel
theorem dL_acts_39 : decode cL_acts 39 = .ok (.aload_n 0, 1) := by decide +kernel
theorem dL_acts_40 : decode cL_acts 40 = .ok (.bipush 7, 2) := by decide +kernel
theorem dL_acts_42 : decode cL_acts 42 = .ok (.invokevirtual 13, 3) := by decide +kernel
theorem dL_acts_45 : decode cL_acts 45 = .ok (.istore 7, 2) := by decide +kernel
theorem dL_acts_47 : decode cL_acts 47 = .ok (.aload_n 0, 1) := by decide +kernel
theorem dL_acts_48 : decode cL_acts 48 = .ok (.bipush 8, 2) := by decide +kernel
theorem dL_acts_50 : decode cL_acts 50 = .ok (.invokevirtual 13, 3) := by decide +kernel
theorem dL_acts_53 : decode cL_acts 53 = .ok (.istore 8, 2) := by decide +kernel
theorem dL_acts_55 : decode cL_acts 55 = .ok (.aload_n 0, 1) := by decide +kernel
theorem dL_acts_56 : decode cL_acts 56 = .ok (.iload 5, 2) := by decide +kernel
theorem dL_acts_58 : decode cL_acts 58 = .ok (.invokevirtual 80, 3) := by decide +kernel
theorem dL_acts_61 : decode cL_acts 61 = .ok (.istore 9, 2) := by decide +kernel
theorem dL_acts_63 : decode cL_acts 63 = .ok (.iload 9, 2) := by decide +kernel
theorem dL_acts_65 : decode cL_acts 65 = .ok (.iload 6, 2) := by decide +kernel
theorem dL_acts_67 : decode cL_acts 67 = .ok (.if_icmp .ne 83, 3) := by decide +kernel
theorem dL_acts_70 : decode cL_acts 70 = .ok (.aload_n 0, 1) := by decide +kernel
theorem dL_acts_71 : decode cL_acts 71 = .ok (.iconst 0, 1) := by decide +kernel
theorem dL_acts_72 : decode cL_acts 72 = .ok (.invokevirtual 13, 3) := by decide +kernel
theorem dL_acts_75 : decode cL_acts 75 = .ok (.iload 4, 2) := by decide +kernel
theorem dL_acts_77 : decode cL_acts 77 = .ok (.iload 9, 2) := by decide +kernel
theorem dL_acts_79 : decode cL_acts 79 = .ok (.sipush 1000, 3) := by decide +kernel
theorem dL_acts_82 : decode cL_acts 82 = .ok (.if_icmp .lt 7, 3) := by decide +kernel
theorem dL_acts_85 : decode cL_acts 85 = .ok (.iconst 1, 1) := by decide +kernel
theorem dL_acts_86 : decode cL_acts 86 = .ok (.goto 4, 3) := by decide +kernel
theorem dL_acts_89 : decode cL_acts 89 = .ok (.iconst 0, 1) := by decide +kernel
theorem dL_acts_90 : decode cL_acts 90 = .ok (.iadd, 1) := by decide +kernel
theorem dL_acts_91 : decode cL_acts 91 = .ok (.if_icmp .ne 59, 3) := by decide +kernel
theorem dL_acts_94 : decode cL_acts 94 = .ok (.aload_n 0, 1) := by decide +kernel
theorem dL_acts_95 : decode cL_acts 95 = .ok (.bipush 7, 2) := by decide +kernel
theorem dL_acts_97 : decode cL_acts 97 = .ok (.invokevirtual 13, 3) := by decide +kernel
theorem dL_acts_100 : decode cL_acts 100 = .ok (.iload 7, 2) := by decide +kernel
theorem dL_acts_102 : decode cL_acts 102 = .ok (.iload 9, 2) := by decide +kernel
theorem dL_acts_104 : decode cL_acts 104 = .ok (.ifCond .ge 7, 3) := by decide +kernel
theorem dL_acts_107 : decode cL_acts 107 = .ok (.iconst 0, 1) := by decide +kernel
theorem dL_acts_108 : decode cL_acts 108 = .ok (.goto 4, 3) := by decide +kernel
theorem dL_acts_111 : decode cL_acts 111 = .ok (.iconst 1, 1) := by decide +kernel
theorem dL_acts_112 : decode cL_acts 112 = .ok (.iadd, 1) := by decide +kernel
theorem dL_acts_113 : decode cL_acts 113 = .ok (.if_icmp .ne 37, 3) := by decide +kernel
theorem dL_acts_116 : decode cL_acts 116 = .ok (.aload_n 0, 1) := by decide +kernel
theorem dL_acts_117 : decode cL_acts 117 = .ok (.bipush 8, 2) := by decide +kernel
theorem dL_acts_119 : decode cL_acts 119 = .ok (.invokevirtual 13, 3) := by decide +kernel
theorem dL_acts_122 : decode cL_acts 122 = .ok (.iload 8, 2) := by decide +kernel
theorem dL_acts_124 : decode cL_acts 124 = .ok (.iload 9, 2) := by decide +kernel
theorem dL_acts_126 : decode cL_acts 126 = .ok (.ifCond .lt 11, 3) := by decide +kernel
theorem dL_acts_129 : decode cL_acts 129 = .ok (.iload 9, 2) := by decide +kernel
theorem dL_acts_131 : decode cL_acts 131 = .ok (.sipush 1000, 3) := by decide +kernel
theorem dL_acts_134 : decode cL_acts 134 = .ok (.if_icmp .lt 7, 3) := by decide +kernel
theorem dL_acts_137 : decode cL_acts 137 = .ok (.iconst 0, 1) := by decide +kernel
theorem dL_acts_138 : decode cL_acts 138 = .ok (.goto 4, 3) := by decide +kernel
theorem dL_acts_141 : decode cL_acts 141 = .ok (.iconst 1, 1) := by decide +kernel
theorem dL_acts_142 : decode cL_acts 142 = .ok (.iadd, 1) := by decide +kernel
theorem dL_acts_143 : decode cL_acts 143 = .ok (.if_icmp .ne 7, 3) := by decide +kernel
theorem dL_acts_146 : decode cL_acts 146 = .ok (.iconst 1, 1) := by decide +kernel
theorem dL_acts_147 : decode cL_acts 147 = .ok (.goto 4, 3) := by decide +kernel
theorem dL_acts_150 : decode cL_acts 150 = .ok (.iconst 0, 1) := by decide +kernel
theorem dL_acts_151 : decode cL_acts 151 = .ok (.ireturn, 1) := by decide +kernel
theorem dL_acts_152 : decode cL_acts 152 = .ok (.iload_n 3, 1) := by decide +kernel
theorem dL_acts_153 : decode cL_acts 153 = .ok (.bipush 12, 2) := by decide +kernel
theorem dL_acts_155 : decode cL_acts 155 = .ok (.if_icmp .ge 121, 3) := by decide +kernel
theorem dL_acts_158 : decode cL_acts 158 = .ok (.iload_n 2, 1) := by decide +kernel
theorem dL_acts_159 : decode cL_acts 159 = .ok (.bipush 22, 2) := by decide +kernel
theorem dL_acts_161 : decode cL_acts 161 = .ok (.invokestatic 38, 3) := by decide +kernel
theorem dL_acts_164 : decode cL_acts 164 = .ok (.istore 5, 2) := by decide +kernel
theorem dL_acts_166 : decode cL_acts 166 = .ok (.iload 5, 2) := by decide +kernel
theorem dL_acts_168 : decode cL_acts 168 = .ok (.ifCond .eq 10, 3) := by decide +kernel
theorem dL_acts_171 : decode cL_acts 171 = .ok (.iload 5, 2) := by decide +kernel
theorem dL_acts_173 : decode cL_acts 173 = .ok (.bipush 21, 2) := by decide +kernel
theorem dL_acts_175 : decode cL_acts 175 = .ok (.if_icmp .ne 7, 3) := by decide +kernel
theorem dL_acts_178 : decode cL_acts 178 = .ok (.iconst 1, 1) := by decide +kernel
theorem dL_acts_179 : decode cL_acts 179 = .ok (.goto 4, 3) := by decide +kernel
theorem dL_acts_182 : decode cL_acts 182 = .ok (.iconst 0, 1) := by decide +kernel
theorem dL_acts_183 : decode cL_acts 183 = .ok (.istore 6, 2) := by decide +kernel
theorem dL_acts_185 : decode cL_acts 185 = .ok (.aload_n 0, 1) := by decide +kernel
theorem dL_acts_186 : decode cL_acts 186 = .ok (.bipush 7, 2) := by decide +kernel
theorem dL_acts_188 : decode cL_acts 188 = .ok (.invokevirtual 13, 3) := by decide +kernel
theorem dL_acts_191 : decode cL_acts 191 = .ok (.istore 7, 2) := by decide +kernel
theorem dL_acts_193 : decode cL_acts 193 = .ok (.aload_n 0, 1) := by decide +kernel
theorem dL_acts_194 : decode cL_acts 194 = .ok (.iload 5, 2) := by decide +kernel
theorem dL_acts_196 : decode cL_acts 196 = .ok (.invokevirtual 83, 3) := by decide +kernel
theorem dL_acts_199 : decode cL_acts 199 = .ok (.istore 8, 2) := by decide +kernel
theorem dL_acts_201 : decode cL_acts 201 = .ok (.iload 6, 2) := by decide +kernel
theorem dL_acts_203 : decode cL_acts 203 = .ok (.ifCond .eq 28, 3) := by decide +kernel
theorem dL_acts_206 : decode cL_acts 206 = .ok (.iload 8, 2) := by decide +kernel
theorem dL_acts_208 : decode cL_acts 208 = .ok (.iconst (-1), 1) := by decide +kernel
theorem dL_acts_209 : decode cL_acts 209 = .ok (.if_icmp .ne 18, 3) := by decide +kernel
theorem dL_acts_212 : decode cL_acts 212 = .ok (.aload_n 0, 1) := by decide +kernel
theorem dL_acts_213 : decode cL_acts 213 = .ok (.bipush 7, 2) := by decide +kernel
theorem dL_acts_215 : decode cL_acts 215 = .ok (.invokevirtual 13, 3) := by decide +kernel
theorem dL_acts_218 : decode cL_acts 218 = .ok (.iload 7, 2) := by decide +kernel
theorem dL_acts_220 : decode cL_acts 220 = .ok (.if_icmp .ne 7, 3) := by decide +kernel
theorem dL_acts_223 : decode cL_acts 223 = .ok (.iconst 1, 1) := by decide +kernel
theorem dL_acts_224 : decode cL_acts 224 = .ok (.goto 51, 3) := by decide +kernel
theorem dL_acts_227 : decode cL_acts 227 = .ok (.iconst 0, 1) := by decide +kernel
theorem dL_acts_228 : decode cL_acts 228 = .ok (.goto 47, 3) := by decide +kernel
theorem dL_acts_231 : decode cL_acts 231 = .ok (.iload 8, 2) := by decide +kernel
theorem dL_acts_233 : decode cL_acts 233 = .ok (.ifCond .lt 41, 3) := by decide +kernel
theorem dL_acts_236 : decode cL_acts 236 = .ok (.iload 8, 2) := by decide +kernel
theorem dL_acts_238 : decode cL_acts 238 = .ok (.iload 5, 2) := by decide +kernel
theorem dL_acts_240 : decode cL_acts 240 = .ok (.if_icmp .gt 34, 3) := by decide +kernel
theorem dL_acts_243 : decode cL_acts 243 = .ok (.aload_n 0, 1) := by decide +kernel
theorem dL_acts_244 : decode cL_acts 244 = .ok (.iconst 0, 1) := by decide +kernel
theorem dL_acts_245 : decode cL_acts 245 = .ok (.invokevirtual 13, 3) := by decide +kernel
theorem dL_acts_248 : decode cL_acts 248 = .ok (.iload 4, 2) := by decide +kernel
theorem dL_acts_250 : decode cL_acts 250 = .ok (.iload 8, 2) := by decide +kernel
theorem dL_acts_252 : decode cL_acts 252 = .ok (.iadd, 1) := by decide +kernel
theorem dL_acts_253 : decode cL_acts 253 = .ok (.if_icmp .ne 21, 3) := by decide +kernel
theorem dL_acts_256 : decode cL_acts 256 = .ok (.aload_n 0, 1) := by decide +kernel
theorem dL_acts_257 : decode cL_acts 257 = .ok (.bipush 7, 2) := by decide +kernel
theorem dL_acts_259 : decode cL_acts 259 = .ok (.invokevirtual 13, 3) := by decide +kernel
theorem dL_acts_262 : decode cL_acts 262 = .ok (.iload 7, 2) := by decide +kernel
theorem dL_acts_264 : decode cL_acts 264 = .ok (.iload 5, 2) := by decide +kernel
theorem dL_acts_266 : decode cL_acts 266 = .ok (.iadd, 1) := by decide +kernel
theorem dL_acts_267 : decode cL_acts 267 = .ok (.if_icmp .ne 7, 3) := by decide +kernel
theorem dL_acts_270 : decode cL_acts 270 = .ok (.iconst 1, 1) := by decide +kernel
theorem dL_acts_271 : decode cL_acts 271 = .ok (.goto 4, 3) := by decide +kernel
theorem dL_acts_274 : decode cL_acts 274 = .ok (.iconst 0, 1) := by decide +kernel
theorem dL_acts_275 : decode cL_acts 275 = .ok (.ireturn, 1) := by decide +kernel
theorem dL_acts_276 : decode cL_acts 276 = .ok (.iload_n 3, 1) := by decide +kernel
theorem dL_acts_277 : decode cL_acts 277 = .ok (.bipush 12, 2) := by decide +kernel
theorem dL_acts_279 : decode cL_acts 279 = .ok (.if_icmp .ne 154, 3) := by decide +kernel
theorem dL_acts_282 : decode cL_acts 282 = .ok (.iload_n 2, 1) := by decide +kernel
theorem dL_acts_283 : decode cL_acts 283 = .ok (.iload 4, 2) := by decide +kernel
theorem dL_acts_285 : decode cL_acts 285 = .ok (.iconst 1, 1) := by decide +kernel
theorem dL_acts_286 : decode cL_acts 286 = .ok (.iadd, 1) := by decide +kernel
theorem dL_acts_287 : decode cL_acts 287 = .ok (.invokestatic 38, 3) := by decide +kernel
theorem dL_acts_290 : decode cL_acts 290 = .ok (.istore 5, 2) := by decide +kernel
theorem dL_acts_292 : decode cL_acts 292 = .ok (.iload 5, 2) := by decide +kernel
theorem dL_acts_294 : decode cL_acts 294 = .ok (.iload 4, 2) := by decide +kernel
theorem dL_acts_296 : decode cL_acts 296 = .ok (.if_icmp .ne 7, 3) := by decide +kernel
theorem dL_acts_299 : decode cL_acts 299 = .ok (.iconst 0, 1) := by decide +kernel
theorem dL_acts_300 : decode cL_acts 300 = .ok (.goto 10, 3) := by decide +kernel
theorem dL_acts_303 : decode cL_acts 303 = .ok (.aload_n 0, 1) := by decide +kernel
theorem dL_acts_304 : decode cL_acts 304 = .ok (.iload 5, 2) := by decide +kernel
theorem dL_acts_306 : decode cL_acts 306 = .ok (.iconst 4, 1) := by decide +kernel
theorem dL_acts_307 : decode cL_acts 307 = .ok (.invokevirtual 19, 3) := by decide +kernel
theorem dL_acts_310 : decode cL_acts 310 = .ok (.istore 6, 2) := by decide +kernel
theorem dL_acts_312 : decode cL_acts 312 = .ok (.iload 5, 2) := by decide +kernel
theorem dL_acts_314 : decode cL_acts 314 = .ok (.iload 4, 2) := by decide +kernel
theorem dL_acts_316 : decode cL_acts 316 = .ok (.if_icmp .ge 19, 3) := by decide +kernel
theorem dL_acts_319 : decode cL_acts 319 = .ok (.aload_n 0, 1) := by decide +kernel
theorem dL_acts_320 : decode cL_acts 320 = .ok (.iload 5, 2) := by decide +kernel
theorem dL_acts_322 : decode cL_acts 322 = .ok (.iconst 1, 1) := by decide +kernel
theorem dL_acts_323 : decode cL_acts 323 = .ok (.invokevirtual 19, 3) := by decide +kernel
theorem dL_acts_326 : decode cL_acts 326 = .ok (.bipush (-4), 2) := by decide +kernel
theorem dL_acts_328 : decode cL_acts 328 = .ok (.if_icmp .ne 7, 3) := by decide +kernel
theorem dL_acts_331 : decode cL_acts 331 = .ok (.iconst 1, 1) := by decide +kernel
theorem dL_acts_332 : decode cL_acts 332 = .ok (.goto 4, 3) := by decide +kernel
theorem dL_acts_335 : decode cL_acts 335 = .ok (.iconst 0, 1) := by decide +kernel
theorem dL_acts_336 : decode cL_acts 336 = .ok (.istore 7, 2) := by decide +kernel
theorem dL_acts_338 : decode cL_acts 338 = .ok (.aload_n 0, 1) := by decide +kernel
theorem dL_acts_339 : decode cL_acts 339 = .ok (.bipush 9, 2) := by decide +kernel
theorem dL_acts_341 : decode cL_acts 341 = .ok (.invokevirtual 13, 3) := by decide +kernel
theorem dL_acts_344 : decode cL_acts 344 = .ok (.istore 8, 2) := by decide +kernel
theorem dL_acts_346 : decode cL_acts 346 = .ok (.aload_n 0, 1) := by decide +kernel
theorem dL_acts_347 : decode cL_acts 347 = .ok (.iload 5, 2) := by decide +kernel
theorem dL_acts_349 : decode cL_acts 349 = .ok (.invokevirtual 86, 3) := by decide +kernel
theorem dL_acts_352 : decode cL_acts 352 = .ok (.istore 9, 2) := by decide +kernel
theorem dL_acts_354 : decode cL_acts 354 = .ok (.iload 9, 2) := by decide +kernel
theorem dL_acts_356 : decode cL_acts 356 = .ok (.iload 5, 2) := by decide +kernel
theorem dL_acts_358 : decode cL_acts 358 = .ok (.iload 4, 2) := by decide +kernel
theorem dL_acts_360 : decode cL_acts 360 = .ok (.if_icmp .ne 7, 3) := by decide +kernel
theorem dL_acts_363 : decode cL_acts 363 = .ok (.iconst (-1), 1) := by decide +kernel
theorem dL_acts_364 : decode cL_acts 364 = .ok (.goto 15, 3) := by decide +kernel
theorem dL_acts_367 : decode cL_acts 367 = .ok (.iload 7, 2) := by decide +kernel
theorem dL_acts_369 : decode cL_acts 369 = .ok (.ifCond .eq 8, 3) := by decide +kernel
theorem dL_acts_372 : decode cL_acts 372 = .ok (.bipush (-2), 2) := by decide +kernel
theorem dL_acts_374 : decode cL_acts 374 = .ok (.goto 5, 3) := by decide +kernel
theorem dL_acts_377 : decode cL_acts 377 = .ok (.iload 6, 2) := by decide +kernel
theorem dL_acts_379 : decode cL_acts 379 = .ok (.if_icmp .ne 52, 3) := by decide +kernel
theorem dL_acts_382 : decode cL_acts 382 = .ok (.aload_n 0, 1) := by decide +kernel
theorem dL_acts_383 : decode cL_acts 383 = .ok (.iconst 0, 1) := by decide +kernel
theorem dL_acts_384 : decode cL_acts 384 = .ok (.invokevirtual 13, 3) := by decide +kernel
theorem dL_acts_387 : decode cL_acts 387 = .ok (.iload 4, 2) := by decide +kernel
theorem dL_acts_389 : decode cL_acts 389 = .ok (.iload 9, 2) := by decide +kernel
theorem dL_acts_391 : decode cL_acts 391 = .ok (.ifCond .ge 7, 3) := by decide +kernel
theorem dL_acts_394 : decode cL_acts 394 = .ok (.iconst 0, 1) := by decide +kernel
theorem dL_acts_395 : decode cL_acts 395 = .ok (.goto 5, 3) := by decide +kernel
theorem dL_acts_398 : decode cL_acts 398 = .ok (.iload 9, 2) := by decide +kernel
theorem dL_acts_400 : decode cL_acts 400 = .ok (.isub, 1) := by decide +kernel
theorem dL_acts_401 : decode cL_acts 401 = .ok (.if_icmp .ne 30, 3) := by decide +kernel
theorem dL_acts_404 : decode cL_acts 404 = .ok (.aload_n 0, 1) := by decide +kernel
theorem dL_acts_405 : decode cL_acts 405 = .ok (.bipush 9, 2) := by decide +kernel
theorem dL_acts_407 : decode cL_acts 407 = .ok (.invokevirtual 13, 3) := by decide +kernel
theorem dL_acts_410 : decode cL_acts 410 = .ok (.iload 8, 2) := by decide +kernel
theorem dL_acts_412 : decode cL_acts 412 = .ok (.iload 9, 2) := by decide +kernel
theorem dL_acts_414 : decode cL_acts 414 = .ok (.ifCond .ge 7, 3) := by decide +kernel
theorem dL_acts_417 : decode cL_acts 417 = .ok (.iconst 0, 1) := by decide +kernel
theorem dL_acts_418 : decode cL_acts 418 = .ok (.goto 5, 3) := by decide +kernel
theorem dL_acts_421 : decode cL_acts 421 = .ok (.iload 9, 2) := by decide +kernel
theorem dL_acts_423 : decode cL_acts 423 = .ok (.iadd, 1) := by decide +kernel
theorem dL_acts_424 : decode cL_acts 424 = .ok (.if_icmp .ne 7, 3) := by decide +kernel
theorem dL_acts_427 : decode cL_acts 427 = .ok (.iconst 1, 1) := by decide +kernel
theorem dL_acts_428 : decode cL_acts 428 = .ok (.goto 4, 3) := by decide +kernel
theorem dL_acts_431 : decode cL_acts 431 = .ok (.iconst 0, 1) := by decide +kernel
theorem dL_acts_432 : decode cL_acts 432 = .ok (.ireturn, 1) := by decide +kernel
theorem dL_acts_433 : decode cL_acts 433 = .ok (.iload_n 3, 1) := by decide +kernel
theorem dL_acts_434 : decode cL_acts 434 = .ok (.bipush 13, 2) := by decide +kernel
theorem dL_acts_436 : decode cL_acts 436 = .ok (.if_icmp .ne 76, 3) := by decide +kernel
theorem dL_acts_439 : decode cL_acts 439 = .ok (.aload_n 0, 1) := by decide +kernel
theorem dL_acts_440 : decode cL_acts 440 = .ok (.iconst 1, 1) := by decide +kernel
theorem dL_acts_441 : decode cL_acts 441 = .ok (.invokevirtual 13, 3) := by decide +kernel
theorem dL_acts_444 : decode cL_acts 444 = .ok (.istore 5, 2) := by decide +kernel
theorem dL_acts_446 : decode cL_acts 446 = .ok (.aload_n 0, 1) := by decide +kernel
theorem dL_acts_447 : decode cL_acts 447 = .ok (.iconst 2, 1) := by decide +kernel
theorem dL_acts_448 : decode cL_acts 448 = .ok (.invokevirtual 13, 3) := by decide +kernel
theorem dL_acts_451 : decode cL_acts 451 = .ok (.istore 6, 2) := by decide +kernel
theorem dL_acts_453 : decode cL_acts 453 = .ok (.iload_n 2, 1) := by decide +kernel
theorem dL_acts_454 : decode cL_acts 454 = .ok (.iconst 3, 1) := by decide +kernel
theorem dL_acts_455 : decode cL_acts 455 = .ok (.invokestatic 38, 3) := by decide +kernel
theorem dL_acts_458 : decode cL_acts 458 = .ok (.ifCond .le 7, 3) := by decide +kernel
theorem dL_acts_461 : decode cL_acts 461 = .ok (.iconst 0, 1) := by decide +kernel
theorem dL_acts_462 : decode cL_acts 462 = .ok (.goto 7, 3) := by decide +kernel
theorem dL_acts_465 : decode cL_acts 465 = .ok (.aload_n 0, 1) := by decide +kernel
theorem dL_acts_466 : decode cL_acts 466 = .ok (.invokevirtual 89, 3) := by decide +kernel
theorem dL_acts_469 : decode cL_acts 469 = .ok (.istore 7, 2) := by decide +kernel
theorem dL_acts_471 : decode cL_acts 471 = .ok (.iload 7, 2) := by decide +kernel
theorem dL_acts_473 : decode cL_acts 473 = .ok (.ifCond .lt 37, 3) := by decide +kernel
theorem dL_acts_476 : decode cL_acts 476 = .ok (.iload 7, 2) := by decide +kernel
theorem dL_acts_478 : decode cL_acts 478 = .ok (.iload 6, 2) := by decide +kernel
theorem dL_acts_480 : decode cL_acts 480 = .ok (.if_icmp .gt 30, 3) := by decide +kernel
theorem dL_acts_483 : decode cL_acts 483 = .ok (.aload_n 0, 1) := by decide +kernel
theorem dL_acts_484 : decode cL_acts 484 = .ok (.iconst 0, 1) := by decide +kernel
theorem dL_acts_485 : decode cL_acts 485 = .ok (.invokevirtual 13, 3) := by decide +kernel
theorem dL_acts_488 : decode cL_acts 488 = .ok (.iload 4, 2) := by decide +kernel
theorem dL_acts_490 : decode cL_acts 490 = .ok (.iload 7, 2) := by decide +kernel
theorem dL_acts_492 : decode cL_acts 492 = .ok (.isub, 1) := by decide +kernel
theorem dL_acts_493 : decode cL_acts 493 = .ok (.if_icmp .ne 17, 3) := by decide +kernel
theorem dL_acts_496 : decode cL_acts 496 = .ok (.aload_n 0, 1) := by decide +kernel
theorem dL_acts_497 : decode cL_acts 497 = .ok (.iconst 1, 1) := by decide +kernel
theorem dL_acts_498 : decode cL_acts 498 = .ok (.invokevirtual 13, 3) := by decide +kernel
theorem dL_acts_501 : decode cL_acts 501 = .ok (.iload 5, 2) := by decide +kernel
theorem dL_acts_503 : decode cL_acts 503 = .ok (.if_icmp .ne 7, 3) := by decide +kernel
theorem dL_acts_506 : decode cL_acts 506 = .ok (.iconst 1, 1) := by decide +kernel
theorem dL_acts_507 : decode cL_acts 507 = .ok (.goto 4, 3) := by decide +kernel
theorem dL_acts_510 : decode cL_acts 510 = .ok (.iconst 0, 1) := by decide +kernel
theorem dL_acts_511 : decode cL_acts 511 = .ok (.ireturn, 1) := by decide +kernel
theorem dL_acts_512 : decode cL_acts 512 = .ok (.iload_n 3, 1) := by decide +kernel
theorem dL_acts_513 : decode cL_acts 513 = .ok (.bipush 16, 2) := by decide +kernel
theorem dL_acts_515 : decode cL_acts 515 = .ok (.if_icmp .ge 89, 3) := by decide +kernel
theorem dL_acts_518 : decode cL_acts 518 = .ok (.iload_n 2, 1) := by decide +kernel
theorem dL_acts_519 : decode cL_acts 519 = .ok (.sipush 10002, 3) := by decide +kernel
theorem dL_acts_522 : decode cL_acts 522 = .ok (.invokestatic 38, 3) := by decide +kernel
theorem dL_acts_525 : decode cL_acts 525 = .ok (.iconst 1, 1) := by decide +kernel
theorem dL_acts_526 : decode cL_acts 526 = .ok (.isub, 1) := by decide +kernel
theorem dL_acts_527 : decode cL_acts 527 = .ok (.istore 5, 2) := by decide +kernel
theorem dL_acts_529 : decode cL_acts 529 = .ok (.iload 5, 2) := by decide +kernel
theorem dL_acts_531 : decode cL_acts 531 = .ok (.ifCond .lt 11, 3) := by decide +kernel
theorem dL_acts_534 : decode cL_acts 534 = .ok (.iload 5, 2) := by decide +kernel
theorem dL_acts_536 : decode cL_acts 536 = .ok (.sipush 10000, 3) := by decide +kernel
theorem dL_acts_539 : decode cL_acts 539 = .ok (.if_icmp .ne 7, 3) := by decide +kernel
theorem dL_acts_542 : decode cL_acts 542 = .ok (.iconst 1, 1) := by decide +kernel
theorem dL_acts_543 : decode cL_acts 543 = .ok (.goto 4, 3) := by decide +kernel
theorem dL_acts_546 : decode cL_acts 546 = .ok (.iconst 0, 1) := by decide +kernel
theorem dL_acts_547 : decode cL_acts 547 = .ok (.istore 6, 2) := by decide +kernel
theorem dL_acts_549 : decode cL_acts 549 = .ok (.aload_n 0, 1) := by decide +kernel
theorem dL_acts_550 : decode cL_acts 550 = .ok (.bipush 17, 2) := by decide +kernel
theorem dL_acts_552 : decode cL_acts 552 = .ok (.invokevirtual 13, 3) := by decide +kernel
theorem dL_acts_555 : decode cL_acts 555 = .ok (.istore 7, 2) := by decide +kernel
theorem dL_acts_557 : decode cL_acts 557 = .ok (.aload_n 0, 1) := by decide +kernel
theorem dL_acts_558 : decode cL_acts 558 = .ok (.iload 5, 2) := by decide +kernel
theorem dL_acts_560 : decode cL_acts 560 = .ok (.invokevirtual 92, 3) := by decide +kernel
theorem dL_acts_563 : decode cL_acts 563 = .ok (.iload 6, 2) := by decide +kernel
theorem dL_acts_565 : decode cL_acts 565 = .ok (.ifCond .eq 7, 3) := by decide +kernel
theorem dL_acts_568 : decode cL_acts 568 = .ok (.iconst (-1), 1) := by decide +kernel
theorem dL_acts_569 : decode cL_acts 569 = .ok (.goto 5, 3) := by decide +kernel
theorem dL_acts_572 : decode cL_acts 572 = .ok (.iload 7, 2) := by decide +kernel
theorem dL_acts_574 : decode cL_acts 574 = .ok (.if_icmp .ne 28, 3) := by decide +kernel
theorem dL_acts_577 : decode cL_acts 577 = .ok (.aload_n 0, 1) := by decide +kernel
theorem dL_acts_578 : decode cL_acts 578 = .ok (.bipush 17, 2) := by decide +kernel
theorem dL_acts_580 : decode cL_acts 580 = .ok (.invokevirtual 13, 3) := by decide +kernel
theorem dL_acts_583 : decode cL_acts 583 = .ok (.iload 6, 2) := by decide +kernel
theorem dL_acts_585 : decode cL_acts 585 = .ok (.ifCond .eq 8, 3) := by decide +kernel
theorem dL_acts_588 : decode cL_acts 588 = .ok (.iload 7, 2) := by decide +kernel
theorem dL_acts_590 : decode cL_acts 590 = .ok (.goto 5, 3) := by decide +kernel
theorem dL_acts_593 : decode cL_acts 593 = .ok (.iload 5, 2) := by decide +kernel
theorem dL_acts_595 : decode cL_acts 595 = .ok (.if_icmp .ne 7, 3) := by decide +kernel
theorem dL_acts_598 : decode cL_acts 598 = .ok (.iconst 1, 1) := by decide +kernel
theorem dL_acts_599 : decode cL_acts 599 = .ok (.goto 4, 3) := by decide +kernel
theorem dL_acts_602 : decode cL_acts 602 = .ok (.iconst 0, 1) := by decide +kernel
theorem dL_acts_603 : decode cL_acts 603 = .ok (.ireturn, 1) := by decide +kernel
theorem dL_acts_604 : decode cL_acts 604 = .ok (.iload_n 3, 1) := by decide +kernel
theorem dL_acts_605 : decode cL_acts 605 = .ok (.bipush 19, 2) := by decide +kernel
theorem dL_acts_607 : decode cL_acts 607 = .ok (.if_icmp .ge 185, 3) := by decide +kernel
theorem dL_acts_610 : decode cL_acts 610 = .ok (.iload_n 2, 1) := by decide +kernel
theorem dL_acts_611 : decode cL_acts 611 = .ok (.iconst 5, 1) := by decide +kernel
theorem dL_acts_612 : decode cL_acts 612 = .ok (.invokestatic 38, 3) := by decide +kernel
theorem dL_acts_615 : decode cL_acts 615 = .ok (.istore 5, 2) := by decide +kernel
theorem dL_acts_617 : decode cL_acts 617 = .ok (.iload_n 2, 1) := by decide +kernel
theorem dL_acts_618 : decode cL_acts 618 = .ok (.iconst 3, 1) := by decide +kernel
theorem dL_acts_619 : decode cL_acts 619 = .ok (.ishr, 1) := by decide +kernel
theorem dL_acts_620 : decode cL_acts 620 = .ok (.iload_n 2, 1) := by decide +kernel
theorem dL_acts_621 : decode cL_acts 621 = .ok (.bipush 12, 2) := by decide +kernel
theorem dL_acts_623 : decode cL_acts 623 = .ok (.ishr, 1) := by decide +kernel
theorem dL_acts_624 : decode cL_acts 624 = .ok (.iconst 2, 1) := by decide +kernel
theorem dL_acts_625 : decode cL_acts 625 = .ok (.invokestatic 38, 3) := by decide +kernel
theorem dL_acts_628 : decode cL_acts 628 = .ok (.ifCond .ne 9, 3) := by decide +kernel
theorem dL_acts_631 : decode cL_acts 631 = .ok (.sipush 203, 3) := by decide +kernel
theorem dL_acts_634 : decode cL_acts 634 = .ok (.goto 5, 3) := by decide +kernel
theorem dL_acts_637 : decode cL_acts 637 = .ok (.bipush 6, 2) := by decide +kernel
theorem dL_acts_639 : decode cL_acts 639 = .ok (.invokestatic 38, 3) := by decide +kernel
theorem dL_acts_642 : decode cL_acts 642 = .ok (.iconst 1, 1) := by decide +kernel
theorem dL_acts_643 : decode cL_acts 643 = .ok (.isub, 1) := by decide +kernel
theorem dL_acts_644 : decode cL_acts 644 = .ok (.istore 6, 2) := by decide +kernel
theorem dL_acts_646 : decode cL_acts 646 = .ok (.iload 5, 2) := by decide +kernel
theorem dL_acts_648 : decode cL_acts 648 = .ok (.iconst 4, 1) := by decide +kernel
theorem dL_acts_649 : decode cL_acts 649 = .ok (.if_icmp .eq 57, 3) := by decide +kernel
theorem dL_acts_652 : decode cL_acts 652 = .ok (.iload 6, 2) := by decide +kernel
theorem dL_acts_654 : decode cL_acts 654 = .ok (.iload 5, 2) := by decide +kernel
theorem dL_acts_656 : decode cL_acts 656 = .ok (.ifCond .ne 7, 3) := by decide +kernel
theorem dL_acts_659 : decode cL_acts 659 = .ok (.iconst 1, 1) := by decide +kernel
theorem dL_acts_660 : decode cL_acts 660 = .ok (.goto 15, 3) := by decide +kernel
theorem dL_acts_663 : decode cL_acts 663 = .ok (.iload 5, 2) := by decide +kernel
theorem dL_acts_665 : decode cL_acts 665 = .ok (.iconst 1, 1) := by decide +kernel
theorem dL_acts_666 : decode cL_acts 666 = .ok (.if_icmp .ne 8, 3) := by decide +kernel
theorem dL_acts_669 : decode cL_acts 669 = .ok (.bipush 10, 2) := by decide +kernel
theorem dL_acts_671 : decode cL_acts 671 = .ok (.goto 4, 3) := by decide +kernel
theorem dL_acts_674 : decode cL_acts 674 = .ok (.iconst 0, 1) := by decide +kernel
theorem dL_acts_675 : decode cL_acts 675 = .ok (.if_icmp .lt 31, 3) := by decide +kernel
theorem dL_acts_678 : decode cL_acts 678 = .ok (.iload 6, 2) := by decide +kernel
theorem dL_acts_680 : decode cL_acts 680 = .ok (.iload 5, 2) := by decide +kernel
theorem dL_acts_682 : decode cL_acts 682 = .ok (.iconst 1, 1) := by decide +kernel
theorem dL_acts_683 : decode cL_acts 683 = .ok (.if_icmp .ne 9, 3) := by decide +kernel
theorem dL_acts_686 : decode cL_acts 686 = .ok (.sipush 200, 3) := by decide +kernel
theorem dL_acts_689 : decode cL_acts 689 = .ok (.goto 14, 3) := by decide +kernel
theorem dL_acts_692 : decode cL_acts 692 = .ok (.iload 5, 2) := by decide +kernel
theorem dL_acts_694 : decode cL_acts 694 = .ok (.iconst 3, 1) := by decide +kernel
theorem dL_acts_695 : decode cL_acts 695 = .ok (.if_icmp .ne 7, 3) := by decide +kernel
theorem dL_acts_698 : decode cL_acts 698 = .ok (.iconst 3, 1) := by decide +kernel
theorem dL_acts_699 : decode cL_acts 699 = .ok (.goto 4, 3) := by decide +kernel
theorem dL_acts_702 : decode cL_acts 702 = .ok (.iconst 4, 1) := by decide +kernel
theorem dL_acts_703 : decode cL_acts 703 = .ok (.if_icmp .le 7, 3) := by decide +kernel
theorem dL_acts_706 : decode cL_acts 706 = .ok (.iconst 1, 1) := by decide +kernel
theorem dL_acts_707 : decode cL_acts 707 = .ok (.goto 4, 3) := by decide +kernel
theorem dL_acts_710 : decode cL_acts 710 = .ok (.iconst 0, 1) := by decide +kernel
theorem dL_acts_711 : decode cL_acts 711 = .ok (.istore 7, 2) := by decide +kernel
theorem dL_acts_713 : decode cL_acts 713 = .ok (.iload 5, 2) := by decide +kernel
theorem dL_acts_715 : decode cL_acts 715 = .ok (.iconst 4, 1) := by decide +kernel
theorem dL_acts_716 : decode cL_acts 716 = .ok (.if_icmp .ne 7, 3) := by decide +kernel
theorem dL_acts_719 : decode cL_acts 719 = .ok (.iconst 0, 1) := by decide +kernel
theorem dL_acts_720 : decode cL_acts 720 = .ok (.goto 12, 3) := by decide +kernel
theorem dL_acts_723 : decode cL_acts 723 = .ok (.aload_n 0, 1) := by decide +kernel
theorem dL_acts_724 : decode cL_acts 724 = .ok (.bipush 13, 2) := by decide +kernel
theorem dL_acts_726 : decode cL_acts 726 = .ok (.iload 5, 2) := by decide +kernel
theorem dL_acts_728 : decode cL_acts 728 = .ok (.iadd, 1) := by decide +kernel
theorem dL_acts_729 : decode cL_acts 729 = .ok (.invokevirtual 13, 3) := by decide +kernel
theorem dL_acts_732 : decode cL_acts 732 = .ok (.istore 8, 2) := by decide +kernel
theorem dL_acts_734 : decode cL_acts 734 = .ok (.aload_n 0, 1) := by decide +kernel
theorem dL_acts_735 : decode cL_acts 735 = .ok (.iload 5, 2) := by decide +kernel
theorem dL_acts_737 : decode cL_acts 737 = .ok (.iload 6, 2) := by decide +kernel
theorem dL_acts_739 : decode cL_acts 739 = .ok (.invokevirtual 95, 3) := by decide +kernel
theorem dL_acts_742 : decode cL_acts 742 = .ok (.iload 7, 2) := by decide +kernel
theorem dL_acts_744 : decode cL_acts 744 = .ok (.ifCond .eq 7, 3) := by decide +kernel
theorem dL_acts_747 : decode cL_acts 747 = .ok (.iconst (-1), 1) := by decide +kernel
theorem dL_acts_748 : decode cL_acts 748 = .ok (.goto 5, 3) := by decide +kernel
theorem dL_acts_751 : decode cL_acts 751 = .ok (.iload 8, 2) := by decide +kernel
theorem dL_acts_753 : decode cL_acts 753 = .ok (.if_icmp .ne 37, 3) := by decide +kernel
theorem dL_acts_756 : decode cL_acts 756 = .ok (.iload 5, 2) := by decide +kernel
theorem dL_acts_758 : decode cL_acts 758 = .ok (.iconst 4, 1) := by decide +kernel
theorem dL_acts_759 : decode cL_acts 759 = .ok (.if_icmp .eq 27, 3) := by decide +kernel
theorem dL_acts_762 : decode cL_acts 762 = .ok (.aload_n 0, 1) := by decide +kernel
theorem dL_acts_763 : decode cL_acts 763 = .ok (.bipush 13, 2) := by decide +kernel
theorem dL_acts_765 : decode cL_acts 765 = .ok (.iload 5, 2) := by decide +kernel
theorem dL_acts_767 : decode cL_acts 767 = .ok (.iadd, 1) := by decide +kernel
theorem dL_acts_768 : decode cL_acts 768 = .ok (.invokevirtual 13, 3) := by decide +kernel
theorem dL_acts_771 : decode cL_acts 771 = .ok (.iload 7, 2) := by decide +kernel
theorem dL_acts_773 : decode cL_acts 773 = .ok (.ifCond .eq 8, 3) := by decide +kernel
theorem dL_acts_776 : decode cL_acts 776 = .ok (.iload 8, 2) := by decide +kernel
theorem dL_acts_778 : decode cL_acts 778 = .ok (.goto 5, 3) := by decide +kernel
theorem dL_acts_781 : decode cL_acts 781 = .ok (.iload 6, 2) := by decide +kernel
theorem dL_acts_783 : decode cL_acts 783 = .ok (.if_icmp .ne 7, 3) := by decide +kernel
theorem dL_acts_786 : decode cL_acts 786 = .ok (.iconst 1, 1) := by decide +kernel
theorem dL_acts_787 : decode cL_acts 787 = .ok (.goto 4, 3) := by decide +kernel
theorem dL_acts_790 : decode cL_acts 790 = .ok (.iconst 0, 1) := by decide +kernel
theorem dL_acts_791 : decode cL_acts 791 = .ok (.ireturn, 1) := by decide +kernel
theorem dL_acts_792 : decode cL_acts 792 = .ok (.iload_n 3, 1) := by decide +kernel
theorem dL_acts_793 : decode cL_acts 793 = .ok (.bipush 23, 2) := by decide +kernel
theorem dL_acts_795 : decode cL_acts 795 = .ok (.if_icmp .ge 9, 3) := by decide +kernel
theorem dL_acts_798 : decode cL_acts 798 = .ok (.aload_n 0, 1) := by decide +kernel
theorem dL_acts_799 : decode cL_acts 799 = .ok (.iload_n 2, 1) := by decide +kernel
theorem dL_acts_800 : decode cL_acts 800 = .ok (.invokestatic 98, 3) := by decide +kernel
theorem dL_acts_803 : decode cL_acts 803 = .ok (.ireturn, 1) := by decide +kernel
theorem dL_acts_804 : decode cL_acts 804 = .ok (.iload_n 2, 1) := by decide +kernel
theorem dL_acts_805 : decode cL_acts 805 = .ok (.iconst 4, 1) := by decide +kernel
theorem dL_acts_806 : decode cL_acts 806 = .ok (.invokestatic 38, 3) := by decide +kernel
theorem dL_acts_809 : decode cL_acts 809 = .ok (.istore 5, 2) := by decide +kernel
theorem dL_acts_811 : decode cL_acts 811 = .ok (.aload_n 0, 1) := by decide +kernel
theorem dL_acts_812 : decode cL_acts 812 = .ok (.bipush 17, 2) := by decide +kernel
theorem dL_acts_814 : decode cL_acts 814 = .ok (.invokevirtual 13, 3) := by decide +kernel
theorem dL_acts_817 : decode cL_acts 817 = .ok (.istore 6, 2) := by decide +kernel
theorem dL_acts_819 : decode cL_acts 819 = .ok (.iload_n 2, 1) := by decide +kernel
theorem dL_acts_820 : decode cL_acts 820 = .ok (.iconst 3, 1) := by decide +kernel
theorem dL_acts_821 : decode cL_acts 821 = .ok (.ishr, 1) := by decide +kernel
theorem dL_acts_822 : decode cL_acts 822 = .ok (.iconst 2, 1) := by decide +kernel
theorem dL_acts_823 : decode cL_acts 823 = .ok (.invokestatic 38, 3) := by decide +kernel
theorem dL_acts_826 : decode cL_acts 826 = .ok (.ifCond .ne 7, 3) := by decide +kernel
theorem dL_acts_829 : decode cL_acts 829 = .ok (.iconst 0, 1) := by decide +kernel
theorem dL_acts_830 : decode cL_acts 830 = .ok (.goto 9, 3) := by decide +kernel
theorem dL_acts_833 : decode cL_acts 833 = .ok (.aload_n 0, 1) := by decide +kernel
theorem dL_acts_834 : decode cL_acts 834 = .ok (.iload 5, 2) := by decide +kernel
theorem dL_acts_836 : decode cL_acts 836 = .ok (.invokevirtual 101, 3) := by decide +kernel
theorem dL_acts_839 : decode cL_acts 839 = .ok (.istore 7, 2) := by decide +kernel
theorem dL_acts_841 : decode cL_acts 841 = .ok (.iload_n 2, 1) := by decide +kernel
theorem dL_acts_842 : decode cL_acts 842 = .ok (.iconst 3, 1) := by decide +kernel
theorem dL_acts_843 : decode cL_acts 843 = .ok (.ishr, 1) := by decide +kernel
theorem dL_acts_844 : decode cL_acts 844 = .ok (.iconst 2, 1) := by decide +kernel
theorem dL_acts_845 : decode cL_acts 845 = .ok (.invokestatic 38, 3) := by decide +kernel
theorem dL_acts_848 : decode cL_acts 848 = .ok (.ifCond .eq 114, 3) := by decide +kernel
theorem dL_acts_851 : decode cL_acts 851 = .ok (.iload 5, 2) := by decide +kernel
theorem dL_acts_853 : decode cL_acts 853 = .ok (.iconst 3, 1) := by decide +kernel
theorem dL_acts_854 : decode cL_acts 854 = .ok (.if_icmp .ne 12, 3) := by decide +kernel
theorem dL_acts_857 : decode cL_acts 857 = .ok (.iload 7, 2) := by decide +kernel
theorem dL_acts_859 : decode cL_acts 859 = .ok (.iconst (-1), 1) := by decide +kernel
theorem dL_acts_860 : decode cL_acts 860 = .ok (.if_icmp .ne 106, 3) := by decide +kernel
theorem dL_acts_863 : decode cL_acts 863 = .ok (.goto 99, 3) := by decide +kernel
theorem dL_acts_866 : decode cL_acts 866 = .ok (.iload 7, 2) := by decide +kernel
theorem dL_acts_868 : decode cL_acts 868 = .ok (.iload 5, 2) := by decide +kernel
theorem dL_acts_870 : decode cL_acts 870 = .ok (.ifCond .ne 7, 3) := by decide +kernel
theorem dL_acts_873 : decode cL_acts 873 = .ok (.iconst 1, 1) := by decide +kernel
theorem dL_acts_874 : decode cL_acts 874 = .ok (.goto 16, 3) := by decide +kernel
theorem dL_acts_877 : decode cL_acts 877 = .ok (.iload 5, 2) := by decide +kernel
theorem dL_acts_879 : decode cL_acts 879 = .ok (.iconst 1, 1) := by decide +kernel
theorem dL_acts_880 : decode cL_acts 880 = .ok (.if_icmp .ne 8, 3) := by decide +kernel
theorem dL_acts_883 : decode cL_acts 883 = .ok (.bipush 11, 2) := by decide +kernel
theorem dL_acts_885 : decode cL_acts 885 = .ok (.goto 5, 3) := by decide +kernel
theorem dL_acts_888 : decode cL_acts 888 = .ok (.bipush 16, 2) := by decide +kernel
theorem dL_acts_890 : decode cL_acts 890 = .ok (.if_icmp .ne 76, 3) := by decide +kernel
theorem dL_acts_893 : decode cL_acts 893 = .ok (.aload_n 0, 1) := by decide +kernel
theorem dL_acts_894 : decode cL_acts 894 = .ok (.iconst 0, 1) := by decide +kernel
theorem dL_acts_895 : decode cL_acts 895 = .ok (.invokevirtual 13, 3) := by decide +kernel
theorem dL_acts_898 : decode cL_acts 898 = .ok (.iload 7, 2) := by decide +kernel
theorem dL_acts_900 : decode cL_acts 900 = .ok (.if_icmp .ne 66, 3) := by decide +kernel
theorem dL_acts_903 : decode cL_acts 903 = .ok (.aload_n 0, 1) := by decide +kernel
theorem dL_acts_904 : decode cL_acts 904 = .ok (.iconst 1, 1) := by decide +kernel
theorem dL_acts_905 : decode cL_acts 905 = .ok (.invokevirtual 13, 3) := by decide +kernel
theorem dL_acts_908 : decode cL_acts 908 = .ok (.iload 7, 2) := by decide +kernel
theorem dL_acts_910 : decode cL_acts 910 = .ok (.if_icmp .ne 56, 3) := by decide +kernel
theorem dL_acts_913 : decode cL_acts 913 = .ok (.aload_n 0, 1) := by decide +kernel
theorem dL_acts_914 : decode cL_acts 914 = .ok (.bipush 7, 2) := by decide +kernel
theorem dL_acts_916 : decode cL_acts 916 = .ok (.invokevirtual 13, 3) := by decide +kernel
theorem dL_acts_919 : decode cL_acts 919 = .ok (.aload_n 0, 1) := by decide +kernel
theorem dL_acts_920 : decode cL_acts 920 = .ok (.bipush 8, 2) := by decide +kernel
theorem dL_acts_922 : decode cL_acts 922 = .ok (.invokevirtual 13, 3) := by decide +kernel
theorem dL_acts_925 : decode cL_acts 925 = .ok (.iadd, 1) := by decide +kernel
theorem dL_acts_926 : decode cL_acts 926 = .ok (.aload_n 0, 1) := by decide +kernel
theorem dL_acts_927 : decode cL_acts 927 = .ok (.bipush 9, 2) := by decide +kernel
theorem dL_acts_929 : decode cL_acts 929 = .ok (.invokevirtual 13, 3) := by decide +kernel
theorem dL_acts_932 : decode cL_acts 932 = .ok (.iadd, 1) := by decide +kernel
theorem dL_acts_933 : decode cL_acts 933 = .ok (.aload_n 0, 1) := by decide +kernel
theorem dL_acts_934 : decode cL_acts 934 = .ok (.bipush 10, 2) := by decide +kernel
theorem dL_acts_936 : decode cL_acts 936 = .ok (.invokevirtual 13, 3) := by decide +kernel
theorem dL_acts_939 : decode cL_acts 939 = .ok (.iadd, 1) := by decide +kernel
theorem dL_acts_940 : decode cL_acts 940 = .ok (.ifCond .ne 26, 3) := by decide +kernel
theorem dL_acts_943 : decode cL_acts 943 = .ok (.aload_n 0, 1) := by decide +kernel
theorem dL_acts_944 : decode cL_acts 944 = .ok (.bipush 17, 2) := by decide +kernel
theorem dL_acts_946 : decode cL_acts 946 = .ok (.invokevirtual 13, 3) := by decide +kernel
theorem dL_acts_949 : decode cL_acts 949 = .ok (.iload 6, 2) := by decide +kernel
theorem dL_acts_951 : decode cL_acts 951 = .ok (.if_icmp .ne 15, 3) := by decide +kernel
theorem dL_acts_954 : decode cL_acts 954 = .ok (.aload_n 0, 1) := by decide +kernel
theorem dL_acts_955 : decode cL_acts 955 = .ok (.iconst 0, 1) := by decide +kernel
theorem dL_acts_956 : decode cL_acts 956 = .ok (.invokevirtual 31, 3) := by decide +kernel
theorem dL_acts_959 : decode cL_acts 959 = .ok (.ifCond .ne 7, 3) := by decide +kernel
theorem dL_acts_962 : decode cL_acts 962 = .ok (.iconst 1, 1) := by decide +kernel
theorem dL_acts_963 : decode cL_acts 963 = .ok (.goto 4, 3) := by decide +kernel
theorem dL_acts_966 : decode cL_acts 966 = .ok (.iconst 0, 1) := by decide +kernel
theorem dL_acts_967 : decode cL_acts 967 = .ok (.ireturn, 1) := by decide +kernel
set_option maxRecDepth 20000 in
theorem ggL_law_X7_init : GoodIn wsL_law wsX7_init := goodIn_r _ [5, 6, 7, 8, 9, 10, 11, 12, 13, 14, 15, 16, 17, 18, 19, 20, 21, 22, 23, 24, 25, 26, 27, 28, 29, 30, 31, 32, 33, 34, 35, 36, 37, 38, 39, 40, 41, 42, 43, 44, 45, 46, 47, 48, 49, 50, 51, 52, 53, 54, 55, 56, 57, 58, 59, 60, 61, 62, 63, 64, 65, 66, 67, 68, 69, 70, 71, 72, 73, 74, 75, 76, 77, 78, 79, 80, 81, 82, 83, 84, 85, 86, 87, 88, 89, 90, 91, 92, 93, 94, 95, 96, 97, 98, 99, 100, 101, 102, 103, 104, 105, 106, 107, 108, 109, 110, 111, 112, 113, 114, 115, 116, 117, 118, 119, 120, 121, 122, 123, 124, 536, 537, 538, 539, 540, 541, 542, 543, 544, 545, 546, 522, 523, 524, 525, 526, 527, 528, 529, 530, 531, 532, 533, 534, 535, 547, 548, 549, 550, 551, 552, 553, 554, 555, 556, 557, 558, 559, 560, 561, 562, 563, 564, 565, 566, 567, 568, 569] (by decide +kernel) (by decide +kernel)
set_option maxRecDepth 20000 in
theorem gL_law_X7_init : GoodIn wsL_law (wsX7_init) := ggL_law_X7_init
set_option maxRecDepth 20000 in
theorem ggL_law_L_holds : GoodIn wsL_law wsL_holds := goodIn_r _ [128, 129, 130, 131, 2, 132, 12, 35, 36, 133, 134, 135, 11, 136, 50, 45, 137, 119, 116, 120, 111, 112, 106, 113, 114, 115, 117, 118, 138, 139, 140, 141, 142, 143, 144, 145, 48, 146, 147, 148, 149, 150, 151, 152, 153, 154, 155, 156, 31, 157, 158, 159, 30, 160, 84, 85, 83, 161, 162, 163, 164, 165, 166, 167, 168, 169, 170, 171, 172, 173, 174, 175, 176, 177, 178, 179, 180, 181, 182, 183, 184, 185, 186, 187, 49, 188, 189, 190, 191, 27, 192, 193, 194, 26, 195, 79, 196, 197, 198, 199, 46, 200, 201, 202, 203, 204, 73, 74, 75, 76, 77, 78, 205, 206, 207, 208, 209, 210, 211, 212, 213, 214, 215, 216, 217, 218, 219, 220, 221, 222, 223, 224, 225, 226, 227, 228, 229, 230, 231, 232, 233, 234, 235, 236, 237, 238, 239, 47, 240, 241, 242, 243, 244, 105, 107, 245, 246, 247, 248, 249, 250, 251, 252, 253, 254, 255, 256, 257, 258, 259, 260, 261, 262, 263, 264, 265, 266, 267, 268, 269, 270, 271, 272, 273, 274, 275, 276, 277, 278, 279, 280, 281, 522, 523, 524, 525, 526, 527, 528, 529, 530, 531, 532, 533, 534, 535, 536, 537, 538, 539, 540, 541, 542, 543, 544, 545, 546, 564, 565, 566, 567, 568, 569, 561, 562, 563, 554, 555, 556, 557, 558, 559, 560] (by decide +kernel) (by decide +kernel)
set_option maxRecDepth 20000 in
theorem gL_law_L_holds : GoodIn wsL_law (va_wsS RL 105 yL_holds wsL_holds) := goodIn_app (goodIn_of _ (by decide +kernel)) ggL_law_L_holds
set_option maxRecDepth 20000 in
theorem ggL_law_L_would : GoodIn wsL_law wsL_would := goodIn_r _ [284, 285, 286, 127, 287, 288, 289, 290, 291, 2, 292, 12, 19, 293, 294, 295, 11, 296, 297, 298, 106, 299, 300, 165, 166, 142, 143, 144, 145, 48, 301, 302, 303, 304, 18, 305, 59, 60, 61, 62, 63, 306, 185, 186, 187, 49, 307, 308, 309, 310, 311, 147, 148, 149, 150, 151, 152, 312, 313, 314, 315, 316, 317, 318, 319, 320, 321, 322, 323, 324, 325, 326, 327, 328, 329, 330, 331, 332, 333, 334, 335, 336, 337, 162, 30, 163, 164, 167, 168, 169, 170, 171, 226, 227, 228, 229, 27, 230, 173, 174, 175, 50, 192, 193, 194, 26, 195, 79, 196, 197, 198, 199, 46, 200, 201, 202, 203, 204, 73, 74, 75, 76, 77, 78, 205, 206, 207, 208, 209, 210, 211, 212, 231, 232, 233, 234, 45, 235, 180, 181, 182, 183, 31, 157, 158, 159, 160, 84, 85, 83, 161, 172, 236, 237, 238, 239, 47, 129, 130, 131, 132, 35, 36, 133, 134, 135, 136, 137, 119, 116, 120, 111, 112, 113, 114, 115, 117, 118, 138, 139, 140, 141, 146, 153, 154, 155, 156, 176, 177, 178, 179, 184, 188, 189, 190, 191, 213, 214, 215, 216, 217, 218, 219, 220, 221, 222, 223, 224, 225, 338, 339, 340, 341, 14, 23, 342, 343, 344, 345, 273, 346, 347, 348, 349, 350, 351, 352, 353, 51, 52, 53, 54, 55, 354, 355, 356, 22, 357, 68, 69, 358, 359, 360, 361, 362, 363, 100, 101, 102, 103, 104, 105, 107, 364, 365, 366, 367, 368, 267, 268, 269, 270, 271, 272, 240, 241, 242, 243, 244, 245, 246, 247, 248, 249, 250, 251, 252, 253, 258, 259, 260, 261, 262, 263, 264, 265, 266, 274, 275, 276, 277, 522, 523, 524, 525, 526, 527, 528, 529, 530, 531, 532, 533, 534, 535, 547, 548, 549, 550, 551, 536, 537, 538, 539, 540, 541, 542, 543, 544, 545, 546, 554, 555, 556, 557, 558, 559, 560, 561, 562, 563, 564, 565, 566, 567, 568, 569, 552, 553] (by decide +kernel) (by decide +kernel)
set_option maxRecDepth 20000 in
theorem gL_law_L_would : GoodIn wsL_law (va_wsS RL 109 yL_would wsL_would) := goodIn_app (goodIn_of _ (by decide +kernel)) ggL_law_L_would
set_option maxRecDepth 20000 in
theorem ggL_law_X7_undo : GoodIn wsL_law wsX7_undo := goodIn_r _ [372, 36, 12, 15, 346, 347, 348, 11, 349, 45, 350, 351, 352, 353, 46, 47, 48, 49, 50, 51, 52, 53, 54, 55, 522, 523, 524, 525, 526, 527, 528, 529, 530, 531, 532, 533, 534, 535, 536, 537, 538, 539, 540, 541, 542, 543, 544, 545, 546] (by decide +kernel) (by decide +kernel)
set_option maxRecDepth 20000 in
theorem gL_law_X7_undo : GoodIn wsL_law (wsV RL 112 RX7 yX7_undo wsX7_undo) := goodIn_app (goodIn_of _ (by decide +kernel)) ggL_law_X7_undo
set_option maxRecDepth 20000 in
theorem ggL_law_X7_restore : GoodIn wsL_law wsX7_restore := goodIn_r _ [376, 37, 12, 13, 377, 378, 379, 2, 380, 36, 15, 381, 382, 383, 384, 346, 347, 348, 11, 349, 45, 350, 351, 352, 353, 46, 47, 48, 49, 50, 51, 52, 53, 54, 55, 522, 523, 524, 525, 526, 527, 528, 529, 530, 531, 532, 533, 534, 535, 536, 537, 538, 539, 540, 541, 542, 543, 544, 545, 546] (by decide +kernel) (by decide +kernel)
set_option maxRecDepth 20000 in
theorem gL_law_X7_restore : GoodIn wsL_law (wsV RL 115 RX7 yX7_restore wsX7_restore) := goodIn_app (goodIn_of _ (by decide +kernel)) ggL_law_X7_restore
set_option maxRecDepth 20000 in
theorem ggL_law_X7_save : GoodIn wsL_law wsX7_save := goodIn_r _ [388, 13, 12, 37, 346, 347, 348, 11, 349, 45, 350, 351, 352, 353, 46, 47, 48, 49, 50, 51, 52, 53, 54, 55, 522, 523, 524, 525, 526, 527, 528, 529, 530, 531, 532, 533, 534, 535, 536, 537, 538, 539, 540, 541, 542, 543, 544, 545, 546] (by decide +kernel) (by decide +kernel)
set_option maxRecDepth 20000 in
theorem gL_law_X7_save : GoodIn wsL_law (wsV RL 118 RX7 yX7_save wsX7_save) := goodIn_app (goodIn_of _ (by decide +kernel)) ggL_law_X7_save
set_option maxRecDepth 20000 in
theorem ggL_law_L_look : GoodIn wsL_law wsL_look := goodIn_r _ [391, 392, 393, 129, 130, 131, 2, 132, 12, 35, 36, 133, 134, 135, 11, 136, 50, 45, 137, 119, 116, 120, 111, 112, 106, 113, 114, 115, 117, 118, 138, 139, 140, 141, 142, 143, 144, 145, 48, 146, 147, 148, 149, 150, 151, 152, 153, 154, 155, 156, 31, 157, 158, 159, 30, 160, 84, 85, 83, 161, 162, 163, 164, 165, 166, 167, 168, 169, 170, 171, 172, 173, 174, 175, 176, 177, 178, 179, 180, 181, 182, 183, 184, 185, 186, 187, 49, 188, 189, 190, 191, 27, 192, 193, 194, 26, 195, 79, 196, 197, 198, 199, 46, 200, 201, 202, 203, 204, 73, 74, 75, 76, 77, 78, 205, 206, 207, 208, 209, 210, 211, 212, 213, 214, 215, 216, 217, 218, 219, 220, 221, 222, 223, 224, 225, 226, 227, 228, 229, 230, 231, 232, 233, 234, 235, 236, 237, 238, 239, 47, 522, 523, 524, 525, 526, 527, 528, 529, 530, 531, 532, 533, 534, 535, 536, 537, 538, 539, 540, 541, 542, 543, 544, 545, 546, 564, 565, 566, 567, 568, 569, 561, 562, 563, 554, 555, 556, 557, 558, 559, 560] (by decide +kernel) (by decide +kernel)
set_option maxRecDepth 20000 in
theorem gL_law_L_look : GoodIn wsL_law (va_wsS RL 64 yL_look wsL_look) := goodIn_app (goodIn_of _ (by decide +kernel)) ggL_law_L_look
set_option maxRecDepth 20000 in
theorem ggL_law_L_lot : GoodIn wsL_law wsL_lot := goodIn_r _ [396, 397] (by decide +kernel) (by decide +kernel)
set_option maxRecDepth 20000 in
theorem gL_law_L_lot : GoodIn wsL_law (va_wsS RL 121 yL_lot wsL_lot) := goodIn_app (goodIn_of _ (by decide +kernel)) ggL_law_L_lot
set_option maxRecDepth 20000 in
theorem ggL_law_X7_count : GoodIn wsL_law wsX7_count := goodIn_r _ [132, 12, 35, 36, 133, 134, 135, 11, 136, 50, 45, 137, 119, 116, 120, 111, 112, 106, 113, 114, 115, 117, 118, 138, 139, 140, 141, 142, 143, 144, 145, 48, 146, 147, 148, 149, 150, 151, 152, 153, 154, 155, 2, 156, 31, 157, 158, 159, 30, 160, 84, 85, 83, 161, 162, 163, 164, 165, 166, 167, 168, 169, 170, 171, 172, 173, 174, 175, 176, 177, 178, 179, 180, 181, 182, 183, 184, 185, 186, 187, 49, 188, 189, 190, 191, 27, 192, 193, 194, 26, 195, 79, 196, 197, 198, 199, 46, 200, 201, 202, 203, 204, 73, 74, 75, 76, 77, 78, 205, 206, 207, 208, 209, 210, 211, 212, 213, 214, 215, 216, 217, 218, 219, 220, 221, 222, 223, 224, 225, 522, 523, 524, 525, 526, 527, 528, 529, 530, 531, 532, 533, 534, 535, 536, 537, 538, 539, 540, 541, 542, 543, 544, 545, 546, 564, 565, 566, 567, 568, 569, 561, 562, 563, 554, 555, 556, 557, 558, 559, 560] (by decide +kernel) (by decide +kernel)
set_option maxRecDepth 20000 in
theorem gL_law_X7_count : GoodIn wsL_law (wsV RL 13 RX7 yX7_count wsX7_count) := goodIn_app (goodIn_of _ (by decide +kernel)) ggL_law_X7_count
set_option maxRecDepth 20000 in
theorem ggL_law_L_acts : GoodIn wsL_law wsL_acts := goodIn_r _ [400, 285, 286, 127, 287, 288, 129, 130, 131, 2, 132, 12, 35, 36, 133, 134, 135, 11, 136, 50, 45, 137, 119, 116, 120, 111, 112, 106, 113, 114, 115, 117, 118, 138, 139, 140, 141, 142, 143, 144, 145, 48, 146, 147, 148, 149, 150, 151, 152, 153, 154, 155, 156, 31, 157, 158, 159, 30, 160, 84, 85, 83, 161, 162, 163, 164, 165, 166, 167, 168, 169, 170, 171, 172, 173, 174, 175, 176, 177, 178, 179, 180, 181, 182, 183, 184, 185, 186, 187, 49, 188, 189, 190, 191, 27, 192, 193, 194, 26, 195, 79, 196, 197, 198, 199, 46, 200, 201, 202, 203, 204, 73, 74, 75, 76, 77, 78, 205, 206, 207, 208, 209, 210, 211, 212, 213, 214, 215, 216, 217, 218, 219, 220, 221, 222, 223, 224, 225, 289, 290, 291, 292, 19, 293, 294, 295, 296, 297, 298, 299, 300, 301, 302, 303, 304, 18, 305, 59, 60, 61, 62, 63, 306, 307, 308, 309, 310, 311, 312, 313, 314, 315, 316, 317, 318, 319, 320, 321, 322, 323, 324, 325, 326, 327, 328, 329, 330, 331, 401, 402, 403, 404, 377, 378, 379, 380, 15, 381, 382, 383, 384, 346, 347, 348, 349, 350, 351, 352, 353, 47, 51, 52, 53, 54, 55, 405, 406, 407, 408, 409, 410, 411, 412, 413, 121, 122, 123, 124, 104, 105, 107, 100, 101, 102, 103, 414, 415, 416, 417, 418, 419, 420, 421, 422, 423, 424, 425, 426, 427, 226, 227, 228, 229, 230, 231, 232, 233, 234, 235, 236, 237, 238, 239, 428, 429, 430, 431, 23, 342, 343, 344, 345, 273, 354, 355, 356, 22, 357, 68, 69, 358, 359, 360, 361, 362, 363, 432, 433, 434, 435, 436, 437, 438, 439, 440, 441, 442, 443, 444, 445, 446, 447, 448, 449, 450, 451, 452, 453, 454, 455, 456, 457, 458, 389, 390, 391, 392, 393, 459, 460, 461, 462, 38, 39, 40, 463, 464, 465, 466, 467, 468, 469, 470, 471, 472, 34, 473, 91, 474, 475, 476, 477, 478, 479, 480, 481, 90, 482, 483, 484, 485, 486, 487, 488, 489, 490, 491, 492, 493, 494, 495, 496, 497, 498, 499, 500, 501, 502, 503, 504, 505, 506, 507, 508, 509, 92, 510, 511, 512, 513, 93, 94, 95, 514, 515, 516, 517, 518, 519, 520, 521, 96, 97, 98, 99, 108, 109, 110, 258, 259, 260, 261, 262, 263, 264, 265, 266, 267, 268, 269, 270, 271, 272, 274, 275, 276, 277, 522, 523, 524, 525, 526, 527, 528, 529, 530, 531, 532, 533, 534, 535, 536, 537, 538, 539, 540, 541, 542, 543, 544, 545, 546, 564, 565, 566, 567, 568, 569, 561, 562, 563, 554, 555, 556, 557, 558, 559, 560, 547, 548, 549, 550, 551, 552, 553] (by decide +kernel) (by decide +kernel)
set_option maxRecDepth 20000 in
theorem gL_law_L_acts : GoodIn wsL_law (va_wsS RL 124 yL_acts wsL_acts) := goodIn_app (goodIn_of _ (by decide +kernel)) ggL_law_L_acts
set_option maxRecDepth 20000 in
theorem ggL_law_L_low : GoodIn wsL_law wsL_low := goodIn_r _ [287, 288] (by decide +kernel) (by decide +kernel)
set_option maxRecDepth 20000 in
theorem gL_law_L_low : GoodIn wsL_law (va_wsS RL 38 yL_low wsL_low) := goodIn_app (goodIn_of _ (by decide +kernel)) ggL_law_L_low
