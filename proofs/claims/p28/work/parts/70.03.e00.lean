theorem dX7_letWalk_0 : decode cX7_letWalk 0 = .ok (.aload_n 0, 1) := by decide +kernel
theorem dX7_letWalk_1 : decode cX7_letWalk 1 = .ok (.getfield 29, 3) := by decide +kernel
theorem dX7_letWalk_4 : decode cX7_letWalk 4 = .ok (.aload_n 0, 1) := by decide +kernel
theorem dX7_letWalk_5 : decode cX7_letWalk 5 = .ok (.getfield 12, 3) := by decide +kernel
theorem dX7_letWalk_8 : decode cX7_letWalk 8 = .ok (.iload_n 1, 1) := by decide +kernel
theorem dX7_letWalk_9 : decode cX7_letWalk 9 = .ok (.invokestatic 249, 3) := by decide +kernel
theorem dX7_letWalk_12 : decode cX7_letWalk 12 = .ok (.invokevirtual 252, 3) := by decide +kernel
theorem dX7_letWalk_15 : decode cX7_letWalk 15 = .ok (.aload_n 0, 1) := by decide +kernel
theorem dX7_letWalk_16 : decode cX7_letWalk 16 = .ok (.getfield 12, 3) := by decide +kernel
theorem dX7_letWalk_19 : decode cX7_letWalk 19 = .ok (.aload_n 0, 1) := by decide +kernel
theorem dX7_letWalk_20 : decode cX7_letWalk 20 = .ok (.getfield 29, 3) := by decide +kernel
theorem dX7_letWalk_23 : decode cX7_letWalk 23 = .ok (.invokevirtual 276, 3) := by decide +kernel
theorem dX7_letWalk_26 : decode cX7_letWalk 26 = .ok (.aload_n 0, 1) := by decide +kernel
theorem dX7_letWalk_27 : decode cX7_letWalk 27 = .ok (.getfield 29, 3) := by decide +kernel
theorem dX7_letWalk_30 : decode cX7_letWalk 30 = .ok (.invokevirtual 256, 3) := by decide +kernel
theorem dX7_letWalk_33 : decode cX7_letWalk 33 = .ok (.ireturn, 1) := by decide +kernel
set_option maxRecDepth 20000 in
theorem ggX7_dropSticks_X7_nextLot : GoodIn wsX7_dropSticks wsX7_nextLot := goodIn_r _ [6] (by decide +kernel) (by decide +kernel)
set_option maxRecDepth 20000 in
theorem gX7_dropSticks_X7_nextLot : GoodIn wsX7_dropSticks (va_wsS RX7 280 yX7_nextLot wsX7_nextLot) := goodIn_app (goodIn_of _ (by decide +kernel)) ggX7_dropSticks_X7_nextLot
set_option maxRecDepth 20000 in
theorem ggX7_dropSticks_X4_refusalToGo : GoodIn wsX7_dropSticks wsX4_refusalToGo := goodIn_r _ [11, 12, 13, 14, 15, 16, 17, 18, 19, 20, 21, 10, 22, 23, 116, 117, 118, 119, 120, 121, 122, 123, 124, 125, 126] (by decide +kernel) (by decide +kernel)
set_option maxRecDepth 20000 in
theorem gX7_dropSticks_X4_refusalToGo : GoodIn wsX7_dropSticks (wsV RX7 88 RX4 yX4_refusalToGo wsX4_refusalToGo) := goodIn_app (goodIn_of _ (by decide +kernel)) ggX7_dropSticks_X4_refusalToGo
set_option maxRecDepth 20000 in
theorem ggX7_dropSticks_X4_loseAtOnce : GoodIn wsX7_dropSticks wsX4_loseAtOnce := goodIn_r _ [27, 28, 29, 116, 117, 118, 119, 120, 121, 122, 123, 124, 125, 126] (by decide +kernel) (by decide +kernel)
set_option maxRecDepth 20000 in
theorem gX7_dropSticks_X4_loseAtOnce : GoodIn wsX7_dropSticks (wsV RX7 283 RX4 yX4_loseAtOnce wsX4_loseAtOnce) := goodIn_app (goodIn_of _ (by decide +kernel)) ggX7_dropSticks_X4_loseAtOnce
set_option maxRecDepth 20000 in
theorem ggX7_dropSticks_X7_letWalk : GoodIn wsX7_dropSticks wsX7_letWalk := goodIn_r _ [33, 2, 1, 34, 17, 14, 18, 35, 36, 37, 38, 39, 40, 41, 42, 43, 44, 45, 46, 47, 10, 48, 49, 50, 51, 52, 53, 54, 55, 56, 57, 58, 59, 60, 19, 20, 21, 22, 23, 61, 62, 63, 64, 4, 5, 6, 65, 66, 67, 68, 69, 70, 71, 72, 73, 74, 75, 28, 76, 29, 77, 78, 79, 80, 81, 82, 83, 84, 85, 86, 87, 88, 89, 90, 91, 92, 93, 94, 95, 96, 97, 98, 99, 100, 102, 103, 104, 105, 106, 107, 108, 109, 110, 111, 112, 113, 114, 115, 127, 128, 129, 130, 131, 116, 117, 118, 119, 120, 121, 122, 123, 124, 125, 126] (by decide +kernel) (by decide +kernel)
set_option maxRecDepth 20000 in
theorem gX7_dropSticks_X7_letWalk : GoodIn wsX7_dropSticks (wsV RX7 91 RX7 yX7_letWalk wsX7_letWalk) := goodIn_app (goodIn_of _ (by decide +kernel)) ggX7_dropSticks_X7_letWalk
set_option maxRecDepth 20000 in
theorem ggX7_dropSticks_X6_sticks : GoodIn wsX7_dropSticks wsX6_sticks := goodIn_r _ [80, 44, 127, 128, 129, 130, 131] (by decide +kernel) (by decide +kernel)
set_option maxRecDepth 20000 in
theorem gX7_dropSticks_X6_sticks : GoodIn wsX7_dropSticks (wsV RX7 286 RX6 yX6_sticks wsX6_sticks) := goodIn_app (goodIn_of _ (by decide +kernel)) ggX7_dropSticks_X6_sticks
theorem dX7_dropSticks_0 : decode cX7_dropSticks 0 = .ok (.aload_n 0, 1) := by decide +kernel
theorem dX7_dropSticks_1 : decode cX7_dropSticks 1 = .ok (.getfield 12, 3) := by decide +kernel
theorem dX7_dropSticks_4 : decode cX7_dropSticks 4 = .ok (.aload_n 0, 1) := by decide +kernel
theorem dX7_dropSticks_5 : decode cX7_dropSticks 5 = .ok (.getfield 12, 3) := by decide +kernel
theorem dX7_dropSticks_8 : decode cX7_dropSticks 8 = .ok (.getfield 85, 3) := by decide +kernel
theorem dX7_dropSticks_11 : decode cX7_dropSticks 11 = .ok (.invokestatic 280, 3) := by decide +kernel
theorem dX7_dropSticks_14 : decode cX7_dropSticks 14 = .ok (.putfield 85, 3) := by decide +kernel
theorem dX7_dropSticks_17 : decode cX7_dropSticks 17 = .ok (.aload_n 0, 1) := by decide +kernel
theorem dX7_dropSticks_18 : decode cX7_dropSticks 18 = .ok (.getfield 12, 3) := by decide +kernel
theorem dX7_dropSticks_21 : decode cX7_dropSticks 21 = .ok (.getfield 85, 3) := by decide +kernel
theorem dX7_dropSticks_24 : decode cX7_dropSticks 24 = .ok (.bipush 40, 2) := by decide +kernel
theorem dX7_dropSticks_26 : decode cX7_dropSticks 26 = .ok (.irem, 1) := by decide +kernel
theorem dX7_dropSticks_27 : decode cX7_dropSticks 27 = .ok (.istore_n 1, 1) := by decide +kernel
theorem dX7_dropSticks_28 : decode cX7_dropSticks 28 = .ok (.aload_n 0, 1) := by decide +kernel
theorem dX7_dropSticks_29 : decode cX7_dropSticks 29 = .ok (.getfield 12, 3) := by decide +kernel
theorem dX7_dropSticks_32 : decode cX7_dropSticks 32 = .ok (.iload_n 1, 1) := by decide +kernel
theorem dX7_dropSticks_33 : decode cX7_dropSticks 33 = .ok (.invokevirtual 88, 3) := by decide +kernel
theorem dX7_dropSticks_36 : decode cX7_dropSticks 36 = .ok (.ifCond .eq 12, 3) := by decide +kernel
theorem dX7_dropSticks_39 : decode cX7_dropSticks 39 = .ok (.aload_n 0, 1) := by decide +kernel
theorem dX7_dropSticks_40 : decode cX7_dropSticks 40 = .ok (.getfield 12, 3) := by decide +kernel
theorem dX7_dropSticks_43 : decode cX7_dropSticks 43 = .ok (.invokevirtual 283, 3) := by decide +kernel
theorem dX7_dropSticks_46 : decode cX7_dropSticks 46 = .ok (.iconst 0, 1) := by decide +kernel
theorem dX7_dropSticks_47 : decode cX7_dropSticks 47 = .ok (.ireturn, 1) := by decide +kernel
theorem dX7_dropSticks_48 : decode cX7_dropSticks 48 = .ok (.aload_n 0, 1) := by decide +kernel
theorem dX7_dropSticks_49 : decode cX7_dropSticks 49 = .ok (.iload_n 1, 1) := by decide +kernel
theorem dX7_dropSticks_50 : decode cX7_dropSticks 50 = .ok (.invokevirtual 91, 3) := by decide +kernel
theorem dX7_dropSticks_53 : decode cX7_dropSticks 53 = .ok (.pop, 1) := by decide +kernel
theorem dX7_dropSticks_54 : decode cX7_dropSticks 54 = .ok (.aload_n 0, 1) := by decide +kernel
theorem dX7_dropSticks_55 : decode cX7_dropSticks 55 = .ok (.getfield 29, 3) := by decide +kernel
theorem dX7_dropSticks_58 : decode cX7_dropSticks 58 = .ok (.invokevirtual 286, 3) := by decide +kernel
theorem dX7_dropSticks_61 : decode cX7_dropSticks 61 = .ok (.ireturn, 1) := by decide +kernel
set_option maxRecDepth 20000 in
theorem ggX7_answerOfDeed_X0_dropTips : GoodIn wsX7_answerOfDeed wsX0_dropTips := goodIn_r _ [7, 8, 9, 10, 11, 12, 13, 14, 15, 16, 17, 18, 19, 20, 21, 22, 23, 24, 25, 26, 27, 28, 29, 30, 31, 32, 33, 34, 35, 36, 37, 141, 142, 143, 144, 145, 146, 147, 148, 149, 150, 151, 152, 153] (by decide +kernel) (by decide +kernel)
set_option maxRecDepth 20000 in
theorem gX7_answerOfDeed_X0_dropTips : GoodIn wsX7_answerOfDeed (wsV RX7 105 RX0 yX0_dropTips wsX0_dropTips) := goodIn_app (goodIn_of _ (by decide +kernel)) ggX7_answerOfDeed_X0_dropTips
set_option maxRecDepth 20000 in
theorem ggX7_answerOfDeed_X4_refusalToGo : GoodIn wsX7_answerOfDeed wsX4_refusalToGo := goodIn_r _ [41, 42, 43, 36, 44, 45, 46, 47, 48, 49, 50, 13, 51, 33, 141, 142, 143, 144, 145, 146, 147, 148, 149, 150, 151] (by decide +kernel) (by decide +kernel)
set_option maxRecDepth 20000 in
theorem gX7_answerOfDeed_X4_refusalToGo : GoodIn wsX7_answerOfDeed (wsV RX7 88 RX4 yX4_refusalToGo wsX4_refusalToGo) := goodIn_app (goodIn_of _ (by decide +kernel)) ggX7_answerOfDeed_X4_refusalToGo
set_option maxRecDepth 20000 in
theorem ggX7_answerOfDeed_X4_refusalToBreak : GoodIn wsX7_answerOfDeed wsX4_refusalToBreak := goodIn_r _ [55, 16, 17, 18, 13, 19, 20, 56, 11, 12, 14, 15, 141, 142, 143, 144, 145, 146, 147, 148, 149, 150, 151] (by decide +kernel) (by decide +kernel)
set_option maxRecDepth 20000 in
theorem gX7_answerOfDeed_X4_refusalToBreak : GoodIn wsX7_answerOfDeed (wsV RX7 98 RX4 yX4_refusalToBreak wsX4_refusalToBreak) := goodIn_app (goodIn_of _ (by decide +kernel)) ggX7_answerOfDeed_X4_refusalToBreak
set_option maxRecDepth 20000 in
theorem ggX7_answerOfDeed_X7_letWalk : GoodIn wsX7_answerOfDeed wsX7_letWalk := goodIn_r _ [61, 62, 2, 63, 46, 36, 47, 64, 65, 66, 67, 68, 69, 70, 71, 72, 73, 74, 75, 76, 13, 77, 78, 79, 80, 81, 82, 83, 84, 85, 86, 87, 88, 89, 48, 49, 50, 51, 33, 90, 91, 92, 93, 94, 60, 95, 96, 97, 98, 99, 100, 101, 102, 103, 104, 105, 106, 107, 108, 109, 110, 111, 112, 113, 114, 115, 116, 117, 20, 26, 15, 27, 34, 35, 37, 29, 30, 31, 32, 118, 119, 120, 121, 122, 127, 128, 129, 130, 131, 132, 133, 134, 135, 136, 137, 138, 139, 140, 154, 155, 156, 157, 158, 141, 142, 143, 144, 145, 146, 147, 148, 149, 150, 151] (by decide +kernel) (by decide +kernel)
set_option maxRecDepth 20000 in
theorem gX7_answerOfDeed_X7_letWalk : GoodIn wsX7_answerOfDeed (wsV RX7 91 RX7 yX7_letWalk wsX7_letWalk) := goodIn_app (goodIn_of _ (by decide +kernel)) ggX7_answerOfDeed_X7_letWalk
set_option maxRecDepth 20000 in
theorem ggX7_answerOfDeed_X0_dropTree : GoodIn wsX7_answerOfDeed wsX0_dropTree := goodIn_r _ [126, 8, 9, 10, 11, 12, 13, 14, 15, 16, 17, 18, 19, 20, 21, 22, 23, 24, 25, 26, 27, 28, 29, 30, 31, 32, 33, 34, 35, 36, 37, 141, 142, 143, 144, 145, 146, 147, 148, 149, 150, 151, 152, 153] (by decide +kernel) (by decide +kernel)
set_option maxRecDepth 20000 in
theorem gX7_answerOfDeed_X0_dropTree : GoodIn wsX7_answerOfDeed (wsV RX7 101 RX0 yX0_dropTree wsX0_dropTree) := goodIn_app (goodIn_of _ (by decide +kernel)) ggX7_answerOfDeed_X0_dropTree
theorem dX7_answerOfDeed_0 : decode cX7_answerOfDeed 0 = .ok (.iload_n 1, 1) := by decide +kernel
theorem dX7_answerOfDeed_1 : decode cX7_answerOfDeed 1 = .ok (.bipush 119, 2) := by decide +kernel
theorem dX7_answerOfDeed_3 : decode cX7_answerOfDeed 3 = .ok (.if_icmp .ne 15, 3) := by decide +kernel
theorem dX7_answerOfDeed_6 : decode cX7_answerOfDeed 6 = .ok (.aload_n 0, 1) := by decide +kernel
theorem dX7_answerOfDeed_7 : decode cX7_answerOfDeed 7 = .ok (.getfield 36, 3) := by decide +kernel
theorem dX7_answerOfDeed_10 : decode cX7_answerOfDeed 10 = .ok (.aload_n 0, 1) := by decide +kernel
theorem dX7_answerOfDeed_11 : decode cX7_answerOfDeed 11 = .ok (.getfield 12, 3) := by decide +kernel
theorem dX7_answerOfDeed_14 : decode cX7_answerOfDeed 14 = .ok (.invokevirtual 105, 3) := by decide +kernel
theorem dX7_answerOfDeed_17 : decode cX7_answerOfDeed 17 = .ok (.ireturn, 1) := by decide +kernel
theorem dX7_answerOfDeed_18 : decode cX7_answerOfDeed 18 = .ok (.iload_n 1, 1) := by decide +kernel
theorem dX7_answerOfDeed_19 : decode cX7_answerOfDeed 19 = .ok (.bipush 103, 2) := by decide +kernel
theorem dX7_answerOfDeed_21 : decode cX7_answerOfDeed 21 = .ok (.if_icmp .ne 14, 3) := by decide +kernel
theorem dX7_answerOfDeed_24 : decode cX7_answerOfDeed 24 = .ok (.aload_n 0, 1) := by decide +kernel
theorem dX7_answerOfDeed_25 : decode cX7_answerOfDeed 25 = .ok (.getfield 12, 3) := by decide +kernel
theorem dX7_answerOfDeed_28 : decode cX7_answerOfDeed 28 = .ok (.iload_n 2, 1) := by decide +kernel
theorem dX7_answerOfDeed_29 : decode cX7_answerOfDeed 29 = .ok (.invokevirtual 88, 3) := by decide +kernel
theorem dX7_answerOfDeed_32 : decode cX7_answerOfDeed 32 = .ok (.goto 11, 3) := by decide +kernel
theorem dX7_answerOfDeed_35 : decode cX7_answerOfDeed 35 = .ok (.aload_n 0, 1) := by decide +kernel
theorem dX7_answerOfDeed_36 : decode cX7_answerOfDeed 36 = .ok (.getfield 12, 3) := by decide +kernel
theorem dX7_answerOfDeed_39 : decode cX7_answerOfDeed 39 = .ok (.iload_n 2, 1) := by decide +kernel
theorem dX7_answerOfDeed_40 : decode cX7_answerOfDeed 40 = .ok (.invokevirtual 98, 3) := by decide +kernel
theorem dX7_answerOfDeed_43 : decode cX7_answerOfDeed 43 = .ok (.istore_n 3, 1) := by decide +kernel
theorem dX7_answerOfDeed_44 : decode cX7_answerOfDeed 44 = .ok (.iload_n 3, 1) := by decide +kernel
theorem dX7_answerOfDeed_45 : decode cX7_answerOfDeed 45 = .ok (.ifCond .eq 5, 3) := by decide +kernel
theorem dX7_answerOfDeed_48 : decode cX7_answerOfDeed 48 = .ok (.iload_n 3, 1) := by decide +kernel
theorem dX7_answerOfDeed_49 : decode cX7_answerOfDeed 49 = .ok (.ireturn, 1) := by decide +kernel
theorem dX7_answerOfDeed_50 : decode cX7_answerOfDeed 50 = .ok (.iload_n 1, 1) := by decide +kernel
theorem dX7_answerOfDeed_51 : decode cX7_answerOfDeed 51 = .ok (.bipush 103, 2) := by decide +kernel
theorem dX7_answerOfDeed_53 : decode cX7_answerOfDeed 53 = .ok (.if_icmp .ne 11, 3) := by decide +kernel
theorem dX7_answerOfDeed_56 : decode cX7_answerOfDeed 56 = .ok (.aload_n 0, 1) := by decide +kernel
theorem dX7_answerOfDeed_57 : decode cX7_answerOfDeed 57 = .ok (.iload_n 2, 1) := by decide +kernel
theorem dX7_answerOfDeed_58 : decode cX7_answerOfDeed 58 = .ok (.invokevirtual 91, 3) := by decide +kernel
theorem dX7_answerOfDeed_61 : decode cX7_answerOfDeed 61 = .ok (.goto 15, 3) := by decide +kernel
theorem dX7_answerOfDeed_64 : decode cX7_answerOfDeed 64 = .ok (.aload_n 0, 1) := by decide +kernel
theorem dX7_answerOfDeed_65 : decode cX7_answerOfDeed 65 = .ok (.getfield 36, 3) := by decide +kernel
theorem dX7_answerOfDeed_68 : decode cX7_answerOfDeed 68 = .ok (.aload_n 0, 1) := by decide +kernel
theorem dX7_answerOfDeed_69 : decode cX7_answerOfDeed 69 = .ok (.getfield 12, 3) := by decide +kernel
theorem dX7_answerOfDeed_72 : decode cX7_answerOfDeed 72 = .ok (.iload_n 2, 1) := by decide +kernel
theorem dX7_answerOfDeed_73 : decode cX7_answerOfDeed 73 = .ok (.invokevirtual 101, 3) := by decide +kernel
theorem dX7_answerOfDeed_76 : decode cX7_answerOfDeed 76 = .ok (.ireturn, 1) := by decide +kernel
set_option maxRecDepth 20000 in
theorem ggX7_catchOf_X3_read : GoodIn wsX7_catchOf wsX3_read := goodIn_r _ [7, 8, 9, 10, 11, 12, 6, 13, 14, 15, 16, 17, 18, 19, 20, 21, 22, 23, 24, 25, 26, 27, 28, 29, 30, 31, 32, 33, 34, 52, 53, 54, 55, 56, 57, 58, 59, 60, 61, 62, 49, 50, 51] (by decide +kernel) (by decide +kernel)
set_option maxRecDepth 20000 in
theorem gX7_catchOf_X3_read : GoodIn wsX7_catchOf (wsV RX7 269 RX3 yX3_read wsX3_read) := goodIn_app (goodIn_of _ (by decide +kernel)) ggX7_catchOf_X3_read
theorem dX7_catchOf_0 : decode cX7_catchOf 0 = .ok (.aload_n 0, 1) := by decide +kernel
theorem dX7_catchOf_1 : decode cX7_catchOf 1 = .ok (.getfield 50, 3) := by decide +kernel
theorem dX7_catchOf_4 : decode cX7_catchOf 4 = .ok (.aload_n 0, 1) := by decide +kernel
theorem dX7_catchOf_5 : decode cX7_catchOf 5 = .ok (.getfield 12, 3) := by decide +kernel
theorem dX7_catchOf_8 : decode cX7_catchOf 8 = .ok (.invokevirtual 269, 3) := by decide +kernel
theorem dX7_catchOf_11 : decode cX7_catchOf 11 = .ok (.aload_n 0, 1) := by decide +kernel
theorem dX7_catchOf_12 : decode cX7_catchOf 12 = .ok (.getfield 50, 3) := by decide +kernel
theorem dX7_catchOf_15 : decode cX7_catchOf 15 = .ok (.getfield 289, 3) := by decide +kernel
theorem dX7_catchOf_18 : decode cX7_catchOf 18 = .ok (.iload_n 1, 1) := by decide +kernel
theorem dX7_catchOf_19 : decode cX7_catchOf 19 = .ok (.iaload, 1) := by decide +kernel
theorem dX7_catchOf_20 : decode cX7_catchOf 20 = .ok (.ireturn, 1) := by decide +kernel
set_option maxRecDepth 20000 in
theorem ggX7_bestCatcher_X3_read : GoodIn wsX7_bestCatcher wsX3_read := goodIn_r _ [7, 8, 9, 10, 11, 12, 6, 13, 14, 15, 16, 17, 18, 19, 20, 21, 22, 23, 24, 25, 26, 27, 28, 29, 30, 31, 32, 33, 34, 53, 54, 55, 56, 57, 58, 59, 60, 61, 62, 63, 64, 65, 66] (by decide +kernel) (by decide +kernel)
set_option maxRecDepth 20000 in
theorem gX7_bestCatcher_X3_read : GoodIn wsX7_bestCatcher (wsV RX7 269 RX3 yX3_read wsX3_read) := goodIn_app (goodIn_of _ (by decide +kernel)) ggX7_bestCatcher_X3_read
set_option maxRecDepth 20000 in
theorem ggX7_bestCatcher_X3_bestGrain : GoodIn wsX7_bestCatcher wsX3_bestGrain := goodIn_r _ [38, 8, 10, 64, 65, 66] (by decide +kernel) (by decide +kernel)
set_option maxRecDepth 20000 in
theorem gX7_bestCatcher_X3_bestGrain : GoodIn wsX7_bestCatcher (wsV RX7 292 RX3 yX3_bestGrain wsX3_bestGrain) := goodIn_app (goodIn_of _ (by decide +kernel)) ggX7_bestCatcher_X3_bestGrain
theorem dX7_bestCatcher_0 : decode cX7_bestCatcher 0 = .ok (.aload_n 0, 1) := by decide +kernel
theorem dX7_bestCatcher_1 : decode cX7_bestCatcher 1 = .ok (.getfield 50, 3) := by decide +kernel
theorem dX7_bestCatcher_4 : decode cX7_bestCatcher 4 = .ok (.aload_n 0, 1) := by decide +kernel
theorem dX7_bestCatcher_5 : decode cX7_bestCatcher 5 = .ok (.getfield 12, 3) := by decide +kernel
theorem dX7_bestCatcher_8 : decode cX7_bestCatcher 8 = .ok (.invokevirtual 269, 3) := by decide +kernel
theorem dX7_bestCatcher_11 : decode cX7_bestCatcher 11 = .ok (.aload_n 0, 1) := by decide +kernel
theorem dX7_bestCatcher_12 : decode cX7_bestCatcher 12 = .ok (.getfield 50, 3) := by decide +kernel
theorem dX7_bestCatcher_15 : decode cX7_bestCatcher 15 = .ok (.invokevirtual 292, 3) := by decide +kernel
theorem dX7_bestCatcher_18 : decode cX7_bestCatcher 18 = .ok (.ireturn, 1) := by decide +kernel
set_option maxRecDepth 20000 in
theorem ggX7_countOfTrees_X5_read : GoodIn wsX7_countOfTrees wsX5_read := goodIn_r _ [7, 8, 9, 10, 11, 12, 13, 14, 15, 16, 17, 18, 19, 20, 21, 22, 6, 23, 24, 25, 26, 27, 28, 29, 30, 31, 32, 33, 34, 35, 36, 37, 68, 69, 70, 71, 72, 73, 74, 75, 76, 77, 78, 79, 80, 81, 82, 83, 84, 85] (by decide +kernel) (by decide +kernel)
set_option maxRecDepth 20000 in
theorem gX7_countOfTrees_X5_read : GoodIn wsX7_countOfTrees (wsV RX7 172 RX5 yX5_read wsX5_read) := goodIn_app (goodIn_of _ (by decide +kernel)) ggX7_countOfTrees_X5_read
set_option maxRecDepth 20000 in
theorem ggX7_countOfTrees_X5_rootGrains : GoodIn wsX7_countOfTrees wsX5_rootGrains := goodIn_r _ [41, 8, 25, 79, 80, 81, 82, 83, 84, 85] (by decide +kernel) (by decide +kernel)
set_option maxRecDepth 20000 in
theorem gX7_countOfTrees_X5_rootGrains : GoodIn wsX7_countOfTrees (wsV RX7 295 RX5 yX5_rootGrains wsX5_rootGrains) := goodIn_app (goodIn_of _ (by decide +kernel)) ggX7_countOfTrees_X5_rootGrains
set_option maxRecDepth 20000 in
theorem ggX7_countOfTrees_X5_grainsHeldBy : GoodIn wsX7_countOfTrees wsX5_grainsHeldBy := goodIn_r _ [45, 8, 26, 79, 80, 81, 82, 83, 84, 85] (by decide +kernel) (by decide +kernel)
set_option maxRecDepth 20000 in
theorem gX7_countOfTrees_X5_grainsHeldBy : GoodIn wsX7_countOfTrees (wsV RX7 298 RX5 yX5_grainsHeldBy wsX5_grainsHeldBy) := goodIn_app (goodIn_of _ (by decide +kernel)) ggX7_countOfTrees_X5_grainsHeldBy
set_option maxRecDepth 20000 in
theorem ggX7_countOfTrees_X5_deepest : GoodIn wsX7_countOfTrees wsX5_deepest := goodIn_r _ [49, 8, 24, 50, 51, 52, 53, 79, 80, 81, 82, 83, 84, 85] (by decide +kernel) (by decide +kernel)
set_option maxRecDepth 20000 in
theorem gX7_countOfTrees_X5_deepest : GoodIn wsX7_countOfTrees (wsV RX7 266 RX5 yX5_deepest wsX5_deepest) := goodIn_app (goodIn_of _ (by decide +kernel)) ggX7_countOfTrees_X5_deepest
theorem dX7_countOfTrees_0 : decode cX7_countOfTrees 0 = .ok (.aload_n 0, 1) := by decide +kernel
theorem dX7_countOfTrees_1 : decode cX7_countOfTrees 1 = .ok (.getfield 43, 3) := by decide +kernel
theorem dX7_countOfTrees_4 : decode cX7_countOfTrees 4 = .ok (.aload_n 0, 1) := by decide +kernel
theorem dX7_countOfTrees_5 : decode cX7_countOfTrees 5 = .ok (.getfield 12, 3) := by decide +kernel
theorem dX7_countOfTrees_8 : decode cX7_countOfTrees 8 = .ok (.invokevirtual 172, 3) := by decide +kernel
theorem dX7_countOfTrees_11 : decode cX7_countOfTrees 11 = .ok (.iload_n 1, 1) := by decide +kernel
theorem dX7_countOfTrees_12 : decode cX7_countOfTrees 12 = .ok (.tableswitch 56 1 3 #[28, 36, 46], 28) := by decide +kernel
theorem dX7_countOfTrees_40 : decode cX7_countOfTrees 40 = .ok (.aload_n 0, 1) := by decide +kernel
theorem dX7_countOfTrees_41 : decode cX7_countOfTrees 41 = .ok (.getfield 43, 3) := by decide +kernel
theorem dX7_countOfTrees_44 : decode cX7_countOfTrees 44 = .ok (.invokevirtual 295, 3) := by decide +kernel
theorem dX7_countOfTrees_47 : decode cX7_countOfTrees 47 = .ok (.ireturn, 1) := by decide +kernel
theorem dX7_countOfTrees_48 : decode cX7_countOfTrees 48 = .ok (.aload_n 0, 1) := by decide +kernel
theorem dX7_countOfTrees_49 : decode cX7_countOfTrees 49 = .ok (.getfield 43, 3) := by decide +kernel
theorem dX7_countOfTrees_52 : decode cX7_countOfTrees 52 = .ok (.iconst 0, 1) := by decide +kernel
theorem dX7_countOfTrees_53 : decode cX7_countOfTrees 53 = .ok (.iconst 0, 1) := by decide +kernel
theorem dX7_countOfTrees_54 : decode cX7_countOfTrees 54 = .ok (.invokevirtual 298, 3) := by decide +kernel
theorem dX7_countOfTrees_57 : decode cX7_countOfTrees 57 = .ok (.ireturn, 1) := by decide +kernel
theorem dX7_countOfTrees_58 : decode cX7_countOfTrees 58 = .ok (.aload_n 0, 1) := by decide +kernel
theorem dX7_countOfTrees_59 : decode cX7_countOfTrees 59 = .ok (.getfield 43, 3) := by decide +kernel
theorem dX7_countOfTrees_62 : decode cX7_countOfTrees 62 = .ok (.iconst 2, 1) := by decide +kernel
theorem dX7_countOfTrees_63 : decode cX7_countOfTrees 63 = .ok (.iconst 4, 1) := by decide +kernel
theorem dX7_countOfTrees_64 : decode cX7_countOfTrees 64 = .ok (.invokevirtual 298, 3) := by decide +kernel
theorem dX7_countOfTrees_67 : decode cX7_countOfTrees 67 = .ok (.ireturn, 1) := by decide +kernel
theorem dX7_countOfTrees_68 : decode cX7_countOfTrees 68 = .ok (.aload_n 0, 1) := by decide +kernel
theorem dX7_countOfTrees_69 : decode cX7_countOfTrees 69 = .ok (.getfield 43, 3) := by decide +kernel
theorem dX7_countOfTrees_72 : decode cX7_countOfTrees 72 = .ok (.invokevirtual 266, 3) := by decide +kernel
theorem dX7_countOfTrees_75 : decode cX7_countOfTrees 75 = .ok (.ireturn, 1) := by decide +kernel
theorem dX7_isSettingValue_0 : decode cX7_isSettingValue 0 = .ok (.iload_n 0, 1) := by decide +kernel
theorem dX7_isSettingValue_1 : decode cX7_isSettingValue 1 = .ok (.tableswitch 96 0 3 #[31, 47, 66, 81], 31) := by decide +kernel
theorem dX7_isSettingValue_32 : decode cX7_isSettingValue 32 = .ok (.iload_n 1, 1) := by decide +kernel
theorem dX7_isSettingValue_33 : decode cX7_isSettingValue 33 = .ok (.iconst 1, 1) := by decide +kernel
theorem dX7_isSettingValue_34 : decode cX7_isSettingValue 34 = .ok (.if_icmp .lt 12, 3) := by decide +kernel
theorem dX7_isSettingValue_37 : decode cX7_isSettingValue 37 = .ok (.iload_n 1, 1) := by decide +kernel
theorem dX7_isSettingValue_38 : decode cX7_isSettingValue 38 = .ok (.iconst 4, 1) := by decide +kernel
theorem dX7_isSettingValue_39 : decode cX7_isSettingValue 39 = .ok (.if_icmp .gt 7, 3) := by decide +kernel
theorem dX7_isSettingValue_42 : decode cX7_isSettingValue 42 = .ok (.iconst 1, 1) := by decide +kernel
theorem dX7_isSettingValue_43 : decode cX7_isSettingValue 43 = .ok (.goto 4, 3) := by decide +kernel
theorem dX7_isSettingValue_46 : decode cX7_isSettingValue 46 = .ok (.iconst 0, 1) := by decide +kernel
theorem dX7_isSettingValue_47 : decode cX7_isSettingValue 47 = .ok (.ireturn, 1) := by decide +kernel
theorem dX7_isSettingValue_48 : decode cX7_isSettingValue 48 = .ok (.iload_n 1, 1) := by decide +kernel
theorem dX7_isSettingValue_49 : decode cX7_isSettingValue 49 = .ok (.bipush 10, 2) := by decide +kernel
theorem dX7_isSettingValue_51 : decode cX7_isSettingValue 51 = .ok (.if_icmp .lt 14, 3) := by decide +kernel
theorem dX7_isSettingValue_54 : decode cX7_isSettingValue 54 = .ok (.iload_n 1, 1) := by decide +kernel
theorem dX7_isSettingValue_55 : decode cX7_isSettingValue 55 = .ok (.sipush 200, 3) := by decide +kernel
theorem dX7_isSettingValue_58 : decode cX7_isSettingValue 58 = .ok (.if_icmp .gt 7, 3) := by decide +kernel
theorem dX7_isSettingValue_61 : decode cX7_isSettingValue 61 = .ok (.iconst 1, 1) := by decide +kernel
theorem dX7_isSettingValue_62 : decode cX7_isSettingValue 62 = .ok (.goto 4, 3) := by decide +kernel
theorem dX7_isSettingValue_65 : decode cX7_isSettingValue 65 = .ok (.iconst 0, 1) := by decide +kernel
theorem dX7_isSettingValue_66 : decode cX7_isSettingValue 66 = .ok (.ireturn, 1) := by decide +kernel
theorem dX7_isSettingValue_67 : decode cX7_isSettingValue 67 = .ok (.iload_n 1, 1) := by decide +kernel
theorem dX7_isSettingValue_68 : decode cX7_isSettingValue 68 = .ok (.ifCond .lt 12, 3) := by decide +kernel
theorem dX7_isSettingValue_71 : decode cX7_isSettingValue 71 = .ok (.iload_n 1, 1) := by decide +kernel
theorem dX7_isSettingValue_72 : decode cX7_isSettingValue 72 = .ok (.iconst 4, 1) := by decide +kernel
theorem dX7_isSettingValue_73 : decode cX7_isSettingValue 73 = .ok (.if_icmp .gt 7, 3) := by decide +kernel
theorem dX7_isSettingValue_76 : decode cX7_isSettingValue 76 = .ok (.iconst 1, 1) := by decide +kernel
theorem dX7_isSettingValue_77 : decode cX7_isSettingValue 77 = .ok (.goto 4, 3) := by decide +kernel
theorem dX7_isSettingValue_80 : decode cX7_isSettingValue 80 = .ok (.iconst 0, 1) := by decide +kernel
theorem dX7_isSettingValue_81 : decode cX7_isSettingValue 81 = .ok (.ireturn, 1) := by decide +kernel
theorem dX7_isSettingValue_82 : decode cX7_isSettingValue 82 = .ok (.iload_n 1, 1) := by decide +kernel
theorem dX7_isSettingValue_83 : decode cX7_isSettingValue 83 = .ok (.ifCond .lt 12, 3) := by decide +kernel
theorem dX7_isSettingValue_86 : decode cX7_isSettingValue 86 = .ok (.iload_n 1, 1) := by decide +kernel
theorem dX7_isSettingValue_87 : decode cX7_isSettingValue 87 = .ok (.iconst 4, 1) := by decide +kernel
theorem dX7_isSettingValue_88 : decode cX7_isSettingValue 88 = .ok (.if_icmp .ge 7, 3) := by decide +kernel
theorem dX7_isSettingValue_91 : decode cX7_isSettingValue 91 = .ok (.iconst 1, 1) := by decide +kernel
theorem dX7_isSettingValue_92 : decode cX7_isSettingValue 92 = .ok (.goto 4, 3) := by decide +kernel
theorem dX7_isSettingValue_95 : decode cX7_isSettingValue 95 = .ok (.iconst 0, 1) := by decide +kernel
theorem dX7_isSettingValue_96 : decode cX7_isSettingValue 96 = .ok (.ireturn, 1) := by decide +kernel
theorem dX7_isSettingValue_97 : decode cX7_isSettingValue 97 = .ok (.iconst 0, 1) := by decide +kernel
theorem dX7_isSettingValue_98 : decode cX7_isSettingValue 98 = .ok (.ireturn, 1) := by decide +kernel
theorem dX7_nextLot_0 : decode cX7_nextLot 0 = .ok (.sipush 421, 3) := by decide +kernel
theorem dX7_nextLot_3 : decode cX7_nextLot 3 = .ok (.iload_n 0, 1) := by decide +kernel
theorem dX7_nextLot_4 : decode cX7_nextLot 4 = .ok (.imul, 1) := by decide +kernel
theorem dX7_nextLot_5 : decode cX7_nextLot 5 = .ok (.sipush 1663, 3) := by decide +kernel
theorem dX7_nextLot_8 : decode cX7_nextLot 8 = .ok (.iadd, 1) := by decide +kernel
theorem dX7_nextLot_9 : decode cX7_nextLot 9 = .ok (.sipush 10000, 3) := by decide +kernel
theorem dX7_nextLot_12 : decode cX7_nextLot 12 = .ok (.irem, 1) := by decide +kernel
theorem dX7_nextLot_13 : decode cX7_nextLot 13 = .ok (.ireturn, 1) := by decide +kernel
theorem dJ9_abs_0f7a4_0 : decode cJ9_abs_0f7a4 0 = .ok (.iload_n 0, 1) := by decide +kernel
theorem dJ9_abs_0f7a4_1 : decode cJ9_abs_0f7a4 1 = .ok (.ifCond .ge 8, 3) := by decide +kernel
theorem dJ9_abs_0f7a4_4 : decode cJ9_abs_0f7a4 4 = .ok (.iload_n 0, 1) := by decide +kernel
theorem dJ9_abs_0f7a4_5 : decode cJ9_abs_0f7a4 5 = .ok (.ineg, 1) := by decide +kernel
theorem dJ9_abs_0f7a4_6 : decode cJ9_abs_0f7a4 6 = .ok (.goto 4, 3) := by decide +kernel
theorem dJ9_abs_0f7a4_9 : decode cJ9_abs_0f7a4 9 = .ok (.iload_n 0, 1) := by decide +kernel
theorem dJ9_abs_0f7a4_10 : decode cJ9_abs_0f7a4 10 = .ok (.ireturn, 1) := by decide +kernel
theorem dJ9_max_7cf53_0 : decode cJ9_max_7cf53 0 = .ok (.iload_n 0, 1) := by decide +kernel
theorem dJ9_max_7cf53_1 : decode cJ9_max_7cf53 1 = .ok (.iload_n 1, 1) := by decide +kernel
theorem dJ9_max_7cf53_2 : decode cJ9_max_7cf53 2 = .ok (.if_icmp .lt 7, 3) := by decide +kernel
theorem dJ9_max_7cf53_5 : decode cJ9_max_7cf53 5 = .ok (.iload_n 0, 1) := by decide +kernel
theorem dJ9_max_7cf53_6 : decode cJ9_max_7cf53 6 = .ok (.goto 4, 3) := by decide +kernel
theorem dJ9_max_7cf53_9 : decode cJ9_max_7cf53 9 = .ok (.iload_n 1, 1) := by decide +kernel
theorem dJ9_max_7cf53_10 : decode cJ9_max_7cf53 10 = .ok (.ireturn, 1) := by decide +kernel
theorem dJ9_min_7cf53_0 : decode cJ9_min_7cf53 0 = .ok (.iload_n 0, 1) := by decide +kernel
theorem dJ9_min_7cf53_1 : decode cJ9_min_7cf53 1 = .ok (.iload_n 1, 1) := by decide +kernel
theorem dJ9_min_7cf53_2 : decode cJ9_min_7cf53 2 = .ok (.if_icmp .gt 7, 3) := by decide +kernel
theorem dJ9_min_7cf53_5 : decode cJ9_min_7cf53 5 = .ok (.iload_n 0, 1) := by decide +kernel
theorem dJ9_min_7cf53_6 : decode cJ9_min_7cf53 6 = .ok (.goto 4, 3) := by decide +kernel
theorem dJ9_min_7cf53_9 : decode cJ9_min_7cf53 9 = .ok (.iload_n 1, 1) := by decide +kernel
theorem dJ9_min_7cf53_10 : decode cJ9_min_7cf53 10 = .ok (.ireturn, 1) := by decide +kernel
theorem dL_lot_0 : decode cL_lot 0 = .ok (.iload_n 1, 1) := by decide +kernel
theorem dL_lot_1 : decode cL_lot 1 = .ok (.aload_n 0, 1) := by decide +kernel
theorem dL_lot_2 : decode cL_lot 2 = .ok (.arraylength, 1) := by decide +kernel
theorem dL_lot_3 : decode cL_lot 3 = .ok (.if_icmp .ge 9, 3) := by decide +kernel
theorem dL_lot_6 : decode cL_lot 6 = .ok (.aload_n 0, 1) := by decide +kernel
theorem dL_lot_7 : decode cL_lot 7 = .ok (.iload_n 1, 1) := by decide +kernel
theorem dL_lot_8 : decode cL_lot 8 = .ok (.iaload, 1) := by decide +kernel
theorem dL_lot_9 : decode cL_lot 9 = .ok (.goto 15, 3) := by decide +kernel
theorem dL_lot_12 : decode cL_lot 12 = .ok (.ldc 7, 2) := by decide +kernel
theorem dL_lot_14 : decode cL_lot 14 = .ok (.iload_n 1, 1) := by decide +kernel
theorem dL_lot_15 : decode cL_lot 15 = .ok (.sipush 4373, 3) := by decide +kernel
theorem dL_lot_18 : decode cL_lot 18 = .ok (.iadd, 1) := by decide +kernel
theorem dL_lot_19 : decode cL_lot 19 = .ok (.imul, 1) := by decide +kernel
theorem dL_lot_20 : decode cL_lot 20 = .ok (.sipush 4133, 3) := by decide +kernel
theorem dL_lot_23 : decode cL_lot 23 = .ok (.iadd, 1) := by decide +kernel
theorem dL_lot_24 : decode cL_lot 24 = .ok (.ireturn, 1) := by decide +kernel
theorem dL_low_0 : decode cL_low 0 = .ok (.iload_n 0, 1) := by decide +kernel
theorem dL_low_1 : decode cL_low 1 = .ok (.ldc 8, 2) := by decide +kernel
theorem dL_low_3 : decode cL_low 3 = .ok (.iand, 1) := by decide +kernel
theorem dL_low_4 : decode cL_low 4 = .ok (.iload_n 1, 1) := by decide +kernel
theorem dL_low_5 : decode cL_low 5 = .ok (.irem, 1) := by decide +kernel
theorem dL_low_6 : decode cL_low 6 = .ok (.ireturn, 1) := by decide +kernel
set_option maxRecDepth 20000 in
theorem ggL_look_X7_count : GoodIn wsL_look wsX7_count := goodIn_r _ [7, 8, 9, 10, 11, 12, 13, 14, 15, 16, 17, 18, 19, 20, 21, 22, 23, 24, 25, 26, 27, 28, 29, 30, 31, 32, 33, 34, 35, 36, 37, 38, 39, 40, 41, 42, 43, 44, 45, 46, 47, 48, 6, 49, 50, 51, 52, 53, 54, 55, 56, 57, 58, 59, 60, 61, 62, 63, 64, 65, 66, 67, 68, 69, 70, 71, 72, 73, 74, 75, 76, 77, 78, 79, 80, 81, 82, 83, 84, 85, 86, 87, 88, 89, 90, 91, 92, 93, 94, 95, 96, 97, 98, 99, 100, 101, 102, 103, 104, 105, 106, 107, 108, 109, 110, 111, 112, 113, 114, 115, 116, 117, 118, 119, 120, 121, 122, 123, 124, 125, 126, 127, 128, 129, 130, 131, 132, 133, 134, 150, 151, 152, 153, 154, 155, 156, 157, 158, 159, 160, 161, 162, 163, 164, 165, 166, 167, 168, 169, 170, 171, 172, 173, 174, 175, 176, 177, 178, 179, 180, 181, 182, 183, 184, 185, 186, 187, 188, 189, 190] (by decide +kernel) (by decide +kernel)
set_option maxRecDepth 20000 in
theorem gL_look_X7_count : GoodIn wsL_look (wsV RL 13 RX7 yX7_count wsX7_count) := goodIn_app (goodIn_of _ (by decide +kernel)) ggL_look_X7_count
set_option maxRecDepth 20000 in
theorem ggL_look_X7_grain : GoodIn wsL_look wsX7_grain := goodIn_r _ [138, 8, 91, 139, 71, 72, 14, 73, 16, 92, 93, 94, 95, 96, 97, 98, 99, 100, 101, 102, 103, 104, 105, 106, 107, 108, 109, 110, 111, 112, 113, 114, 115, 116, 117, 118, 119, 120, 121, 140, 141, 142, 143, 17, 144, 78, 79, 80, 6, 81, 50, 51, 52, 53, 54, 55, 56, 57, 58, 59, 60, 61, 62, 63, 24, 64, 65, 66, 67, 68, 35, 36, 37, 38, 69, 44, 45, 70, 145, 146, 147, 148, 149, 150, 151, 152, 153, 154, 155, 156, 157, 158, 159, 160, 161, 162, 163, 184, 185, 186, 187, 188, 189, 190, 164, 165, 166, 167, 168, 169, 170, 171, 172, 173, 174, 181, 182, 183] (by decide +kernel) (by decide +kernel)
set_option maxRecDepth 20000 in
theorem gL_look_X7_grain : GoodIn wsL_look (wsV RL 19 RX7 yX7_grain wsX7_grain) := goodIn_app (goodIn_of _ (by decide +kernel)) ggL_look_X7_grain
theorem dL_look_0 : decode cL_look 0 = .ok (.ldc2_w 9, 3) := by decide +kernel
theorem dL_look_3 : decode cL_look 3 = .ok (.lstore_n 1, 1) := by decide +kernel
theorem dL_look_4 : decode cL_look 4 = .ok (.ldc2_w 11, 3) := by decide +kernel
theorem dL_look_7 : decode cL_look 7 = .ok (.ldc2_w 11, 3) := by decide +kernel
theorem dL_look_10 : decode cL_look 10 = .ok (.lload_n 1, 1) := by decide +kernel
theorem dL_look_11 : decode cL_look 11 = .ok (.lmul, 1) := by decide +kernel
theorem dL_look_12 : decode cL_look 12 = .ok (.aload_n 0, 1) := by decide +kernel
theorem dL_look_13 : decode cL_look 13 = .ok (.iconst 0, 1) := by decide +kernel
theorem dL_look_14 : decode cL_look 14 = .ok (.invokevirtual 13, 3) := by decide +kernel
theorem dL_look_17 : decode cL_look 17 = .ok (.i2l, 1) := by decide +kernel
theorem dL_look_18 : decode cL_look 18 = .ok (.ladd, 1) := by decide +kernel
theorem dL_look_19 : decode cL_look 19 = .ok (.lmul, 1) := by decide +kernel
theorem dL_look_20 : decode cL_look 20 = .ok (.aload_n 0, 1) := by decide +kernel
theorem dL_look_21 : decode cL_look 21 = .ok (.bipush 17, 2) := by decide +kernel
theorem dL_look_23 : decode cL_look 23 = .ok (.invokevirtual 13, 3) := by decide +kernel
theorem dL_look_26 : decode cL_look 26 = .ok (.i2l, 1) := by decide +kernel
theorem dL_look_27 : decode cL_look 27 = .ok (.ladd, 1) := by decide +kernel
theorem dL_look_28 : decode cL_look 28 = .ok (.lstore_n 1, 1) := by decide +kernel
theorem dL_look_29 : decode cL_look 29 = .ok (.bipush 7, 2) := by decide +kernel
theorem dL_look_31 : decode cL_look 31 = .ok (.istore_n 3, 1) := by decide +kernel
theorem dL_look_32 : decode cL_look 32 = .ok (.iload_n 3, 1) := by decide +kernel
theorem dL_look_33 : decode cL_look 33 = .ok (.bipush 11, 2) := by decide +kernel
theorem dL_look_35 : decode cL_look 35 = .ok (.if_icmp .ge 22, 3) := by decide +kernel
theorem dL_look_38 : decode cL_look 38 = .ok (.ldc2_w 11, 3) := by decide +kernel
theorem dL_look_41 : decode cL_look 41 = .ok (.lload_n 1, 1) := by decide +kernel
theorem dL_look_42 : decode cL_look 42 = .ok (.lmul, 1) := by decide +kernel
theorem dL_look_43 : decode cL_look 43 = .ok (.aload_n 0, 1) := by decide +kernel
theorem dL_look_44 : decode cL_look 44 = .ok (.iload_n 3, 1) := by decide +kernel
theorem dL_look_45 : decode cL_look 45 = .ok (.invokevirtual 13, 3) := by decide +kernel
theorem dL_look_48 : decode cL_look 48 = .ok (.i2l, 1) := by decide +kernel
theorem dL_look_49 : decode cL_look 49 = .ok (.ladd, 1) := by decide +kernel
theorem dL_look_50 : decode cL_look 50 = .ok (.lstore_n 1, 1) := by decide +kernel
theorem dL_look_51 : decode cL_look 51 = .ok (.iinc 3 1, 3) := by decide +kernel
theorem dL_look_54 : decode cL_look 54 = .ok (.goto (-22), 3) := by decide +kernel
theorem dL_look_57 : decode cL_look 57 = .ok (.bipush 13, 2) := by decide +kernel
theorem dL_look_59 : decode cL_look 59 = .ok (.istore_n 3, 1) := by decide +kernel
theorem dL_look_60 : decode cL_look 60 = .ok (.iload_n 3, 1) := by decide +kernel
theorem dL_look_61 : decode cL_look 61 = .ok (.bipush 17, 2) := by decide +kernel
theorem dL_look_63 : decode cL_look 63 = .ok (.if_icmp .ge 22, 3) := by decide +kernel
theorem dL_look_66 : decode cL_look 66 = .ok (.ldc2_w 11, 3) := by decide +kernel
theorem dL_look_69 : decode cL_look 69 = .ok (.lload_n 1, 1) := by decide +kernel
theorem dL_look_70 : decode cL_look 70 = .ok (.lmul, 1) := by decide +kernel
theorem dL_look_71 : decode cL_look 71 = .ok (.aload_n 0, 1) := by decide +kernel
theorem dL_look_72 : decode cL_look 72 = .ok (.iload_n 3, 1) := by decide +kernel
theorem dL_look_73 : decode cL_look 73 = .ok (.invokevirtual 13, 3) := by decide +kernel
theorem dL_look_76 : decode cL_look 76 = .ok (.i2l, 1) := by decide +kernel
theorem dL_look_77 : decode cL_look 77 = .ok (.ladd, 1) := by decide +kernel
theorem dL_look_78 : decode cL_look 78 = .ok (.lstore_n 1, 1) := by decide +kernel
theorem dL_look_79 : decode cL_look 79 = .ok (.iinc 3 1, 3) := by decide +kernel
theorem dL_look_82 : decode cL_look 82 = .ok (.goto (-22), 3) := by decide +kernel
theorem dL_look_85 : decode cL_look 85 = .ok (.iconst 0, 1) := by decide +kernel
theorem dL_look_86 : decode cL_look 86 = .ok (.istore_n 3, 1) := by decide +kernel
theorem dL_look_87 : decode cL_look 87 = .ok (.iload_n 3, 1) := by decide +kernel
theorem dL_look_88 : decode cL_look 88 = .ok (.aload_n 0, 1) := by decide +kernel
theorem dL_look_89 : decode cL_look 89 = .ok (.iconst 0, 1) := by decide +kernel
theorem dL_look_90 : decode cL_look 90 = .ok (.invokevirtual 13, 3) := by decide +kernel
theorem dL_look_93 : decode cL_look 93 = .ok (.if_icmp .ge 48, 3) := by decide +kernel
theorem dL_look_96 : decode cL_look 96 = .ok (.ldc2_w 11, 3) := by decide +kernel
theorem dL_look_99 : decode cL_look 99 = .ok (.ldc2_w 11, 3) := by decide +kernel
theorem dL_look_102 : decode cL_look 102 = .ok (.ldc2_w 11, 3) := by decide +kernel
theorem dL_look_105 : decode cL_look 105 = .ok (.lload_n 1, 1) := by decide +kernel
theorem dL_look_106 : decode cL_look 106 = .ok (.lmul, 1) := by decide +kernel
theorem dL_look_107 : decode cL_look 107 = .ok (.aload_n 0, 1) := by decide +kernel
theorem dL_look_108 : decode cL_look 108 = .ok (.iload_n 3, 1) := by decide +kernel
theorem dL_look_109 : decode cL_look 109 = .ok (.iconst 0, 1) := by decide +kernel
theorem dL_look_110 : decode cL_look 110 = .ok (.invokevirtual 19, 3) := by decide +kernel
theorem dL_look_113 : decode cL_look 113 = .ok (.i2l, 1) := by decide +kernel
theorem dL_look_114 : decode cL_look 114 = .ok (.ladd, 1) := by decide +kernel
theorem dL_look_115 : decode cL_look 115 = .ok (.lmul, 1) := by decide +kernel
theorem dL_look_116 : decode cL_look 116 = .ok (.aload_n 0, 1) := by decide +kernel
theorem dL_look_117 : decode cL_look 117 = .ok (.iload_n 3, 1) := by decide +kernel
theorem dL_look_118 : decode cL_look 118 = .ok (.iconst 1, 1) := by decide +kernel
theorem dL_look_119 : decode cL_look 119 = .ok (.invokevirtual 19, 3) := by decide +kernel
theorem dL_look_122 : decode cL_look 122 = .ok (.i2l, 1) := by decide +kernel
theorem dL_look_123 : decode cL_look 123 = .ok (.ladd, 1) := by decide +kernel
theorem dL_look_124 : decode cL_look 124 = .ok (.lmul, 1) := by decide +kernel
theorem dL_look_125 : decode cL_look 125 = .ok (.aload_n 0, 1) := by decide +kernel
theorem dL_look_126 : decode cL_look 126 = .ok (.iload_n 3, 1) := by decide +kernel
theorem dL_look_127 : decode cL_look 127 = .ok (.bipush 8, 2) := by decide +kernel
theorem dL_look_129 : decode cL_look 129 = .ok (.invokevirtual 19, 3) := by decide +kernel
theorem dL_look_132 : decode cL_look 132 = .ok (.i2l, 1) := by decide +kernel
theorem dL_look_133 : decode cL_look 133 = .ok (.ladd, 1) := by decide +kernel
theorem dL_look_134 : decode cL_look 134 = .ok (.lstore_n 1, 1) := by decide +kernel
theorem dL_look_135 : decode cL_look 135 = .ok (.iinc 3 1, 3) := by decide +kernel
theorem dL_look_138 : decode cL_look 138 = .ok (.goto (-51), 3) := by decide +kernel
theorem dL_look_141 : decode cL_look 141 = .ok (.lload_n 1, 1) := by decide +kernel
theorem dL_look_142 : decode cL_look 142 = .ok (.lreturn, 1) := by decide +kernel
set_option maxRecDepth 20000 in
theorem ggL_holds_X7_count : GoodIn wsL_holds wsX7_count := goodIn_r _ [5, 6, 7, 8, 9, 10, 11, 12, 13, 14, 15, 16, 17, 18, 19, 20, 21, 22, 23, 24, 25, 26, 27, 28, 29, 30, 31, 32, 33, 34, 35, 36, 37, 38, 39, 40, 41, 42, 43, 44, 45, 46, 4, 47, 48, 49, 50, 51, 52, 53, 54, 55, 56, 57, 58, 59, 60, 61, 62, 63, 64, 65, 66, 67, 68, 69, 70, 71, 72, 73, 74, 75, 76, 77, 78, 79, 80, 81, 82, 83, 84, 85, 86, 87, 88, 89, 90, 91, 92, 93, 94, 95, 96, 97, 98, 99, 100, 101, 102, 103, 104, 105, 106, 107, 108, 109, 110, 111, 112, 113, 114, 115, 116, 117, 118, 119, 120, 121, 122, 123, 124, 125, 126, 127, 128, 129, 130, 131, 132, 192, 193, 194, 195, 196, 197, 198, 199, 200, 201, 202, 203, 204, 205, 206, 207, 208, 209, 210, 211, 212, 213, 214, 215, 216, 217, 218, 219, 220, 221, 222, 223, 224, 225, 226, 227, 228, 229, 230, 231, 232] (by decide +kernel) (by decide +kernel)
set_option maxRecDepth 20000 in
theorem gL_holds_X7_count : GoodIn wsL_holds (wsV RL 13 RX7 yX7_count wsX7_count) := goodIn_app (goodIn_of _ (by decide +kernel)) ggL_holds_X7_count
set_option maxRecDepth 20000 in
theorem ggL_holds_X7_grain : GoodIn wsL_holds wsX7_grain := goodIn_r _ [136, 6, 89, 137, 69, 70, 12, 71, 14, 90, 91, 92, 93, 94, 95, 96, 97, 98, 99, 100, 101, 102, 103, 104, 105, 106, 107, 108, 109, 110, 111, 112, 113, 114, 115, 116, 117, 118, 119, 138, 139, 140, 141, 15, 142, 76, 77, 78, 4, 79, 48, 49, 50, 51, 52, 53, 54, 55, 56, 57, 58, 59, 60, 61, 22, 62, 63, 64, 65, 66, 33, 34, 35, 36, 67, 42, 43, 68, 143, 144, 145, 146, 147, 192, 193, 194, 195, 196, 197, 198, 199, 200, 201, 202, 203, 204, 205, 226, 227, 228, 229, 230, 231, 232, 206, 207, 208, 209, 210, 211, 212, 213, 214, 215, 216, 223, 224, 225] (by decide +kernel) (by decide +kernel)
set_option maxRecDepth 20000 in
theorem gL_holds_X7_grain : GoodIn wsL_holds (wsV RL 19 RX7 yX7_grain wsX7_grain) := goodIn_app (goodIn_of _ (by decide +kernel)) ggL_holds_X7_grain
set_option maxRecDepth 20000 in
theorem ggL_holds_X7_cell : GoodIn wsL_holds wsX7_cell := goodIn_r _ [151, 6, 152, 153, 22, 154, 155, 33, 34, 12, 35, 36, 156, 21, 23, 24, 25, 18, 26, 27, 17, 19, 157, 158, 159, 160, 41, 42, 43, 32, 161, 162, 163, 192, 193, 194, 195, 196, 197, 198, 199, 200, 201, 202, 203, 204, 205, 206, 207, 208, 209, 210, 211, 212, 213, 214, 215, 216] (by decide +kernel) (by decide +kernel)
