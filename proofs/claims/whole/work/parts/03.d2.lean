theorem dX7_letWalk_0 : decode cX7_letWalk 0 = .ok (.aload_n 0, 1) := by decide +kernel
theorem dX7_letWalk_1 : decode cX7_letWalk 1 = .ok (.getfield 29, 3) := by decide +kernel
theorem dX7_letWalk_4 : decode cX7_letWalk 4 = .ok (.aload_n 0, 1) := by decide +kernel
theorem dX7_letWalk_5 : decode cX7_letWalk 5 = .ok (.getfield 12, 3) := by decide +kernel
theorem dX7_letWalk_8 : decode cX7_letWalk 8 = .ok (.iload_n 1, 1) := by decide +kernel
theorem dX7_letWalk_9 : decode cX7_letWalk 9 = .ok (.invokestatic 249, 3) := by decide +kernel
theorem dX7_letWalk_12 : decode cX7_letWalk 12 = .ok (.invokevirtual 252, 3) := by decide +kernel
theorem dX7_letWalk_15 : decode cX7_letWalk 15 = .ok (.aload_n 0, 1) := by decide +kernel
theorem dX7_letWalk_16 : decode cX7_letWalk 16 = .ok (.getfield 12, 3) := by decide +kernel
theorem dX7_letWalk_19 : decode cX7_letWalk 19 = .ok (.aload_n 0, 1) := by decide +kernel
theorem dX7_letWalk_20 : decode cX7_letWalk 20 = .ok (.getfield 29, 3) := by decide +kernel
theorem dX7_letWalk_23 : decode cX7_letWalk 23 = .ok (.invokevirtual 276, 3) := by decide +kernel
theorem dX7_letWalk_26 : decode cX7_letWalk 26 = .ok (.aload_n 0, 1) := by decide +kernel
theorem dX7_letWalk_27 : decode cX7_letWalk 27 = .ok (.getfield 29, 3) := by decide +kernel
theorem dX7_letWalk_30 : decode cX7_letWalk 30 = .ok (.invokevirtual 256, 3) := by decide +kernel
theorem dX7_letWalk_33 : decode cX7_letWalk 33 = .ok (.ireturn, 1) := by decide +kernel
set_option maxRecDepth 20000 in
theorem ggX7_dropSticks_X7_nextLot : GoodIn wsX7_dropSticks wsX7_nextLot := goodIn_r _ [6] (by decide +kernel) (by decide +kernel)
set_option maxRecDepth 20000 in
theorem gX7_dropSticks_X7_nextLot : GoodIn wsX7_dropSticks (va_wsS RX7 280 yX7_nextLot wsX7_nextLot) := goodIn_app (goodIn_of _ (by decide +kernel)) ggX7_dropSticks_X7_nextLot
set_option maxRecDepth 20000 in
theorem ggX7_dropSticks_X4_refusalToGo : GoodIn wsX7_dropSticks wsX4_refusalToGo := goodIn_r _ [11, 12, 13, 14, 15, 16, 17, 18, 19, 20, 21, 10, 22, 23, 116, 117, 118, 119, 120, 121, 122, 123, 124, 125, 126] (by decide +kernel) (by decide +kernel)
set_option maxRecDepth 20000 in
theorem gX7_dropSticks_X4_refusalToGo : GoodIn wsX7_dropSticks (wsV RX7 88 RX4 yX4_refusalToGo wsX4_refusalToGo) := goodIn_app (goodIn_of _ (by decide +kernel)) ggX7_dropSticks_X4_refusalToGo
set_option maxRecDepth 20000 in
theorem ggX7_dropSticks_X4_loseAtOnce : GoodIn wsX7_dropSticks wsX4_loseAtOnce := goodIn_r _ [27, 28, 29, 116, 117, 118, 119, 120, 121, 122, 123, 124, 125, 126] (by decide +kernel) (by decide +kernel)
set_option maxRecDepth 20000 in
theorem gX7_dropSticks_X4_loseAtOnce : GoodIn wsX7_dropSticks (wsV RX7 283 RX4 yX4_loseAtOnce wsX4_loseAtOnce) := goodIn_app (goodIn_of _ (by decide +kernel)) ggX7_dropSticks_X4_loseAtOnce
set_option maxRecDepth 20000 in
theorem ggX7_dropSticks_X7_letWalk : GoodIn wsX7_dropSticks wsX7_letWalk := goodIn_r _ [33, 2, 1, 34, 17, 14, 18, 35, 36, 37, 38, 39, 40, 41, 42, 43, 44, 45, 46, 47, 10, 48, 49, 50, 51, 52, 53, 54, 55, 56, 57, 58, 59, 60, 19, 20, 21, 22, 23, 61, 62, 63, 64, 4, 5, 6, 65, 66, 67, 68, 69, 70, 71, 72, 73, 74, 75, 28, 76, 29, 77, 78, 79, 80, 81, 82, 83, 84, 85, 86, 87, 88, 89, 90, 91, 92, 93, 94, 95, 96, 97, 98, 99, 100, 102, 103, 104, 105, 106, 107, 108, 109, 110, 111, 112, 113, 114, 115, 127, 128, 129, 130, 131, 116, 117, 118, 119, 120, 121, 122, 123, 124, 125, 126] (by decide +kernel) (by decide +kernel)
set_option maxRecDepth 20000 in
theorem gX7_dropSticks_X7_letWalk : GoodIn wsX7_dropSticks (wsV RX7 91 RX7 yX7_letWalk wsX7_letWalk) := goodIn_app (goodIn_of _ (by decide +kernel)) ggX7_dropSticks_X7_letWalk
set_option maxRecDepth 20000 in
theorem ggX7_dropSticks_X6_sticks : GoodIn wsX7_dropSticks wsX6_sticks := goodIn_r _ [80, 44, 127, 128, 129, 130, 131] (by decide +kernel) (by decide +kernel)
set_option maxRecDepth 20000 in
theorem gX7_dropSticks_X6_sticks : GoodIn wsX7_dropSticks (wsV RX7 286 RX6 yX6_sticks wsX6_sticks) := goodIn_app (goodIn_of _ (by decide +kernel)) ggX7_dropSticks_X6_sticks
theorem dX7_dropSticks_0 : decode cX7_dropSticks 0 = .ok (.aload_n 0, 1) := by decide +kernel
theorem dX7_dropSticks_1 : decode cX7_dropSticks 1 = .ok (.getfield 12, 3) := by decide +kernel
theorem dX7_dropSticks_4 : decode cX7_dropSticks 4 = .ok (.aload_n 0, 1) := by decide +kernel
theorem dX7_dropSticks_5 : decode cX7_dropSticks 5 = .ok (.getfield 12, 3) := by decide +kernel
theorem dX7_dropSticks_8 : decode cX7_dropSticks 8 = .ok (.getfield 85, 3) := by decide +kernel
theorem dX7_dropSticks_11 : decode cX7_dropSticks 11 = .ok (.invokestatic 280, 3) := by decide +kernel
theorem dX7_dropSticks_14 : decode cX7_dropSticks 14 = .ok (.putfield 85, 3) := by decide +kernel
theorem dX7_dropSticks_17 : decode cX7_dropSticks 17 = .ok (.aload_n 0, 1) := by decide +kernel
theorem dX7_dropSticks_18 : decode cX7_dropSticks 18 = .ok (.getfield 12, 3) := by decide +kernel
theorem dX7_dropSticks_21 : decode cX7_dropSticks 21 = .ok (.getfield 85, 3) := by decide +kernel
theorem dX7_dropSticks_24 : decode cX7_dropSticks 24 = .ok (.bipush 40, 2) := by decide +kernel
theorem dX7_dropSticks_26 : decode cX7_dropSticks 26 = .ok (.irem, 1) := by decide +kernel
theorem dX7_dropSticks_27 : decode cX7_dropSticks 27 = .ok (.istore_n 1, 1) := by decide +kernel
theorem dX7_dropSticks_28 : decode cX7_dropSticks 28 = .ok (.aload_n 0, 1) := by decide +kernel
theorem dX7_dropSticks_29 : decode cX7_dropSticks 29 = .ok (.getfield 12, 3) := by decide +kernel
theorem dX7_dropSticks_32 : decode cX7_dropSticks 32 = .ok (.iload_n 1, 1) := by decide +kernel
theorem dX7_dropSticks_33 : decode cX7_dropSticks 33 = .ok (.invokevirtual 88, 3) := by decide +kernel
theorem dX7_dropSticks_36 : decode cX7_dropSticks 36 = .ok (.ifCond .eq 12, 3) := by decide +kernel
theorem dX7_dropSticks_39 : decode cX7_dropSticks 39 = .ok (.aload_n 0, 1) := by decide +kernel
theorem dX7_dropSticks_40 : decode cX7_dropSticks 40 = .ok (.getfield 12, 3) := by decide +kernel
theorem dX7_dropSticks_43 : decode cX7_dropSticks 43 = .ok (.invokevirtual 283, 3) := by decide +kernel
theorem dX7_dropSticks_46 : decode cX7_dropSticks 46 = .ok (.iconst 0, 1) := by decide +kernel
theorem dX7_dropSticks_47 : decode cX7_dropSticks 47 = .ok (.ireturn, 1) := by decide +kernel
theorem dX7_dropSticks_48 : decode cX7_dropSticks 48 = .ok (.aload_n 0, 1) := by decide +kernel
theorem dX7_dropSticks_49 : decode cX7_dropSticks 49 = .ok (.iload_n 1, 1) := by decide +kernel
theorem dX7_dropSticks_50 : decode cX7_dropSticks 50 = .ok (.invokevirtual 91, 3) := by decide +kernel
theorem dX7_dropSticks_53 : decode cX7_dropSticks 53 = .ok (.pop, 1) := by decide +kernel
theorem dX7_dropSticks_54 : decode cX7_dropSticks 54 = .ok (.aload_n 0, 1) := by decide +kernel
theorem dX7_dropSticks_55 : decode cX7_dropSticks 55 = .ok (.getfield 29, 3) := by decide +kernel
theorem dX7_dropSticks_58 : decode cX7_dropSticks 58 = .ok (.invokevirtual 286, 3) := by decide +kernel
theorem dX7_dropSticks_61 : decode cX7_dropSticks 61 = .ok (.ireturn, 1) := by decide +kernel
set_option maxRecDepth 20000 in
theorem ggX7_answerOfDeed_X0_dropTips : GoodIn wsX7_answerOfDeed wsX0_dropTips := goodIn_r _ [7, 8, 9, 10, 11, 12, 13, 14, 15, 16, 17, 18, 19, 20, 21, 22, 23, 24, 25, 26, 27, 28, 29, 30, 31, 32, 33, 34, 35, 36, 37, 141, 142, 143, 144, 145, 146, 147, 148, 149, 150, 151, 152, 153] (by decide +kernel) (by decide +kernel)
set_option maxRecDepth 20000 in
theorem gX7_answerOfDeed_X0_dropTips : GoodIn wsX7_answerOfDeed (wsV RX7 105 RX0 yX0_dropTips wsX0_dropTips) := goodIn_app (goodIn_of _ (by decide +kernel)) ggX7_answerOfDeed_X0_dropTips
set_option maxRecDepth 20000 in
theorem ggX7_answerOfDeed_X4_refusalToGo : GoodIn wsX7_answerOfDeed wsX4_refusalToGo := goodIn_r _ [41, 42, 43, 36, 44, 45, 46, 47, 48, 49, 50, 13, 51, 33, 141, 142, 143, 144, 145, 146, 147, 148, 149, 150, 151] (by decide +kernel) (by decide +kernel)
set_option maxRecDepth 20000 in
theorem gX7_answerOfDeed_X4_refusalToGo : GoodIn wsX7_answerOfDeed (wsV RX7 88 RX4 yX4_refusalToGo wsX4_refusalToGo) := goodIn_app (goodIn_of _ (by decide +kernel)) ggX7_answerOfDeed_X4_refusalToGo
set_option maxRecDepth 20000 in
theorem ggX7_answerOfDeed_X4_refusalToBreak : GoodIn wsX7_answerOfDeed wsX4_refusalToBreak := goodIn_r _ [55, 16, 17, 18, 13, 19, 20, 56, 11, 12, 14, 15, 141, 142, 143, 144, 145, 146, 147, 148, 149, 150, 151] (by decide +kernel) (by decide +kernel)
set_option maxRecDepth 20000 in
theorem gX7_answerOfDeed_X4_refusalToBreak : GoodIn wsX7_answerOfDeed (wsV RX7 98 RX4 yX4_refusalToBreak wsX4_refusalToBreak) := goodIn_app (goodIn_of _ (by decide +kernel)) ggX7_answerOfDeed_X4_refusalToBreak
set_option maxRecDepth 20000 in
theorem ggX7_answerOfDeed_X7_letWalk : GoodIn wsX7_answerOfDeed wsX7_letWalk := goodIn_r _ [61, 62, 2, 63, 46, 36, 47, 64, 65, 66, 67, 68, 69, 70, 71, 72, 73, 74, 75, 76, 13, 77, 78, 79, 80, 81, 82, 83, 84, 85, 86, 87, 88, 89, 48, 49, 50, 51, 33, 90, 91, 92, 93, 94, 60, 95, 96, 97, 98, 99, 100, 101, 102, 103, 104, 105, 106, 107, 108, 109, 110, 111, 112, 113, 114, 115, 116, 117, 20, 26, 15, 27, 34, 35, 37, 29, 30, 31, 32, 118, 119, 120, 121, 122, 127, 128, 129, 130, 131, 132, 133, 134, 135, 136, 137, 138, 139, 140, 154, 155, 156, 157, 158, 141, 142, 143, 144, 145, 146, 147, 148, 149, 150, 151] (by decide +kernel) (by decide +kernel)
set_option maxRecDepth 20000 in
theorem gX7_answerOfDeed_X7_letWalk : GoodIn wsX7_answerOfDeed (wsV RX7 91 RX7 yX7_letWalk wsX7_letWalk) := goodIn_app (goodIn_of _ (by decide +kernel)) ggX7_answerOfDeed_X7_letWalk
set_option maxRecDepth 20000 in
theorem ggX7_answerOfDeed_X0_dropTree : GoodIn wsX7_answerOfDeed wsX0_dropTree := goodIn_r _ [126, 8, 9, 10, 11, 12, 13, 14, 15, 16, 17, 18, 19, 20, 21, 22, 23, 24, 25, 26, 27, 28, 29, 30, 31, 32, 33, 34, 35, 36, 37, 141, 142, 143, 144, 145, 146, 147, 148, 149, 150, 151, 152, 153] (by decide +kernel) (by decide +kernel)
set_option maxRecDepth 20000 in
theorem gX7_answerOfDeed_X0_dropTree : GoodIn wsX7_answerOfDeed (wsV RX7 101 RX0 yX0_dropTree wsX0_dropTree) := goodIn_app (goodIn_of _ (by decide +kernel)) ggX7_answerOfDeed_X0_dropTree
theorem dX7_answerOfDeed_0 : decode cX7_answerOfDeed 0 = .ok (.iload_n 1, 1) := by decide +kernel
theorem dX7_answerOfDeed_1 : decode cX7_answerOfDeed 1 = .ok (.bipush 119, 2) := by decide +kernel
theorem dX7_answerOfDeed_3 : decode cX7_answerOfDeed 3 = .ok (.if_icmp .ne 15, 3) := by decide +kernel
theorem dX7_answerOfDeed_6 : decode cX7_answerOfDeed 6 = .ok (.aload_n 0, 1) := by decide +kernel
theorem dX7_answerOfDeed_7 : decode cX7_answerOfDeed 7 = .ok (.getfield 36, 3) := by decide +kernel
theorem dX7_answerOfDeed_10 : decode cX7_answerOfDeed 10 = .ok (.aload_n 0, 1) := by decide +kernel
theorem dX7_answerOfDeed_11 : decode cX7_answerOfDeed 11 = .ok (.getfield 12, 3) := by decide +kernel
theorem dX7_answerOfDeed_14 : decode cX7_answerOfDeed 14 = .ok (.invokevirtual 105, 3) := by decide +kernel
theorem dX7_answerOfDeed_17 : decode cX7_answerOfDeed 17 = .ok (.ireturn, 1) := by decide +kernel
theorem dX7_answerOfDeed_18 : decode cX7_answerOfDeed 18 = .ok (.iload_n 1, 1) := by decide +kernel
theorem dX7_answerOfDeed_19 : decode cX7_answerOfDeed 19 = .ok (.bipush 103, 2) := by decide +kernel
theorem dX7_answerOfDeed_21 : decode cX7_answerOfDeed 21 = .ok (.if_icmp .ne 14, 3) := by decide +kernel
theorem dX7_answerOfDeed_24 : decode cX7_answerOfDeed 24 = .ok (.aload_n 0, 1) := by decide +kernel
theorem dX7_answerOfDeed_25 : decode cX7_answerOfDeed 25 = .ok (.getfield 12, 3) := by decide +kernel
theorem dX7_answerOfDeed_28 : decode cX7_answerOfDeed 28 = .ok (.iload_n 2, 1) := by decide +kernel
theorem dX7_answerOfDeed_29 : decode cX7_answerOfDeed 29 = .ok (.invokevirtual 88, 3) := by decide +kernel
theorem dX7_answerOfDeed_32 : decode cX7_answerOfDeed 32 = .ok (.goto 11, 3) := by decide +kernel
theorem dX7_answerOfDeed_35 : decode cX7_answerOfDeed 35 = .ok (.aload_n 0, 1) := by decide +kernel
theorem dX7_answerOfDeed_36 : decode cX7_answerOfDeed 36 = .ok (.getfield 12, 3) := by decide +kernel
theorem dX7_answerOfDeed_39 : decode cX7_answerOfDeed 39 = .ok (.iload_n 2, 1) := by decide +kernel
theorem dX7_answerOfDeed_40 : decode cX7_answerOfDeed 40 = .ok (.invokevirtual 98, 3) := by decide +kernel
theorem dX7_answerOfDeed_43 : decode cX7_answerOfDeed 43 = .ok (.istore_n 3, 1) := by decide +kernel
theorem dX7_answerOfDeed_44 : decode cX7_answerOfDeed 44 = .ok (.iload_n 3, 1) := by decide +kernel
theorem dX7_answerOfDeed_45 : decode cX7_answerOfDeed 45 = .ok (.ifCond .eq 5, 3) := by decide +kernel
theorem dX7_answerOfDeed_48 : decode cX7_answerOfDeed 48 = .ok (.iload_n 3, 1) := by decide +kernel
theorem dX7_answerOfDeed_49 : decode cX7_answerOfDeed 49 = .ok (.ireturn, 1) := by decide +kernel
theorem dX7_answerOfDeed_50 : decode cX7_answerOfDeed 50 = .ok (.iload_n 1, 1) := by decide +kernel
theorem dX7_answerOfDeed_51 : decode cX7_answerOfDeed 51 = .ok (.bipush 103, 2) := by decide +kernel
theorem dX7_answerOfDeed_53 : decode cX7_answerOfDeed 53 = .ok (.if_icmp .ne 11, 3) := by decide +kernel
theorem dX7_answerOfDeed_56 : decode cX7_answerOfDeed 56 = .ok (.aload_n 0, 1) := by decide +kernel
theorem dX7_answerOfDeed_57 : decode cX7_answerOfDeed 57 = .ok (.iload_n 2, 1) := by decide +kernel
theorem dX7_answerOfDeed_58 : decode cX7_answerOfDeed 58 = .ok (.invokevirtual 91, 3) := by decide +kernel
theorem dX7_answerOfDeed_61 : decode cX7_answerOfDeed 61 = .ok (.goto 15, 3) := by decide +kernel
theorem dX7_answerOfDeed_64 : decode cX7_answerOfDeed 64 = .ok (.aload_n 0, 1) := by decide +kernel
theorem dX7_answerOfDeed_65 : decode cX7_answerOfDeed 65 = .ok (.getfield 36, 3) := by decide +kernel
theorem dX7_answerOfDeed_68 : decode cX7_answerOfDeed 68 = .ok (.aload_n 0, 1) := by decide +kernel
theorem dX7_answerOfDeed_69 : decode cX7_answerOfDeed 69 = .ok (.getfield 12, 3) := by decide +kernel
theorem dX7_answerOfDeed_72 : decode cX7_answerOfDeed 72 = .ok (.iload_n 2, 1) := by decide +kernel
theorem dX7_answerOfDeed_73 : decode cX7_answerOfDeed 73 = .ok (.invokevirtual 101, 3) := by decide +kernel
theorem dX7_answerOfDeed_76 : decode cX7_answerOfDeed 76 = .ok (.ireturn, 1) := by decide +kernel
set_option maxRecDepth 20000 in
theorem ggX7_catchOf_X3_read : GoodIn wsX7_catchOf wsX3_read := goodIn_r _ [7, 8, 9, 10, 11, 12, 6, 13, 14, 15, 16, 17, 18, 19, 20, 21, 22, 23, 24, 25, 26, 27, 28, 29, 30, 31, 32, 33, 34, 52, 53, 54, 55, 56, 57, 58, 59, 60, 61, 62, 49, 50, 51] (by decide +kernel) (by decide +kernel)
set_option maxRecDepth 20000 in
theorem gX7_catchOf_X3_read : GoodIn wsX7_catchOf (wsV RX7 269 RX3 yX3_read wsX3_read) := goodIn_app (goodIn_of _ (by decide +kernel)) ggX7_catchOf_X3_read
theorem dX7_catchOf_0 : decode cX7_catchOf 0 = .ok (.aload_n 0, 1) := by decide +kernel
theorem dX7_catchOf_1 : decode cX7_catchOf 1 = .ok (.getfield 50, 3) := by decide +kernel
theorem dX7_catchOf_4 : decode cX7_catchOf 4 = .ok (.aload_n 0, 1) := by decide +kernel
theorem dX7_catchOf_5 : decode cX7_catchOf 5 = .ok (.getfield 12, 3) := by decide +kernel
theorem dX7_catchOf_8 : decode cX7_catchOf 8 = .ok (.invokevirtual 269, 3) := by decide +kernel
theorem dX7_catchOf_11 : decode cX7_catchOf 11 = .ok (.aload_n 0, 1) := by decide +kernel
theorem dX7_catchOf_12 : decode cX7_catchOf 12 = .ok (.getfield 50, 3) := by decide +kernel
theorem dX7_catchOf_15 : decode cX7_catchOf 15 = .ok (.getfield 289, 3) := by decide +kernel
theorem dX7_catchOf_18 : decode cX7_catchOf 18 = .ok (.iload_n 1, 1) := by decide +kernel
theorem dX7_catchOf_19 : decode cX7_catchOf 19 = .ok (.iaload, 1) := by decide +kernel
theorem dX7_catchOf_20 : decode cX7_catchOf 20 = .ok (.ireturn, 1) := by decide +kernel
set_option maxRecDepth 20000 in
theorem ggX7_bestCatcher_X3_read : GoodIn wsX7_bestCatcher wsX3_read := goodIn_r _ [7, 8, 9, 10, 11, 12, 6, 13, 14, 15, 16, 17, 18, 19, 20, 21, 22, 23, 24, 25, 26, 27, 28, 29, 30, 31, 32, 33, 34, 53, 54, 55, 56, 57, 58, 59, 60, 61, 62, 63, 64, 65, 66] (by decide +kernel) (by decide +kernel)
set_option maxRecDepth 20000 in
theorem gX7_bestCatcher_X3_read : GoodIn wsX7_bestCatcher (wsV RX7 269 RX3 yX3_read wsX3_read) := goodIn_app (goodIn_of _ (by decide +kernel)) ggX7_bestCatcher_X3_read
set_option maxRecDepth 20000 in
theorem ggX7_bestCatcher_X3_bestGrain : GoodIn wsX7_bestCatcher wsX3_bestGrain := goodIn_r _ [38, 8, 10, 64, 65, 66] (by decide +kernel) (by decide +kernel)
set_option maxRecDepth 20000 in
theorem gX7_bestCatcher_X3_bestGrain : GoodIn wsX7_bestCatcher (wsV RX7 292 RX3 yX3_bestGrain wsX3_bestGrain) := goodIn_app (goodIn_of _ (by decide +kernel)) ggX7_bestCatcher_X3_bestGrain
theorem dX7_bestCatcher_0 : decode cX7_bestCatcher 0 = .ok (.aload_n 0, 1) := by decide +kernel
theorem dX7_bestCatcher_1 : decode cX7_bestCatcher 1 = .ok (.getfield 50, 3) := by decide +kernel
theorem dX7_bestCatcher_4 : decode cX7_bestCatcher 4 = .ok (.aload_n 0, 1) := by decide +kernel
theorem dX7_bestCatcher_5 : decode cX7_bestCatcher 5 = .ok (.getfield 12, 3) := by decide +kernel
theorem dX7_bestCatcher_8 : decode cX7_bestCatcher 8 = .ok (.invokevirtual 269, 3) := by decide +kernel
theorem dX7_bestCatcher_11 : decode cX7_bestCatcher 11 = .ok (.aload_n 0, 1) := by decide +kernel
theorem dX7_bestCatcher_12 : decode cX7_bestCatcher 12 = .ok (.getfield 50, 3) := by decide +kernel
theorem dX7_bestCatcher_15 : decode cX7_bestCatcher 15 = .ok (.invokevirtual 292, 3) := by decide +kernel
theorem dX7_bestCatcher_18 : decode cX7_bestCatcher 18 = .ok (.ireturn, 1) := by decide +kernel
set_option maxRecDepth 20000 in
theorem ggX7_countOfTrees_X5_read : GoodIn wsX7_countOfTrees wsX5_read := goodIn_r _ [7, 8, 9, 10, 11, 12, 13, 14, 15, 16, 17, 18, 19, 20, 21, 22, 6, 23, 24, 25, 26, 27, 28, 29, 30, 31, 32, 33, 34, 35, 36, 37, 68, 69, 70, 71, 72, 73, 74, 75, 76, 77, 78, 79, 80, 81, 82, 83, 84, 85] (by decide +kernel) (by decide +kernel)
set_option maxRecDepth 20000 in
theorem gX7_countOfTrees_X5_read : GoodIn wsX7_countOfTrees (wsV RX7 172 RX5 yX5_read wsX5_read) := goodIn_app (goodIn_of _ (by decide +kernel)) ggX7_countOfTrees_X5_read
set_option maxRecDepth 20000 in
theorem ggX7_countOfTrees_X5_rootGrains : GoodIn wsX7_countOfTrees wsX5_rootGrains := goodIn_r _ [41, 8, 25, 79, 80, 81, 82, 83, 84, 85] (by decide +kernel) (by decide +kernel)
set_option maxRecDepth 20000 in
theorem gX7_countOfTrees_X5_rootGrains : GoodIn wsX7_countOfTrees (wsV RX7 295 RX5 yX5_rootGrains wsX5_rootGrains) := goodIn_app (goodIn_of _ (by decide +kernel)) ggX7_countOfTrees_X5_rootGrains
set_option maxRecDepth 20000 in
theorem ggX7_countOfTrees_X5_grainsHeldBy : GoodIn wsX7_countOfTrees wsX5_grainsHeldBy := goodIn_r _ [45, 8, 26, 79, 80, 81, 82, 83, 84, 85] (by decide +kernel) (by decide +kernel)
set_option maxRecDepth 20000 in
theorem gX7_countOfTrees_X5_grainsHeldBy : GoodIn wsX7_countOfTrees (wsV RX7 298 RX5 yX5_grainsHeldBy wsX5_grainsHeldBy) := goodIn_app (goodIn_of _ (by decide +kernel)) ggX7_countOfTrees_X5_grainsHeldBy
set_option maxRecDepth 20000 in
theorem ggX7_countOfTrees_X5_deepest : GoodIn wsX7_countOfTrees wsX5_deepest := goodIn_r _ [49, 8, 24, 50, 51, 52, 53, 79, 80, 81, 82, 83, 84, 85] (by decide +kernel) (by decide +kernel)
set_option maxRecDepth 20000 in
theorem gX7_countOfTrees_X5_deepest : GoodIn wsX7_countOfTrees (wsV RX7 266 RX5 yX5_deepest wsX5_deepest) := goodIn_app (goodIn_of _ (by decide +kernel)) ggX7_countOfTrees_X5_deepest
theorem dX7_countOfTrees_0 : decode cX7_countOfTrees 0 = .ok (.aload_n 0, 1) := by decide +kernel
theorem dX7_countOfTrees_1 : decode cX7_countOfTrees 1 = .ok (.getfield 43, 3) := by decide +kernel
theorem dX7_countOfTrees_4 : decode cX7_countOfTrees 4 = .ok (.aload_n 0, 1) := by decide +kernel
theorem dX7_countOfTrees_5 : decode cX7_countOfTrees 5 = .ok (.getfield 12, 3) := by decide +kernel
theorem dX7_countOfTrees_8 : decode cX7_countOfTrees 8 = .ok (.invokevirtual 172, 3) := by decide +kernel
theorem dX7_countOfTrees_11 : decode cX7_countOfTrees 11 = .ok (.iload_n 1, 1) := by decide +kernel
theorem dX7_countOfTrees_12 : decode cX7_countOfTrees 12 = .ok (.tableswitch 56 1 3 #[28, 36, 46], 28) := by decide +kernel
theorem dX7_countOfTrees_40 : decode cX7_countOfTrees 40 = .ok (.aload_n 0, 1) := by decide +kernel
theorem dX7_countOfTrees_41 : decode cX7_countOfTrees 41 = .ok (.getfield 43, 3) := by decide +kernel
theorem dX7_countOfTrees_44 : decode cX7_countOfTrees 44 = .ok (.invokevirtual 295, 3) := by decide +kernel
theorem dX7_countOfTrees_47 : decode cX7_countOfTrees 47 = .ok (.ireturn, 1) := by decide +kernel
theorem dX7_countOfTrees_48 : decode cX7_countOfTrees 48 = .ok (.aload_n 0, 1) := by decide +kernel
theorem dX7_countOfTrees_49 : decode cX7_countOfTrees 49 = .ok (.getfield 43, 3) := by decide +kernel
theorem dX7_countOfTrees_52 : decode cX7_countOfTrees 52 = .ok (.iconst 0, 1) := by decide +kernel
theorem dX7_countOfTrees_53 : decode cX7_countOfTrees 53 = .ok (.iconst 0, 1) := by decide +kernel
theorem dX7_countOfTrees_54 : decode cX7_countOfTrees 54 = .ok (.invokevirtual 298, 3) := by decide +kernel
theorem dX7_countOfTrees_57 : decode cX7_countOfTrees 57 = .ok (.ireturn, 1) := by decide +kernel
theorem dX7_countOfTrees_58 : decode cX7_countOfTrees 58 = .ok (.aload_n 0, 1) := by decide +kernel
theorem dX7_countOfTrees_59 : decode cX7_countOfTrees 59 = .ok (.getfield 43, 3) := by decide +kernel
theorem dX7_countOfTrees_62 : decode cX7_countOfTrees 62 = .ok (.iconst 2, 1) := by decide +kernel
theorem dX7_countOfTrees_63 : decode cX7_countOfTrees 63 = .ok (.iconst 4, 1) := by decide +kernel
theorem dX7_countOfTrees_64 : decode cX7_countOfTrees 64 = .ok (.invokevirtual 298, 3) := by decide +kernel
theorem dX7_countOfTrees_67 : decode cX7_countOfTrees 67 = .ok (.ireturn, 1) := by decide +kernel
theorem dX7_countOfTrees_68 : decode cX7_countOfTrees 68 = .ok (.aload_n 0, 1) := by decide +kernel
theorem dX7_countOfTrees_69 : decode cX7_countOfTrees 69 = .ok (.getfield 43, 3) := by decide +kernel
theorem dX7_countOfTrees_72 : decode cX7_countOfTrees 72 = .ok (.invokevirtual 266, 3) := by decide +kernel
theorem dX7_countOfTrees_75 : decode cX7_countOfTrees 75 = .ok (.ireturn, 1) := by decide +kernel
theorem dX7_isSettingValue_0 : decode cX7_isSettingValue 0 = .ok (.iload_n 0, 1) := by decide +kernel
theorem dX7_isSettingValue_1 : decode cX7_isSettingValue 1 = .ok (.tableswitch 96 0 3 #[31, 47, 66, 81], 31) := by decide +kernel
theorem dX7_isSettingValue_32 : decode cX7_isSettingValue 32 = .ok (.iload_n 1, 1) := by decide +kernel
theorem dX7_isSettingValue_33 : decode cX7_isSettingValue 33 = .ok (.iconst 1, 1) := by decide +kernel
theorem dX7_isSettingValue_34 : decode cX7_isSettingValue 34 = .ok (.if_icmp .lt 12, 3) := by decide +kernel
theorem dX7_isSettingValue_37 : decode cX7_isSettingValue 37 = .ok (.iload_n 1, 1) := by decide +kernel
theorem dX7_isSettingValue_38 : decode cX7_isSettingValue 38 = .ok (.iconst 4, 1) := by decide +kernel
theorem dX7_isSettingValue_39 : decode cX7_isSettingValue 39 = .ok (.if_icmp .gt 7, 3) := by decide +kernel
theorem dX7_isSettingValue_42 : decode cX7_isSettingValue 42 = .ok (.iconst 1, 1) := by decide +kernel
theorem dX7_isSettingValue_43 : decode cX7_isSettingValue 43 = .ok (.goto 4, 3) := by decide +kernel
theorem dX7_isSettingValue_46 : decode cX7_isSettingValue 46 = .ok (.iconst 0, 1) := by decide +kernel
theorem dX7_isSettingValue_47 : decode cX7_isSettingValue 47 = .ok (.ireturn, 1) := by decide +kernel
theorem dX7_isSettingValue_48 : decode cX7_isSettingValue 48 = .ok (.iload_n 1, 1) := by decide +kernel
theorem dX7_isSettingValue_49 : decode cX7_isSettingValue 49 = .ok (.bipush 10, 2) := by decide +kernel
theorem dX7_isSettingValue_51 : decode cX7_isSettingValue 51 = .ok (.if_icmp .lt 14, 3) := by decide +kernel
theorem dX7_isSettingValue_54 : decode cX7_isSettingValue 54 = .ok (.iload_n 1, 1) := by decide +kernel
theorem dX7_isSettingValue_55 : decode cX7_isSettingValue 55 = .ok (.sipush 200, 3) := by decide +kernel
theorem dX7_isSettingValue_58 : decode cX7_isSettingValue 58 = .ok (.if_icmp .gt 7, 3) := by decide +kernel
theorem dX7_isSettingValue_61 : decode cX7_isSettingValue 61 = .ok (.iconst 1, 1) := by decide +kernel
theorem dX7_isSettingValue_62 : decode cX7_isSettingValue 62 = .ok (.goto 4, 3) := by decide +kernel
theorem dX7_isSettingValue_65 : decode cX7_isSettingValue 65 = .ok (.iconst 0, 1) := by decide +kernel
theorem dX7_isSettingValue_66 : decode cX7_isSettingValue 66 = .ok (.ireturn, 1) := by decide +kernel
theorem dX7_isSettingValue_67 : decode cX7_isSettingValue 67 = .ok (.iload_n 1, 1) := by decide +kernel
theorem dX7_isSettingValue_68 : decode cX7_isSettingValue 68 = .ok (.ifCond .lt 12, 3) := by decide +kernel
theorem dX7_isSettingValue_71 : decode cX7_isSettingValue 71 = .ok (.iload_n 1, 1) := by decide +kernel
theorem dX7_isSettingValue_72 : decode cX7_isSettingValue 72 = .ok (.iconst 4, 1) := by decide +kernel
theorem dX7_isSettingValue_73 : decode cX7_isSettingValue 73 = .ok (.if_icmp .gt 7, 3) := by decide +kernel
theorem dX7_isSettingValue_76 : decode cX7_isSettingValue 76 = .ok (.iconst 1, 1) := by decide +kernel
theorem dX7_isSettingValue_77 : decode cX7_isSettingValue 77 = .ok (.goto 4, 3) := by decide +kernel
theorem dX7_isSettingValue_80 : decode cX7_isSettingValue 80 = .ok (.iconst 0, 1) := by decide +kernel
theorem dX7_isSettingValue_81 : decode cX7_isSettingValue 81 = .ok (.ireturn, 1) := by decide +kernel
theorem dX7_isSettingValue_82 : decode cX7_isSettingValue 82 = .ok (.iload_n 1, 1) := by decide +kernel
theorem dX7_isSettingValue_83 : decode cX7_isSettingValue 83 = .ok (.ifCond .lt 12, 3) := by decide +kernel
theorem dX7_isSettingValue_86 : decode cX7_isSettingValue 86 = .ok (.iload_n 1, 1) := by decide +kernel
theorem dX7_isSettingValue_87 : decode cX7_isSettingValue 87 = .ok (.iconst 4, 1) := by decide +kernel
theorem dX7_isSettingValue_88 : decode cX7_isSettingValue 88 = .ok (.if_icmp .ge 7, 3) := by decide +kernel
theorem dX7_isSettingValue_91 : decode cX7_isSettingValue 91 = .ok (.iconst 1, 1) := by decide +kernel
theorem dX7_isSettingValue_92 : decode cX7_isSettingValue 92 = .ok (.goto 4, 3) := by decide +kernel
theorem dX7_isSettingValue_95 : decode cX7_isSettingValue 95 = .ok (.iconst 0, 1) := by decide +kernel
theorem dX7_isSettingValue_96 : decode cX7_isSettingValue 96 = .ok (.ireturn, 1) := by decide +kernel
theorem dX7_isSettingValue_97 : decode cX7_isSettingValue 97 = .ok (.iconst 0, 1) := by decide +kernel
theorem dX7_isSettingValue_98 : decode cX7_isSettingValue 98 = .ok (.ireturn, 1) := by decide +kernel
theorem dX7_nextLot_0 : decode cX7_nextLot 0 = .ok (.sipush 421, 3) := by decide +kernel
theorem dX7_nextLot_3 : decode cX7_nextLot 3 = .ok (.iload_n 0, 1) := by decide +kernel
theorem dX7_nextLot_4 : decode cX7_nextLot 4 = .ok (.imul, 1) := by decide +kernel
theorem dX7_nextLot_5 : decode cX7_nextLot 5 = .ok (.sipush 1663, 3) := by decide +kernel
theorem dX7_nextLot_8 : decode cX7_nextLot 8 = .ok (.iadd, 1) := by decide +kernel
theorem dX7_nextLot_9 : decode cX7_nextLot 9 = .ok (.sipush 10000, 3) := by decide +kernel
theorem dX7_nextLot_12 : decode cX7_nextLot 12 = .ok (.irem, 1) := by decide +kernel
theorem dX7_nextLot_13 : decode cX7_nextLot 13 = .ok (.ireturn, 1) := by decide +kernel
set_option maxRecDepth 20000 in
theorem ggX8_init_X8_roots : GoodIn wsX8_init wsX8_roots := goodIn_r _ [18, 5, 19, 20, 17, 21, 22, 23, 24, 25, 26, 27, 28, 29, 30, 31, 32, 33, 34, 35, 36, 37, 38, 39, 40, 41, 42, 43, 44, 45, 46, 47, 48, 49] (by decide +kernel) (by decide +kernel)
set_option maxRecDepth 20000 in
theorem gX8_init_X8_roots : GoodIn wsX8_init (wsV RX8 35 RX8 yX8_roots wsX8_roots) := goodIn_app (goodIn_of _ (by decide +kernel)) ggX8_init_X8_roots
theorem dX8_init_0 : decode cX8_init 0 = .ok (.aload_n 0, 1) := by decide +kernel
theorem dX8_init_1 : decode cX8_init 1 = .ok (.invokespecial 1, 3) := by decide +kernel
theorem dX8_init_4 : decode cX8_init 4 = .ok (.aload_n 0, 1) := by decide +kernel
theorem dX8_init_5 : decode cX8_init 5 = .ok (.sipush 373, 3) := by decide +kernel
theorem dX8_init_8 : decode cX8_init 8 = .ok (.newarray .int, 2) := by decide +kernel
theorem dX8_init_10 : decode cX8_init 10 = .ok (.putfield 7, 3) := by decide +kernel
theorem dX8_init_13 : decode cX8_init 13 = .ok (.aload_n 0, 1) := by decide +kernel
theorem dX8_init_14 : decode cX8_init 14 = .ok (.sipush 373, 3) := by decide +kernel
theorem dX8_init_17 : decode cX8_init 17 = .ok (.newarray .int, 2) := by decide +kernel
theorem dX8_init_19 : decode cX8_init 19 = .ok (.putfield 13, 3) := by decide +kernel
theorem dX8_init_22 : decode cX8_init 22 = .ok (.aload_n 0, 1) := by decide +kernel
theorem dX8_init_23 : decode cX8_init 23 = .ok (.sipush 1492, 3) := by decide +kernel
theorem dX8_init_26 : decode cX8_init 26 = .ok (.newarray .int, 2) := by decide +kernel
theorem dX8_init_28 : decode cX8_init 28 = .ok (.putfield 16, 3) := by decide +kernel
theorem dX8_init_31 : decode cX8_init 31 = .ok (.aload_n 0, 1) := by decide +kernel
theorem dX8_init_32 : decode cX8_init 32 = .ok (.sipush 373, 3) := by decide +kernel
theorem dX8_init_35 : decode cX8_init 35 = .ok (.newarray .int, 2) := by decide +kernel
theorem dX8_init_37 : decode cX8_init 37 = .ok (.putfield 19, 3) := by decide +kernel
theorem dX8_init_40 : decode cX8_init 40 = .ok (.aload_n 0, 1) := by decide +kernel
theorem dX8_init_41 : decode cX8_init 41 = .ok (.bipush 60, 2) := by decide +kernel
theorem dX8_init_43 : decode cX8_init 43 = .ok (.newarray .int, 2) := by decide +kernel
theorem dX8_init_45 : decode cX8_init 45 = .ok (.putfield 22, 3) := by decide +kernel
theorem dX8_init_48 : decode cX8_init 48 = .ok (.aload_n 0, 1) := by decide +kernel
theorem dX8_init_49 : decode cX8_init 49 = .ok (.bipush 121, 2) := by decide +kernel
theorem dX8_init_51 : decode cX8_init 51 = .ok (.newarray .boolean, 2) := by decide +kernel
theorem dX8_init_53 : decode cX8_init 53 = .ok (.putfield 25, 3) := by decide +kernel
theorem dX8_init_56 : decode cX8_init 56 = .ok (.aload_n 0, 1) := by decide +kernel
theorem dX8_init_57 : decode cX8_init 57 = .ok (.bipush 121, 2) := by decide +kernel
theorem dX8_init_59 : decode cX8_init 59 = .ok (.newarray .int, 2) := by decide +kernel
theorem dX8_init_61 : decode cX8_init 61 = .ok (.putfield 29, 3) := by decide +kernel
theorem dX8_init_64 : decode cX8_init 64 = .ok (.aload_n 0, 1) := by decide +kernel
theorem dX8_init_65 : decode cX8_init 65 = .ok (.bipush 121, 2) := by decide +kernel
theorem dX8_init_67 : decode cX8_init 67 = .ok (.newarray .int, 2) := by decide +kernel
theorem dX8_init_69 : decode cX8_init 69 = .ok (.putfield 32, 3) := by decide +kernel
theorem dX8_init_72 : decode cX8_init 72 = .ok (.aload_n 0, 1) := by decide +kernel
theorem dX8_init_73 : decode cX8_init 73 = .ok (.getfield 7, 3) := by decide +kernel
theorem dX8_init_76 : decode cX8_init 76 = .ok (.iconst 1, 1) := by decide +kernel
theorem dX8_init_77 : decode cX8_init 77 = .ok (.iconst 1, 1) := by decide +kernel
theorem dX8_init_78 : decode cX8_init 78 = .ok (.iastore, 1) := by decide +kernel
theorem dX8_init_79 : decode cX8_init 79 = .ok (.aload_n 0, 1) := by decide +kernel
theorem dX8_init_80 : decode cX8_init 80 = .ok (.getfield 7, 3) := by decide +kernel
theorem dX8_init_83 : decode cX8_init 83 = .ok (.iconst 2, 1) := by decide +kernel
theorem dX8_init_84 : decode cX8_init 84 = .ok (.iconst 4, 1) := by decide +kernel
theorem dX8_init_85 : decode cX8_init 85 = .ok (.iastore, 1) := by decide +kernel
theorem dX8_init_86 : decode cX8_init 86 = .ok (.aload_n 0, 1) := by decide +kernel
theorem dX8_init_87 : decode cX8_init 87 = .ok (.getfield 7, 3) := by decide +kernel
theorem dX8_init_90 : decode cX8_init 90 = .ok (.iconst 3, 1) := by decide +kernel
theorem dX8_init_91 : decode cX8_init 91 = .ok (.bipush 60, 2) := by decide +kernel
theorem dX8_init_93 : decode cX8_init 93 = .ok (.iastore, 1) := by decide +kernel
theorem dX8_init_94 : decode cX8_init 94 = .ok (.aload_n 0, 1) := by decide +kernel
theorem dX8_init_95 : decode cX8_init 95 = .ok (.getfield 7, 3) := by decide +kernel
theorem dX8_init_98 : decode cX8_init 98 = .ok (.iconst 5, 1) := by decide +kernel
theorem dX8_init_99 : decode cX8_init 99 = .ok (.iconst 2, 1) := by decide +kernel
theorem dX8_init_100 : decode cX8_init 100 = .ok (.iastore, 1) := by decide +kernel
theorem dX8_init_101 : decode cX8_init 101 = .ok (.aload_n 0, 1) := by decide +kernel
theorem dX8_init_102 : decode cX8_init 102 = .ok (.iconst 0, 1) := by decide +kernel
theorem dX8_init_103 : decode cX8_init 103 = .ok (.invokevirtual 35, 3) := by decide +kernel
theorem dX8_init_106 : decode cX8_init 106 = .ok (.return_, 1) := by decide +kernel
theorem dX8_in_0 : decode cX8_in 0 = .ok (.iload_n 0, 1) := by decide +kernel
theorem dX8_in_1 : decode cX8_in 1 = .ok (.iload_n 1, 1) := by decide +kernel
theorem dX8_in_2 : decode cX8_in 2 = .ok (.if_icmp .lt 12, 3) := by decide +kernel
theorem dX8_in_5 : decode cX8_in 5 = .ok (.iload_n 0, 1) := by decide +kernel
theorem dX8_in_6 : decode cX8_in 6 = .ok (.iload_n 2, 1) := by decide +kernel
theorem dX8_in_7 : decode cX8_in 7 = .ok (.if_icmp .gt 7, 3) := by decide +kernel
theorem dX8_in_10 : decode cX8_in 10 = .ok (.iconst 1, 1) := by decide +kernel
theorem dX8_in_11 : decode cX8_in 11 = .ok (.goto 4, 3) := by decide +kernel
theorem dX8_in_14 : decode cX8_in 14 = .ok (.iconst 0, 1) := by decide +kernel
theorem dX8_in_15 : decode cX8_in 15 = .ok (.ireturn, 1) := by decide +kernel
theorem dX8_copies_0 : decode cX8_copies 0 = .ok (.iconst 0, 1) := by decide +kernel
theorem dX8_copies_1 : decode cX8_copies 1 = .ok (.istore 4, 2) := by decide +kernel
theorem dX8_copies_3 : decode cX8_copies 3 = .ok (.iload 4, 2) := by decide +kernel
theorem dX8_copies_5 : decode cX8_copies 5 = .ok (.sipush 373, 3) := by decide +kernel
theorem dX8_copies_8 : decode cX8_copies 8 = .ok (.if_icmp .ge 21, 3) := by decide +kernel
theorem dX8_copies_11 : decode cX8_copies 11 = .ok (.aload_n 2, 1) := by decide +kernel
theorem dX8_copies_12 : decode cX8_copies 12 = .ok (.iload_n 3, 1) := by decide +kernel
theorem dX8_copies_13 : decode cX8_copies 13 = .ok (.iload 4, 2) := by decide +kernel
theorem dX8_copies_15 : decode cX8_copies 15 = .ok (.iadd, 1) := by decide +kernel
theorem dX8_copies_16 : decode cX8_copies 16 = .ok (.aload_n 0, 1) := by decide +kernel
theorem dX8_copies_17 : decode cX8_copies 17 = .ok (.iload_n 1, 1) := by decide +kernel
theorem dX8_copies_18 : decode cX8_copies 18 = .ok (.iload 4, 2) := by decide +kernel
theorem dX8_copies_20 : decode cX8_copies 20 = .ok (.iadd, 1) := by decide +kernel
theorem dX8_copies_21 : decode cX8_copies 21 = .ok (.iaload, 1) := by decide +kernel
theorem dX8_copies_22 : decode cX8_copies 22 = .ok (.iastore, 1) := by decide +kernel
theorem dX8_copies_23 : decode cX8_copies 23 = .ok (.iinc 4 1, 3) := by decide +kernel
theorem dX8_copies_26 : decode cX8_copies 26 = .ok (.goto (-23), 3) := by decide +kernel
theorem dX8_copies_29 : decode cX8_copies 29 = .ok (.return_, 1) := by decide +kernel
set_option maxRecDepth 20000 in
theorem ggX8_records_X8_copies : GoodIn wsX8_records wsX8_copies := goodIn_r _ [7] (by decide +kernel) (by decide +kernel)
set_option maxRecDepth 20000 in
theorem gX8_records_X8_copies : GoodIn wsX8_records (va_wsS RX8 43 yX8_copies wsX8_copies) := goodIn_app (goodIn_of _ (by decide +kernel)) ggX8_records_X8_copies
theorem dX8_records_0 : decode cX8_records 0 = .ok (.aload_n 0, 1) := by decide +kernel
theorem dX8_records_1 : decode cX8_records 1 = .ok (.getfield 39, 3) := by decide +kernel
theorem dX8_records_4 : decode cX8_records 4 = .ok (.iconst 4, 1) := by decide +kernel
theorem dX8_records_5 : decode cX8_records 5 = .ok (.if_icmp .ne 44, 3) := by decide +kernel
theorem dX8_records_8 : decode cX8_records 8 = .ok (.iconst 0, 1) := by decide +kernel
theorem dX8_records_9 : decode cX8_records 9 = .ok (.istore_n 1, 1) := by decide +kernel
theorem dX8_records_10 : decode cX8_records 10 = .ok (.iload_n 1, 1) := by decide +kernel
theorem dX8_records_11 : decode cX8_records 11 = .ok (.sipush 1119, 3) := by decide +kernel
theorem dX8_records_14 : decode cX8_records 14 = .ok (.if_icmp .ge 25, 3) := by decide +kernel
theorem dX8_records_17 : decode cX8_records 17 = .ok (.aload_n 0, 1) := by decide +kernel
theorem dX8_records_18 : decode cX8_records 18 = .ok (.getfield 16, 3) := by decide +kernel
theorem dX8_records_21 : decode cX8_records 21 = .ok (.iload_n 1, 1) := by decide +kernel
theorem dX8_records_22 : decode cX8_records 22 = .ok (.aload_n 0, 1) := by decide +kernel
theorem dX8_records_23 : decode cX8_records 23 = .ok (.getfield 16, 3) := by decide +kernel
theorem dX8_records_26 : decode cX8_records 26 = .ok (.iload_n 1, 1) := by decide +kernel
theorem dX8_records_27 : decode cX8_records 27 = .ok (.sipush 373, 3) := by decide +kernel
theorem dX8_records_30 : decode cX8_records 30 = .ok (.iadd, 1) := by decide +kernel
theorem dX8_records_31 : decode cX8_records 31 = .ok (.iaload, 1) := by decide +kernel
theorem dX8_records_32 : decode cX8_records 32 = .ok (.iastore, 1) := by decide +kernel
theorem dX8_records_33 : decode cX8_records 33 = .ok (.iinc 1 1, 3) := by decide +kernel
theorem dX8_records_36 : decode cX8_records 36 = .ok (.goto (-26), 3) := by decide +kernel
theorem dX8_records_39 : decode cX8_records 39 = .ok (.aload_n 0, 1) := by decide +kernel
theorem dX8_records_40 : decode cX8_records 40 = .ok (.dup, 1) := by decide +kernel
theorem dX8_records_41 : decode cX8_records 41 = .ok (.getfield 39, 3) := by decide +kernel
theorem dX8_records_44 : decode cX8_records 44 = .ok (.iconst 1, 1) := by decide +kernel
theorem dX8_records_45 : decode cX8_records 45 = .ok (.isub, 1) := by decide +kernel
theorem dX8_records_46 : decode cX8_records 46 = .ok (.putfield 39, 3) := by decide +kernel
theorem dX8_records_49 : decode cX8_records 49 = .ok (.aload_n 0, 1) := by decide +kernel
theorem dX8_records_50 : decode cX8_records 50 = .ok (.getfield 7, 3) := by decide +kernel
theorem dX8_records_53 : decode cX8_records 53 = .ok (.iconst 0, 1) := by decide +kernel
theorem dX8_records_54 : decode cX8_records 54 = .ok (.aload_n 0, 1) := by decide +kernel
theorem dX8_records_55 : decode cX8_records 55 = .ok (.getfield 16, 3) := by decide +kernel
theorem dX8_records_58 : decode cX8_records 58 = .ok (.sipush 373, 3) := by decide +kernel
theorem dX8_records_61 : decode cX8_records 61 = .ok (.aload_n 0, 1) := by decide +kernel
theorem dX8_records_62 : decode cX8_records 62 = .ok (.getfield 39, 3) := by decide +kernel
theorem dX8_records_65 : decode cX8_records 65 = .ok (.imul, 1) := by decide +kernel
theorem dX8_records_66 : decode cX8_records 66 = .ok (.invokestatic 43, 3) := by decide +kernel
theorem dX8_records_69 : decode cX8_records 69 = .ok (.aload_n 0, 1) := by decide +kernel
theorem dX8_records_70 : decode cX8_records 70 = .ok (.dup, 1) := by decide +kernel
theorem dX8_records_71 : decode cX8_records 71 = .ok (.getfield 39, 3) := by decide +kernel
theorem dX8_records_74 : decode cX8_records 74 = .ok (.iconst 1, 1) := by decide +kernel
theorem dX8_records_75 : decode cX8_records 75 = .ok (.iadd, 1) := by decide +kernel
theorem dX8_records_76 : decode cX8_records 76 = .ok (.putfield 39, 3) := by decide +kernel
theorem dX8_records_79 : decode cX8_records 79 = .ok (.return_, 1) := by decide +kernel
set_option maxRecDepth 20000 in
theorem ggX8_isCell_X8_in : GoodIn wsX8_isCell wsX8_in := goodIn_r _ [4] (by decide +kernel) (by decide +kernel)
set_option maxRecDepth 20000 in
theorem gX8_isCell_X8_in : GoodIn wsX8_isCell (va_wsS RX8 47 yX8_in wsX8_in) := goodIn_app (goodIn_of _ (by decide +kernel)) ggX8_isCell_X8_in
theorem dX8_isCell_0 : decode cX8_isCell 0 = .ok (.iload_n 0, 1) := by decide +kernel
theorem dX8_isCell_1 : decode cX8_isCell 1 = .ok (.iconst 0, 1) := by decide +kernel
theorem dX8_isCell_2 : decode cX8_isCell 2 = .ok (.bipush 120, 2) := by decide +kernel
theorem dX8_isCell_4 : decode cX8_isCell 4 = .ok (.invokestatic 47, 3) := by decide +kernel
theorem dX8_isCell_7 : decode cX8_isCell 7 = .ok (.ireturn, 1) := by decide +kernel
theorem dX8_size_0 : decode cX8_size 0 = .ok (.iload_n 0, 1) := by decide +kernel
theorem dX8_size_1 : decode cX8_size 1 = .ok (.ifCond .ge 8, 3) := by decide +kernel
theorem dX8_size_4 : decode cX8_size 4 = .ok (.iload_n 0, 1) := by decide +kernel
theorem dX8_size_5 : decode cX8_size 5 = .ok (.ineg, 1) := by decide +kernel
theorem dX8_size_6 : decode cX8_size 6 = .ok (.goto 4, 3) := by decide +kernel
theorem dX8_size_9 : decode cX8_size 9 = .ok (.iload_n 0, 1) := by decide +kernel
theorem dX8_size_10 : decode cX8_size 10 = .ok (.ireturn, 1) := by decide +kernel
set_option maxRecDepth 20000 in
theorem ggX8_ringOf_X8_size : GoodIn wsX8_ringOf wsX8_size := goodIn_r _ [4] (by decide +kernel) (by decide +kernel)
set_option maxRecDepth 20000 in
theorem gX8_ringOf_X8_size : GoodIn wsX8_ringOf (va_wsS RX8 51 yX8_size wsX8_size) := goodIn_app (goodIn_of _ (by decide +kernel)) ggX8_ringOf_X8_size
theorem dX8_ringOf_0 : decode cX8_ringOf 0 = .ok (.iload_n 0, 1) := by decide +kernel
theorem dX8_ringOf_1 : decode cX8_ringOf 1 = .ok (.bipush 11, 2) := by decide +kernel
theorem dX8_ringOf_3 : decode cX8_ringOf 3 = .ok (.idiv, 1) := by decide +kernel
theorem dX8_ringOf_4 : decode cX8_ringOf 4 = .ok (.iconst 5, 1) := by decide +kernel
theorem dX8_ringOf_5 : decode cX8_ringOf 5 = .ok (.isub, 1) := by decide +kernel
theorem dX8_ringOf_6 : decode cX8_ringOf 6 = .ok (.invokestatic 51, 3) := by decide +kernel
theorem dX8_ringOf_9 : decode cX8_ringOf 9 = .ok (.istore_n 1, 1) := by decide +kernel
theorem dX8_ringOf_10 : decode cX8_ringOf 10 = .ok (.iload_n 0, 1) := by decide +kernel
theorem dX8_ringOf_11 : decode cX8_ringOf 11 = .ok (.bipush 11, 2) := by decide +kernel
theorem dX8_ringOf_13 : decode cX8_ringOf 13 = .ok (.irem, 1) := by decide +kernel
theorem dX8_ringOf_14 : decode cX8_ringOf 14 = .ok (.iconst 5, 1) := by decide +kernel
theorem dX8_ringOf_15 : decode cX8_ringOf 15 = .ok (.isub, 1) := by decide +kernel
theorem dX8_ringOf_16 : decode cX8_ringOf 16 = .ok (.invokestatic 51, 3) := by decide +kernel
theorem dX8_ringOf_19 : decode cX8_ringOf 19 = .ok (.istore_n 2, 1) := by decide +kernel
theorem dX8_ringOf_20 : decode cX8_ringOf 20 = .ok (.iload_n 1, 1) := by decide +kernel
theorem dX8_ringOf_21 : decode cX8_ringOf 21 = .ok (.iload_n 2, 1) := by decide +kernel
theorem dX8_ringOf_22 : decode cX8_ringOf 22 = .ok (.if_icmp .le 7, 3) := by decide +kernel
theorem dX8_ringOf_25 : decode cX8_ringOf 25 = .ok (.iload_n 1, 1) := by decide +kernel
theorem dX8_ringOf_26 : decode cX8_ringOf 26 = .ok (.goto 4, 3) := by decide +kernel
theorem dX8_ringOf_29 : decode cX8_ringOf 29 = .ok (.iload_n 2, 1) := by decide +kernel
theorem dX8_ringOf_30 : decode cX8_ringOf 30 = .ok (.ireturn, 1) := by decide +kernel
set_option maxRecDepth 20000 in
theorem ggX8_beside_X8_in : GoodIn wsX8_beside wsX8_in := goodIn_r _ [4] (by decide +kernel) (by decide +kernel)
set_option maxRecDepth 20000 in
theorem gX8_beside_X8_in : GoodIn wsX8_beside (va_wsS RX8 47 yX8_in wsX8_in) := goodIn_app (goodIn_of _ (by decide +kernel)) ggX8_beside_X8_in
theorem dX8_beside_0 : decode cX8_beside 0 = .ok (.iload_n 0, 1) := by decide +kernel
theorem dX8_beside_1 : decode cX8_beside 1 = .ok (.bipush 11, 2) := by decide +kernel
theorem dX8_beside_3 : decode cX8_beside 3 = .ok (.idiv, 1) := by decide +kernel
theorem dX8_beside_4 : decode cX8_beside 4 = .ok (.iload_n 1, 1) := by decide +kernel
theorem dX8_beside_5 : decode cX8_beside 5 = .ok (.ifCond .ne 7, 3) := by decide +kernel
theorem dX8_beside_8 : decode cX8_beside 8 = .ok (.iconst (-1), 1) := by decide +kernel
theorem dX8_beside_9 : decode cX8_beside 9 = .ok (.goto 13, 3) := by decide +kernel
theorem dX8_beside_12 : decode cX8_beside 12 = .ok (.iload_n 1, 1) := by decide +kernel
theorem dX8_beside_13 : decode cX8_beside 13 = .ok (.iconst 2, 1) := by decide +kernel
theorem dX8_beside_14 : decode cX8_beside 14 = .ok (.if_icmp .ne 7, 3) := by decide +kernel
theorem dX8_beside_17 : decode cX8_beside 17 = .ok (.iconst 1, 1) := by decide +kernel
theorem dX8_beside_18 : decode cX8_beside 18 = .ok (.goto 4, 3) := by decide +kernel
theorem dX8_beside_21 : decode cX8_beside 21 = .ok (.iconst 0, 1) := by decide +kernel
theorem dX8_beside_22 : decode cX8_beside 22 = .ok (.iadd, 1) := by decide +kernel
theorem dX8_beside_23 : decode cX8_beside 23 = .ok (.istore_n 2, 1) := by decide +kernel
theorem dX8_beside_24 : decode cX8_beside 24 = .ok (.iload_n 0, 1) := by decide +kernel
theorem dX8_beside_25 : decode cX8_beside 25 = .ok (.bipush 11, 2) := by decide +kernel
theorem dX8_beside_27 : decode cX8_beside 27 = .ok (.irem, 1) := by decide +kernel
theorem dX8_beside_28 : decode cX8_beside 28 = .ok (.iload_n 1, 1) := by decide +kernel
theorem dX8_beside_29 : decode cX8_beside 29 = .ok (.iconst 1, 1) := by decide +kernel
theorem dX8_beside_30 : decode cX8_beside 30 = .ok (.if_icmp .ne 7, 3) := by decide +kernel
theorem dX8_beside_33 : decode cX8_beside 33 = .ok (.iconst 1, 1) := by decide +kernel
theorem dX8_beside_34 : decode cX8_beside 34 = .ok (.goto 13, 3) := by decide +kernel
theorem dX8_beside_37 : decode cX8_beside 37 = .ok (.iload_n 1, 1) := by decide +kernel
theorem dX8_beside_38 : decode cX8_beside 38 = .ok (.iconst 3, 1) := by decide +kernel
theorem dX8_beside_39 : decode cX8_beside 39 = .ok (.if_icmp .ne 7, 3) := by decide +kernel
theorem dX8_beside_42 : decode cX8_beside 42 = .ok (.iconst (-1), 1) := by decide +kernel
theorem dX8_beside_43 : decode cX8_beside 43 = .ok (.goto 4, 3) := by decide +kernel
theorem dX8_beside_46 : decode cX8_beside 46 = .ok (.iconst 0, 1) := by decide +kernel
theorem dX8_beside_47 : decode cX8_beside 47 = .ok (.iadd, 1) := by decide +kernel
theorem dX8_beside_48 : decode cX8_beside 48 = .ok (.istore_n 3, 1) := by decide +kernel
theorem dX8_beside_49 : decode cX8_beside 49 = .ok (.iload_n 2, 1) := by decide +kernel
theorem dX8_beside_50 : decode cX8_beside 50 = .ok (.iconst 0, 1) := by decide +kernel
theorem dX8_beside_51 : decode cX8_beside 51 = .ok (.bipush 10, 2) := by decide +kernel
theorem dX8_beside_53 : decode cX8_beside 53 = .ok (.invokestatic 47, 3) := by decide +kernel
theorem dX8_beside_56 : decode cX8_beside 56 = .ok (.ifCond .eq 22, 3) := by decide +kernel
theorem dX8_beside_59 : decode cX8_beside 59 = .ok (.iload_n 3, 1) := by decide +kernel
theorem dX8_beside_60 : decode cX8_beside 60 = .ok (.iconst 0, 1) := by decide +kernel
theorem dX8_beside_61 : decode cX8_beside 61 = .ok (.bipush 10, 2) := by decide +kernel
theorem dX8_beside_63 : decode cX8_beside 63 = .ok (.invokestatic 47, 3) := by decide +kernel
theorem dX8_beside_66 : decode cX8_beside 66 = .ok (.ifCond .eq 12, 3) := by decide +kernel
theorem dX8_beside_69 : decode cX8_beside 69 = .ok (.bipush 11, 2) := by decide +kernel
theorem dX8_beside_71 : decode cX8_beside 71 = .ok (.iload_n 2, 1) := by decide +kernel
theorem dX8_beside_72 : decode cX8_beside 72 = .ok (.imul, 1) := by decide +kernel
theorem dX8_beside_73 : decode cX8_beside 73 = .ok (.iload_n 3, 1) := by decide +kernel
theorem dX8_beside_74 : decode cX8_beside 74 = .ok (.iadd, 1) := by decide +kernel
theorem dX8_beside_75 : decode cX8_beside 75 = .ok (.goto 5, 3) := by decide +kernel
theorem dX8_beside_78 : decode cX8_beside 78 = .ok (.bipush (-4), 2) := by decide +kernel
theorem dX8_beside_80 : decode cX8_beside 80 = .ok (.ireturn, 1) := by decide +kernel
theorem dX8_rimCell_0 : decode cX8_rimCell 0 = .ok (.iload_n 0, 1) := by decide +kernel
theorem dX8_rimCell_1 : decode cX8_rimCell 1 = .ok (.bipush 11, 2) := by decide +kernel
theorem dX8_rimCell_3 : decode cX8_rimCell 3 = .ok (.if_icmp .ge 7, 3) := by decide +kernel
theorem dX8_rimCell_6 : decode cX8_rimCell 6 = .ok (.iload_n 0, 1) := by decide +kernel
theorem dX8_rimCell_7 : decode cX8_rimCell 7 = .ok (.goto 43, 3) := by decide +kernel
theorem dX8_rimCell_10 : decode cX8_rimCell 10 = .ok (.iload_n 0, 1) := by decide +kernel
theorem dX8_rimCell_11 : decode cX8_rimCell 11 = .ok (.bipush 21, 2) := by decide +kernel
theorem dX8_rimCell_13 : decode cX8_rimCell 13 = .ok (.if_icmp .ge 16, 3) := by decide +kernel
theorem dX8_rimCell_16 : decode cX8_rimCell 16 = .ok (.bipush 11, 2) := by decide +kernel
theorem dX8_rimCell_18 : decode cX8_rimCell 18 = .ok (.iload_n 0, 1) := by decide +kernel
theorem dX8_rimCell_19 : decode cX8_rimCell 19 = .ok (.bipush 10, 2) := by decide +kernel
theorem dX8_rimCell_21 : decode cX8_rimCell 21 = .ok (.isub, 1) := by decide +kernel
theorem dX8_rimCell_22 : decode cX8_rimCell 22 = .ok (.imul, 1) := by decide +kernel
theorem dX8_rimCell_23 : decode cX8_rimCell 23 = .ok (.bipush 10, 2) := by decide +kernel
theorem dX8_rimCell_25 : decode cX8_rimCell 25 = .ok (.iadd, 1) := by decide +kernel
theorem dX8_rimCell_26 : decode cX8_rimCell 26 = .ok (.goto 24, 3) := by decide +kernel
theorem dX8_rimCell_29 : decode cX8_rimCell 29 = .ok (.iload_n 0, 1) := by decide +kernel
theorem dX8_rimCell_30 : decode cX8_rimCell 30 = .ok (.bipush 31, 2) := by decide +kernel
theorem dX8_rimCell_32 : decode cX8_rimCell 32 = .ok (.if_icmp .ge 11, 3) := by decide +kernel
theorem dX8_rimCell_35 : decode cX8_rimCell 35 = .ok (.sipush 140, 3) := by decide +kernel
theorem dX8_rimCell_38 : decode cX8_rimCell 38 = .ok (.iload_n 0, 1) := by decide +kernel
theorem dX8_rimCell_39 : decode cX8_rimCell 39 = .ok (.isub, 1) := by decide +kernel
theorem dX8_rimCell_40 : decode cX8_rimCell 40 = .ok (.goto 10, 3) := by decide +kernel
theorem dX8_rimCell_43 : decode cX8_rimCell 43 = .ok (.bipush 11, 2) := by decide +kernel
theorem dX8_rimCell_45 : decode cX8_rimCell 45 = .ok (.bipush 40, 2) := by decide +kernel
theorem dX8_rimCell_47 : decode cX8_rimCell 47 = .ok (.iload_n 0, 1) := by decide +kernel
theorem dX8_rimCell_48 : decode cX8_rimCell 48 = .ok (.isub, 1) := by decide +kernel
theorem dX8_rimCell_49 : decode cX8_rimCell 49 = .ok (.imul, 1) := by decide +kernel
theorem dX8_rimCell_50 : decode cX8_rimCell 50 = .ok (.ireturn, 1) := by decide +kernel
set_option maxRecDepth 20000 in
theorem ggX8_rimOf_X8_rimCell : GoodIn wsX8_rimOf wsX8_rimCell := goodIn_r _ [4] (by decide +kernel) (by decide +kernel)
set_option maxRecDepth 20000 in
theorem gX8_rimOf_X8_rimCell : GoodIn wsX8_rimOf (va_wsS RX8 55 yX8_rimCell wsX8_rimCell) := goodIn_app (goodIn_of _ (by decide +kernel)) ggX8_rimOf_X8_rimCell
theorem dX8_rimOf_0 : decode cX8_rimOf 0 = .ok (.bipush (-4), 2) := by decide +kernel
theorem dX8_rimOf_2 : decode cX8_rimOf 2 = .ok (.istore_n 1, 1) := by decide +kernel
theorem dX8_rimOf_3 : decode cX8_rimOf 3 = .ok (.iconst 0, 1) := by decide +kernel
theorem dX8_rimOf_4 : decode cX8_rimOf 4 = .ok (.istore_n 2, 1) := by decide +kernel
theorem dX8_rimOf_5 : decode cX8_rimOf 5 = .ok (.iload_n 2, 1) := by decide +kernel
theorem dX8_rimOf_6 : decode cX8_rimOf 6 = .ok (.bipush 40, 2) := by decide +kernel
theorem dX8_rimOf_8 : decode cX8_rimOf 8 = .ok (.if_icmp .ge 23, 3) := by decide +kernel
theorem dX8_rimOf_11 : decode cX8_rimOf 11 = .ok (.iload_n 2, 1) := by decide +kernel
theorem dX8_rimOf_12 : decode cX8_rimOf 12 = .ok (.invokestatic 55, 3) := by decide +kernel
theorem dX8_rimOf_15 : decode cX8_rimOf 15 = .ok (.iload_n 0, 1) := by decide +kernel
theorem dX8_rimOf_16 : decode cX8_rimOf 16 = .ok (.if_icmp .ne 7, 3) := by decide +kernel
theorem dX8_rimOf_19 : decode cX8_rimOf 19 = .ok (.iload_n 2, 1) := by decide +kernel
theorem dX8_rimOf_20 : decode cX8_rimOf 20 = .ok (.goto 4, 3) := by decide +kernel
theorem dX8_rimOf_23 : decode cX8_rimOf 23 = .ok (.iload_n 1, 1) := by decide +kernel
theorem dX8_rimOf_24 : decode cX8_rimOf 24 = .ok (.istore_n 1, 1) := by decide +kernel
theorem dX8_rimOf_25 : decode cX8_rimOf 25 = .ok (.iinc 2 1, 3) := by decide +kernel
theorem dX8_rimOf_28 : decode cX8_rimOf 28 = .ok (.goto (-23), 3) := by decide +kernel
theorem dX8_rimOf_31 : decode cX8_rimOf 31 = .ok (.iload_n 1, 1) := by decide +kernel
theorem dX8_rimOf_32 : decode cX8_rimOf 32 = .ok (.ireturn, 1) := by decide +kernel
set_option maxRecDepth 20000 in
theorem ggX8_isRim_X8_in : GoodIn wsX8_isRim wsX8_in := goodIn_r _ [4] (by decide +kernel) (by decide +kernel)
set_option maxRecDepth 20000 in
theorem gX8_isRim_X8_in : GoodIn wsX8_isRim (va_wsS RX8 47 yX8_in wsX8_in) := goodIn_app (goodIn_of _ (by decide +kernel)) ggX8_isRim_X8_in
theorem dX8_isRim_0 : decode cX8_isRim 0 = .ok (.iload_n 0, 1) := by decide +kernel
theorem dX8_isRim_1 : decode cX8_isRim 1 = .ok (.iconst 0, 1) := by decide +kernel
theorem dX8_isRim_2 : decode cX8_isRim 2 = .ok (.bipush 39, 2) := by decide +kernel
theorem dX8_isRim_4 : decode cX8_isRim 4 = .ok (.invokestatic 47, 3) := by decide +kernel
theorem dX8_isRim_7 : decode cX8_isRim 7 = .ok (.ireturn, 1) := by decide +kernel
set_option maxRecDepth 20000 in
theorem ggX8_isGrain_X8_in : GoodIn wsX8_isGrain wsX8_in := goodIn_r _ [5] (by decide +kernel) (by decide +kernel)
set_option maxRecDepth 20000 in
theorem gX8_isGrain_X8_in : GoodIn wsX8_isGrain (va_wsS RX8 47 yX8_in wsX8_in) := goodIn_app (goodIn_of _ (by decide +kernel)) ggX8_isGrain_X8_in
theorem dX8_isGrain_0 : decode cX8_isGrain 0 = .ok (.iload_n 1, 1) := by decide +kernel
theorem dX8_isGrain_1 : decode cX8_isGrain 1 = .ok (.iconst 0, 1) := by decide +kernel
theorem dX8_isGrain_2 : decode cX8_isGrain 2 = .ok (.aload_n 0, 1) := by decide +kernel
theorem dX8_isGrain_3 : decode cX8_isGrain 3 = .ok (.getfield 7, 3) := by decide +kernel
theorem dX8_isGrain_6 : decode cX8_isGrain 6 = .ok (.iconst 0, 1) := by decide +kernel
theorem dX8_isGrain_7 : decode cX8_isGrain 7 = .ok (.iaload, 1) := by decide +kernel
theorem dX8_isGrain_8 : decode cX8_isGrain 8 = .ok (.iconst 1, 1) := by decide +kernel
theorem dX8_isGrain_9 : decode cX8_isGrain 9 = .ok (.isub, 1) := by decide +kernel
theorem dX8_isGrain_10 : decode cX8_isGrain 10 = .ok (.invokestatic 47, 3) := by decide +kernel
theorem dX8_isGrain_13 : decode cX8_isGrain 13 = .ok (.ireturn, 1) := by decide +kernel
theorem dX8_of_0 : decode cX8_of 0 = .ok (.aload_n 0, 1) := by decide +kernel
theorem dX8_of_1 : decode cX8_of 1 = .ok (.getfield 7, 3) := by decide +kernel
theorem dX8_of_4 : decode cX8_of 4 = .ok (.bipush 10, 2) := by decide +kernel
theorem dX8_of_6 : decode cX8_of 6 = .ok (.iconst 3, 1) := by decide +kernel
theorem dX8_of_7 : decode cX8_of 7 = .ok (.iload_n 1, 1) := by decide +kernel
theorem dX8_of_8 : decode cX8_of 8 = .ok (.imul, 1) := by decide +kernel
theorem dX8_of_9 : decode cX8_of 9 = .ok (.iadd, 1) := by decide +kernel
theorem dX8_of_10 : decode cX8_of 10 = .ok (.iload_n 2, 1) := by decide +kernel
theorem dX8_of_11 : decode cX8_of 11 = .ok (.iadd, 1) := by decide +kernel
theorem dX8_of_12 : decode cX8_of 12 = .ok (.iaload, 1) := by decide +kernel
theorem dX8_of_13 : decode cX8_of 13 = .ok (.ireturn, 1) := by decide +kernel
set_option maxRecDepth 20000 in
theorem ggX8_holder_X8_of : GoodIn wsX8_holder wsX8_of := goodIn_r _ [5, 6, 7, 8, 9, 10, 11, 12, 13, 14, 15, 16, 17, 18, 19, 20, 21, 22, 23, 24, 25, 26, 27] (by decide +kernel) (by decide +kernel)
set_option maxRecDepth 20000 in
theorem gX8_holder_X8_of : GoodIn wsX8_holder (wsV RX8 58 RX8 yX8_of wsX8_of) := goodIn_app (goodIn_of _ (by decide +kernel)) ggX8_holder_X8_of
theorem dX8_holder_0 : decode cX8_holder 0 = .ok (.aload_n 0, 1) := by decide +kernel
theorem dX8_holder_1 : decode cX8_holder 1 = .ok (.iload_n 1, 1) := by decide +kernel
theorem dX8_holder_2 : decode cX8_holder 2 = .ok (.iconst 1, 1) := by decide +kernel
theorem dX8_holder_3 : decode cX8_holder 3 = .ok (.invokevirtual 58, 3) := by decide +kernel
theorem dX8_holder_6 : decode cX8_holder 6 = .ok (.iconst 1, 1) := by decide +kernel
theorem dX8_holder_7 : decode cX8_holder 7 = .ok (.isub, 1) := by decide +kernel
theorem dX8_holder_8 : decode cX8_holder 8 = .ok (.ireturn, 1) := by decide +kernel
set_option maxRecDepth 20000 in
theorem ggX8_grainAt_X8_of : GoodIn wsX8_grainAt wsX8_of := goodIn_r _ [6, 1, 7, 8, 9, 10, 11, 12, 13, 14, 15, 16, 17, 18, 19, 20, 21, 22, 23, 24, 25, 26, 27] (by decide +kernel) (by decide +kernel)
set_option maxRecDepth 20000 in
theorem gX8_grainAt_X8_of : GoodIn wsX8_grainAt (wsV RX8 58 RX8 yX8_of wsX8_of) := goodIn_app (goodIn_of _ (by decide +kernel)) ggX8_grainAt_X8_of
theorem dX8_grainAt_0 : decode cX8_grainAt 0 = .ok (.bipush (-4), 2) := by decide +kernel
theorem dX8_grainAt_2 : decode cX8_grainAt 2 = .ok (.istore_n 2, 1) := by decide +kernel
theorem dX8_grainAt_3 : decode cX8_grainAt 3 = .ok (.iconst 0, 1) := by decide +kernel
theorem dX8_grainAt_4 : decode cX8_grainAt 4 = .ok (.istore_n 3, 1) := by decide +kernel
theorem dX8_grainAt_5 : decode cX8_grainAt 5 = .ok (.iload_n 3, 1) := by decide +kernel
theorem dX8_grainAt_6 : decode cX8_grainAt 6 = .ok (.aload_n 0, 1) := by decide +kernel
theorem dX8_grainAt_7 : decode cX8_grainAt 7 = .ok (.getfield 7, 3) := by decide +kernel
theorem dX8_grainAt_10 : decode cX8_grainAt 10 = .ok (.iconst 0, 1) := by decide +kernel
theorem dX8_grainAt_11 : decode cX8_grainAt 11 = .ok (.iaload, 1) := by decide +kernel
theorem dX8_grainAt_12 : decode cX8_grainAt 12 = .ok (.if_icmp .ge 25, 3) := by decide +kernel
theorem dX8_grainAt_15 : decode cX8_grainAt 15 = .ok (.aload_n 0, 1) := by decide +kernel
theorem dX8_grainAt_16 : decode cX8_grainAt 16 = .ok (.iload_n 3, 1) := by decide +kernel
theorem dX8_grainAt_17 : decode cX8_grainAt 17 = .ok (.iconst 0, 1) := by decide +kernel
theorem dX8_grainAt_18 : decode cX8_grainAt 18 = .ok (.invokevirtual 58, 3) := by decide +kernel
theorem dX8_grainAt_21 : decode cX8_grainAt 21 = .ok (.iload_n 1, 1) := by decide +kernel
theorem dX8_grainAt_22 : decode cX8_grainAt 22 = .ok (.if_icmp .ne 7, 3) := by decide +kernel
theorem dX8_grainAt_25 : decode cX8_grainAt 25 = .ok (.iload_n 3, 1) := by decide +kernel
theorem dX8_grainAt_26 : decode cX8_grainAt 26 = .ok (.goto 4, 3) := by decide +kernel
theorem dX8_grainAt_29 : decode cX8_grainAt 29 = .ok (.iload_n 2, 1) := by decide +kernel
theorem dX8_grainAt_30 : decode cX8_grainAt 30 = .ok (.istore_n 2, 1) := by decide +kernel
theorem dX8_grainAt_31 : decode cX8_grainAt 31 = .ok (.iinc 3 1, 3) := by decide +kernel
theorem dX8_grainAt_34 : decode cX8_grainAt 34 = .ok (.goto (-29), 3) := by decide +kernel
theorem dX8_grainAt_37 : decode cX8_grainAt 37 = .ok (.iload_n 2, 1) := by decide +kernel
theorem dX8_grainAt_38 : decode cX8_grainAt 38 = .ok (.ireturn, 1) := by decide +kernel
theorem dX8_adds_0 : decode cX8_adds 0 = .ok (.bipush 10, 2) := by decide +kernel
theorem dX8_adds_2 : decode cX8_adds 2 = .ok (.iconst 3, 1) := by decide +kernel
theorem dX8_adds_3 : decode cX8_adds 3 = .ok (.aload_n 0, 1) := by decide +kernel
theorem dX8_adds_4 : decode cX8_adds 4 = .ok (.getfield 7, 3) := by decide +kernel
theorem dX8_adds_7 : decode cX8_adds 7 = .ok (.iconst 0, 1) := by decide +kernel
theorem dX8_adds_8 : decode cX8_adds 8 = .ok (.iaload, 1) := by decide +kernel
theorem dX8_adds_9 : decode cX8_adds 9 = .ok (.imul, 1) := by decide +kernel
theorem dX8_adds_10 : decode cX8_adds 10 = .ok (.iadd, 1) := by decide +kernel
theorem dX8_adds_11 : decode cX8_adds 11 = .ok (.istore 4, 2) := by decide +kernel
theorem dX8_adds_13 : decode cX8_adds 13 = .ok (.aload_n 0, 1) := by decide +kernel
theorem dX8_adds_14 : decode cX8_adds 14 = .ok (.getfield 7, 3) := by decide +kernel
theorem dX8_adds_17 : decode cX8_adds 17 = .ok (.iload 4, 2) := by decide +kernel
theorem dX8_adds_19 : decode cX8_adds 19 = .ok (.iconst 0, 1) := by decide +kernel
theorem dX8_adds_20 : decode cX8_adds 20 = .ok (.iadd, 1) := by decide +kernel
theorem dX8_adds_21 : decode cX8_adds 21 = .ok (.iload_n 1, 1) := by decide +kernel
theorem dX8_adds_22 : decode cX8_adds 22 = .ok (.iastore, 1) := by decide +kernel
theorem dX8_adds_23 : decode cX8_adds 23 = .ok (.aload_n 0, 1) := by decide +kernel
theorem dX8_adds_24 : decode cX8_adds 24 = .ok (.getfield 7, 3) := by decide +kernel
theorem dX8_adds_27 : decode cX8_adds 27 = .ok (.iload 4, 2) := by decide +kernel
theorem dX8_adds_29 : decode cX8_adds 29 = .ok (.iconst 1, 1) := by decide +kernel
theorem dX8_adds_30 : decode cX8_adds 30 = .ok (.iadd, 1) := by decide +kernel
theorem dX8_adds_31 : decode cX8_adds 31 = .ok (.iload_n 2, 1) := by decide +kernel
theorem dX8_adds_32 : decode cX8_adds 32 = .ok (.iconst 1, 1) := by decide +kernel
theorem dX8_adds_33 : decode cX8_adds 33 = .ok (.iadd, 1) := by decide +kernel
theorem dX8_adds_34 : decode cX8_adds 34 = .ok (.iastore, 1) := by decide +kernel
theorem dX8_adds_35 : decode cX8_adds 35 = .ok (.aload_n 0, 1) := by decide +kernel
theorem dX8_adds_36 : decode cX8_adds 36 = .ok (.getfield 7, 3) := by decide +kernel
theorem dX8_adds_39 : decode cX8_adds 39 = .ok (.iload 4, 2) := by decide +kernel
theorem dX8_adds_41 : decode cX8_adds 41 = .ok (.iconst 2, 1) := by decide +kernel
theorem dX8_adds_42 : decode cX8_adds 42 = .ok (.iadd, 1) := by decide +kernel
theorem dX8_adds_43 : decode cX8_adds 43 = .ok (.iload_n 3, 1) := by decide +kernel
theorem dX8_adds_44 : decode cX8_adds 44 = .ok (.iastore, 1) := by decide +kernel
theorem dX8_adds_45 : decode cX8_adds 45 = .ok (.aload_n 0, 1) := by decide +kernel
theorem dX8_adds_46 : decode cX8_adds 46 = .ok (.getfield 7, 3) := by decide +kernel
theorem dX8_adds_49 : decode cX8_adds 49 = .ok (.iconst 0, 1) := by decide +kernel
theorem dX8_adds_50 : decode cX8_adds 50 = .ok (.dup2, 1) := by decide +kernel
theorem dX8_adds_51 : decode cX8_adds 51 = .ok (.iaload, 1) := by decide +kernel
theorem dX8_adds_52 : decode cX8_adds 52 = .ok (.iconst 1, 1) := by decide +kernel
theorem dX8_adds_53 : decode cX8_adds 53 = .ok (.iadd, 1) := by decide +kernel
theorem dX8_adds_54 : decode cX8_adds 54 = .ok (.iastore, 1) := by decide +kernel
theorem dX8_adds_55 : decode cX8_adds 55 = .ok (.return_, 1) := by decide +kernel
set_option maxRecDepth 20000 in
theorem ggX8_roots_X8_ringOf : GoodIn wsX8_roots wsX8_ringOf := goodIn_r _ [5, 6, 7, 4, 8] (by decide +kernel) (by decide +kernel)
set_option maxRecDepth 20000 in
theorem gX8_roots_X8_ringOf : GoodIn wsX8_roots (va_wsS RX8 62 yX8_ringOf wsX8_ringOf) := goodIn_app (goodIn_of _ (by decide +kernel)) ggX8_roots_X8_ringOf
set_option maxRecDepth 20000 in
theorem ggX8_roots_X8_adds : GoodIn wsX8_roots wsX8_adds := goodIn_r _ [12, 1, 13, 14, 15, 16, 17, 18, 19, 20, 21, 22, 23, 24, 25, 26, 27, 28, 29, 30, 31, 32, 33] (by decide +kernel) (by decide +kernel)
set_option maxRecDepth 20000 in
theorem gX8_roots_X8_adds : GoodIn wsX8_roots (wsV RX8 65 RX8 yX8_adds wsX8_adds) := goodIn_app (goodIn_of _ (by decide +kernel)) ggX8_roots_X8_adds
theorem dX8_roots_0 : decode cX8_roots 0 = .ok (.aload_n 0, 1) := by decide +kernel
theorem dX8_roots_1 : decode cX8_roots 1 = .ok (.getfield 7, 3) := by decide +kernel
theorem dX8_roots_4 : decode cX8_roots 4 = .ok (.iconst 0, 1) := by decide +kernel
theorem dX8_roots_5 : decode cX8_roots 5 = .ok (.iconst 0, 1) := by decide +kernel
theorem dX8_roots_6 : decode cX8_roots 6 = .ok (.iastore, 1) := by decide +kernel
theorem dX8_roots_7 : decode cX8_roots 7 = .ok (.iconst 0, 1) := by decide +kernel
theorem dX8_roots_8 : decode cX8_roots 8 = .ok (.istore_n 2, 1) := by decide +kernel
theorem dX8_roots_9 : decode cX8_roots 9 = .ok (.iload_n 2, 1) := by decide +kernel
theorem dX8_roots_10 : decode cX8_roots 10 = .ok (.bipush 121, 2) := by decide +kernel
theorem dX8_roots_12 : decode cX8_roots 12 = .ok (.if_icmp .ge 71, 3) := by decide +kernel
theorem dX8_roots_15 : decode cX8_roots 15 = .ok (.iload_n 1, 1) := by decide +kernel
theorem dX8_roots_16 : decode cX8_roots 16 = .ok (.ifCond .ne 17, 3) := by decide +kernel
theorem dX8_roots_19 : decode cX8_roots 19 = .ok (.iload_n 2, 1) := by decide +kernel
theorem dX8_roots_20 : decode cX8_roots 20 = .ok (.bipush 60, 2) := by decide +kernel
theorem dX8_roots_22 : decode cX8_roots 22 = .ok (.if_icmp .ne 7, 3) := by decide +kernel
theorem dX8_roots_25 : decode cX8_roots 25 = .ok (.iconst 1, 1) := by decide +kernel
theorem dX8_roots_26 : decode cX8_roots 26 = .ok (.goto 39, 3) := by decide +kernel
theorem dX8_roots_29 : decode cX8_roots 29 = .ok (.iconst 0, 1) := by decide +kernel
theorem dX8_roots_30 : decode cX8_roots 30 = .ok (.goto 35, 3) := by decide +kernel
theorem dX8_roots_33 : decode cX8_roots 33 = .ok (.iload_n 1, 1) := by decide +kernel
theorem dX8_roots_34 : decode cX8_roots 34 = .ok (.iconst 1, 1) := by decide +kernel
theorem dX8_roots_35 : decode cX8_roots 35 = .ok (.if_icmp .ne 17, 3) := by decide +kernel
theorem dX8_roots_38 : decode cX8_roots 38 = .ok (.iload_n 2, 1) := by decide +kernel
theorem dX8_roots_39 : decode cX8_roots 39 = .ok (.bipush 110, 2) := by decide +kernel
theorem dX8_roots_41 : decode cX8_roots 41 = .ok (.if_icmp .lt 7, 3) := by decide +kernel
theorem dX8_roots_44 : decode cX8_roots 44 = .ok (.iconst 1, 1) := by decide +kernel
theorem dX8_roots_45 : decode cX8_roots 45 = .ok (.goto 20, 3) := by decide +kernel
theorem dX8_roots_48 : decode cX8_roots 48 = .ok (.iconst 0, 1) := by decide +kernel
theorem dX8_roots_49 : decode cX8_roots 49 = .ok (.goto 16, 3) := by decide +kernel
theorem dX8_roots_52 : decode cX8_roots 52 = .ok (.iload_n 2, 1) := by decide +kernel
theorem dX8_roots_53 : decode cX8_roots 53 = .ok (.invokestatic 62, 3) := by decide +kernel
theorem dX8_roots_56 : decode cX8_roots 56 = .ok (.iconst 2, 1) := by decide +kernel
theorem dX8_roots_57 : decode cX8_roots 57 = .ok (.if_icmp .ne 7, 3) := by decide +kernel
theorem dX8_roots_60 : decode cX8_roots 60 = .ok (.iconst 1, 1) := by decide +kernel
theorem dX8_roots_61 : decode cX8_roots 61 = .ok (.goto 4, 3) := by decide +kernel
theorem dX8_roots_64 : decode cX8_roots 64 = .ok (.iconst 0, 1) := by decide +kernel
theorem dX8_roots_65 : decode cX8_roots 65 = .ok (.istore_n 3, 1) := by decide +kernel
theorem dX8_roots_66 : decode cX8_roots 66 = .ok (.iload_n 3, 1) := by decide +kernel
theorem dX8_roots_67 : decode cX8_roots 67 = .ok (.ifCond .eq 10, 3) := by decide +kernel
theorem dX8_roots_70 : decode cX8_roots 70 = .ok (.aload_n 0, 1) := by decide +kernel
theorem dX8_roots_71 : decode cX8_roots 71 = .ok (.iload_n 2, 1) := by decide +kernel
theorem dX8_roots_72 : decode cX8_roots 72 = .ok (.iconst (-1), 1) := by decide +kernel
theorem dX8_roots_73 : decode cX8_roots 73 = .ok (.iconst 0, 1) := by decide +kernel
theorem dX8_roots_74 : decode cX8_roots 74 = .ok (.invokevirtual 65, 3) := by decide +kernel
theorem dX8_roots_77 : decode cX8_roots 77 = .ok (.iinc 2 1, 3) := by decide +kernel
theorem dX8_roots_80 : decode cX8_roots 80 = .ok (.goto (-71), 3) := by decide +kernel
theorem dX8_roots_83 : decode cX8_roots 83 = .ok (.return_, 1) := by decide +kernel
set_option maxRecDepth 20000 in
theorem ggX8_grainBeside_X8_beside : GoodIn wsX8_grainBeside wsX8_beside := goodIn_r _ [4, 5, 6, 3, 7] (by decide +kernel) (by decide +kernel)
set_option maxRecDepth 20000 in
theorem gX8_grainBeside_X8_beside : GoodIn wsX8_grainBeside (va_wsS RX8 69 yX8_beside wsX8_beside) := goodIn_app (goodIn_of _ (by decide +kernel)) ggX8_grainBeside_X8_beside
set_option maxRecDepth 20000 in
theorem ggX8_grainBeside_X8_grainAt : GoodIn wsX8_grainBeside wsX8_grainAt := goodIn_r _ [11, 12, 13, 14, 15, 3, 16, 17, 18, 19, 20, 21, 22, 23, 24, 25, 26, 27, 28, 29, 30, 31, 32, 33, 34, 35, 36, 37] (by decide +kernel) (by decide +kernel)
set_option maxRecDepth 20000 in
theorem gX8_grainBeside_X8_grainAt : GoodIn wsX8_grainBeside (wsV RX8 72 RX8 yX8_grainAt wsX8_grainAt) := goodIn_app (goodIn_of _ (by decide +kernel)) ggX8_grainBeside_X8_grainAt
theorem dX8_grainBeside_0 : decode cX8_grainBeside 0 = .ok (.bipush (-4), 2) := by decide +kernel
theorem dX8_grainBeside_2 : decode cX8_grainBeside 2 = .ok (.istore_n 2, 1) := by decide +kernel
theorem dX8_grainBeside_3 : decode cX8_grainBeside 3 = .ok (.iconst 3, 1) := by decide +kernel
theorem dX8_grainBeside_4 : decode cX8_grainBeside 4 = .ok (.istore_n 3, 1) := by decide +kernel
theorem dX8_grainBeside_5 : decode cX8_grainBeside 5 = .ok (.iload_n 3, 1) := by decide +kernel
theorem dX8_grainBeside_6 : decode cX8_grainBeside 6 = .ok (.ifCond .lt 46, 3) := by decide +kernel
theorem dX8_grainBeside_9 : decode cX8_grainBeside 9 = .ok (.iload_n 1, 1) := by decide +kernel
theorem dX8_grainBeside_10 : decode cX8_grainBeside 10 = .ok (.iload_n 3, 1) := by decide +kernel
theorem dX8_grainBeside_11 : decode cX8_grainBeside 11 = .ok (.invokestatic 69, 3) := by decide +kernel
theorem dX8_grainBeside_14 : decode cX8_grainBeside 14 = .ok (.istore 4, 2) := by decide +kernel
theorem dX8_grainBeside_16 : decode cX8_grainBeside 16 = .ok (.iload 4, 2) := by decide +kernel
theorem dX8_grainBeside_18 : decode cX8_grainBeside 18 = .ok (.ifCond .ge 8, 3) := by decide +kernel
theorem dX8_grainBeside_21 : decode cX8_grainBeside 21 = .ok (.bipush (-4), 2) := by decide +kernel
theorem dX8_grainBeside_23 : decode cX8_grainBeside 23 = .ok (.goto 9, 3) := by decide +kernel
theorem dX8_grainBeside_26 : decode cX8_grainBeside 26 = .ok (.aload_n 0, 1) := by decide +kernel
theorem dX8_grainBeside_27 : decode cX8_grainBeside 27 = .ok (.iload 4, 2) := by decide +kernel
theorem dX8_grainBeside_29 : decode cX8_grainBeside 29 = .ok (.invokevirtual 72, 3) := by decide +kernel
theorem dX8_grainBeside_32 : decode cX8_grainBeside 32 = .ok (.istore 5, 2) := by decide +kernel
theorem dX8_grainBeside_34 : decode cX8_grainBeside 34 = .ok (.iload 5, 2) := by decide +kernel
theorem dX8_grainBeside_36 : decode cX8_grainBeside 36 = .ok (.ifCond .ge 7, 3) := by decide +kernel
theorem dX8_grainBeside_39 : decode cX8_grainBeside 39 = .ok (.iload_n 2, 1) := by decide +kernel
theorem dX8_grainBeside_40 : decode cX8_grainBeside 40 = .ok (.goto 5, 3) := by decide +kernel
theorem dX8_grainBeside_43 : decode cX8_grainBeside 43 = .ok (.iload 5, 2) := by decide +kernel
theorem dX8_grainBeside_45 : decode cX8_grainBeside 45 = .ok (.istore_n 2, 1) := by decide +kernel
theorem dX8_grainBeside_46 : decode cX8_grainBeside 46 = .ok (.iinc 3 (-1), 3) := by decide +kernel
theorem dX8_grainBeside_49 : decode cX8_grainBeside 49 = .ok (.goto (-44), 3) := by decide +kernel
theorem dX8_grainBeside_52 : decode cX8_grainBeside 52 = .ok (.iload_n 2, 1) := by decide +kernel
theorem dX8_grainBeside_53 : decode cX8_grainBeside 53 = .ok (.ireturn, 1) := by decide +kernel
set_option maxRecDepth 20000 in
theorem ggX8_besides_X8_beside : GoodIn wsX8_besides wsX8_beside := goodIn_r _ [4, 5, 6, 3, 7] (by decide +kernel) (by decide +kernel)
set_option maxRecDepth 20000 in
theorem gX8_besides_X8_beside : GoodIn wsX8_besides (va_wsS RX8 69 yX8_beside wsX8_beside) := goodIn_app (goodIn_of _ (by decide +kernel)) ggX8_besides_X8_beside
set_option maxRecDepth 20000 in
theorem ggX8_besides_X8_grainAt : GoodIn wsX8_besides wsX8_grainAt := goodIn_r _ [11, 12, 13, 14, 15, 3, 16, 17, 18, 19, 20, 21, 22, 23, 24, 25, 26, 27, 28, 29, 30, 31, 32, 33, 34, 35, 36, 37] (by decide +kernel) (by decide +kernel)
set_option maxRecDepth 20000 in
theorem gX8_besides_X8_grainAt : GoodIn wsX8_besides (wsV RX8 72 RX8 yX8_grainAt wsX8_grainAt) := goodIn_app (goodIn_of _ (by decide +kernel)) ggX8_besides_X8_grainAt
theorem dX8_besides_0 : decode cX8_besides 0 = .ok (.iconst 0, 1) := by decide +kernel
theorem dX8_besides_1 : decode cX8_besides 1 = .ok (.istore_n 2, 1) := by decide +kernel
theorem dX8_besides_2 : decode cX8_besides 2 = .ok (.iconst 0, 1) := by decide +kernel
theorem dX8_besides_3 : decode cX8_besides 3 = .ok (.istore_n 3, 1) := by decide +kernel
theorem dX8_besides_4 : decode cX8_besides 4 = .ok (.iload_n 3, 1) := by decide +kernel
theorem dX8_besides_5 : decode cX8_besides 5 = .ok (.iconst 4, 1) := by decide +kernel
theorem dX8_besides_6 : decode cX8_besides 6 = .ok (.if_icmp .ge 38, 3) := by decide +kernel
theorem dX8_besides_9 : decode cX8_besides 9 = .ok (.iload_n 1, 1) := by decide +kernel
theorem dX8_besides_10 : decode cX8_besides 10 = .ok (.iload_n 3, 1) := by decide +kernel
theorem dX8_besides_11 : decode cX8_besides 11 = .ok (.invokestatic 69, 3) := by decide +kernel
theorem dX8_besides_14 : decode cX8_besides 14 = .ok (.istore 4, 2) := by decide +kernel
theorem dX8_besides_16 : decode cX8_besides 16 = .ok (.iload_n 2, 1) := by decide +kernel
theorem dX8_besides_17 : decode cX8_besides 17 = .ok (.iload 4, 2) := by decide +kernel
theorem dX8_besides_19 : decode cX8_besides 19 = .ok (.ifCond .lt 16, 3) := by decide +kernel
theorem dX8_besides_22 : decode cX8_besides 22 = .ok (.aload_n 0, 1) := by decide +kernel
theorem dX8_besides_23 : decode cX8_besides 23 = .ok (.iload 4, 2) := by decide +kernel
theorem dX8_besides_25 : decode cX8_besides 25 = .ok (.invokevirtual 72, 3) := by decide +kernel
theorem dX8_besides_28 : decode cX8_besides 28 = .ok (.ifCond .lt 7, 3) := by decide +kernel
theorem dX8_besides_31 : decode cX8_besides 31 = .ok (.iconst 1, 1) := by decide +kernel
theorem dX8_besides_32 : decode cX8_besides 32 = .ok (.goto 4, 3) := by decide +kernel
theorem dX8_besides_35 : decode cX8_besides 35 = .ok (.iconst 0, 1) := by decide +kernel
theorem dX8_besides_36 : decode cX8_besides 36 = .ok (.iadd, 1) := by decide +kernel
theorem dX8_besides_37 : decode cX8_besides 37 = .ok (.istore_n 2, 1) := by decide +kernel
theorem dX8_besides_38 : decode cX8_besides 38 = .ok (.iinc 3 1, 3) := by decide +kernel
theorem dX8_besides_41 : decode cX8_besides 41 = .ok (.goto (-37), 3) := by decide +kernel
theorem dX8_besides_44 : decode cX8_besides 44 = .ok (.iload_n 2, 1) := by decide +kernel
theorem dX8_besides_45 : decode cX8_besides 45 = .ok (.ireturn, 1) := by decide +kernel
theorem dX8_draws_0 : decode cX8_draws 0 = .ok (.aload_n 0, 1) := by decide +kernel
theorem dX8_draws_1 : decode cX8_draws 1 = .ok (.getfield 7, 3) := by decide +kernel
theorem dX8_draws_4 : decode cX8_draws 4 = .ok (.iconst 1, 1) := by decide +kernel
theorem dX8_draws_5 : decode cX8_draws 5 = .ok (.sipush 421, 3) := by decide +kernel
theorem dX8_draws_8 : decode cX8_draws 8 = .ok (.aload_n 0, 1) := by decide +kernel
theorem dX8_draws_9 : decode cX8_draws 9 = .ok (.getfield 7, 3) := by decide +kernel
theorem dX8_draws_12 : decode cX8_draws 12 = .ok (.iconst 1, 1) := by decide +kernel
theorem dX8_draws_13 : decode cX8_draws 13 = .ok (.iaload, 1) := by decide +kernel
theorem dX8_draws_14 : decode cX8_draws 14 = .ok (.imul, 1) := by decide +kernel
theorem dX8_draws_15 : decode cX8_draws 15 = .ok (.sipush 1663, 3) := by decide +kernel
theorem dX8_draws_18 : decode cX8_draws 18 = .ok (.iadd, 1) := by decide +kernel
theorem dX8_draws_19 : decode cX8_draws 19 = .ok (.sipush 10000, 3) := by decide +kernel
theorem dX8_draws_22 : decode cX8_draws 22 = .ok (.irem, 1) := by decide +kernel
theorem dX8_draws_23 : decode cX8_draws 23 = .ok (.iastore, 1) := by decide +kernel
theorem dX8_draws_24 : decode cX8_draws 24 = .ok (.aload_n 0, 1) := by decide +kernel
theorem dX8_draws_25 : decode cX8_draws 25 = .ok (.dup, 1) := by decide +kernel
theorem dX8_draws_26 : decode cX8_draws 26 = .ok (.getfield 75, 3) := by decide +kernel
theorem dX8_draws_29 : decode cX8_draws 29 = .ok (.iconst 1, 1) := by decide +kernel
theorem dX8_draws_30 : decode cX8_draws 30 = .ok (.iadd, 1) := by decide +kernel
theorem dX8_draws_31 : decode cX8_draws 31 = .ok (.putfield 75, 3) := by decide +kernel
theorem dX8_draws_34 : decode cX8_draws 34 = .ok (.aload_n 0, 1) := by decide +kernel
theorem dX8_draws_35 : decode cX8_draws 35 = .ok (.getfield 7, 3) := by decide +kernel
theorem dX8_draws_38 : decode cX8_draws 38 = .ok (.iconst 1, 1) := by decide +kernel
theorem dX8_draws_39 : decode cX8_draws 39 = .ok (.iaload, 1) := by decide +kernel
theorem dX8_draws_40 : decode cX8_draws 40 = .ok (.ireturn, 1) := by decide +kernel
set_option maxRecDepth 20000 in
theorem ggX8_walks_X8_grainBeside : GoodIn wsX8_walks wsX8_grainBeside := goodIn_r _ [9, 10, 11, 8, 12, 13, 14, 15, 16, 17, 18, 19, 4, 20, 21, 22, 23, 32, 33, 34, 35, 36, 37, 38, 39, 40, 41, 42, 43, 44, 45, 46, 47, 48, 49, 50, 51, 52] (by decide +kernel) (by decide +kernel)
set_option maxRecDepth 20000 in
theorem gX8_walks_X8_grainBeside : GoodIn wsX8_walks (wsV RX8 84 RX8 yX8_grainBeside wsX8_grainBeside) := goodIn_app (goodIn_of _ (by decide +kernel)) ggX8_walks_X8_grainBeside
set_option maxRecDepth 20000 in
theorem ggX8_walks_X8_draws : GoodIn wsX8_walks wsX8_draws := goodIn_r _ [27, 4, 3, 32, 33, 34, 35, 36, 37, 38, 39, 40, 41, 42, 43, 44, 45, 46, 47, 48, 49, 50, 51, 52] (by decide +kernel) (by decide +kernel)
set_option maxRecDepth 20000 in
theorem gX8_walks_X8_draws : GoodIn wsX8_walks (wsV RX8 87 RX8 yX8_draws wsX8_draws) := goodIn_app (goodIn_of _ (by decide +kernel)) ggX8_walks_X8_draws
set_option maxRecDepth 20000 in
theorem ggX8_walks_X8_makesStep : GoodIn wsX8_walks wsX8_makesStep := goodIn_r _ [31, 4, 1, 2, 24, 25, 26, 8, 27, 3, 10, 11, 12, 13, 14, 15, 16, 17, 18, 19, 20, 21, 22, 23, 32, 33, 34, 35, 36, 37, 38, 39, 40, 41, 42, 43, 44, 45, 46, 47, 48, 49, 50, 51, 52] (by decide +kernel) (by decide +kernel)
set_option maxRecDepth 20000 in
theorem gX8_walks_X8_makesStep : GoodIn wsX8_walks (wsV RX8 91 RX8 yX8_makesStep wsX8_makesStep) := goodIn_app (goodIn_of _ (by decide +kernel)) ggX8_walks_X8_makesStep
theorem dX8_walks_0 : decode cX8_walks 0 = .ok (.aload_n 0, 1) := by decide +kernel
theorem dX8_walks_1 : decode cX8_walks 1 = .ok (.iload_n 1, 1) := by decide +kernel
theorem dX8_walks_2 : decode cX8_walks 2 = .ok (.putfield 78, 3) := by decide +kernel
theorem dX8_walks_5 : decode cX8_walks 5 = .ok (.aload_n 0, 1) := by decide +kernel
theorem dX8_walks_6 : decode cX8_walks 6 = .ok (.iconst 0, 1) := by decide +kernel
theorem dX8_walks_7 : decode cX8_walks 7 = .ok (.putfield 81, 3) := by decide +kernel
theorem dX8_walks_10 : decode cX8_walks 10 = .ok (.aload_n 0, 1) := by decide +kernel
theorem dX8_walks_11 : decode cX8_walks 11 = .ok (.iconst 0, 1) := by decide +kernel
theorem dX8_walks_12 : decode cX8_walks 12 = .ok (.putfield 75, 3) := by decide +kernel
theorem dX8_walks_15 : decode cX8_walks 15 = .ok (.iconst 1, 1) := by decide +kernel
theorem dX8_walks_16 : decode cX8_walks 16 = .ok (.istore_n 2, 1) := by decide +kernel
theorem dX8_walks_17 : decode cX8_walks 17 = .ok (.iconst 0, 1) := by decide +kernel
theorem dX8_walks_18 : decode cX8_walks 18 = .ok (.istore_n 3, 1) := by decide +kernel
theorem dX8_walks_19 : decode cX8_walks 19 = .ok (.iload_n 2, 1) := by decide +kernel
theorem dX8_walks_20 : decode cX8_walks 20 = .ok (.ifCond .eq 68, 3) := by decide +kernel
theorem dX8_walks_23 : decode cX8_walks 23 = .ok (.aload_n 0, 1) := by decide +kernel
theorem dX8_walks_24 : decode cX8_walks 24 = .ok (.aload_n 0, 1) := by decide +kernel
theorem dX8_walks_25 : decode cX8_walks 25 = .ok (.getfield 78, 3) := by decide +kernel
theorem dX8_walks_28 : decode cX8_walks 28 = .ok (.invokevirtual 84, 3) := by decide +kernel
theorem dX8_walks_31 : decode cX8_walks 31 = .ok (.ifCond .lt 22, 3) := by decide +kernel
theorem dX8_walks_34 : decode cX8_walks 34 = .ok (.aload_n 0, 1) := by decide +kernel
theorem dX8_walks_35 : decode cX8_walks 35 = .ok (.invokevirtual 87, 3) := by decide +kernel
theorem dX8_walks_38 : decode cX8_walks 38 = .ok (.iconst 4, 1) := by decide +kernel
theorem dX8_walks_39 : decode cX8_walks 39 = .ok (.irem, 1) := by decide +kernel
theorem dX8_walks_40 : decode cX8_walks 40 = .ok (.aload_n 0, 1) := by decide +kernel
theorem dX8_walks_41 : decode cX8_walks 41 = .ok (.getfield 7, 3) := by decide +kernel
theorem dX8_walks_44 : decode cX8_walks 44 = .ok (.iconst 2, 1) := by decide +kernel
theorem dX8_walks_45 : decode cX8_walks 45 = .ok (.iaload, 1) := by decide +kernel
theorem dX8_walks_46 : decode cX8_walks 46 = .ok (.if_icmp .ge 7, 3) := by decide +kernel
theorem dX8_walks_49 : decode cX8_walks 49 = .ok (.iconst 1, 1) := by decide +kernel
theorem dX8_walks_50 : decode cX8_walks 50 = .ok (.goto 4, 3) := by decide +kernel
theorem dX8_walks_53 : decode cX8_walks 53 = .ok (.iconst 0, 1) := by decide +kernel
theorem dX8_walks_54 : decode cX8_walks 54 = .ok (.istore_n 3, 1) := by decide +kernel
theorem dX8_walks_55 : decode cX8_walks 55 = .ok (.iload_n 3, 1) := by decide +kernel
theorem dX8_walks_56 : decode cX8_walks 56 = .ok (.ifCond .ne 27, 3) := by decide +kernel
theorem dX8_walks_59 : decode cX8_walks 59 = .ok (.aload_n 0, 1) := by decide +kernel
theorem dX8_walks_60 : decode cX8_walks 60 = .ok (.getfield 81, 3) := by decide +kernel
theorem dX8_walks_63 : decode cX8_walks 63 = .ok (.aload_n 0, 1) := by decide +kernel
theorem dX8_walks_64 : decode cX8_walks 64 = .ok (.getfield 7, 3) := by decide +kernel
theorem dX8_walks_67 : decode cX8_walks 67 = .ok (.iconst 3, 1) := by decide +kernel
theorem dX8_walks_68 : decode cX8_walks 68 = .ok (.iaload, 1) := by decide +kernel
theorem dX8_walks_69 : decode cX8_walks 69 = .ok (.if_icmp .ge 14, 3) := by decide +kernel
theorem dX8_walks_72 : decode cX8_walks 72 = .ok (.aload_n 0, 1) := by decide +kernel
theorem dX8_walks_73 : decode cX8_walks 73 = .ok (.invokevirtual 91, 3) := by decide +kernel
theorem dX8_walks_76 : decode cX8_walks 76 = .ok (.ifCond .eq 7, 3) := by decide +kernel
theorem dX8_walks_79 : decode cX8_walks 79 = .ok (.iconst 1, 1) := by decide +kernel
theorem dX8_walks_80 : decode cX8_walks 80 = .ok (.goto 4, 3) := by decide +kernel
theorem dX8_walks_83 : decode cX8_walks 83 = .ok (.iconst 0, 1) := by decide +kernel
theorem dX8_walks_84 : decode cX8_walks 84 = .ok (.istore_n 2, 1) := by decide +kernel
theorem dX8_walks_85 : decode cX8_walks 85 = .ok (.goto (-66), 3) := by decide +kernel
theorem dX8_walks_88 : decode cX8_walks 88 = .ok (.iload_n 3, 1) := by decide +kernel
theorem dX8_walks_89 : decode cX8_walks 89 = .ok (.ireturn, 1) := by decide +kernel
set_option maxRecDepth 20000 in
theorem ggX8_makesStep_X8_draws : GoodIn wsX8_makesStep wsX8_draws := goodIn_r _ [8, 1, 9, 24, 25, 26, 27, 28, 29, 30, 31, 32, 33, 34, 35, 36, 37, 38, 39, 40, 41, 42, 43, 44] (by decide +kernel) (by decide +kernel)
set_option maxRecDepth 20000 in
theorem gX8_makesStep_X8_draws : GoodIn wsX8_makesStep (wsV RX8 87 RX8 yX8_draws wsX8_draws) := goodIn_app (goodIn_of _ (by decide +kernel)) ggX8_makesStep_X8_draws
set_option maxRecDepth 20000 in
theorem ggX8_makesStep_X8_beside : GoodIn wsX8_makesStep wsX8_beside := goodIn_r _ [12, 13, 14, 7, 15] (by decide +kernel) (by decide +kernel)
set_option maxRecDepth 20000 in
theorem gX8_makesStep_X8_beside : GoodIn wsX8_makesStep (va_wsS RX8 69 yX8_beside wsX8_beside) := goodIn_app (goodIn_of _ (by decide +kernel)) ggX8_makesStep_X8_beside
set_option maxRecDepth 20000 in
theorem ggX8_makesStep_X8_grainAt : GoodIn wsX8_makesStep wsX8_grainAt := goodIn_r _ [19, 1, 20, 21, 22, 7, 23, 24, 25, 26, 27, 28, 29, 30, 31, 32, 33, 34, 35, 36, 37, 38, 39, 40, 41, 42, 43, 44] (by decide +kernel) (by decide +kernel)
set_option maxRecDepth 20000 in
theorem gX8_makesStep_X8_grainAt : GoodIn wsX8_makesStep (wsV RX8 72 RX8 yX8_grainAt wsX8_grainAt) := goodIn_app (goodIn_of _ (by decide +kernel)) ggX8_makesStep_X8_grainAt
theorem dX8_makesStep_0 : decode cX8_makesStep 0 = .ok (.aload_n 0, 1) := by decide +kernel
theorem dX8_makesStep_1 : decode cX8_makesStep 1 = .ok (.invokevirtual 87, 3) := by decide +kernel
theorem dX8_makesStep_4 : decode cX8_makesStep 4 = .ok (.iconst 4, 1) := by decide +kernel
theorem dX8_makesStep_5 : decode cX8_makesStep 5 = .ok (.aload_n 0, 1) := by decide +kernel
theorem dX8_makesStep_6 : decode cX8_makesStep 6 = .ok (.getfield 7, 3) := by decide +kernel
theorem dX8_makesStep_9 : decode cX8_makesStep 9 = .ok (.iconst 4, 1) := by decide +kernel
theorem dX8_makesStep_10 : decode cX8_makesStep 10 = .ok (.iaload, 1) := by decide +kernel
theorem dX8_makesStep_11 : decode cX8_makesStep 11 = .ok (.iadd, 1) := by decide +kernel
theorem dX8_makesStep_12 : decode cX8_makesStep 12 = .ok (.irem, 1) := by decide +kernel
theorem dX8_makesStep_13 : decode cX8_makesStep 13 = .ok (.istore_n 1, 1) := by decide +kernel
theorem dX8_makesStep_14 : decode cX8_makesStep 14 = .ok (.aload_n 0, 1) := by decide +kernel
theorem dX8_makesStep_15 : decode cX8_makesStep 15 = .ok (.getfield 78, 3) := by decide +kernel
theorem dX8_makesStep_18 : decode cX8_makesStep 18 = .ok (.iload_n 1, 1) := by decide +kernel
theorem dX8_makesStep_19 : decode cX8_makesStep 19 = .ok (.iconst 4, 1) := by decide +kernel
theorem dX8_makesStep_20 : decode cX8_makesStep 20 = .ok (.if_icmp .ge 7, 3) := by decide +kernel
theorem dX8_makesStep_23 : decode cX8_makesStep 23 = .ok (.iload_n 1, 1) := by decide +kernel
theorem dX8_makesStep_24 : decode cX8_makesStep 24 = .ok (.goto 9, 3) := by decide +kernel
theorem dX8_makesStep_27 : decode cX8_makesStep 27 = .ok (.aload_n 0, 1) := by decide +kernel
theorem dX8_makesStep_28 : decode cX8_makesStep 28 = .ok (.getfield 7, 3) := by decide +kernel
theorem dX8_makesStep_31 : decode cX8_makesStep 31 = .ok (.iconst 5, 1) := by decide +kernel
theorem dX8_makesStep_32 : decode cX8_makesStep 32 = .ok (.iaload, 1) := by decide +kernel
theorem dX8_makesStep_33 : decode cX8_makesStep 33 = .ok (.invokestatic 69, 3) := by decide +kernel
theorem dX8_makesStep_36 : decode cX8_makesStep 36 = .ok (.istore_n 2, 1) := by decide +kernel
theorem dX8_makesStep_37 : decode cX8_makesStep 37 = .ok (.aload_n 0, 1) := by decide +kernel
theorem dX8_makesStep_38 : decode cX8_makesStep 38 = .ok (.dup, 1) := by decide +kernel
theorem dX8_makesStep_39 : decode cX8_makesStep 39 = .ok (.getfield 81, 3) := by decide +kernel
theorem dX8_makesStep_42 : decode cX8_makesStep 42 = .ok (.iconst 1, 1) := by decide +kernel
theorem dX8_makesStep_43 : decode cX8_makesStep 43 = .ok (.iadd, 1) := by decide +kernel
theorem dX8_makesStep_44 : decode cX8_makesStep 44 = .ok (.putfield 81, 3) := by decide +kernel
theorem dX8_makesStep_47 : decode cX8_makesStep 47 = .ok (.aload_n 0, 1) := by decide +kernel
theorem dX8_makesStep_48 : decode cX8_makesStep 48 = .ok (.iload_n 2, 1) := by decide +kernel
theorem dX8_makesStep_49 : decode cX8_makesStep 49 = .ok (.ifCond .lt 15, 3) := by decide +kernel
theorem dX8_makesStep_52 : decode cX8_makesStep 52 = .ok (.aload_n 0, 1) := by decide +kernel
theorem dX8_makesStep_53 : decode cX8_makesStep 53 = .ok (.iload_n 2, 1) := by decide +kernel
theorem dX8_makesStep_54 : decode cX8_makesStep 54 = .ok (.invokevirtual 72, 3) := by decide +kernel
theorem dX8_makesStep_57 : decode cX8_makesStep 57 = .ok (.ifCond .ge 7, 3) := by decide +kernel
theorem dX8_makesStep_60 : decode cX8_makesStep 60 = .ok (.iload_n 2, 1) := by decide +kernel
theorem dX8_makesStep_61 : decode cX8_makesStep 61 = .ok (.goto 7, 3) := by decide +kernel
theorem dX8_makesStep_64 : decode cX8_makesStep 64 = .ok (.aload_n 0, 1) := by decide +kernel
theorem dX8_makesStep_65 : decode cX8_makesStep 65 = .ok (.getfield 78, 3) := by decide +kernel
theorem dX8_makesStep_68 : decode cX8_makesStep 68 = .ok (.putfield 78, 3) := by decide +kernel
theorem dX8_makesStep_71 : decode cX8_makesStep 71 = .ok (.iload_n 2, 1) := by decide +kernel
theorem dX8_makesStep_72 : decode cX8_makesStep 72 = .ok (.ifCond .lt 7, 3) := by decide +kernel
theorem dX8_makesStep_75 : decode cX8_makesStep 75 = .ok (.iconst 1, 1) := by decide +kernel
theorem dX8_makesStep_76 : decode cX8_makesStep 76 = .ok (.goto 4, 3) := by decide +kernel
theorem dX8_makesStep_79 : decode cX8_makesStep 79 = .ok (.iconst 0, 1) := by decide +kernel
theorem dX8_makesStep_80 : decode cX8_makesStep 80 = .ok (.ireturn, 1) := by decide +kernel
set_option maxRecDepth 20000 in
theorem ggX8_goGrain_X8_rimCell : GoodIn wsX8_goGrain wsX8_rimCell := goodIn_r _ [7] (by decide +kernel) (by decide +kernel)
set_option maxRecDepth 20000 in
theorem gX8_goGrain_X8_rimCell : GoodIn wsX8_goGrain (va_wsS RX8 55 yX8_rimCell wsX8_rimCell) := goodIn_app (goodIn_of _ (by decide +kernel)) ggX8_goGrain_X8_rimCell
set_option maxRecDepth 20000 in
theorem ggX8_goGrain_X8_walks : GoodIn wsX8_goGrain wsX8_walks := goodIn_r _ [11, 3, 2, 12, 1, 13, 14, 15, 6, 16, 17, 18, 19, 20, 21, 22, 23, 24, 25, 26, 27, 28, 29, 30, 31, 32, 33, 34, 35, 36, 37, 38, 43, 44, 45, 46, 47, 48, 49, 50, 51, 52, 53, 54, 55, 56, 57, 58, 59, 60, 61, 62, 63] (by decide +kernel) (by decide +kernel)
set_option maxRecDepth 20000 in
theorem gX8_goGrain_X8_walks : GoodIn wsX8_goGrain (wsV RX8 95 RX8 yX8_walks wsX8_walks) := goodIn_app (goodIn_of _ (by decide +kernel)) ggX8_goGrain_X8_walks
set_option maxRecDepth 20000 in
theorem ggX8_goGrain_X8_grainBeside : GoodIn wsX8_goGrain wsX8_grainBeside := goodIn_r _ [16, 17, 18, 6, 19, 20, 21, 22, 23, 24, 25, 26, 1, 27, 28, 29, 30, 43, 44, 45, 46, 47, 48, 49, 50, 51, 52, 53, 54, 55, 56, 57, 58, 59, 60, 61, 62, 63] (by decide +kernel) (by decide +kernel)
set_option maxRecDepth 20000 in
theorem gX8_goGrain_X8_grainBeside : GoodIn wsX8_goGrain (wsV RX8 84 RX8 yX8_grainBeside wsX8_grainBeside) := goodIn_app (goodIn_of _ (by decide +kernel)) ggX8_goGrain_X8_grainBeside
set_option maxRecDepth 20000 in
theorem ggX8_goGrain_X8_adds : GoodIn wsX8_goGrain wsX8_adds := goodIn_r _ [42, 1, 43, 44, 45, 46, 47, 48, 49, 50, 51, 52, 53, 54, 55, 56, 57, 58, 59, 60, 61, 62, 63] (by decide +kernel) (by decide +kernel)
set_option maxRecDepth 20000 in
theorem gX8_goGrain_X8_adds : GoodIn wsX8_goGrain (wsV RX8 65 RX8 yX8_adds wsX8_adds) := goodIn_app (goodIn_of _ (by decide +kernel)) ggX8_goGrain_X8_adds
theorem dX8_goGrain_0 : decode cX8_goGrain 0 = .ok (.aload_n 0, 1) := by decide +kernel
theorem dX8_goGrain_1 : decode cX8_goGrain 1 = .ok (.iload_n 1, 1) := by decide +kernel
theorem dX8_goGrain_2 : decode cX8_goGrain 2 = .ok (.invokestatic 55, 3) := by decide +kernel
theorem dX8_goGrain_5 : decode cX8_goGrain 5 = .ok (.invokevirtual 95, 3) := by decide +kernel
theorem dX8_goGrain_8 : decode cX8_goGrain 8 = .ok (.istore_n 2, 1) := by decide +kernel
theorem dX8_goGrain_9 : decode cX8_goGrain 9 = .ok (.aload_n 0, 1) := by decide +kernel
theorem dX8_goGrain_10 : decode cX8_goGrain 10 = .ok (.getfield 7, 3) := by decide +kernel
theorem dX8_goGrain_13 : decode cX8_goGrain 13 = .ok (.bipush 6, 2) := by decide +kernel
theorem dX8_goGrain_15 : decode cX8_goGrain 15 = .ok (.dup2, 1) := by decide +kernel
theorem dX8_goGrain_16 : decode cX8_goGrain 16 = .ok (.iaload, 1) := by decide +kernel
theorem dX8_goGrain_17 : decode cX8_goGrain 17 = .ok (.iconst 1, 1) := by decide +kernel
theorem dX8_goGrain_18 : decode cX8_goGrain 18 = .ok (.iadd, 1) := by decide +kernel
theorem dX8_goGrain_19 : decode cX8_goGrain 19 = .ok (.iastore, 1) := by decide +kernel
theorem dX8_goGrain_20 : decode cX8_goGrain 20 = .ok (.aload_n 0, 1) := by decide +kernel
theorem dX8_goGrain_21 : decode cX8_goGrain 21 = .ok (.getfield 7, 3) := by decide +kernel
theorem dX8_goGrain_24 : decode cX8_goGrain 24 = .ok (.bipush 9, 2) := by decide +kernel
theorem dX8_goGrain_26 : decode cX8_goGrain 26 = .ok (.dup2, 1) := by decide +kernel
theorem dX8_goGrain_27 : decode cX8_goGrain 27 = .ok (.iaload, 1) := by decide +kernel
theorem dX8_goGrain_28 : decode cX8_goGrain 28 = .ok (.aload_n 0, 1) := by decide +kernel
theorem dX8_goGrain_29 : decode cX8_goGrain 29 = .ok (.getfield 81, 3) := by decide +kernel
theorem dX8_goGrain_32 : decode cX8_goGrain 32 = .ok (.iadd, 1) := by decide +kernel
theorem dX8_goGrain_33 : decode cX8_goGrain 33 = .ok (.iastore, 1) := by decide +kernel
theorem dX8_goGrain_34 : decode cX8_goGrain 34 = .ok (.iload_n 2, 1) := by decide +kernel
theorem dX8_goGrain_35 : decode cX8_goGrain 35 = .ok (.ifCond .eq 32, 3) := by decide +kernel
theorem dX8_goGrain_38 : decode cX8_goGrain 38 = .ok (.aload_n 0, 1) := by decide +kernel
theorem dX8_goGrain_39 : decode cX8_goGrain 39 = .ok (.aload_n 0, 1) := by decide +kernel
theorem dX8_goGrain_40 : decode cX8_goGrain 40 = .ok (.getfield 78, 3) := by decide +kernel
theorem dX8_goGrain_43 : decode cX8_goGrain 43 = .ok (.aload_n 0, 1) := by decide +kernel
theorem dX8_goGrain_44 : decode cX8_goGrain 44 = .ok (.aload_n 0, 1) := by decide +kernel
theorem dX8_goGrain_45 : decode cX8_goGrain 45 = .ok (.getfield 78, 3) := by decide +kernel
theorem dX8_goGrain_48 : decode cX8_goGrain 48 = .ok (.invokevirtual 84, 3) := by decide +kernel
theorem dX8_goGrain_51 : decode cX8_goGrain 51 = .ok (.aload_n 0, 1) := by decide +kernel
theorem dX8_goGrain_52 : decode cX8_goGrain 52 = .ok (.getfield 81, 3) := by decide +kernel
theorem dX8_goGrain_55 : decode cX8_goGrain 55 = .ok (.invokevirtual 65, 3) := by decide +kernel
theorem dX8_goGrain_58 : decode cX8_goGrain 58 = .ok (.sipush 1000, 3) := by decide +kernel
theorem dX8_goGrain_61 : decode cX8_goGrain 61 = .ok (.aload_n 0, 1) := by decide +kernel
theorem dX8_goGrain_62 : decode cX8_goGrain 62 = .ok (.getfield 78, 3) := by decide +kernel
theorem dX8_goGrain_65 : decode cX8_goGrain 65 = .ok (.iadd, 1) := by decide +kernel
theorem dX8_goGrain_66 : decode cX8_goGrain 66 = .ok (.ireturn, 1) := by decide +kernel
theorem dX8_goGrain_67 : decode cX8_goGrain 67 = .ok (.aload_n 0, 1) := by decide +kernel
theorem dX8_goGrain_68 : decode cX8_goGrain 68 = .ok (.getfield 7, 3) := by decide +kernel
theorem dX8_goGrain_71 : decode cX8_goGrain 71 = .ok (.bipush 7, 2) := by decide +kernel
theorem dX8_goGrain_73 : decode cX8_goGrain 73 = .ok (.dup2, 1) := by decide +kernel
theorem dX8_goGrain_74 : decode cX8_goGrain 74 = .ok (.iaload, 1) := by decide +kernel
theorem dX8_goGrain_75 : decode cX8_goGrain 75 = .ok (.iconst 1, 1) := by decide +kernel
theorem dX8_goGrain_76 : decode cX8_goGrain 76 = .ok (.iadd, 1) := by decide +kernel
theorem dX8_goGrain_77 : decode cX8_goGrain 77 = .ok (.iastore, 1) := by decide +kernel
theorem dX8_goGrain_78 : decode cX8_goGrain 78 = .ok (.aload_n 0, 1) := by decide +kernel
theorem dX8_goGrain_79 : decode cX8_goGrain 79 = .ok (.getfield 81, 3) := by decide +kernel
theorem dX8_goGrain_82 : decode cX8_goGrain 82 = .ok (.ireturn, 1) := by decide +kernel
set_option maxRecDepth 20000 in
theorem ggX8_isBlocked_X8_rimCell : GoodIn wsX8_isBlocked wsX8_rimCell := goodIn_r _ [4] (by decide +kernel) (by decide +kernel)
set_option maxRecDepth 20000 in
theorem gX8_isBlocked_X8_rimCell : GoodIn wsX8_isBlocked (va_wsS RX8 55 yX8_rimCell wsX8_rimCell) := goodIn_app (goodIn_of _ (by decide +kernel)) ggX8_isBlocked_X8_rimCell
set_option maxRecDepth 20000 in
theorem ggX8_isBlocked_X8_grainAt : GoodIn wsX8_isBlocked wsX8_grainAt := goodIn_r _ [8, 9, 10, 11, 12, 3, 13, 14, 15, 16, 17, 18, 19, 20, 21, 22, 23, 24, 25, 26, 27, 28, 29, 30, 31, 32, 33, 34] (by decide +kernel) (by decide +kernel)
set_option maxRecDepth 20000 in
theorem gX8_isBlocked_X8_grainAt : GoodIn wsX8_isBlocked (wsV RX8 72 RX8 yX8_grainAt wsX8_grainAt) := goodIn_app (goodIn_of _ (by decide +kernel)) ggX8_isBlocked_X8_grainAt
theorem dX8_isBlocked_0 : decode cX8_isBlocked 0 = .ok (.aload_n 0, 1) := by decide +kernel
theorem dX8_isBlocked_1 : decode cX8_isBlocked 1 = .ok (.iload_n 1, 1) := by decide +kernel
theorem dX8_isBlocked_2 : decode cX8_isBlocked 2 = .ok (.invokestatic 55, 3) := by decide +kernel
theorem dX8_isBlocked_5 : decode cX8_isBlocked 5 = .ok (.invokevirtual 72, 3) := by decide +kernel
theorem dX8_isBlocked_8 : decode cX8_isBlocked 8 = .ok (.ifCond .lt 7, 3) := by decide +kernel
theorem dX8_isBlocked_11 : decode cX8_isBlocked 11 = .ok (.iconst 1, 1) := by decide +kernel
theorem dX8_isBlocked_12 : decode cX8_isBlocked 12 = .ok (.goto 4, 3) := by decide +kernel
theorem dX8_isBlocked_15 : decode cX8_isBlocked 15 = .ok (.iconst 0, 1) := by decide +kernel
theorem dX8_isBlocked_16 : decode cX8_isBlocked 16 = .ok (.ireturn, 1) := by decide +kernel
set_option maxRecDepth 20000 in
theorem ggX8_goRain_X8_draws : GoodIn wsX8_goRain wsX8_draws := goodIn_r _ [6, 1, 7, 51, 52, 53, 54, 55, 56, 57, 58, 59, 60, 61, 62, 63, 64, 65, 66, 67, 68, 69, 70, 71] (by decide +kernel) (by decide +kernel)
set_option maxRecDepth 20000 in
theorem gX8_goRain_X8_draws : GoodIn wsX8_goRain (wsV RX8 87 RX8 yX8_draws wsX8_draws) := goodIn_app (goodIn_of _ (by decide +kernel)) ggX8_goRain_X8_draws
set_option maxRecDepth 20000 in
theorem ggX8_goRain_X8_isBlocked : GoodIn wsX8_goRain wsX8_isBlocked := goodIn_r _ [11, 12, 13, 5, 14, 15, 16, 17, 18, 1, 19, 20, 21, 22, 51, 52, 53, 54, 55, 56, 57, 58, 59, 60, 61, 62, 63, 64, 65, 66, 67, 68, 69, 70, 71] (by decide +kernel) (by decide +kernel)
set_option maxRecDepth 20000 in
theorem gX8_goRain_X8_isBlocked : GoodIn wsX8_goRain (wsV RX8 99 RX8 yX8_isBlocked wsX8_isBlocked) := goodIn_app (goodIn_of _ (by decide +kernel)) ggX8_goRain_X8_isBlocked
set_option maxRecDepth 20000 in
theorem ggX8_goRain_X8_goGrain : GoodIn wsX8_goRain wsX8_goGrain := goodIn_r _ [26, 1, 27, 28, 12, 13, 5, 14, 29, 30, 31, 32, 7, 33, 34, 35, 36, 37, 38, 39, 40, 41, 42, 15, 16, 17, 18, 19, 20, 21, 22, 2, 3, 4, 6, 43, 44, 45, 46, 47, 48, 49, 50, 51, 52, 53, 54, 55, 56, 57, 58, 59, 60, 61, 62, 63, 64, 65, 66, 67, 68, 69, 70, 71] (by decide +kernel) (by decide +kernel)
set_option maxRecDepth 20000 in
theorem gX8_goRain_X8_goGrain : GoodIn wsX8_goRain (wsV RX8 102 RX8 yX8_goGrain wsX8_goGrain) := goodIn_app (goodIn_of _ (by decide +kernel)) ggX8_goRain_X8_goGrain
theorem dX8_goRain_0 : decode cX8_goRain 0 = .ok (.iconst 0, 1) := by decide +kernel
theorem dX8_goRain_1 : decode cX8_goRain 1 = .ok (.istore_n 2, 1) := by decide +kernel
theorem dX8_goRain_2 : decode cX8_goRain 2 = .ok (.iconst 0, 1) := by decide +kernel
theorem dX8_goRain_3 : decode cX8_goRain 3 = .ok (.istore_n 3, 1) := by decide +kernel
theorem dX8_goRain_4 : decode cX8_goRain 4 = .ok (.iload_n 3, 1) := by decide +kernel
theorem dX8_goRain_5 : decode cX8_goRain 5 = .ok (.iload_n 1, 1) := by decide +kernel
theorem dX8_goRain_6 : decode cX8_goRain 6 = .ok (.if_icmp .ge 72, 3) := by decide +kernel
theorem dX8_goRain_9 : decode cX8_goRain 9 = .ok (.aload_n 0, 1) := by decide +kernel
theorem dX8_goRain_10 : decode cX8_goRain 10 = .ok (.invokevirtual 87, 3) := by decide +kernel
theorem dX8_goRain_13 : decode cX8_goRain 13 = .ok (.bipush 40, 2) := by decide +kernel
theorem dX8_goRain_15 : decode cX8_goRain 15 = .ok (.irem, 1) := by decide +kernel
theorem dX8_goRain_16 : decode cX8_goRain 16 = .ok (.istore 4, 2) := by decide +kernel
theorem dX8_goRain_18 : decode cX8_goRain 18 = .ok (.aload_n 0, 1) := by decide +kernel
theorem dX8_goRain_19 : decode cX8_goRain 19 = .ok (.iload 4, 2) := by decide +kernel
theorem dX8_goRain_21 : decode cX8_goRain 21 = .ok (.invokevirtual 99, 3) := by decide +kernel
theorem dX8_goRain_24 : decode cX8_goRain 24 = .ok (.ifCond .eq 28, 3) := by decide +kernel
theorem dX8_goRain_27 : decode cX8_goRain 27 = .ok (.aload_n 0, 1) := by decide +kernel
theorem dX8_goRain_28 : decode cX8_goRain 28 = .ok (.getfield 7, 3) := by decide +kernel
theorem dX8_goRain_31 : decode cX8_goRain 31 = .ok (.bipush 6, 2) := by decide +kernel
theorem dX8_goRain_33 : decode cX8_goRain 33 = .ok (.dup2, 1) := by decide +kernel
theorem dX8_goRain_34 : decode cX8_goRain 34 = .ok (.iaload, 1) := by decide +kernel
theorem dX8_goRain_35 : decode cX8_goRain 35 = .ok (.iconst 1, 1) := by decide +kernel
theorem dX8_goRain_36 : decode cX8_goRain 36 = .ok (.iadd, 1) := by decide +kernel
theorem dX8_goRain_37 : decode cX8_goRain 37 = .ok (.iastore, 1) := by decide +kernel
theorem dX8_goRain_38 : decode cX8_goRain 38 = .ok (.aload_n 0, 1) := by decide +kernel
theorem dX8_goRain_39 : decode cX8_goRain 39 = .ok (.getfield 7, 3) := by decide +kernel
theorem dX8_goRain_42 : decode cX8_goRain 42 = .ok (.bipush 7, 2) := by decide +kernel
theorem dX8_goRain_44 : decode cX8_goRain 44 = .ok (.dup2, 1) := by decide +kernel
theorem dX8_goRain_45 : decode cX8_goRain 45 = .ok (.iaload, 1) := by decide +kernel
theorem dX8_goRain_46 : decode cX8_goRain 46 = .ok (.iconst 1, 1) := by decide +kernel
theorem dX8_goRain_47 : decode cX8_goRain 47 = .ok (.iadd, 1) := by decide +kernel
theorem dX8_goRain_48 : decode cX8_goRain 48 = .ok (.iastore, 1) := by decide +kernel
theorem dX8_goRain_49 : decode cX8_goRain 49 = .ok (.goto 23, 3) := by decide +kernel
theorem dX8_goRain_52 : decode cX8_goRain 52 = .ok (.iload_n 2, 1) := by decide +kernel
theorem dX8_goRain_53 : decode cX8_goRain 53 = .ok (.aload_n 0, 1) := by decide +kernel
theorem dX8_goRain_54 : decode cX8_goRain 54 = .ok (.iload 4, 2) := by decide +kernel
theorem dX8_goRain_56 : decode cX8_goRain 56 = .ok (.invokevirtual 102, 3) := by decide +kernel
theorem dX8_goRain_59 : decode cX8_goRain 59 = .ok (.sipush 1000, 3) := by decide +kernel
theorem dX8_goRain_62 : decode cX8_goRain 62 = .ok (.if_icmp .lt 7, 3) := by decide +kernel
theorem dX8_goRain_65 : decode cX8_goRain 65 = .ok (.iconst 1, 1) := by decide +kernel
theorem dX8_goRain_66 : decode cX8_goRain 66 = .ok (.goto 4, 3) := by decide +kernel
theorem dX8_goRain_69 : decode cX8_goRain 69 = .ok (.iconst 0, 1) := by decide +kernel
theorem dX8_goRain_70 : decode cX8_goRain 70 = .ok (.iadd, 1) := by decide +kernel
theorem dX8_goRain_71 : decode cX8_goRain 71 = .ok (.istore_n 2, 1) := by decide +kernel
theorem dX8_goRain_72 : decode cX8_goRain 72 = .ok (.iinc 3 1, 3) := by decide +kernel
theorem dX8_goRain_75 : decode cX8_goRain 75 = .ok (.goto (-71), 3) := by decide +kernel
theorem dX8_goRain_78 : decode cX8_goRain 78 = .ok (.iload_n 2, 1) := by decide +kernel
theorem dX8_goRain_79 : decode cX8_goRain 79 = .ok (.ireturn, 1) := by decide +kernel
set_option maxRecDepth 20000 in
theorem ggX8_takesAway_X8_holder : GoodIn wsX8_takesAway wsX8_holder := goodIn_r _ [8, 9, 10, 11, 7, 12, 1, 17, 18, 19, 20, 21, 22, 23, 24, 25, 26, 27, 28, 29, 30, 31, 32, 33, 34, 35, 36, 37] (by decide +kernel) (by decide +kernel)
set_option maxRecDepth 20000 in
theorem gX8_takesAway_X8_holder : GoodIn wsX8_takesAway (wsV RX8 105 RX8 yX8_holder wsX8_holder) := goodIn_app (goodIn_of _ (by decide +kernel)) ggX8_takesAway_X8_holder
set_option maxRecDepth 20000 in
theorem ggX8_takesAway_X8_of : GoodIn wsX8_takesAway wsX8_of := goodIn_r _ [12, 1, 17, 18, 19, 20, 21, 22, 23, 24, 25, 26, 27, 28, 29, 30, 31, 32, 33, 34, 35, 36, 37] (by decide +kernel) (by decide +kernel)
set_option maxRecDepth 20000 in
theorem gX8_takesAway_X8_of : GoodIn wsX8_takesAway (wsV RX8 58 RX8 yX8_of wsX8_of) := goodIn_app (goodIn_of _ (by decide +kernel)) ggX8_takesAway_X8_of
set_option maxRecDepth 20000 in
theorem ggX8_takesAway_X8_adds : GoodIn wsX8_takesAway wsX8_adds := goodIn_r _ [16, 1, 17, 18, 19, 20, 21, 22, 23, 24, 25, 26, 27, 28, 29, 30, 31, 32, 33, 34, 35, 36, 37] (by decide +kernel) (by decide +kernel)
set_option maxRecDepth 20000 in
theorem gX8_takesAway_X8_adds : GoodIn wsX8_takesAway (wsV RX8 65 RX8 yX8_adds wsX8_adds) := goodIn_app (goodIn_of _ (by decide +kernel)) ggX8_takesAway_X8_adds
theorem dX8_takesAway_0 : decode cX8_takesAway 0 = .ok (.iconst 0, 1) := by decide +kernel
theorem dX8_takesAway_1 : decode cX8_takesAway 1 = .ok (.istore_n 1, 1) := by decide +kernel
theorem dX8_takesAway_2 : decode cX8_takesAway 2 = .ok (.aload_n 0, 1) := by decide +kernel
theorem dX8_takesAway_3 : decode cX8_takesAway 3 = .ok (.getfield 7, 3) := by decide +kernel
theorem dX8_takesAway_6 : decode cX8_takesAway 6 = .ok (.iconst 0, 1) := by decide +kernel
theorem dX8_takesAway_7 : decode cX8_takesAway 7 = .ok (.iaload, 1) := by decide +kernel
theorem dX8_takesAway_8 : decode cX8_takesAway 8 = .ok (.istore_n 2, 1) := by decide +kernel
theorem dX8_takesAway_9 : decode cX8_takesAway 9 = .ok (.iconst 0, 1) := by decide +kernel
theorem dX8_takesAway_10 : decode cX8_takesAway 10 = .ok (.istore_n 3, 1) := by decide +kernel
theorem dX8_takesAway_11 : decode cX8_takesAway 11 = .ok (.iload_n 3, 1) := by decide +kernel
theorem dX8_takesAway_12 : decode cX8_takesAway 12 = .ok (.iload_n 2, 1) := by decide +kernel
theorem dX8_takesAway_13 : decode cX8_takesAway 13 = .ok (.if_icmp .ge 85, 3) := by decide +kernel
theorem dX8_takesAway_16 : decode cX8_takesAway 16 = .ok (.aload_n 0, 1) := by decide +kernel
theorem dX8_takesAway_17 : decode cX8_takesAway 17 = .ok (.getfield 29, 3) := by decide +kernel
theorem dX8_takesAway_20 : decode cX8_takesAway 20 = .ok (.iload_n 3, 1) := by decide +kernel
theorem dX8_takesAway_21 : decode cX8_takesAway 21 = .ok (.iload_n 1, 1) := by decide +kernel
theorem dX8_takesAway_22 : decode cX8_takesAway 22 = .ok (.iastore, 1) := by decide +kernel
theorem dX8_takesAway_23 : decode cX8_takesAway 23 = .ok (.aload_n 0, 1) := by decide +kernel
theorem dX8_takesAway_24 : decode cX8_takesAway 24 = .ok (.getfield 25, 3) := by decide +kernel
theorem dX8_takesAway_27 : decode cX8_takesAway 27 = .ok (.iload_n 3, 1) := by decide +kernel
theorem dX8_takesAway_28 : decode cX8_takesAway 28 = .ok (.baload, 1) := by decide +kernel
theorem dX8_takesAway_29 : decode cX8_takesAway 29 = .ok (.ifCond .ne 63, 3) := by decide +kernel
theorem dX8_takesAway_32 : decode cX8_takesAway 32 = .ok (.aload_n 0, 1) := by decide +kernel
theorem dX8_takesAway_33 : decode cX8_takesAway 33 = .ok (.iload_n 3, 1) := by decide +kernel
theorem dX8_takesAway_34 : decode cX8_takesAway 34 = .ok (.invokevirtual 105, 3) := by decide +kernel
theorem dX8_takesAway_37 : decode cX8_takesAway 37 = .ok (.ifCond .ge 7, 3) := by decide +kernel
theorem dX8_takesAway_40 : decode cX8_takesAway 40 = .ok (.iconst (-1), 1) := by decide +kernel
theorem dX8_takesAway_41 : decode cX8_takesAway 41 = .ok (.goto 13, 3) := by decide +kernel
theorem dX8_takesAway_44 : decode cX8_takesAway 44 = .ok (.aload_n 0, 1) := by decide +kernel
theorem dX8_takesAway_45 : decode cX8_takesAway 45 = .ok (.getfield 29, 3) := by decide +kernel
theorem dX8_takesAway_48 : decode cX8_takesAway 48 = .ok (.aload_n 0, 1) := by decide +kernel
theorem dX8_takesAway_49 : decode cX8_takesAway 49 = .ok (.iload_n 3, 1) := by decide +kernel
theorem dX8_takesAway_50 : decode cX8_takesAway 50 = .ok (.invokevirtual 105, 3) := by decide +kernel
theorem dX8_takesAway_53 : decode cX8_takesAway 53 = .ok (.iaload, 1) := by decide +kernel
theorem dX8_takesAway_54 : decode cX8_takesAway 54 = .ok (.istore 4, 2) := by decide +kernel
theorem dX8_takesAway_56 : decode cX8_takesAway 56 = .ok (.aload_n 0, 1) := by decide +kernel
theorem dX8_takesAway_57 : decode cX8_takesAway 57 = .ok (.iload_n 3, 1) := by decide +kernel
theorem dX8_takesAway_58 : decode cX8_takesAway 58 = .ok (.iconst 0, 1) := by decide +kernel
theorem dX8_takesAway_59 : decode cX8_takesAway 59 = .ok (.invokevirtual 58, 3) := by decide +kernel
theorem dX8_takesAway_62 : decode cX8_takesAway 62 = .ok (.istore 5, 2) := by decide +kernel
theorem dX8_takesAway_64 : decode cX8_takesAway 64 = .ok (.aload_n 0, 1) := by decide +kernel
theorem dX8_takesAway_65 : decode cX8_takesAway 65 = .ok (.iload_n 3, 1) := by decide +kernel
theorem dX8_takesAway_66 : decode cX8_takesAway 66 = .ok (.iconst 2, 1) := by decide +kernel
theorem dX8_takesAway_67 : decode cX8_takesAway 67 = .ok (.invokevirtual 58, 3) := by decide +kernel
theorem dX8_takesAway_70 : decode cX8_takesAway 70 = .ok (.istore 6, 2) := by decide +kernel
theorem dX8_takesAway_72 : decode cX8_takesAway 72 = .ok (.aload_n 0, 1) := by decide +kernel
theorem dX8_takesAway_73 : decode cX8_takesAway 73 = .ok (.getfield 7, 3) := by decide +kernel
theorem dX8_takesAway_76 : decode cX8_takesAway 76 = .ok (.iconst 0, 1) := by decide +kernel
theorem dX8_takesAway_77 : decode cX8_takesAway 77 = .ok (.iload_n 1, 1) := by decide +kernel
theorem dX8_takesAway_78 : decode cX8_takesAway 78 = .ok (.iastore, 1) := by decide +kernel
theorem dX8_takesAway_79 : decode cX8_takesAway 79 = .ok (.aload_n 0, 1) := by decide +kernel
theorem dX8_takesAway_80 : decode cX8_takesAway 80 = .ok (.iload 5, 2) := by decide +kernel
theorem dX8_takesAway_82 : decode cX8_takesAway 82 = .ok (.iload 4, 2) := by decide +kernel
theorem dX8_takesAway_84 : decode cX8_takesAway 84 = .ok (.iload 6, 2) := by decide +kernel
theorem dX8_takesAway_86 : decode cX8_takesAway 86 = .ok (.invokevirtual 65, 3) := by decide +kernel
theorem dX8_takesAway_89 : decode cX8_takesAway 89 = .ok (.iinc 1 1, 3) := by decide +kernel
theorem dX8_takesAway_92 : decode cX8_takesAway 92 = .ok (.iinc 3 1, 3) := by decide +kernel
theorem dX8_takesAway_95 : decode cX8_takesAway 95 = .ok (.goto (-84), 3) := by decide +kernel
theorem dX8_takesAway_98 : decode cX8_takesAway 98 = .ok (.aload_n 0, 1) := by decide +kernel
theorem dX8_takesAway_99 : decode cX8_takesAway 99 = .ok (.getfield 7, 3) := by decide +kernel
theorem dX8_takesAway_102 : decode cX8_takesAway 102 = .ok (.iconst 0, 1) := by decide +kernel
theorem dX8_takesAway_103 : decode cX8_takesAway 103 = .ok (.iload_n 1, 1) := by decide +kernel
theorem dX8_takesAway_104 : decode cX8_takesAway 104 = .ok (.iastore, 1) := by decide +kernel
theorem dX8_takesAway_105 : decode cX8_takesAway 105 = .ok (.bipush 10, 2) := by decide +kernel
theorem dX8_takesAway_107 : decode cX8_takesAway 107 = .ok (.iconst 3, 1) := by decide +kernel
theorem dX8_takesAway_108 : decode cX8_takesAway 108 = .ok (.iload_n 1, 1) := by decide +kernel
theorem dX8_takesAway_109 : decode cX8_takesAway 109 = .ok (.imul, 1) := by decide +kernel
theorem dX8_takesAway_110 : decode cX8_takesAway 110 = .ok (.iadd, 1) := by decide +kernel
theorem dX8_takesAway_111 : decode cX8_takesAway 111 = .ok (.istore_n 3, 1) := by decide +kernel
theorem dX8_takesAway_112 : decode cX8_takesAway 112 = .ok (.iload_n 3, 1) := by decide +kernel
theorem dX8_takesAway_113 : decode cX8_takesAway 113 = .ok (.sipush 373, 3) := by decide +kernel
theorem dX8_takesAway_116 : decode cX8_takesAway 116 = .ok (.if_icmp .ge 16, 3) := by decide +kernel
theorem dX8_takesAway_119 : decode cX8_takesAway 119 = .ok (.aload_n 0, 1) := by decide +kernel
theorem dX8_takesAway_120 : decode cX8_takesAway 120 = .ok (.getfield 7, 3) := by decide +kernel
theorem dX8_takesAway_123 : decode cX8_takesAway 123 = .ok (.iload_n 3, 1) := by decide +kernel
theorem dX8_takesAway_124 : decode cX8_takesAway 124 = .ok (.iconst 0, 1) := by decide +kernel
theorem dX8_takesAway_125 : decode cX8_takesAway 125 = .ok (.iastore, 1) := by decide +kernel
theorem dX8_takesAway_126 : decode cX8_takesAway 126 = .ok (.iinc 3 1, 3) := by decide +kernel
theorem dX8_takesAway_129 : decode cX8_takesAway 129 = .ok (.goto (-17), 3) := by decide +kernel
theorem dX8_takesAway_132 : decode cX8_takesAway 132 = .ok (.aload_n 0, 1) := by decide +kernel
theorem dX8_takesAway_133 : decode cX8_takesAway 133 = .ok (.getfield 7, 3) := by decide +kernel
theorem dX8_takesAway_136 : decode cX8_takesAway 136 = .ok (.bipush 8, 2) := by decide +kernel
theorem dX8_takesAway_138 : decode cX8_takesAway 138 = .ok (.dup2, 1) := by decide +kernel
theorem dX8_takesAway_139 : decode cX8_takesAway 139 = .ok (.iaload, 1) := by decide +kernel
theorem dX8_takesAway_140 : decode cX8_takesAway 140 = .ok (.iload_n 2, 1) := by decide +kernel
theorem dX8_takesAway_141 : decode cX8_takesAway 141 = .ok (.iload_n 1, 1) := by decide +kernel
theorem dX8_takesAway_142 : decode cX8_takesAway 142 = .ok (.isub, 1) := by decide +kernel
theorem dX8_takesAway_143 : decode cX8_takesAway 143 = .ok (.iadd, 1) := by decide +kernel
theorem dX8_takesAway_144 : decode cX8_takesAway 144 = .ok (.iastore, 1) := by decide +kernel
theorem dX8_takesAway_145 : decode cX8_takesAway 145 = .ok (.iload_n 2, 1) := by decide +kernel
theorem dX8_takesAway_146 : decode cX8_takesAway 146 = .ok (.iload_n 1, 1) := by decide +kernel
theorem dX8_takesAway_147 : decode cX8_takesAway 147 = .ok (.isub, 1) := by decide +kernel
theorem dX8_takesAway_148 : decode cX8_takesAway 148 = .ok (.ireturn, 1) := by decide +kernel
set_option maxRecDepth 20000 in
theorem ggX8_goBreak_X8_holder : GoodIn wsX8_goBreak wsX8_holder := goodIn_r _ [7, 8, 9, 10, 6, 11, 1, 21, 22, 23, 24, 25, 26, 27, 28, 29, 30, 31, 32, 33, 34, 35, 36, 37, 38, 39, 40, 41] (by decide +kernel) (by decide +kernel)
set_option maxRecDepth 20000 in
theorem gX8_goBreak_X8_holder : GoodIn wsX8_goBreak (wsV RX8 105 RX8 yX8_holder wsX8_holder) := goodIn_app (goodIn_of _ (by decide +kernel)) ggX8_goBreak_X8_holder
set_option maxRecDepth 20000 in
theorem ggX8_goBreak_X8_takesAway : GoodIn wsX8_goBreak wsX8_takesAway := goodIn_r _ [15, 1, 16, 2, 3, 4, 5, 6, 7, 8, 9, 10, 11, 17, 18, 19, 20, 21, 22, 23, 24, 25, 26, 27, 28, 29, 30, 31, 32, 33, 34, 35, 36, 37, 38, 39, 40, 41] (by decide +kernel) (by decide +kernel)
set_option maxRecDepth 20000 in
theorem gX8_goBreak_X8_takesAway : GoodIn wsX8_goBreak (wsV RX8 108 RX8 yX8_takesAway wsX8_takesAway) := goodIn_app (goodIn_of _ (by decide +kernel)) ggX8_goBreak_X8_takesAway
theorem dX8_goBreak_0 : decode cX8_goBreak 0 = .ok (.iconst 0, 1) := by decide +kernel
theorem dX8_goBreak_1 : decode cX8_goBreak 1 = .ok (.istore_n 2, 1) := by decide +kernel
theorem dX8_goBreak_2 : decode cX8_goBreak 2 = .ok (.iload_n 2, 1) := by decide +kernel
theorem dX8_goBreak_3 : decode cX8_goBreak 3 = .ok (.aload_n 0, 1) := by decide +kernel
theorem dX8_goBreak_4 : decode cX8_goBreak 4 = .ok (.getfield 7, 3) := by decide +kernel
theorem dX8_goBreak_7 : decode cX8_goBreak 7 = .ok (.iconst 0, 1) := by decide +kernel
theorem dX8_goBreak_8 : decode cX8_goBreak 8 = .ok (.iaload, 1) := by decide +kernel
theorem dX8_goBreak_9 : decode cX8_goBreak 9 = .ok (.if_icmp .ge 46, 3) := by decide +kernel
theorem dX8_goBreak_12 : decode cX8_goBreak 12 = .ok (.aload_n 0, 1) := by decide +kernel
theorem dX8_goBreak_13 : decode cX8_goBreak 13 = .ok (.getfield 25, 3) := by decide +kernel
theorem dX8_goBreak_16 : decode cX8_goBreak 16 = .ok (.iload_n 2, 1) := by decide +kernel
theorem dX8_goBreak_17 : decode cX8_goBreak 17 = .ok (.iload_n 2, 1) := by decide +kernel
theorem dX8_goBreak_18 : decode cX8_goBreak 18 = .ok (.iload_n 1, 1) := by decide +kernel
theorem dX8_goBreak_19 : decode cX8_goBreak 19 = .ok (.if_icmp .eq 24, 3) := by decide +kernel
theorem dX8_goBreak_22 : decode cX8_goBreak 22 = .ok (.aload_n 0, 1) := by decide +kernel
theorem dX8_goBreak_23 : decode cX8_goBreak 23 = .ok (.iload_n 2, 1) := by decide +kernel
theorem dX8_goBreak_24 : decode cX8_goBreak 24 = .ok (.invokevirtual 105, 3) := by decide +kernel
theorem dX8_goBreak_27 : decode cX8_goBreak 27 = .ok (.ifCond .lt 20, 3) := by decide +kernel
theorem dX8_goBreak_30 : decode cX8_goBreak 30 = .ok (.aload_n 0, 1) := by decide +kernel
theorem dX8_goBreak_31 : decode cX8_goBreak 31 = .ok (.getfield 25, 3) := by decide +kernel
theorem dX8_goBreak_34 : decode cX8_goBreak 34 = .ok (.aload_n 0, 1) := by decide +kernel
theorem dX8_goBreak_35 : decode cX8_goBreak 35 = .ok (.iload_n 2, 1) := by decide +kernel
theorem dX8_goBreak_36 : decode cX8_goBreak 36 = .ok (.invokevirtual 105, 3) := by decide +kernel
theorem dX8_goBreak_39 : decode cX8_goBreak 39 = .ok (.baload, 1) := by decide +kernel
theorem dX8_goBreak_40 : decode cX8_goBreak 40 = .ok (.ifCond .eq 7, 3) := by decide +kernel
theorem dX8_goBreak_43 : decode cX8_goBreak 43 = .ok (.iconst 1, 1) := by decide +kernel
theorem dX8_goBreak_44 : decode cX8_goBreak 44 = .ok (.goto 4, 3) := by decide +kernel
theorem dX8_goBreak_47 : decode cX8_goBreak 47 = .ok (.iconst 0, 1) := by decide +kernel
theorem dX8_goBreak_48 : decode cX8_goBreak 48 = .ok (.bastore, 1) := by decide +kernel
theorem dX8_goBreak_49 : decode cX8_goBreak 49 = .ok (.iinc 2 1, 3) := by decide +kernel
theorem dX8_goBreak_52 : decode cX8_goBreak 52 = .ok (.goto (-50), 3) := by decide +kernel
theorem dX8_goBreak_55 : decode cX8_goBreak 55 = .ok (.aload_n 0, 1) := by decide +kernel
theorem dX8_goBreak_56 : decode cX8_goBreak 56 = .ok (.invokevirtual 108, 3) := by decide +kernel
theorem dX8_goBreak_59 : decode cX8_goBreak 59 = .ok (.ireturn, 1) := by decide +kernel
set_option maxRecDepth 20000 in
theorem ggX8_children_X8_holder : GoodIn wsX8_children wsX8_holder := goodIn_r _ [6, 7, 8, 9, 5, 10, 1, 11, 12, 13, 14, 15, 16, 17, 18, 19, 20, 21, 22, 23, 24, 25, 26, 27, 28, 29, 30, 31] (by decide +kernel) (by decide +kernel)
set_option maxRecDepth 20000 in
theorem gX8_children_X8_holder : GoodIn wsX8_children (wsV RX8 105 RX8 yX8_holder wsX8_holder) := goodIn_app (goodIn_of _ (by decide +kernel)) ggX8_children_X8_holder
theorem dX8_children_0 : decode cX8_children 0 = .ok (.iconst 0, 1) := by decide +kernel
theorem dX8_children_1 : decode cX8_children 1 = .ok (.istore_n 2, 1) := by decide +kernel
theorem dX8_children_2 : decode cX8_children 2 = .ok (.iload_n 1, 1) := by decide +kernel
theorem dX8_children_3 : decode cX8_children 3 = .ok (.iconst 1, 1) := by decide +kernel
theorem dX8_children_4 : decode cX8_children 4 = .ok (.iadd, 1) := by decide +kernel
theorem dX8_children_5 : decode cX8_children 5 = .ok (.istore_n 3, 1) := by decide +kernel
theorem dX8_children_6 : decode cX8_children 6 = .ok (.iload_n 3, 1) := by decide +kernel
theorem dX8_children_7 : decode cX8_children 7 = .ok (.aload_n 0, 1) := by decide +kernel
theorem dX8_children_8 : decode cX8_children 8 = .ok (.getfield 7, 3) := by decide +kernel
theorem dX8_children_11 : decode cX8_children 11 = .ok (.iconst 0, 1) := by decide +kernel
theorem dX8_children_12 : decode cX8_children 12 = .ok (.iaload, 1) := by decide +kernel
theorem dX8_children_13 : decode cX8_children 13 = .ok (.if_icmp .ge 26, 3) := by decide +kernel
theorem dX8_children_16 : decode cX8_children 16 = .ok (.iload_n 2, 1) := by decide +kernel
theorem dX8_children_17 : decode cX8_children 17 = .ok (.aload_n 0, 1) := by decide +kernel
theorem dX8_children_18 : decode cX8_children 18 = .ok (.iload_n 3, 1) := by decide +kernel
theorem dX8_children_19 : decode cX8_children 19 = .ok (.invokevirtual 105, 3) := by decide +kernel
theorem dX8_children_22 : decode cX8_children 22 = .ok (.iload_n 1, 1) := by decide +kernel
theorem dX8_children_23 : decode cX8_children 23 = .ok (.if_icmp .ne 7, 3) := by decide +kernel
theorem dX8_children_26 : decode cX8_children 26 = .ok (.iconst 1, 1) := by decide +kernel
theorem dX8_children_27 : decode cX8_children 27 = .ok (.goto 4, 3) := by decide +kernel
theorem dX8_children_30 : decode cX8_children 30 = .ok (.iconst 0, 1) := by decide +kernel
theorem dX8_children_31 : decode cX8_children 31 = .ok (.iadd, 1) := by decide +kernel
theorem dX8_children_32 : decode cX8_children 32 = .ok (.istore_n 2, 1) := by decide +kernel
theorem dX8_children_33 : decode cX8_children 33 = .ok (.iinc 3 1, 3) := by decide +kernel
theorem dX8_children_36 : decode cX8_children 36 = .ok (.goto (-30), 3) := by decide +kernel
theorem dX8_children_39 : decode cX8_children 39 = .ok (.iload_n 2, 1) := by decide +kernel
theorem dX8_children_40 : decode cX8_children 40 = .ok (.ireturn, 1) := by decide +kernel
set_option maxRecDepth 20000 in
theorem ggX8_goWash_X8_holder : GoodIn wsX8_goWash wsX8_holder := goodIn_r _ [7, 8, 9, 10, 6, 11, 1, 25, 26, 27, 28, 29, 30, 31, 32, 33, 34, 35, 36, 37, 38, 39, 40, 41, 42, 43, 44, 45] (by decide +kernel) (by decide +kernel)
set_option maxRecDepth 20000 in
theorem gX8_goWash_X8_holder : GoodIn wsX8_goWash (wsV RX8 105 RX8 yX8_holder wsX8_holder) := goodIn_app (goodIn_of _ (by decide +kernel)) ggX8_goWash_X8_holder
set_option maxRecDepth 20000 in
theorem ggX8_goWash_X8_children : GoodIn wsX8_goWash wsX8_children := goodIn_r _ [15, 1, 3, 4, 5, 6, 7, 8, 9, 10, 11, 25, 26, 27, 28, 29, 30, 31, 32, 33, 34, 35, 36, 37, 38, 39, 40, 41, 42, 43, 44, 45] (by decide +kernel) (by decide +kernel)
set_option maxRecDepth 20000 in
theorem gX8_goWash_X8_children : GoodIn wsX8_goWash (wsV RX8 111 RX8 yX8_children wsX8_children) := goodIn_app (goodIn_of _ (by decide +kernel)) ggX8_goWash_X8_children
set_option maxRecDepth 20000 in
theorem ggX8_goWash_X8_takesAway : GoodIn wsX8_goWash wsX8_takesAway := goodIn_r _ [19, 1, 20, 2, 3, 4, 5, 6, 7, 8, 9, 10, 11, 21, 22, 23, 24, 25, 26, 27, 28, 29, 30, 31, 32, 33, 34, 35, 36, 37, 38, 39, 40, 41, 42, 43, 44, 45] (by decide +kernel) (by decide +kernel)
set_option maxRecDepth 20000 in
theorem gX8_goWash_X8_takesAway : GoodIn wsX8_goWash (wsV RX8 108 RX8 yX8_takesAway wsX8_takesAway) := goodIn_app (goodIn_of _ (by decide +kernel)) ggX8_goWash_X8_takesAway
theorem dX8_goWash_0 : decode cX8_goWash 0 = .ok (.iconst 0, 1) := by decide +kernel
theorem dX8_goWash_1 : decode cX8_goWash 1 = .ok (.istore_n 1, 1) := by decide +kernel
theorem dX8_goWash_2 : decode cX8_goWash 2 = .ok (.iload_n 1, 1) := by decide +kernel
theorem dX8_goWash_3 : decode cX8_goWash 3 = .ok (.aload_n 0, 1) := by decide +kernel
theorem dX8_goWash_4 : decode cX8_goWash 4 = .ok (.getfield 7, 3) := by decide +kernel
theorem dX8_goWash_7 : decode cX8_goWash 7 = .ok (.iconst 0, 1) := by decide +kernel
theorem dX8_goWash_8 : decode cX8_goWash 8 = .ok (.iaload, 1) := by decide +kernel
theorem dX8_goWash_9 : decode cX8_goWash 9 = .ok (.if_icmp .ge 36, 3) := by decide +kernel
theorem dX8_goWash_12 : decode cX8_goWash 12 = .ok (.aload_n 0, 1) := by decide +kernel
theorem dX8_goWash_13 : decode cX8_goWash 13 = .ok (.getfield 25, 3) := by decide +kernel
theorem dX8_goWash_16 : decode cX8_goWash 16 = .ok (.iload_n 1, 1) := by decide +kernel
theorem dX8_goWash_17 : decode cX8_goWash 17 = .ok (.aload_n 0, 1) := by decide +kernel
theorem dX8_goWash_18 : decode cX8_goWash 18 = .ok (.iload_n 1, 1) := by decide +kernel
theorem dX8_goWash_19 : decode cX8_goWash 19 = .ok (.invokevirtual 105, 3) := by decide +kernel
theorem dX8_goWash_22 : decode cX8_goWash 22 = .ok (.ifCond .lt 15, 3) := by decide +kernel
theorem dX8_goWash_25 : decode cX8_goWash 25 = .ok (.aload_n 0, 1) := by decide +kernel
theorem dX8_goWash_26 : decode cX8_goWash 26 = .ok (.iload_n 1, 1) := by decide +kernel
theorem dX8_goWash_27 : decode cX8_goWash 27 = .ok (.invokevirtual 111, 3) := by decide +kernel
theorem dX8_goWash_30 : decode cX8_goWash 30 = .ok (.ifCond .ne 7, 3) := by decide +kernel
theorem dX8_goWash_33 : decode cX8_goWash 33 = .ok (.iconst 1, 1) := by decide +kernel
theorem dX8_goWash_34 : decode cX8_goWash 34 = .ok (.goto 4, 3) := by decide +kernel
theorem dX8_goWash_37 : decode cX8_goWash 37 = .ok (.iconst 0, 1) := by decide +kernel
theorem dX8_goWash_38 : decode cX8_goWash 38 = .ok (.bastore, 1) := by decide +kernel
theorem dX8_goWash_39 : decode cX8_goWash 39 = .ok (.iinc 1 1, 3) := by decide +kernel
theorem dX8_goWash_42 : decode cX8_goWash 42 = .ok (.goto (-40), 3) := by decide +kernel
theorem dX8_goWash_45 : decode cX8_goWash 45 = .ok (.aload_n 0, 1) := by decide +kernel
theorem dX8_goWash_46 : decode cX8_goWash 46 = .ok (.invokevirtual 108, 3) := by decide +kernel
theorem dX8_goWash_49 : decode cX8_goWash 49 = .ok (.ireturn, 1) := by decide +kernel
set_option maxRecDepth 20000 in
theorem ggX8_errorGo_X8_isRim : GoodIn wsX8_errorGo wsX8_isRim := goodIn_r _ [4, 5, 6, 3, 7] (by decide +kernel) (by decide +kernel)
set_option maxRecDepth 20000 in
theorem gX8_errorGo_X8_isRim : GoodIn wsX8_errorGo (va_wsS RX8 114 yX8_isRim wsX8_isRim) := goodIn_app (goodIn_of _ (by decide +kernel)) ggX8_errorGo_X8_isRim
set_option maxRecDepth 20000 in
theorem ggX8_errorGo_X8_isBlocked : GoodIn wsX8_errorGo wsX8_isBlocked := goodIn_r _ [11, 12, 13, 3, 14, 15, 16, 17, 18, 19, 20, 21, 22, 23, 24, 25, 26, 27, 28, 29, 30, 31, 32, 33, 34, 35, 36, 37, 38, 39, 40, 41, 42, 43, 44] (by decide +kernel) (by decide +kernel)
set_option maxRecDepth 20000 in
theorem gX8_errorGo_X8_isBlocked : GoodIn wsX8_errorGo (wsV RX8 99 RX8 yX8_isBlocked wsX8_isBlocked) := goodIn_app (goodIn_of _ (by decide +kernel)) ggX8_errorGo_X8_isBlocked
theorem dX8_errorGo_0 : decode cX8_errorGo 0 = .ok (.iload_n 1, 1) := by decide +kernel
theorem dX8_errorGo_1 : decode cX8_errorGo 1 = .ok (.invokestatic 114, 3) := by decide +kernel
theorem dX8_errorGo_4 : decode cX8_errorGo 4 = .ok (.ifCond .ne 7, 3) := by decide +kernel
theorem dX8_errorGo_7 : decode cX8_errorGo 7 = .ok (.iconst (-1), 1) := by decide +kernel
theorem dX8_errorGo_8 : decode cX8_errorGo 8 = .ok (.goto 17, 3) := by decide +kernel
theorem dX8_errorGo_11 : decode cX8_errorGo 11 = .ok (.aload_n 0, 1) := by decide +kernel
theorem dX8_errorGo_12 : decode cX8_errorGo 12 = .ok (.iload_n 1, 1) := by decide +kernel
theorem dX8_errorGo_13 : decode cX8_errorGo 13 = .ok (.invokevirtual 99, 3) := by decide +kernel
theorem dX8_errorGo_16 : decode cX8_errorGo 16 = .ok (.ifCond .eq 8, 3) := by decide +kernel
theorem dX8_errorGo_19 : decode cX8_errorGo 19 = .ok (.bipush (-2), 2) := by decide +kernel
theorem dX8_errorGo_21 : decode cX8_errorGo 21 = .ok (.goto 4, 3) := by decide +kernel
theorem dX8_errorGo_24 : decode cX8_errorGo 24 = .ok (.iconst 0, 1) := by decide +kernel
theorem dX8_errorGo_25 : decode cX8_errorGo 25 = .ok (.ireturn, 1) := by decide +kernel
set_option maxRecDepth 20000 in
theorem ggX8_errorBreak_X8_isGrain : GoodIn wsX8_errorBreak wsX8_isGrain := goodIn_r _ [5, 6, 7, 8, 4, 9, 18, 19, 20, 21, 22, 23, 24, 25, 26, 27, 28, 29, 30, 31, 32, 33, 34, 35, 36, 37, 38] (by decide +kernel) (by decide +kernel)
set_option maxRecDepth 20000 in
theorem gX8_errorBreak_X8_isGrain : GoodIn wsX8_errorBreak (wsV RX8 117 RX8 yX8_isGrain wsX8_isGrain) := goodIn_app (goodIn_of _ (by decide +kernel)) ggX8_errorBreak_X8_isGrain
set_option maxRecDepth 20000 in
theorem ggX8_errorBreak_X8_holder : GoodIn wsX8_errorBreak wsX8_holder := goodIn_r _ [13, 14, 15, 16, 4, 17, 6, 18, 19, 20, 21, 22, 23, 24, 25, 26, 27, 28, 29, 30, 31, 32, 33, 34, 35, 36, 37, 38] (by decide +kernel) (by decide +kernel)
set_option maxRecDepth 20000 in
theorem gX8_errorBreak_X8_holder : GoodIn wsX8_errorBreak (wsV RX8 105 RX8 yX8_holder wsX8_holder) := goodIn_app (goodIn_of _ (by decide +kernel)) ggX8_errorBreak_X8_holder
theorem dX8_errorBreak_0 : decode cX8_errorBreak 0 = .ok (.aload_n 0, 1) := by decide +kernel
theorem dX8_errorBreak_1 : decode cX8_errorBreak 1 = .ok (.iload_n 1, 1) := by decide +kernel
theorem dX8_errorBreak_2 : decode cX8_errorBreak 2 = .ok (.invokevirtual 117, 3) := by decide +kernel
theorem dX8_errorBreak_5 : decode cX8_errorBreak 5 = .ok (.ifCond .ne 7, 3) := by decide +kernel
theorem dX8_errorBreak_8 : decode cX8_errorBreak 8 = .ok (.iconst (-1), 1) := by decide +kernel
theorem dX8_errorBreak_9 : decode cX8_errorBreak 9 = .ok (.goto 17, 3) := by decide +kernel
theorem dX8_errorBreak_12 : decode cX8_errorBreak 12 = .ok (.aload_n 0, 1) := by decide +kernel
theorem dX8_errorBreak_13 : decode cX8_errorBreak 13 = .ok (.iload_n 1, 1) := by decide +kernel
theorem dX8_errorBreak_14 : decode cX8_errorBreak 14 = .ok (.invokevirtual 105, 3) := by decide +kernel
theorem dX8_errorBreak_17 : decode cX8_errorBreak 17 = .ok (.ifCond .ge 8, 3) := by decide +kernel
theorem dX8_errorBreak_20 : decode cX8_errorBreak 20 = .ok (.bipush (-2), 2) := by decide +kernel
theorem dX8_errorBreak_22 : decode cX8_errorBreak 22 = .ok (.goto 4, 3) := by decide +kernel
theorem dX8_errorBreak_25 : decode cX8_errorBreak 25 = .ok (.iconst 0, 1) := by decide +kernel
theorem dX8_errorBreak_26 : decode cX8_errorBreak 26 = .ok (.ireturn, 1) := by decide +kernel
set_option maxRecDepth 20000 in
theorem ggX8_begin_X8_in : GoodIn wsX8_begin wsX8_in := goodIn_r _ [5] (by decide +kernel) (by decide +kernel)
set_option maxRecDepth 20000 in
theorem gX8_begin_X8_in : GoodIn wsX8_begin (va_wsS RX8 47 yX8_in wsX8_in) := goodIn_app (goodIn_of _ (by decide +kernel)) ggX8_begin_X8_in
set_option maxRecDepth 20000 in
theorem ggX8_begin_X8_records : GoodIn wsX8_begin wsX8_records := goodIn_r _ [9, 10, 11, 1, 12, 13, 4, 14, 29, 30, 31, 32, 33, 34, 35, 36, 37, 38, 39, 40, 41, 42, 43, 44, 45, 46, 47, 48, 49] (by decide +kernel) (by decide +kernel)
set_option maxRecDepth 20000 in
theorem gX8_begin_X8_records : GoodIn wsX8_begin (wsV RX8 120 RX8 yX8_records wsX8_records) := goodIn_app (goodIn_of _ (by decide +kernel)) ggX8_begin_X8_records
set_option maxRecDepth 20000 in
theorem ggX8_begin_X8_roots : GoodIn wsX8_begin wsX8_roots := goodIn_r _ [18, 1, 19, 20, 4, 21, 22, 23, 24, 25, 26, 27, 28, 29, 30, 31, 32, 33, 34, 35, 36, 37, 38, 39, 40, 41, 42, 43, 44, 45, 46, 47, 48, 49] (by decide +kernel) (by decide +kernel)
set_option maxRecDepth 20000 in
theorem gX8_begin_X8_roots : GoodIn wsX8_begin (wsV RX8 35 RX8 yX8_roots wsX8_roots) := goodIn_app (goodIn_of _ (by decide +kernel)) ggX8_begin_X8_roots
theorem dX8_begin_0 : decode cX8_begin 0 = .ok (.iload_n 1, 1) := by decide +kernel
theorem dX8_begin_1 : decode cX8_begin 1 = .ok (.iconst 0, 1) := by decide +kernel
theorem dX8_begin_2 : decode cX8_begin 2 = .ok (.iconst 2, 1) := by decide +kernel
theorem dX8_begin_3 : decode cX8_begin 3 = .ok (.invokestatic 47, 3) := by decide +kernel
theorem dX8_begin_6 : decode cX8_begin 6 = .ok (.ifCond .ne 5, 3) := by decide +kernel
theorem dX8_begin_9 : decode cX8_begin 9 = .ok (.iconst (-1), 1) := by decide +kernel
theorem dX8_begin_10 : decode cX8_begin 10 = .ok (.ireturn, 1) := by decide +kernel
theorem dX8_begin_11 : decode cX8_begin 11 = .ok (.aload_n 0, 1) := by decide +kernel
theorem dX8_begin_12 : decode cX8_begin 12 = .ok (.invokevirtual 120, 3) := by decide +kernel
theorem dX8_begin_15 : decode cX8_begin 15 = .ok (.bipush 6, 2) := by decide +kernel
theorem dX8_begin_17 : decode cX8_begin 17 = .ok (.istore_n 2, 1) := by decide +kernel
theorem dX8_begin_18 : decode cX8_begin 18 = .ok (.iload_n 2, 1) := by decide +kernel
theorem dX8_begin_19 : decode cX8_begin 19 = .ok (.sipush 373, 3) := by decide +kernel
theorem dX8_begin_22 : decode cX8_begin 22 = .ok (.if_icmp .ge 16, 3) := by decide +kernel
theorem dX8_begin_25 : decode cX8_begin 25 = .ok (.aload_n 0, 1) := by decide +kernel
theorem dX8_begin_26 : decode cX8_begin 26 = .ok (.getfield 7, 3) := by decide +kernel
theorem dX8_begin_29 : decode cX8_begin 29 = .ok (.iload_n 2, 1) := by decide +kernel
theorem dX8_begin_30 : decode cX8_begin 30 = .ok (.iconst 0, 1) := by decide +kernel
theorem dX8_begin_31 : decode cX8_begin 31 = .ok (.iastore, 1) := by decide +kernel
theorem dX8_begin_32 : decode cX8_begin 32 = .ok (.iinc 2 1, 3) := by decide +kernel
theorem dX8_begin_35 : decode cX8_begin 35 = .ok (.goto (-17), 3) := by decide +kernel
theorem dX8_begin_38 : decode cX8_begin 38 = .ok (.aload_n 0, 1) := by decide +kernel
theorem dX8_begin_39 : decode cX8_begin 39 = .ok (.iload_n 1, 1) := by decide +kernel
theorem dX8_begin_40 : decode cX8_begin 40 = .ok (.invokevirtual 35, 3) := by decide +kernel
theorem dX8_begin_43 : decode cX8_begin 43 = .ok (.aload_n 0, 1) := by decide +kernel
theorem dX8_begin_44 : decode cX8_begin 44 = .ok (.getfield 7, 3) := by decide +kernel
theorem dX8_begin_47 : decode cX8_begin 47 = .ok (.iconst 0, 1) := by decide +kernel
theorem dX8_begin_48 : decode cX8_begin 48 = .ok (.iaload, 1) := by decide +kernel
theorem dX8_begin_49 : decode cX8_begin 49 = .ok (.ireturn, 1) := by decide +kernel
set_option maxRecDepth 20000 in
theorem ggX8_lot_X8_in : GoodIn wsX8_lot wsX8_in := goodIn_r _ [5] (by decide +kernel) (by decide +kernel)
set_option maxRecDepth 20000 in
theorem gX8_lot_X8_in : GoodIn wsX8_lot (va_wsS RX8 47 yX8_in wsX8_in) := goodIn_app (goodIn_of _ (by decide +kernel)) ggX8_lot_X8_in
set_option maxRecDepth 20000 in
theorem ggX8_lot_X8_records : GoodIn wsX8_lot wsX8_records := goodIn_r _ [9, 10, 11, 1, 12, 13, 4, 14, 15, 16, 17, 18, 19, 20, 21, 22, 23, 24, 25, 26, 27, 28, 29, 30, 31, 32, 33, 34, 35] (by decide +kernel) (by decide +kernel)
set_option maxRecDepth 20000 in
theorem gX8_lot_X8_records : GoodIn wsX8_lot (wsV RX8 120 RX8 yX8_records wsX8_records) := goodIn_app (goodIn_of _ (by decide +kernel)) ggX8_lot_X8_records
theorem dX8_lot_0 : decode cX8_lot 0 = .ok (.iload_n 1, 1) := by decide +kernel
theorem dX8_lot_1 : decode cX8_lot 1 = .ok (.iconst 0, 1) := by decide +kernel
theorem dX8_lot_2 : decode cX8_lot 2 = .ok (.sipush 9999, 3) := by decide +kernel
theorem dX8_lot_5 : decode cX8_lot 5 = .ok (.invokestatic 47, 3) := by decide +kernel
theorem dX8_lot_8 : decode cX8_lot 8 = .ok (.ifCond .ne 5, 3) := by decide +kernel
theorem dX8_lot_11 : decode cX8_lot 11 = .ok (.iconst (-1), 1) := by decide +kernel
theorem dX8_lot_12 : decode cX8_lot 12 = .ok (.ireturn, 1) := by decide +kernel
theorem dX8_lot_13 : decode cX8_lot 13 = .ok (.aload_n 0, 1) := by decide +kernel
theorem dX8_lot_14 : decode cX8_lot 14 = .ok (.invokevirtual 120, 3) := by decide +kernel
theorem dX8_lot_17 : decode cX8_lot 17 = .ok (.aload_n 0, 1) := by decide +kernel
theorem dX8_lot_18 : decode cX8_lot 18 = .ok (.getfield 7, 3) := by decide +kernel
theorem dX8_lot_21 : decode cX8_lot 21 = .ok (.iconst 1, 1) := by decide +kernel
theorem dX8_lot_22 : decode cX8_lot 22 = .ok (.iaload, 1) := by decide +kernel
theorem dX8_lot_23 : decode cX8_lot 23 = .ok (.istore_n 2, 1) := by decide +kernel
theorem dX8_lot_24 : decode cX8_lot 24 = .ok (.aload_n 0, 1) := by decide +kernel
theorem dX8_lot_25 : decode cX8_lot 25 = .ok (.getfield 7, 3) := by decide +kernel
theorem dX8_lot_28 : decode cX8_lot 28 = .ok (.iconst 1, 1) := by decide +kernel
theorem dX8_lot_29 : decode cX8_lot 29 = .ok (.iload_n 1, 1) := by decide +kernel
theorem dX8_lot_30 : decode cX8_lot 30 = .ok (.iastore, 1) := by decide +kernel
theorem dX8_lot_31 : decode cX8_lot 31 = .ok (.iload_n 2, 1) := by decide +kernel
theorem dX8_lot_32 : decode cX8_lot 32 = .ok (.ireturn, 1) := by decide +kernel
set_option maxRecDepth 20000 in
theorem ggX8_go_X8_errorGo : GoodIn wsX8_go wsX8_errorGo := goodIn_r _ [5, 6, 7, 4, 8, 9, 10, 11, 12, 13, 14, 15, 16, 17, 18, 19, 20, 21, 22, 23, 24, 25, 26, 27, 67, 68, 69, 70, 71, 72, 73, 74, 75, 76, 77, 78, 79, 80, 81, 82, 83, 84, 85, 86, 87] (by decide +kernel) (by decide +kernel)
set_option maxRecDepth 20000 in
theorem gX8_go_X8_errorGo : GoodIn wsX8_go (wsV RX8 123 RX8 yX8_errorGo wsX8_errorGo) := goodIn_app (goodIn_of _ (by decide +kernel)) ggX8_go_X8_errorGo
set_option maxRecDepth 20000 in
theorem ggX8_go_X8_records : GoodIn wsX8_go wsX8_records := goodIn_r _ [31, 32, 33, 23, 34, 35, 4, 36, 67, 68, 69, 70, 71, 72, 73, 74, 75, 76, 77, 78, 79, 80, 81, 82, 83, 84, 85, 86, 87] (by decide +kernel) (by decide +kernel)
set_option maxRecDepth 20000 in
theorem gX8_go_X8_records : GoodIn wsX8_go (wsV RX8 120 RX8 yX8_records wsX8_records) := goodIn_app (goodIn_of _ (by decide +kernel)) ggX8_go_X8_records
set_option maxRecDepth 20000 in
theorem ggX8_go_X8_goGrain : GoodIn wsX8_go wsX8_goGrain := goodIn_r _ [40, 23, 41, 42, 16, 17, 4, 18, 43, 44, 45, 46, 47, 48, 49, 50, 51, 52, 53, 54, 9, 10, 11, 19, 20, 21, 22, 24, 25, 26, 27, 55, 56, 57, 58, 59, 60, 61, 62, 63, 64, 65, 66, 67, 68, 69, 70, 71, 72, 73, 74, 75, 76, 77, 78, 79, 80, 81, 82, 83, 84, 85, 86, 87] (by decide +kernel) (by decide +kernel)
set_option maxRecDepth 20000 in
theorem gX8_go_X8_goGrain : GoodIn wsX8_go (wsV RX8 102 RX8 yX8_goGrain wsX8_goGrain) := goodIn_app (goodIn_of _ (by decide +kernel)) ggX8_go_X8_goGrain
theorem dX8_go_0 : decode cX8_go 0 = .ok (.aload_n 0, 1) := by decide +kernel
theorem dX8_go_1 : decode cX8_go 1 = .ok (.iload_n 1, 1) := by decide +kernel
theorem dX8_go_2 : decode cX8_go 2 = .ok (.invokevirtual 123, 3) := by decide +kernel
theorem dX8_go_5 : decode cX8_go 5 = .ok (.istore_n 2, 1) := by decide +kernel
theorem dX8_go_6 : decode cX8_go 6 = .ok (.iload_n 2, 1) := by decide +kernel
theorem dX8_go_7 : decode cX8_go 7 = .ok (.ifCond .ge 5, 3) := by decide +kernel
theorem dX8_go_10 : decode cX8_go 10 = .ok (.iload_n 2, 1) := by decide +kernel
theorem dX8_go_11 : decode cX8_go 11 = .ok (.ireturn, 1) := by decide +kernel
theorem dX8_go_12 : decode cX8_go 12 = .ok (.aload_n 0, 1) := by decide +kernel
theorem dX8_go_13 : decode cX8_go 13 = .ok (.invokevirtual 120, 3) := by decide +kernel
theorem dX8_go_16 : decode cX8_go 16 = .ok (.aload_n 0, 1) := by decide +kernel
theorem dX8_go_17 : decode cX8_go 17 = .ok (.iload_n 1, 1) := by decide +kernel
theorem dX8_go_18 : decode cX8_go 18 = .ok (.invokevirtual 102, 3) := by decide +kernel
theorem dX8_go_21 : decode cX8_go 21 = .ok (.ireturn, 1) := by decide +kernel
set_option maxRecDepth 20000 in
theorem ggX8_rain_X8_in : GoodIn wsX8_rain wsX8_in := goodIn_r _ [4] (by decide +kernel) (by decide +kernel)
set_option maxRecDepth 20000 in
theorem gX8_rain_X8_in : GoodIn wsX8_rain (va_wsS RX8 47 yX8_in wsX8_in) := goodIn_app (goodIn_of _ (by decide +kernel)) ggX8_rain_X8_in
set_option maxRecDepth 20000 in
theorem ggX8_rain_X8_records : GoodIn wsX8_rain wsX8_records := goodIn_r _ [8, 9, 10, 11, 12, 13, 3, 14, 64, 65, 66, 67, 68, 69, 70, 71, 72, 73, 74, 75, 76, 77, 78, 79, 80, 81, 82, 83, 84] (by decide +kernel) (by decide +kernel)
set_option maxRecDepth 20000 in
theorem gX8_rain_X8_records : GoodIn wsX8_rain (wsV RX8 120 RX8 yX8_records wsX8_records) := goodIn_app (goodIn_of _ (by decide +kernel)) ggX8_rain_X8_records
set_option maxRecDepth 20000 in
theorem ggX8_rain_X8_goRain : GoodIn wsX8_rain wsX8_goRain := goodIn_r _ [18, 11, 19, 20, 21, 3, 22, 23, 24, 25, 26, 27, 28, 29, 30, 31, 32, 33, 34, 35, 36, 37, 38, 39, 40, 41, 42, 43, 44, 45, 46, 47, 48, 49, 50, 51, 52, 53, 54, 55, 1, 2, 4, 56, 57, 58, 59, 60, 61, 62, 63, 64, 65, 66, 67, 68, 69, 70, 71, 72, 73, 74, 75, 76, 77, 78, 79, 80, 81, 82, 83, 84] (by decide +kernel) (by decide +kernel)
set_option maxRecDepth 20000 in
theorem gX8_rain_X8_goRain : GoodIn wsX8_rain (wsV RX8 126 RX8 yX8_goRain wsX8_goRain) := goodIn_app (goodIn_of _ (by decide +kernel)) ggX8_rain_X8_goRain
theorem dX8_rain_0 : decode cX8_rain 0 = .ok (.iload_n 1, 1) := by decide +kernel
theorem dX8_rain_1 : decode cX8_rain 1 = .ok (.iconst 1, 1) := by decide +kernel
theorem dX8_rain_2 : decode cX8_rain 2 = .ok (.bipush 20, 2) := by decide +kernel
theorem dX8_rain_4 : decode cX8_rain 4 = .ok (.invokestatic 47, 3) := by decide +kernel
theorem dX8_rain_7 : decode cX8_rain 7 = .ok (.ifCond .ne 5, 3) := by decide +kernel
theorem dX8_rain_10 : decode cX8_rain 10 = .ok (.iconst (-1), 1) := by decide +kernel
theorem dX8_rain_11 : decode cX8_rain 11 = .ok (.ireturn, 1) := by decide +kernel
theorem dX8_rain_12 : decode cX8_rain 12 = .ok (.aload_n 0, 1) := by decide +kernel
theorem dX8_rain_13 : decode cX8_rain 13 = .ok (.invokevirtual 120, 3) := by decide +kernel
theorem dX8_rain_16 : decode cX8_rain 16 = .ok (.aload_n 0, 1) := by decide +kernel
theorem dX8_rain_17 : decode cX8_rain 17 = .ok (.iload_n 1, 1) := by decide +kernel
theorem dX8_rain_18 : decode cX8_rain 18 = .ok (.invokevirtual 126, 3) := by decide +kernel
theorem dX8_rain_21 : decode cX8_rain 21 = .ok (.ireturn, 1) := by decide +kernel
set_option maxRecDepth 20000 in
theorem ggX8_breakOff_X8_errorBreak : GoodIn wsX8_breakOff wsX8_errorBreak := goodIn_r _ [5, 6, 7, 8, 4, 9, 10, 11, 12, 13, 14, 15, 16, 17, 18, 19, 20, 21, 45, 46, 47, 48, 49, 50, 51, 52, 53, 54, 55, 56, 57, 58, 59, 60, 61, 62, 63, 64, 65] (by decide +kernel) (by decide +kernel)
set_option maxRecDepth 20000 in
theorem gX8_breakOff_X8_errorBreak : GoodIn wsX8_breakOff (wsV RX8 129 RX8 yX8_errorBreak wsX8_errorBreak) := goodIn_app (goodIn_of _ (by decide +kernel)) ggX8_breakOff_X8_errorBreak
set_option maxRecDepth 20000 in
theorem ggX8_breakOff_X8_records : GoodIn wsX8_breakOff wsX8_records := goodIn_r _ [25, 26, 27, 10, 28, 29, 4, 30, 45, 46, 47, 48, 49, 50, 51, 52, 53, 54, 55, 56, 57, 58, 59, 60, 61, 62, 63, 64, 65] (by decide +kernel) (by decide +kernel)
set_option maxRecDepth 20000 in
theorem gX8_breakOff_X8_records : GoodIn wsX8_breakOff (wsV RX8 120 RX8 yX8_records wsX8_records) := goodIn_app (goodIn_of _ (by decide +kernel)) ggX8_breakOff_X8_records
set_option maxRecDepth 20000 in
theorem ggX8_breakOff_X8_goBreak : GoodIn wsX8_breakOff wsX8_goBreak := goodIn_r _ [34, 10, 35, 14, 15, 16, 4, 17, 18, 19, 20, 21, 36, 37, 38, 39, 40, 41, 42, 43, 44, 45, 46, 47, 48, 49, 50, 51, 52, 53, 54, 55, 56, 57, 58, 59, 60, 61, 62, 63, 64, 65] (by decide +kernel) (by decide +kernel)
set_option maxRecDepth 20000 in
theorem gX8_breakOff_X8_goBreak : GoodIn wsX8_breakOff (wsV RX8 132 RX8 yX8_goBreak wsX8_goBreak) := goodIn_app (goodIn_of _ (by decide +kernel)) ggX8_breakOff_X8_goBreak
theorem dX8_breakOff_0 : decode cX8_breakOff 0 = .ok (.aload_n 0, 1) := by decide +kernel
theorem dX8_breakOff_1 : decode cX8_breakOff 1 = .ok (.iload_n 1, 1) := by decide +kernel
theorem dX8_breakOff_2 : decode cX8_breakOff 2 = .ok (.invokevirtual 129, 3) := by decide +kernel
theorem dX8_breakOff_5 : decode cX8_breakOff 5 = .ok (.istore_n 2, 1) := by decide +kernel
theorem dX8_breakOff_6 : decode cX8_breakOff 6 = .ok (.iload_n 2, 1) := by decide +kernel
theorem dX8_breakOff_7 : decode cX8_breakOff 7 = .ok (.ifCond .ge 5, 3) := by decide +kernel
theorem dX8_breakOff_10 : decode cX8_breakOff 10 = .ok (.iload_n 2, 1) := by decide +kernel
theorem dX8_breakOff_11 : decode cX8_breakOff 11 = .ok (.ireturn, 1) := by decide +kernel
theorem dX8_breakOff_12 : decode cX8_breakOff 12 = .ok (.aload_n 0, 1) := by decide +kernel
theorem dX8_breakOff_13 : decode cX8_breakOff 13 = .ok (.invokevirtual 120, 3) := by decide +kernel
theorem dX8_breakOff_16 : decode cX8_breakOff 16 = .ok (.aload_n 0, 1) := by decide +kernel
theorem dX8_breakOff_17 : decode cX8_breakOff 17 = .ok (.iload_n 1, 1) := by decide +kernel
theorem dX8_breakOff_18 : decode cX8_breakOff 18 = .ok (.invokevirtual 132, 3) := by decide +kernel
theorem dX8_breakOff_21 : decode cX8_breakOff 21 = .ok (.ireturn, 1) := by decide +kernel
set_option maxRecDepth 20000 in
theorem ggX8_wash_X8_records : GoodIn wsX8_wash wsX8_records := goodIn_r _ [5, 6, 7, 8, 9, 10, 4, 11, 38, 39, 40, 41, 42, 43, 44, 45, 46, 47, 48, 49, 50, 51, 52, 53, 54, 55, 56, 57, 58] (by decide +kernel) (by decide +kernel)
set_option maxRecDepth 20000 in
theorem gX8_wash_X8_records : GoodIn wsX8_wash (wsV RX8 120 RX8 yX8_records wsX8_records) := goodIn_app (goodIn_of _ (by decide +kernel)) ggX8_wash_X8_records
set_option maxRecDepth 20000 in
theorem ggX8_wash_X8_goWash : GoodIn wsX8_wash wsX8_goWash := goodIn_r _ [15, 8, 16, 17, 18, 19, 4, 20, 21, 22, 23, 24, 25, 26, 27, 28, 29, 30, 31, 32, 33, 34, 35, 36, 37, 38, 39, 40, 41, 42, 43, 44, 45, 46, 47, 48, 49, 50, 51, 52, 53, 54, 55, 56, 57, 58] (by decide +kernel) (by decide +kernel)
set_option maxRecDepth 20000 in
theorem gX8_wash_X8_goWash : GoodIn wsX8_wash (wsV RX8 135 RX8 yX8_goWash wsX8_goWash) := goodIn_app (goodIn_of _ (by decide +kernel)) ggX8_wash_X8_goWash
theorem dX8_wash_0 : decode cX8_wash 0 = .ok (.aload_n 0, 1) := by decide +kernel
theorem dX8_wash_1 : decode cX8_wash 1 = .ok (.invokevirtual 120, 3) := by decide +kernel
theorem dX8_wash_4 : decode cX8_wash 4 = .ok (.aload_n 0, 1) := by decide +kernel
theorem dX8_wash_5 : decode cX8_wash 5 = .ok (.invokevirtual 135, 3) := by decide +kernel
theorem dX8_wash_8 : decode cX8_wash 8 = .ok (.ireturn, 1) := by decide +kernel
theorem dX8_leastOf_0 : decode cX8_leastOf 0 = .ok (.iload_n 0, 1) := by decide +kernel
theorem dX8_leastOf_1 : decode cX8_leastOf 1 = .ok (.ifCond .ne 7, 3) := by decide +kernel
theorem dX8_leastOf_4 : decode cX8_leastOf 4 = .ok (.iconst 1, 1) := by decide +kernel
theorem dX8_leastOf_5 : decode cX8_leastOf 5 = .ok (.goto 14, 3) := by decide +kernel
theorem dX8_leastOf_8 : decode cX8_leastOf 8 = .ok (.iload_n 0, 1) := by decide +kernel
theorem dX8_leastOf_9 : decode cX8_leastOf 9 = .ok (.iconst 1, 1) := by decide +kernel
theorem dX8_leastOf_10 : decode cX8_leastOf 10 = .ok (.if_icmp .ne 8, 3) := by decide +kernel
theorem dX8_leastOf_13 : decode cX8_leastOf 13 = .ok (.bipush 10, 2) := by decide +kernel
theorem dX8_leastOf_15 : decode cX8_leastOf 15 = .ok (.goto 4, 3) := by decide +kernel
theorem dX8_leastOf_18 : decode cX8_leastOf 18 = .ok (.iconst 0, 1) := by decide +kernel
theorem dX8_leastOf_19 : decode cX8_leastOf 19 = .ok (.ireturn, 1) := by decide +kernel
theorem dX8_mostOf_0 : decode cX8_mostOf 0 = .ok (.iload_n 0, 1) := by decide +kernel
theorem dX8_mostOf_1 : decode cX8_mostOf 1 = .ok (.iconst 1, 1) := by decide +kernel
theorem dX8_mostOf_2 : decode cX8_mostOf 2 = .ok (.if_icmp .ne 9, 3) := by decide +kernel
theorem dX8_mostOf_5 : decode cX8_mostOf 5 = .ok (.sipush 200, 3) := by decide +kernel
theorem dX8_mostOf_8 : decode cX8_mostOf 8 = .ok (.goto 13, 3) := by decide +kernel
theorem dX8_mostOf_11 : decode cX8_mostOf 11 = .ok (.iload_n 0, 1) := by decide +kernel
theorem dX8_mostOf_12 : decode cX8_mostOf 12 = .ok (.iconst 3, 1) := by decide +kernel
theorem dX8_mostOf_13 : decode cX8_mostOf 13 = .ok (.if_icmp .ne 7, 3) := by decide +kernel
theorem dX8_mostOf_16 : decode cX8_mostOf 16 = .ok (.iconst 3, 1) := by decide +kernel
theorem dX8_mostOf_17 : decode cX8_mostOf 17 = .ok (.goto 4, 3) := by decide +kernel
theorem dX8_mostOf_20 : decode cX8_mostOf 20 = .ok (.iconst 4, 1) := by decide +kernel
theorem dX8_mostOf_21 : decode cX8_mostOf 21 = .ok (.ireturn, 1) := by decide +kernel
set_option maxRecDepth 20000 in
theorem ggX8_set_X8_in : GoodIn wsX8_set wsX8_in := goodIn_r _ [5] (by decide +kernel) (by decide +kernel)
set_option maxRecDepth 20000 in
theorem gX8_set_X8_in : GoodIn wsX8_set (va_wsS RX8 47 yX8_in wsX8_in) := goodIn_app (goodIn_of _ (by decide +kernel)) ggX8_set_X8_in
set_option maxRecDepth 20000 in
theorem ggX8_set_X8_leastOf : GoodIn wsX8_set wsX8_leastOf := goodIn_r _ [8] (by decide +kernel) (by decide +kernel)
set_option maxRecDepth 20000 in
theorem gX8_set_X8_leastOf : GoodIn wsX8_set (va_wsS RX8 138 yX8_leastOf wsX8_leastOf) := goodIn_app (goodIn_of _ (by decide +kernel)) ggX8_set_X8_leastOf
set_option maxRecDepth 20000 in
theorem ggX8_set_X8_mostOf : GoodIn wsX8_set wsX8_mostOf := goodIn_r _ [11] (by decide +kernel) (by decide +kernel)
set_option maxRecDepth 20000 in
theorem gX8_set_X8_mostOf : GoodIn wsX8_set (va_wsS RX8 141 yX8_mostOf wsX8_mostOf) := goodIn_app (goodIn_of _ (by decide +kernel)) ggX8_set_X8_mostOf
set_option maxRecDepth 20000 in
theorem ggX8_set_X8_records : GoodIn wsX8_set wsX8_records := goodIn_r _ [15, 16, 17, 1, 18, 19, 4, 20, 21, 22, 23, 24, 25, 26, 27, 28, 29, 30, 31, 32, 33, 34, 35, 36, 37, 38, 39, 40, 41] (by decide +kernel) (by decide +kernel)
set_option maxRecDepth 20000 in
theorem gX8_set_X8_records : GoodIn wsX8_set (wsV RX8 120 RX8 yX8_records wsX8_records) := goodIn_app (goodIn_of _ (by decide +kernel)) ggX8_set_X8_records
