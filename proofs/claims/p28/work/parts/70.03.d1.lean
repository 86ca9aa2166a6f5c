theorem dX5_isGrain_0 : decode cX5_isGrain 0 = .ok (.iload_n 1, 1) := by decide +kernel
theorem dX5_isGrain_1 : decode cX5_isGrain 1 = .ok (.ifCond .lt 15, 3) := by decide +kernel
theorem dX5_isGrain_4 : decode cX5_isGrain 4 = .ok (.iload_n 1, 1) := by decide +kernel
theorem dX5_isGrain_5 : decode cX5_isGrain 5 = .ok (.aload_n 0, 1) := by decide +kernel
theorem dX5_isGrain_6 : decode cX5_isGrain 6 = .ok (.getfield 30, 3) := by decide +kernel
theorem dX5_isGrain_9 : decode cX5_isGrain 9 = .ok (.if_icmp .ge 7, 3) := by decide +kernel
theorem dX5_isGrain_12 : decode cX5_isGrain 12 = .ok (.iconst 1, 1) := by decide +kernel
theorem dX5_isGrain_13 : decode cX5_isGrain 13 = .ok (.goto 4, 3) := by decide +kernel
theorem dX5_isGrain_16 : decode cX5_isGrain 16 = .ok (.iconst 0, 1) := by decide +kernel
theorem dX5_isGrain_17 : decode cX5_isGrain 17 = .ok (.ireturn, 1) := by decide +kernel
set_option maxRecDepth 20000 in
theorem ggX5_readFromHolder_X5_isGrain : GoodIn wsX5_readFromHolder wsX5_isGrain := goodIn_r _ [11, 12, 13, 14, 15, 16, 17, 18, 19] (by decide +kernel) (by decide +kernel)
set_option maxRecDepth 20000 in
theorem gX5_readFromHolder_X5_isGrain : GoodIn wsX5_readFromHolder (wsV RX5 45 RX5 yX5_isGrain wsX5_isGrain) := goodIn_app (goodIn_of _ (by decide +kernel)) ggX5_readFromHolder_X5_isGrain
theorem dX5_readFromHolder_0 : decode cX5_readFromHolder 0 = .ok (.aload_n 0, 1) := by decide +kernel
theorem dX5_readFromHolder_1 : decode cX5_readFromHolder 1 = .ok (.getfield 9, 3) := by decide +kernel
theorem dX5_readFromHolder_4 : decode cX5_readFromHolder 4 = .ok (.iload_n 1, 1) := by decide +kernel
theorem dX5_readFromHolder_5 : decode cX5_readFromHolder 5 = .ok (.aload_n 0, 1) := by decide +kernel
theorem dX5_readFromHolder_6 : decode cX5_readFromHolder 6 = .ok (.iload_n 2, 1) := by decide +kernel
theorem dX5_readFromHolder_7 : decode cX5_readFromHolder 7 = .ok (.invokevirtual 45, 3) := by decide +kernel
theorem dX5_readFromHolder_10 : decode cX5_readFromHolder 10 = .ok (.ifCond .eq 14, 3) := by decide +kernel
theorem dX5_readFromHolder_13 : decode cX5_readFromHolder 13 = .ok (.aload_n 0, 1) := by decide +kernel
theorem dX5_readFromHolder_14 : decode cX5_readFromHolder 14 = .ok (.getfield 9, 3) := by decide +kernel
theorem dX5_readFromHolder_17 : decode cX5_readFromHolder 17 = .ok (.iload_n 2, 1) := by decide +kernel
theorem dX5_readFromHolder_18 : decode cX5_readFromHolder 18 = .ok (.iaload, 1) := by decide +kernel
theorem dX5_readFromHolder_19 : decode cX5_readFromHolder 19 = .ok (.iconst 1, 1) := by decide +kernel
theorem dX5_readFromHolder_20 : decode cX5_readFromHolder 20 = .ok (.iadd, 1) := by decide +kernel
theorem dX5_readFromHolder_21 : decode cX5_readFromHolder 21 = .ok (.goto 4, 3) := by decide +kernel
theorem dX5_readFromHolder_24 : decode cX5_readFromHolder 24 = .ok (.iconst 0, 1) := by decide +kernel
theorem dX5_readFromHolder_25 : decode cX5_readFromHolder 25 = .ok (.iastore, 1) := by decide +kernel
theorem dX5_readFromHolder_26 : decode cX5_readFromHolder 26 = .ok (.aload_n 0, 1) := by decide +kernel
theorem dX5_readFromHolder_27 : decode cX5_readFromHolder 27 = .ok (.getfield 15, 3) := by decide +kernel
theorem dX5_readFromHolder_30 : decode cX5_readFromHolder 30 = .ok (.iload_n 1, 1) := by decide +kernel
theorem dX5_readFromHolder_31 : decode cX5_readFromHolder 31 = .ok (.aload_n 0, 1) := by decide +kernel
theorem dX5_readFromHolder_32 : decode cX5_readFromHolder 32 = .ok (.iload_n 2, 1) := by decide +kernel
theorem dX5_readFromHolder_33 : decode cX5_readFromHolder 33 = .ok (.invokevirtual 45, 3) := by decide +kernel
theorem dX5_readFromHolder_36 : decode cX5_readFromHolder 36 = .ok (.ifCond .eq 12, 3) := by decide +kernel
theorem dX5_readFromHolder_39 : decode cX5_readFromHolder 39 = .ok (.aload_n 0, 1) := by decide +kernel
theorem dX5_readFromHolder_40 : decode cX5_readFromHolder 40 = .ok (.getfield 15, 3) := by decide +kernel
theorem dX5_readFromHolder_43 : decode cX5_readFromHolder 43 = .ok (.iload_n 2, 1) := by decide +kernel
theorem dX5_readFromHolder_44 : decode cX5_readFromHolder 44 = .ok (.iaload, 1) := by decide +kernel
theorem dX5_readFromHolder_45 : decode cX5_readFromHolder 45 = .ok (.goto 4, 3) := by decide +kernel
theorem dX5_readFromHolder_48 : decode cX5_readFromHolder 48 = .ok (.iload_n 1, 1) := by decide +kernel
theorem dX5_readFromHolder_49 : decode cX5_readFromHolder 49 = .ok (.iastore, 1) := by decide +kernel
theorem dX5_readFromHolder_50 : decode cX5_readFromHolder 50 = .ok (.aload_n 0, 1) := by decide +kernel
theorem dX5_readFromHolder_51 : decode cX5_readFromHolder 51 = .ok (.getfield 18, 3) := by decide +kernel
theorem dX5_readFromHolder_54 : decode cX5_readFromHolder 54 = .ok (.iload_n 1, 1) := by decide +kernel
theorem dX5_readFromHolder_55 : decode cX5_readFromHolder 55 = .ok (.iconst 0, 1) := by decide +kernel
theorem dX5_readFromHolder_56 : decode cX5_readFromHolder 56 = .ok (.iastore, 1) := by decide +kernel
theorem dX5_readFromHolder_57 : decode cX5_readFromHolder 57 = .ok (.aload_n 0, 1) := by decide +kernel
theorem dX5_readFromHolder_58 : decode cX5_readFromHolder 58 = .ok (.getfield 21, 3) := by decide +kernel
theorem dX5_readFromHolder_61 : decode cX5_readFromHolder 61 = .ok (.iload_n 1, 1) := by decide +kernel
theorem dX5_readFromHolder_62 : decode cX5_readFromHolder 62 = .ok (.iconst 1, 1) := by decide +kernel
theorem dX5_readFromHolder_63 : decode cX5_readFromHolder 63 = .ok (.iastore, 1) := by decide +kernel
theorem dX5_readFromHolder_64 : decode cX5_readFromHolder 64 = .ok (.aload_n 0, 1) := by decide +kernel
theorem dX5_readFromHolder_65 : decode cX5_readFromHolder 65 = .ok (.getfield 24, 3) := by decide +kernel
theorem dX5_readFromHolder_68 : decode cX5_readFromHolder 68 = .ok (.iload_n 1, 1) := by decide +kernel
theorem dX5_readFromHolder_69 : decode cX5_readFromHolder 69 = .ok (.iconst 0, 1) := by decide +kernel
theorem dX5_readFromHolder_70 : decode cX5_readFromHolder 70 = .ok (.iastore, 1) := by decide +kernel
theorem dX5_readFromHolder_71 : decode cX5_readFromHolder 71 = .ok (.aload_n 0, 1) := by decide +kernel
theorem dX5_readFromHolder_72 : decode cX5_readFromHolder 72 = .ok (.getfield 27, 3) := by decide +kernel
theorem dX5_readFromHolder_75 : decode cX5_readFromHolder 75 = .ok (.iload_n 1, 1) := by decide +kernel
theorem dX5_readFromHolder_76 : decode cX5_readFromHolder 76 = .ok (.iconst 0, 1) := by decide +kernel
theorem dX5_readFromHolder_77 : decode cX5_readFromHolder 77 = .ok (.iastore, 1) := by decide +kernel
theorem dX5_readFromHolder_78 : decode cX5_readFromHolder 78 = .ok (.return_, 1) := by decide +kernel
theorem dX5_addToHolder_0 : decode cX5_addToHolder 0 = .ok (.aload_n 0, 1) := by decide +kernel
theorem dX5_addToHolder_1 : decode cX5_addToHolder 1 = .ok (.getfield 18, 3) := by decide +kernel
theorem dX5_addToHolder_4 : decode cX5_addToHolder 4 = .ok (.iload_n 2, 1) := by decide +kernel
theorem dX5_addToHolder_5 : decode cX5_addToHolder 5 = .ok (.dup2, 1) := by decide +kernel
theorem dX5_addToHolder_6 : decode cX5_addToHolder 6 = .ok (.iaload, 1) := by decide +kernel
theorem dX5_addToHolder_7 : decode cX5_addToHolder 7 = .ok (.iconst 1, 1) := by decide +kernel
theorem dX5_addToHolder_8 : decode cX5_addToHolder 8 = .ok (.iadd, 1) := by decide +kernel
theorem dX5_addToHolder_9 : decode cX5_addToHolder 9 = .ok (.iastore, 1) := by decide +kernel
theorem dX5_addToHolder_10 : decode cX5_addToHolder 10 = .ok (.aload_n 0, 1) := by decide +kernel
theorem dX5_addToHolder_11 : decode cX5_addToHolder 11 = .ok (.getfield 21, 3) := by decide +kernel
theorem dX5_addToHolder_14 : decode cX5_addToHolder 14 = .ok (.iload_n 2, 1) := by decide +kernel
theorem dX5_addToHolder_15 : decode cX5_addToHolder 15 = .ok (.dup2, 1) := by decide +kernel
theorem dX5_addToHolder_16 : decode cX5_addToHolder 16 = .ok (.iaload, 1) := by decide +kernel
theorem dX5_addToHolder_17 : decode cX5_addToHolder 17 = .ok (.aload_n 0, 1) := by decide +kernel
theorem dX5_addToHolder_18 : decode cX5_addToHolder 18 = .ok (.getfield 21, 3) := by decide +kernel
theorem dX5_addToHolder_21 : decode cX5_addToHolder 21 = .ok (.iload_n 1, 1) := by decide +kernel
theorem dX5_addToHolder_22 : decode cX5_addToHolder 22 = .ok (.iaload, 1) := by decide +kernel
theorem dX5_addToHolder_23 : decode cX5_addToHolder 23 = .ok (.iadd, 1) := by decide +kernel
theorem dX5_addToHolder_24 : decode cX5_addToHolder 24 = .ok (.iastore, 1) := by decide +kernel
theorem dX5_addToHolder_25 : decode cX5_addToHolder 25 = .ok (.aload_n 0, 1) := by decide +kernel
theorem dX5_addToHolder_26 : decode cX5_addToHolder 26 = .ok (.getfield 24, 3) := by decide +kernel
theorem dX5_addToHolder_29 : decode cX5_addToHolder 29 = .ok (.iload_n 1, 1) := by decide +kernel
theorem dX5_addToHolder_30 : decode cX5_addToHolder 30 = .ok (.iaload, 1) := by decide +kernel
theorem dX5_addToHolder_31 : decode cX5_addToHolder 31 = .ok (.iconst 1, 1) := by decide +kernel
theorem dX5_addToHolder_32 : decode cX5_addToHolder 32 = .ok (.iadd, 1) := by decide +kernel
theorem dX5_addToHolder_33 : decode cX5_addToHolder 33 = .ok (.istore_n 3, 1) := by decide +kernel
theorem dX5_addToHolder_34 : decode cX5_addToHolder 34 = .ok (.iload_n 3, 1) := by decide +kernel
theorem dX5_addToHolder_35 : decode cX5_addToHolder 35 = .ok (.aload_n 0, 1) := by decide +kernel
theorem dX5_addToHolder_36 : decode cX5_addToHolder 36 = .ok (.getfield 24, 3) := by decide +kernel
theorem dX5_addToHolder_39 : decode cX5_addToHolder 39 = .ok (.iload_n 2, 1) := by decide +kernel
theorem dX5_addToHolder_40 : decode cX5_addToHolder 40 = .ok (.iaload, 1) := by decide +kernel
theorem dX5_addToHolder_41 : decode cX5_addToHolder 41 = .ok (.if_icmp .le 25, 3) := by decide +kernel
theorem dX5_addToHolder_44 : decode cX5_addToHolder 44 = .ok (.aload_n 0, 1) := by decide +kernel
theorem dX5_addToHolder_45 : decode cX5_addToHolder 45 = .ok (.getfield 27, 3) := by decide +kernel
theorem dX5_addToHolder_48 : decode cX5_addToHolder 48 = .ok (.iload_n 2, 1) := by decide +kernel
theorem dX5_addToHolder_49 : decode cX5_addToHolder 49 = .ok (.aload_n 0, 1) := by decide +kernel
theorem dX5_addToHolder_50 : decode cX5_addToHolder 50 = .ok (.getfield 24, 3) := by decide +kernel
theorem dX5_addToHolder_53 : decode cX5_addToHolder 53 = .ok (.iload_n 2, 1) := by decide +kernel
theorem dX5_addToHolder_54 : decode cX5_addToHolder 54 = .ok (.iaload, 1) := by decide +kernel
theorem dX5_addToHolder_55 : decode cX5_addToHolder 55 = .ok (.iastore, 1) := by decide +kernel
theorem dX5_addToHolder_56 : decode cX5_addToHolder 56 = .ok (.aload_n 0, 1) := by decide +kernel
theorem dX5_addToHolder_57 : decode cX5_addToHolder 57 = .ok (.getfield 24, 3) := by decide +kernel
theorem dX5_addToHolder_60 : decode cX5_addToHolder 60 = .ok (.iload_n 2, 1) := by decide +kernel
theorem dX5_addToHolder_61 : decode cX5_addToHolder 61 = .ok (.iload_n 3, 1) := by decide +kernel
theorem dX5_addToHolder_62 : decode cX5_addToHolder 62 = .ok (.iastore, 1) := by decide +kernel
theorem dX5_addToHolder_63 : decode cX5_addToHolder 63 = .ok (.goto 20, 3) := by decide +kernel
theorem dX5_addToHolder_66 : decode cX5_addToHolder 66 = .ok (.iload_n 3, 1) := by decide +kernel
theorem dX5_addToHolder_67 : decode cX5_addToHolder 67 = .ok (.aload_n 0, 1) := by decide +kernel
theorem dX5_addToHolder_68 : decode cX5_addToHolder 68 = .ok (.getfield 27, 3) := by decide +kernel
theorem dX5_addToHolder_71 : decode cX5_addToHolder 71 = .ok (.iload_n 2, 1) := by decide +kernel
theorem dX5_addToHolder_72 : decode cX5_addToHolder 72 = .ok (.iaload, 1) := by decide +kernel
theorem dX5_addToHolder_73 : decode cX5_addToHolder 73 = .ok (.if_icmp .le 10, 3) := by decide +kernel
theorem dX5_addToHolder_76 : decode cX5_addToHolder 76 = .ok (.aload_n 0, 1) := by decide +kernel
theorem dX5_addToHolder_77 : decode cX5_addToHolder 77 = .ok (.getfield 27, 3) := by decide +kernel
theorem dX5_addToHolder_80 : decode cX5_addToHolder 80 = .ok (.iload_n 2, 1) := by decide +kernel
theorem dX5_addToHolder_81 : decode cX5_addToHolder 81 = .ok (.iload_n 3, 1) := by decide +kernel
theorem dX5_addToHolder_82 : decode cX5_addToHolder 82 = .ok (.iastore, 1) := by decide +kernel
theorem dX5_addToHolder_83 : decode cX5_addToHolder 83 = .ok (.return_, 1) := by decide +kernel
theorem dX5_rootGrains_0 : decode cX5_rootGrains 0 = .ok (.iconst 0, 1) := by decide +kernel
theorem dX5_rootGrains_1 : decode cX5_rootGrains 1 = .ok (.istore_n 1, 1) := by decide +kernel
theorem dX5_rootGrains_2 : decode cX5_rootGrains 2 = .ok (.iconst 0, 1) := by decide +kernel
theorem dX5_rootGrains_3 : decode cX5_rootGrains 3 = .ok (.istore_n 2, 1) := by decide +kernel
theorem dX5_rootGrains_4 : decode cX5_rootGrains 4 = .ok (.iload_n 2, 1) := by decide +kernel
theorem dX5_rootGrains_5 : decode cX5_rootGrains 5 = .ok (.aload_n 0, 1) := by decide +kernel
theorem dX5_rootGrains_6 : decode cX5_rootGrains 6 = .ok (.getfield 30, 3) := by decide +kernel
theorem dX5_rootGrains_9 : decode cX5_rootGrains 9 = .ok (.if_icmp .ge 22, 3) := by decide +kernel
theorem dX5_rootGrains_12 : decode cX5_rootGrains 12 = .ok (.aload_n 0, 1) := by decide +kernel
theorem dX5_rootGrains_13 : decode cX5_rootGrains 13 = .ok (.getfield 15, 3) := by decide +kernel
theorem dX5_rootGrains_16 : decode cX5_rootGrains 16 = .ok (.iload_n 2, 1) := by decide +kernel
theorem dX5_rootGrains_17 : decode cX5_rootGrains 17 = .ok (.iaload, 1) := by decide +kernel
theorem dX5_rootGrains_18 : decode cX5_rootGrains 18 = .ok (.iload_n 2, 1) := by decide +kernel
theorem dX5_rootGrains_19 : decode cX5_rootGrains 19 = .ok (.if_icmp .ne 6, 3) := by decide +kernel
theorem dX5_rootGrains_22 : decode cX5_rootGrains 22 = .ok (.iinc 1 1, 3) := by decide +kernel
theorem dX5_rootGrains_25 : decode cX5_rootGrains 25 = .ok (.iinc 2 1, 3) := by decide +kernel
theorem dX5_rootGrains_28 : decode cX5_rootGrains 28 = .ok (.goto (-24), 3) := by decide +kernel
theorem dX5_rootGrains_31 : decode cX5_rootGrains 31 = .ok (.iload_n 1, 1) := by decide +kernel
theorem dX5_rootGrains_32 : decode cX5_rootGrains 32 = .ok (.ireturn, 1) := by decide +kernel
theorem dX5_grainsHeldBy_0 : decode cX5_grainsHeldBy 0 = .ok (.iconst 0, 1) := by decide +kernel
theorem dX5_grainsHeldBy_1 : decode cX5_grainsHeldBy 1 = .ok (.istore_n 3, 1) := by decide +kernel
theorem dX5_grainsHeldBy_2 : decode cX5_grainsHeldBy 2 = .ok (.iconst 0, 1) := by decide +kernel
theorem dX5_grainsHeldBy_3 : decode cX5_grainsHeldBy 3 = .ok (.istore 4, 2) := by decide +kernel
theorem dX5_grainsHeldBy_5 : decode cX5_grainsHeldBy 5 = .ok (.iload 4, 2) := by decide +kernel
theorem dX5_grainsHeldBy_7 : decode cX5_grainsHeldBy 7 = .ok (.aload_n 0, 1) := by decide +kernel
theorem dX5_grainsHeldBy_8 : decode cX5_grainsHeldBy 8 = .ok (.getfield 30, 3) := by decide +kernel
theorem dX5_grainsHeldBy_11 : decode cX5_grainsHeldBy 11 = .ok (.if_icmp .ge 34, 3) := by decide +kernel
theorem dX5_grainsHeldBy_14 : decode cX5_grainsHeldBy 14 = .ok (.aload_n 0, 1) := by decide +kernel
theorem dX5_grainsHeldBy_15 : decode cX5_grainsHeldBy 15 = .ok (.getfield 18, 3) := by decide +kernel
theorem dX5_grainsHeldBy_18 : decode cX5_grainsHeldBy 18 = .ok (.iload 4, 2) := by decide +kernel
theorem dX5_grainsHeldBy_20 : decode cX5_grainsHeldBy 20 = .ok (.iaload, 1) := by decide +kernel
theorem dX5_grainsHeldBy_21 : decode cX5_grainsHeldBy 21 = .ok (.iload_n 1, 1) := by decide +kernel
theorem dX5_grainsHeldBy_22 : decode cX5_grainsHeldBy 22 = .ok (.if_icmp .lt 17, 3) := by decide +kernel
theorem dX5_grainsHeldBy_25 : decode cX5_grainsHeldBy 25 = .ok (.aload_n 0, 1) := by decide +kernel
theorem dX5_grainsHeldBy_26 : decode cX5_grainsHeldBy 26 = .ok (.getfield 18, 3) := by decide +kernel
theorem dX5_grainsHeldBy_29 : decode cX5_grainsHeldBy 29 = .ok (.iload 4, 2) := by decide +kernel
theorem dX5_grainsHeldBy_31 : decode cX5_grainsHeldBy 31 = .ok (.iaload, 1) := by decide +kernel
theorem dX5_grainsHeldBy_32 : decode cX5_grainsHeldBy 32 = .ok (.iload_n 2, 1) := by decide +kernel
theorem dX5_grainsHeldBy_33 : decode cX5_grainsHeldBy 33 = .ok (.if_icmp .gt 6, 3) := by decide +kernel
theorem dX5_grainsHeldBy_36 : decode cX5_grainsHeldBy 36 = .ok (.iinc 3 1, 3) := by decide +kernel
theorem dX5_grainsHeldBy_39 : decode cX5_grainsHeldBy 39 = .ok (.iinc 4 1, 3) := by decide +kernel
theorem dX5_grainsHeldBy_42 : decode cX5_grainsHeldBy 42 = .ok (.goto (-37), 3) := by decide +kernel
theorem dX5_grainsHeldBy_45 : decode cX5_grainsHeldBy 45 = .ok (.iload_n 3, 1) := by decide +kernel
theorem dX5_grainsHeldBy_46 : decode cX5_grainsHeldBy 46 = .ok (.ireturn, 1) := by decide +kernel
theorem dX5_deepest_0 : decode cX5_deepest 0 = .ok (.iconst 0, 1) := by decide +kernel
theorem dX5_deepest_1 : decode cX5_deepest 1 = .ok (.istore_n 1, 1) := by decide +kernel
theorem dX5_deepest_2 : decode cX5_deepest 2 = .ok (.iconst 0, 1) := by decide +kernel
theorem dX5_deepest_3 : decode cX5_deepest 3 = .ok (.istore_n 2, 1) := by decide +kernel
theorem dX5_deepest_4 : decode cX5_deepest 4 = .ok (.iload_n 2, 1) := by decide +kernel
theorem dX5_deepest_5 : decode cX5_deepest 5 = .ok (.aload_n 0, 1) := by decide +kernel
theorem dX5_deepest_6 : decode cX5_deepest 6 = .ok (.getfield 30, 3) := by decide +kernel
theorem dX5_deepest_9 : decode cX5_deepest 9 = .ok (.if_icmp .ge 20, 3) := by decide +kernel
theorem dX5_deepest_12 : decode cX5_deepest 12 = .ok (.iload_n 1, 1) := by decide +kernel
theorem dX5_deepest_13 : decode cX5_deepest 13 = .ok (.aload_n 0, 1) := by decide +kernel
theorem dX5_deepest_14 : decode cX5_deepest 14 = .ok (.getfield 9, 3) := by decide +kernel
theorem dX5_deepest_17 : decode cX5_deepest 17 = .ok (.iload_n 2, 1) := by decide +kernel
theorem dX5_deepest_18 : decode cX5_deepest 18 = .ok (.iaload, 1) := by decide +kernel
theorem dX5_deepest_19 : decode cX5_deepest 19 = .ok (.invokestatic 52, 3) := by decide +kernel
theorem dX5_deepest_22 : decode cX5_deepest 22 = .ok (.istore_n 1, 1) := by decide +kernel
theorem dX5_deepest_23 : decode cX5_deepest 23 = .ok (.iinc 2 1, 3) := by decide +kernel
theorem dX5_deepest_26 : decode cX5_deepest 26 = .ok (.goto (-22), 3) := by decide +kernel
theorem dX5_deepest_29 : decode cX5_deepest 29 = .ok (.iload_n 1, 1) := by decide +kernel
theorem dX5_deepest_30 : decode cX5_deepest 30 = .ok (.ireturn, 1) := by decide +kernel
theorem dX5_longestOfHeights_0 : decode cX5_longestOfHeights 0 = .ok (.iconst 0, 1) := by decide +kernel
theorem dX5_longestOfHeights_1 : decode cX5_longestOfHeights 1 = .ok (.istore_n 1, 1) := by decide +kernel
theorem dX5_longestOfHeights_2 : decode cX5_longestOfHeights 2 = .ok (.iconst 0, 1) := by decide +kernel
theorem dX5_longestOfHeights_3 : decode cX5_longestOfHeights 3 = .ok (.istore_n 2, 1) := by decide +kernel
theorem dX5_longestOfHeights_4 : decode cX5_longestOfHeights 4 = .ok (.iload_n 2, 1) := by decide +kernel
theorem dX5_longestOfHeights_5 : decode cX5_longestOfHeights 5 = .ok (.aload_n 0, 1) := by decide +kernel
theorem dX5_longestOfHeights_6 : decode cX5_longestOfHeights 6 = .ok (.getfield 30, 3) := by decide +kernel
theorem dX5_longestOfHeights_9 : decode cX5_longestOfHeights 9 = .ok (.if_icmp .ge 27, 3) := by decide +kernel
theorem dX5_longestOfHeights_12 : decode cX5_longestOfHeights 12 = .ok (.iload_n 1, 1) := by decide +kernel
theorem dX5_longestOfHeights_13 : decode cX5_longestOfHeights 13 = .ok (.aload_n 0, 1) := by decide +kernel
theorem dX5_longestOfHeights_14 : decode cX5_longestOfHeights 14 = .ok (.getfield 24, 3) := by decide +kernel
theorem dX5_longestOfHeights_17 : decode cX5_longestOfHeights 17 = .ok (.iload_n 2, 1) := by decide +kernel
theorem dX5_longestOfHeights_18 : decode cX5_longestOfHeights 18 = .ok (.iaload, 1) := by decide +kernel
theorem dX5_longestOfHeights_19 : decode cX5_longestOfHeights 19 = .ok (.aload_n 0, 1) := by decide +kernel
theorem dX5_longestOfHeights_20 : decode cX5_longestOfHeights 20 = .ok (.getfield 27, 3) := by decide +kernel
theorem dX5_longestOfHeights_23 : decode cX5_longestOfHeights 23 = .ok (.iload_n 2, 1) := by decide +kernel
theorem dX5_longestOfHeights_24 : decode cX5_longestOfHeights 24 = .ok (.iaload, 1) := by decide +kernel
theorem dX5_longestOfHeights_25 : decode cX5_longestOfHeights 25 = .ok (.iadd, 1) := by decide +kernel
theorem dX5_longestOfHeights_26 : decode cX5_longestOfHeights 26 = .ok (.invokestatic 52, 3) := by decide +kernel
theorem dX5_longestOfHeights_29 : decode cX5_longestOfHeights 29 = .ok (.istore_n 1, 1) := by decide +kernel
theorem dX5_longestOfHeights_30 : decode cX5_longestOfHeights 30 = .ok (.iinc 2 1, 3) := by decide +kernel
theorem dX5_longestOfHeights_33 : decode cX5_longestOfHeights 33 = .ok (.goto (-29), 3) := by decide +kernel
theorem dX5_longestOfHeights_36 : decode cX5_longestOfHeights 36 = .ok (.iload_n 1, 1) := by decide +kernel
theorem dX5_longestOfHeights_37 : decode cX5_longestOfHeights 37 = .ok (.ireturn, 1) := by decide +kernel
theorem dX6_init_0 : decode cX6_init 0 = .ok (.aload_n 0, 1) := by decide +kernel
theorem dX6_init_1 : decode cX6_init 1 = .ok (.invokespecial 3, 3) := by decide +kernel
theorem dX6_init_4 : decode cX6_init 4 = .ok (.aload_n 0, 1) := by decide +kernel
theorem dX6_init_5 : decode cX6_init 5 = .ok (.iconst 0, 1) := by decide +kernel
theorem dX6_init_6 : decode cX6_init 6 = .ok (.putfield 9, 3) := by decide +kernel
theorem dX6_init_9 : decode cX6_init 9 = .ok (.aload_n 0, 1) := by decide +kernel
theorem dX6_init_10 : decode cX6_init 10 = .ok (.iconst 0, 1) := by decide +kernel
theorem dX6_init_11 : decode cX6_init 11 = .ok (.putfield 15, 3) := by decide +kernel
theorem dX6_init_14 : decode cX6_init 14 = .ok (.aload_n 0, 1) := by decide +kernel
theorem dX6_init_15 : decode cX6_init 15 = .ok (.iconst 0, 1) := by decide +kernel
theorem dX6_init_16 : decode cX6_init 16 = .ok (.putfield 18, 3) := by decide +kernel
theorem dX6_init_19 : decode cX6_init 19 = .ok (.aload_n 0, 1) := by decide +kernel
theorem dX6_init_20 : decode cX6_init 20 = .ok (.iconst 0, 1) := by decide +kernel
theorem dX6_init_21 : decode cX6_init 21 = .ok (.putfield 21, 3) := by decide +kernel
theorem dX6_init_24 : decode cX6_init 24 = .ok (.aload_n 0, 1) := by decide +kernel
theorem dX6_init_25 : decode cX6_init 25 = .ok (.bipush (-4), 2) := by decide +kernel
theorem dX6_init_27 : decode cX6_init 27 = .ok (.putfield 24, 3) := by decide +kernel
theorem dX6_init_30 : decode cX6_init 30 = .ok (.return_, 1) := by decide +kernel
set_option maxRecDepth 20000 in
theorem ggX6_walkFrom_X4_setting : GoodIn wsX6_walkFrom wsX4_setting := goodIn_r _ [10, 11, 48, 49, 50, 51, 52, 53, 54, 55, 56, 57, 58] (by decide +kernel) (by decide +kernel)
set_option maxRecDepth 20000 in
theorem gX6_walkFrom_X4_setting : GoodIn wsX6_walkFrom (wsV RX6 30 RX4 yX4_setting wsX4_setting) := goodIn_app (goodIn_of _ (by decide +kernel)) ggX6_walkFrom_X4_setting
set_option maxRecDepth 20000 in
theorem ggX6_walkFrom_X6_catchesHold : GoodIn wsX6_walkFrom wsX6_catchesHold := goodIn_r _ [16, 1, 5, 17, 18, 19, 9, 20, 21, 22, 23, 24, 25, 26, 27, 28, 29, 30, 31, 32, 15, 33, 4, 3, 34, 35, 36, 6, 7, 8, 10, 11, 43, 44, 45, 46, 47, 48, 49, 50, 51, 52, 53, 54, 55, 56, 57, 58] (by decide +kernel) (by decide +kernel)
set_option maxRecDepth 20000 in
theorem gX6_walkFrom_X6_catchesHold : GoodIn wsX6_walkFrom (wsV RX6 34 RX6 yX6_catchesHold wsX6_catchesHold) := goodIn_app (goodIn_of _ (by decide +kernel)) ggX6_walkFrom_X6_catchesHold
set_option maxRecDepth 20000 in
theorem ggX6_walkFrom_X6_makesStep : GoodIn wsX6_walkFrom wsX6_makesStep := goodIn_r _ [40, 1, 2, 30, 31, 32, 15, 33, 4, 3, 34, 35, 36, 6, 7, 8, 9, 10, 11, 41, 22, 23, 24, 42, 26, 27, 28, 29, 43, 44, 45, 46, 47, 48, 49, 50, 51, 52, 53, 54, 55, 56, 57, 58] (by decide +kernel) (by decide +kernel)
set_option maxRecDepth 20000 in
theorem gX6_walkFrom_X6_makesStep : GoodIn wsX6_walkFrom (wsV RX6 38 RX6 yX6_makesStep wsX6_makesStep) := goodIn_app (goodIn_of _ (by decide +kernel)) ggX6_walkFrom_X6_makesStep
theorem dX6_walkFrom_0 : decode cX6_walkFrom 0 = .ok (.aload_n 0, 1) := by decide +kernel
theorem dX6_walkFrom_1 : decode cX6_walkFrom 1 = .ok (.iload_n 2, 1) := by decide +kernel
theorem dX6_walkFrom_2 : decode cX6_walkFrom 2 = .ok (.putfield 9, 3) := by decide +kernel
theorem dX6_walkFrom_5 : decode cX6_walkFrom 5 = .ok (.aload_n 0, 1) := by decide +kernel
theorem dX6_walkFrom_6 : decode cX6_walkFrom 6 = .ok (.iconst 0, 1) := by decide +kernel
theorem dX6_walkFrom_7 : decode cX6_walkFrom 7 = .ok (.putfield 15, 3) := by decide +kernel
theorem dX6_walkFrom_10 : decode cX6_walkFrom 10 = .ok (.aload_n 0, 1) := by decide +kernel
theorem dX6_walkFrom_11 : decode cX6_walkFrom 11 = .ok (.iconst 0, 1) := by decide +kernel
theorem dX6_walkFrom_12 : decode cX6_walkFrom 12 = .ok (.putfield 18, 3) := by decide +kernel
theorem dX6_walkFrom_15 : decode cX6_walkFrom 15 = .ok (.aload_n 0, 1) := by decide +kernel
theorem dX6_walkFrom_16 : decode cX6_walkFrom 16 = .ok (.aload_n 1, 1) := by decide +kernel
theorem dX6_walkFrom_17 : decode cX6_walkFrom 17 = .ok (.getfield 27, 3) := by decide +kernel
theorem dX6_walkFrom_20 : decode cX6_walkFrom 20 = .ok (.putfield 21, 3) := by decide +kernel
theorem dX6_walkFrom_23 : decode cX6_walkFrom 23 = .ok (.aload_n 0, 1) := by decide +kernel
theorem dX6_walkFrom_24 : decode cX6_walkFrom 24 = .ok (.bipush (-4), 2) := by decide +kernel
theorem dX6_walkFrom_26 : decode cX6_walkFrom 26 = .ok (.putfield 24, 3) := by decide +kernel
theorem dX6_walkFrom_29 : decode cX6_walkFrom 29 = .ok (.aload_n 1, 1) := by decide +kernel
theorem dX6_walkFrom_30 : decode cX6_walkFrom 30 = .ok (.iconst 1, 1) := by decide +kernel
theorem dX6_walkFrom_31 : decode cX6_walkFrom 31 = .ok (.invokevirtual 30, 3) := by decide +kernel
theorem dX6_walkFrom_34 : decode cX6_walkFrom 34 = .ok (.istore_n 3, 1) := by decide +kernel
theorem dX6_walkFrom_35 : decode cX6_walkFrom 35 = .ok (.iconst 1, 1) := by decide +kernel
theorem dX6_walkFrom_36 : decode cX6_walkFrom 36 = .ok (.istore 4, 2) := by decide +kernel
theorem dX6_walkFrom_38 : decode cX6_walkFrom 38 = .ok (.iconst 0, 1) := by decide +kernel
theorem dX6_walkFrom_39 : decode cX6_walkFrom 39 = .ok (.istore 5, 2) := by decide +kernel
theorem dX6_walkFrom_41 : decode cX6_walkFrom 41 = .ok (.iload 5, 2) := by decide +kernel
theorem dX6_walkFrom_43 : decode cX6_walkFrom 43 = .ok (.iload_n 3, 1) := by decide +kernel
theorem dX6_walkFrom_44 : decode cX6_walkFrom 44 = .ok (.if_icmp .gt 45, 3) := by decide +kernel
theorem dX6_walkFrom_47 : decode cX6_walkFrom 47 = .ok (.iload 4, 2) := by decide +kernel
theorem dX6_walkFrom_49 : decode cX6_walkFrom 49 = .ok (.ifCond .eq 40, 3) := by decide +kernel
theorem dX6_walkFrom_52 : decode cX6_walkFrom 52 = .ok (.aload_n 0, 1) := by decide +kernel
theorem dX6_walkFrom_53 : decode cX6_walkFrom 53 = .ok (.aload_n 1, 1) := by decide +kernel
theorem dX6_walkFrom_54 : decode cX6_walkFrom 54 = .ok (.invokevirtual 34, 3) := by decide +kernel
theorem dX6_walkFrom_57 : decode cX6_walkFrom 57 = .ok (.ifCond .ne 23, 3) := by decide +kernel
theorem dX6_walkFrom_60 : decode cX6_walkFrom 60 = .ok (.aload_n 0, 1) := by decide +kernel
theorem dX6_walkFrom_61 : decode cX6_walkFrom 61 = .ok (.getfield 15, 3) := by decide +kernel
theorem dX6_walkFrom_64 : decode cX6_walkFrom 64 = .ok (.iload_n 3, 1) := by decide +kernel
theorem dX6_walkFrom_65 : decode cX6_walkFrom 65 = .ok (.if_icmp .ge 15, 3) := by decide +kernel
theorem dX6_walkFrom_68 : decode cX6_walkFrom 68 = .ok (.aload_n 0, 1) := by decide +kernel
theorem dX6_walkFrom_69 : decode cX6_walkFrom 69 = .ok (.aload_n 1, 1) := by decide +kernel
theorem dX6_walkFrom_70 : decode cX6_walkFrom 70 = .ok (.invokevirtual 38, 3) := by decide +kernel
theorem dX6_walkFrom_73 : decode cX6_walkFrom 73 = .ok (.ifCond .eq 7, 3) := by decide +kernel
theorem dX6_walkFrom_76 : decode cX6_walkFrom 76 = .ok (.iconst 1, 1) := by decide +kernel
theorem dX6_walkFrom_77 : decode cX6_walkFrom 77 = .ok (.goto 4, 3) := by decide +kernel
theorem dX6_walkFrom_80 : decode cX6_walkFrom 80 = .ok (.iconst 0, 1) := by decide +kernel
theorem dX6_walkFrom_81 : decode cX6_walkFrom 81 = .ok (.istore 4, 2) := by decide +kernel
theorem dX6_walkFrom_83 : decode cX6_walkFrom 83 = .ok (.iinc 5 1, 3) := by decide +kernel
theorem dX6_walkFrom_86 : decode cX6_walkFrom 86 = .ok (.goto (-45), 3) := by decide +kernel
theorem dX6_walkFrom_89 : decode cX6_walkFrom 89 = .ok (.return_, 1) := by decide +kernel
set_option maxRecDepth 20000 in
theorem ggX6_catchesHold_X4_firstGrainBeside : GoodIn wsX6_catchesHold wsX4_firstGrainBeside := goodIn_r _ [7, 8, 9, 10, 11, 12, 13, 14, 6, 15, 16, 37, 38, 39, 40, 41, 42, 43, 44, 45, 46, 47] (by decide +kernel) (by decide +kernel)
set_option maxRecDepth 20000 in
theorem gX6_catchesHold_X4_firstGrainBeside : GoodIn wsX6_catchesHold (wsV RX6 41 RX4 yX4_firstGrainBeside wsX4_firstGrainBeside) := goodIn_app (goodIn_of _ (by decide +kernel)) ggX6_catchesHold_X4_firstGrainBeside
set_option maxRecDepth 20000 in
theorem ggX6_catchesHold_X6_draw : GoodIn wsX6_catchesHold wsX6_draw := goodIn_r _ [21, 22, 23, 24, 25, 26, 32, 33, 34, 35, 36] (by decide +kernel) (by decide +kernel)
set_option maxRecDepth 20000 in
theorem gX6_catchesHold_X6_draw : GoodIn wsX6_catchesHold (wsV RX6 44 RX6 yX6_draw wsX6_draw) := goodIn_app (goodIn_of _ (by decide +kernel)) ggX6_catchesHold_X6_draw
set_option maxRecDepth 20000 in
theorem ggX6_catchesHold_X4_setting : GoodIn wsX6_catchesHold wsX4_setting := goodIn_r _ [30, 31, 37, 38, 39, 40, 41, 42, 43, 44, 45, 46, 47] (by decide +kernel) (by decide +kernel)
set_option maxRecDepth 20000 in
theorem gX6_catchesHold_X4_setting : GoodIn wsX6_catchesHold (wsV RX6 30 RX4 yX4_setting wsX4_setting) := goodIn_app (goodIn_of _ (by decide +kernel)) ggX6_catchesHold_X4_setting
theorem dX6_catchesHold_0 : decode cX6_catchesHold 0 = .ok (.aload_n 1, 1) := by decide +kernel
theorem dX6_catchesHold_1 : decode cX6_catchesHold 1 = .ok (.aload_n 0, 1) := by decide +kernel
theorem dX6_catchesHold_2 : decode cX6_catchesHold 2 = .ok (.getfield 9, 3) := by decide +kernel
theorem dX6_catchesHold_5 : decode cX6_catchesHold 5 = .ok (.invokevirtual 41, 3) := by decide +kernel
theorem dX6_catchesHold_8 : decode cX6_catchesHold 8 = .ok (.istore_n 2, 1) := by decide +kernel
theorem dX6_catchesHold_9 : decode cX6_catchesHold 9 = .ok (.iload_n 2, 1) := by decide +kernel
theorem dX6_catchesHold_10 : decode cX6_catchesHold 10 = .ok (.bipush (-4), 2) := by decide +kernel
theorem dX6_catchesHold_12 : decode cX6_catchesHold 12 = .ok (.if_icmp .eq 17, 3) := by decide +kernel
theorem dX6_catchesHold_15 : decode cX6_catchesHold 15 = .ok (.aload_n 0, 1) := by decide +kernel
theorem dX6_catchesHold_16 : decode cX6_catchesHold 16 = .ok (.invokevirtual 44, 3) := by decide +kernel
theorem dX6_catchesHold_19 : decode cX6_catchesHold 19 = .ok (.iconst 4, 1) := by decide +kernel
theorem dX6_catchesHold_20 : decode cX6_catchesHold 20 = .ok (.irem, 1) := by decide +kernel
theorem dX6_catchesHold_21 : decode cX6_catchesHold 21 = .ok (.aload_n 1, 1) := by decide +kernel
theorem dX6_catchesHold_22 : decode cX6_catchesHold 22 = .ok (.iconst 0, 1) := by decide +kernel
theorem dX6_catchesHold_23 : decode cX6_catchesHold 23 = .ok (.invokevirtual 30, 3) := by decide +kernel
theorem dX6_catchesHold_26 : decode cX6_catchesHold 26 = .ok (.if_icmp .lt 5, 3) := by decide +kernel
theorem dX6_catchesHold_29 : decode cX6_catchesHold 29 = .ok (.iconst 0, 1) := by decide +kernel
theorem dX6_catchesHold_30 : decode cX6_catchesHold 30 = .ok (.ireturn, 1) := by decide +kernel
theorem dX6_catchesHold_31 : decode cX6_catchesHold 31 = .ok (.aload_n 0, 1) := by decide +kernel
theorem dX6_catchesHold_32 : decode cX6_catchesHold 32 = .ok (.iload_n 2, 1) := by decide +kernel
theorem dX6_catchesHold_33 : decode cX6_catchesHold 33 = .ok (.putfield 24, 3) := by decide +kernel
theorem dX6_catchesHold_36 : decode cX6_catchesHold 36 = .ok (.iconst 1, 1) := by decide +kernel
theorem dX6_catchesHold_37 : decode cX6_catchesHold 37 = .ok (.ireturn, 1) := by decide +kernel
set_option maxRecDepth 20000 in
theorem ggX6_makesStep_X6_draw : GoodIn wsX6_makesStep wsX6_draw := goodIn_r _ [7, 8, 9, 10, 11, 12, 28, 29, 30, 31, 32] (by decide +kernel) (by decide +kernel)
set_option maxRecDepth 20000 in
theorem gX6_makesStep_X6_draw : GoodIn wsX6_makesStep (wsV RX6 44 RX6 yX6_draw wsX6_draw) := goodIn_app (goodIn_of _ (by decide +kernel)) ggX6_makesStep_X6_draw
set_option maxRecDepth 20000 in
theorem ggX6_makesStep_X4_setting : GoodIn wsX6_makesStep wsX4_setting := goodIn_r _ [17, 18, 33, 34, 35, 36, 37, 38, 39, 40, 41, 42, 43] (by decide +kernel) (by decide +kernel)
set_option maxRecDepth 20000 in
theorem gX6_makesStep_X4_setting : GoodIn wsX6_makesStep (wsV RX6 30 RX4 yX4_setting wsX4_setting) := goodIn_app (goodIn_of _ (by decide +kernel)) ggX6_makesStep_X4_setting
set_option maxRecDepth 20000 in
theorem ggX6_makesStep_X2_neighbour : GoodIn wsX6_makesStep wsX2_neighbour := goodIn_r _ [22] (by decide +kernel) (by decide +kernel)
set_option maxRecDepth 20000 in
theorem gX6_makesStep_X2_neighbour : GoodIn wsX6_makesStep (va_wsS RX6 48 yX2_neighbour wsX2_neighbour) := goodIn_app (goodIn_of _ (by decide +kernel)) ggX6_makesStep_X2_neighbour
set_option maxRecDepth 20000 in
theorem ggX6_makesStep_X4_grainAt : GoodIn wsX6_makesStep wsX4_grainAt := goodIn_r _ [26, 27, 33, 34, 35, 36, 37, 38, 39, 40, 41, 42, 43] (by decide +kernel) (by decide +kernel)
set_option maxRecDepth 20000 in
theorem gX6_makesStep_X4_grainAt : GoodIn wsX6_makesStep (wsV RX6 54 RX4 yX4_grainAt wsX4_grainAt) := goodIn_app (goodIn_of _ (by decide +kernel)) ggX6_makesStep_X4_grainAt
theorem dX6_makesStep_0 : decode cX6_makesStep 0 = .ok (.aload_n 0, 1) := by decide +kernel
theorem dX6_makesStep_1 : decode cX6_makesStep 1 = .ok (.invokevirtual 44, 3) := by decide +kernel
theorem dX6_makesStep_4 : decode cX6_makesStep 4 = .ok (.iconst 4, 1) := by decide +kernel
theorem dX6_makesStep_5 : decode cX6_makesStep 5 = .ok (.aload_n 1, 1) := by decide +kernel
theorem dX6_makesStep_6 : decode cX6_makesStep 6 = .ok (.iconst 2, 1) := by decide +kernel
theorem dX6_makesStep_7 : decode cX6_makesStep 7 = .ok (.invokevirtual 30, 3) := by decide +kernel
theorem dX6_makesStep_10 : decode cX6_makesStep 10 = .ok (.iadd, 1) := by decide +kernel
theorem dX6_makesStep_11 : decode cX6_makesStep 11 = .ok (.irem, 1) := by decide +kernel
theorem dX6_makesStep_12 : decode cX6_makesStep 12 = .ok (.istore_n 2, 1) := by decide +kernel
theorem dX6_makesStep_13 : decode cX6_makesStep 13 = .ok (.aload_n 0, 1) := by decide +kernel
theorem dX6_makesStep_14 : decode cX6_makesStep 14 = .ok (.getfield 9, 3) := by decide +kernel
theorem dX6_makesStep_17 : decode cX6_makesStep 17 = .ok (.iload_n 2, 1) := by decide +kernel
theorem dX6_makesStep_18 : decode cX6_makesStep 18 = .ok (.iconst 4, 1) := by decide +kernel
theorem dX6_makesStep_19 : decode cX6_makesStep 19 = .ok (.if_icmp .ge 7, 3) := by decide +kernel
theorem dX6_makesStep_22 : decode cX6_makesStep 22 = .ok (.iload_n 2, 1) := by decide +kernel
theorem dX6_makesStep_23 : decode cX6_makesStep 23 = .ok (.goto 8, 3) := by decide +kernel
theorem dX6_makesStep_26 : decode cX6_makesStep 26 = .ok (.aload_n 1, 1) := by decide +kernel
theorem dX6_makesStep_27 : decode cX6_makesStep 27 = .ok (.iconst 3, 1) := by decide +kernel
theorem dX6_makesStep_28 : decode cX6_makesStep 28 = .ok (.invokevirtual 30, 3) := by decide +kernel
theorem dX6_makesStep_31 : decode cX6_makesStep 31 = .ok (.invokestatic 48, 3) := by decide +kernel
theorem dX6_makesStep_34 : decode cX6_makesStep 34 = .ok (.istore_n 3, 1) := by decide +kernel
theorem dX6_makesStep_35 : decode cX6_makesStep 35 = .ok (.aload_n 0, 1) := by decide +kernel
theorem dX6_makesStep_36 : decode cX6_makesStep 36 = .ok (.dup, 1) := by decide +kernel
theorem dX6_makesStep_37 : decode cX6_makesStep 37 = .ok (.getfield 15, 3) := by decide +kernel
theorem dX6_makesStep_40 : decode cX6_makesStep 40 = .ok (.iconst 1, 1) := by decide +kernel
theorem dX6_makesStep_41 : decode cX6_makesStep 41 = .ok (.iadd, 1) := by decide +kernel
theorem dX6_makesStep_42 : decode cX6_makesStep 42 = .ok (.putfield 15, 3) := by decide +kernel
theorem dX6_makesStep_45 : decode cX6_makesStep 45 = .ok (.iload_n 3, 1) := by decide +kernel
theorem dX6_makesStep_46 : decode cX6_makesStep 46 = .ok (.bipush (-4), 2) := by decide +kernel
theorem dX6_makesStep_48 : decode cX6_makesStep 48 = .ok (.if_icmp .ne 5, 3) := by decide +kernel
theorem dX6_makesStep_51 : decode cX6_makesStep 51 = .ok (.iconst 0, 1) := by decide +kernel
theorem dX6_makesStep_52 : decode cX6_makesStep 52 = .ok (.ireturn, 1) := by decide +kernel
theorem dX6_makesStep_53 : decode cX6_makesStep 53 = .ok (.aload_n 1, 1) := by decide +kernel
theorem dX6_makesStep_54 : decode cX6_makesStep 54 = .ok (.iload_n 3, 1) := by decide +kernel
theorem dX6_makesStep_55 : decode cX6_makesStep 55 = .ok (.invokevirtual 54, 3) := by decide +kernel
theorem dX6_makesStep_58 : decode cX6_makesStep 58 = .ok (.bipush (-4), 2) := by decide +kernel
theorem dX6_makesStep_60 : decode cX6_makesStep 60 = .ok (.if_icmp .ne 8, 3) := by decide +kernel
theorem dX6_makesStep_63 : decode cX6_makesStep 63 = .ok (.aload_n 0, 1) := by decide +kernel
theorem dX6_makesStep_64 : decode cX6_makesStep 64 = .ok (.iload_n 3, 1) := by decide +kernel
theorem dX6_makesStep_65 : decode cX6_makesStep 65 = .ok (.putfield 9, 3) := by decide +kernel
theorem dX6_makesStep_68 : decode cX6_makesStep 68 = .ok (.iconst 1, 1) := by decide +kernel
theorem dX6_makesStep_69 : decode cX6_makesStep 69 = .ok (.ireturn, 1) := by decide +kernel
set_option maxRecDepth 20000 in
theorem ggX6_draw_X7_nextLot : GoodIn wsX6_draw wsX7_nextLot := goodIn_r _ [5] (by decide +kernel) (by decide +kernel)
set_option maxRecDepth 20000 in
theorem gX6_draw_X7_nextLot_n57 : GoodIn wsX6_draw (wsX7_nextLot) := ggX6_draw_X7_nextLot
theorem dX6_draw_0 : decode cX6_draw 0 = .ok (.aload_n 0, 1) := by decide +kernel
theorem dX6_draw_1 : decode cX6_draw 1 = .ok (.aload_n 0, 1) := by decide +kernel
theorem dX6_draw_2 : decode cX6_draw 2 = .ok (.getfield 21, 3) := by decide +kernel
theorem dX6_draw_5 : decode cX6_draw 5 = .ok (.invokestatic 57, 3) := by decide +kernel
theorem dX6_draw_8 : decode cX6_draw 8 = .ok (.putfield 21, 3) := by decide +kernel
theorem dX6_draw_11 : decode cX6_draw 11 = .ok (.aload_n 0, 1) := by decide +kernel
theorem dX6_draw_12 : decode cX6_draw 12 = .ok (.dup, 1) := by decide +kernel
theorem dX6_draw_13 : decode cX6_draw 13 = .ok (.getfield 18, 3) := by decide +kernel
theorem dX6_draw_16 : decode cX6_draw 16 = .ok (.iconst 1, 1) := by decide +kernel
theorem dX6_draw_17 : decode cX6_draw 17 = .ok (.iadd, 1) := by decide +kernel
theorem dX6_draw_18 : decode cX6_draw 18 = .ok (.putfield 18, 3) := by decide +kernel
theorem dX6_draw_21 : decode cX6_draw 21 = .ok (.aload_n 0, 1) := by decide +kernel
theorem dX6_draw_22 : decode cX6_draw 22 = .ok (.getfield 21, 3) := by decide +kernel
theorem dX6_draw_25 : decode cX6_draw 25 = .ok (.ireturn, 1) := by decide +kernel
theorem dX6_sticks_0 : decode cX6_sticks 0 = .ok (.aload_n 0, 1) := by decide +kernel
theorem dX6_sticks_1 : decode cX6_sticks 1 = .ok (.getfield 24, 3) := by decide +kernel
theorem dX6_sticks_4 : decode cX6_sticks 4 = .ok (.bipush (-4), 2) := by decide +kernel
theorem dX6_sticks_6 : decode cX6_sticks 6 = .ok (.if_icmp .eq 7, 3) := by decide +kernel
theorem dX6_sticks_9 : decode cX6_sticks 9 = .ok (.iconst 1, 1) := by decide +kernel
theorem dX6_sticks_10 : decode cX6_sticks 10 = .ok (.goto 4, 3) := by decide +kernel
theorem dX6_sticks_13 : decode cX6_sticks 13 = .ok (.iconst 0, 1) := by decide +kernel
theorem dX6_sticks_14 : decode cX6_sticks 14 = .ok (.ireturn, 1) := by decide +kernel
set_option maxRecDepth 20000 in
theorem ggX6_answer_X6_sticks : GoodIn wsX6_answer wsX6_sticks := goodIn_r _ [7, 8, 9, 10, 11, 12, 13] (by decide +kernel) (by decide +kernel)
set_option maxRecDepth 20000 in
theorem gX6_answer_X6_sticks : GoodIn wsX6_answer (wsV RX6 60 RX6 yX6_sticks wsX6_sticks) := goodIn_app (goodIn_of _ (by decide +kernel)) ggX6_answer_X6_sticks
theorem dX6_answer_0 : decode cX6_answer 0 = .ok (.aload_n 0, 1) := by decide +kernel
theorem dX6_answer_1 : decode cX6_answer 1 = .ok (.invokevirtual 60, 3) := by decide +kernel
theorem dX6_answer_4 : decode cX6_answer 4 = .ok (.ifCond .eq 14, 3) := by decide +kernel
theorem dX6_answer_7 : decode cX6_answer 7 = .ok (.sipush 1000, 3) := by decide +kernel
theorem dX6_answer_10 : decode cX6_answer 10 = .ok (.aload_n 0, 1) := by decide +kernel
theorem dX6_answer_11 : decode cX6_answer 11 = .ok (.getfield 9, 3) := by decide +kernel
theorem dX6_answer_14 : decode cX6_answer 14 = .ok (.iadd, 1) := by decide +kernel
theorem dX6_answer_15 : decode cX6_answer 15 = .ok (.goto 7, 3) := by decide +kernel
theorem dX6_answer_18 : decode cX6_answer 18 = .ok (.aload_n 0, 1) := by decide +kernel
theorem dX6_answer_19 : decode cX6_answer 19 = .ok (.getfield 15, 3) := by decide +kernel
theorem dX6_answer_22 : decode cX6_answer 22 = .ok (.ireturn, 1) := by decide +kernel
set_option maxRecDepth 20000 in
theorem ggX7_init_X4_init : GoodIn wsX7_init wsX4_init := goodIn_r _ [37, 38, 2, 3, 39, 40, 41, 42, 43, 44, 45, 46, 47, 48, 49, 50, 120, 121, 122, 123, 124, 125, 126, 127, 128, 129, 130] (by decide +kernel) (by decide +kernel)
set_option maxRecDepth 20000 in
theorem gX7_init_X4_init_n11 : GoodIn wsX7_init (wsX4_init) := ggX7_init_X4_init
set_option maxRecDepth 20000 in
theorem ggX7_init_X6_init : GoodIn wsX7_init wsX6_init := goodIn_r _ [52, 53, 2, 3, 54, 55, 56, 57, 58, 145, 146, 147, 148, 149] (by decide +kernel) (by decide +kernel)
set_option maxRecDepth 20000 in
theorem gX7_init_X6_init_n28 : GoodIn wsX7_init (wsX6_init) := ggX7_init_X6_init
set_option maxRecDepth 20000 in
theorem ggX7_init_X0_init : GoodIn wsX7_init wsX0_init := goodIn_r _ [60, 61, 2, 3, 62, 63, 39, 64, 150, 151] (by decide +kernel) (by decide +kernel)
set_option maxRecDepth 20000 in
theorem gX7_init_X0_init_n35 : GoodIn wsX7_init (wsX0_init) := ggX7_init_X0_init
set_option maxRecDepth 20000 in
theorem ggX7_init_X5_init : GoodIn wsX7_init wsX5_init := goodIn_r _ [66, 67, 2, 3, 39, 68, 69, 70, 71, 72, 73, 74, 152, 153, 154, 155, 156, 157, 158] (by decide +kernel) (by decide +kernel)
set_option maxRecDepth 20000 in
theorem gX7_init_X5_init_n42 : GoodIn wsX7_init (wsX5_init) := ggX7_init_X5_init
set_option maxRecDepth 20000 in
theorem ggX7_init_X3_init : GoodIn wsX7_init wsX3_init := goodIn_r _ [76, 77, 2, 3, 39, 78, 79, 80, 159, 160, 161] (by decide +kernel) (by decide +kernel)
set_option maxRecDepth 20000 in
theorem gX7_init_X3_init_n49 : GoodIn wsX7_init (wsX3_init) := ggX7_init_X3_init
set_option maxRecDepth 20000 in
theorem ggX7_init_X1_init : GoodIn wsX7_init wsX1_init := goodIn_r _ [82, 83, 2, 3, 84, 85, 86, 87, 88, 89, 90, 162, 163, 164, 165, 166, 167] (by decide +kernel) (by decide +kernel)
set_option maxRecDepth 20000 in
theorem gX7_init_X1_init_n56 : GoodIn wsX7_init (wsX1_init) := ggX7_init_X1_init
set_option maxRecDepth 20000 in
theorem ggX7_init_X4_plant : GoodIn wsX7_init wsX4_plant := goodIn_r _ [94, 45, 47, 48, 49, 50, 95, 96, 97, 6, 98, 43, 99, 100, 101, 102, 103, 104, 105, 106, 107, 108, 109, 110, 111, 112, 113, 114, 115, 116, 117, 118, 119, 40, 41, 42, 120, 121, 122, 123, 124, 125, 126, 127, 128, 129, 130] (by decide +kernel) (by decide +kernel)
set_option maxRecDepth 20000 in
theorem gX7_init_X4_plant : GoodIn wsX7_init (wsV RX7 78 RX4 yX4_plant wsX4_plant) := goodIn_app (goodIn_of _ (by decide +kernel)) ggX7_init_X4_plant
theorem dX7_init_0 : decode cX7_init 0 = .ok (.aload_n 0, 1) := by decide +kernel
theorem dX7_init_1 : decode cX7_init 1 = .ok (.invokespecial 3, 3) := by decide +kernel
theorem dX7_init_4 : decode cX7_init 4 = .ok (.aload_n 0, 1) := by decide +kernel
theorem dX7_init_5 : decode cX7_init 5 = .ok (.new 9, 3) := by decide +kernel
theorem dX7_init_8 : decode cX7_init 8 = .ok (.dup, 1) := by decide +kernel
theorem dX7_init_9 : decode cX7_init 9 = .ok (.invokespecial 11, 3) := by decide +kernel
theorem dX7_init_12 : decode cX7_init 12 = .ok (.putfield 12, 3) := by decide +kernel
theorem dX7_init_15 : decode cX7_init 15 = .ok (.aload_n 0, 1) := by decide +kernel
theorem dX7_init_16 : decode cX7_init 16 = .ok (.new 9, 3) := by decide +kernel
theorem dX7_init_19 : decode cX7_init 19 = .ok (.dup, 1) := by decide +kernel
theorem dX7_init_20 : decode cX7_init 20 = .ok (.invokespecial 11, 3) := by decide +kernel
theorem dX7_init_23 : decode cX7_init 23 = .ok (.putfield 16, 3) := by decide +kernel
theorem dX7_init_26 : decode cX7_init 26 = .ok (.aload_n 0, 1) := by decide +kernel
theorem dX7_init_27 : decode cX7_init 27 = .ok (.new 9, 3) := by decide +kernel
theorem dX7_init_30 : decode cX7_init 30 = .ok (.dup, 1) := by decide +kernel
theorem dX7_init_31 : decode cX7_init 31 = .ok (.invokespecial 11, 3) := by decide +kernel
theorem dX7_init_34 : decode cX7_init 34 = .ok (.putfield 19, 3) := by decide +kernel
theorem dX7_init_37 : decode cX7_init 37 = .ok (.aload_n 0, 1) := by decide +kernel
theorem dX7_init_38 : decode cX7_init 38 = .ok (.iconst 4, 1) := by decide +kernel
theorem dX7_init_39 : decode cX7_init 39 = .ok (.anewarray 9, 3) := by decide +kernel
theorem dX7_init_42 : decode cX7_init 42 = .ok (.putfield 22, 3) := by decide +kernel
theorem dX7_init_45 : decode cX7_init 45 = .ok (.aload_n 0, 1) := by decide +kernel
theorem dX7_init_46 : decode cX7_init 46 = .ok (.new 26, 3) := by decide +kernel
theorem dX7_init_49 : decode cX7_init 49 = .ok (.dup, 1) := by decide +kernel
theorem dX7_init_50 : decode cX7_init 50 = .ok (.invokespecial 28, 3) := by decide +kernel
theorem dX7_init_53 : decode cX7_init 53 = .ok (.putfield 29, 3) := by decide +kernel
theorem dX7_init_56 : decode cX7_init 56 = .ok (.aload_n 0, 1) := by decide +kernel
theorem dX7_init_57 : decode cX7_init 57 = .ok (.new 33, 3) := by decide +kernel
theorem dX7_init_60 : decode cX7_init 60 = .ok (.dup, 1) := by decide +kernel
theorem dX7_init_61 : decode cX7_init 61 = .ok (.invokespecial 35, 3) := by decide +kernel
theorem dX7_init_64 : decode cX7_init 64 = .ok (.putfield 36, 3) := by decide +kernel
theorem dX7_init_67 : decode cX7_init 67 = .ok (.aload_n 0, 1) := by decide +kernel
theorem dX7_init_68 : decode cX7_init 68 = .ok (.new 40, 3) := by decide +kernel
theorem dX7_init_71 : decode cX7_init 71 = .ok (.dup, 1) := by decide +kernel
theorem dX7_init_72 : decode cX7_init 72 = .ok (.invokespecial 42, 3) := by decide +kernel
theorem dX7_init_75 : decode cX7_init 75 = .ok (.putfield 43, 3) := by decide +kernel
theorem dX7_init_78 : decode cX7_init 78 = .ok (.aload_n 0, 1) := by decide +kernel
theorem dX7_init_79 : decode cX7_init 79 = .ok (.new 47, 3) := by decide +kernel
theorem dX7_init_82 : decode cX7_init 82 = .ok (.dup, 1) := by decide +kernel
theorem dX7_init_83 : decode cX7_init 83 = .ok (.invokespecial 49, 3) := by decide +kernel
theorem dX7_init_86 : decode cX7_init 86 = .ok (.putfield 50, 3) := by decide +kernel
theorem dX7_init_89 : decode cX7_init 89 = .ok (.aload_n 0, 1) := by decide +kernel
theorem dX7_init_90 : decode cX7_init 90 = .ok (.new 54, 3) := by decide +kernel
theorem dX7_init_93 : decode cX7_init 93 = .ok (.dup, 1) := by decide +kernel
theorem dX7_init_94 : decode cX7_init 94 = .ok (.invokespecial 56, 3) := by decide +kernel
theorem dX7_init_97 : decode cX7_init 97 = .ok (.putfield 57, 3) := by decide +kernel
theorem dX7_init_100 : decode cX7_init 100 = .ok (.aload_n 0, 1) := by decide +kernel
theorem dX7_init_101 : decode cX7_init 101 = .ok (.iconst 0, 1) := by decide +kernel
theorem dX7_init_102 : decode cX7_init 102 = .ok (.putfield 61, 3) := by decide +kernel
theorem dX7_init_105 : decode cX7_init 105 = .ok (.aload_n 0, 1) := by decide +kernel
theorem dX7_init_106 : decode cX7_init 106 = .ok (.iconst 0, 1) := by decide +kernel
theorem dX7_init_107 : decode cX7_init 107 = .ok (.putfield 65, 3) := by decide +kernel
theorem dX7_init_110 : decode cX7_init 110 = .ok (.aload_n 0, 1) := by decide +kernel
theorem dX7_init_111 : decode cX7_init 111 = .ok (.iconst 0, 1) := by decide +kernel
theorem dX7_init_112 : decode cX7_init 112 = .ok (.putfield 69, 3) := by decide +kernel
theorem dX7_init_115 : decode cX7_init 115 = .ok (.aload_n 0, 1) := by decide +kernel
theorem dX7_init_116 : decode cX7_init 116 = .ok (.iconst 0, 1) := by decide +kernel
theorem dX7_init_117 : decode cX7_init 117 = .ok (.putfield 72, 3) := by decide +kernel
theorem dX7_init_120 : decode cX7_init 120 = .ok (.aload_n 0, 1) := by decide +kernel
theorem dX7_init_121 : decode cX7_init 121 = .ok (.iconst 0, 1) := by decide +kernel
theorem dX7_init_122 : decode cX7_init 122 = .ok (.putfield 75, 3) := by decide +kernel
theorem dX7_init_125 : decode cX7_init 125 = .ok (.iconst 0, 1) := by decide +kernel
theorem dX7_init_126 : decode cX7_init 126 = .ok (.istore_n 1, 1) := by decide +kernel
theorem dX7_init_127 : decode cX7_init 127 = .ok (.iload_n 1, 1) := by decide +kernel
theorem dX7_init_128 : decode cX7_init 128 = .ok (.aload_n 0, 1) := by decide +kernel
theorem dX7_init_129 : decode cX7_init 129 = .ok (.getfield 22, 3) := by decide +kernel
theorem dX7_init_132 : decode cX7_init 132 = .ok (.arraylength, 1) := by decide +kernel
theorem dX7_init_133 : decode cX7_init 133 = .ok (.if_icmp .ge 22, 3) := by decide +kernel
theorem dX7_init_136 : decode cX7_init 136 = .ok (.aload_n 0, 1) := by decide +kernel
theorem dX7_init_137 : decode cX7_init 137 = .ok (.getfield 22, 3) := by decide +kernel
theorem dX7_init_140 : decode cX7_init 140 = .ok (.iload_n 1, 1) := by decide +kernel
theorem dX7_init_141 : decode cX7_init 141 = .ok (.new 9, 3) := by decide +kernel
theorem dX7_init_144 : decode cX7_init 144 = .ok (.dup, 1) := by decide +kernel
theorem dX7_init_145 : decode cX7_init 145 = .ok (.invokespecial 11, 3) := by decide +kernel
theorem dX7_init_148 : decode cX7_init 148 = .ok (.aastore, 1) := by decide +kernel
theorem dX7_init_149 : decode cX7_init 149 = .ok (.iinc 1 1, 3) := by decide +kernel
theorem dX7_init_152 : decode cX7_init 152 = .ok (.goto (-25), 3) := by decide +kernel
theorem dX7_init_155 : decode cX7_init 155 = .ok (.aload_n 0, 1) := by decide +kernel
theorem dX7_init_156 : decode cX7_init 156 = .ok (.getfield 12, 3) := by decide +kernel
theorem dX7_init_159 : decode cX7_init 159 = .ok (.iconst 0, 1) := by decide +kernel
theorem dX7_init_160 : decode cX7_init 160 = .ok (.invokevirtual 78, 3) := by decide +kernel
theorem dX7_init_163 : decode cX7_init 163 = .ok (.pop, 1) := by decide +kernel
theorem dX7_init_164 : decode cX7_init 164 = .ok (.return_, 1) := by decide +kernel
set_option maxRecDepth 20000 in
theorem ggX7_begin_X7_record : GoodIn wsX7_begin wsX7_record := goodIn_r _ [6, 7, 8, 1, 9, 10, 11, 5, 12, 13, 14, 15, 16, 17, 18, 19, 20, 21, 22, 23, 24, 25, 26, 27, 28, 29, 30, 31, 32, 62, 63, 64, 65, 66, 67, 68, 69, 70, 71, 72, 73, 74, 75, 76, 77, 78, 79, 80, 81, 82, 83, 84, 85, 86] (by decide +kernel) (by decide +kernel)
set_option maxRecDepth 20000 in
theorem gX7_begin_X7_record : GoodIn wsX7_begin (wsV RX7 82 RX7 yX7_record wsX7_record) := goodIn_app (goodIn_of _ (by decide +kernel)) ggX7_begin_X7_record
set_option maxRecDepth 20000 in
theorem ggX7_begin_X4_plant : GoodIn wsX7_begin wsX4_plant := goodIn_r _ [36, 27, 29, 30, 31, 32, 37, 38, 39, 16, 40, 25, 41, 42, 43, 44, 45, 46, 47, 48, 49, 50, 51, 52, 53, 54, 55, 56, 57, 58, 59, 60, 61, 18, 23, 24, 76, 77, 78, 79, 80, 81, 82, 83, 84, 85, 86] (by decide +kernel) (by decide +kernel)
set_option maxRecDepth 20000 in
theorem gX7_begin_X4_plant : GoodIn wsX7_begin (wsV RX7 78 RX4 yX4_plant wsX4_plant) := goodIn_app (goodIn_of _ (by decide +kernel)) ggX7_begin_X4_plant
theorem dX7_begin_0 : decode cX7_begin 0 = .ok (.iload_n 1, 1) := by decide +kernel
theorem dX7_begin_1 : decode cX7_begin 1 = .ok (.ifCond .lt 8, 3) := by decide +kernel
theorem dX7_begin_4 : decode cX7_begin 4 = .ok (.iload_n 1, 1) := by decide +kernel
theorem dX7_begin_5 : decode cX7_begin 5 = .ok (.iconst 2, 1) := by decide +kernel
theorem dX7_begin_6 : decode cX7_begin 6 = .ok (.if_icmp .le 5, 3) := by decide +kernel
theorem dX7_begin_9 : decode cX7_begin 9 = .ok (.iconst (-1), 1) := by decide +kernel
theorem dX7_begin_10 : decode cX7_begin 10 = .ok (.ireturn, 1) := by decide +kernel
theorem dX7_begin_11 : decode cX7_begin 11 = .ok (.aload_n 0, 1) := by decide +kernel
theorem dX7_begin_12 : decode cX7_begin 12 = .ok (.invokevirtual 82, 3) := by decide +kernel
theorem dX7_begin_15 : decode cX7_begin 15 = .ok (.aload_n 0, 1) := by decide +kernel
theorem dX7_begin_16 : decode cX7_begin 16 = .ok (.getfield 12, 3) := by decide +kernel
theorem dX7_begin_19 : decode cX7_begin 19 = .ok (.iload_n 1, 1) := by decide +kernel
theorem dX7_begin_20 : decode cX7_begin 20 = .ok (.invokevirtual 78, 3) := by decide +kernel
theorem dX7_begin_23 : decode cX7_begin 23 = .ok (.ireturn, 1) := by decide +kernel
set_option maxRecDepth 20000 in
theorem ggX7_lot_X7_record : GoodIn wsX7_lot wsX7_record := goodIn_r _ [6, 7, 8, 1, 9, 10, 11, 5, 12, 13, 14, 15, 16, 17, 18, 19, 20, 21, 22, 23, 24, 25, 26, 27, 28, 29, 30, 31, 32, 33, 34, 35, 36, 37, 38, 39, 40, 41, 42, 43, 44, 45, 46, 47, 48, 49, 50, 51, 52, 53, 54, 55, 56, 57] (by decide +kernel) (by decide +kernel)
set_option maxRecDepth 20000 in
theorem gX7_lot_X7_record : GoodIn wsX7_lot (wsV RX7 82 RX7 yX7_record wsX7_record) := goodIn_app (goodIn_of _ (by decide +kernel)) ggX7_lot_X7_record
theorem dX7_lot_0 : decode cX7_lot 0 = .ok (.iload_n 1, 1) := by decide +kernel
theorem dX7_lot_1 : decode cX7_lot 1 = .ok (.ifCond .lt 10, 3) := by decide +kernel
theorem dX7_lot_4 : decode cX7_lot 4 = .ok (.iload_n 1, 1) := by decide +kernel
theorem dX7_lot_5 : decode cX7_lot 5 = .ok (.sipush 10000, 3) := by decide +kernel
theorem dX7_lot_8 : decode cX7_lot 8 = .ok (.if_icmp .lt 5, 3) := by decide +kernel
theorem dX7_lot_11 : decode cX7_lot 11 = .ok (.iconst (-1), 1) := by decide +kernel
theorem dX7_lot_12 : decode cX7_lot 12 = .ok (.ireturn, 1) := by decide +kernel
theorem dX7_lot_13 : decode cX7_lot 13 = .ok (.aload_n 0, 1) := by decide +kernel
theorem dX7_lot_14 : decode cX7_lot 14 = .ok (.invokevirtual 82, 3) := by decide +kernel
theorem dX7_lot_17 : decode cX7_lot 17 = .ok (.aload_n 0, 1) := by decide +kernel
theorem dX7_lot_18 : decode cX7_lot 18 = .ok (.getfield 12, 3) := by decide +kernel
theorem dX7_lot_21 : decode cX7_lot 21 = .ok (.getfield 85, 3) := by decide +kernel
theorem dX7_lot_24 : decode cX7_lot 24 = .ok (.istore_n 2, 1) := by decide +kernel
theorem dX7_lot_25 : decode cX7_lot 25 = .ok (.aload_n 0, 1) := by decide +kernel
theorem dX7_lot_26 : decode cX7_lot 26 = .ok (.getfield 12, 3) := by decide +kernel
theorem dX7_lot_29 : decode cX7_lot 29 = .ok (.iload_n 1, 1) := by decide +kernel
theorem dX7_lot_30 : decode cX7_lot 30 = .ok (.putfield 85, 3) := by decide +kernel
theorem dX7_lot_33 : decode cX7_lot 33 = .ok (.iload_n 2, 1) := by decide +kernel
theorem dX7_lot_34 : decode cX7_lot 34 = .ok (.ireturn, 1) := by decide +kernel
set_option maxRecDepth 20000 in
theorem ggX7_go_X4_refusalToGo : GoodIn wsX7_go wsX4_refusalToGo := goodIn_r _ [6, 7, 8, 9, 10, 11, 12, 13, 14, 15, 16, 5, 17, 18, 129, 130, 131, 132, 133, 134, 135, 136, 137, 138, 139] (by decide +kernel) (by decide +kernel)
set_option maxRecDepth 20000 in
theorem gX7_go_X4_refusalToGo : GoodIn wsX7_go (wsV RX7 88 RX4 yX4_refusalToGo wsX4_refusalToGo) := goodIn_app (goodIn_of _ (by decide +kernel)) ggX7_go_X4_refusalToGo
set_option maxRecDepth 20000 in
theorem ggX7_go_X7_record : GoodIn wsX7_go wsX7_record := goodIn_r _ [23, 24, 25, 1, 26, 27, 28, 22, 29, 30, 31, 32, 5, 33, 34, 35, 36, 37, 38, 39, 40, 18, 41, 42, 43, 44, 45, 46, 47, 115, 116, 117, 118, 119, 120, 121, 122, 123, 124, 125, 126, 127, 128, 129, 130, 131, 132, 133, 134, 135, 136, 137, 138, 139] (by decide +kernel) (by decide +kernel)
set_option maxRecDepth 20000 in
theorem gX7_go_X7_record : GoodIn wsX7_go (wsV RX7 82 RX7 yX7_record wsX7_record) := goodIn_app (goodIn_of _ (by decide +kernel)) ggX7_go_X7_record
set_option maxRecDepth 20000 in
theorem ggX7_go_X7_letWalk : GoodIn wsX7_go wsX7_letWalk := goodIn_r _ [51, 52, 1, 53, 12, 9, 13, 54, 55, 56, 57, 58, 59, 60, 61, 62, 63, 64, 65, 66, 5, 67, 41, 68, 69, 70, 71, 72, 73, 74, 75, 76, 77, 78, 14, 15, 16, 17, 18, 79, 80, 81, 82, 83, 22, 84, 85, 86, 87, 88, 89, 90, 91, 92, 93, 94, 43, 44, 47, 45, 95, 96, 97, 98, 99, 100, 101, 102, 42, 34, 39, 40, 103, 104, 105, 106, 107, 108, 109, 110, 111, 112, 113, 114, 115, 116, 117, 118, 119, 120, 121, 122, 123, 124, 125, 126, 127, 128, 140, 141, 142, 143, 144, 129, 130, 131, 132, 133, 134, 135, 136, 137, 138, 139] (by decide +kernel) (by decide +kernel)
set_option maxRecDepth 20000 in
theorem gX7_go_X7_letWalk : GoodIn wsX7_go (wsV RX7 91 RX7 yX7_letWalk wsX7_letWalk) := goodIn_app (goodIn_of _ (by decide +kernel)) ggX7_go_X7_letWalk
theorem dX7_go_0 : decode cX7_go 0 = .ok (.aload_n 0, 1) := by decide +kernel
theorem dX7_go_1 : decode cX7_go 1 = .ok (.getfield 12, 3) := by decide +kernel
theorem dX7_go_4 : decode cX7_go 4 = .ok (.iload_n 1, 1) := by decide +kernel
theorem dX7_go_5 : decode cX7_go 5 = .ok (.invokevirtual 88, 3) := by decide +kernel
theorem dX7_go_8 : decode cX7_go 8 = .ok (.istore_n 2, 1) := by decide +kernel
theorem dX7_go_9 : decode cX7_go 9 = .ok (.iload_n 2, 1) := by decide +kernel
theorem dX7_go_10 : decode cX7_go 10 = .ok (.ifCond .eq 5, 3) := by decide +kernel
theorem dX7_go_13 : decode cX7_go 13 = .ok (.iload_n 2, 1) := by decide +kernel
theorem dX7_go_14 : decode cX7_go 14 = .ok (.ireturn, 1) := by decide +kernel
theorem dX7_go_15 : decode cX7_go 15 = .ok (.aload_n 0, 1) := by decide +kernel
theorem dX7_go_16 : decode cX7_go 16 = .ok (.invokevirtual 82, 3) := by decide +kernel
theorem dX7_go_19 : decode cX7_go 19 = .ok (.aload_n 0, 1) := by decide +kernel
theorem dX7_go_20 : decode cX7_go 20 = .ok (.iload_n 1, 1) := by decide +kernel
theorem dX7_go_21 : decode cX7_go 21 = .ok (.invokevirtual 91, 3) := by decide +kernel
theorem dX7_go_24 : decode cX7_go 24 = .ok (.ireturn, 1) := by decide +kernel
set_option maxRecDepth 20000 in
theorem ggX7_rain_X7_record : GoodIn wsX7_rain wsX7_record := goodIn_r _ [5, 6, 7, 8, 9, 10, 11, 4, 12, 13, 14, 15, 16, 17, 18, 19, 20, 21, 22, 23, 24, 25, 26, 27, 28, 29, 30, 31, 32, 125, 126, 127, 128, 129, 130, 131, 132, 133, 134, 135, 136, 137, 138, 139, 140, 141, 142, 143, 144, 145, 146, 147, 148, 149] (by decide +kernel) (by decide +kernel)
set_option maxRecDepth 20000 in
theorem gX7_rain_X7_record : GoodIn wsX7_rain (wsV RX7 82 RX7 yX7_record wsX7_record) := goodIn_app (goodIn_of _ (by decide +kernel)) ggX7_rain_X7_record
set_option maxRecDepth 20000 in
theorem ggX7_rain_X7_dropSticks : GoodIn wsX7_rain wsX7_dropSticks := goodIn_r _ [36, 8, 37, 38, 39, 4, 40, 41, 42, 43, 16, 44, 45, 46, 47, 48, 49, 50, 51, 52, 53, 54, 55, 25, 56, 57, 58, 59, 29, 30, 60, 61, 62, 63, 64, 65, 66, 67, 68, 69, 70, 71, 72, 73, 74, 75, 76, 77, 78, 26, 79, 80, 81, 82, 83, 84, 85, 86, 87, 88, 89, 90, 91, 92, 93, 94, 95, 96, 97, 98, 99, 100, 101, 102, 103, 28, 32, 104, 105, 106, 107, 108, 109, 110, 111, 27, 18, 23, 24, 112, 113, 114, 115, 116, 117, 118, 119, 120, 121, 122, 123, 124, 125, 126, 127, 128, 129, 130, 131, 132, 133, 134, 135, 136, 137, 138, 139, 140, 141, 142, 143, 144, 145, 146, 147, 148, 149, 150, 151, 152, 153, 154] (by decide +kernel) (by decide +kernel)
set_option maxRecDepth 20000 in
theorem gX7_rain_X7_dropSticks : GoodIn wsX7_rain (wsV RX7 94 RX7 yX7_dropSticks wsX7_dropSticks) := goodIn_app (goodIn_of _ (by decide +kernel)) ggX7_rain_X7_dropSticks
theorem dX7_rain_0 : decode cX7_rain 0 = .ok (.iload_n 1, 1) := by decide +kernel
theorem dX7_rain_1 : decode cX7_rain 1 = .ok (.iconst 1, 1) := by decide +kernel
theorem dX7_rain_2 : decode cX7_rain 2 = .ok (.if_icmp .lt 9, 3) := by decide +kernel
theorem dX7_rain_5 : decode cX7_rain 5 = .ok (.iload_n 1, 1) := by decide +kernel
theorem dX7_rain_6 : decode cX7_rain 6 = .ok (.bipush 20, 2) := by decide +kernel
theorem dX7_rain_8 : decode cX7_rain 8 = .ok (.if_icmp .le 5, 3) := by decide +kernel
theorem dX7_rain_11 : decode cX7_rain 11 = .ok (.iconst (-1), 1) := by decide +kernel
theorem dX7_rain_12 : decode cX7_rain 12 = .ok (.ireturn, 1) := by decide +kernel
theorem dX7_rain_13 : decode cX7_rain 13 = .ok (.aload_n 0, 1) := by decide +kernel
theorem dX7_rain_14 : decode cX7_rain 14 = .ok (.invokevirtual 82, 3) := by decide +kernel
theorem dX7_rain_17 : decode cX7_rain 17 = .ok (.iconst 0, 1) := by decide +kernel
theorem dX7_rain_18 : decode cX7_rain 18 = .ok (.istore_n 2, 1) := by decide +kernel
theorem dX7_rain_19 : decode cX7_rain 19 = .ok (.iconst 0, 1) := by decide +kernel
theorem dX7_rain_20 : decode cX7_rain 20 = .ok (.istore_n 3, 1) := by decide +kernel
theorem dX7_rain_21 : decode cX7_rain 21 = .ok (.iload_n 3, 1) := by decide +kernel
theorem dX7_rain_22 : decode cX7_rain 22 = .ok (.iload_n 1, 1) := by decide +kernel
theorem dX7_rain_23 : decode cX7_rain 23 = .ok (.if_icmp .ge 19, 3) := by decide +kernel
theorem dX7_rain_26 : decode cX7_rain 26 = .ok (.aload_n 0, 1) := by decide +kernel
theorem dX7_rain_27 : decode cX7_rain 27 = .ok (.invokevirtual 94, 3) := by decide +kernel
theorem dX7_rain_30 : decode cX7_rain 30 = .ok (.ifCond .eq 6, 3) := by decide +kernel
theorem dX7_rain_33 : decode cX7_rain 33 = .ok (.iinc 2 1, 3) := by decide +kernel
theorem dX7_rain_36 : decode cX7_rain 36 = .ok (.iinc 3 1, 3) := by decide +kernel
theorem dX7_rain_39 : decode cX7_rain 39 = .ok (.goto (-18), 3) := by decide +kernel
theorem dX7_rain_42 : decode cX7_rain 42 = .ok (.iload_n 2, 1) := by decide +kernel
theorem dX7_rain_43 : decode cX7_rain 43 = .ok (.ireturn, 1) := by decide +kernel
set_option maxRecDepth 20000 in
theorem ggX7_breakOff_X4_refusalToBreak : GoodIn wsX7_breakOff wsX4_refusalToBreak := goodIn_r _ [7, 8, 9, 10, 6, 11, 12, 13, 14, 15, 16, 17, 81, 82, 83, 84, 85, 86, 87, 88, 89, 90, 91] (by decide +kernel) (by decide +kernel)
set_option maxRecDepth 20000 in
theorem gX7_breakOff_X4_refusalToBreak : GoodIn wsX7_breakOff (wsV RX7 98 RX4 yX4_refusalToBreak wsX4_refusalToBreak) := goodIn_app (goodIn_of _ (by decide +kernel)) ggX7_breakOff_X4_refusalToBreak
set_option maxRecDepth 20000 in
theorem ggX7_breakOff_X7_record : GoodIn wsX7_breakOff wsX7_record := goodIn_r _ [22, 23, 24, 1, 25, 26, 27, 21, 28, 29, 30, 31, 6, 32, 33, 34, 35, 36, 37, 17, 38, 39, 40, 12, 41, 42, 43, 44, 45, 67, 68, 69, 70, 71, 72, 73, 74, 75, 76, 77, 78, 79, 80, 81, 82, 83, 84, 85, 86, 87, 88, 89, 90, 91] (by decide +kernel) (by decide +kernel)
set_option maxRecDepth 20000 in
theorem gX7_breakOff_X7_record : GoodIn wsX7_breakOff (wsV RX7 82 RX7 yX7_record wsX7_record) := goodIn_app (goodIn_of _ (by decide +kernel)) ggX7_breakOff_X7_record
set_option maxRecDepth 20000 in
theorem ggX7_breakOff_X0_dropTree : GoodIn wsX7_breakOff wsX0_dropTree := goodIn_r _ [50, 51, 52, 53, 14, 15, 6, 16, 17, 8, 9, 10, 11, 12, 54, 55, 56, 57, 58, 33, 38, 44, 59, 60, 61, 62, 39, 63, 64, 65, 66, 81, 82, 83, 84, 85, 86, 87, 88, 89, 90, 91, 92, 93] (by decide +kernel) (by decide +kernel)
set_option maxRecDepth 20000 in
theorem gX7_breakOff_X0_dropTree : GoodIn wsX7_breakOff (wsV RX7 101 RX0 yX0_dropTree wsX0_dropTree) := goodIn_app (goodIn_of _ (by decide +kernel)) ggX7_breakOff_X0_dropTree
theorem dX7_breakOff_0 : decode cX7_breakOff 0 = .ok (.aload_n 0, 1) := by decide +kernel
theorem dX7_breakOff_1 : decode cX7_breakOff 1 = .ok (.getfield 12, 3) := by decide +kernel
theorem dX7_breakOff_4 : decode cX7_breakOff 4 = .ok (.iload_n 1, 1) := by decide +kernel
theorem dX7_breakOff_5 : decode cX7_breakOff 5 = .ok (.invokevirtual 98, 3) := by decide +kernel
theorem dX7_breakOff_8 : decode cX7_breakOff 8 = .ok (.istore_n 2, 1) := by decide +kernel
theorem dX7_breakOff_9 : decode cX7_breakOff 9 = .ok (.iload_n 2, 1) := by decide +kernel
theorem dX7_breakOff_10 : decode cX7_breakOff 10 = .ok (.ifCond .eq 5, 3) := by decide +kernel
theorem dX7_breakOff_13 : decode cX7_breakOff 13 = .ok (.iload_n 2, 1) := by decide +kernel
theorem dX7_breakOff_14 : decode cX7_breakOff 14 = .ok (.ireturn, 1) := by decide +kernel
theorem dX7_breakOff_15 : decode cX7_breakOff 15 = .ok (.aload_n 0, 1) := by decide +kernel
theorem dX7_breakOff_16 : decode cX7_breakOff 16 = .ok (.invokevirtual 82, 3) := by decide +kernel
theorem dX7_breakOff_19 : decode cX7_breakOff 19 = .ok (.aload_n 0, 1) := by decide +kernel
theorem dX7_breakOff_20 : decode cX7_breakOff 20 = .ok (.getfield 36, 3) := by decide +kernel
theorem dX7_breakOff_23 : decode cX7_breakOff 23 = .ok (.aload_n 0, 1) := by decide +kernel
theorem dX7_breakOff_24 : decode cX7_breakOff 24 = .ok (.getfield 12, 3) := by decide +kernel
theorem dX7_breakOff_27 : decode cX7_breakOff 27 = .ok (.iload_n 1, 1) := by decide +kernel
theorem dX7_breakOff_28 : decode cX7_breakOff 28 = .ok (.invokevirtual 101, 3) := by decide +kernel
theorem dX7_breakOff_31 : decode cX7_breakOff 31 = .ok (.ireturn, 1) := by decide +kernel
set_option maxRecDepth 20000 in
theorem ggX7_wash_X7_record : GoodIn wsX7_wash wsX7_record := goodIn_r _ [7, 8, 9, 2, 10, 11, 12, 6, 13, 14, 15, 16, 17, 18, 19, 20, 21, 22, 23, 24, 25, 26, 27, 28, 29, 30, 31, 32, 33, 62, 63, 64, 65, 66, 67, 68, 69, 70, 71, 72, 73, 74, 75, 76, 77, 78, 79, 80, 81, 82, 83, 84, 85, 86] (by decide +kernel) (by decide +kernel)
set_option maxRecDepth 20000 in
theorem gX7_wash_X7_record : GoodIn wsX7_wash (wsV RX7 82 RX7 yX7_record wsX7_record) := goodIn_app (goodIn_of _ (by decide +kernel)) ggX7_wash_X7_record
set_option maxRecDepth 20000 in
theorem ggX7_wash_X0_dropTips : GoodIn wsX7_wash wsX0_dropTips := goodIn_r _ [38, 39, 40, 41, 42, 43, 17, 44, 24, 45, 46, 47, 48, 28, 49, 50, 51, 52, 53, 19, 25, 32, 54, 55, 56, 57, 26, 58, 59, 60, 61, 76, 77, 78, 79, 80, 81, 82, 83, 84, 85, 86, 87, 88] (by decide +kernel) (by decide +kernel)
set_option maxRecDepth 20000 in
theorem gX7_wash_X0_dropTips : GoodIn wsX7_wash (wsV RX7 105 RX0 yX0_dropTips wsX0_dropTips) := goodIn_app (goodIn_of _ (by decide +kernel)) ggX7_wash_X0_dropTips
theorem dX7_wash_0 : decode cX7_wash 0 = .ok (.aload_n 0, 1) := by decide +kernel
theorem dX7_wash_1 : decode cX7_wash 1 = .ok (.invokevirtual 82, 3) := by decide +kernel
theorem dX7_wash_4 : decode cX7_wash 4 = .ok (.aload_n 0, 1) := by decide +kernel
theorem dX7_wash_5 : decode cX7_wash 5 = .ok (.getfield 36, 3) := by decide +kernel
theorem dX7_wash_8 : decode cX7_wash 8 = .ok (.aload_n 0, 1) := by decide +kernel
theorem dX7_wash_9 : decode cX7_wash 9 = .ok (.getfield 12, 3) := by decide +kernel
theorem dX7_wash_12 : decode cX7_wash 12 = .ok (.invokevirtual 105, 3) := by decide +kernel
theorem dX7_wash_15 : decode cX7_wash 15 = .ok (.ireturn, 1) := by decide +kernel
set_option maxRecDepth 20000 in
theorem ggX7_set_X7_isSettingValue : GoodIn wsX7_set wsX7_isSettingValue := goodIn_r _ [5] (by decide +kernel) (by decide +kernel)
set_option maxRecDepth 20000 in
theorem gX7_set_X7_isSettingValue : GoodIn wsX7_set (va_wsS RX7 109 yX7_isSettingValue wsX7_isSettingValue) := goodIn_app (goodIn_of _ (by decide +kernel)) ggX7_set_X7_isSettingValue
set_option maxRecDepth 20000 in
theorem ggX7_set_X7_record : GoodIn wsX7_set wsX7_record := goodIn_r _ [9, 10, 11, 1, 12, 13, 14, 4, 15, 16, 17, 18, 19, 20, 21, 22, 23, 24, 25, 26, 27, 28, 29, 30, 31, 32, 33, 34, 35, 44, 45, 46, 47, 48, 49, 50, 51, 52, 53, 54, 55, 56, 57, 58, 59, 60, 61, 62, 63, 64, 65, 66, 67, 68] (by decide +kernel) (by decide +kernel)
set_option maxRecDepth 20000 in
theorem gX7_set_X7_record : GoodIn wsX7_set (wsV RX7 82 RX7 yX7_record wsX7_record) := goodIn_app (goodIn_of _ (by decide +kernel)) ggX7_set_X7_record
set_option maxRecDepth 20000 in
theorem ggX7_set_X4_change : GoodIn wsX7_set wsX4_change := goodIn_r _ [39, 29, 40, 41, 42, 19, 43, 58, 59, 60, 61, 62, 63, 64, 65, 66, 67, 68] (by decide +kernel) (by decide +kernel)
set_option maxRecDepth 20000 in
theorem gX7_set_X4_change : GoodIn wsX7_set (wsV RX7 113 RX4 yX4_change wsX4_change) := goodIn_app (goodIn_of _ (by decide +kernel)) ggX7_set_X4_change
theorem dX7_set_0 : decode cX7_set 0 = .ok (.iload_n 1, 1) := by decide +kernel
theorem dX7_set_1 : decode cX7_set 1 = .ok (.iload_n 2, 1) := by decide +kernel
theorem dX7_set_2 : decode cX7_set 2 = .ok (.invokestatic 109, 3) := by decide +kernel
theorem dX7_set_5 : decode cX7_set 5 = .ok (.ifCond .ne 5, 3) := by decide +kernel
theorem dX7_set_8 : decode cX7_set 8 = .ok (.iconst (-1), 1) := by decide +kernel
theorem dX7_set_9 : decode cX7_set 9 = .ok (.ireturn, 1) := by decide +kernel
theorem dX7_set_10 : decode cX7_set 10 = .ok (.aload_n 0, 1) := by decide +kernel
theorem dX7_set_11 : decode cX7_set 11 = .ok (.invokevirtual 82, 3) := by decide +kernel
theorem dX7_set_14 : decode cX7_set 14 = .ok (.aload_n 0, 1) := by decide +kernel
theorem dX7_set_15 : decode cX7_set 15 = .ok (.getfield 12, 3) := by decide +kernel
theorem dX7_set_18 : decode cX7_set 18 = .ok (.iload_n 1, 1) := by decide +kernel
theorem dX7_set_19 : decode cX7_set 19 = .ok (.iload_n 2, 1) := by decide +kernel
theorem dX7_set_20 : decode cX7_set 20 = .ok (.invokevirtual 113, 3) := by decide +kernel
theorem dX7_set_23 : decode cX7_set 23 = .ok (.ireturn, 1) := by decide +kernel
set_option maxRecDepth 20000 in
theorem ggX7_append_X1_write : GoodIn wsX7_append wsX1_write := goodIn_r _ [6, 7, 8, 23, 24, 25, 26, 27, 28] (by decide +kernel) (by decide +kernel)
set_option maxRecDepth 20000 in
theorem gX7_append_X1_write : GoodIn wsX7_append (wsV RX7 120 RX1 yX1_write wsX1_write) := goodIn_app (goodIn_of _ (by decide +kernel)) ggX7_append_X1_write
theorem dX7_append_0 : decode cX7_append 0 = .ok (.iload_n 1, 1) := by decide +kernel
theorem dX7_append_1 : decode cX7_append 1 = .ok (.bipush 33, 2) := by decide +kernel
theorem dX7_append_3 : decode cX7_append 3 = .ok (.if_icmp .lt 9, 3) := by decide +kernel
theorem dX7_append_6 : decode cX7_append 6 = .ok (.iload_n 1, 1) := by decide +kernel
theorem dX7_append_7 : decode cX7_append 7 = .ok (.bipush 126, 2) := by decide +kernel
theorem dX7_append_9 : decode cX7_append 9 = .ok (.if_icmp .le 5, 3) := by decide +kernel
theorem dX7_append_12 : decode cX7_append 12 = .ok (.iconst (-1), 1) := by decide +kernel
theorem dX7_append_13 : decode cX7_append 13 = .ok (.ireturn, 1) := by decide +kernel
theorem dX7_append_14 : decode cX7_append 14 = .ok (.aload_n 0, 1) := by decide +kernel
theorem dX7_append_15 : decode cX7_append 15 = .ok (.getfield 57, 3) := by decide +kernel
theorem dX7_append_18 : decode cX7_append 18 = .ok (.getfield 117, 3) := by decide +kernel
theorem dX7_append_21 : decode cX7_append 21 = .ok (.bipush 60, 2) := by decide +kernel
theorem dX7_append_23 : decode cX7_append 23 = .ok (.if_icmp .lt 6, 3) := by decide +kernel
theorem dX7_append_26 : decode cX7_append 26 = .ok (.bipush (-3), 2) := by decide +kernel
theorem dX7_append_28 : decode cX7_append 28 = .ok (.ireturn, 1) := by decide +kernel
theorem dX7_append_29 : decode cX7_append 29 = .ok (.aload_n 0, 1) := by decide +kernel
theorem dX7_append_30 : decode cX7_append 30 = .ok (.getfield 57, 3) := by decide +kernel
theorem dX7_append_33 : decode cX7_append 33 = .ok (.iload_n 1, 1) := by decide +kernel
theorem dX7_append_34 : decode cX7_append 34 = .ok (.i2c, 1) := by decide +kernel
theorem dX7_append_35 : decode cX7_append 35 = .ok (.invokevirtual 120, 3) := by decide +kernel
theorem dX7_append_38 : decode cX7_append 38 = .ok (.aload_n 0, 1) := by decide +kernel
theorem dX7_append_39 : decode cX7_append 39 = .ok (.getfield 57, 3) := by decide +kernel
theorem dX7_append_42 : decode cX7_append 42 = .ok (.getfield 117, 3) := by decide +kernel
theorem dX7_append_45 : decode cX7_append 45 = .ok (.ireturn, 1) := by decide +kernel
set_option maxRecDepth 20000 in
theorem ggX7_clear_X1_wipe : GoodIn wsX7_clear wsX1_wipe := goodIn_r _ [6, 7, 22, 23, 24, 25, 26, 27] (by decide +kernel) (by decide +kernel)
set_option maxRecDepth 20000 in
theorem gX7_clear_X1_wipe : GoodIn wsX7_clear (wsV RX7 124 RX1 yX1_wipe wsX1_wipe) := goodIn_app (goodIn_of _ (by decide +kernel)) ggX7_clear_X1_wipe
theorem dX7_clear_0 : decode cX7_clear 0 = .ok (.aload_n 0, 1) := by decide +kernel
theorem dX7_clear_1 : decode cX7_clear 1 = .ok (.getfield 57, 3) := by decide +kernel
theorem dX7_clear_4 : decode cX7_clear 4 = .ok (.getfield 117, 3) := by decide +kernel
theorem dX7_clear_7 : decode cX7_clear 7 = .ok (.istore_n 1, 1) := by decide +kernel
theorem dX7_clear_8 : decode cX7_clear 8 = .ok (.aload_n 0, 1) := by decide +kernel
theorem dX7_clear_9 : decode cX7_clear 9 = .ok (.getfield 57, 3) := by decide +kernel
theorem dX7_clear_12 : decode cX7_clear 12 = .ok (.invokevirtual 124, 3) := by decide +kernel
theorem dX7_clear_15 : decode cX7_clear 15 = .ok (.iload_n 1, 1) := by decide +kernel
theorem dX7_clear_16 : decode cX7_clear 16 = .ok (.ireturn, 1) := by decide +kernel
set_option maxRecDepth 20000 in
theorem ggX7_fault_X1_firstWrong : GoodIn wsX7_fault wsX1_firstWrong := goodIn_r _ [6, 7, 8, 9, 10, 5, 11, 12, 13, 14, 15, 16, 17, 32, 33, 34, 35, 36, 37] (by decide +kernel) (by decide +kernel)
set_option maxRecDepth 20000 in
theorem gX7_fault_X1_firstWrong : GoodIn wsX7_fault (wsV RX7 127 RX1 yX1_firstWrong wsX1_firstWrong) := goodIn_app (goodIn_of _ (by decide +kernel)) ggX7_fault_X1_firstWrong
theorem dX7_fault_0 : decode cX7_fault 0 = .ok (.aload_n 0, 1) := by decide +kernel
theorem dX7_fault_1 : decode cX7_fault 1 = .ok (.getfield 57, 3) := by decide +kernel
theorem dX7_fault_4 : decode cX7_fault 4 = .ok (.invokevirtual 127, 3) := by decide +kernel
theorem dX7_fault_7 : decode cX7_fault 7 = .ok (.ireturn, 1) := by decide +kernel
set_option maxRecDepth 20000 in
theorem ggX7_carryOut_X1_firstWrong : GoodIn wsX7_carryOut wsX1_firstWrong := goodIn_r _ [9, 10, 11, 12, 13, 8, 14, 15, 16, 17, 18, 19, 20, 199, 200, 201, 202, 203, 204] (by decide +kernel) (by decide +kernel)
set_option maxRecDepth 20000 in
theorem gX7_carryOut_X1_firstWrong : GoodIn wsX7_carryOut (wsV RX7 127 RX1 yX1_firstWrong wsX1_firstWrong) := goodIn_app (goodIn_of _ (by decide +kernel)) ggX7_carryOut_X1_firstWrong
set_option maxRecDepth 20000 in
theorem ggX7_carryOut_X7_record : GoodIn wsX7_carryOut wsX7_record := goodIn_r _ [25, 26, 27, 28, 29, 30, 31, 24, 32, 33, 34, 35, 36, 37, 38, 39, 40, 41, 42, 43, 44, 45, 46, 47, 48, 49, 50, 51, 52, 185, 186, 187, 188, 189, 190, 191, 192, 193, 194, 195, 196, 197, 198, 205, 206, 207, 208, 209, 210, 211, 212, 213, 214, 215] (by decide +kernel) (by decide +kernel)
set_option maxRecDepth 20000 in
theorem gX7_carryOut_X7_record : GoodIn wsX7_carryOut (wsV RX7 82 RX7 yX7_record wsX7_record) := goodIn_app (goodIn_of _ (by decide +kernel)) ggX7_carryOut_X7_record
set_option maxRecDepth 20000 in
theorem ggX7_carryOut_X1_startReading : GoodIn wsX7_carryOut wsX1_startReading := goodIn_r _ [56, 57, 199, 200, 201, 202, 203, 204] (by decide +kernel) (by decide +kernel)
set_option maxRecDepth 20000 in
theorem gX7_carryOut_X1_startReading : GoodIn wsX7_carryOut (wsV RX7 131 RX1 yX1_startReading wsX1_startReading) := goodIn_app (goodIn_of _ (by decide +kernel)) ggX7_carryOut_X1_startReading
set_option maxRecDepth 20000 in
theorem ggX7_carryOut_X1_readDeed : GoodIn wsX7_carryOut wsX1_readDeed := goodIn_r _ [61, 57, 10, 62, 11, 63, 64, 199, 200, 201, 202, 203, 204] (by decide +kernel) (by decide +kernel)
set_option maxRecDepth 20000 in
theorem gX7_carryOut_X1_readDeed : GoodIn wsX7_carryOut (wsV RX7 134 RX1 yX1_readDeed wsX1_readDeed) := goodIn_app (goodIn_of _ (by decide +kernel)) ggX7_carryOut_X1_readDeed
set_option maxRecDepth 20000 in
theorem ggX7_carryOut_X7_answerOfDeed : GoodIn wsX7_carryOut wsX7_answerOfDeed := goodIn_r _ [68, 69, 28, 70, 71, 72, 73, 74, 75, 76, 77, 78, 79, 36, 80, 43, 81, 82, 83, 84, 47, 85, 86, 87, 88, 89, 38, 44, 51, 90, 91, 92, 93, 45, 94, 95, 96, 97, 98, 99, 100, 101, 102, 103, 104, 105, 106, 107, 108, 109, 110, 111, 112, 113, 114, 115, 116, 117, 118, 119, 24, 120, 121, 122, 123, 124, 125, 126, 127, 128, 129, 130, 131, 132, 133, 134, 135, 136, 46, 137, 138, 139, 140, 141, 142, 143, 144, 145, 146, 147, 148, 149, 150, 151, 152, 153, 154, 155, 156, 157, 158, 159, 160, 161, 162, 163, 48, 49, 52, 50, 164, 165, 166, 167, 168, 169, 170, 171, 172, 173, 174, 175, 176, 177, 178, 179, 180, 185, 186, 187, 188, 189, 190, 191, 192, 193, 194, 195, 196, 197, 198, 205, 206, 207, 208, 209, 210, 211, 212, 213, 214, 215, 216, 217, 218, 219, 220, 221, 222] (by decide +kernel) (by decide +kernel)
set_option maxRecDepth 20000 in
theorem gX7_carryOut_X7_answerOfDeed : GoodIn wsX7_carryOut (wsV RX7 144 RX7 yX7_answerOfDeed wsX7_answerOfDeed) := goodIn_app (goodIn_of _ (by decide +kernel)) ggX7_carryOut_X7_answerOfDeed
set_option maxRecDepth 20000 in
theorem ggX7_carryOut_X1_wipe : GoodIn wsX7_carryOut wsX1_wipe := goodIn_r _ [184, 10, 199, 200, 201, 202, 203, 204] (by decide +kernel) (by decide +kernel)
set_option maxRecDepth 20000 in
theorem gX7_carryOut_X1_wipe : GoodIn wsX7_carryOut (wsV RX7 124 RX1 yX1_wipe wsX1_wipe) := goodIn_app (goodIn_of _ (by decide +kernel)) ggX7_carryOut_X1_wipe
theorem dX7_carryOut_0 : decode cX7_carryOut 0 = .ok (.aload_n 0, 1) := by decide +kernel
theorem dX7_carryOut_1 : decode cX7_carryOut 1 = .ok (.getfield 57, 3) := by decide +kernel
theorem dX7_carryOut_4 : decode cX7_carryOut 4 = .ok (.invokevirtual 127, 3) := by decide +kernel
theorem dX7_carryOut_7 : decode cX7_carryOut 7 = .ok (.bipush (-4), 2) := by decide +kernel
theorem dX7_carryOut_9 : decode cX7_carryOut 9 = .ok (.if_icmp .eq 6, 3) := by decide +kernel
theorem dX7_carryOut_12 : decode cX7_carryOut 12 = .ok (.bipush (-2), 2) := by decide +kernel
theorem dX7_carryOut_14 : decode cX7_carryOut 14 = .ok (.ireturn, 1) := by decide +kernel
theorem dX7_carryOut_15 : decode cX7_carryOut 15 = .ok (.aload_n 0, 1) := by decide +kernel
theorem dX7_carryOut_16 : decode cX7_carryOut 16 = .ok (.invokevirtual 82, 3) := by decide +kernel
theorem dX7_carryOut_19 : decode cX7_carryOut 19 = .ok (.aload_n 0, 1) := by decide +kernel
theorem dX7_carryOut_20 : decode cX7_carryOut 20 = .ok (.iconst 0, 1) := by decide +kernel
theorem dX7_carryOut_21 : decode cX7_carryOut 21 = .ok (.putfield 69, 3) := by decide +kernel
theorem dX7_carryOut_24 : decode cX7_carryOut 24 = .ok (.iconst 0, 1) := by decide +kernel
theorem dX7_carryOut_25 : decode cX7_carryOut 25 = .ok (.istore_n 1, 1) := by decide +kernel
theorem dX7_carryOut_26 : decode cX7_carryOut 26 = .ok (.aload_n 0, 1) := by decide +kernel
theorem dX7_carryOut_27 : decode cX7_carryOut 27 = .ok (.getfield 57, 3) := by decide +kernel
theorem dX7_carryOut_30 : decode cX7_carryOut 30 = .ok (.invokevirtual 131, 3) := by decide +kernel
theorem dX7_carryOut_33 : decode cX7_carryOut 33 = .ok (.iload_n 1, 1) := by decide +kernel
theorem dX7_carryOut_34 : decode cX7_carryOut 34 = .ok (.bipush 60, 2) := by decide +kernel
theorem dX7_carryOut_36 : decode cX7_carryOut 36 = .ok (.if_icmp .ge 73, 3) := by decide +kernel
theorem dX7_carryOut_39 : decode cX7_carryOut 39 = .ok (.aload_n 0, 1) := by decide +kernel
theorem dX7_carryOut_40 : decode cX7_carryOut 40 = .ok (.getfield 69, 3) := by decide +kernel
theorem dX7_carryOut_43 : decode cX7_carryOut 43 = .ok (.ifCond .ne 66, 3) := by decide +kernel
theorem dX7_carryOut_46 : decode cX7_carryOut 46 = .ok (.aload_n 0, 1) := by decide +kernel
theorem dX7_carryOut_47 : decode cX7_carryOut 47 = .ok (.getfield 57, 3) := by decide +kernel
theorem dX7_carryOut_50 : decode cX7_carryOut 50 = .ok (.invokevirtual 134, 3) := by decide +kernel
theorem dX7_carryOut_53 : decode cX7_carryOut 53 = .ok (.ifCond .eq 56, 3) := by decide +kernel
theorem dX7_carryOut_56 : decode cX7_carryOut 56 = .ok (.aload_n 0, 1) := by decide +kernel
theorem dX7_carryOut_57 : decode cX7_carryOut 57 = .ok (.aload_n 0, 1) := by decide +kernel
theorem dX7_carryOut_58 : decode cX7_carryOut 58 = .ok (.getfield 57, 3) := by decide +kernel
theorem dX7_carryOut_61 : decode cX7_carryOut 61 = .ok (.getfield 137, 3) := by decide +kernel
theorem dX7_carryOut_64 : decode cX7_carryOut 64 = .ok (.aload_n 0, 1) := by decide +kernel
theorem dX7_carryOut_65 : decode cX7_carryOut 65 = .ok (.getfield 57, 3) := by decide +kernel
theorem dX7_carryOut_68 : decode cX7_carryOut 68 = .ok (.getfield 141, 3) := by decide +kernel
theorem dX7_carryOut_71 : decode cX7_carryOut 71 = .ok (.invokevirtual 144, 3) := by decide +kernel
theorem dX7_carryOut_74 : decode cX7_carryOut 74 = .ok (.istore_n 2, 1) := by decide +kernel
theorem dX7_carryOut_75 : decode cX7_carryOut 75 = .ok (.iload_n 2, 1) := by decide +kernel
theorem dX7_carryOut_76 : decode cX7_carryOut 76 = .ok (.ifCond .ge 27, 3) := by decide +kernel
theorem dX7_carryOut_79 : decode cX7_carryOut 79 = .ok (.aload_n 0, 1) := by decide +kernel
theorem dX7_carryOut_80 : decode cX7_carryOut 80 = .ok (.iload_n 2, 1) := by decide +kernel
theorem dX7_carryOut_81 : decode cX7_carryOut 81 = .ok (.putfield 69, 3) := by decide +kernel
theorem dX7_carryOut_84 : decode cX7_carryOut 84 = .ok (.aload_n 0, 1) := by decide +kernel
theorem dX7_carryOut_85 : decode cX7_carryOut 85 = .ok (.iload_n 1, 1) := by decide +kernel
theorem dX7_carryOut_86 : decode cX7_carryOut 86 = .ok (.putfield 72, 3) := by decide +kernel
theorem dX7_carryOut_89 : decode cX7_carryOut 89 = .ok (.aload_n 0, 1) := by decide +kernel
theorem dX7_carryOut_90 : decode cX7_carryOut 90 = .ok (.aload_n 0, 1) := by decide +kernel
theorem dX7_carryOut_91 : decode cX7_carryOut 91 = .ok (.getfield 57, 3) := by decide +kernel
theorem dX7_carryOut_94 : decode cX7_carryOut 94 = .ok (.getfield 148, 3) := by decide +kernel
theorem dX7_carryOut_97 : decode cX7_carryOut 97 = .ok (.putfield 75, 3) := by decide +kernel
theorem dX7_carryOut_100 : decode cX7_carryOut 100 = .ok (.goto 6, 3) := by decide +kernel
theorem dX7_carryOut_103 : decode cX7_carryOut 103 = .ok (.iinc 1 1, 3) := by decide +kernel
theorem dX7_carryOut_106 : decode cX7_carryOut 106 = .ok (.goto (-73), 3) := by decide +kernel
theorem dX7_carryOut_109 : decode cX7_carryOut 109 = .ok (.aload_n 0, 1) := by decide +kernel
theorem dX7_carryOut_110 : decode cX7_carryOut 110 = .ok (.getfield 57, 3) := by decide +kernel
theorem dX7_carryOut_113 : decode cX7_carryOut 113 = .ok (.invokevirtual 124, 3) := by decide +kernel
theorem dX7_carryOut_116 : decode cX7_carryOut 116 = .ok (.iload_n 1, 1) := by decide +kernel
theorem dX7_carryOut_117 : decode cX7_carryOut 117 = .ok (.ireturn, 1) := by decide +kernel
theorem dX7_why_0 : decode cX7_why 0 = .ok (.iload_n 1, 1) := by decide +kernel
theorem dX7_why_1 : decode cX7_why 1 = .ok (.ifCond .lt 8, 3) := by decide +kernel
theorem dX7_why_4 : decode cX7_why 4 = .ok (.iload_n 1, 1) := by decide +kernel
theorem dX7_why_5 : decode cX7_why 5 = .ok (.iconst 2, 1) := by decide +kernel
theorem dX7_why_6 : decode cX7_why 6 = .ok (.if_icmp .le 5, 3) := by decide +kernel
theorem dX7_why_9 : decode cX7_why 9 = .ok (.iconst (-1), 1) := by decide +kernel
theorem dX7_why_10 : decode cX7_why 10 = .ok (.ireturn, 1) := by decide +kernel
theorem dX7_why_11 : decode cX7_why 11 = .ok (.aload_n 0, 1) := by decide +kernel
theorem dX7_why_12 : decode cX7_why 12 = .ok (.getfield 69, 3) := by decide +kernel
theorem dX7_why_15 : decode cX7_why 15 = .ok (.ifCond .ne 6, 3) := by decide +kernel
theorem dX7_why_18 : decode cX7_why 18 = .ok (.bipush (-4), 2) := by decide +kernel
theorem dX7_why_20 : decode cX7_why 20 = .ok (.ireturn, 1) := by decide +kernel
theorem dX7_why_21 : decode cX7_why 21 = .ok (.iload_n 1, 1) := by decide +kernel
theorem dX7_why_22 : decode cX7_why 22 = .ok (.lookupswitch 36 #[(0, 26), (1, 31)], 26) := by decide +kernel
theorem dX7_why_48 : decode cX7_why 48 = .ok (.aload_n 0, 1) := by decide +kernel
theorem dX7_why_49 : decode cX7_why 49 = .ok (.getfield 69, 3) := by decide +kernel
theorem dX7_why_52 : decode cX7_why 52 = .ok (.ireturn, 1) := by decide +kernel
theorem dX7_why_53 : decode cX7_why 53 = .ok (.aload_n 0, 1) := by decide +kernel
theorem dX7_why_54 : decode cX7_why 54 = .ok (.getfield 72, 3) := by decide +kernel
theorem dX7_why_57 : decode cX7_why 57 = .ok (.ireturn, 1) := by decide +kernel
theorem dX7_why_58 : decode cX7_why 58 = .ok (.aload_n 0, 1) := by decide +kernel
theorem dX7_why_59 : decode cX7_why 59 = .ok (.getfield 75, 3) := by decide +kernel
theorem dX7_why_62 : decode cX7_why 62 = .ok (.ireturn, 1) := by decide +kernel
set_option maxRecDepth 20000 in
theorem ggX7_cell_X2_isCell : GoodIn wsX7_cell wsX2_isCell := goodIn_r _ [5] (by decide +kernel) (by decide +kernel)
set_option maxRecDepth 20000 in
theorem gX7_cell_X2_isCell : GoodIn wsX7_cell (va_wsS RX7 151 yX2_isCell wsX2_isCell) := goodIn_app (goodIn_of _ (by decide +kernel)) ggX7_cell_X2_isCell
set_option maxRecDepth 20000 in
theorem ggX7_cell_X4_grainAt : GoodIn wsX7_cell wsX4_grainAt := goodIn_r _ [10, 11, 47, 48, 49, 50, 51, 52, 53, 54, 55, 56, 57] (by decide +kernel) (by decide +kernel)
set_option maxRecDepth 20000 in
theorem gX7_cell_X4_grainAt : GoodIn wsX7_cell (wsV RX7 157 RX4 yX4_grainAt wsX4_grainAt) := goodIn_app (goodIn_of _ (by decide +kernel)) ggX7_cell_X4_grainAt
set_option maxRecDepth 20000 in
theorem ggX7_cell_X2_ringOf : GoodIn wsX7_cell wsX2_ringOf := goodIn_r _ [14, 15, 16, 17, 18, 19, 20, 21] (by decide +kernel) (by decide +kernel)
set_option maxRecDepth 20000 in
theorem gX7_cell_X2_ringOf : GoodIn wsX7_cell (va_wsS RX7 160 yX2_ringOf wsX2_ringOf) := goodIn_app (goodIn_of _ (by decide +kernel)) ggX7_cell_X2_ringOf
set_option maxRecDepth 20000 in
theorem ggX7_cell_X4_grainsAround : GoodIn wsX7_cell wsX4_grainsAround := goodIn_r _ [25, 26, 27, 4, 28, 29, 7, 8, 9, 10, 11, 47, 48, 49, 50, 51, 52, 53, 54, 55, 56, 57] (by decide +kernel) (by decide +kernel)
set_option maxRecDepth 20000 in
theorem gX7_cell_X4_grainsAround : GoodIn wsX7_cell (wsV RX7 163 RX4 yX4_grainsAround wsX4_grainsAround) := goodIn_app (goodIn_of _ (by decide +kernel)) ggX7_cell_X4_grainsAround
set_option maxRecDepth 20000 in
theorem ggX7_cell_X2_rimOf : GoodIn wsX7_cell wsX2_rimOf := goodIn_r _ [32] (by decide +kernel) (by decide +kernel)
set_option maxRecDepth 20000 in
theorem gX7_cell_X2_rimOf : GoodIn wsX7_cell (va_wsS RX7 166 yX2_rimOf wsX2_rimOf) := goodIn_app (goodIn_of _ (by decide +kernel)) ggX7_cell_X2_rimOf
theorem dX7_cell_0 : decode cX7_cell 0 = .ok (.iload_n 1, 1) := by decide +kernel
theorem dX7_cell_1 : decode cX7_cell 1 = .ok (.invokestatic 151, 3) := by decide +kernel
theorem dX7_cell_4 : decode cX7_cell 4 = .ok (.ifCond .eq 12, 3) := by decide +kernel
theorem dX7_cell_7 : decode cX7_cell 7 = .ok (.iload_n 2, 1) := by decide +kernel
theorem dX7_cell_8 : decode cX7_cell 8 = .ok (.ifCond .lt 8, 3) := by decide +kernel
theorem dX7_cell_11 : decode cX7_cell 11 = .ok (.iload_n 2, 1) := by decide +kernel
theorem dX7_cell_12 : decode cX7_cell 12 = .ok (.iconst 3, 1) := by decide +kernel
theorem dX7_cell_13 : decode cX7_cell 13 = .ok (.if_icmp .le 5, 3) := by decide +kernel
theorem dX7_cell_16 : decode cX7_cell 16 = .ok (.iconst (-1), 1) := by decide +kernel
theorem dX7_cell_17 : decode cX7_cell 17 = .ok (.ireturn, 1) := by decide +kernel
theorem dX7_cell_18 : decode cX7_cell 18 = .ok (.iload_n 2, 1) := by decide +kernel
theorem dX7_cell_19 : decode cX7_cell 19 = .ok (.tableswitch 48 0 2 #[25, 34, 39], 25) := by decide +kernel
theorem dX7_cell_44 : decode cX7_cell 44 = .ok (.aload_n 0, 1) := by decide +kernel
theorem dX7_cell_45 : decode cX7_cell 45 = .ok (.getfield 12, 3) := by decide +kernel
theorem dX7_cell_48 : decode cX7_cell 48 = .ok (.iload_n 1, 1) := by decide +kernel
theorem dX7_cell_49 : decode cX7_cell 49 = .ok (.invokevirtual 157, 3) := by decide +kernel
theorem dX7_cell_52 : decode cX7_cell 52 = .ok (.ireturn, 1) := by decide +kernel
theorem dX7_cell_53 : decode cX7_cell 53 = .ok (.iload_n 1, 1) := by decide +kernel
theorem dX7_cell_54 : decode cX7_cell 54 = .ok (.invokestatic 160, 3) := by decide +kernel
theorem dX7_cell_57 : decode cX7_cell 57 = .ok (.ireturn, 1) := by decide +kernel
theorem dX7_cell_58 : decode cX7_cell 58 = .ok (.aload_n 0, 1) := by decide +kernel
theorem dX7_cell_59 : decode cX7_cell 59 = .ok (.getfield 12, 3) := by decide +kernel
theorem dX7_cell_62 : decode cX7_cell 62 = .ok (.iload_n 1, 1) := by decide +kernel
theorem dX7_cell_63 : decode cX7_cell 63 = .ok (.invokevirtual 163, 3) := by decide +kernel
theorem dX7_cell_66 : decode cX7_cell 66 = .ok (.ireturn, 1) := by decide +kernel
theorem dX7_cell_67 : decode cX7_cell 67 = .ok (.iload_n 1, 1) := by decide +kernel
theorem dX7_cell_68 : decode cX7_cell 68 = .ok (.invokestatic 166, 3) := by decide +kernel
theorem dX7_cell_71 : decode cX7_cell 71 = .ok (.ireturn, 1) := by decide +kernel
set_option maxRecDepth 20000 in
theorem ggX7_grain_X4_isGrain : GoodIn wsX7_grain wsX4_isGrain := goodIn_r _ [7, 8, 104, 105, 106, 107, 108, 109, 110, 111, 112, 113, 114] (by decide +kernel) (by decide +kernel)
set_option maxRecDepth 20000 in
theorem gX7_grain_X4_isGrain : GoodIn wsX7_grain (wsV RX7 169 RX4 yX4_isGrain wsX4_isGrain) := goodIn_app (goodIn_of _ (by decide +kernel)) ggX7_grain_X4_isGrain
set_option maxRecDepth 20000 in
theorem ggX7_grain_X5_read : GoodIn wsX7_grain wsX5_read := goodIn_r _ [13, 14, 15, 16, 17, 6, 18, 19, 20, 4, 5, 7, 8, 21, 22, 23, 12, 24, 25, 26, 27, 28, 29, 30, 31, 32, 33, 34, 35, 36, 37, 38, 104, 105, 106, 107, 108, 109, 110, 111, 112, 113, 114, 97, 98, 99, 100, 101, 102, 103] (by decide +kernel) (by decide +kernel)
set_option maxRecDepth 20000 in
theorem gX7_grain_X5_read : GoodIn wsX7_grain (wsV RX7 172 RX5 yX5_read wsX5_read) := goodIn_app (goodIn_of _ (by decide +kernel)) ggX7_grain_X5_read
set_option maxRecDepth 20000 in
theorem ggX7_grain_X4_cellOf : GoodIn wsX7_grain wsX4_cellOf := goodIn_r _ [42, 43, 20, 4, 5, 6, 7, 8, 104, 105, 106, 107, 108, 109, 110, 111, 112, 113, 114] (by decide +kernel) (by decide +kernel)
set_option maxRecDepth 20000 in
theorem gX7_grain_X4_cellOf : GoodIn wsX7_grain (wsV RX7 176 RX4 yX4_cellOf wsX4_cellOf) := goodIn_app (goodIn_of _ (by decide +kernel)) ggX7_grain_X4_cellOf
set_option maxRecDepth 20000 in
theorem ggX7_grain_X4_holderOf : GoodIn wsX7_grain wsX4_holderOf := goodIn_r _ [18, 19, 20, 4, 5, 6, 7, 8, 104, 105, 106, 107, 108, 109, 110, 111, 112, 113, 114] (by decide +kernel) (by decide +kernel)
set_option maxRecDepth 20000 in
theorem gX7_grain_X4_holderOf : GoodIn wsX7_grain (wsV RX7 179 RX4 yX4_holderOf wsX4_holderOf) := goodIn_app (goodIn_of _ (by decide +kernel)) ggX7_grain_X4_holderOf
set_option maxRecDepth 20000 in
theorem ggX7_grain_X7_catchOf : GoodIn wsX7_grain wsX7_catchOf := goodIn_r _ [49, 50, 1, 51, 52, 53, 54, 55, 56, 57, 58, 59, 60, 61, 62, 63, 64, 65, 66, 67, 68, 69, 70, 71, 6, 72, 73, 74, 75, 76, 77, 4, 5, 7, 8, 83, 84, 85, 86, 87, 88, 89, 90, 91, 92, 93, 94, 95, 96, 115, 116, 117, 104, 105, 106, 107, 108, 109, 110, 111, 112, 113, 114] (by decide +kernel) (by decide +kernel)
set_option maxRecDepth 20000 in
theorem gX7_grain_X7_catchOf : GoodIn wsX7_grain (wsV RX7 195 RX7 yX7_catchOf wsX7_catchOf) := goodIn_app (goodIn_of _ (by decide +kernel)) ggX7_grain_X7_catchOf
set_option maxRecDepth 20000 in
theorem ggX7_grain_X4_stepsOf : GoodIn wsX7_grain wsX4_stepsOf := goodIn_r _ [81, 82, 20, 4, 5, 6, 7, 8, 104, 105, 106, 107, 108, 109, 110, 111, 112, 113, 114] (by decide +kernel) (by decide +kernel)
set_option maxRecDepth 20000 in
theorem gX7_grain_X4_stepsOf : GoodIn wsX7_grain (wsV RX7 201 RX4 yX4_stepsOf wsX4_stepsOf) := goodIn_app (goodIn_of _ (by decide +kernel)) ggX7_grain_X4_stepsOf
theorem dX7_grain_0 : decode cX7_grain 0 = .ok (.aload_n 0, 1) := by decide +kernel
theorem dX7_grain_1 : decode cX7_grain 1 = .ok (.getfield 12, 3) := by decide +kernel
theorem dX7_grain_4 : decode cX7_grain 4 = .ok (.iload_n 1, 1) := by decide +kernel
theorem dX7_grain_5 : decode cX7_grain 5 = .ok (.invokevirtual 169, 3) := by decide +kernel
theorem dX7_grain_8 : decode cX7_grain 8 = .ok (.ifCond .eq 13, 3) := by decide +kernel
theorem dX7_grain_11 : decode cX7_grain 11 = .ok (.iload_n 2, 1) := by decide +kernel
theorem dX7_grain_12 : decode cX7_grain 12 = .ok (.ifCond .lt 9, 3) := by decide +kernel
theorem dX7_grain_15 : decode cX7_grain 15 = .ok (.iload_n 2, 1) := by decide +kernel
theorem dX7_grain_16 : decode cX7_grain 16 = .ok (.bipush 8, 2) := by decide +kernel
theorem dX7_grain_18 : decode cX7_grain 18 = .ok (.if_icmp .le 5, 3) := by decide +kernel
theorem dX7_grain_21 : decode cX7_grain 21 = .ok (.iconst (-1), 1) := by decide +kernel
theorem dX7_grain_22 : decode cX7_grain 22 = .ok (.ireturn, 1) := by decide +kernel
theorem dX7_grain_23 : decode cX7_grain 23 = .ok (.aload_n 0, 1) := by decide +kernel
theorem dX7_grain_24 : decode cX7_grain 24 = .ok (.getfield 43, 3) := by decide +kernel
theorem dX7_grain_27 : decode cX7_grain 27 = .ok (.aload_n 0, 1) := by decide +kernel
theorem dX7_grain_28 : decode cX7_grain 28 = .ok (.getfield 12, 3) := by decide +kernel
theorem dX7_grain_31 : decode cX7_grain 31 = .ok (.invokevirtual 172, 3) := by decide +kernel
theorem dX7_grain_34 : decode cX7_grain 34 = .ok (.iload_n 2, 1) := by decide +kernel
theorem dX7_grain_35 : decode cX7_grain 35 = .ok (.tableswitch 119 0 7 #[45, 54, 63, 73, 83, 93, 103, 109], 45) := by decide +kernel
theorem dX7_grain_80 : decode cX7_grain 80 = .ok (.aload_n 0, 1) := by decide +kernel
theorem dX7_grain_81 : decode cX7_grain 81 = .ok (.getfield 12, 3) := by decide +kernel
theorem dX7_grain_84 : decode cX7_grain 84 = .ok (.iload_n 1, 1) := by decide +kernel
theorem dX7_grain_85 : decode cX7_grain 85 = .ok (.invokevirtual 176, 3) := by decide +kernel
theorem dX7_grain_88 : decode cX7_grain 88 = .ok (.ireturn, 1) := by decide +kernel
theorem dX7_grain_89 : decode cX7_grain 89 = .ok (.aload_n 0, 1) := by decide +kernel
theorem dX7_grain_90 : decode cX7_grain 90 = .ok (.getfield 12, 3) := by decide +kernel
theorem dX7_grain_93 : decode cX7_grain 93 = .ok (.iload_n 1, 1) := by decide +kernel
theorem dX7_grain_94 : decode cX7_grain 94 = .ok (.invokevirtual 179, 3) := by decide +kernel
theorem dX7_grain_97 : decode cX7_grain 97 = .ok (.ireturn, 1) := by decide +kernel
theorem dX7_grain_98 : decode cX7_grain 98 = .ok (.aload_n 0, 1) := by decide +kernel
theorem dX7_grain_99 : decode cX7_grain 99 = .ok (.getfield 43, 3) := by decide +kernel
theorem dX7_grain_102 : decode cX7_grain 102 = .ok (.getfield 182, 3) := by decide +kernel
theorem dX7_grain_105 : decode cX7_grain 105 = .ok (.iload_n 1, 1) := by decide +kernel
theorem dX7_grain_106 : decode cX7_grain 106 = .ok (.iaload, 1) := by decide +kernel
theorem dX7_grain_107 : decode cX7_grain 107 = .ok (.ireturn, 1) := by decide +kernel
theorem dX7_grain_108 : decode cX7_grain 108 = .ok (.aload_n 0, 1) := by decide +kernel
theorem dX7_grain_109 : decode cX7_grain 109 = .ok (.getfield 43, 3) := by decide +kernel
theorem dX7_grain_112 : decode cX7_grain 112 = .ok (.getfield 186, 3) := by decide +kernel
theorem dX7_grain_115 : decode cX7_grain 115 = .ok (.iload_n 1, 1) := by decide +kernel
theorem dX7_grain_116 : decode cX7_grain 116 = .ok (.iaload, 1) := by decide +kernel
theorem dX7_grain_117 : decode cX7_grain 117 = .ok (.ireturn, 1) := by decide +kernel
theorem dX7_grain_118 : decode cX7_grain 118 = .ok (.aload_n 0, 1) := by decide +kernel
theorem dX7_grain_119 : decode cX7_grain 119 = .ok (.getfield 43, 3) := by decide +kernel
theorem dX7_grain_122 : decode cX7_grain 122 = .ok (.getfield 189, 3) := by decide +kernel
theorem dX7_grain_125 : decode cX7_grain 125 = .ok (.iload_n 1, 1) := by decide +kernel
theorem dX7_grain_126 : decode cX7_grain 126 = .ok (.iaload, 1) := by decide +kernel
theorem dX7_grain_127 : decode cX7_grain 127 = .ok (.ireturn, 1) := by decide +kernel
theorem dX7_grain_128 : decode cX7_grain 128 = .ok (.aload_n 0, 1) := by decide +kernel
theorem dX7_grain_129 : decode cX7_grain 129 = .ok (.getfield 43, 3) := by decide +kernel
theorem dX7_grain_132 : decode cX7_grain 132 = .ok (.getfield 192, 3) := by decide +kernel
theorem dX7_grain_135 : decode cX7_grain 135 = .ok (.iload_n 1, 1) := by decide +kernel
theorem dX7_grain_136 : decode cX7_grain 136 = .ok (.iaload, 1) := by decide +kernel
theorem dX7_grain_137 : decode cX7_grain 137 = .ok (.ireturn, 1) := by decide +kernel
theorem dX7_grain_138 : decode cX7_grain 138 = .ok (.aload_n 0, 1) := by decide +kernel
theorem dX7_grain_139 : decode cX7_grain 139 = .ok (.iload_n 1, 1) := by decide +kernel
theorem dX7_grain_140 : decode cX7_grain 140 = .ok (.invokevirtual 195, 3) := by decide +kernel
theorem dX7_grain_143 : decode cX7_grain 143 = .ok (.ireturn, 1) := by decide +kernel
theorem dX7_grain_144 : decode cX7_grain 144 = .ok (.aload_n 0, 1) := by decide +kernel
theorem dX7_grain_145 : decode cX7_grain 145 = .ok (.getfield 43, 3) := by decide +kernel
theorem dX7_grain_148 : decode cX7_grain 148 = .ok (.getfield 198, 3) := by decide +kernel
theorem dX7_grain_151 : decode cX7_grain 151 = .ok (.iload_n 1, 1) := by decide +kernel
theorem dX7_grain_152 : decode cX7_grain 152 = .ok (.iaload, 1) := by decide +kernel
theorem dX7_grain_153 : decode cX7_grain 153 = .ok (.ireturn, 1) := by decide +kernel
theorem dX7_grain_154 : decode cX7_grain 154 = .ok (.aload_n 0, 1) := by decide +kernel
theorem dX7_grain_155 : decode cX7_grain 155 = .ok (.getfield 12, 3) := by decide +kernel
theorem dX7_grain_158 : decode cX7_grain 158 = .ok (.iload_n 1, 1) := by decide +kernel
theorem dX7_grain_159 : decode cX7_grain 159 = .ok (.invokevirtual 201, 3) := by decide +kernel
theorem dX7_grain_162 : decode cX7_grain 162 = .ok (.ireturn, 1) := by decide +kernel
set_option maxRecDepth 20000 in
theorem ggX7_screens_X2_isRim : GoodIn wsX7_screens wsX2_isRim := goodIn_r _ [5] (by decide +kernel) (by decide +kernel)
set_option maxRecDepth 20000 in
theorem gX7_screens_X2_isRim : GoodIn wsX7_screens (va_wsS RX7 204 yX2_isRim wsX2_isRim) := goodIn_app (goodIn_of _ (by decide +kernel)) ggX7_screens_X2_isRim
set_option maxRecDepth 20000 in
theorem ggX7_screens_X3_firstMet : GoodIn wsX7_screens wsX3_firstMet := goodIn_r _ [9, 10, 11, 4, 12, 13, 14, 15, 16, 17, 18, 19, 20, 21, 22, 23, 24, 39, 40, 41, 42, 43, 44, 45, 46, 47, 48, 49] (by decide +kernel) (by decide +kernel)
set_option maxRecDepth 20000 in
theorem gX7_screens_X3_firstMet : GoodIn wsX7_screens (va_wsS RX7 207 yX3_firstMet wsX3_firstMet) := goodIn_app (goodIn_of _ (by decide +kernel)) ggX7_screens_X3_firstMet
theorem dX7_screens_0 : decode cX7_screens 0 = .ok (.iload_n 1, 1) := by decide +kernel
theorem dX7_screens_1 : decode cX7_screens 1 = .ok (.invokestatic 204, 3) := by decide +kernel
theorem dX7_screens_4 : decode cX7_screens 4 = .ok (.ifCond .ne 5, 3) := by decide +kernel
theorem dX7_screens_7 : decode cX7_screens 7 = .ok (.iconst (-1), 1) := by decide +kernel
theorem dX7_screens_8 : decode cX7_screens 8 = .ok (.ireturn, 1) := by decide +kernel
theorem dX7_screens_9 : decode cX7_screens 9 = .ok (.aload_n 0, 1) := by decide +kernel
theorem dX7_screens_10 : decode cX7_screens 10 = .ok (.getfield 12, 3) := by decide +kernel
theorem dX7_screens_13 : decode cX7_screens 13 = .ok (.iload_n 1, 1) := by decide +kernel
theorem dX7_screens_14 : decode cX7_screens 14 = .ok (.invokestatic 207, 3) := by decide +kernel
theorem dX7_screens_17 : decode cX7_screens 17 = .ok (.ireturn, 1) := by decide +kernel
set_option maxRecDepth 20000 in
theorem ggX7_ring_X4_cellOf : GoodIn wsX7_ring wsX4_cellOf := goodIn_r _ [6, 7, 8, 9, 10, 5, 11, 12, 38, 39, 40, 41, 42, 43, 44, 45, 46, 47, 48] (by decide +kernel) (by decide +kernel)
set_option maxRecDepth 20000 in
theorem gX7_ring_X4_cellOf : GoodIn wsX7_ring (wsV RX7 176 RX4 yX4_cellOf wsX4_cellOf) := goodIn_app (goodIn_of _ (by decide +kernel)) ggX7_ring_X4_cellOf
set_option maxRecDepth 20000 in
theorem ggX7_ring_X2_ringOf : GoodIn wsX7_ring wsX2_ringOf := goodIn_r _ [16, 17, 18, 19, 20, 21, 22, 23] (by decide +kernel) (by decide +kernel)
set_option maxRecDepth 20000 in
theorem gX7_ring_X2_ringOf : GoodIn wsX7_ring (va_wsS RX7 160 yX2_ringOf wsX2_ringOf) := goodIn_app (goodIn_of _ (by decide +kernel)) ggX7_ring_X2_ringOf
theorem dX7_ring_0 : decode cX7_ring 0 = .ok (.iload_n 1, 1) := by decide +kernel
theorem dX7_ring_1 : decode cX7_ring 1 = .ok (.ifCond .lt 9, 3) := by decide +kernel
theorem dX7_ring_4 : decode cX7_ring 4 = .ok (.iload_n 1, 1) := by decide +kernel
theorem dX7_ring_5 : decode cX7_ring 5 = .ok (.bipush 6, 2) := by decide +kernel
theorem dX7_ring_7 : decode cX7_ring 7 = .ok (.if_icmp .lt 5, 3) := by decide +kernel
theorem dX7_ring_10 : decode cX7_ring 10 = .ok (.iconst (-1), 1) := by decide +kernel
theorem dX7_ring_11 : decode cX7_ring 11 = .ok (.ireturn, 1) := by decide +kernel
theorem dX7_ring_12 : decode cX7_ring 12 = .ok (.iconst 0, 1) := by decide +kernel
theorem dX7_ring_13 : decode cX7_ring 13 = .ok (.istore_n 2, 1) := by decide +kernel
theorem dX7_ring_14 : decode cX7_ring 14 = .ok (.iconst 0, 1) := by decide +kernel
theorem dX7_ring_15 : decode cX7_ring 15 = .ok (.istore_n 3, 1) := by decide +kernel
theorem dX7_ring_16 : decode cX7_ring 16 = .ok (.iload_n 3, 1) := by decide +kernel
theorem dX7_ring_17 : decode cX7_ring 17 = .ok (.aload_n 0, 1) := by decide +kernel
theorem dX7_ring_18 : decode cX7_ring 18 = .ok (.getfield 12, 3) := by decide +kernel
theorem dX7_ring_21 : decode cX7_ring 21 = .ok (.getfield 210, 3) := by decide +kernel
theorem dX7_ring_24 : decode cX7_ring 24 = .ok (.if_icmp .ge 27, 3) := by decide +kernel
theorem dX7_ring_27 : decode cX7_ring 27 = .ok (.aload_n 0, 1) := by decide +kernel
theorem dX7_ring_28 : decode cX7_ring 28 = .ok (.getfield 12, 3) := by decide +kernel
theorem dX7_ring_31 : decode cX7_ring 31 = .ok (.iload_n 3, 1) := by decide +kernel
theorem dX7_ring_32 : decode cX7_ring 32 = .ok (.invokevirtual 176, 3) := by decide +kernel
theorem dX7_ring_35 : decode cX7_ring 35 = .ok (.invokestatic 160, 3) := by decide +kernel
theorem dX7_ring_38 : decode cX7_ring 38 = .ok (.iload_n 1, 1) := by decide +kernel
theorem dX7_ring_39 : decode cX7_ring 39 = .ok (.if_icmp .ne 6, 3) := by decide +kernel
theorem dX7_ring_42 : decode cX7_ring 42 = .ok (.iinc 2 1, 3) := by decide +kernel
theorem dX7_ring_45 : decode cX7_ring 45 = .ok (.iinc 3 1, 3) := by decide +kernel
theorem dX7_ring_48 : decode cX7_ring 48 = .ok (.goto (-32), 3) := by decide +kernel
theorem dX7_ring_51 : decode cX7_ring 51 = .ok (.iload_n 2, 1) := by decide +kernel
theorem dX7_ring_52 : decode cX7_ring 52 = .ok (.ireturn, 1) := by decide +kernel
set_option maxRecDepth 20000 in
theorem ggX7_apart_X4_isGrain : GoodIn wsX7_apart wsX4_isGrain := goodIn_r _ [6, 7, 39, 40, 41, 42, 43, 44, 45, 46, 47, 48, 49] (by decide +kernel) (by decide +kernel)
set_option maxRecDepth 20000 in
theorem gX7_apart_X4_isGrain : GoodIn wsX7_apart (wsV RX7 169 RX4 yX4_isGrain wsX4_isGrain) := goodIn_app (goodIn_of _ (by decide +kernel)) ggX7_apart_X4_isGrain
set_option maxRecDepth 20000 in
theorem ggX7_apart_X4_holdsBetween : GoodIn wsX7_apart wsX4_holdsBetween := goodIn_r _ [11, 12, 13, 14, 15, 16, 17, 18, 19, 20, 21, 5, 22, 23, 24, 3, 4, 6, 7, 39, 40, 41, 42, 43, 44, 45, 46, 47, 48, 49] (by decide +kernel) (by decide +kernel)
set_option maxRecDepth 20000 in
theorem gX7_apart_X4_holdsBetween : GoodIn wsX7_apart (wsV RX7 213 RX4 yX4_holdsBetween wsX4_holdsBetween) := goodIn_app (goodIn_of _ (by decide +kernel)) ggX7_apart_X4_holdsBetween
theorem dX7_apart_0 : decode cX7_apart 0 = .ok (.aload_n 0, 1) := by decide +kernel
theorem dX7_apart_1 : decode cX7_apart 1 = .ok (.getfield 12, 3) := by decide +kernel
theorem dX7_apart_4 : decode cX7_apart 4 = .ok (.iload_n 1, 1) := by decide +kernel
theorem dX7_apart_5 : decode cX7_apart 5 = .ok (.invokevirtual 169, 3) := by decide +kernel
theorem dX7_apart_8 : decode cX7_apart 8 = .ok (.ifCond .eq 14, 3) := by decide +kernel
theorem dX7_apart_11 : decode cX7_apart 11 = .ok (.aload_n 0, 1) := by decide +kernel
theorem dX7_apart_12 : decode cX7_apart 12 = .ok (.getfield 12, 3) := by decide +kernel
theorem dX7_apart_15 : decode cX7_apart 15 = .ok (.iload_n 2, 1) := by decide +kernel
theorem dX7_apart_16 : decode cX7_apart 16 = .ok (.invokevirtual 169, 3) := by decide +kernel
theorem dX7_apart_19 : decode cX7_apart 19 = .ok (.ifCond .ne 5, 3) := by decide +kernel
theorem dX7_apart_22 : decode cX7_apart 22 = .ok (.iconst (-1), 1) := by decide +kernel
theorem dX7_apart_23 : decode cX7_apart 23 = .ok (.ireturn, 1) := by decide +kernel
theorem dX7_apart_24 : decode cX7_apart 24 = .ok (.aload_n 0, 1) := by decide +kernel
theorem dX7_apart_25 : decode cX7_apart 25 = .ok (.getfield 12, 3) := by decide +kernel
theorem dX7_apart_28 : decode cX7_apart 28 = .ok (.iload_n 1, 1) := by decide +kernel
theorem dX7_apart_29 : decode cX7_apart 29 = .ok (.iload_n 2, 1) := by decide +kernel
theorem dX7_apart_30 : decode cX7_apart 30 = .ok (.invokevirtual 213, 3) := by decide +kernel
theorem dX7_apart_33 : decode cX7_apart 33 = .ok (.ireturn, 1) := by decide +kernel
set_option maxRecDepth 20000 in
theorem ggX7_longest_X4_longestOfPairs : GoodIn wsX7_longest wsX4_longestOfPairs := goodIn_r _ [7, 8, 9, 10, 11, 12, 13, 14, 15, 6, 16, 17, 18, 19, 20, 21, 22, 23, 24, 25, 26, 27, 28, 73, 74, 75, 76, 77, 78, 79, 80, 81, 82, 83] (by decide +kernel) (by decide +kernel)
set_option maxRecDepth 20000 in
theorem gX7_longest_X4_longestOfPairs : GoodIn wsX7_longest (wsV RX7 216 RX4 yX4_longestOfPairs wsX4_longestOfPairs) := goodIn_app (goodIn_of _ (by decide +kernel)) ggX7_longest_X4_longestOfPairs
set_option maxRecDepth 20000 in
theorem ggX7_longest_X5_read : GoodIn wsX7_longest wsX5_read := goodIn_r _ [33, 34, 35, 21, 22, 6, 23, 24, 25, 26, 27, 28, 8, 36, 37, 38, 32, 39, 40, 41, 42, 43, 44, 45, 46, 47, 48, 49, 50, 51, 52, 53, 73, 74, 75, 76, 77, 78, 79, 80, 81, 82, 83, 84, 85, 86, 87, 88, 89, 90] (by decide +kernel) (by decide +kernel)
set_option maxRecDepth 20000 in
theorem gX7_longest_X5_read : GoodIn wsX7_longest (wsV RX7 172 RX5 yX5_read wsX5_read) := goodIn_app (goodIn_of _ (by decide +kernel)) ggX7_longest_X5_read
set_option maxRecDepth 20000 in
theorem ggX7_longest_X5_longestOfHeights : GoodIn wsX7_longest wsX5_longestOfHeights := goodIn_r _ [57, 34, 44, 45, 58, 10, 11, 12, 84, 85, 86, 87, 88, 89, 90] (by decide +kernel) (by decide +kernel)
set_option maxRecDepth 20000 in
theorem gX7_longest_X5_longestOfHeights : GoodIn wsX7_longest (wsV RX7 219 RX5 yX5_longestOfHeights wsX5_longestOfHeights) := goodIn_app (goodIn_of _ (by decide +kernel)) ggX7_longest_X5_longestOfHeights
theorem dX7_longest_0 : decode cX7_longest 0 = .ok (.iload_n 1, 1) := by decide +kernel
theorem dX7_longest_1 : decode cX7_longest 1 = .ok (.ifCond .lt 8, 3) := by decide +kernel
theorem dX7_longest_4 : decode cX7_longest 4 = .ok (.iload_n 1, 1) := by decide +kernel
theorem dX7_longest_5 : decode cX7_longest 5 = .ok (.iconst 1, 1) := by decide +kernel
theorem dX7_longest_6 : decode cX7_longest 6 = .ok (.if_icmp .le 5, 3) := by decide +kernel
theorem dX7_longest_9 : decode cX7_longest 9 = .ok (.iconst (-1), 1) := by decide +kernel
theorem dX7_longest_10 : decode cX7_longest 10 = .ok (.ireturn, 1) := by decide +kernel
theorem dX7_longest_11 : decode cX7_longest 11 = .ok (.iload_n 1, 1) := by decide +kernel
theorem dX7_longest_12 : decode cX7_longest 12 = .ok (.ifCond .ne 11, 3) := by decide +kernel
theorem dX7_longest_15 : decode cX7_longest 15 = .ok (.aload_n 0, 1) := by decide +kernel
theorem dX7_longest_16 : decode cX7_longest 16 = .ok (.getfield 12, 3) := by decide +kernel
theorem dX7_longest_19 : decode cX7_longest 19 = .ok (.invokevirtual 216, 3) := by decide +kernel
theorem dX7_longest_22 : decode cX7_longest 22 = .ok (.ireturn, 1) := by decide +kernel
theorem dX7_longest_23 : decode cX7_longest 23 = .ok (.aload_n 0, 1) := by decide +kernel
theorem dX7_longest_24 : decode cX7_longest 24 = .ok (.getfield 43, 3) := by decide +kernel
theorem dX7_longest_27 : decode cX7_longest 27 = .ok (.aload_n 0, 1) := by decide +kernel
theorem dX7_longest_28 : decode cX7_longest 28 = .ok (.getfield 12, 3) := by decide +kernel
theorem dX7_longest_31 : decode cX7_longest 31 = .ok (.invokevirtual 172, 3) := by decide +kernel
theorem dX7_longest_34 : decode cX7_longest 34 = .ok (.aload_n 0, 1) := by decide +kernel
theorem dX7_longest_35 : decode cX7_longest 35 = .ok (.getfield 43, 3) := by decide +kernel
theorem dX7_longest_38 : decode cX7_longest 38 = .ok (.invokevirtual 219, 3) := by decide +kernel
theorem dX7_longest_41 : decode cX7_longest 41 = .ok (.ireturn, 1) := by decide +kernel
set_option maxRecDepth 20000 in
theorem ggX7_count_X4_reach : GoodIn wsX7_count wsX4_reach := goodIn_r _ [8, 9, 10, 11, 12, 13, 14, 15, 16, 17, 18, 19, 20, 21, 22, 143, 144, 145, 146, 147, 148, 149, 150, 151, 152, 153] (by decide +kernel) (by decide +kernel)
set_option maxRecDepth 20000 in
theorem gX7_count_X4_reach : GoodIn wsX7_count (wsV RX7 222 RX4 yX4_reach wsX4_reach) := goodIn_app (goodIn_of _ (by decide +kernel)) ggX7_count_X4_reach
set_option maxRecDepth 20000 in
theorem ggX7_count_X4_freeCellsBeside : GoodIn wsX7_count wsX4_freeCellsBeside := goodIn_r _ [26, 27, 28, 29, 7, 30, 31, 32, 33, 34, 35, 36, 37, 17, 38, 143, 144, 145, 146, 147, 148, 149, 150, 151, 152, 153] (by decide +kernel) (by decide +kernel)
set_option maxRecDepth 20000 in
theorem gX7_count_X4_freeCellsBeside : GoodIn wsX7_count (wsV RX7 225 RX4 yX4_freeCellsBeside wsX4_freeCellsBeside) := goodIn_app (goodIn_of _ (by decide +kernel)) ggX7_count_X4_freeCellsBeside
set_option maxRecDepth 20000 in
theorem ggX7_count_X7_bestCatcher : GoodIn wsX7_count wsX7_bestCatcher := goodIn_r _ [43, 44, 1, 45, 46, 47, 48, 49, 50, 51, 52, 53, 54, 55, 56, 57, 17, 58, 59, 60, 61, 62, 28, 29, 7, 30, 31, 63, 37, 38, 64, 65, 66, 67, 9, 68, 69, 70, 71, 129, 130, 131, 132, 133, 134, 135, 136, 137, 138, 139, 140, 141, 142, 143, 144, 145, 146, 147, 148, 149, 150, 151, 152, 153, 160, 161, 162] (by decide +kernel) (by decide +kernel)
set_option maxRecDepth 20000 in
theorem gX7_count_X7_bestCatcher : GoodIn wsX7_count (wsV RX7 240 RX7 yX7_bestCatcher wsX7_bestCatcher) := goodIn_app (goodIn_of _ (by decide +kernel)) ggX7_count_X7_bestCatcher
set_option maxRecDepth 20000 in
theorem ggX7_count_X7_catchOf : GoodIn wsX7_count wsX7_catchOf := goodIn_r _ [75, 44, 1, 45, 46, 47, 48, 49, 50, 51, 52, 53, 54, 55, 56, 57, 17, 58, 59, 60, 61, 62, 28, 29, 7, 30, 31, 63, 37, 38, 64, 65, 66, 67, 9, 129, 130, 131, 132, 133, 134, 135, 136, 137, 138, 139, 140, 141, 142, 160, 161, 162, 143, 144, 145, 146, 147, 148, 149, 150, 151, 152, 153] (by decide +kernel) (by decide +kernel)
set_option maxRecDepth 20000 in
theorem gX7_count_X7_catchOf : GoodIn wsX7_count (wsV RX7 195 RX7 yX7_catchOf wsX7_catchOf) := goodIn_app (goodIn_of _ (by decide +kernel)) ggX7_count_X7_catchOf
set_option maxRecDepth 20000 in
theorem ggX7_count_X4_setting : GoodIn wsX7_count wsX4_setting := goodIn_r _ [79, 80, 143, 144, 145, 146, 147, 148, 149, 150, 151, 152, 153] (by decide +kernel) (by decide +kernel)
set_option maxRecDepth 20000 in
theorem gX7_count_X4_setting : GoodIn wsX7_count (wsV RX7 243 RX4 yX4_setting wsX4_setting) := goodIn_app (goodIn_of _ (by decide +kernel)) ggX7_count_X4_setting
set_option maxRecDepth 20000 in
theorem ggX7_count_X7_countOfTrees : GoodIn wsX7_count wsX7_countOfTrees := goodIn_r _ [84, 85, 1, 86, 87, 88, 89, 90, 91, 92, 93, 94, 7, 95, 96, 97, 65, 66, 67, 9, 98, 99, 100, 101, 102, 103, 104, 105, 106, 107, 108, 109, 110, 111, 112, 113, 114, 115, 116, 117, 118, 119, 120, 121, 122, 123, 124, 125, 126, 127, 128, 12, 13, 14, 129, 130, 131, 132, 133, 134, 135, 136, 137, 138, 139, 140, 141, 142, 143, 144, 145, 146, 147, 148, 149, 150, 151, 152, 153, 163, 164, 165, 166, 167, 168, 169] (by decide +kernel) (by decide +kernel)
set_option maxRecDepth 20000 in
theorem gX7_count_X7_countOfTrees : GoodIn wsX7_count (wsV RX7 246 RX7 yX7_countOfTrees wsX7_countOfTrees) := goodIn_app (goodIn_of _ (by decide +kernel)) ggX7_count_X7_countOfTrees
theorem dX7_count_0 : decode cX7_count 0 = .ok (.iload_n 1, 1) := by decide +kernel
theorem dX7_count_1 : decode cX7_count 1 = .ok (.ifCond .lt 9, 3) := by decide +kernel
theorem dX7_count_4 : decode cX7_count 4 = .ok (.iload_n 1, 1) := by decide +kernel
theorem dX7_count_5 : decode cX7_count 5 = .ok (.bipush 19, 2) := by decide +kernel
theorem dX7_count_7 : decode cX7_count 7 = .ok (.if_icmp .le 5, 3) := by decide +kernel
theorem dX7_count_10 : decode cX7_count 10 = .ok (.iconst (-1), 1) := by decide +kernel
theorem dX7_count_11 : decode cX7_count 11 = .ok (.ireturn, 1) := by decide +kernel
theorem dX7_count_12 : decode cX7_count 12 = .ok (.iload_n 1, 1) := by decide +kernel
theorem dX7_count_13 : decode cX7_count 13 = .ok (.tableswitch 198 0 19 #[95, 198, 198, 198, 198, 103, 111, 119, 127, 135, 143, 151, 160, 165, 165, 165, 165, 177, 185, 193], 95) := by decide +kernel
theorem dX7_count_108 : decode cX7_count 108 = .ok (.aload_n 0, 1) := by decide +kernel
theorem dX7_count_109 : decode cX7_count 109 = .ok (.getfield 12, 3) := by decide +kernel
theorem dX7_count_112 : decode cX7_count 112 = .ok (.getfield 210, 3) := by decide +kernel
theorem dX7_count_115 : decode cX7_count 115 = .ok (.ireturn, 1) := by decide +kernel
theorem dX7_count_116 : decode cX7_count 116 = .ok (.aload_n 0, 1) := by decide +kernel
theorem dX7_count_117 : decode cX7_count 117 = .ok (.getfield 12, 3) := by decide +kernel
theorem dX7_count_120 : decode cX7_count 120 = .ok (.invokevirtual 222, 3) := by decide +kernel
theorem dX7_count_123 : decode cX7_count 123 = .ok (.ireturn, 1) := by decide +kernel
theorem dX7_count_124 : decode cX7_count 124 = .ok (.aload_n 0, 1) := by decide +kernel
theorem dX7_count_125 : decode cX7_count 125 = .ok (.getfield 12, 3) := by decide +kernel
theorem dX7_count_128 : decode cX7_count 128 = .ok (.invokevirtual 225, 3) := by decide +kernel
theorem dX7_count_131 : decode cX7_count 131 = .ok (.ireturn, 1) := by decide +kernel
theorem dX7_count_132 : decode cX7_count 132 = .ok (.aload_n 0, 1) := by decide +kernel
theorem dX7_count_133 : decode cX7_count 133 = .ok (.getfield 12, 3) := by decide +kernel
theorem dX7_count_136 : decode cX7_count 136 = .ok (.getfield 228, 3) := by decide +kernel
theorem dX7_count_139 : decode cX7_count 139 = .ok (.ireturn, 1) := by decide +kernel
theorem dX7_count_140 : decode cX7_count 140 = .ok (.aload_n 0, 1) := by decide +kernel
theorem dX7_count_141 : decode cX7_count 141 = .ok (.getfield 12, 3) := by decide +kernel
theorem dX7_count_144 : decode cX7_count 144 = .ok (.getfield 231, 3) := by decide +kernel
theorem dX7_count_147 : decode cX7_count 147 = .ok (.ireturn, 1) := by decide +kernel
theorem dX7_count_148 : decode cX7_count 148 = .ok (.aload_n 0, 1) := by decide +kernel
theorem dX7_count_149 : decode cX7_count 149 = .ok (.getfield 12, 3) := by decide +kernel
theorem dX7_count_152 : decode cX7_count 152 = .ok (.getfield 234, 3) := by decide +kernel
theorem dX7_count_155 : decode cX7_count 155 = .ok (.ireturn, 1) := by decide +kernel
theorem dX7_count_156 : decode cX7_count 156 = .ok (.aload_n 0, 1) := by decide +kernel
theorem dX7_count_157 : decode cX7_count 157 = .ok (.getfield 12, 3) := by decide +kernel
theorem dX7_count_160 : decode cX7_count 160 = .ok (.getfield 237, 3) := by decide +kernel
theorem dX7_count_163 : decode cX7_count 163 = .ok (.ireturn, 1) := by decide +kernel
theorem dX7_count_164 : decode cX7_count 164 = .ok (.aload_n 0, 1) := by decide +kernel
theorem dX7_count_165 : decode cX7_count 165 = .ok (.aload_n 0, 1) := by decide +kernel
theorem dX7_count_166 : decode cX7_count 166 = .ok (.invokevirtual 240, 3) := by decide +kernel
theorem dX7_count_169 : decode cX7_count 169 = .ok (.invokevirtual 195, 3) := by decide +kernel
theorem dX7_count_172 : decode cX7_count 172 = .ok (.ireturn, 1) := by decide +kernel
theorem dX7_count_173 : decode cX7_count 173 = .ok (.aload_n 0, 1) := by decide +kernel
theorem dX7_count_174 : decode cX7_count 174 = .ok (.invokevirtual 240, 3) := by decide +kernel
theorem dX7_count_177 : decode cX7_count 177 = .ok (.ireturn, 1) := by decide +kernel
theorem dX7_count_178 : decode cX7_count 178 = .ok (.aload_n 0, 1) := by decide +kernel
theorem dX7_count_179 : decode cX7_count 179 = .ok (.getfield 12, 3) := by decide +kernel
theorem dX7_count_182 : decode cX7_count 182 = .ok (.iload_n 1, 1) := by decide +kernel
theorem dX7_count_183 : decode cX7_count 183 = .ok (.bipush 13, 2) := by decide +kernel
theorem dX7_count_185 : decode cX7_count 185 = .ok (.isub, 1) := by decide +kernel
theorem dX7_count_186 : decode cX7_count 186 = .ok (.invokevirtual 243, 3) := by decide +kernel
theorem dX7_count_189 : decode cX7_count 189 = .ok (.ireturn, 1) := by decide +kernel
theorem dX7_count_190 : decode cX7_count 190 = .ok (.aload_n 0, 1) := by decide +kernel
theorem dX7_count_191 : decode cX7_count 191 = .ok (.getfield 12, 3) := by decide +kernel
theorem dX7_count_194 : decode cX7_count 194 = .ok (.getfield 85, 3) := by decide +kernel
theorem dX7_count_197 : decode cX7_count 197 = .ok (.ireturn, 1) := by decide +kernel
theorem dX7_count_198 : decode cX7_count 198 = .ok (.aload_n 0, 1) := by decide +kernel
theorem dX7_count_199 : decode cX7_count 199 = .ok (.getfield 57, 3) := by decide +kernel
theorem dX7_count_202 : decode cX7_count 202 = .ok (.getfield 117, 3) := by decide +kernel
theorem dX7_count_205 : decode cX7_count 205 = .ok (.ireturn, 1) := by decide +kernel
theorem dX7_count_206 : decode cX7_count 206 = .ok (.aload_n 0, 1) := by decide +kernel
theorem dX7_count_207 : decode cX7_count 207 = .ok (.getfield 61, 3) := by decide +kernel
theorem dX7_count_210 : decode cX7_count 210 = .ok (.ireturn, 1) := by decide +kernel
theorem dX7_count_211 : decode cX7_count 211 = .ok (.aload_n 0, 1) := by decide +kernel
theorem dX7_count_212 : decode cX7_count 212 = .ok (.iload_n 1, 1) := by decide +kernel
theorem dX7_count_213 : decode cX7_count 213 = .ok (.invokevirtual 246, 3) := by decide +kernel
theorem dX7_count_216 : decode cX7_count 216 = .ok (.ireturn, 1) := by decide +kernel
set_option maxRecDepth 20000 in
theorem ggX7_density_X4_reach : GoodIn wsX7_density wsX4_reach := goodIn_r _ [6, 7, 8, 9, 10, 11, 12, 13, 14, 15, 16, 17, 18, 19, 20, 35, 36, 37, 38, 39, 40, 41, 42, 43, 44, 45] (by decide +kernel) (by decide +kernel)
set_option maxRecDepth 20000 in
theorem gX7_density_X4_reach : GoodIn wsX7_density (wsV RX7 222 RX4 yX4_reach wsX4_reach) := goodIn_app (goodIn_of _ (by decide +kernel)) ggX7_density_X4_reach
theorem dX7_density_0 : decode cX7_density 0 = .ok (.iconst 2, 1) := by decide +kernel
theorem dX7_density_1 : decode cX7_density 1 = .ok (.aload_n 0, 1) := by decide +kernel
theorem dX7_density_2 : decode cX7_density 2 = .ok (.getfield 12, 3) := by decide +kernel
theorem dX7_density_5 : decode cX7_density 5 = .ok (.invokevirtual 222, 3) := by decide +kernel
theorem dX7_density_8 : decode cX7_density 8 = .ok (.imul, 1) := by decide +kernel
theorem dX7_density_9 : decode cX7_density 9 = .ok (.iconst 1, 1) := by decide +kernel
theorem dX7_density_10 : decode cX7_density 10 = .ok (.iadd, 1) := by decide +kernel
theorem dX7_density_11 : decode cX7_density 11 = .ok (.istore_n 1, 1) := by decide +kernel
theorem dX7_density_12 : decode cX7_density 12 = .ok (.aload_n 0, 1) := by decide +kernel
theorem dX7_density_13 : decode cX7_density 13 = .ok (.getfield 12, 3) := by decide +kernel
theorem dX7_density_16 : decode cX7_density 16 = .ok (.getfield 210, 3) := by decide +kernel
theorem dX7_density_19 : decode cX7_density 19 = .ok (.i2d, 1) := by decide +kernel
theorem dX7_density_20 : decode cX7_density 20 = .ok (.iload_n 1, 1) := by decide +kernel
theorem dX7_density_21 : decode cX7_density 21 = .ok (.iload_n 1, 1) := by decide +kernel
theorem dX7_density_22 : decode cX7_density 22 = .ok (.imul, 1) := by decide +kernel
theorem dX7_density_23 : decode cX7_density 23 = .ok (.i2d, 1) := by decide +kernel
theorem dX7_density_24 : decode cX7_density 24 = .ok (.ddiv, 1) := by decide +kernel
theorem dX7_density_25 : decode cX7_density 25 = .ok (.dreturn, 1) := by decide +kernel
set_option maxRecDepth 20000 in
theorem ggX7_ifGone_X4_refusalToGo : GoodIn wsX7_ifGone wsX4_refusalToGo := goodIn_r _ [7, 8, 9, 10, 11, 12, 13, 14, 15, 16, 17, 6, 18, 19, 87, 88, 89, 90, 91, 92, 93, 94, 95, 96, 97] (by decide +kernel) (by decide +kernel)
set_option maxRecDepth 20000 in
theorem gX7_ifGone_X4_refusalToGo : GoodIn wsX7_ifGone (wsV RX7 88 RX4 yX4_refusalToGo wsX4_refusalToGo) := goodIn_app (goodIn_of _ (by decide +kernel)) ggX7_ifGone_X4_refusalToGo
set_option maxRecDepth 20000 in
theorem ggX7_ifGone_X2_cellOfRim : GoodIn wsX7_ifGone wsX2_cellOfRim := goodIn_r _ [14] (by decide +kernel) (by decide +kernel)
set_option maxRecDepth 20000 in
theorem gX7_ifGone_X2_cellOfRim : GoodIn wsX7_ifGone (va_wsS RX7 249 yX2_cellOfRim wsX2_cellOfRim) := goodIn_app (goodIn_of _ (by decide +kernel)) ggX7_ifGone_X2_cellOfRim
set_option maxRecDepth 20000 in
theorem ggX7_ifGone_X6_walkFrom : GoodIn wsX7_ifGone wsX6_walkFrom := goodIn_r _ [25, 26, 27, 28, 29, 30, 31, 32, 33, 6, 34, 35, 36, 37, 38, 24, 39, 40, 41, 42, 43, 44, 45, 10, 46, 15, 16, 17, 18, 19, 47, 48, 49, 50, 51, 52, 53, 54, 55, 56, 57, 58, 59, 82, 83, 84, 85, 86, 87, 88, 89, 90, 91, 92, 93, 94, 95, 96, 97] (by decide +kernel) (by decide +kernel)
set_option maxRecDepth 20000 in
theorem gX7_ifGone_X6_walkFrom : GoodIn wsX7_ifGone (wsV RX7 252 RX6 yX6_walkFrom wsX6_walkFrom) := goodIn_app (goodIn_of _ (by decide +kernel)) ggX7_ifGone_X6_walkFrom
set_option maxRecDepth 20000 in
theorem ggX7_ifGone_X6_answer : GoodIn wsX7_ifGone wsX6_answer := goodIn_r _ [63, 26, 27, 64, 65, 66, 24, 67, 30, 82, 83, 84, 85, 86] (by decide +kernel) (by decide +kernel)
set_option maxRecDepth 20000 in
theorem gX7_ifGone_X6_answer : GoodIn wsX7_ifGone (wsV RX7 256 RX6 yX6_answer wsX6_answer) := goodIn_app (goodIn_of _ (by decide +kernel)) ggX7_ifGone_X6_answer
theorem dX7_ifGone_0 : decode cX7_ifGone 0 = .ok (.iload_n 2, 1) := by decide +kernel
theorem dX7_ifGone_1 : decode cX7_ifGone 1 = .ok (.ifCond .lt 8, 3) := by decide +kernel
theorem dX7_ifGone_4 : decode cX7_ifGone 4 = .ok (.iload_n 2, 1) := by decide +kernel
theorem dX7_ifGone_5 : decode cX7_ifGone 5 = .ok (.iconst 2, 1) := by decide +kernel
theorem dX7_ifGone_6 : decode cX7_ifGone 6 = .ok (.if_icmp .le 5, 3) := by decide +kernel
theorem dX7_ifGone_9 : decode cX7_ifGone 9 = .ok (.iconst (-1), 1) := by decide +kernel
theorem dX7_ifGone_10 : decode cX7_ifGone 10 = .ok (.ireturn, 1) := by decide +kernel
theorem dX7_ifGone_11 : decode cX7_ifGone 11 = .ok (.aload_n 0, 1) := by decide +kernel
theorem dX7_ifGone_12 : decode cX7_ifGone 12 = .ok (.getfield 12, 3) := by decide +kernel
theorem dX7_ifGone_15 : decode cX7_ifGone 15 = .ok (.iload_n 1, 1) := by decide +kernel
theorem dX7_ifGone_16 : decode cX7_ifGone 16 = .ok (.invokevirtual 88, 3) := by decide +kernel
theorem dX7_ifGone_19 : decode cX7_ifGone 19 = .ok (.istore_n 3, 1) := by decide +kernel
theorem dX7_ifGone_20 : decode cX7_ifGone 20 = .ok (.iload_n 3, 1) := by decide +kernel
theorem dX7_ifGone_21 : decode cX7_ifGone 21 = .ok (.ifCond .eq 5, 3) := by decide +kernel
theorem dX7_ifGone_24 : decode cX7_ifGone 24 = .ok (.iload_n 3, 1) := by decide +kernel
theorem dX7_ifGone_25 : decode cX7_ifGone 25 = .ok (.ireturn, 1) := by decide +kernel
theorem dX7_ifGone_26 : decode cX7_ifGone 26 = .ok (.aload_n 0, 1) := by decide +kernel
theorem dX7_ifGone_27 : decode cX7_ifGone 27 = .ok (.getfield 29, 3) := by decide +kernel
theorem dX7_ifGone_30 : decode cX7_ifGone 30 = .ok (.aload_n 0, 1) := by decide +kernel
theorem dX7_ifGone_31 : decode cX7_ifGone 31 = .ok (.getfield 12, 3) := by decide +kernel
theorem dX7_ifGone_34 : decode cX7_ifGone 34 = .ok (.iload_n 1, 1) := by decide +kernel
theorem dX7_ifGone_35 : decode cX7_ifGone 35 = .ok (.invokestatic 249, 3) := by decide +kernel
theorem dX7_ifGone_38 : decode cX7_ifGone 38 = .ok (.invokevirtual 252, 3) := by decide +kernel
theorem dX7_ifGone_41 : decode cX7_ifGone 41 = .ok (.iload_n 2, 1) := by decide +kernel
theorem dX7_ifGone_42 : decode cX7_ifGone 42 = .ok (.lookupswitch 42 #[(0, 26), (1, 34)], 26) := by decide +kernel
theorem dX7_ifGone_68 : decode cX7_ifGone 68 = .ok (.aload_n 0, 1) := by decide +kernel
theorem dX7_ifGone_69 : decode cX7_ifGone 69 = .ok (.getfield 29, 3) := by decide +kernel
theorem dX7_ifGone_72 : decode cX7_ifGone 72 = .ok (.invokevirtual 256, 3) := by decide +kernel
theorem dX7_ifGone_75 : decode cX7_ifGone 75 = .ok (.ireturn, 1) := by decide +kernel
theorem dX7_ifGone_76 : decode cX7_ifGone 76 = .ok (.aload_n 0, 1) := by decide +kernel
theorem dX7_ifGone_77 : decode cX7_ifGone 77 = .ok (.getfield 29, 3) := by decide +kernel
theorem dX7_ifGone_80 : decode cX7_ifGone 80 = .ok (.getfield 259, 3) := by decide +kernel
theorem dX7_ifGone_83 : decode cX7_ifGone 83 = .ok (.ireturn, 1) := by decide +kernel
theorem dX7_ifGone_84 : decode cX7_ifGone 84 = .ok (.aload_n 0, 1) := by decide +kernel
theorem dX7_ifGone_85 : decode cX7_ifGone 85 = .ok (.getfield 29, 3) := by decide +kernel
theorem dX7_ifGone_88 : decode cX7_ifGone 88 = .ok (.getfield 260, 3) := by decide +kernel
theorem dX7_ifGone_91 : decode cX7_ifGone 91 = .ok (.ireturn, 1) := by decide +kernel
set_option maxRecDepth 20000 in
theorem ggX7_ifBroken_X4_refusalToBreak : GoodIn wsX7_ifBroken wsX4_refusalToBreak := goodIn_r _ [10, 11, 12, 13, 9, 14, 15, 16, 17, 18, 19, 20, 143, 144, 145, 146, 147, 148, 149, 150, 151, 152, 153] (by decide +kernel) (by decide +kernel)
set_option maxRecDepth 20000 in
theorem gX7_ifBroken_X4_refusalToBreak : GoodIn wsX7_ifBroken (wsV RX7 98 RX4 yX4_refusalToBreak wsX4_refusalToBreak) := goodIn_app (goodIn_of _ (by decide +kernel)) ggX7_ifBroken_X4_refusalToBreak
set_option maxRecDepth 20000 in
theorem ggX7_ifBroken_X4_takeOver : GoodIn wsX7_ifBroken wsX4_takeOver := goodIn_r _ [24, 25, 26, 27, 28, 29, 20, 30, 31, 32, 15, 33, 34, 35, 36, 37, 143, 144, 145, 146, 147, 148, 149, 150, 151, 152, 153] (by decide +kernel) (by decide +kernel)
set_option maxRecDepth 20000 in
theorem gX7_ifBroken_X4_takeOver : GoodIn wsX7_ifBroken (wsV RX7 263 RX4 yX4_takeOver wsX4_takeOver) := goodIn_app (goodIn_of _ (by decide +kernel)) ggX7_ifBroken_X4_takeOver
set_option maxRecDepth 20000 in
theorem ggX7_ifBroken_X0_dropTree : GoodIn wsX7_ifBroken wsX0_dropTree := goodIn_r _ [42, 43, 44, 45, 17, 18, 9, 19, 20, 11, 12, 13, 14, 15, 46, 47, 48, 49, 50, 25, 30, 36, 51, 52, 53, 54, 31, 55, 56, 57, 58, 143, 144, 145, 146, 147, 148, 149, 150, 151, 152, 153, 157, 158] (by decide +kernel) (by decide +kernel)
set_option maxRecDepth 20000 in
theorem gX7_ifBroken_X0_dropTree : GoodIn wsX7_ifBroken (wsV RX7 101 RX0 yX0_dropTree wsX0_dropTree) := goodIn_app (goodIn_of _ (by decide +kernel)) ggX7_ifBroken_X0_dropTree
set_option maxRecDepth 20000 in
theorem ggX7_ifBroken_X4_reach : GoodIn wsX7_ifBroken wsX4_reach := goodIn_r _ [62, 15, 25, 63, 64, 65, 66, 67, 68, 57, 69, 70, 71, 72, 73, 143, 144, 145, 146, 147, 148, 149, 150, 151, 152, 153] (by decide +kernel) (by decide +kernel)
set_option maxRecDepth 20000 in
theorem gX7_ifBroken_X4_reach : GoodIn wsX7_ifBroken (wsV RX7 222 RX4 yX4_reach wsX4_reach) := goodIn_app (goodIn_of _ (by decide +kernel)) ggX7_ifBroken_X4_reach
set_option maxRecDepth 20000 in
theorem ggX7_ifBroken_X5_read : GoodIn wsX7_ifBroken wsX5_read := goodIn_r _ [78, 79, 80, 17, 18, 9, 19, 20, 11, 12, 13, 14, 15, 81, 82, 83, 77, 84, 85, 86, 87, 88, 89, 90, 91, 92, 93, 94, 95, 96, 97, 98, 143, 144, 145, 146, 147, 148, 149, 150, 151, 152, 153, 159, 160, 161, 162, 163, 164, 165] (by decide +kernel) (by decide +kernel)
set_option maxRecDepth 20000 in
theorem gX7_ifBroken_X5_read : GoodIn wsX7_ifBroken (wsV RX7 172 RX5 yX5_read wsX5_read) := goodIn_app (goodIn_of _ (by decide +kernel)) ggX7_ifBroken_X5_read
set_option maxRecDepth 20000 in
theorem ggX7_ifBroken_X5_deepest : GoodIn wsX7_ifBroken wsX5_deepest := goodIn_r _ [102, 79, 85, 103, 64, 65, 66, 159, 160, 161, 162, 163, 164, 165] (by decide +kernel) (by decide +kernel)
set_option maxRecDepth 20000 in
theorem gX7_ifBroken_X5_deepest : GoodIn wsX7_ifBroken (wsV RX7 266 RX5 yX5_deepest wsX5_deepest) := goodIn_app (goodIn_of _ (by decide +kernel)) ggX7_ifBroken_X5_deepest
set_option maxRecDepth 20000 in
theorem ggX7_ifBroken_X3_read : GoodIn wsX7_ifBroken wsX3_read := goodIn_r _ [108, 109, 110, 111, 112, 113, 107, 114, 115, 116, 57, 117, 118, 119, 120, 121, 122, 123, 9, 124, 31, 125, 126, 127, 128, 12, 13, 14, 15, 143, 144, 145, 146, 147, 148, 149, 150, 151, 152, 153, 154, 155, 156] (by decide +kernel) (by decide +kernel)
set_option maxRecDepth 20000 in
theorem gX7_ifBroken_X3_read : GoodIn wsX7_ifBroken (wsV RX7 269 RX3 yX3_read wsX3_read) := goodIn_app (goodIn_of _ (by decide +kernel)) ggX7_ifBroken_X3_read
theorem dX7_ifBroken_0 : decode cX7_ifBroken 0 = .ok (.iload_n 2, 1) := by decide +kernel
theorem dX7_ifBroken_1 : decode cX7_ifBroken 1 = .ok (.ifCond .lt 8, 3) := by decide +kernel
theorem dX7_ifBroken_4 : decode cX7_ifBroken 4 = .ok (.iload_n 2, 1) := by decide +kernel
theorem dX7_ifBroken_5 : decode cX7_ifBroken 5 = .ok (.iconst 3, 1) := by decide +kernel
theorem dX7_ifBroken_6 : decode cX7_ifBroken 6 = .ok (.if_icmp .le 5, 3) := by decide +kernel
theorem dX7_ifBroken_9 : decode cX7_ifBroken 9 = .ok (.iconst (-1), 1) := by decide +kernel
theorem dX7_ifBroken_10 : decode cX7_ifBroken 10 = .ok (.ireturn, 1) := by decide +kernel
theorem dX7_ifBroken_11 : decode cX7_ifBroken 11 = .ok (.aload_n 0, 1) := by decide +kernel
theorem dX7_ifBroken_12 : decode cX7_ifBroken 12 = .ok (.getfield 12, 3) := by decide +kernel
theorem dX7_ifBroken_15 : decode cX7_ifBroken 15 = .ok (.iload_n 1, 1) := by decide +kernel
theorem dX7_ifBroken_16 : decode cX7_ifBroken 16 = .ok (.invokevirtual 98, 3) := by decide +kernel
theorem dX7_ifBroken_19 : decode cX7_ifBroken 19 = .ok (.istore_n 3, 1) := by decide +kernel
theorem dX7_ifBroken_20 : decode cX7_ifBroken 20 = .ok (.iload_n 3, 1) := by decide +kernel
theorem dX7_ifBroken_21 : decode cX7_ifBroken 21 = .ok (.ifCond .eq 5, 3) := by decide +kernel
theorem dX7_ifBroken_24 : decode cX7_ifBroken 24 = .ok (.iload_n 3, 1) := by decide +kernel
theorem dX7_ifBroken_25 : decode cX7_ifBroken 25 = .ok (.ireturn, 1) := by decide +kernel
theorem dX7_ifBroken_26 : decode cX7_ifBroken 26 = .ok (.aload_n 0, 1) := by decide +kernel
theorem dX7_ifBroken_27 : decode cX7_ifBroken 27 = .ok (.getfield 19, 3) := by decide +kernel
theorem dX7_ifBroken_30 : decode cX7_ifBroken 30 = .ok (.aload_n 0, 1) := by decide +kernel
theorem dX7_ifBroken_31 : decode cX7_ifBroken 31 = .ok (.getfield 12, 3) := by decide +kernel
theorem dX7_ifBroken_34 : decode cX7_ifBroken 34 = .ok (.invokevirtual 263, 3) := by decide +kernel
theorem dX7_ifBroken_37 : decode cX7_ifBroken 37 = .ok (.aload_n 0, 1) := by decide +kernel
theorem dX7_ifBroken_38 : decode cX7_ifBroken 38 = .ok (.getfield 36, 3) := by decide +kernel
theorem dX7_ifBroken_41 : decode cX7_ifBroken 41 = .ok (.aload_n 0, 1) := by decide +kernel
theorem dX7_ifBroken_42 : decode cX7_ifBroken 42 = .ok (.getfield 19, 3) := by decide +kernel
theorem dX7_ifBroken_45 : decode cX7_ifBroken 45 = .ok (.iload_n 1, 1) := by decide +kernel
theorem dX7_ifBroken_46 : decode cX7_ifBroken 46 = .ok (.invokevirtual 101, 3) := by decide +kernel
theorem dX7_ifBroken_49 : decode cX7_ifBroken 49 = .ok (.pop, 1) := by decide +kernel
theorem dX7_ifBroken_50 : decode cX7_ifBroken 50 = .ok (.iload_n 2, 1) := by decide +kernel
theorem dX7_ifBroken_51 : decode cX7_ifBroken 51 = .ok (.tableswitch 60 0 2 #[25, 33, 41], 25) := by decide +kernel
theorem dX7_ifBroken_76 : decode cX7_ifBroken 76 = .ok (.aload_n 0, 1) := by decide +kernel
theorem dX7_ifBroken_77 : decode cX7_ifBroken 77 = .ok (.getfield 19, 3) := by decide +kernel
theorem dX7_ifBroken_80 : decode cX7_ifBroken 80 = .ok (.getfield 210, 3) := by decide +kernel
theorem dX7_ifBroken_83 : decode cX7_ifBroken 83 = .ok (.ireturn, 1) := by decide +kernel
theorem dX7_ifBroken_84 : decode cX7_ifBroken 84 = .ok (.aload_n 0, 1) := by decide +kernel
theorem dX7_ifBroken_85 : decode cX7_ifBroken 85 = .ok (.getfield 19, 3) := by decide +kernel
theorem dX7_ifBroken_88 : decode cX7_ifBroken 88 = .ok (.invokevirtual 222, 3) := by decide +kernel
theorem dX7_ifBroken_91 : decode cX7_ifBroken 91 = .ok (.ireturn, 1) := by decide +kernel
theorem dX7_ifBroken_92 : decode cX7_ifBroken 92 = .ok (.aload_n 0, 1) := by decide +kernel
theorem dX7_ifBroken_93 : decode cX7_ifBroken 93 = .ok (.getfield 43, 3) := by decide +kernel
theorem dX7_ifBroken_96 : decode cX7_ifBroken 96 = .ok (.aload_n 0, 1) := by decide +kernel
theorem dX7_ifBroken_97 : decode cX7_ifBroken 97 = .ok (.getfield 19, 3) := by decide +kernel
theorem dX7_ifBroken_100 : decode cX7_ifBroken 100 = .ok (.invokevirtual 172, 3) := by decide +kernel
theorem dX7_ifBroken_103 : decode cX7_ifBroken 103 = .ok (.aload_n 0, 1) := by decide +kernel
theorem dX7_ifBroken_104 : decode cX7_ifBroken 104 = .ok (.getfield 43, 3) := by decide +kernel
theorem dX7_ifBroken_107 : decode cX7_ifBroken 107 = .ok (.invokevirtual 266, 3) := by decide +kernel
theorem dX7_ifBroken_110 : decode cX7_ifBroken 110 = .ok (.ireturn, 1) := by decide +kernel
theorem dX7_ifBroken_111 : decode cX7_ifBroken 111 = .ok (.aload_n 0, 1) := by decide +kernel
theorem dX7_ifBroken_112 : decode cX7_ifBroken 112 = .ok (.getfield 50, 3) := by decide +kernel
theorem dX7_ifBroken_115 : decode cX7_ifBroken 115 = .ok (.aload_n 0, 1) := by decide +kernel
theorem dX7_ifBroken_116 : decode cX7_ifBroken 116 = .ok (.getfield 19, 3) := by decide +kernel
theorem dX7_ifBroken_119 : decode cX7_ifBroken 119 = .ok (.invokevirtual 269, 3) := by decide +kernel
theorem dX7_ifBroken_122 : decode cX7_ifBroken 122 = .ok (.aload_n 0, 1) := by decide +kernel
theorem dX7_ifBroken_123 : decode cX7_ifBroken 123 = .ok (.getfield 50, 3) := by decide +kernel
theorem dX7_ifBroken_126 : decode cX7_ifBroken 126 = .ok (.getfield 270, 3) := by decide +kernel
theorem dX7_ifBroken_129 : decode cX7_ifBroken 129 = .ok (.ireturn, 1) := by decide +kernel
set_option maxRecDepth 20000 in
theorem ggX7_undo_X4_takeOver : GoodIn wsX7_undo wsX4_takeOver := goodIn_r _ [8, 9, 10, 11, 12, 13, 14, 15, 16, 17, 18, 19, 20, 21, 22, 23, 38, 39, 40, 41, 42, 43, 44, 45, 46, 47, 48] (by decide +kernel) (by decide +kernel)
set_option maxRecDepth 20000 in
theorem gX7_undo_X4_takeOver : GoodIn wsX7_undo (wsV RX7 263 RX4 yX4_takeOver wsX4_takeOver) := goodIn_app (goodIn_of _ (by decide +kernel)) ggX7_undo_X4_takeOver
theorem dX7_undo_0 : decode cX7_undo 0 = .ok (.aload_n 0, 1) := by decide +kernel
theorem dX7_undo_1 : decode cX7_undo 1 = .ok (.getfield 61, 3) := by decide +kernel
theorem dX7_undo_4 : decode cX7_undo 4 = .ok (.iconst 1, 1) := by decide +kernel
theorem dX7_undo_5 : decode cX7_undo 5 = .ok (.if_icmp .ge 6, 3) := by decide +kernel
theorem dX7_undo_8 : decode cX7_undo 8 = .ok (.bipush (-2), 2) := by decide +kernel
theorem dX7_undo_10 : decode cX7_undo 10 = .ok (.ireturn, 1) := by decide +kernel
theorem dX7_undo_11 : decode cX7_undo 11 = .ok (.aload_n 0, 1) := by decide +kernel
theorem dX7_undo_12 : decode cX7_undo 12 = .ok (.dup, 1) := by decide +kernel
theorem dX7_undo_13 : decode cX7_undo 13 = .ok (.getfield 61, 3) := by decide +kernel
theorem dX7_undo_16 : decode cX7_undo 16 = .ok (.iconst 1, 1) := by decide +kernel
theorem dX7_undo_17 : decode cX7_undo 17 = .ok (.isub, 1) := by decide +kernel
theorem dX7_undo_18 : decode cX7_undo 18 = .ok (.putfield 61, 3) := by decide +kernel
theorem dX7_undo_21 : decode cX7_undo 21 = .ok (.aload_n 0, 1) := by decide +kernel
theorem dX7_undo_22 : decode cX7_undo 22 = .ok (.getfield 12, 3) := by decide +kernel
theorem dX7_undo_25 : decode cX7_undo 25 = .ok (.aload_n 0, 1) := by decide +kernel
theorem dX7_undo_26 : decode cX7_undo 26 = .ok (.getfield 22, 3) := by decide +kernel
theorem dX7_undo_29 : decode cX7_undo 29 = .ok (.aload_n 0, 1) := by decide +kernel
theorem dX7_undo_30 : decode cX7_undo 30 = .ok (.getfield 61, 3) := by decide +kernel
theorem dX7_undo_33 : decode cX7_undo 33 = .ok (.aaload, 1) := by decide +kernel
theorem dX7_undo_34 : decode cX7_undo 34 = .ok (.invokevirtual 263, 3) := by decide +kernel
theorem dX7_undo_37 : decode cX7_undo 37 = .ok (.aload_n 0, 1) := by decide +kernel
theorem dX7_undo_38 : decode cX7_undo 38 = .ok (.getfield 61, 3) := by decide +kernel
theorem dX7_undo_41 : decode cX7_undo 41 = .ok (.ireturn, 1) := by decide +kernel
set_option maxRecDepth 20000 in
theorem ggX7_save_X4_takeOver : GoodIn wsX7_save wsX4_takeOver := goodIn_r _ [8, 9, 10, 11, 12, 13, 14, 15, 16, 17, 18, 19, 20, 21, 22, 23, 38, 39, 40, 41, 42, 43, 44, 45, 46, 47, 48] (by decide +kernel) (by decide +kernel)
set_option maxRecDepth 20000 in
theorem gX7_save_X4_takeOver : GoodIn wsX7_save (wsV RX7 263 RX4 yX4_takeOver wsX4_takeOver) := goodIn_app (goodIn_of _ (by decide +kernel)) ggX7_save_X4_takeOver
theorem dX7_save_0 : decode cX7_save 0 = .ok (.aload_n 0, 1) := by decide +kernel
theorem dX7_save_1 : decode cX7_save 1 = .ok (.getfield 16, 3) := by decide +kernel
theorem dX7_save_4 : decode cX7_save 4 = .ok (.aload_n 0, 1) := by decide +kernel
theorem dX7_save_5 : decode cX7_save 5 = .ok (.getfield 12, 3) := by decide +kernel
theorem dX7_save_8 : decode cX7_save 8 = .ok (.invokevirtual 263, 3) := by decide +kernel
theorem dX7_save_11 : decode cX7_save 11 = .ok (.aload_n 0, 1) := by decide +kernel
theorem dX7_save_12 : decode cX7_save 12 = .ok (.iconst 1, 1) := by decide +kernel
theorem dX7_save_13 : decode cX7_save 13 = .ok (.putfield 65, 3) := by decide +kernel
theorem dX7_save_16 : decode cX7_save 16 = .ok (.aload_n 0, 1) := by decide +kernel
theorem dX7_save_17 : decode cX7_save 17 = .ok (.getfield 12, 3) := by decide +kernel
theorem dX7_save_20 : decode cX7_save 20 = .ok (.getfield 210, 3) := by decide +kernel
theorem dX7_save_23 : decode cX7_save 23 = .ok (.ireturn, 1) := by decide +kernel
set_option maxRecDepth 20000 in
theorem ggX7_restore_X7_record : GoodIn wsX7_restore wsX7_record := goodIn_r _ [8, 9, 10, 2, 11, 12, 13, 7, 14, 15, 16, 17, 18, 19, 20, 21, 22, 23, 24, 25, 26, 27, 28, 29, 30, 31, 32, 33, 34, 35, 36, 37, 38, 39, 40, 41, 42, 43, 44, 45, 46, 47, 48, 49, 50, 51, 52, 53, 54, 55, 56, 57, 58, 59] (by decide +kernel) (by decide +kernel)
set_option maxRecDepth 20000 in
theorem gX7_restore_X7_record : GoodIn wsX7_restore (wsV RX7 82 RX7 yX7_record wsX7_record) := goodIn_app (goodIn_of _ (by decide +kernel)) ggX7_restore_X7_record
set_option maxRecDepth 20000 in
theorem ggX7_restore_X4_takeOver : GoodIn wsX7_restore wsX4_takeOver := goodIn_r _ [19, 20, 21, 22, 23, 24, 25, 26, 27, 28, 29, 30, 31, 32, 33, 34, 49, 50, 51, 52, 53, 54, 55, 56, 57, 58, 59] (by decide +kernel) (by decide +kernel)
set_option maxRecDepth 20000 in
theorem gX7_restore_X4_takeOver : GoodIn wsX7_restore (wsV RX7 263 RX4 yX4_takeOver wsX4_takeOver) := goodIn_app (goodIn_of _ (by decide +kernel)) ggX7_restore_X4_takeOver
theorem dX7_restore_0 : decode cX7_restore 0 = .ok (.aload_n 0, 1) := by decide +kernel
theorem dX7_restore_1 : decode cX7_restore 1 = .ok (.getfield 65, 3) := by decide +kernel
theorem dX7_restore_4 : decode cX7_restore 4 = .ok (.ifCond .ne 6, 3) := by decide +kernel
theorem dX7_restore_7 : decode cX7_restore 7 = .ok (.bipush (-2), 2) := by decide +kernel
theorem dX7_restore_9 : decode cX7_restore 9 = .ok (.ireturn, 1) := by decide +kernel
theorem dX7_restore_10 : decode cX7_restore 10 = .ok (.aload_n 0, 1) := by decide +kernel
theorem dX7_restore_11 : decode cX7_restore 11 = .ok (.invokevirtual 82, 3) := by decide +kernel
theorem dX7_restore_14 : decode cX7_restore 14 = .ok (.aload_n 0, 1) := by decide +kernel
theorem dX7_restore_15 : decode cX7_restore 15 = .ok (.getfield 12, 3) := by decide +kernel
theorem dX7_restore_18 : decode cX7_restore 18 = .ok (.aload_n 0, 1) := by decide +kernel
theorem dX7_restore_19 : decode cX7_restore 19 = .ok (.getfield 16, 3) := by decide +kernel
theorem dX7_restore_22 : decode cX7_restore 22 = .ok (.invokevirtual 263, 3) := by decide +kernel
theorem dX7_restore_25 : decode cX7_restore 25 = .ok (.aload_n 0, 1) := by decide +kernel
theorem dX7_restore_26 : decode cX7_restore 26 = .ok (.getfield 12, 3) := by decide +kernel
theorem dX7_restore_29 : decode cX7_restore 29 = .ok (.getfield 210, 3) := by decide +kernel
theorem dX7_restore_32 : decode cX7_restore 32 = .ok (.ireturn, 1) := by decide +kernel
set_option maxRecDepth 20000 in
theorem ggX7_record_X7_dropOldest : GoodIn wsX7_record wsX7_dropOldest := goodIn_r _ [8, 2, 1, 29, 30, 31, 32, 33, 34, 35, 36, 37, 38, 39, 40, 41, 42] (by decide +kernel) (by decide +kernel)
set_option maxRecDepth 20000 in
theorem gX7_record_X7_dropOldest : GoodIn wsX7_record (wsV RX7 273 RX7 yX7_dropOldest wsX7_dropOldest) := goodIn_app (goodIn_of _ (by decide +kernel)) ggX7_record_X7_dropOldest
set_option maxRecDepth 20000 in
theorem ggX7_record_X4_takeOver : GoodIn wsX7_record wsX4_takeOver := goodIn_r _ [13, 14, 15, 16, 17, 18, 19, 20, 21, 22, 23, 24, 25, 26, 27, 28, 43, 44, 45, 46, 47, 48, 49, 50, 51, 52, 53] (by decide +kernel) (by decide +kernel)
set_option maxRecDepth 20000 in
theorem gX7_record_X4_takeOver : GoodIn wsX7_record (wsV RX7 263 RX4 yX4_takeOver wsX4_takeOver) := goodIn_app (goodIn_of _ (by decide +kernel)) ggX7_record_X4_takeOver
theorem dX7_record_0 : decode cX7_record 0 = .ok (.aload_n 0, 1) := by decide +kernel
theorem dX7_record_1 : decode cX7_record 1 = .ok (.getfield 61, 3) := by decide +kernel
theorem dX7_record_4 : decode cX7_record 4 = .ok (.aload_n 0, 1) := by decide +kernel
theorem dX7_record_5 : decode cX7_record 5 = .ok (.getfield 22, 3) := by decide +kernel
theorem dX7_record_8 : decode cX7_record 8 = .ok (.arraylength, 1) := by decide +kernel
theorem dX7_record_9 : decode cX7_record 9 = .ok (.if_icmp .lt 7, 3) := by decide +kernel
theorem dX7_record_12 : decode cX7_record 12 = .ok (.aload_n 0, 1) := by decide +kernel
theorem dX7_record_13 : decode cX7_record 13 = .ok (.invokevirtual 273, 3) := by decide +kernel
theorem dX7_record_16 : decode cX7_record 16 = .ok (.aload_n 0, 1) := by decide +kernel
theorem dX7_record_17 : decode cX7_record 17 = .ok (.getfield 22, 3) := by decide +kernel
theorem dX7_record_20 : decode cX7_record 20 = .ok (.aload_n 0, 1) := by decide +kernel
theorem dX7_record_21 : decode cX7_record 21 = .ok (.getfield 61, 3) := by decide +kernel
theorem dX7_record_24 : decode cX7_record 24 = .ok (.aaload, 1) := by decide +kernel
theorem dX7_record_25 : decode cX7_record 25 = .ok (.aload_n 0, 1) := by decide +kernel
theorem dX7_record_26 : decode cX7_record 26 = .ok (.getfield 12, 3) := by decide +kernel
theorem dX7_record_29 : decode cX7_record 29 = .ok (.invokevirtual 263, 3) := by decide +kernel
theorem dX7_record_32 : decode cX7_record 32 = .ok (.aload_n 0, 1) := by decide +kernel
theorem dX7_record_33 : decode cX7_record 33 = .ok (.dup, 1) := by decide +kernel
theorem dX7_record_34 : decode cX7_record 34 = .ok (.getfield 61, 3) := by decide +kernel
theorem dX7_record_37 : decode cX7_record 37 = .ok (.iconst 1, 1) := by decide +kernel
theorem dX7_record_38 : decode cX7_record 38 = .ok (.iadd, 1) := by decide +kernel
theorem dX7_record_39 : decode cX7_record 39 = .ok (.putfield 61, 3) := by decide +kernel
theorem dX7_record_42 : decode cX7_record 42 = .ok (.return_, 1) := by decide +kernel
theorem dX7_dropOldest_0 : decode cX7_dropOldest 0 = .ok (.aload_n 0, 1) := by decide +kernel
theorem dX7_dropOldest_1 : decode cX7_dropOldest 1 = .ok (.getfield 22, 3) := by decide +kernel
theorem dX7_dropOldest_4 : decode cX7_dropOldest 4 = .ok (.iconst 0, 1) := by decide +kernel
theorem dX7_dropOldest_5 : decode cX7_dropOldest 5 = .ok (.aaload, 1) := by decide +kernel
theorem dX7_dropOldest_6 : decode cX7_dropOldest 6 = .ok (.astore_n 1, 1) := by decide +kernel
theorem dX7_dropOldest_7 : decode cX7_dropOldest 7 = .ok (.iconst 1, 1) := by decide +kernel
theorem dX7_dropOldest_8 : decode cX7_dropOldest 8 = .ok (.istore_n 2, 1) := by decide +kernel
theorem dX7_dropOldest_9 : decode cX7_dropOldest 9 = .ok (.iload_n 2, 1) := by decide +kernel
theorem dX7_dropOldest_10 : decode cX7_dropOldest 10 = .ok (.aload_n 0, 1) := by decide +kernel
theorem dX7_dropOldest_11 : decode cX7_dropOldest 11 = .ok (.getfield 22, 3) := by decide +kernel
theorem dX7_dropOldest_14 : decode cX7_dropOldest 14 = .ok (.arraylength, 1) := by decide +kernel
theorem dX7_dropOldest_15 : decode cX7_dropOldest 15 = .ok (.if_icmp .ge 23, 3) := by decide +kernel
theorem dX7_dropOldest_18 : decode cX7_dropOldest 18 = .ok (.aload_n 0, 1) := by decide +kernel
theorem dX7_dropOldest_19 : decode cX7_dropOldest 19 = .ok (.getfield 22, 3) := by decide +kernel
theorem dX7_dropOldest_22 : decode cX7_dropOldest 22 = .ok (.iload_n 2, 1) := by decide +kernel
theorem dX7_dropOldest_23 : decode cX7_dropOldest 23 = .ok (.iconst 1, 1) := by decide +kernel
theorem dX7_dropOldest_24 : decode cX7_dropOldest 24 = .ok (.isub, 1) := by decide +kernel
theorem dX7_dropOldest_25 : decode cX7_dropOldest 25 = .ok (.aload_n 0, 1) := by decide +kernel
theorem dX7_dropOldest_26 : decode cX7_dropOldest 26 = .ok (.getfield 22, 3) := by decide +kernel
theorem dX7_dropOldest_29 : decode cX7_dropOldest 29 = .ok (.iload_n 2, 1) := by decide +kernel
theorem dX7_dropOldest_30 : decode cX7_dropOldest 30 = .ok (.aaload, 1) := by decide +kernel
theorem dX7_dropOldest_31 : decode cX7_dropOldest 31 = .ok (.aastore, 1) := by decide +kernel
theorem dX7_dropOldest_32 : decode cX7_dropOldest 32 = .ok (.iinc 2 1, 3) := by decide +kernel
theorem dX7_dropOldest_35 : decode cX7_dropOldest 35 = .ok (.goto (-26), 3) := by decide +kernel
theorem dX7_dropOldest_38 : decode cX7_dropOldest 38 = .ok (.aload_n 0, 1) := by decide +kernel
theorem dX7_dropOldest_39 : decode cX7_dropOldest 39 = .ok (.getfield 22, 3) := by decide +kernel
theorem dX7_dropOldest_42 : decode cX7_dropOldest 42 = .ok (.aload_n 0, 1) := by decide +kernel
theorem dX7_dropOldest_43 : decode cX7_dropOldest 43 = .ok (.getfield 22, 3) := by decide +kernel
theorem dX7_dropOldest_46 : decode cX7_dropOldest 46 = .ok (.arraylength, 1) := by decide +kernel
theorem dX7_dropOldest_47 : decode cX7_dropOldest 47 = .ok (.iconst 1, 1) := by decide +kernel
theorem dX7_dropOldest_48 : decode cX7_dropOldest 48 = .ok (.isub, 1) := by decide +kernel
theorem dX7_dropOldest_49 : decode cX7_dropOldest 49 = .ok (.aload_n 1, 1) := by decide +kernel
theorem dX7_dropOldest_50 : decode cX7_dropOldest 50 = .ok (.aastore, 1) := by decide +kernel
theorem dX7_dropOldest_51 : decode cX7_dropOldest 51 = .ok (.aload_n 0, 1) := by decide +kernel
theorem dX7_dropOldest_52 : decode cX7_dropOldest 52 = .ok (.aload_n 0, 1) := by decide +kernel
theorem dX7_dropOldest_53 : decode cX7_dropOldest 53 = .ok (.getfield 22, 3) := by decide +kernel
theorem dX7_dropOldest_56 : decode cX7_dropOldest 56 = .ok (.arraylength, 1) := by decide +kernel
theorem dX7_dropOldest_57 : decode cX7_dropOldest 57 = .ok (.iconst 1, 1) := by decide +kernel
theorem dX7_dropOldest_58 : decode cX7_dropOldest 58 = .ok (.isub, 1) := by decide +kernel
theorem dX7_dropOldest_59 : decode cX7_dropOldest 59 = .ok (.putfield 61, 3) := by decide +kernel
theorem dX7_dropOldest_62 : decode cX7_dropOldest 62 = .ok (.return_, 1) := by decide +kernel
set_option maxRecDepth 20000 in
theorem ggX7_letWalk_X2_cellOfRim : GoodIn wsX7_letWalk wsX2_cellOfRim := goodIn_r _ [6] (by decide +kernel) (by decide +kernel)
set_option maxRecDepth 20000 in
theorem gX7_letWalk_X2_cellOfRim : GoodIn wsX7_letWalk (va_wsS RX7 249 yX2_cellOfRim wsX2_cellOfRim) := goodIn_app (goodIn_of _ (by decide +kernel)) ggX7_letWalk_X2_cellOfRim
set_option maxRecDepth 20000 in
theorem ggX7_letWalk_X6_walkFrom : GoodIn wsX7_letWalk wsX6_walkFrom := goodIn_r _ [11, 12, 13, 14, 15, 16, 17, 18, 19, 20, 21, 22, 23, 24, 25, 10, 26, 27, 28, 29, 30, 31, 32, 5, 33, 34, 35, 36, 37, 38, 39, 40, 41, 42, 43, 44, 45, 46, 47, 48, 49, 50, 51, 98, 99, 100, 101, 102, 103, 104, 105, 106, 107, 108, 109, 110, 111, 112, 113] (by decide +kernel) (by decide +kernel)
set_option maxRecDepth 20000 in
theorem gX7_letWalk_X6_walkFrom : GoodIn wsX7_letWalk (wsV RX7 252 RX6 yX6_walkFrom wsX6_walkFrom) := goodIn_app (goodIn_of _ (by decide +kernel)) ggX7_letWalk_X6_walkFrom
set_option maxRecDepth 20000 in
theorem ggX7_letWalk_X4_settle : GoodIn wsX7_letWalk wsX4_settle := goodIn_r _ [55, 56, 57, 58, 59, 60, 61, 62, 10, 63, 16, 64, 65, 66, 20, 67, 68, 69, 70, 71, 72, 73, 5, 74, 75, 76, 77, 78, 38, 98, 99, 100, 101, 102, 103, 104, 105, 106, 107, 108, 109, 110, 111, 112, 113] (by decide +kernel) (by decide +kernel)
set_option maxRecDepth 20000 in
theorem gX7_letWalk_X4_settle : GoodIn wsX7_letWalk (wsV RX7 276 RX4 yX4_settle wsX4_settle) := goodIn_app (goodIn_of _ (by decide +kernel)) ggX7_letWalk_X4_settle
set_option maxRecDepth 20000 in
theorem ggX7_letWalk_X6_answer : GoodIn wsX7_letWalk wsX6_answer := goodIn_r _ [82, 12, 13, 83, 61, 62, 10, 63, 16, 98, 99, 100, 101, 102] (by decide +kernel) (by decide +kernel)
set_option maxRecDepth 20000 in
theorem gX7_letWalk_X6_answer : GoodIn wsX7_letWalk (wsV RX7 256 RX6 yX6_answer wsX6_answer) := goodIn_app (goodIn_of _ (by decide +kernel)) ggX7_letWalk_X6_answer
