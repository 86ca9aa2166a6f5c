section
-- ===== PART A: goes FIRST, ahead of the names: the tables' words, and 'selects' of the private methods out of them =====
/-- a private method of a class that the tables say can be made, by its rows of tables_1 -/
def lw_okq (q : MethodName × Nat) : Prop := (q.1.cls ≠ "java/lang/invoke/MethodHandle" ∧ q.1.cls ≠ "java/lang/invoke/VarHandle") ∧ Cond.instantiable q.1.cls q.2 ∈ tables_1 ∧ Cond.privateMethod q.1 ∈ tables_1 ∧ Cond.instanceMethod q.1 ∈ tables_1
theorem lw_p0 : lw_okq (⟨"RimGrains$State", "add", "(III)V"⟩, 11) := ⟨⟨by decide +kernel, by decide +kernel⟩, List.mem_of_getElem? (i := 21) (by decide +kernel), List.mem_of_getElem? (i := 212) (by decide +kernel), List.mem_of_getElem? (i := 213) (by decide +kernel)⟩
theorem lw_p1 : lw_okq (⟨"RimGrains", "record", "()V"⟩, 14) := ⟨⟨by decide +kernel, by decide +kernel⟩, List.mem_of_getElem? (i := 13) (by decide +kernel), List.mem_of_getElem? (i := 266) (by decide +kernel), List.mem_of_getElem? (i := 267) (by decide +kernel)⟩
theorem lw_p2 : lw_okq (⟨"RimGrains", "dropOldest", "()V"⟩, 14) := ⟨⟨by decide +kernel, by decide +kernel⟩, List.mem_of_getElem? (i := 13) (by decide +kernel), List.mem_of_getElem? (i := 270) (by decide +kernel), List.mem_of_getElem? (i := 271) (by decide +kernel)⟩
theorem lw_p3 : lw_okq (⟨"RimGrains", "letWalk", "(I)I"⟩, 14) := ⟨⟨by decide +kernel, by decide +kernel⟩, List.mem_of_getElem? (i := 13) (by decide +kernel), List.mem_of_getElem? (i := 303) (by decide +kernel), List.mem_of_getElem? (i := 304) (by decide +kernel)⟩
theorem lw_p4 : lw_okq (⟨"RimGrains$Walk", "catchesHold", "(LRimGrains$State;)Z"⟩, 5) := ⟨⟨by decide +kernel, by decide +kernel⟩, List.mem_of_getElem? (i := 73) (by decide +kernel), List.mem_of_getElem? (i := 316) (by decide +kernel), List.mem_of_getElem? (i := 317) (by decide +kernel)⟩
theorem lw_p5 : lw_okq (⟨"RimGrains$Walk", "draw", "()I"⟩, 5) := ⟨⟨by decide +kernel, by decide +kernel⟩, List.mem_of_getElem? (i := 73) (by decide +kernel), List.mem_of_getElem? (i := 327) (by decide +kernel), List.mem_of_getElem? (i := 328) (by decide +kernel)⟩
theorem lw_p6 : lw_okq (⟨"RimGrains$Walk", "makesStep", "(LRimGrains$State;)Z"⟩, 5) := ⟨⟨by decide +kernel, by decide +kernel⟩, List.mem_of_getElem? (i := 73) (by decide +kernel), List.mem_of_getElem? (i := 334) (by decide +kernel), List.mem_of_getElem? (i := 335) (by decide +kernel)⟩
theorem lw_p7 : lw_okq (⟨"RimGrains", "dropSticks", "()Z"⟩, 14) := ⟨⟨by decide +kernel, by decide +kernel⟩, List.mem_of_getElem? (i := 13) (by decide +kernel), List.mem_of_getElem? (i := 357) (by decide +kernel), List.mem_of_getElem? (i := 358) (by decide +kernel)⟩
theorem lw_p8 : lw_okq (⟨"RimGrains", "answerOfDeed", "(CI)I"⟩, 14) := ⟨⟨by decide +kernel, by decide +kernel⟩, List.mem_of_getElem? (i := 13) (by decide +kernel), List.mem_of_getElem? (i := 457) (by decide +kernel), List.mem_of_getElem? (i := 458) (by decide +kernel)⟩
theorem lw_p9 : lw_okq (⟨"RimGrains$Trees", "readFromHolder", "(II)V"⟩, 7) := ⟨⟨by decide +kernel, by decide +kernel⟩, List.mem_of_getElem? (i := 115) (by decide +kernel), List.mem_of_getElem? (i := 489) (by decide +kernel), List.mem_of_getElem? (i := 490) (by decide +kernel)⟩
theorem lw_p10 : lw_okq (⟨"RimGrains$Trees", "addToHolder", "(II)V"⟩, 7) := ⟨⟨by decide +kernel, by decide +kernel⟩, List.mem_of_getElem? (i := 115) (by decide +kernel), List.mem_of_getElem? (i := 493) (by decide +kernel), List.mem_of_getElem? (i := 494) (by decide +kernel)⟩
theorem lw_p11 : lw_okq (⟨"RimGrains", "catchOf", "(I)I"⟩, 14) := ⟨⟨by decide +kernel, by decide +kernel⟩, List.mem_of_getElem? (i := 13) (by decide +kernel), List.mem_of_getElem? (i := 502) (by decide +kernel), List.mem_of_getElem? (i := 503) (by decide +kernel)⟩
theorem lw_p12 : lw_okq (⟨"RimGrains", "bestCatcher", "()I"⟩, 14) := ⟨⟨by decide +kernel, by decide +kernel⟩, List.mem_of_getElem? (i := 13) (by decide +kernel), List.mem_of_getElem? (i := 572) (by decide +kernel), List.mem_of_getElem? (i := 573) (by decide +kernel)⟩
theorem lw_p13 : lw_okq (⟨"RimGrains", "countOfTrees", "(I)I"⟩, 14) := ⟨⟨by decide +kernel, by decide +kernel⟩, List.mem_of_getElem? (i := 13) (by decide +kernel), List.mem_of_getElem? (i := 581) (by decide +kernel), List.mem_of_getElem? (i := 582) (by decide +kernel)⟩
theorem lw_p14 : lw_okq (⟨"RimGrainsModel", "roots", "(I)V"⟩, 21) := ⟨⟨by decide +kernel, by decide +kernel⟩, List.mem_of_getElem? (i := 621) (by decide +kernel), List.mem_of_getElem? (i := 627) (by decide +kernel), List.mem_of_getElem? (i := 628) (by decide +kernel)⟩
theorem lw_p15 : lw_okq (⟨"RimGrainsModel", "adds", "(III)V"⟩, 21) := ⟨⟨by decide +kernel, by decide +kernel⟩, List.mem_of_getElem? (i := 621) (by decide +kernel), List.mem_of_getElem? (i := 637) (by decide +kernel), List.mem_of_getElem? (i := 638) (by decide +kernel)⟩
def lw_privs_1 : List (MethodName × Nat) := [(⟨"RimGrains$State", "add", "(III)V"⟩, 11), (⟨"RimGrains", "record", "()V"⟩, 14), (⟨"RimGrains", "dropOldest", "()V"⟩, 14), (⟨"RimGrains", "letWalk", "(I)I"⟩, 14), (⟨"RimGrains$Walk", "catchesHold", "(LRimGrains$State;)Z"⟩, 5), (⟨"RimGrains$Walk", "draw", "()I"⟩, 5), (⟨"RimGrains$Walk", "makesStep", "(LRimGrains$State;)Z"⟩, 5), (⟨"RimGrains", "dropSticks", "()Z"⟩, 14), (⟨"RimGrains", "answerOfDeed", "(CI)I"⟩, 14), (⟨"RimGrains$Trees", "readFromHolder", "(II)V"⟩, 7), (⟨"RimGrains$Trees", "addToHolder", "(II)V"⟩, 7), (⟨"RimGrains", "catchOf", "(I)I"⟩, 14), (⟨"RimGrains", "bestCatcher", "()I"⟩, 14), (⟨"RimGrains", "countOfTrees", "(I)I"⟩, 14), (⟨"RimGrainsModel", "roots", "(I)V"⟩, 21), (⟨"RimGrainsModel", "adds", "(III)V"⟩, 21)]
theorem lw_r1 : ∀ q ∈ lw_privs_1, lw_okq q := List.forall_mem_cons.mpr ⟨lw_p0, List.forall_mem_cons.mpr ⟨lw_p1, List.forall_mem_cons.mpr ⟨lw_p2, List.forall_mem_cons.mpr ⟨lw_p3, List.forall_mem_cons.mpr ⟨lw_p4, List.forall_mem_cons.mpr ⟨lw_p5, List.forall_mem_cons.mpr ⟨lw_p6, List.forall_mem_cons.mpr ⟨lw_p7, List.forall_mem_cons.mpr ⟨lw_p8, List.forall_mem_cons.mpr ⟨lw_p9, List.forall_mem_cons.mpr ⟨lw_p10, List.forall_mem_cons.mpr ⟨lw_p11, List.forall_mem_cons.mpr ⟨lw_p12, List.forall_mem_cons.mpr ⟨lw_p13, List.forall_mem_cons.mpr ⟨lw_p14, List.forall_mem_cons.mpr ⟨lw_p15, fun _ h => absurd h List.not_mem_nil⟩⟩⟩⟩⟩⟩⟩⟩⟩⟩⟩⟩⟩⟩⟩⟩
theorem lw_p16 : lw_okq (⟨"RimGrainsModel", "records", "()V"⟩, 21) := ⟨⟨by decide +kernel, by decide +kernel⟩, List.mem_of_getElem? (i := 621) (by decide +kernel), List.mem_of_getElem? (i := 712) (by decide +kernel), List.mem_of_getElem? (i := 713) (by decide +kernel)⟩
theorem lw_p17 : lw_okq (⟨"RimGrainsModel", "errorGo", "(I)I"⟩, 21) := ⟨⟨by decide +kernel, by decide +kernel⟩, List.mem_of_getElem? (i := 621) (by decide +kernel), List.mem_of_getElem? (i := 727) (by decide +kernel), List.mem_of_getElem? (i := 728) (by decide +kernel)⟩
theorem lw_p18 : lw_okq (⟨"RimGrainsModel", "isBlocked", "(I)Z"⟩, 21) := ⟨⟨by decide +kernel, by decide +kernel⟩, List.mem_of_getElem? (i := 621) (by decide +kernel), List.mem_of_getElem? (i := 734) (by decide +kernel), List.mem_of_getElem? (i := 735) (by decide +kernel)⟩
theorem lw_p19 : lw_okq (⟨"RimGrainsModel", "grainAt", "(I)I"⟩, 21) := ⟨⟨by decide +kernel, by decide +kernel⟩, List.mem_of_getElem? (i := 621) (by decide +kernel), List.mem_of_getElem? (i := 741) (by decide +kernel), List.mem_of_getElem? (i := 742) (by decide +kernel)⟩
theorem lw_p20 : lw_okq (⟨"RimGrainsModel", "of", "(II)I"⟩, 21) := ⟨⟨by decide +kernel, by decide +kernel⟩, List.mem_of_getElem? (i := 621) (by decide +kernel), List.mem_of_getElem? (i := 745) (by decide +kernel), List.mem_of_getElem? (i := 746) (by decide +kernel)⟩
theorem lw_p21 : lw_okq (⟨"RimGrainsModel", "goGrain", "(I)I"⟩, 21) := ⟨⟨by decide +kernel, by decide +kernel⟩, List.mem_of_getElem? (i := 621) (by decide +kernel), List.mem_of_getElem? (i := 749) (by decide +kernel), List.mem_of_getElem? (i := 750) (by decide +kernel)⟩
theorem lw_p22 : lw_okq (⟨"RimGrainsModel", "walks", "(I)Z"⟩, 21) := ⟨⟨by decide +kernel, by decide +kernel⟩, List.mem_of_getElem? (i := 621) (by decide +kernel), List.mem_of_getElem? (i := 753) (by decide +kernel), List.mem_of_getElem? (i := 754) (by decide +kernel)⟩
theorem lw_p23 : lw_okq (⟨"RimGrainsModel", "grainBeside", "(I)I"⟩, 21) := ⟨⟨by decide +kernel, by decide +kernel⟩, List.mem_of_getElem? (i := 621) (by decide +kernel), List.mem_of_getElem? (i := 757) (by decide +kernel), List.mem_of_getElem? (i := 758) (by decide +kernel)⟩
theorem lw_p24 : lw_okq (⟨"RimGrainsModel", "draws", "()I"⟩, 21) := ⟨⟨by decide +kernel, by decide +kernel⟩, List.mem_of_getElem? (i := 621) (by decide +kernel), List.mem_of_getElem? (i := 764) (by decide +kernel), List.mem_of_getElem? (i := 765) (by decide +kernel)⟩
theorem lw_p25 : lw_okq (⟨"RimGrainsModel", "makesStep", "()Z"⟩, 21) := ⟨⟨by decide +kernel, by decide +kernel⟩, List.mem_of_getElem? (i := 621) (by decide +kernel), List.mem_of_getElem? (i := 768) (by decide +kernel), List.mem_of_getElem? (i := 769) (by decide +kernel)⟩
theorem lw_p26 : lw_okq (⟨"RimGrainsModel", "goRain", "(I)I"⟩, 21) := ⟨⟨by decide +kernel, by decide +kernel⟩, List.mem_of_getElem? (i := 621) (by decide +kernel), List.mem_of_getElem? (i := 776) (by decide +kernel), List.mem_of_getElem? (i := 777) (by decide +kernel)⟩
theorem lw_p27 : lw_okq (⟨"RimGrainsModel", "errorBreak", "(I)I"⟩, 21) := ⟨⟨by decide +kernel, by decide +kernel⟩, List.mem_of_getElem? (i := 621) (by decide +kernel), List.mem_of_getElem? (i := 784) (by decide +kernel), List.mem_of_getElem? (i := 785) (by decide +kernel)⟩
theorem lw_p28 : lw_okq (⟨"RimGrainsModel", "isGrain", "(I)Z"⟩, 21) := ⟨⟨by decide +kernel, by decide +kernel⟩, List.mem_of_getElem? (i := 621) (by decide +kernel), List.mem_of_getElem? (i := 788) (by decide +kernel), List.mem_of_getElem? (i := 789) (by decide +kernel)⟩
theorem lw_p29 : lw_okq (⟨"RimGrainsModel", "holder", "(I)I"⟩, 21) := ⟨⟨by decide +kernel, by decide +kernel⟩, List.mem_of_getElem? (i := 621) (by decide +kernel), List.mem_of_getElem? (i := 792) (by decide +kernel), List.mem_of_getElem? (i := 793) (by decide +kernel)⟩
theorem lw_p30 : lw_okq (⟨"RimGrainsModel", "goBreak", "(I)I"⟩, 21) := ⟨⟨by decide +kernel, by decide +kernel⟩, List.mem_of_getElem? (i := 621) (by decide +kernel), List.mem_of_getElem? (i := 796) (by decide +kernel), List.mem_of_getElem? (i := 797) (by decide +kernel)⟩
theorem lw_p31 : lw_okq (⟨"RimGrainsModel", "takesAway", "()I"⟩, 21) := ⟨⟨by decide +kernel, by decide +kernel⟩, List.mem_of_getElem? (i := 621) (by decide +kernel), List.mem_of_getElem? (i := 800) (by decide +kernel), List.mem_of_getElem? (i := 801) (by decide +kernel)⟩
def lw_privs_2 : List (MethodName × Nat) := [(⟨"RimGrainsModel", "records", "()V"⟩, 21), (⟨"RimGrainsModel", "errorGo", "(I)I"⟩, 21), (⟨"RimGrainsModel", "isBlocked", "(I)Z"⟩, 21), (⟨"RimGrainsModel", "grainAt", "(I)I"⟩, 21), (⟨"RimGrainsModel", "of", "(II)I"⟩, 21), (⟨"RimGrainsModel", "goGrain", "(I)I"⟩, 21), (⟨"RimGrainsModel", "walks", "(I)Z"⟩, 21), (⟨"RimGrainsModel", "grainBeside", "(I)I"⟩, 21), (⟨"RimGrainsModel", "draws", "()I"⟩, 21), (⟨"RimGrainsModel", "makesStep", "()Z"⟩, 21), (⟨"RimGrainsModel", "goRain", "(I)I"⟩, 21), (⟨"RimGrainsModel", "errorBreak", "(I)I"⟩, 21), (⟨"RimGrainsModel", "isGrain", "(I)Z"⟩, 21), (⟨"RimGrainsModel", "holder", "(I)I"⟩, 21), (⟨"RimGrainsModel", "goBreak", "(I)I"⟩, 21), (⟨"RimGrainsModel", "takesAway", "()I"⟩, 21)]
theorem lw_r2 : ∀ q ∈ lw_privs_2, lw_okq q := List.forall_mem_cons.mpr ⟨lw_p16, List.forall_mem_cons.mpr ⟨lw_p17, List.forall_mem_cons.mpr ⟨lw_p18, List.forall_mem_cons.mpr ⟨lw_p19, List.forall_mem_cons.mpr ⟨lw_p20, List.forall_mem_cons.mpr ⟨lw_p21, List.forall_mem_cons.mpr ⟨lw_p22, List.forall_mem_cons.mpr ⟨lw_p23, List.forall_mem_cons.mpr ⟨lw_p24, List.forall_mem_cons.mpr ⟨lw_p25, List.forall_mem_cons.mpr ⟨lw_p26, List.forall_mem_cons.mpr ⟨lw_p27, List.forall_mem_cons.mpr ⟨lw_p28, List.forall_mem_cons.mpr ⟨lw_p29, List.forall_mem_cons.mpr ⟨lw_p30, List.forall_mem_cons.mpr ⟨lw_p31, fun _ h => absurd h List.not_mem_nil⟩⟩⟩⟩⟩⟩⟩⟩⟩⟩⟩⟩⟩⟩⟩⟩
theorem lw_p32 : lw_okq (⟨"RimGrainsModel", "goWash", "()I"⟩, 21) := ⟨⟨by decide +kernel, by decide +kernel⟩, List.mem_of_getElem? (i := 621) (by decide +kernel), List.mem_of_getElem? (i := 808) (by decide +kernel), List.mem_of_getElem? (i := 809) (by decide +kernel)⟩
theorem lw_p33 : lw_okq (⟨"RimGrainsModel", "children", "(I)I"⟩, 21) := ⟨⟨by decide +kernel, by decide +kernel⟩, List.mem_of_getElem? (i := 621) (by decide +kernel), List.mem_of_getElem? (i := 812) (by decide +kernel), List.mem_of_getElem? (i := 813) (by decide +kernel)⟩
theorem lw_p34 : lw_okq (⟨"RimGrainsModel", "isText", "()Z"⟩, 21) := ⟨⟨by decide +kernel, by decide +kernel⟩, List.mem_of_getElem? (i := 621) (by decide +kernel), List.mem_of_getElem? (i := 838) (by decide +kernel), List.mem_of_getElem? (i := 839) (by decide +kernel)⟩
theorem lw_p35 : lw_okq (⟨"RimGrainsModel", "takesDeed", "()V"⟩, 21) := ⟨⟨by decide +kernel, by decide +kernel⟩, List.mem_of_getElem? (i := 621) (by decide +kernel), List.mem_of_getElem? (i := 842) (by decide +kernel), List.mem_of_getElem? (i := 843) (by decide +kernel)⟩
theorem lw_p36 : lw_okq (⟨"RimGrainsModel", "here", "()I"⟩, 21) := ⟨⟨by decide +kernel, by decide +kernel⟩, List.mem_of_getElem? (i := 621) (by decide +kernel), List.mem_of_getElem? (i := 846) (by decide +kernel), List.mem_of_getElem? (i := 847) (by decide +kernel)⟩
theorem lw_p37 : lw_okq (⟨"RimGrainsModel", "takes", "(Z)V"⟩, 21) := ⟨⟨by decide +kernel, by decide +kernel⟩, List.mem_of_getElem? (i := 621) (by decide +kernel), List.mem_of_getElem? (i := 850) (by decide +kernel), List.mem_of_getElem? (i := 851) (by decide +kernel)⟩
theorem lw_p38 : lw_okq (⟨"RimGrainsModel", "takesNumber", "(I)V"⟩, 21) := ⟨⟨by decide +kernel, by decide +kernel⟩, List.mem_of_getElem? (i := 621) (by decide +kernel), List.mem_of_getElem? (i := 854) (by decide +kernel), List.mem_of_getElem? (i := 855) (by decide +kernel)⟩
theorem lw_p39 : lw_okq (⟨"RimGrainsModel", "doesDeed", "()I"⟩, 21) := ⟨⟨by decide +kernel, by decide +kernel⟩, List.mem_of_getElem? (i := 621) (by decide +kernel), List.mem_of_getElem? (i := 862) (by decide +kernel), List.mem_of_getElem? (i := 863) (by decide +kernel)⟩
theorem lw_p40 : lw_okq (⟨"RimGrainsModel", "besides", "(I)I"⟩, 21) := ⟨⟨by decide +kernel, by decide +kernel⟩, List.mem_of_getElem? (i := 621) (by decide +kernel), List.mem_of_getElem? (i := 877) (by decide +kernel), List.mem_of_getElem? (i := 878) (by decide +kernel)⟩
theorem lw_p41 : lw_okq (⟨"RimGrainsModel", "depthOf", "(I)I"⟩, 21) := ⟨⟨by decide +kernel, by decide +kernel⟩, List.mem_of_getElem? (i := 621) (by decide +kernel), List.mem_of_getElem? (i := 888) (by decide +kernel), List.mem_of_getElem? (i := 889) (by decide +kernel)⟩
theorem lw_p42 : lw_okq (⟨"RimGrainsModel", "treeOf", "(I)I"⟩, 21) := ⟨⟨by decide +kernel, by decide +kernel⟩, List.mem_of_getElem? (i := 621) (by decide +kernel), List.mem_of_getElem? (i := 892) (by decide +kernel), List.mem_of_getElem? (i := 893) (by decide +kernel)⟩
theorem lw_p43 : lw_okq (⟨"RimGrainsModel", "isIn", "(II)Z"⟩, 21) := ⟨⟨by decide +kernel, by decide +kernel⟩, List.mem_of_getElem? (i := 621) (by decide +kernel), List.mem_of_getElem? (i := 896) (by decide +kernel), List.mem_of_getElem? (i := 897) (by decide +kernel)⟩
theorem lw_p44 : lw_okq (⟨"RimGrainsModel", "highOf", "(I)I"⟩, 21) := ⟨⟨by decide +kernel, by decide +kernel⟩, List.mem_of_getElem? (i := 621) (by decide +kernel), List.mem_of_getElem? (i := 900) (by decide +kernel), List.mem_of_getElem? (i := 901) (by decide +kernel)⟩
theorem lw_p45 : lw_okq (⟨"RimGrainsModel", "catchOf", "(I)I"⟩, 21) := ⟨⟨by decide +kernel, by decide +kernel⟩, List.mem_of_getElem? (i := 621) (by decide +kernel), List.mem_of_getElem? (i := 904) (by decide +kernel), List.mem_of_getElem? (i := 905) (by decide +kernel)⟩
theorem lw_p46 : lw_okq (⟨"RimGrainsModel", "screening", "(I)I"⟩, 21) := ⟨⟨by decide +kernel, by decide +kernel⟩, List.mem_of_getElem? (i := 621) (by decide +kernel), List.mem_of_getElem? (i := 908) (by decide +kernel), List.mem_of_getElem? (i := 909) (by decide +kernel)⟩
theorem lw_p47 : lw_okq (⟨"RimGrainsModel", "rootOf", "(I)I"⟩, 21) := ⟨⟨by decide +kernel, by decide +kernel⟩, List.mem_of_getElem? (i := 621) (by decide +kernel), List.mem_of_getElem? (i := 915) (by decide +kernel), List.mem_of_getElem? (i := 916) (by decide +kernel)⟩
def lw_privs_3 : List (MethodName × Nat) := [(⟨"RimGrainsModel", "goWash", "()I"⟩, 21), (⟨"RimGrainsModel", "children", "(I)I"⟩, 21), (⟨"RimGrainsModel", "isText", "()Z"⟩, 21), (⟨"RimGrainsModel", "takesDeed", "()V"⟩, 21), (⟨"RimGrainsModel", "here", "()I"⟩, 21), (⟨"RimGrainsModel", "takes", "(Z)V"⟩, 21), (⟨"RimGrainsModel", "takesNumber", "(I)V"⟩, 21), (⟨"RimGrainsModel", "doesDeed", "()I"⟩, 21), (⟨"RimGrainsModel", "besides", "(I)I"⟩, 21), (⟨"RimGrainsModel", "depthOf", "(I)I"⟩, 21), (⟨"RimGrainsModel", "treeOf", "(I)I"⟩, 21), (⟨"RimGrainsModel", "isIn", "(II)Z"⟩, 21), (⟨"RimGrainsModel", "highOf", "(I)I"⟩, 21), (⟨"RimGrainsModel", "catchOf", "(I)I"⟩, 21), (⟨"RimGrainsModel", "screening", "(I)I"⟩, 21), (⟨"RimGrainsModel", "rootOf", "(I)I"⟩, 21)]
theorem lw_r3 : ∀ q ∈ lw_privs_3, lw_okq q := List.forall_mem_cons.mpr ⟨lw_p32, List.forall_mem_cons.mpr ⟨lw_p33, List.forall_mem_cons.mpr ⟨lw_p34, List.forall_mem_cons.mpr ⟨lw_p35, List.forall_mem_cons.mpr ⟨lw_p36, List.forall_mem_cons.mpr ⟨lw_p37, List.forall_mem_cons.mpr ⟨lw_p38, List.forall_mem_cons.mpr ⟨lw_p39, List.forall_mem_cons.mpr ⟨lw_p40, List.forall_mem_cons.mpr ⟨lw_p41, List.forall_mem_cons.mpr ⟨lw_p42, List.forall_mem_cons.mpr ⟨lw_p43, List.forall_mem_cons.mpr ⟨lw_p44, List.forall_mem_cons.mpr ⟨lw_p45, List.forall_mem_cons.mpr ⟨lw_p46, List.forall_mem_cons.mpr ⟨lw_p47, fun _ h => absurd h List.not_mem_nil⟩⟩⟩⟩⟩⟩⟩⟩⟩⟩⟩⟩⟩⟩⟩⟩
theorem lw_p48 : lw_okq (⟨"RimGrainsModel", "ofKind", "(I)I"⟩, 21) := ⟨⟨by decide +kernel, by decide +kernel⟩, List.mem_of_getElem? (i := 621) (by decide +kernel), List.mem_of_getElem? (i := 939) (by decide +kernel), List.mem_of_getElem? (i := 940) (by decide +kernel)⟩
theorem lw_p49 : lw_okq (⟨"RimGrainsModel", "deepest", "()I"⟩, 21) := ⟨⟨by decide +kernel, by decide +kernel⟩, List.mem_of_getElem? (i := 621) (by decide +kernel), List.mem_of_getElem? (i := 943) (by decide +kernel), List.mem_of_getElem? (i := 944) (by decide +kernel)⟩
theorem lw_p50 : lw_okq (⟨"RimGrainsModel", "reachOf", "()I"⟩, 21) := ⟨⟨by decide +kernel, by decide +kernel⟩, List.mem_of_getElem? (i := 621) (by decide +kernel), List.mem_of_getElem? (i := 947) (by decide +kernel), List.mem_of_getElem? (i := 948) (by decide +kernel)⟩
theorem lw_p51 : lw_okq (⟨"RimGrainsModel", "shore", "()I"⟩, 21) := ⟨⟨by decide +kernel, by decide +kernel⟩, List.mem_of_getElem? (i := 621) (by decide +kernel), List.mem_of_getElem? (i := 951) (by decide +kernel), List.mem_of_getElem? (i := 952) (by decide +kernel)⟩
theorem lw_p52 : lw_okq (⟨"RimGrainsModel", "bestCatch", "()I"⟩, 21) := ⟨⟨by decide +kernel, by decide +kernel⟩, List.mem_of_getElem? (i := 621) (by decide +kernel), List.mem_of_getElem? (i := 955) (by decide +kernel), List.mem_of_getElem? (i := 956) (by decide +kernel)⟩
theorem lw_p53 : lw_okq (⟨"RimGrainsModel", "unscreened", "()I"⟩, 21) := ⟨⟨by decide +kernel, by decide +kernel⟩, List.mem_of_getElem? (i := 621) (by decide +kernel), List.mem_of_getElem? (i := 971) (by decide +kernel), List.mem_of_getElem? (i := 972) (by decide +kernel)⟩
def lw_privs_4 : List (MethodName × Nat) := [(⟨"RimGrainsModel", "ofKind", "(I)I"⟩, 21), (⟨"RimGrainsModel", "deepest", "()I"⟩, 21), (⟨"RimGrainsModel", "reachOf", "()I"⟩, 21), (⟨"RimGrainsModel", "shore", "()I"⟩, 21), (⟨"RimGrainsModel", "bestCatch", "()I"⟩, 21), (⟨"RimGrainsModel", "unscreened", "()I"⟩, 21)]
theorem lw_r4 : ∀ q ∈ lw_privs_4, lw_okq q := List.forall_mem_cons.mpr ⟨lw_p48, List.forall_mem_cons.mpr ⟨lw_p49, List.forall_mem_cons.mpr ⟨lw_p50, List.forall_mem_cons.mpr ⟨lw_p51, List.forall_mem_cons.mpr ⟨lw_p52, List.forall_mem_cons.mpr ⟨lw_p53, fun _ h => absurd h List.not_mem_nil⟩⟩⟩⟩⟩⟩
def lw_privs : List (MethodName × Nat) := lw_privs_1 ++ (lw_privs_2 ++ (lw_privs_3 ++ (lw_privs_4)))
def lw_tbl : List Cond := k2_sels lw_privs ++ tables_1
theorem lw_privs_ok : ∀ q ∈ lw_privs, lw_okq q := by
  show ∀ q ∈ lw_privs_1 ++ (lw_privs_2 ++ (lw_privs_3 ++ (lw_privs_4))), lw_okq q
  exact List.forall_mem_append.mpr ⟨lw_r1, List.forall_mem_append.mpr ⟨lw_r2, List.forall_mem_append.mpr ⟨lw_r3, lw_r4⟩⟩⟩
/-- the streams that the claim lets the run draw from -/
abbrev lw_cs : List Choice := [Jvm.Choice.named "NaN.bits"]
theorem lw_bits : nanBits ∈ lw_cs := by first | decide | exact List.mem_cons_self | simp [lw_cs, nanBits]
end
section
/-! ===== BEGIN words of one list among another's, by their places ===== -/
theorem goodIn_r {big : List Cond} (ws : List Cond) (ps : List Nat) (hp : ws = ps.filterMap (fun i => big[i]?)) (h : ws.all goodWord = true) : GoodIn big ws := by
  intro w hw
  have h1 := List.all_eq_true.mp h w hw
  rw [hp] at hw
  obtain ⟨i, -, hi⟩ := List.mem_filterMap.mp hw
  have hm : w ∈ big := by first | exact List.mem_of_getElem? hi | exact List.getElem?_mem hi
  exact ⟨hm, good_of_word h1⟩
theorem goodIn_app {big a b : List Cond} (ha : GoodIn big a) (hb : GoodIn big b) : GoodIn big (a ++ b) := fun w h => (List.mem_append.mp h).elim (ha w) (hb w)
theorem goodIn_ca {big a b : List Cond} {c : Cond} (ha : GoodIn big (c :: a)) (hb : GoodIn big b) : GoodIn big (c :: (a ++ b)) := fun w h => (List.mem_cons.mp h).elim (fun e => ha w (List.mem_cons.mpr (Or.inl e))) (fun h => (List.mem_append.mp h).elim (fun h => ha w (List.mem_cons.mpr (Or.inr h))) (hb w))
theorem goodIn_sub {big ws : List Cond} (hm : ∀ w ∈ ws, w ∈ big) (h : ws.all goodWord = true) : GoodIn big ws := fun w hw => ⟨hm w hw, good_of_word (List.all_eq_true.mp h w hw)⟩
/-! ===== END ===== -/

/-! ===== BEGIN printed: names, fields, word lists, decode rows ===== -/
def RX0 : String := "RimGrains$Fall"
def TX0 : u_T := fun k => match k with
  | 0 => ("RimGrains$Fall", "falling", "[Z", true)
  | _ => ("RimGrains$Fall", "newNumbers", "[I", true)
def tyX0 : Nat → FieldType := fun k => match k with
  | 0 => .array .boolean
  | _ => .array .int
abbrev wsX00 : List Cond := u_ws RX0 TX0 2
theorem nmX0 : ∀ a, a < 2 → ∀ b, b < 2 → a ≠ b → (TX0 a).2.1 ≠ (TX0 b).2.1 := by decide +kernel
theorem tyX0_ok : ∀ k, k < 2 → parseFieldDescriptor (TX0 k).2.2.1 = some (tyX0 k) := by decide +kernel
abbrev cX0_init : ByteArray := prog_2_method_1_code
def yX0_init : MethodName := ⟨RX0, "<init>", "()V"⟩
abbrev cX0_dropTree : ByteArray := prog_2_method_2_code
def yX0_dropTree : MethodName := ⟨RX0, "dropTree", "(LRimGrains$State;I)I"⟩
abbrev cX0_dropTips : ByteArray := prog_2_method_3_code
def yX0_dropTips : MethodName := ⟨RX0, "dropTips", "(LRimGrains$State;)I"⟩
def RX1 : String := "RimGrains$Pad"
def TX1 : u_T := fun k => match k with
  | 0 => ("RimGrains$Pad", "signs", "[C", true)
  | 1 => ("RimGrains$Pad", "length", "I", false)
  | 2 => ("RimGrains$Pad", "next", "I", false)
  | 3 => ("RimGrains$Pad", "place", "I", false)
  | 4 => ("RimGrains$Pad", "letter", "C", false)
  | _ => ("RimGrains$Pad", "number", "I", false)
def tyX1 : Nat → FieldType := fun k => match k with
  | 0 => .array .char
  | 1 => .int
  | 2 => .int
  | 3 => .int
  | 4 => .char
  | _ => .int
abbrev wsX10 : List Cond := u_ws RX1 TX1 6
theorem nmX1 : ∀ a, a < 6 → ∀ b, b < 6 → a ≠ b → (TX1 a).2.1 ≠ (TX1 b).2.1 := by decide +kernel
theorem tyX1_ok : ∀ k, k < 6 → parseFieldDescriptor (TX1 k).2.2.1 = some (tyX1 k) := by decide +kernel
abbrev cX1_init : ByteArray := prog_3_method_1_code
def yX1_init : MethodName := ⟨RX1, "<init>", "()V"⟩
abbrev cX1_write : ByteArray := prog_3_method_2_code
def yX1_write : MethodName := ⟨RX1, "write", "(C)V"⟩
abbrev cX1_wipe : ByteArray := prog_3_method_3_code
def yX1_wipe : MethodName := ⟨RX1, "wipe", "()V"⟩
abbrev cX1_firstWrong : ByteArray := prog_3_method_4_code
def yX1_firstWrong : MethodName := ⟨RX1, "firstWrong", "()I"⟩
abbrev cX1_isLetter : ByteArray := prog_3_method_5_code
def yX1_isLetter : MethodName := ⟨RX1, "isLetter", "(C)Z"⟩
abbrev cX1_isWhole : ByteArray := prog_3_method_6_code
def yX1_isWhole : MethodName := ⟨RX1, "isWhole", "(CI)Z"⟩
abbrev cX1_withDigit : ByteArray := prog_3_method_7_code
def yX1_withDigit : MethodName := ⟨RX1, "withDigit", "(CIC)I"⟩
abbrev cX1_startReading : ByteArray := prog_3_method_8_code
def yX1_startReading : MethodName := ⟨RX1, "startReading", "()V"⟩
abbrev cX1_readDeed : ByteArray := prog_3_method_9_code
def yX1_readDeed : MethodName := ⟨RX1, "readDeed", "()Z"⟩
def RX2 : String := "RimGrains$Plate"
def TX2 : u_T := fun k => match k with
  | _ => ("", "", "", false)
def tyX2 : Nat → FieldType := fun k => match k with
  | _ => .int
abbrev wsX20 : List Cond := u_ws RX2 TX2 0
theorem nmX2 : ∀ a, a < 0 → ∀ b, b < 0 → a ≠ b → (TX2 a).2.1 ≠ (TX2 b).2.1 := by decide +kernel
theorem tyX2_ok : ∀ k, k < 0 → parseFieldDescriptor (TX2 k).2.2.1 = some (tyX2 k) := by decide +kernel
abbrev cX2_isCell : ByteArray := prog_4_method_2_code
def yX2_isCell : MethodName := ⟨RX2, "isCell", "(I)Z"⟩
abbrev cX2_isRim : ByteArray := prog_4_method_3_code
def yX2_isRim : MethodName := ⟨RX2, "isRim", "(I)Z"⟩
abbrev cX2_neighbour : ByteArray := prog_4_method_4_code
def yX2_neighbour : MethodName := ⟨RX2, "neighbour", "(II)I"⟩
abbrev cX2_ringOf : ByteArray := prog_4_method_5_code
def yX2_ringOf : MethodName := ⟨RX2, "ringOf", "(I)I"⟩
abbrev cX2_cellOfRim : ByteArray := prog_4_method_6_code
def yX2_cellOfRim : MethodName := ⟨RX2, "cellOfRim", "(I)I"⟩
abbrev cX2_rimOf : ByteArray := prog_4_method_7_code
def yX2_rimOf : MethodName := ⟨RX2, "rimOf", "(I)I"⟩
abbrev cX2_directionInward : ByteArray := prog_4_method_8_code
def yX2_directionInward : MethodName := ⟨RX2, "directionInward", "(I)I"⟩
def RX3 : String := "RimGrains$Screens"
def TX3 : u_T := fun k => match k with
  | 0 => ("RimGrains$Screens", "catches", "[I", true)
  | 1 => ("RimGrains$Screens", "grains", "I", false)
  | _ => ("RimGrains$Screens", "open", "I", false)
def tyX3 : Nat → FieldType := fun k => match k with
  | 0 => .array .int
  | 1 => .int
  | _ => .int
abbrev wsX30 : List Cond := u_ws RX3 TX3 3
theorem nmX3 : ∀ a, a < 3 → ∀ b, b < 3 → a ≠ b → (TX3 a).2.1 ≠ (TX3 b).2.1 := by decide +kernel
theorem tyX3_ok : ∀ k, k < 3 → parseFieldDescriptor (TX3 k).2.2.1 = some (tyX3 k) := by decide +kernel
abbrev cX3_init : ByteArray := prog_5_method_1_code
def yX3_init : MethodName := ⟨RX3, "<init>", "()V"⟩
abbrev cX3_read : ByteArray := prog_5_method_2_code
def yX3_read : MethodName := ⟨RX3, "read", "(LRimGrains$State;)V"⟩
abbrev cX3_bestGrain : ByteArray := prog_5_method_3_code
def yX3_bestGrain : MethodName := ⟨RX3, "bestGrain", "()I"⟩
abbrev cX3_firstMet : ByteArray := prog_5_method_4_code
def yX3_firstMet : MethodName := ⟨RX3, "firstMet", "(LRimGrains$State;I)I"⟩
def RX4 : String := "RimGrains$State"
def TX4 : u_T := fun k => match k with
  | 0 => ("RimGrains$State", "cells", "[I", true)
  | 1 => ("RimGrains$State", "holders", "[I", true)
  | 2 => ("RimGrains$State", "steps", "[I", true)
  | 3 => ("RimGrains$State", "grainsByCell", "[I", true)
  | 4 => ("RimGrains$State", "settings", "[I", true)
  | 5 => ("RimGrains$State", "grains", "I", false)
  | 6 => ("RimGrains$State", "lot", "I", false)
  | 7 => ("RimGrains$State", "released", "I", false)
  | 8 => ("RimGrains$State", "lost", "I", false)
  | 9 => ("RimGrains$State", "gone", "I", false)
  | _ => ("RimGrains$State", "walked", "I", false)
def tyX4 : Nat → FieldType := fun k => match k with
  | 0 => .array .int
  | 1 => .array .int
  | 2 => .array .int
  | 3 => .array .int
  | 4 => .array .int
  | 5 => .int
  | 6 => .int
  | 7 => .int
  | 8 => .int
  | 9 => .int
  | _ => .int
abbrev wsX40 : List Cond := u_ws RX4 TX4 11
theorem nmX4 : ∀ a, a < 11 → ∀ b, b < 11 → a ≠ b → (TX4 a).2.1 ≠ (TX4 b).2.1 := by decide +kernel
theorem tyX4_ok : ∀ k, k < 11 → parseFieldDescriptor (TX4 k).2.2.1 = some (tyX4 k) := by decide +kernel
abbrev cX4_init : ByteArray := prog_6_method_1_code
def yX4_init : MethodName := ⟨RX4, "<init>", "()V"⟩
abbrev cX4_takeOver : ByteArray := prog_6_method_2_code
def yX4_takeOver : MethodName := ⟨RX4, "takeOver", "(LRimGrains$State;)V"⟩
abbrev cX4_plant : ByteArray := prog_6_method_3_code
def yX4_plant : MethodName := ⟨RX4, "plant", "(I)I"⟩
abbrev cX4_isRootCell : ByteArray := prog_6_method_4_code
def yX4_isRootCell : MethodName := ⟨RX4, "isRootCell", "(II)Z"⟩
abbrev cX4_add : ByteArray := prog_6_method_5_code
def yX4_add : MethodName := ⟨RX4, "add", "(III)V"⟩
abbrev cX4_change : ByteArray := prog_6_method_6_code
def yX4_change : MethodName := ⟨RX4, "change", "(II)I"⟩
abbrev cX4_settle : ByteArray := prog_6_method_7_code
def yX4_settle : MethodName := ⟨RX4, "settle", "(LRimGrains$Walk;)V"⟩
abbrev cX4_loseAtOnce : ByteArray := prog_6_method_8_code
def yX4_loseAtOnce : MethodName := ⟨RX4, "loseAtOnce", "()V"⟩
abbrev cX4_drop : ByteArray := prog_6_method_9_code
def yX4_drop : MethodName := ⟨RX4, "drop", "([Z[I)I"⟩
abbrev cX4_refusalToGo : ByteArray := prog_6_method_10_code
def yX4_refusalToGo : MethodName := ⟨RX4, "refusalToGo", "(I)I"⟩
abbrev cX4_refusalToBreak : ByteArray := prog_6_method_11_code
def yX4_refusalToBreak : MethodName := ⟨RX4, "refusalToBreak", "(I)I"⟩
abbrev cX4_isGrain : ByteArray := prog_6_method_12_code
def yX4_isGrain : MethodName := ⟨RX4, "isGrain", "(I)Z"⟩
abbrev cX4_cellOf : ByteArray := prog_6_method_13_code
def yX4_cellOf : MethodName := ⟨RX4, "cellOf", "(I)I"⟩
abbrev cX4_holderOf : ByteArray := prog_6_method_14_code
def yX4_holderOf : MethodName := ⟨RX4, "holderOf", "(I)I"⟩
abbrev cX4_stepsOf : ByteArray := prog_6_method_15_code
def yX4_stepsOf : MethodName := ⟨RX4, "stepsOf", "(I)I"⟩
abbrev cX4_grainAt : ByteArray := prog_6_method_16_code
def yX4_grainAt : MethodName := ⟨RX4, "grainAt", "(I)I"⟩
abbrev cX4_setting : ByteArray := prog_6_method_17_code
def yX4_setting : MethodName := ⟨RX4, "setting", "(I)I"⟩
abbrev cX4_firstGrainBeside : ByteArray := prog_6_method_18_code
def yX4_firstGrainBeside : MethodName := ⟨RX4, "firstGrainBeside", "(I)I"⟩
abbrev cX4_grainsAround : ByteArray := prog_6_method_19_code
def yX4_grainsAround : MethodName := ⟨RX4, "grainsAround", "(I)I"⟩
abbrev cX4_freeCellsBeside : ByteArray := prog_6_method_20_code
def yX4_freeCellsBeside : MethodName := ⟨RX4, "freeCellsBeside", "()I"⟩
abbrev cX4_reach : ByteArray := prog_6_method_21_code
def yX4_reach : MethodName := ⟨RX4, "reach", "()I"⟩
abbrev cX4_holdsBetween : ByteArray := prog_6_method_22_code
def yX4_holdsBetween : MethodName := ⟨RX4, "holdsBetween", "(II)I"⟩
abbrev cX4_longestOfPairs : ByteArray := prog_6_method_23_code
def yX4_longestOfPairs : MethodName := ⟨RX4, "longestOfPairs", "()I"⟩
def RX5 : String := "RimGrains$Trees"
def TX5 : u_T := fun k => match k with
  | 0 => ("RimGrains$Trees", "depths", "[I", true)
  | 1 => ("RimGrains$Trees", "roots", "[I", true)
  | 2 => ("RimGrains$Trees", "holding", "[I", true)
  | 3 => ("RimGrains$Trees", "members", "[I", true)
  | 4 => ("RimGrains$Trees", "highest", "[I", true)
  | 5 => ("RimGrains$Trees", "second", "[I", true)
  | _ => ("RimGrains$Trees", "grains", "I", false)
def tyX5 : Nat → FieldType := fun k => match k with
  | 0 => .array .int
  | 1 => .array .int
  | 2 => .array .int
  | 3 => .array .int
  | 4 => .array .int
  | 5 => .array .int
  | _ => .int
abbrev wsX50 : List Cond := u_ws RX5 TX5 7
theorem nmX5 : ∀ a, a < 7 → ∀ b, b < 7 → a ≠ b → (TX5 a).2.1 ≠ (TX5 b).2.1 := by decide +kernel
theorem tyX5_ok : ∀ k, k < 7 → parseFieldDescriptor (TX5 k).2.2.1 = some (tyX5 k) := by decide +kernel
abbrev cX5_init : ByteArray := prog_7_method_1_code
def yX5_init : MethodName := ⟨RX5, "<init>", "()V"⟩
abbrev cX5_read : ByteArray := prog_7_method_2_code
def yX5_read : MethodName := ⟨RX5, "read", "(LRimGrains$State;)V"⟩
abbrev cX5_readFromHolder : ByteArray := prog_7_method_3_code
def yX5_readFromHolder : MethodName := ⟨RX5, "readFromHolder", "(II)V"⟩
abbrev cX5_addToHolder : ByteArray := prog_7_method_4_code
def yX5_addToHolder : MethodName := ⟨RX5, "addToHolder", "(II)V"⟩
abbrev cX5_rootGrains : ByteArray := prog_7_method_5_code
def yX5_rootGrains : MethodName := ⟨RX5, "rootGrains", "()I"⟩
abbrev cX5_grainsHeldBy : ByteArray := prog_7_method_6_code
def yX5_grainsHeldBy : MethodName := ⟨RX5, "grainsHeldBy", "(II)I"⟩
abbrev cX5_deepest : ByteArray := prog_7_method_7_code
def yX5_deepest : MethodName := ⟨RX5, "deepest", "()I"⟩
abbrev cX5_longestOfHeights : ByteArray := prog_7_method_8_code
def yX5_longestOfHeights : MethodName := ⟨RX5, "longestOfHeights", "()I"⟩
def RX6 : String := "RimGrains$Walk"
def TX6 : u_T := fun k => match k with
  | 0 => ("RimGrains$Walk", "place", "I", false)
  | 1 => ("RimGrains$Walk", "steps", "I", false)
  | 2 => ("RimGrains$Walk", "draws", "I", false)
  | 3 => ("RimGrains$Walk", "lot", "I", false)
  | _ => ("RimGrains$Walk", "holder", "I", false)
def tyX6 : Nat → FieldType := fun k => match k with
  | 0 => .int
  | 1 => .int
  | 2 => .int
  | 3 => .int
  | _ => .int
abbrev wsX60 : List Cond := u_ws RX6 TX6 5
theorem nmX6 : ∀ a, a < 5 → ∀ b, b < 5 → a ≠ b → (TX6 a).2.1 ≠ (TX6 b).2.1 := by decide +kernel
theorem tyX6_ok : ∀ k, k < 5 → parseFieldDescriptor (TX6 k).2.2.1 = some (tyX6 k) := by decide +kernel
abbrev cX6_init : ByteArray := prog_8_method_1_code
def yX6_init : MethodName := ⟨RX6, "<init>", "()V"⟩
abbrev cX6_walkFrom : ByteArray := prog_8_method_2_code
def yX6_walkFrom : MethodName := ⟨RX6, "walkFrom", "(LRimGrains$State;I)V"⟩
abbrev cX6_catchesHold : ByteArray := prog_8_method_3_code
def yX6_catchesHold : MethodName := ⟨RX6, "catchesHold", "(LRimGrains$State;)Z"⟩
abbrev cX6_makesStep : ByteArray := prog_8_method_4_code
def yX6_makesStep : MethodName := ⟨RX6, "makesStep", "(LRimGrains$State;)Z"⟩
abbrev cX6_draw : ByteArray := prog_8_method_5_code
def yX6_draw : MethodName := ⟨RX6, "draw", "()I"⟩
abbrev cX6_sticks : ByteArray := prog_8_method_6_code
def yX6_sticks : MethodName := ⟨RX6, "sticks", "()Z"⟩
abbrev cX6_answer : ByteArray := prog_8_method_7_code
def yX6_answer : MethodName := ⟨RX6, "answer", "()I"⟩
def RX7 : String := "RimGrains"
def TX7 : u_T := fun k => match k with
  | 0 => ("RimGrains", "now", "LRimGrains$State;", true)
  | 1 => ("RimGrains", "snapshot", "LRimGrains$State;", true)
  | 2 => ("RimGrains", "trial", "LRimGrains$State;", true)
  | 3 => ("RimGrains", "history", "[LRimGrains$State;", true)
  | 4 => ("RimGrains", "walk", "LRimGrains$Walk;", true)
  | 5 => ("RimGrains", "fall", "LRimGrains$Fall;", true)
  | 6 => ("RimGrains", "trees", "LRimGrains$Trees;", true)
  | 7 => ("RimGrains", "screening", "LRimGrains$Screens;", true)
  | 8 => ("RimGrains", "pad", "LRimGrains$Pad;", true)
  | 9 => ("RimGrains", "states", "I", false)
  | 10 => ("RimGrains", "saved", "Z", false)
  | 11 => ("RimGrains", "stopError", "I", false)
  | 12 => ("RimGrains", "stopDeed", "I", false)
  | _ => ("RimGrains", "stopPlace", "I", false)
def tyX7 : Nat → FieldType := fun k => match k with
  | 0 => .object "RimGrains$State"
  | 1 => .object "RimGrains$State"
  | 2 => .object "RimGrains$State"
  | 3 => .array (.object "RimGrains$State")
  | 4 => .object "RimGrains$Walk"
  | 5 => .object "RimGrains$Fall"
  | 6 => .object "RimGrains$Trees"
  | 7 => .object "RimGrains$Screens"
  | 8 => .object "RimGrains$Pad"
  | 9 => .int
  | 10 => .boolean
  | 11 => .int
  | 12 => .int
  | _ => .int
abbrev wsX70 : List Cond := u_ws RX7 TX7 14
theorem nmX7 : ∀ a, a < 14 → ∀ b, b < 14 → a ≠ b → (TX7 a).2.1 ≠ (TX7 b).2.1 := by decide +kernel
theorem tyX7_ok : ∀ k, k < 14 → parseFieldDescriptor (TX7 k).2.2.1 = some (tyX7 k) := by decide +kernel
abbrev cX7_init : ByteArray := prog_1_method_1_code
def yX7_init : MethodName := ⟨RX7, "<init>", "()V"⟩
abbrev cX7_begin : ByteArray := prog_1_method_2_code
def yX7_begin : MethodName := ⟨RX7, "begin", "(I)I"⟩
abbrev cX7_lot : ByteArray := prog_1_method_3_code
def yX7_lot : MethodName := ⟨RX7, "lot", "(I)I"⟩
abbrev cX7_go : ByteArray := prog_1_method_4_code
def yX7_go : MethodName := ⟨RX7, "go", "(I)I"⟩
abbrev cX7_rain : ByteArray := prog_1_method_5_code
def yX7_rain : MethodName := ⟨RX7, "rain", "(I)I"⟩
abbrev cX7_breakOff : ByteArray := prog_1_method_6_code
def yX7_breakOff : MethodName := ⟨RX7, "breakOff", "(I)I"⟩
abbrev cX7_wash : ByteArray := prog_1_method_7_code
def yX7_wash : MethodName := ⟨RX7, "wash", "()I"⟩
abbrev cX7_set : ByteArray := prog_1_method_8_code
def yX7_set : MethodName := ⟨RX7, "set", "(II)I"⟩
abbrev cX7_append : ByteArray := prog_1_method_9_code
def yX7_append : MethodName := ⟨RX7, "append", "(I)I"⟩
abbrev cX7_clear : ByteArray := prog_1_method_10_code
def yX7_clear : MethodName := ⟨RX7, "clear", "()I"⟩
abbrev cX7_fault : ByteArray := prog_1_method_11_code
def yX7_fault : MethodName := ⟨RX7, "fault", "()I"⟩
abbrev cX7_carryOut : ByteArray := prog_1_method_12_code
def yX7_carryOut : MethodName := ⟨RX7, "carryOut", "()I"⟩
abbrev cX7_why : ByteArray := prog_1_method_13_code
def yX7_why : MethodName := ⟨RX7, "why", "(I)I"⟩
abbrev cX7_cell : ByteArray := prog_1_method_14_code
def yX7_cell : MethodName := ⟨RX7, "cell", "(II)I"⟩
abbrev cX7_grain : ByteArray := prog_1_method_15_code
def yX7_grain : MethodName := ⟨RX7, "grain", "(II)I"⟩
abbrev cX7_screens : ByteArray := prog_1_method_16_code
def yX7_screens : MethodName := ⟨RX7, "screens", "(I)I"⟩
abbrev cX7_ring : ByteArray := prog_1_method_17_code
def yX7_ring : MethodName := ⟨RX7, "ring", "(I)I"⟩
abbrev cX7_apart : ByteArray := prog_1_method_18_code
def yX7_apart : MethodName := ⟨RX7, "apart", "(II)I"⟩
abbrev cX7_longest : ByteArray := prog_1_method_19_code
def yX7_longest : MethodName := ⟨RX7, "longest", "(I)I"⟩
abbrev cX7_count : ByteArray := prog_1_method_20_code
def yX7_count : MethodName := ⟨RX7, "count", "(I)I"⟩
abbrev cX7_density : ByteArray := prog_1_method_21_code
def yX7_density : MethodName := ⟨RX7, "density", "()D"⟩
abbrev cX7_ifGone : ByteArray := prog_1_method_22_code
def yX7_ifGone : MethodName := ⟨RX7, "ifGone", "(II)I"⟩
abbrev cX7_ifBroken : ByteArray := prog_1_method_23_code
def yX7_ifBroken : MethodName := ⟨RX7, "ifBroken", "(II)I"⟩
abbrev cX7_undo : ByteArray := prog_1_method_24_code
def yX7_undo : MethodName := ⟨RX7, "undo", "()I"⟩
abbrev cX7_save : ByteArray := prog_1_method_25_code
def yX7_save : MethodName := ⟨RX7, "save", "()I"⟩
abbrev cX7_restore : ByteArray := prog_1_method_26_code
def yX7_restore : MethodName := ⟨RX7, "restore", "()I"⟩
abbrev cX7_record : ByteArray := prog_1_method_27_code
def yX7_record : MethodName := ⟨RX7, "record", "()V"⟩
abbrev cX7_dropOldest : ByteArray := prog_1_method_28_code
def yX7_dropOldest : MethodName := ⟨RX7, "dropOldest", "()V"⟩
abbrev cX7_letWalk : ByteArray := prog_1_method_29_code
def yX7_letWalk : MethodName := ⟨RX7, "letWalk", "(I)I"⟩
abbrev cX7_dropSticks : ByteArray := prog_1_method_30_code
def yX7_dropSticks : MethodName := ⟨RX7, "dropSticks", "()Z"⟩
abbrev cX7_answerOfDeed : ByteArray := prog_1_method_31_code
def yX7_answerOfDeed : MethodName := ⟨RX7, "answerOfDeed", "(CI)I"⟩
abbrev cX7_catchOf : ByteArray := prog_1_method_32_code
def yX7_catchOf : MethodName := ⟨RX7, "catchOf", "(I)I"⟩
abbrev cX7_bestCatcher : ByteArray := prog_1_method_33_code
def yX7_bestCatcher : MethodName := ⟨RX7, "bestCatcher", "()I"⟩
abbrev cX7_countOfTrees : ByteArray := prog_1_method_34_code
def yX7_countOfTrees : MethodName := ⟨RX7, "countOfTrees", "(I)I"⟩
abbrev cX7_isSettingValue : ByteArray := prog_1_method_35_code
def yX7_isSettingValue : MethodName := ⟨RX7, "isSettingValue", "(II)Z"⟩
abbrev cX7_nextLot : ByteArray := prog_1_method_36_code
def yX7_nextLot : MethodName := ⟨RX7, "nextLot", "(I)I"⟩
def RX8 : String := "RimGrainsModel"
def TX8 : u_T := fun k => match k with
  | 0 => ("RimGrainsModel", "s", "[I", true)
  | 1 => ("RimGrainsModel", "aside", "[I", true)
  | 2 => ("RimGrainsModel", "past", "[I", true)
  | 3 => ("RimGrainsModel", "known", "I", false)
  | 4 => ("RimGrainsModel", "kept", "[I", true)
  | 5 => ("RimGrainsModel", "isKept", "Z", false)
  | 6 => ("RimGrainsModel", "pad", "[I", true)
  | 7 => ("RimGrainsModel", "length", "I", false)
  | 8 => ("RimGrainsModel", "whyError", "I", false)
  | 9 => ("RimGrainsModel", "whyNumber", "I", false)
  | 10 => ("RimGrainsModel", "whySpot", "I", false)
  | 11 => ("RimGrainsModel", "lots", "I", false)
  | 12 => ("RimGrainsModel", "walker", "I", false)
  | 13 => ("RimGrainsModel", "steps", "I", false)
  | 14 => ("RimGrainsModel", "goes", "[Z", true)
  | 15 => ("RimGrainsModel", "becomes", "[I", true)
  | 16 => ("RimGrainsModel", "spot", "I", false)
  | 17 => ("RimGrainsModel", "isForm", "Z", false)
  | 18 => ("RimGrainsModel", "letter", "I", false)
  | 19 => ("RimGrainsModel", "told", "I", false)
  | _ => ("RimGrainsModel", "highest", "[I", true)
def tyX8 : Nat → FieldType := fun k => match k with
  | 0 => .array .int
  | 1 => .array .int
  | 2 => .array .int
  | 3 => .int
  | 4 => .array .int
  | 5 => .boolean
  | 6 => .array .int
  | 7 => .int
  | 8 => .int
  | 9 => .int
  | 10 => .int
  | 11 => .int
  | 12 => .int
  | 13 => .int
  | 14 => .array .boolean
  | 15 => .array .int
  | 16 => .int
  | 17 => .boolean
  | 18 => .int
  | 19 => .int
  | _ => .array .int
abbrev wsX80 : List Cond := u_ws RX8 TX8 21
theorem nmX8 : ∀ a, a < 21 → ∀ b, b < 21 → a ≠ b → (TX8 a).2.1 ≠ (TX8 b).2.1 := by decide +kernel
theorem tyX8_ok : ∀ k, k < 21 → parseFieldDescriptor (TX8 k).2.2.1 = some (tyX8 k) := by decide +kernel
abbrev cX8_init : ByteArray := prog_10_method_1_code
def yX8_init : MethodName := ⟨RX8, "<init>", "()V"⟩
abbrev cX8_in : ByteArray := prog_10_method_3_code
def yX8_in : MethodName := ⟨RX8, "in", "(III)Z"⟩
abbrev cX8_copies : ByteArray := prog_10_method_4_code
def yX8_copies : MethodName := ⟨RX8, "copies", "([II[II)V"⟩
abbrev cX8_records : ByteArray := prog_10_method_5_code
def yX8_records : MethodName := ⟨RX8, "records", "()V"⟩
abbrev cX8_isCell : ByteArray := prog_10_method_6_code
def yX8_isCell : MethodName := ⟨RX8, "isCell", "(I)Z"⟩
abbrev cX8_size : ByteArray := prog_10_method_7_code
def yX8_size : MethodName := ⟨RX8, "size", "(I)I"⟩
abbrev cX8_ringOf : ByteArray := prog_10_method_8_code
def yX8_ringOf : MethodName := ⟨RX8, "ringOf", "(I)I"⟩
abbrev cX8_beside : ByteArray := prog_10_method_9_code
def yX8_beside : MethodName := ⟨RX8, "beside", "(II)I"⟩
abbrev cX8_rimCell : ByteArray := prog_10_method_10_code
def yX8_rimCell : MethodName := ⟨RX8, "rimCell", "(I)I"⟩
abbrev cX8_rimOf : ByteArray := prog_10_method_11_code
def yX8_rimOf : MethodName := ⟨RX8, "rimOf", "(I)I"⟩
abbrev cX8_isRim : ByteArray := prog_10_method_12_code
def yX8_isRim : MethodName := ⟨RX8, "isRim", "(I)Z"⟩
abbrev cX8_isGrain : ByteArray := prog_10_method_13_code
def yX8_isGrain : MethodName := ⟨RX8, "isGrain", "(I)Z"⟩
abbrev cX8_of : ByteArray := prog_10_method_14_code
def yX8_of : MethodName := ⟨RX8, "of", "(II)I"⟩
abbrev cX8_holder : ByteArray := prog_10_method_15_code
def yX8_holder : MethodName := ⟨RX8, "holder", "(I)I"⟩
abbrev cX8_grainAt : ByteArray := prog_10_method_16_code
def yX8_grainAt : MethodName := ⟨RX8, "grainAt", "(I)I"⟩
abbrev cX8_adds : ByteArray := prog_10_method_17_code
def yX8_adds : MethodName := ⟨RX8, "adds", "(III)V"⟩
abbrev cX8_roots : ByteArray := prog_10_method_18_code
def yX8_roots : MethodName := ⟨RX8, "roots", "(I)V"⟩
abbrev cX8_grainBeside : ByteArray := prog_10_method_19_code
def yX8_grainBeside : MethodName := ⟨RX8, "grainBeside", "(I)I"⟩
abbrev cX8_besides : ByteArray := prog_10_method_20_code
def yX8_besides : MethodName := ⟨RX8, "besides", "(I)I"⟩
abbrev cX8_draws : ByteArray := prog_10_method_21_code
def yX8_draws : MethodName := ⟨RX8, "draws", "()I"⟩
abbrev cX8_walks : ByteArray := prog_10_method_22_code
def yX8_walks : MethodName := ⟨RX8, "walks", "(I)Z"⟩
abbrev cX8_makesStep : ByteArray := prog_10_method_23_code
def yX8_makesStep : MethodName := ⟨RX8, "makesStep", "()Z"⟩
abbrev cX8_goGrain : ByteArray := prog_10_method_24_code
def yX8_goGrain : MethodName := ⟨RX8, "goGrain", "(I)I"⟩
abbrev cX8_isBlocked : ByteArray := prog_10_method_25_code
def yX8_isBlocked : MethodName := ⟨RX8, "isBlocked", "(I)Z"⟩
abbrev cX8_goRain : ByteArray := prog_10_method_26_code
def yX8_goRain : MethodName := ⟨RX8, "goRain", "(I)I"⟩
abbrev cX8_takesAway : ByteArray := prog_10_method_27_code
def yX8_takesAway : MethodName := ⟨RX8, "takesAway", "()I"⟩
abbrev cX8_goBreak : ByteArray := prog_10_method_28_code
def yX8_goBreak : MethodName := ⟨RX8, "goBreak", "(I)I"⟩
abbrev cX8_children : ByteArray := prog_10_method_29_code
def yX8_children : MethodName := ⟨RX8, "children", "(I)I"⟩
abbrev cX8_goWash : ByteArray := prog_10_method_30_code
def yX8_goWash : MethodName := ⟨RX8, "goWash", "()I"⟩
abbrev cX8_errorGo : ByteArray := prog_10_method_31_code
def yX8_errorGo : MethodName := ⟨RX8, "errorGo", "(I)I"⟩
abbrev cX8_errorBreak : ByteArray := prog_10_method_32_code
def yX8_errorBreak : MethodName := ⟨RX8, "errorBreak", "(I)I"⟩
abbrev cX8_begin : ByteArray := prog_10_method_33_code
def yX8_begin : MethodName := ⟨RX8, "begin", "(I)I"⟩
abbrev cX8_lot : ByteArray := prog_10_method_34_code
def yX8_lot : MethodName := ⟨RX8, "lot", "(I)I"⟩
abbrev cX8_go : ByteArray := prog_10_method_35_code
def yX8_go : MethodName := ⟨RX8, "go", "(I)I"⟩
abbrev cX8_rain : ByteArray := prog_10_method_36_code
def yX8_rain : MethodName := ⟨RX8, "rain", "(I)I"⟩
abbrev cX8_breakOff : ByteArray := prog_10_method_37_code
def yX8_breakOff : MethodName := ⟨RX8, "breakOff", "(I)I"⟩
abbrev cX8_wash : ByteArray := prog_10_method_38_code
def yX8_wash : MethodName := ⟨RX8, "wash", "()I"⟩
abbrev cX8_leastOf : ByteArray := prog_10_method_39_code
def yX8_leastOf : MethodName := ⟨RX8, "leastOf", "(I)I"⟩
abbrev cX8_mostOf : ByteArray := prog_10_method_40_code
def yX8_mostOf : MethodName := ⟨RX8, "mostOf", "(I)I"⟩
abbrev cX8_set : ByteArray := prog_10_method_41_code
def yX8_set : MethodName := ⟨RX8, "set", "(II)I"⟩
abbrev cX8_append : ByteArray := prog_10_method_42_code
def yX8_append : MethodName := ⟨RX8, "append", "(I)I"⟩
abbrev cX8_clear : ByteArray := prog_10_method_43_code
def yX8_clear : MethodName := ⟨RX8, "clear", "()I"⟩
abbrev cX8_here : ByteArray := prog_10_method_44_code
def yX8_here : MethodName := ⟨RX8, "here", "()I"⟩
abbrev cX8_takes : ByteArray := prog_10_method_45_code
def yX8_takes : MethodName := ⟨RX8, "takes", "(Z)V"⟩
abbrev cX8_takesNumber : ByteArray := prog_10_method_46_code
def yX8_takesNumber : MethodName := ⟨RX8, "takesNumber", "(I)V"⟩
abbrev cX8_takesDeed : ByteArray := prog_10_method_47_code
def yX8_takesDeed : MethodName := ⟨RX8, "takesDeed", "()V"⟩
abbrev cX8_isText : ByteArray := prog_10_method_48_code
def yX8_isText : MethodName := ⟨RX8, "isText", "()Z"⟩
abbrev cX8_fault : ByteArray := prog_10_method_49_code
def yX8_fault : MethodName := ⟨RX8, "fault", "()I"⟩
abbrev cX8_doesDeed : ByteArray := prog_10_method_50_code
def yX8_doesDeed : MethodName := ⟨RX8, "doesDeed", "()I"⟩
abbrev cX8_carryOut : ByteArray := prog_10_method_51_code
def yX8_carryOut : MethodName := ⟨RX8, "carryOut", "()I"⟩
abbrev cX8_why : ByteArray := prog_10_method_52_code
def yX8_why : MethodName := ⟨RX8, "why", "(I)I"⟩
abbrev cX8_cell : ByteArray := prog_10_method_53_code
def yX8_cell : MethodName := ⟨RX8, "cell", "(II)I"⟩
abbrev cX8_depthOf : ByteArray := prog_10_method_54_code
def yX8_depthOf : MethodName := ⟨RX8, "depthOf", "(I)I"⟩
abbrev cX8_rootOf : ByteArray := prog_10_method_55_code
def yX8_rootOf : MethodName := ⟨RX8, "rootOf", "(I)I"⟩
abbrev cX8_isIn : ByteArray := prog_10_method_56_code
def yX8_isIn : MethodName := ⟨RX8, "isIn", "(II)Z"⟩
abbrev cX8_treeOf : ByteArray := prog_10_method_57_code
def yX8_treeOf : MethodName := ⟨RX8, "treeOf", "(I)I"⟩
abbrev cX8_highOf : ByteArray := prog_10_method_58_code
def yX8_highOf : MethodName := ⟨RX8, "highOf", "(I)I"⟩
abbrev cX8_lookingFrom : ByteArray := prog_10_method_59_code
def yX8_lookingFrom : MethodName := ⟨RX8, "lookingFrom", "(I)I"⟩
abbrev cX8_screening : ByteArray := prog_10_method_60_code
def yX8_screening : MethodName := ⟨RX8, "screening", "(I)I"⟩
abbrev cX8_catchOf : ByteArray := prog_10_method_61_code
def yX8_catchOf : MethodName := ⟨RX8, "catchOf", "(I)I"⟩
abbrev cX8_grain : ByteArray := prog_10_method_62_code
def yX8_grain : MethodName := ⟨RX8, "grain", "(II)I"⟩
abbrev cX8_screens : ByteArray := prog_10_method_63_code
def yX8_screens : MethodName := ⟨RX8, "screens", "(I)I"⟩
abbrev cX8_ring : ByteArray := prog_10_method_64_code
def yX8_ring : MethodName := ⟨RX8, "ring", "(I)I"⟩
abbrev cX8_apart : ByteArray := prog_10_method_65_code
def yX8_apart : MethodName := ⟨RX8, "apart", "(II)I"⟩
abbrev cX8_longest : ByteArray := prog_10_method_66_code
def yX8_longest : MethodName := ⟨RX8, "longest", "(I)I"⟩
abbrev cX8_reachOf : ByteArray := prog_10_method_67_code
def yX8_reachOf : MethodName := ⟨RX8, "reachOf", "()I"⟩
abbrev cX8_deepest : ByteArray := prog_10_method_68_code
def yX8_deepest : MethodName := ⟨RX8, "deepest", "()I"⟩
abbrev cX8_ofKind : ByteArray := prog_10_method_69_code
def yX8_ofKind : MethodName := ⟨RX8, "ofKind", "(I)I"⟩
abbrev cX8_shore : ByteArray := prog_10_method_70_code
def yX8_shore : MethodName := ⟨RX8, "shore", "()I"⟩
abbrev cX8_bestCatch : ByteArray := prog_10_method_71_code
def yX8_bestCatch : MethodName := ⟨RX8, "bestCatch", "()I"⟩
abbrev cX8_count : ByteArray := prog_10_method_72_code
def yX8_count : MethodName := ⟨RX8, "count", "(I)I"⟩
abbrev cX8_density : ByteArray := prog_10_method_73_code
def yX8_density : MethodName := ⟨RX8, "density", "()D"⟩
abbrev cX8_ifGone : ByteArray := prog_10_method_74_code
def yX8_ifGone : MethodName := ⟨RX8, "ifGone", "(II)I"⟩
abbrev cX8_unscreened : ByteArray := prog_10_method_75_code
def yX8_unscreened : MethodName := ⟨RX8, "unscreened", "()I"⟩
abbrev cX8_ifBroken : ByteArray := prog_10_method_76_code
def yX8_ifBroken : MethodName := ⟨RX8, "ifBroken", "(II)I"⟩
abbrev cX8_undo : ByteArray := prog_10_method_77_code
def yX8_undo : MethodName := ⟨RX8, "undo", "()I"⟩
abbrev cX8_save : ByteArray := prog_10_method_78_code
def yX8_save : MethodName := ⟨RX8, "save", "()I"⟩
abbrev cX8_restore : ByteArray := prog_10_method_79_code
def yX8_restore : MethodName := ⟨RX8, "restore", "()I"⟩
def RJ9 : String := "java/lang/Math"
def TJ9 : u_T := fun k => match k with
  | _ => ("", "", "", false)
def tyJ9 : Nat → FieldType := fun k => match k with
  | _ => .int
abbrev wsJ90 : List Cond := u_ws RJ9 TJ9 0
theorem nmJ9 : ∀ a, a < 0 → ∀ b, b < 0 → a ≠ b → (TJ9 a).2.1 ≠ (TJ9 b).2.1 := by decide +kernel
theorem tyJ9_ok : ∀ k, k < 0 → parseFieldDescriptor (TJ9 k).2.2.1 = some (tyJ9 k) := by decide +kernel
abbrev cJ9_abs_0f7a4 : ByteArray := prog_11_method_59_code
def yJ9_abs_0f7a4 : MethodName := ⟨RJ9, "abs", "(I)I"⟩
abbrev cJ9_max_7cf53 : ByteArray := prog_11_method_65_code
def yJ9_max_7cf53 : MethodName := ⟨RJ9, "max", "(II)I"⟩
abbrev cJ9_min_7cf53 : ByteArray := prog_11_method_69_code
def yJ9_min_7cf53 : MethodName := ⟨RJ9, "min", "(II)I"⟩
def RJ10 : String := "java/lang/System"
def TJ10 : u_T := fun k => match k with
  | _ => ("", "", "", false)
def tyJ10 : Nat → FieldType := fun k => match k with
  | _ => .int
abbrev wsJ100 : List Cond := u_ws RJ10 TJ10 0
theorem nmJ10 : ∀ a, a < 0 → ∀ b, b < 0 → a ≠ b → (TJ10 a).2.1 ≠ (TJ10 b).2.1 := by decide +kernel
theorem tyJ10_ok : ∀ k, k < 0 → parseFieldDescriptor (TJ10 k).2.2.1 = some (tyJ10 k) := by decide +kernel
def RL : String := "RimGrainsLaw"
abbrev cL_law : ByteArray := code
def yL_law : MethodName := ⟨RL, "law", "([I)Z"⟩
def wsX0_init : List Cond := .code yX0_init cX0_init 1 none :: ([.methodLink RX0 3 objectInit, .instanceMethod objectInit, .code objectInit ⟨#[0xb1]⟩ 1 none, .arrayClass .boolean, .fieldLink RX0 9 "RimGrains$Fall" "falling" "[Z", .arrayClass .int, .fieldLink RX0 15 "RimGrains$Fall" "newNumbers" "[I"] ++ wsX00)
def wsX4_isGrain : List Cond := .code yX4_isGrain cX4_isGrain 2 (some .boolean) :: ([.fieldLink RX4 27 "RimGrains$State" "grains" "I"] ++ wsX40)
def wsX4_holderOf : List Cond := .code yX4_holderOf cX4_holderOf 2 (some .int) :: ([.fieldLink RX4 15 "RimGrains$State" "holders" "[I", .methodLink RX4 97 yX4_isGrain, .instanceMethod yX4_isGrain, .selects RX4 yX4_isGrain yX4_isGrain, .initialized RX4, .code yX4_isGrain cX4_isGrain 2 (some .boolean), .fieldLink RX4 27 "RimGrains$State" "grains" "I"] ++ wsX40)
def wsX4_drop : List Cond := .code yX4_drop cX4_drop 7 (some .int) :: ([.fieldLink RX4 27 "RimGrains$State" "grains" "I", .fieldLink RX4 9 "RimGrains$State" "cells" "[I", .fieldLink RX4 21 "RimGrains$State" "grainsByCell" "[I", .fieldLink RX4 15 "RimGrains$State" "holders" "[I", .fieldLink RX4 18 "RimGrains$State" "steps" "[I", .fieldLink RX4 40 "RimGrains$State" "gone" "I"] ++ wsX40)
def wsX0_dropTree : List Cond := .code yX0_dropTree cX0_dropTree 5 (some .int) :: ([.fieldLink RX0 9 "RimGrains$Fall" "falling" "[Z", .fieldLink RX0 15 "RimGrains$Fall" "newNumbers" "[I", .methodLink RX0 25 yX4_holderOf, .instanceMethod yX4_holderOf, .selects RX4 yX4_holderOf yX4_holderOf, .initialized RX4, .code yX4_holderOf cX4_holderOf 2 (some .int), .fieldLink RX4 15 "RimGrains$State" "holders" "[I", .methodLink RX4 97 yX4_isGrain, .instanceMethod yX4_isGrain, .selects RX4 yX4_isGrain yX4_isGrain, .code yX4_isGrain cX4_isGrain 2 (some .boolean), .fieldLink RX4 27 "RimGrains$State" "grains" "I", .methodLink RX0 29 yX4_drop, .instanceMethod yX4_drop, .selects RX4 yX4_drop yX4_drop, .code yX4_drop cX4_drop 7 (some .int), .fieldLink RX4 9 "RimGrains$State" "cells" "[I", .fieldLink RX4 21 "RimGrains$State" "grainsByCell" "[I", .fieldLink RX4 18 "RimGrains$State" "steps" "[I", .fieldLink RX4 40 "RimGrains$State" "gone" "I"] ++ wsX40 ++ wsX00)
def wsX0_dropTips : List Cond := .code yX0_dropTips cX0_dropTips 4 (some .int) :: ([.fieldLink RX0 9 "RimGrains$Fall" "falling" "[Z", .fieldLink RX0 15 "RimGrains$Fall" "newNumbers" "[I", .methodLink RX0 25 yX4_holderOf, .instanceMethod yX4_holderOf, .selects RX4 yX4_holderOf yX4_holderOf, .initialized RX4, .code yX4_holderOf cX4_holderOf 2 (some .int), .fieldLink RX4 15 "RimGrains$State" "holders" "[I", .methodLink RX4 97 yX4_isGrain, .instanceMethod yX4_isGrain, .selects RX4 yX4_isGrain yX4_isGrain, .code yX4_isGrain cX4_isGrain 2 (some .boolean), .fieldLink RX4 27 "RimGrains$State" "grains" "I", .methodLink RX0 29 yX4_drop, .instanceMethod yX4_drop, .selects RX4 yX4_drop yX4_drop, .code yX4_drop cX4_drop 7 (some .int), .fieldLink RX4 9 "RimGrains$State" "cells" "[I", .fieldLink RX4 21 "RimGrains$State" "grainsByCell" "[I", .fieldLink RX4 18 "RimGrains$State" "steps" "[I", .fieldLink RX4 40 "RimGrains$State" "gone" "I"] ++ wsX40 ++ wsX00)
def wsX1_init : List Cond := .code yX1_init cX1_init 1 none :: ([.methodLink RX1 3 objectInit, .instanceMethod objectInit, .code objectInit ⟨#[0xb1]⟩ 1 none, .arrayClass .char, .fieldLink RX1 9 "RimGrains$Pad" "signs" "[C", .fieldLink RX1 15 "RimGrains$Pad" "length" "I", .fieldLink RX1 19 "RimGrains$Pad" "next" "I", .fieldLink RX1 22 "RimGrains$Pad" "place" "I", .fieldLink RX1 25 "RimGrains$Pad" "letter" "C", .fieldLink RX1 29 "RimGrains$Pad" "number" "I"] ++ wsX10)
def wsX1_write : List Cond := .code yX1_write cX1_write 2 none :: ([.fieldLink RX1 15 "RimGrains$Pad" "length" "I", .fieldLink RX1 9 "RimGrains$Pad" "signs" "[C"] ++ wsX10)
def wsX1_wipe : List Cond := .code yX1_wipe cX1_wipe 1 none :: ([.fieldLink RX1 15 "RimGrains$Pad" "length" "I"] ++ wsX10)
def wsX1_isLetter : List Cond := .code yX1_isLetter cX1_isLetter 1 (some .boolean) :: ([])
def wsX1_isWhole : List Cond := .code yX1_isWhole cX1_isWhole 2 (some .boolean) :: ([])
def wsX1_withDigit : List Cond := .code yX1_withDigit cX1_withDigit 6 (some .int) :: ([])
def wsX1_firstWrong : List Cond := .code yX1_firstWrong cX1_firstWrong 5 (some .int) :: ([.fieldLink RX1 15 "RimGrains$Pad" "length" "I", .fieldLink RX1 9 "RimGrains$Pad" "signs" "[C", .methodLink RX1 32 yX1_isLetter, .static yX1_isLetter, .initialized RX1, .code yX1_isLetter cX1_isLetter 1 (some .boolean), .methodLink RX1 36 yX1_isWhole, .static yX1_isWhole, .code yX1_isWhole cX1_isWhole 2 (some .boolean), .methodLink RX1 40 yX1_withDigit, .static yX1_withDigit, .code yX1_withDigit cX1_withDigit 6 (some .int)] ++ wsX10)
def wsX1_startReading : List Cond := .code yX1_startReading cX1_startReading 1 none :: ([.fieldLink RX1 19 "RimGrains$Pad" "next" "I"] ++ wsX10)
def wsX1_readDeed : List Cond := .code yX1_readDeed cX1_readDeed 1 (some .boolean) :: ([.fieldLink RX1 19 "RimGrains$Pad" "next" "I", .fieldLink RX1 15 "RimGrains$Pad" "length" "I", .fieldLink RX1 22 "RimGrains$Pad" "place" "I", .fieldLink RX1 9 "RimGrains$Pad" "signs" "[C", .fieldLink RX1 25 "RimGrains$Pad" "letter" "C", .fieldLink RX1 29 "RimGrains$Pad" "number" "I"] ++ wsX10)
def wsX2_isCell : List Cond := .code yX2_isCell cX2_isCell 1 (some .boolean) :: ([])
def wsX2_isRim : List Cond := .code yX2_isRim cX2_isRim 1 (some .boolean) :: ([])
def wsX2_neighbour : List Cond := .code yX2_neighbour cX2_neighbour 4 (some .int) :: ([])
def wsX2_ringOf : List Cond := .code yX2_ringOf cX2_ringOf 1 (some .int) :: ([.methodLink RX2 9 Lib.Math.abs.name, .static Lib.Math.abs.name, .initialized "java/lang/Math", .code Lib.Math.abs.name Lib.Math.abs.code 1 (some .int), .methodLink RX2 15 Lib.Math.max.name, .static Lib.Math.max.name, .code Lib.Math.max.name Lib.Math.max.code 2 (some .int)])
def wsX2_cellOfRim : List Cond := .code yX2_cellOfRim cX2_cellOfRim 1 (some .int) :: ([])
def wsX2_rimOf : List Cond := .code yX2_rimOf cX2_rimOf 3 (some .int) :: ([])
def wsX2_directionInward : List Cond := .code yX2_directionInward cX2_directionInward 1 (some .int) :: ([])
def wsX3_init : List Cond := .code yX3_init cX3_init 1 none :: ([.methodLink RX3 3 objectInit, .instanceMethod objectInit, .code objectInit ⟨#[0xb1]⟩ 1 none, .arrayClass .int, .fieldLink RX3 9 "RimGrains$Screens" "catches" "[I", .fieldLink RX3 15 "RimGrains$Screens" "grains" "I", .fieldLink RX3 19 "RimGrains$Screens" "open" "I"] ++ wsX30)
def wsX4_grainAt : List Cond := .code yX4_grainAt cX4_grainAt 2 (some .int) :: ([.fieldLink RX4 21 "RimGrains$State" "grainsByCell" "[I"] ++ wsX40)
def wsX3_firstMet : List Cond := .code yX3_firstMet cX3_firstMet 6 (some .int) :: ([.methodLink RX3 29 yX2_cellOfRim, .static yX2_cellOfRim, .initialized RX2, .code yX2_cellOfRim cX2_cellOfRim 1 (some .int), .methodLink RX3 35 yX2_directionInward, .static yX2_directionInward, .code yX2_directionInward cX2_directionInward 1 (some .int), .methodLink RX3 38 yX4_grainAt, .instanceMethod yX4_grainAt, .selects RX4 yX4_grainAt yX4_grainAt, .initialized RX4, .code yX4_grainAt cX4_grainAt 2 (some .int), .fieldLink RX4 21 "RimGrains$State" "grainsByCell" "[I", .methodLink RX3 41 yX2_neighbour, .static yX2_neighbour, .code yX2_neighbour cX2_neighbour 4 (some .int)] ++ wsX40)
def wsX3_read : List Cond := .code yX3_read cX3_read 4 none :: ([.fieldLink RX3 15 "RimGrains$Screens" "grains" "I", .fieldLink RX3 19 "RimGrains$Screens" "open" "I", .fieldLink RX3 9 "RimGrains$Screens" "catches" "[I", .methodLink RX3 25 yX3_firstMet, .static yX3_firstMet, .initialized RX3, .code yX3_firstMet cX3_firstMet 6 (some .int), .methodLink RX3 29 yX2_cellOfRim, .static yX2_cellOfRim, .initialized RX2, .code yX2_cellOfRim cX2_cellOfRim 1 (some .int), .methodLink RX3 35 yX2_directionInward, .static yX2_directionInward, .code yX2_directionInward cX2_directionInward 1 (some .int), .methodLink RX3 38 yX4_grainAt, .instanceMethod yX4_grainAt, .selects RX4 yX4_grainAt yX4_grainAt, .initialized RX4, .code yX4_grainAt cX4_grainAt 2 (some .int), .fieldLink RX4 21 "RimGrains$State" "grainsByCell" "[I", .methodLink RX3 41 yX2_neighbour, .static yX2_neighbour, .code yX2_neighbour cX2_neighbour 4 (some .int)] ++ wsX40 ++ wsX30)
def wsX3_bestGrain : List Cond := .code yX3_bestGrain cX3_bestGrain 3 (some .int) :: ([.fieldLink RX3 15 "RimGrains$Screens" "grains" "I", .fieldLink RX3 9 "RimGrains$Screens" "catches" "[I"] ++ wsX30)
def wsX4_init : List Cond := .code yX4_init cX4_init 1 none :: ([.methodLink RX4 3 objectInit, .instanceMethod objectInit, .code objectInit ⟨#[0xb1]⟩ 1 none, .arrayClass .int, .fieldLink RX4 9 "RimGrains$State" "cells" "[I", .fieldLink RX4 15 "RimGrains$State" "holders" "[I", .fieldLink RX4 18 "RimGrains$State" "steps" "[I", .fieldLink RX4 21 "RimGrains$State" "grainsByCell" "[I", .fieldLink RX4 24 "RimGrains$State" "settings" "[I", .fieldLink RX4 27 "RimGrains$State" "grains" "I", .fieldLink RX4 31 "RimGrains$State" "lot" "I", .fieldLink RX4 34 "RimGrains$State" "released" "I", .fieldLink RX4 37 "RimGrains$State" "lost" "I", .fieldLink RX4 40 "RimGrains$State" "gone" "I", .fieldLink RX4 43 "RimGrains$State" "walked" "I"] ++ wsX40)
def wsX4_takeOver : List Cond := .code yX4_takeOver cX4_takeOver 2 none :: ([.fieldLink RX4 9 "RimGrains$State" "cells" "[I", .methodLink RX4 46 arraycopyName, .native arraycopyName, .static arraycopyName, .initialized "java/lang/System", .fieldLink RX4 15 "RimGrains$State" "holders" "[I", .fieldLink RX4 18 "RimGrains$State" "steps" "[I", .fieldLink RX4 21 "RimGrains$State" "grainsByCell" "[I", .fieldLink RX4 24 "RimGrains$State" "settings" "[I", .fieldLink RX4 27 "RimGrains$State" "grains" "I", .fieldLink RX4 31 "RimGrains$State" "lot" "I", .fieldLink RX4 34 "RimGrains$State" "released" "I", .fieldLink RX4 37 "RimGrains$State" "lost" "I", .fieldLink RX4 40 "RimGrains$State" "gone" "I", .fieldLink RX4 43 "RimGrains$State" "walked" "I"] ++ wsX40)
def wsX4_isRootCell : List Cond := .code yX4_isRootCell cX4_isRootCell 2 (some .boolean) :: ([.methodLink RX4 60 yX2_ringOf, .static yX2_ringOf, .initialized RX2, .code yX2_ringOf cX2_ringOf 1 (some .int), .methodLink RX2 9 Lib.Math.abs.name, .static Lib.Math.abs.name, .initialized "java/lang/Math", .code Lib.Math.abs.name Lib.Math.abs.code 1 (some .int), .methodLink RX2 15 Lib.Math.max.name, .static Lib.Math.max.name, .code Lib.Math.max.name Lib.Math.max.code 2 (some .int)])
def wsX4_add : List Cond := .code yX4_add cX4_add 4 none :: ([.fieldLink RX4 27 "RimGrains$State" "grains" "I", .fieldLink RX4 9 "RimGrains$State" "cells" "[I", .fieldLink RX4 15 "RimGrains$State" "holders" "[I", .fieldLink RX4 18 "RimGrains$State" "steps" "[I", .fieldLink RX4 21 "RimGrains$State" "grainsByCell" "[I", .methodLink RX4 66 yX2_isCell, .static yX2_isCell, .initialized RX2, .code yX2_isCell cX2_isCell 1 (some .boolean)] ++ wsX40)
def wsX4_plant_r1 : List Cond := [Cond.fieldLink RX4 27 "RimGrains$State" "grains" "I", Cond.fieldLink RX4 34 "RimGrains$State" "released" "I", Cond.fieldLink RX4 37 "RimGrains$State" "lost" "I", Cond.fieldLink RX4 40 "RimGrains$State" "gone" "I", Cond.fieldLink RX4 43 "RimGrains$State" "walked" "I", Cond.fieldLink RX4 21 "RimGrains$State" "grainsByCell" "[I", Cond.methodLink RX4 52 yX4_isRootCell, Cond.static yX4_isRootCell, Cond.initialized RX4, Cond.code yX4_isRootCell cX4_isRootCell 2 (some .boolean), Cond.methodLink RX4 60 yX2_ringOf, Cond.static yX2_ringOf, Cond.initialized RX2, Cond.code yX2_ringOf cX2_ringOf 1 (some .int), Cond.methodLink RX2 9 Lib.Math.abs.name, Cond.static Lib.Math.abs.name, Cond.initialized "java/lang/Math", Cond.code Lib.Math.abs.name Lib.Math.abs.code 1 (some .int), Cond.methodLink RX2 15 Lib.Math.max.name, Cond.static Lib.Math.max.name, Cond.code Lib.Math.max.name Lib.Math.max.code 2 (some .int), Cond.methodLink RX4 56 yX4_add, Cond.instanceMethod yX4_add, Cond.selects RX4 yX4_add yX4_add]
def wsX4_plant_r2 : List Cond := [Cond.code yX4_add cX4_add 4 none, Cond.fieldLink RX4 9 "RimGrains$State" "cells" "[I", Cond.fieldLink RX4 15 "RimGrains$State" "holders" "[I", Cond.fieldLink RX4 18 "RimGrains$State" "steps" "[I", Cond.methodLink RX4 66 yX2_isCell, Cond.static yX2_isCell, Cond.code yX2_isCell cX2_isCell 1 (some .boolean)]
def wsX4_plant : List Cond := .code yX4_plant cX4_plant 3 (some .int) :: ((wsX4_plant_r1 ++ wsX4_plant_r2) ++ wsX40)
def wsX4_setting : List Cond := .code yX4_setting cX4_setting 2 (some .int) :: ([.fieldLink RX4 24 "RimGrains$State" "settings" "[I"] ++ wsX40)
def wsX4_change : List Cond := .code yX4_change cX4_change 4 (some .int) :: ([.fieldLink RX4 24 "RimGrains$State" "settings" "[I", .methodLink RX4 70 yX4_setting, .instanceMethod yX4_setting, .selects RX4 yX4_setting yX4_setting, .initialized RX4, .code yX4_setting cX4_setting 2 (some .int)] ++ wsX40)
def wsX6_sticks : List Cond := .code yX6_sticks cX6_sticks 1 (some .boolean) :: ([.fieldLink RX6 24 "RimGrains$Walk" "holder" "I"] ++ wsX60)
def wsX4_settle : List Cond := .code yX4_settle cX4_settle 2 none :: ([.fieldLink RX4 31 "RimGrains$State" "lot" "I", .fieldLink RX4 34 "RimGrains$State" "released" "I", .fieldLink RX4 43 "RimGrains$State" "walked" "I", .fieldLink RX4 37 "RimGrains$State" "lost" "I", .methodLink RX4 78 yX6_sticks, .instanceMethod yX6_sticks, .selects RX6 yX6_sticks yX6_sticks, .initialized RX6, .code yX6_sticks cX6_sticks 1 (some .boolean), .fieldLink RX6 24 "RimGrains$Walk" "holder" "I", .methodLink RX4 56 yX4_add, .instanceMethod yX4_add, .selects RX4 yX4_add yX4_add, .initialized RX4, .code yX4_add cX4_add 4 none, .fieldLink RX4 27 "RimGrains$State" "grains" "I", .fieldLink RX4 9 "RimGrains$State" "cells" "[I", .fieldLink RX4 15 "RimGrains$State" "holders" "[I", .fieldLink RX4 18 "RimGrains$State" "steps" "[I", .fieldLink RX4 21 "RimGrains$State" "grainsByCell" "[I", .methodLink RX4 66 yX2_isCell, .static yX2_isCell, .initialized RX2, .code yX2_isCell cX2_isCell 1 (some .boolean)] ++ wsX60 ++ wsX40)
def wsX4_loseAtOnce : List Cond := .code yX4_loseAtOnce cX4_loseAtOnce 1 none :: ([.fieldLink RX4 34 "RimGrains$State" "released" "I", .fieldLink RX4 37 "RimGrains$State" "lost" "I"] ++ wsX40)
def wsX4_refusalToGo : List Cond := .code yX4_refusalToGo cX4_refusalToGo 2 (some .int) :: ([.methodLink RX4 88 yX2_isRim, .static yX2_isRim, .initialized RX2, .code yX2_isRim cX2_isRim 1 (some .boolean), .methodLink RX4 91 yX2_cellOfRim, .static yX2_cellOfRim, .code yX2_cellOfRim cX2_cellOfRim 1 (some .int), .methodLink RX4 94 yX4_grainAt, .instanceMethod yX4_grainAt, .selects RX4 yX4_grainAt yX4_grainAt, .initialized RX4, .code yX4_grainAt cX4_grainAt 2 (some .int), .fieldLink RX4 21 "RimGrains$State" "grainsByCell" "[I"] ++ wsX40)
def wsX4_refusalToBreak : List Cond := .code yX4_refusalToBreak cX4_refusalToBreak 2 (some .int) :: ([.methodLink RX4 97 yX4_isGrain, .instanceMethod yX4_isGrain, .selects RX4 yX4_isGrain yX4_isGrain, .initialized RX4, .code yX4_isGrain cX4_isGrain 2 (some .boolean), .fieldLink RX4 27 "RimGrains$State" "grains" "I", .methodLink RX4 100 yX4_holderOf, .instanceMethod yX4_holderOf, .selects RX4 yX4_holderOf yX4_holderOf, .code yX4_holderOf cX4_holderOf 2 (some .int), .fieldLink RX4 15 "RimGrains$State" "holders" "[I"] ++ wsX40)
def wsX4_cellOf : List Cond := .code yX4_cellOf cX4_cellOf 2 (some .int) :: ([.fieldLink RX4 9 "RimGrains$State" "cells" "[I", .methodLink RX4 97 yX4_isGrain, .instanceMethod yX4_isGrain, .selects RX4 yX4_isGrain yX4_isGrain, .initialized RX4, .code yX4_isGrain cX4_isGrain 2 (some .boolean), .fieldLink RX4 27 "RimGrains$State" "grains" "I"] ++ wsX40)
def wsX4_stepsOf : List Cond := .code yX4_stepsOf cX4_stepsOf 2 (some .int) :: ([.fieldLink RX4 18 "RimGrains$State" "steps" "[I", .methodLink RX4 97 yX4_isGrain, .instanceMethod yX4_isGrain, .selects RX4 yX4_isGrain yX4_isGrain, .initialized RX4, .code yX4_isGrain cX4_isGrain 2 (some .boolean), .fieldLink RX4 27 "RimGrains$State" "grains" "I"] ++ wsX40)
def wsX4_firstGrainBeside : List Cond := .code yX4_firstGrainBeside cX4_firstGrainBeside 4 (some .int) :: ([.methodLink RX4 103 yX2_neighbour, .static yX2_neighbour, .initialized RX2, .code yX2_neighbour cX2_neighbour 4 (some .int), .methodLink RX4 94 yX4_grainAt, .instanceMethod yX4_grainAt, .selects RX4 yX4_grainAt yX4_grainAt, .initialized RX4, .code yX4_grainAt cX4_grainAt 2 (some .int), .fieldLink RX4 21 "RimGrains$State" "grainsByCell" "[I"] ++ wsX40)
def wsX4_grainsAround : List Cond := .code yX4_grainsAround cX4_grainsAround 4 (some .int) :: ([.methodLink RX4 103 yX2_neighbour, .static yX2_neighbour, .initialized RX2, .code yX2_neighbour cX2_neighbour 4 (some .int), .methodLink RX4 94 yX4_grainAt, .instanceMethod yX4_grainAt, .selects RX4 yX4_grainAt yX4_grainAt, .initialized RX4, .code yX4_grainAt cX4_grainAt 2 (some .int), .fieldLink RX4 21 "RimGrains$State" "grainsByCell" "[I"] ++ wsX40)
def wsX4_freeCellsBeside : List Cond := .code yX4_freeCellsBeside cX4_freeCellsBeside 3 (some .int) :: ([.methodLink RX4 94 yX4_grainAt, .instanceMethod yX4_grainAt, .selects RX4 yX4_grainAt yX4_grainAt, .initialized RX4, .code yX4_grainAt cX4_grainAt 2 (some .int), .fieldLink RX4 21 "RimGrains$State" "grainsByCell" "[I", .methodLink RX4 107 yX4_firstGrainBeside, .instanceMethod yX4_firstGrainBeside, .selects RX4 yX4_firstGrainBeside yX4_firstGrainBeside, .code yX4_firstGrainBeside cX4_firstGrainBeside 4 (some .int), .methodLink RX4 103 yX2_neighbour, .static yX2_neighbour, .initialized RX2, .code yX2_neighbour cX2_neighbour 4 (some .int)] ++ wsX40)
def wsX4_reach : List Cond := .code yX4_reach cX4_reach 3 (some .int) :: ([.fieldLink RX4 27 "RimGrains$State" "grains" "I", .fieldLink RX4 9 "RimGrains$State" "cells" "[I", .methodLink RX4 110 Lib.Math.max.name, .static Lib.Math.max.name, .initialized "java/lang/Math", .code Lib.Math.max.name Lib.Math.max.code 2 (some .int), .methodLink RX4 60 yX2_ringOf, .static yX2_ringOf, .initialized RX2, .code yX2_ringOf cX2_ringOf 1 (some .int), .methodLink RX2 9 Lib.Math.abs.name, .static Lib.Math.abs.name, .code Lib.Math.abs.name Lib.Math.abs.code 1 (some .int), .methodLink RX2 15 Lib.Math.max.name] ++ wsX40)
def wsX4_holdsBetween : List Cond := .code yX4_holdsBetween cX4_holdsBetween 7 (some .int) :: ([.methodLink RX4 110 Lib.Math.max.name, .static Lib.Math.max.name, .initialized "java/lang/Math", .code Lib.Math.max.name Lib.Math.max.code 2 (some .int), .methodLink RX4 115 Lib.Math.min.name, .static Lib.Math.min.name, .code Lib.Math.min.name Lib.Math.min.code 2 (some .int), .methodLink RX4 100 yX4_holderOf, .instanceMethod yX4_holderOf, .selects RX4 yX4_holderOf yX4_holderOf, .initialized RX4, .code yX4_holderOf cX4_holderOf 2 (some .int), .fieldLink RX4 15 "RimGrains$State" "holders" "[I", .methodLink RX4 97 yX4_isGrain, .instanceMethod yX4_isGrain, .selects RX4 yX4_isGrain yX4_isGrain, .code yX4_isGrain cX4_isGrain 2 (some .boolean), .fieldLink RX4 27 "RimGrains$State" "grains" "I"] ++ wsX40)
def wsX4_longestOfPairs : List Cond := .code yX4_longestOfPairs cX4_longestOfPairs 4 (some .int) :: ([.fieldLink RX4 27 "RimGrains$State" "grains" "I", .methodLink RX4 110 Lib.Math.max.name, .static Lib.Math.max.name, .initialized "java/lang/Math", .code Lib.Math.max.name Lib.Math.max.code 2 (some .int), .methodLink RX4 118 yX4_holdsBetween, .instanceMethod yX4_holdsBetween, .selects RX4 yX4_holdsBetween yX4_holdsBetween, .initialized RX4, .code yX4_holdsBetween cX4_holdsBetween 7 (some .int), .methodLink RX4 115 Lib.Math.min.name, .static Lib.Math.min.name, .code Lib.Math.min.name Lib.Math.min.code 2 (some .int), .methodLink RX4 100 yX4_holderOf, .instanceMethod yX4_holderOf, .selects RX4 yX4_holderOf yX4_holderOf, .code yX4_holderOf cX4_holderOf 2 (some .int), .fieldLink RX4 15 "RimGrains$State" "holders" "[I", .methodLink RX4 97 yX4_isGrain, .instanceMethod yX4_isGrain, .selects RX4 yX4_isGrain yX4_isGrain, .code yX4_isGrain cX4_isGrain 2 (some .boolean)] ++ wsX40)
def wsX5_init : List Cond := .code yX5_init cX5_init 1 none :: ([.methodLink RX5 3 objectInit, .instanceMethod objectInit, .code objectInit ⟨#[0xb1]⟩ 1 none, .arrayClass .int, .fieldLink RX5 9 "RimGrains$Trees" "depths" "[I", .fieldLink RX5 15 "RimGrains$Trees" "roots" "[I", .fieldLink RX5 18 "RimGrains$Trees" "holding" "[I", .fieldLink RX5 21 "RimGrains$Trees" "members" "[I", .fieldLink RX5 24 "RimGrains$Trees" "highest" "[I", .fieldLink RX5 27 "RimGrains$Trees" "second" "[I", .fieldLink RX5 30 "RimGrains$Trees" "grains" "I"] ++ wsX50)
def wsX5_readFromHolder : List Cond := .code yX5_readFromHolder cX5_readFromHolder 3 none :: ([.fieldLink RX5 9 "RimGrains$Trees" "depths" "[I", .fieldLink RX5 15 "RimGrains$Trees" "roots" "[I", .fieldLink RX5 18 "RimGrains$Trees" "holding" "[I", .fieldLink RX5 21 "RimGrains$Trees" "members" "[I", .fieldLink RX5 24 "RimGrains$Trees" "highest" "[I", .fieldLink RX5 27 "RimGrains$Trees" "second" "[I"] ++ wsX50)
def wsX5_addToHolder : List Cond := .code yX5_addToHolder cX5_addToHolder 4 none :: ([.fieldLink RX5 18 "RimGrains$Trees" "holding" "[I", .fieldLink RX5 21 "RimGrains$Trees" "members" "[I", .fieldLink RX5 24 "RimGrains$Trees" "highest" "[I", .fieldLink RX5 27 "RimGrains$Trees" "second" "[I"] ++ wsX50)
def wsX5_read_r1 : List Cond := [Cond.fieldLink RX5 30 "RimGrains$Trees" "grains" "I", Cond.methodLink RX5 37 yX4_holderOf, Cond.instanceMethod yX4_holderOf, Cond.selects RX4 yX4_holderOf yX4_holderOf, Cond.initialized RX4, Cond.code yX4_holderOf cX4_holderOf 2 (some .int), Cond.fieldLink RX4 15 "RimGrains$State" "holders" "[I", Cond.methodLink RX4 97 yX4_isGrain, Cond.instanceMethod yX4_isGrain, Cond.selects RX4 yX4_isGrain yX4_isGrain, Cond.code yX4_isGrain cX4_isGrain 2 (some .boolean), Cond.fieldLink RX4 27 "RimGrains$State" "grains" "I", Cond.methodLink RX5 41 yX5_readFromHolder, Cond.instanceMethod yX5_readFromHolder, Cond.selects RX5 yX5_readFromHolder yX5_readFromHolder, Cond.initialized RX5, Cond.code yX5_readFromHolder cX5_readFromHolder 3 none, Cond.fieldLink RX5 9 "RimGrains$Trees" "depths" "[I", Cond.fieldLink RX5 15 "RimGrains$Trees" "roots" "[I", Cond.fieldLink RX5 18 "RimGrains$Trees" "holding" "[I", Cond.fieldLink RX5 21 "RimGrains$Trees" "members" "[I", Cond.fieldLink RX5 24 "RimGrains$Trees" "highest" "[I", Cond.fieldLink RX5 27 "RimGrains$Trees" "second" "[I", Cond.methodLink RX5 45 yX5_addToHolder]
def wsX5_read_r2 : List Cond := [Cond.instanceMethod yX5_addToHolder, Cond.selects RX5 yX5_addToHolder yX5_addToHolder, Cond.code yX5_addToHolder cX5_addToHolder 4 none]
def wsX5_read : List Cond := .code yX5_read cX5_read 4 none :: ((wsX5_read_r1 ++ wsX5_read_r2) ++ wsX40 ++ wsX50)
def wsX5_rootGrains : List Cond := .code yX5_rootGrains cX5_rootGrains 3 (some .int) :: ([.fieldLink RX5 30 "RimGrains$Trees" "grains" "I", .fieldLink RX5 15 "RimGrains$Trees" "roots" "[I"] ++ wsX50)
def wsX5_grainsHeldBy : List Cond := .code yX5_grainsHeldBy cX5_grainsHeldBy 5 (some .int) :: ([.fieldLink RX5 30 "RimGrains$Trees" "grains" "I", .fieldLink RX5 18 "RimGrains$Trees" "holding" "[I"] ++ wsX50)
def wsX5_deepest : List Cond := .code yX5_deepest cX5_deepest 3 (some .int) :: ([.fieldLink RX5 30 "RimGrains$Trees" "grains" "I", .fieldLink RX5 9 "RimGrains$Trees" "depths" "[I", .methodLink RX5 48 Lib.Math.max.name, .static Lib.Math.max.name, .initialized "java/lang/Math", .code Lib.Math.max.name Lib.Math.max.code 2 (some .int)] ++ wsX50)
def wsX5_longestOfHeights : List Cond := .code yX5_longestOfHeights cX5_longestOfHeights 3 (some .int) :: ([.fieldLink RX5 30 "RimGrains$Trees" "grains" "I", .fieldLink RX5 24 "RimGrains$Trees" "highest" "[I", .fieldLink RX5 27 "RimGrains$Trees" "second" "[I", .methodLink RX5 48 Lib.Math.max.name, .static Lib.Math.max.name, .initialized "java/lang/Math", .code Lib.Math.max.name Lib.Math.max.code 2 (some .int)] ++ wsX50)
def wsX6_init : List Cond := .code yX6_init cX6_init 1 none :: ([.methodLink RX6 3 objectInit, .instanceMethod objectInit, .code objectInit ⟨#[0xb1]⟩ 1 none, .fieldLink RX6 9 "RimGrains$Walk" "place" "I", .fieldLink RX6 15 "RimGrains$Walk" "steps" "I", .fieldLink RX6 18 "RimGrains$Walk" "draws" "I", .fieldLink RX6 21 "RimGrains$Walk" "lot" "I", .fieldLink RX6 24 "RimGrains$Walk" "holder" "I"] ++ wsX60)
def wsX7_nextLot : List Cond := .code yX7_nextLot cX7_nextLot 1 (some .int) :: ([])
def wsX6_draw : List Cond := .code yX6_draw cX6_draw 1 (some .int) :: ([.fieldLink RX6 21 "RimGrains$Walk" "lot" "I", .fieldLink RX6 18 "RimGrains$Walk" "draws" "I", .static yX7_nextLot, .initialized RX7, .code yX7_nextLot cX7_nextLot 1 (some .int)] ++ wsX60)
def wsX6_catchesHold_r1 : List Cond := [Cond.fieldLink RX6 9 "RimGrains$Walk" "place" "I", Cond.fieldLink RX6 24 "RimGrains$Walk" "holder" "I", Cond.methodLink RX6 41 yX4_firstGrainBeside, Cond.instanceMethod yX4_firstGrainBeside, Cond.selects RX4 yX4_firstGrainBeside yX4_firstGrainBeside, Cond.initialized RX4, Cond.code yX4_firstGrainBeside cX4_firstGrainBeside 4 (some .int), Cond.methodLink RX4 103 yX2_neighbour, Cond.static yX2_neighbour, Cond.initialized RX2, Cond.code yX2_neighbour cX2_neighbour 4 (some .int), Cond.methodLink RX4 94 yX4_grainAt, Cond.instanceMethod yX4_grainAt, Cond.selects RX4 yX4_grainAt yX4_grainAt, Cond.code yX4_grainAt cX4_grainAt 2 (some .int), Cond.fieldLink RX4 21 "RimGrains$State" "grainsByCell" "[I", Cond.methodLink RX6 44 yX6_draw, Cond.instanceMethod yX6_draw, Cond.selects RX6 yX6_draw yX6_draw, Cond.initialized RX6, Cond.code yX6_draw cX6_draw 1 (some .int), Cond.fieldLink RX6 21 "RimGrains$Walk" "lot" "I", Cond.fieldLink RX6 18 "RimGrains$Walk" "draws" "I", Cond.static yX7_nextLot]
def wsX6_catchesHold_r2 : List Cond := [Cond.initialized RX7, Cond.code yX7_nextLot cX7_nextLot 1 (some .int), Cond.methodLink RX6 30 yX4_setting, Cond.instanceMethod yX4_setting, Cond.selects RX4 yX4_setting yX4_setting, Cond.code yX4_setting cX4_setting 2 (some .int), Cond.fieldLink RX4 24 "RimGrains$State" "settings" "[I"]
def wsX6_catchesHold : List Cond := .code yX6_catchesHold cX6_catchesHold 3 (some .boolean) :: ((wsX6_catchesHold_r1 ++ wsX6_catchesHold_r2) ++ wsX60 ++ wsX40)
def wsX6_makesStep_r1 : List Cond := [Cond.fieldLink RX6 9 "RimGrains$Walk" "place" "I", Cond.fieldLink RX6 15 "RimGrains$Walk" "steps" "I", Cond.methodLink RX6 44 yX6_draw, Cond.instanceMethod yX6_draw, Cond.selects RX6 yX6_draw yX6_draw, Cond.initialized RX6, Cond.code yX6_draw cX6_draw 1 (some .int), Cond.fieldLink RX6 21 "RimGrains$Walk" "lot" "I", Cond.fieldLink RX6 18 "RimGrains$Walk" "draws" "I", Cond.static yX7_nextLot, Cond.initialized RX7, Cond.code yX7_nextLot cX7_nextLot 1 (some .int), Cond.methodLink RX6 30 yX4_setting, Cond.instanceMethod yX4_setting, Cond.selects RX4 yX4_setting yX4_setting, Cond.initialized RX4, Cond.code yX4_setting cX4_setting 2 (some .int), Cond.fieldLink RX4 24 "RimGrains$State" "settings" "[I", Cond.methodLink RX6 48 yX2_neighbour, Cond.static yX2_neighbour, Cond.initialized RX2, Cond.code yX2_neighbour cX2_neighbour 4 (some .int), Cond.methodLink RX6 54 yX4_grainAt, Cond.instanceMethod yX4_grainAt]
def wsX6_makesStep_r2 : List Cond := [Cond.selects RX4 yX4_grainAt yX4_grainAt, Cond.code yX4_grainAt cX4_grainAt 2 (some .int), Cond.fieldLink RX4 21 "RimGrains$State" "grainsByCell" "[I"]
def wsX6_makesStep : List Cond := .code yX6_makesStep cX6_makesStep 4 (some .boolean) :: ((wsX6_makesStep_r1 ++ wsX6_makesStep_r2) ++ wsX60 ++ wsX40)
def wsX6_walkFrom_r1 : List Cond := [Cond.fieldLink RX6 9 "RimGrains$Walk" "place" "I", Cond.fieldLink RX6 15 "RimGrains$Walk" "steps" "I", Cond.fieldLink RX6 18 "RimGrains$Walk" "draws" "I", Cond.fieldLink RX6 21 "RimGrains$Walk" "lot" "I", Cond.fieldLink RX6 24 "RimGrains$Walk" "holder" "I", Cond.methodLink RX6 30 yX4_setting, Cond.instanceMethod yX4_setting, Cond.selects RX4 yX4_setting yX4_setting, Cond.initialized RX4, Cond.code yX4_setting cX4_setting 2 (some .int), Cond.fieldLink RX4 24 "RimGrains$State" "settings" "[I", Cond.methodLink RX6 34 yX6_catchesHold, Cond.instanceMethod yX6_catchesHold, Cond.selects RX6 yX6_catchesHold yX6_catchesHold, Cond.initialized RX6, Cond.code yX6_catchesHold cX6_catchesHold 3 (some .boolean), Cond.methodLink RX6 41 yX4_firstGrainBeside, Cond.instanceMethod yX4_firstGrainBeside, Cond.selects RX4 yX4_firstGrainBeside yX4_firstGrainBeside, Cond.code yX4_firstGrainBeside cX4_firstGrainBeside 4 (some .int), Cond.methodLink RX4 103 yX2_neighbour, Cond.static yX2_neighbour, Cond.initialized RX2, Cond.code yX2_neighbour cX2_neighbour 4 (some .int)]
def wsX6_walkFrom_r2 : List Cond := [Cond.methodLink RX4 94 yX4_grainAt, Cond.instanceMethod yX4_grainAt, Cond.selects RX4 yX4_grainAt yX4_grainAt, Cond.code yX4_grainAt cX4_grainAt 2 (some .int), Cond.fieldLink RX4 21 "RimGrains$State" "grainsByCell" "[I", Cond.methodLink RX6 44 yX6_draw, Cond.instanceMethod yX6_draw, Cond.selects RX6 yX6_draw yX6_draw, Cond.code yX6_draw cX6_draw 1 (some .int), Cond.static yX7_nextLot, Cond.initialized RX7, Cond.code yX7_nextLot cX7_nextLot 1 (some .int), Cond.methodLink RX6 38 yX6_makesStep, Cond.instanceMethod yX6_makesStep, Cond.selects RX6 yX6_makesStep yX6_makesStep, Cond.code yX6_makesStep cX6_makesStep 4 (some .boolean), Cond.methodLink RX6 48 yX2_neighbour, Cond.methodLink RX6 54 yX4_grainAt]
def wsX6_walkFrom : List Cond := .code yX6_walkFrom cX6_walkFrom 6 none :: ((wsX6_walkFrom_r1 ++ wsX6_walkFrom_r2) ++ wsX60 ++ wsX40)
def wsX6_answer : List Cond := .code yX6_answer cX6_answer 1 (some .int) :: ([.fieldLink RX6 9 "RimGrains$Walk" "place" "I", .fieldLink RX6 15 "RimGrains$Walk" "steps" "I", .methodLink RX6 60 yX6_sticks, .instanceMethod yX6_sticks, .selects RX6 yX6_sticks yX6_sticks, .initialized RX6, .code yX6_sticks cX6_sticks 1 (some .boolean), .fieldLink RX6 24 "RimGrains$Walk" "holder" "I"] ++ wsX60)
def wsX7_init_r1 : List Cond := [Cond.methodLink RX7 3 objectInit, Cond.instanceMethod objectInit, Cond.code objectInit ⟨#[0xb1]⟩ 1 none, Cond.classLink RX7 9 RX4, Cond.instantiable RX4 11, Cond.initialized RX4, Cond.fieldLink RX7 12 "RimGrains" "now" "LRimGrains$State;", Cond.fieldLink RX7 16 "RimGrains" "snapshot" "LRimGrains$State;", Cond.fieldLink RX7 19 "RimGrains" "trial" "LRimGrains$State;", Cond.fieldLink RX7 22 "RimGrains" "history" "[LRimGrains$State;", Cond.classLink RX7 26 RX6, Cond.instantiable RX6 5, Cond.initialized RX6, Cond.fieldLink RX7 29 "RimGrains" "walk" "LRimGrains$Walk;", Cond.classLink RX7 33 RX0, Cond.instantiable RX0 2, Cond.initialized RX0, Cond.fieldLink RX7 36 "RimGrains" "fall" "LRimGrains$Fall;", Cond.classLink RX7 40 RX5, Cond.instantiable RX5 7, Cond.initialized RX5, Cond.fieldLink RX7 43 "RimGrains" "trees" "LRimGrains$Trees;", Cond.classLink RX7 47 RX3, Cond.instantiable RX3 3]
def wsX7_init_r2 : List Cond := [Cond.initialized RX3, Cond.fieldLink RX7 50 "RimGrains" "screening" "LRimGrains$Screens;", Cond.classLink RX7 54 RX1, Cond.instantiable RX1 6, Cond.initialized RX1, Cond.fieldLink RX7 57 "RimGrains" "pad" "LRimGrains$Pad;", Cond.fieldLink RX7 61 "RimGrains" "states" "I", Cond.fieldLink RX7 65 "RimGrains" "saved" "Z", Cond.fieldLink RX7 69 "RimGrains" "stopError" "I", Cond.fieldLink RX7 72 "RimGrains" "stopDeed" "I", Cond.fieldLink RX7 75 "RimGrains" "stopPlace" "I", Cond.instanceMethod yX4_init, Cond.code yX4_init cX4_init 1 none, Cond.methodLink RX4 3 objectInit, Cond.arrayClass .int, Cond.fieldLink RX4 9 "RimGrains$State" "cells" "[I", Cond.fieldLink RX4 15 "RimGrains$State" "holders" "[I", Cond.fieldLink RX4 18 "RimGrains$State" "steps" "[I", Cond.fieldLink RX4 21 "RimGrains$State" "grainsByCell" "[I", Cond.fieldLink RX4 24 "RimGrains$State" "settings" "[I", Cond.fieldLink RX4 27 "RimGrains$State" "grains" "I", Cond.fieldLink RX4 31 "RimGrains$State" "lot" "I", Cond.fieldLink RX4 34 "RimGrains$State" "released" "I", Cond.fieldLink RX4 37 "RimGrains$State" "lost" "I"]
def wsX7_init_r3 : List Cond := [Cond.fieldLink RX4 40 "RimGrains$State" "gone" "I", Cond.fieldLink RX4 43 "RimGrains$State" "walked" "I", Cond.instanceMethod yX6_init, Cond.code yX6_init cX6_init 1 none, Cond.methodLink RX6 3 objectInit, Cond.fieldLink RX6 9 "RimGrains$Walk" "place" "I", Cond.fieldLink RX6 15 "RimGrains$Walk" "steps" "I", Cond.fieldLink RX6 18 "RimGrains$Walk" "draws" "I", Cond.fieldLink RX6 21 "RimGrains$Walk" "lot" "I", Cond.fieldLink RX6 24 "RimGrains$Walk" "holder" "I", Cond.instanceMethod yX0_init, Cond.code yX0_init cX0_init 1 none, Cond.methodLink RX0 3 objectInit, Cond.arrayClass .boolean, Cond.fieldLink RX0 9 "RimGrains$Fall" "falling" "[Z", Cond.fieldLink RX0 15 "RimGrains$Fall" "newNumbers" "[I", Cond.instanceMethod yX5_init, Cond.code yX5_init cX5_init 1 none, Cond.methodLink RX5 3 objectInit, Cond.fieldLink RX5 9 "RimGrains$Trees" "depths" "[I", Cond.fieldLink RX5 15 "RimGrains$Trees" "roots" "[I", Cond.fieldLink RX5 18 "RimGrains$Trees" "holding" "[I", Cond.fieldLink RX5 21 "RimGrains$Trees" "members" "[I", Cond.fieldLink RX5 24 "RimGrains$Trees" "highest" "[I"]
def wsX7_init_r4 : List Cond := [Cond.fieldLink RX5 27 "RimGrains$Trees" "second" "[I", Cond.fieldLink RX5 30 "RimGrains$Trees" "grains" "I", Cond.instanceMethod yX3_init, Cond.code yX3_init cX3_init 1 none, Cond.methodLink RX3 3 objectInit, Cond.fieldLink RX3 9 "RimGrains$Screens" "catches" "[I", Cond.fieldLink RX3 15 "RimGrains$Screens" "grains" "I", Cond.fieldLink RX3 19 "RimGrains$Screens" "open" "I", Cond.instanceMethod yX1_init, Cond.code yX1_init cX1_init 1 none, Cond.methodLink RX1 3 objectInit, Cond.arrayClass .char, Cond.fieldLink RX1 9 "RimGrains$Pad" "signs" "[C", Cond.fieldLink RX1 15 "RimGrains$Pad" "length" "I", Cond.fieldLink RX1 19 "RimGrains$Pad" "next" "I", Cond.fieldLink RX1 22 "RimGrains$Pad" "place" "I", Cond.fieldLink RX1 25 "RimGrains$Pad" "letter" "C", Cond.fieldLink RX1 29 "RimGrains$Pad" "number" "I", Cond.methodLink RX7 78 yX4_plant, Cond.instanceMethod yX4_plant, Cond.selects RX4 yX4_plant yX4_plant, Cond.code yX4_plant cX4_plant 3 (some .int), Cond.methodLink RX4 52 yX4_isRootCell, Cond.static yX4_isRootCell]
def wsX7_init_r5 : List Cond := [Cond.code yX4_isRootCell cX4_isRootCell 2 (some .boolean), Cond.methodLink RX4 60 yX2_ringOf, Cond.static yX2_ringOf, Cond.initialized RX2, Cond.code yX2_ringOf cX2_ringOf 1 (some .int), Cond.methodLink RX2 9 Lib.Math.abs.name, Cond.static Lib.Math.abs.name, Cond.initialized "java/lang/Math", Cond.code Lib.Math.abs.name Lib.Math.abs.code 1 (some .int), Cond.methodLink RX2 15 Lib.Math.max.name, Cond.static Lib.Math.max.name, Cond.code Lib.Math.max.name Lib.Math.max.code 2 (some .int), Cond.methodLink RX4 56 yX4_add, Cond.instanceMethod yX4_add, Cond.selects RX4 yX4_add yX4_add, Cond.code yX4_add cX4_add 4 none, Cond.methodLink RX4 66 yX2_isCell, Cond.static yX2_isCell, Cond.code yX2_isCell cX2_isCell 1 (some .boolean)]
def wsX7_init : List Cond := .code yX7_init cX7_init 2 none :: ((wsX7_init_r1 ++ (wsX7_init_r2 ++ (wsX7_init_r3 ++ (wsX7_init_r4 ++ wsX7_init_r5)))) ++ wsX40 ++ wsX70 ++ wsX60 ++ wsX00 ++ wsX50 ++ wsX30 ++ wsX10)
def wsX7_dropOldest : List Cond := .code yX7_dropOldest cX7_dropOldest 3 none :: ([.fieldLink RX7 22 "RimGrains" "history" "[LRimGrains$State;", .fieldLink RX7 61 "RimGrains" "states" "I"] ++ wsX70)
def wsX7_record_r1 : List Cond := [Cond.fieldLink RX7 61 "RimGrains" "states" "I", Cond.fieldLink RX7 22 "RimGrains" "history" "[LRimGrains$State;", Cond.fieldLink RX7 12 "RimGrains" "now" "LRimGrains$State;", Cond.methodLink RX7 273 yX7_dropOldest, Cond.instanceMethod yX7_dropOldest, Cond.selects RX7 yX7_dropOldest yX7_dropOldest, Cond.initialized RX7, Cond.code yX7_dropOldest cX7_dropOldest 3 none, Cond.methodLink RX7 263 yX4_takeOver, Cond.instanceMethod yX4_takeOver, Cond.selects RX4 yX4_takeOver yX4_takeOver, Cond.initialized RX4, Cond.code yX4_takeOver cX4_takeOver 2 none, Cond.fieldLink RX4 9 "RimGrains$State" "cells" "[I", Cond.methodLink RX4 46 arraycopyName, Cond.native arraycopyName, Cond.static arraycopyName, Cond.initialized "java/lang/System", Cond.fieldLink RX4 15 "RimGrains$State" "holders" "[I", Cond.fieldLink RX4 18 "RimGrains$State" "steps" "[I", Cond.fieldLink RX4 21 "RimGrains$State" "grainsByCell" "[I", Cond.fieldLink RX4 24 "RimGrains$State" "settings" "[I", Cond.fieldLink RX4 27 "RimGrains$State" "grains" "I", Cond.fieldLink RX4 31 "RimGrains$State" "lot" "I"]
def wsX7_record_r2 : List Cond := [Cond.fieldLink RX4 34 "RimGrains$State" "released" "I", Cond.fieldLink RX4 37 "RimGrains$State" "lost" "I", Cond.fieldLink RX4 40 "RimGrains$State" "gone" "I", Cond.fieldLink RX4 43 "RimGrains$State" "walked" "I"]
def wsX7_record : List Cond := .code yX7_record cX7_record 1 none :: ((wsX7_record_r1 ++ wsX7_record_r2) ++ wsX70 ++ wsX40)
def wsX7_begin_r1 : List Cond := [Cond.fieldLink RX7 12 "RimGrains" "now" "LRimGrains$State;", Cond.methodLink RX7 82 yX7_record, Cond.instanceMethod yX7_record, Cond.selects RX7 yX7_record yX7_record, Cond.initialized RX7, Cond.code yX7_record cX7_record 1 none, Cond.fieldLink RX7 61 "RimGrains" "states" "I", Cond.fieldLink RX7 22 "RimGrains" "history" "[LRimGrains$State;", Cond.methodLink RX7 273 yX7_dropOldest, Cond.instanceMethod yX7_dropOldest, Cond.selects RX7 yX7_dropOldest yX7_dropOldest, Cond.code yX7_dropOldest cX7_dropOldest 3 none, Cond.methodLink RX7 263 yX4_takeOver, Cond.instanceMethod yX4_takeOver, Cond.selects RX4 yX4_takeOver yX4_takeOver, Cond.initialized RX4, Cond.code yX4_takeOver cX4_takeOver 2 none, Cond.fieldLink RX4 9 "RimGrains$State" "cells" "[I", Cond.methodLink RX4 46 arraycopyName, Cond.native arraycopyName, Cond.static arraycopyName, Cond.initialized "java/lang/System", Cond.fieldLink RX4 15 "RimGrains$State" "holders" "[I", Cond.fieldLink RX4 18 "RimGrains$State" "steps" "[I"]
def wsX7_begin_r2 : List Cond := [Cond.fieldLink RX4 21 "RimGrains$State" "grainsByCell" "[I", Cond.fieldLink RX4 24 "RimGrains$State" "settings" "[I", Cond.fieldLink RX4 27 "RimGrains$State" "grains" "I", Cond.fieldLink RX4 31 "RimGrains$State" "lot" "I", Cond.fieldLink RX4 34 "RimGrains$State" "released" "I", Cond.fieldLink RX4 37 "RimGrains$State" "lost" "I", Cond.fieldLink RX4 40 "RimGrains$State" "gone" "I", Cond.fieldLink RX4 43 "RimGrains$State" "walked" "I", Cond.methodLink RX7 78 yX4_plant, Cond.instanceMethod yX4_plant, Cond.selects RX4 yX4_plant yX4_plant, Cond.code yX4_plant cX4_plant 3 (some .int), Cond.methodLink RX4 52 yX4_isRootCell, Cond.static yX4_isRootCell, Cond.code yX4_isRootCell cX4_isRootCell 2 (some .boolean), Cond.methodLink RX4 60 yX2_ringOf, Cond.static yX2_ringOf, Cond.initialized RX2, Cond.code yX2_ringOf cX2_ringOf 1 (some .int), Cond.methodLink RX2 9 Lib.Math.abs.name, Cond.static Lib.Math.abs.name, Cond.initialized "java/lang/Math", Cond.code Lib.Math.abs.name Lib.Math.abs.code 1 (some .int), Cond.methodLink RX2 15 Lib.Math.max.name]
def wsX7_begin_r3 : List Cond := [Cond.static Lib.Math.max.name, Cond.code Lib.Math.max.name Lib.Math.max.code 2 (some .int), Cond.methodLink RX4 56 yX4_add, Cond.instanceMethod yX4_add, Cond.selects RX4 yX4_add yX4_add, Cond.code yX4_add cX4_add 4 none, Cond.methodLink RX4 66 yX2_isCell, Cond.static yX2_isCell, Cond.code yX2_isCell cX2_isCell 1 (some .boolean)]
def wsX7_begin : List Cond := .code yX7_begin cX7_begin 2 (some .int) :: ((wsX7_begin_r1 ++ (wsX7_begin_r2 ++ wsX7_begin_r3)) ++ wsX70 ++ wsX40)
def wsX7_lot_r1 : List Cond := [Cond.fieldLink RX7 12 "RimGrains" "now" "LRimGrains$State;", Cond.methodLink RX7 82 yX7_record, Cond.instanceMethod yX7_record, Cond.selects RX7 yX7_record yX7_record, Cond.initialized RX7, Cond.code yX7_record cX7_record 1 none, Cond.fieldLink RX7 61 "RimGrains" "states" "I", Cond.fieldLink RX7 22 "RimGrains" "history" "[LRimGrains$State;", Cond.methodLink RX7 273 yX7_dropOldest, Cond.instanceMethod yX7_dropOldest, Cond.selects RX7 yX7_dropOldest yX7_dropOldest, Cond.code yX7_dropOldest cX7_dropOldest 3 none, Cond.methodLink RX7 263 yX4_takeOver, Cond.instanceMethod yX4_takeOver, Cond.selects RX4 yX4_takeOver yX4_takeOver, Cond.initialized RX4, Cond.code yX4_takeOver cX4_takeOver 2 none, Cond.fieldLink RX4 9 "RimGrains$State" "cells" "[I", Cond.methodLink RX4 46 arraycopyName, Cond.native arraycopyName, Cond.static arraycopyName, Cond.initialized "java/lang/System", Cond.fieldLink RX4 15 "RimGrains$State" "holders" "[I", Cond.fieldLink RX4 18 "RimGrains$State" "steps" "[I"]
def wsX7_lot_r2 : List Cond := [Cond.fieldLink RX4 21 "RimGrains$State" "grainsByCell" "[I", Cond.fieldLink RX4 24 "RimGrains$State" "settings" "[I", Cond.fieldLink RX4 27 "RimGrains$State" "grains" "I", Cond.fieldLink RX4 31 "RimGrains$State" "lot" "I", Cond.fieldLink RX4 34 "RimGrains$State" "released" "I", Cond.fieldLink RX4 37 "RimGrains$State" "lost" "I", Cond.fieldLink RX4 40 "RimGrains$State" "gone" "I", Cond.fieldLink RX4 43 "RimGrains$State" "walked" "I"]
def wsX7_lot : List Cond := .code yX7_lot cX7_lot 3 (some .int) :: ((wsX7_lot_r1 ++ wsX7_lot_r2) ++ wsX70 ++ wsX40)
def wsX7_letWalk_r1 : List Cond := [Cond.fieldLink RX7 29 "RimGrains" "walk" "LRimGrains$Walk;", Cond.fieldLink RX7 12 "RimGrains" "now" "LRimGrains$State;", Cond.methodLink RX7 249 yX2_cellOfRim, Cond.static yX2_cellOfRim, Cond.initialized RX2, Cond.code yX2_cellOfRim cX2_cellOfRim 1 (some .int), Cond.methodLink RX7 252 yX6_walkFrom, Cond.instanceMethod yX6_walkFrom, Cond.selects RX6 yX6_walkFrom yX6_walkFrom, Cond.initialized RX6, Cond.code yX6_walkFrom cX6_walkFrom 6 none, Cond.fieldLink RX6 9 "RimGrains$Walk" "place" "I", Cond.fieldLink RX6 15 "RimGrains$Walk" "steps" "I", Cond.fieldLink RX6 18 "RimGrains$Walk" "draws" "I", Cond.fieldLink RX6 21 "RimGrains$Walk" "lot" "I", Cond.fieldLink RX6 24 "RimGrains$Walk" "holder" "I", Cond.methodLink RX6 30 yX4_setting, Cond.instanceMethod yX4_setting, Cond.selects RX4 yX4_setting yX4_setting, Cond.initialized RX4, Cond.code yX4_setting cX4_setting 2 (some .int), Cond.fieldLink RX4 24 "RimGrains$State" "settings" "[I", Cond.methodLink RX6 34 yX6_catchesHold, Cond.instanceMethod yX6_catchesHold]
def wsX7_letWalk_r2 : List Cond := [Cond.selects RX6 yX6_catchesHold yX6_catchesHold, Cond.code yX6_catchesHold cX6_catchesHold 3 (some .boolean), Cond.methodLink RX6 41 yX4_firstGrainBeside, Cond.instanceMethod yX4_firstGrainBeside, Cond.selects RX4 yX4_firstGrainBeside yX4_firstGrainBeside, Cond.code yX4_firstGrainBeside cX4_firstGrainBeside 4 (some .int), Cond.methodLink RX4 103 yX2_neighbour, Cond.static yX2_neighbour, Cond.code yX2_neighbour cX2_neighbour 4 (some .int), Cond.methodLink RX4 94 yX4_grainAt, Cond.instanceMethod yX4_grainAt, Cond.selects RX4 yX4_grainAt yX4_grainAt, Cond.code yX4_grainAt cX4_grainAt 2 (some .int), Cond.fieldLink RX4 21 "RimGrains$State" "grainsByCell" "[I", Cond.methodLink RX6 44 yX6_draw, Cond.instanceMethod yX6_draw, Cond.selects RX6 yX6_draw yX6_draw, Cond.code yX6_draw cX6_draw 1 (some .int), Cond.static yX7_nextLot, Cond.initialized RX7, Cond.code yX7_nextLot cX7_nextLot 1 (some .int), Cond.methodLink RX6 38 yX6_makesStep, Cond.instanceMethod yX6_makesStep, Cond.selects RX6 yX6_makesStep yX6_makesStep]
def wsX7_letWalk_r3 : List Cond := [Cond.code yX6_makesStep cX6_makesStep 4 (some .boolean), Cond.methodLink RX6 48 yX2_neighbour, Cond.methodLink RX6 54 yX4_grainAt, Cond.methodLink RX7 276 yX4_settle, Cond.instanceMethod yX4_settle, Cond.selects RX4 yX4_settle yX4_settle, Cond.code yX4_settle cX4_settle 2 none, Cond.fieldLink RX4 31 "RimGrains$State" "lot" "I", Cond.fieldLink RX4 34 "RimGrains$State" "released" "I", Cond.fieldLink RX4 43 "RimGrains$State" "walked" "I", Cond.fieldLink RX4 37 "RimGrains$State" "lost" "I", Cond.methodLink RX4 78 yX6_sticks, Cond.instanceMethod yX6_sticks, Cond.selects RX6 yX6_sticks yX6_sticks, Cond.code yX6_sticks cX6_sticks 1 (some .boolean), Cond.methodLink RX4 56 yX4_add, Cond.instanceMethod yX4_add, Cond.selects RX4 yX4_add yX4_add, Cond.code yX4_add cX4_add 4 none, Cond.fieldLink RX4 27 "RimGrains$State" "grains" "I", Cond.fieldLink RX4 9 "RimGrains$State" "cells" "[I", Cond.fieldLink RX4 15 "RimGrains$State" "holders" "[I", Cond.fieldLink RX4 18 "RimGrains$State" "steps" "[I", Cond.methodLink RX4 66 yX2_isCell]
def wsX7_letWalk_r4 : List Cond := [Cond.static yX2_isCell, Cond.code yX2_isCell cX2_isCell 1 (some .boolean), Cond.methodLink RX7 256 yX6_answer, Cond.instanceMethod yX6_answer, Cond.selects RX6 yX6_answer yX6_answer, Cond.code yX6_answer cX6_answer 1 (some .int), Cond.methodLink RX6 60 yX6_sticks]
def wsX7_letWalk : List Cond := .code yX7_letWalk cX7_letWalk 2 (some .int) :: ((wsX7_letWalk_r1 ++ (wsX7_letWalk_r2 ++ (wsX7_letWalk_r3 ++ wsX7_letWalk_r4))) ++ wsX70 ++ wsX60 ++ wsX40)
def wsX7_go_r1 : List Cond := [Cond.fieldLink RX7 12 "RimGrains" "now" "LRimGrains$State;", Cond.methodLink RX7 88 yX4_refusalToGo, Cond.instanceMethod yX4_refusalToGo, Cond.selects RX4 yX4_refusalToGo yX4_refusalToGo, Cond.initialized RX4, Cond.code yX4_refusalToGo cX4_refusalToGo 2 (some .int), Cond.methodLink RX4 88 yX2_isRim, Cond.static yX2_isRim, Cond.initialized RX2, Cond.code yX2_isRim cX2_isRim 1 (some .boolean), Cond.methodLink RX4 91 yX2_cellOfRim, Cond.static yX2_cellOfRim, Cond.code yX2_cellOfRim cX2_cellOfRim 1 (some .int), Cond.methodLink RX4 94 yX4_grainAt, Cond.instanceMethod yX4_grainAt, Cond.selects RX4 yX4_grainAt yX4_grainAt, Cond.code yX4_grainAt cX4_grainAt 2 (some .int), Cond.fieldLink RX4 21 "RimGrains$State" "grainsByCell" "[I", Cond.methodLink RX7 82 yX7_record, Cond.instanceMethod yX7_record, Cond.selects RX7 yX7_record yX7_record, Cond.initialized RX7, Cond.code yX7_record cX7_record 1 none, Cond.fieldLink RX7 61 "RimGrains" "states" "I"]
def wsX7_go_r2 : List Cond := [Cond.fieldLink RX7 22 "RimGrains" "history" "[LRimGrains$State;", Cond.methodLink RX7 273 yX7_dropOldest, Cond.instanceMethod yX7_dropOldest, Cond.selects RX7 yX7_dropOldest yX7_dropOldest, Cond.code yX7_dropOldest cX7_dropOldest 3 none, Cond.methodLink RX7 263 yX4_takeOver, Cond.instanceMethod yX4_takeOver, Cond.selects RX4 yX4_takeOver yX4_takeOver, Cond.code yX4_takeOver cX4_takeOver 2 none, Cond.fieldLink RX4 9 "RimGrains$State" "cells" "[I", Cond.methodLink RX4 46 arraycopyName, Cond.native arraycopyName, Cond.static arraycopyName, Cond.initialized "java/lang/System", Cond.fieldLink RX4 15 "RimGrains$State" "holders" "[I", Cond.fieldLink RX4 18 "RimGrains$State" "steps" "[I", Cond.fieldLink RX4 24 "RimGrains$State" "settings" "[I", Cond.fieldLink RX4 27 "RimGrains$State" "grains" "I", Cond.fieldLink RX4 31 "RimGrains$State" "lot" "I", Cond.fieldLink RX4 34 "RimGrains$State" "released" "I", Cond.fieldLink RX4 37 "RimGrains$State" "lost" "I", Cond.fieldLink RX4 40 "RimGrains$State" "gone" "I", Cond.fieldLink RX4 43 "RimGrains$State" "walked" "I", Cond.methodLink RX7 91 yX7_letWalk]
def wsX7_go_r3 : List Cond := [Cond.instanceMethod yX7_letWalk, Cond.selects RX7 yX7_letWalk yX7_letWalk, Cond.code yX7_letWalk cX7_letWalk 2 (some .int), Cond.fieldLink RX7 29 "RimGrains" "walk" "LRimGrains$Walk;", Cond.methodLink RX7 249 yX2_cellOfRim, Cond.methodLink RX7 252 yX6_walkFrom, Cond.instanceMethod yX6_walkFrom, Cond.selects RX6 yX6_walkFrom yX6_walkFrom, Cond.initialized RX6, Cond.code yX6_walkFrom cX6_walkFrom 6 none, Cond.fieldLink RX6 9 "RimGrains$Walk" "place" "I", Cond.fieldLink RX6 15 "RimGrains$Walk" "steps" "I", Cond.fieldLink RX6 18 "RimGrains$Walk" "draws" "I", Cond.fieldLink RX6 21 "RimGrains$Walk" "lot" "I", Cond.fieldLink RX6 24 "RimGrains$Walk" "holder" "I", Cond.methodLink RX6 30 yX4_setting, Cond.instanceMethod yX4_setting, Cond.selects RX4 yX4_setting yX4_setting, Cond.code yX4_setting cX4_setting 2 (some .int), Cond.methodLink RX6 34 yX6_catchesHold, Cond.instanceMethod yX6_catchesHold, Cond.selects RX6 yX6_catchesHold yX6_catchesHold, Cond.code yX6_catchesHold cX6_catchesHold 3 (some .boolean), Cond.methodLink RX6 41 yX4_firstGrainBeside]
def wsX7_go_r4 : List Cond := [Cond.instanceMethod yX4_firstGrainBeside, Cond.selects RX4 yX4_firstGrainBeside yX4_firstGrainBeside, Cond.code yX4_firstGrainBeside cX4_firstGrainBeside 4 (some .int), Cond.methodLink RX4 103 yX2_neighbour, Cond.static yX2_neighbour, Cond.code yX2_neighbour cX2_neighbour 4 (some .int), Cond.methodLink RX6 44 yX6_draw, Cond.instanceMethod yX6_draw, Cond.selects RX6 yX6_draw yX6_draw, Cond.code yX6_draw cX6_draw 1 (some .int), Cond.static yX7_nextLot, Cond.code yX7_nextLot cX7_nextLot 1 (some .int), Cond.methodLink RX6 38 yX6_makesStep, Cond.instanceMethod yX6_makesStep, Cond.selects RX6 yX6_makesStep yX6_makesStep, Cond.code yX6_makesStep cX6_makesStep 4 (some .boolean), Cond.methodLink RX6 48 yX2_neighbour, Cond.methodLink RX6 54 yX4_grainAt, Cond.methodLink RX7 276 yX4_settle, Cond.instanceMethod yX4_settle, Cond.selects RX4 yX4_settle yX4_settle, Cond.code yX4_settle cX4_settle 2 none, Cond.methodLink RX4 78 yX6_sticks, Cond.instanceMethod yX6_sticks]
def wsX7_go_r5 : List Cond := [Cond.selects RX6 yX6_sticks yX6_sticks, Cond.code yX6_sticks cX6_sticks 1 (some .boolean), Cond.methodLink RX4 56 yX4_add, Cond.instanceMethod yX4_add, Cond.selects RX4 yX4_add yX4_add, Cond.code yX4_add cX4_add 4 none, Cond.methodLink RX4 66 yX2_isCell, Cond.static yX2_isCell, Cond.code yX2_isCell cX2_isCell 1 (some .boolean), Cond.methodLink RX7 256 yX6_answer, Cond.instanceMethod yX6_answer, Cond.selects RX6 yX6_answer yX6_answer, Cond.code yX6_answer cX6_answer 1 (some .int), Cond.methodLink RX6 60 yX6_sticks]
def wsX7_go : List Cond := .code yX7_go cX7_go 3 (some .int) :: ((wsX7_go_r1 ++ (wsX7_go_r2 ++ (wsX7_go_r3 ++ (wsX7_go_r4 ++ wsX7_go_r5)))) ++ wsX70 ++ wsX40 ++ wsX60)
def wsX7_dropSticks_r1 : List Cond := [Cond.fieldLink RX7 12 "RimGrains" "now" "LRimGrains$State;", Cond.fieldLink RX7 29 "RimGrains" "walk" "LRimGrains$Walk;", Cond.methodLink RX7 280 yX7_nextLot, Cond.static yX7_nextLot, Cond.initialized RX7, Cond.code yX7_nextLot cX7_nextLot 1 (some .int), Cond.methodLink RX7 88 yX4_refusalToGo, Cond.instanceMethod yX4_refusalToGo, Cond.selects RX4 yX4_refusalToGo yX4_refusalToGo, Cond.initialized RX4, Cond.code yX4_refusalToGo cX4_refusalToGo 2 (some .int), Cond.methodLink RX4 88 yX2_isRim, Cond.static yX2_isRim, Cond.initialized RX2, Cond.code yX2_isRim cX2_isRim 1 (some .boolean), Cond.methodLink RX4 91 yX2_cellOfRim, Cond.static yX2_cellOfRim, Cond.code yX2_cellOfRim cX2_cellOfRim 1 (some .int), Cond.methodLink RX4 94 yX4_grainAt, Cond.instanceMethod yX4_grainAt, Cond.selects RX4 yX4_grainAt yX4_grainAt, Cond.code yX4_grainAt cX4_grainAt 2 (some .int), Cond.fieldLink RX4 21 "RimGrains$State" "grainsByCell" "[I", Cond.methodLink RX7 283 yX4_loseAtOnce]
def wsX7_dropSticks_r2 : List Cond := [Cond.instanceMethod yX4_loseAtOnce, Cond.selects RX4 yX4_loseAtOnce yX4_loseAtOnce, Cond.code yX4_loseAtOnce cX4_loseAtOnce 1 none, Cond.fieldLink RX4 34 "RimGrains$State" "released" "I", Cond.fieldLink RX4 37 "RimGrains$State" "lost" "I", Cond.methodLink RX7 91 yX7_letWalk, Cond.instanceMethod yX7_letWalk, Cond.selects RX7 yX7_letWalk yX7_letWalk, Cond.code yX7_letWalk cX7_letWalk 2 (some .int), Cond.methodLink RX7 249 yX2_cellOfRim, Cond.methodLink RX7 252 yX6_walkFrom, Cond.instanceMethod yX6_walkFrom, Cond.selects RX6 yX6_walkFrom yX6_walkFrom, Cond.initialized RX6, Cond.code yX6_walkFrom cX6_walkFrom 6 none, Cond.fieldLink RX6 9 "RimGrains$Walk" "place" "I", Cond.fieldLink RX6 15 "RimGrains$Walk" "steps" "I", Cond.fieldLink RX6 18 "RimGrains$Walk" "draws" "I", Cond.fieldLink RX6 21 "RimGrains$Walk" "lot" "I", Cond.fieldLink RX6 24 "RimGrains$Walk" "holder" "I", Cond.methodLink RX6 30 yX4_setting, Cond.instanceMethod yX4_setting, Cond.selects RX4 yX4_setting yX4_setting, Cond.code yX4_setting cX4_setting 2 (some .int)]
def wsX7_dropSticks_r3 : List Cond := [Cond.fieldLink RX4 24 "RimGrains$State" "settings" "[I", Cond.methodLink RX6 34 yX6_catchesHold, Cond.instanceMethod yX6_catchesHold, Cond.selects RX6 yX6_catchesHold yX6_catchesHold, Cond.code yX6_catchesHold cX6_catchesHold 3 (some .boolean), Cond.methodLink RX6 41 yX4_firstGrainBeside, Cond.instanceMethod yX4_firstGrainBeside, Cond.selects RX4 yX4_firstGrainBeside yX4_firstGrainBeside, Cond.code yX4_firstGrainBeside cX4_firstGrainBeside 4 (some .int), Cond.methodLink RX4 103 yX2_neighbour, Cond.static yX2_neighbour, Cond.code yX2_neighbour cX2_neighbour 4 (some .int), Cond.methodLink RX6 44 yX6_draw, Cond.instanceMethod yX6_draw, Cond.selects RX6 yX6_draw yX6_draw, Cond.code yX6_draw cX6_draw 1 (some .int), Cond.methodLink RX6 38 yX6_makesStep, Cond.instanceMethod yX6_makesStep, Cond.selects RX6 yX6_makesStep yX6_makesStep, Cond.code yX6_makesStep cX6_makesStep 4 (some .boolean), Cond.methodLink RX6 48 yX2_neighbour, Cond.methodLink RX6 54 yX4_grainAt, Cond.methodLink RX7 276 yX4_settle, Cond.instanceMethod yX4_settle]
def wsX7_dropSticks_r4 : List Cond := [Cond.selects RX4 yX4_settle yX4_settle, Cond.code yX4_settle cX4_settle 2 none, Cond.fieldLink RX4 31 "RimGrains$State" "lot" "I", Cond.fieldLink RX4 43 "RimGrains$State" "walked" "I", Cond.methodLink RX4 78 yX6_sticks, Cond.instanceMethod yX6_sticks, Cond.selects RX6 yX6_sticks yX6_sticks, Cond.code yX6_sticks cX6_sticks 1 (some .boolean), Cond.methodLink RX4 56 yX4_add, Cond.instanceMethod yX4_add, Cond.selects RX4 yX4_add yX4_add, Cond.code yX4_add cX4_add 4 none, Cond.fieldLink RX4 27 "RimGrains$State" "grains" "I", Cond.fieldLink RX4 9 "RimGrains$State" "cells" "[I", Cond.fieldLink RX4 15 "RimGrains$State" "holders" "[I", Cond.fieldLink RX4 18 "RimGrains$State" "steps" "[I", Cond.methodLink RX4 66 yX2_isCell, Cond.static yX2_isCell, Cond.code yX2_isCell cX2_isCell 1 (some .boolean), Cond.methodLink RX7 256 yX6_answer, Cond.instanceMethod yX6_answer, Cond.selects RX6 yX6_answer yX6_answer, Cond.code yX6_answer cX6_answer 1 (some .int), Cond.methodLink RX6 60 yX6_sticks]
def wsX7_dropSticks_r5 : List Cond := [Cond.methodLink RX7 286 yX6_sticks]
def wsX7_dropSticks : List Cond := .code yX7_dropSticks cX7_dropSticks 2 (some .boolean) :: ((wsX7_dropSticks_r1 ++ (wsX7_dropSticks_r2 ++ (wsX7_dropSticks_r3 ++ (wsX7_dropSticks_r4 ++ wsX7_dropSticks_r5)))) ++ wsX70 ++ wsX40 ++ wsX60)
def wsX7_rain_r1 : List Cond := [Cond.methodLink RX7 82 yX7_record, Cond.instanceMethod yX7_record, Cond.selects RX7 yX7_record yX7_record, Cond.initialized RX7, Cond.code yX7_record cX7_record 1 none, Cond.fieldLink RX7 61 "RimGrains" "states" "I", Cond.fieldLink RX7 22 "RimGrains" "history" "[LRimGrains$State;", Cond.fieldLink RX7 12 "RimGrains" "now" "LRimGrains$State;", Cond.methodLink RX7 273 yX7_dropOldest, Cond.instanceMethod yX7_dropOldest, Cond.selects RX7 yX7_dropOldest yX7_dropOldest, Cond.code yX7_dropOldest cX7_dropOldest 3 none, Cond.methodLink RX7 263 yX4_takeOver, Cond.instanceMethod yX4_takeOver, Cond.selects RX4 yX4_takeOver yX4_takeOver, Cond.initialized RX4, Cond.code yX4_takeOver cX4_takeOver 2 none, Cond.fieldLink RX4 9 "RimGrains$State" "cells" "[I", Cond.methodLink RX4 46 arraycopyName, Cond.native arraycopyName, Cond.static arraycopyName, Cond.initialized "java/lang/System", Cond.fieldLink RX4 15 "RimGrains$State" "holders" "[I", Cond.fieldLink RX4 18 "RimGrains$State" "steps" "[I"]
def wsX7_rain_r2 : List Cond := [Cond.fieldLink RX4 21 "RimGrains$State" "grainsByCell" "[I", Cond.fieldLink RX4 24 "RimGrains$State" "settings" "[I", Cond.fieldLink RX4 27 "RimGrains$State" "grains" "I", Cond.fieldLink RX4 31 "RimGrains$State" "lot" "I", Cond.fieldLink RX4 34 "RimGrains$State" "released" "I", Cond.fieldLink RX4 37 "RimGrains$State" "lost" "I", Cond.fieldLink RX4 40 "RimGrains$State" "gone" "I", Cond.fieldLink RX4 43 "RimGrains$State" "walked" "I", Cond.methodLink RX7 94 yX7_dropSticks, Cond.instanceMethod yX7_dropSticks, Cond.selects RX7 yX7_dropSticks yX7_dropSticks, Cond.code yX7_dropSticks cX7_dropSticks 2 (some .boolean), Cond.fieldLink RX7 29 "RimGrains" "walk" "LRimGrains$Walk;", Cond.methodLink RX7 280 yX7_nextLot, Cond.static yX7_nextLot, Cond.code yX7_nextLot cX7_nextLot 1 (some .int), Cond.methodLink RX7 88 yX4_refusalToGo, Cond.instanceMethod yX4_refusalToGo, Cond.selects RX4 yX4_refusalToGo yX4_refusalToGo, Cond.code yX4_refusalToGo cX4_refusalToGo 2 (some .int), Cond.methodLink RX4 88 yX2_isRim, Cond.static yX2_isRim, Cond.initialized RX2, Cond.code yX2_isRim cX2_isRim 1 (some .boolean)]
def wsX7_rain_r3 : List Cond := [Cond.methodLink RX4 91 yX2_cellOfRim, Cond.static yX2_cellOfRim, Cond.code yX2_cellOfRim cX2_cellOfRim 1 (some .int), Cond.methodLink RX4 94 yX4_grainAt, Cond.instanceMethod yX4_grainAt, Cond.selects RX4 yX4_grainAt yX4_grainAt, Cond.code yX4_grainAt cX4_grainAt 2 (some .int), Cond.methodLink RX7 283 yX4_loseAtOnce, Cond.instanceMethod yX4_loseAtOnce, Cond.selects RX4 yX4_loseAtOnce yX4_loseAtOnce, Cond.code yX4_loseAtOnce cX4_loseAtOnce 1 none, Cond.methodLink RX7 91 yX7_letWalk, Cond.instanceMethod yX7_letWalk, Cond.selects RX7 yX7_letWalk yX7_letWalk, Cond.code yX7_letWalk cX7_letWalk 2 (some .int), Cond.methodLink RX7 249 yX2_cellOfRim, Cond.methodLink RX7 252 yX6_walkFrom, Cond.instanceMethod yX6_walkFrom, Cond.selects RX6 yX6_walkFrom yX6_walkFrom, Cond.initialized RX6, Cond.code yX6_walkFrom cX6_walkFrom 6 none, Cond.fieldLink RX6 9 "RimGrains$Walk" "place" "I", Cond.fieldLink RX6 15 "RimGrains$Walk" "steps" "I", Cond.fieldLink RX6 18 "RimGrains$Walk" "draws" "I"]
def wsX7_rain_r4 : List Cond := [Cond.fieldLink RX6 21 "RimGrains$Walk" "lot" "I", Cond.fieldLink RX6 24 "RimGrains$Walk" "holder" "I", Cond.methodLink RX6 30 yX4_setting, Cond.instanceMethod yX4_setting, Cond.selects RX4 yX4_setting yX4_setting, Cond.code yX4_setting cX4_setting 2 (some .int), Cond.methodLink RX6 34 yX6_catchesHold, Cond.instanceMethod yX6_catchesHold, Cond.selects RX6 yX6_catchesHold yX6_catchesHold, Cond.code yX6_catchesHold cX6_catchesHold 3 (some .boolean), Cond.methodLink RX6 41 yX4_firstGrainBeside, Cond.instanceMethod yX4_firstGrainBeside, Cond.selects RX4 yX4_firstGrainBeside yX4_firstGrainBeside, Cond.code yX4_firstGrainBeside cX4_firstGrainBeside 4 (some .int), Cond.methodLink RX4 103 yX2_neighbour, Cond.static yX2_neighbour, Cond.code yX2_neighbour cX2_neighbour 4 (some .int), Cond.methodLink RX6 44 yX6_draw, Cond.instanceMethod yX6_draw, Cond.selects RX6 yX6_draw yX6_draw, Cond.code yX6_draw cX6_draw 1 (some .int), Cond.methodLink RX6 38 yX6_makesStep, Cond.instanceMethod yX6_makesStep, Cond.selects RX6 yX6_makesStep yX6_makesStep]
def wsX7_rain_r5 : List Cond := [Cond.code yX6_makesStep cX6_makesStep 4 (some .boolean), Cond.methodLink RX6 48 yX2_neighbour, Cond.methodLink RX6 54 yX4_grainAt, Cond.methodLink RX7 276 yX4_settle, Cond.instanceMethod yX4_settle, Cond.selects RX4 yX4_settle yX4_settle, Cond.code yX4_settle cX4_settle 2 none, Cond.methodLink RX4 78 yX6_sticks, Cond.instanceMethod yX6_sticks, Cond.selects RX6 yX6_sticks yX6_sticks, Cond.code yX6_sticks cX6_sticks 1 (some .boolean), Cond.methodLink RX4 56 yX4_add, Cond.instanceMethod yX4_add, Cond.selects RX4 yX4_add yX4_add, Cond.code yX4_add cX4_add 4 none, Cond.methodLink RX4 66 yX2_isCell, Cond.static yX2_isCell, Cond.code yX2_isCell cX2_isCell 1 (some .boolean), Cond.methodLink RX7 256 yX6_answer, Cond.instanceMethod yX6_answer, Cond.selects RX6 yX6_answer yX6_answer, Cond.code yX6_answer cX6_answer 1 (some .int), Cond.methodLink RX6 60 yX6_sticks, Cond.methodLink RX7 286 yX6_sticks]
def wsX7_rain : List Cond := .code yX7_rain cX7_rain 4 (some .int) :: ((wsX7_rain_r1 ++ (wsX7_rain_r2 ++ (wsX7_rain_r3 ++ (wsX7_rain_r4 ++ wsX7_rain_r5)))) ++ wsX70 ++ wsX40 ++ wsX60)
def wsX7_breakOff_r1 : List Cond := [Cond.fieldLink RX7 12 "RimGrains" "now" "LRimGrains$State;", Cond.fieldLink RX7 36 "RimGrains" "fall" "LRimGrains$Fall;", Cond.methodLink RX7 98 yX4_refusalToBreak, Cond.instanceMethod yX4_refusalToBreak, Cond.selects RX4 yX4_refusalToBreak yX4_refusalToBreak, Cond.initialized RX4, Cond.code yX4_refusalToBreak cX4_refusalToBreak 2 (some .int), Cond.methodLink RX4 97 yX4_isGrain, Cond.instanceMethod yX4_isGrain, Cond.selects RX4 yX4_isGrain yX4_isGrain, Cond.code yX4_isGrain cX4_isGrain 2 (some .boolean), Cond.fieldLink RX4 27 "RimGrains$State" "grains" "I", Cond.methodLink RX4 100 yX4_holderOf, Cond.instanceMethod yX4_holderOf, Cond.selects RX4 yX4_holderOf yX4_holderOf, Cond.code yX4_holderOf cX4_holderOf 2 (some .int), Cond.fieldLink RX4 15 "RimGrains$State" "holders" "[I", Cond.methodLink RX7 82 yX7_record, Cond.instanceMethod yX7_record, Cond.selects RX7 yX7_record yX7_record, Cond.initialized RX7, Cond.code yX7_record cX7_record 1 none, Cond.fieldLink RX7 61 "RimGrains" "states" "I", Cond.fieldLink RX7 22 "RimGrains" "history" "[LRimGrains$State;"]
def wsX7_breakOff_r2 : List Cond := [Cond.methodLink RX7 273 yX7_dropOldest, Cond.instanceMethod yX7_dropOldest, Cond.selects RX7 yX7_dropOldest yX7_dropOldest, Cond.code yX7_dropOldest cX7_dropOldest 3 none, Cond.methodLink RX7 263 yX4_takeOver, Cond.instanceMethod yX4_takeOver, Cond.selects RX4 yX4_takeOver yX4_takeOver, Cond.code yX4_takeOver cX4_takeOver 2 none, Cond.fieldLink RX4 9 "RimGrains$State" "cells" "[I", Cond.methodLink RX4 46 arraycopyName, Cond.native arraycopyName, Cond.static arraycopyName, Cond.initialized "java/lang/System", Cond.fieldLink RX4 18 "RimGrains$State" "steps" "[I", Cond.fieldLink RX4 21 "RimGrains$State" "grainsByCell" "[I", Cond.fieldLink RX4 24 "RimGrains$State" "settings" "[I", Cond.fieldLink RX4 31 "RimGrains$State" "lot" "I", Cond.fieldLink RX4 34 "RimGrains$State" "released" "I", Cond.fieldLink RX4 37 "RimGrains$State" "lost" "I", Cond.fieldLink RX4 40 "RimGrains$State" "gone" "I", Cond.fieldLink RX4 43 "RimGrains$State" "walked" "I", Cond.methodLink RX7 101 yX0_dropTree, Cond.instanceMethod yX0_dropTree, Cond.selects RX0 yX0_dropTree yX0_dropTree]
def wsX7_breakOff_r3 : List Cond := [Cond.initialized RX0, Cond.code yX0_dropTree cX0_dropTree 5 (some .int), Cond.fieldLink RX0 9 "RimGrains$Fall" "falling" "[Z", Cond.fieldLink RX0 15 "RimGrains$Fall" "newNumbers" "[I", Cond.methodLink RX0 25 yX4_holderOf, Cond.methodLink RX0 29 yX4_drop, Cond.instanceMethod yX4_drop, Cond.selects RX4 yX4_drop yX4_drop, Cond.code yX4_drop cX4_drop 7 (some .int)]
def wsX7_breakOff : List Cond := .code yX7_breakOff cX7_breakOff 3 (some .int) :: ((wsX7_breakOff_r1 ++ (wsX7_breakOff_r2 ++ wsX7_breakOff_r3)) ++ wsX70 ++ wsX40 ++ wsX00)
def wsX7_wash_r1 : List Cond := [Cond.fieldLink RX7 36 "RimGrains" "fall" "LRimGrains$Fall;", Cond.fieldLink RX7 12 "RimGrains" "now" "LRimGrains$State;", Cond.methodLink RX7 82 yX7_record, Cond.instanceMethod yX7_record, Cond.selects RX7 yX7_record yX7_record, Cond.initialized RX7, Cond.code yX7_record cX7_record 1 none, Cond.fieldLink RX7 61 "RimGrains" "states" "I", Cond.fieldLink RX7 22 "RimGrains" "history" "[LRimGrains$State;", Cond.methodLink RX7 273 yX7_dropOldest, Cond.instanceMethod yX7_dropOldest, Cond.selects RX7 yX7_dropOldest yX7_dropOldest, Cond.code yX7_dropOldest cX7_dropOldest 3 none, Cond.methodLink RX7 263 yX4_takeOver, Cond.instanceMethod yX4_takeOver, Cond.selects RX4 yX4_takeOver yX4_takeOver, Cond.initialized RX4, Cond.code yX4_takeOver cX4_takeOver 2 none, Cond.fieldLink RX4 9 "RimGrains$State" "cells" "[I", Cond.methodLink RX4 46 arraycopyName, Cond.native arraycopyName, Cond.static arraycopyName, Cond.initialized "java/lang/System", Cond.fieldLink RX4 15 "RimGrains$State" "holders" "[I"]
def wsX7_wash_r2 : List Cond := [Cond.fieldLink RX4 18 "RimGrains$State" "steps" "[I", Cond.fieldLink RX4 21 "RimGrains$State" "grainsByCell" "[I", Cond.fieldLink RX4 24 "RimGrains$State" "settings" "[I", Cond.fieldLink RX4 27 "RimGrains$State" "grains" "I", Cond.fieldLink RX4 31 "RimGrains$State" "lot" "I", Cond.fieldLink RX4 34 "RimGrains$State" "released" "I", Cond.fieldLink RX4 37 "RimGrains$State" "lost" "I", Cond.fieldLink RX4 40 "RimGrains$State" "gone" "I", Cond.fieldLink RX4 43 "RimGrains$State" "walked" "I", Cond.methodLink RX7 105 yX0_dropTips, Cond.instanceMethod yX0_dropTips, Cond.selects RX0 yX0_dropTips yX0_dropTips, Cond.initialized RX0, Cond.code yX0_dropTips cX0_dropTips 4 (some .int), Cond.fieldLink RX0 9 "RimGrains$Fall" "falling" "[Z", Cond.fieldLink RX0 15 "RimGrains$Fall" "newNumbers" "[I", Cond.methodLink RX0 25 yX4_holderOf, Cond.instanceMethod yX4_holderOf, Cond.selects RX4 yX4_holderOf yX4_holderOf, Cond.code yX4_holderOf cX4_holderOf 2 (some .int), Cond.methodLink RX4 97 yX4_isGrain, Cond.instanceMethod yX4_isGrain, Cond.selects RX4 yX4_isGrain yX4_isGrain, Cond.code yX4_isGrain cX4_isGrain 2 (some .boolean)]
def wsX7_wash_r3 : List Cond := [Cond.methodLink RX0 29 yX4_drop, Cond.instanceMethod yX4_drop, Cond.selects RX4 yX4_drop yX4_drop, Cond.code yX4_drop cX4_drop 7 (some .int)]
def wsX7_wash : List Cond := .code yX7_wash cX7_wash 1 (some .int) :: ((wsX7_wash_r1 ++ (wsX7_wash_r2 ++ wsX7_wash_r3)) ++ wsX70 ++ wsX40 ++ wsX00)
def wsX7_isSettingValue : List Cond := .code yX7_isSettingValue cX7_isSettingValue 2 (some .boolean) :: ([])
def wsX7_set_r1 : List Cond := [Cond.fieldLink RX7 12 "RimGrains" "now" "LRimGrains$State;", Cond.methodLink RX7 109 yX7_isSettingValue, Cond.static yX7_isSettingValue, Cond.initialized RX7, Cond.code yX7_isSettingValue cX7_isSettingValue 2 (some .boolean), Cond.methodLink RX7 82 yX7_record, Cond.instanceMethod yX7_record, Cond.selects RX7 yX7_record yX7_record, Cond.code yX7_record cX7_record 1 none, Cond.fieldLink RX7 61 "RimGrains" "states" "I", Cond.fieldLink RX7 22 "RimGrains" "history" "[LRimGrains$State;", Cond.methodLink RX7 273 yX7_dropOldest, Cond.instanceMethod yX7_dropOldest, Cond.selects RX7 yX7_dropOldest yX7_dropOldest, Cond.code yX7_dropOldest cX7_dropOldest 3 none, Cond.methodLink RX7 263 yX4_takeOver, Cond.instanceMethod yX4_takeOver, Cond.selects RX4 yX4_takeOver yX4_takeOver, Cond.initialized RX4, Cond.code yX4_takeOver cX4_takeOver 2 none, Cond.fieldLink RX4 9 "RimGrains$State" "cells" "[I", Cond.methodLink RX4 46 arraycopyName, Cond.native arraycopyName, Cond.static arraycopyName]
def wsX7_set_r2 : List Cond := [Cond.initialized "java/lang/System", Cond.fieldLink RX4 15 "RimGrains$State" "holders" "[I", Cond.fieldLink RX4 18 "RimGrains$State" "steps" "[I", Cond.fieldLink RX4 21 "RimGrains$State" "grainsByCell" "[I", Cond.fieldLink RX4 24 "RimGrains$State" "settings" "[I", Cond.fieldLink RX4 27 "RimGrains$State" "grains" "I", Cond.fieldLink RX4 31 "RimGrains$State" "lot" "I", Cond.fieldLink RX4 34 "RimGrains$State" "released" "I", Cond.fieldLink RX4 37 "RimGrains$State" "lost" "I", Cond.fieldLink RX4 40 "RimGrains$State" "gone" "I", Cond.fieldLink RX4 43 "RimGrains$State" "walked" "I", Cond.methodLink RX7 113 yX4_change, Cond.instanceMethod yX4_change, Cond.selects RX4 yX4_change yX4_change, Cond.code yX4_change cX4_change 4 (some .int), Cond.methodLink RX4 70 yX4_setting, Cond.instanceMethod yX4_setting, Cond.selects RX4 yX4_setting yX4_setting, Cond.code yX4_setting cX4_setting 2 (some .int)]
def wsX7_set : List Cond := .code yX7_set cX7_set 3 (some .int) :: ((wsX7_set_r1 ++ wsX7_set_r2) ++ wsX70 ++ wsX40)
def wsX7_append : List Cond := .code yX7_append cX7_append 2 (some .int) :: ([.fieldLink RX7 57 "RimGrains" "pad" "LRimGrains$Pad;", .methodLink RX7 120 yX1_write, .instanceMethod yX1_write, .selects RX1 yX1_write yX1_write, .initialized RX1, .code yX1_write cX1_write 2 none, .fieldLink RX1 15 "RimGrains$Pad" "length" "I", .fieldLink RX1 9 "RimGrains$Pad" "signs" "[C"] ++ wsX70 ++ wsX10)
def wsX7_clear : List Cond := .code yX7_clear cX7_clear 2 (some .int) :: ([.fieldLink RX7 57 "RimGrains" "pad" "LRimGrains$Pad;", .methodLink RX7 124 yX1_wipe, .instanceMethod yX1_wipe, .selects RX1 yX1_wipe yX1_wipe, .initialized RX1, .code yX1_wipe cX1_wipe 1 none, .fieldLink RX1 15 "RimGrains$Pad" "length" "I"] ++ wsX70 ++ wsX10)
def wsX7_fault : List Cond := .code yX7_fault cX7_fault 1 (some .int) :: ([.fieldLink RX7 57 "RimGrains" "pad" "LRimGrains$Pad;", .methodLink RX7 127 yX1_firstWrong, .instanceMethod yX1_firstWrong, .selects RX1 yX1_firstWrong yX1_firstWrong, .initialized RX1, .code yX1_firstWrong cX1_firstWrong 5 (some .int), .fieldLink RX1 15 "RimGrains$Pad" "length" "I", .fieldLink RX1 9 "RimGrains$Pad" "signs" "[C", .methodLink RX1 32 yX1_isLetter, .static yX1_isLetter, .code yX1_isLetter cX1_isLetter 1 (some .boolean), .methodLink RX1 36 yX1_isWhole, .static yX1_isWhole, .code yX1_isWhole cX1_isWhole 2 (some .boolean), .methodLink RX1 40 yX1_withDigit, .static yX1_withDigit, .code yX1_withDigit cX1_withDigit 6 (some .int)] ++ wsX70 ++ wsX10)
def wsX7_answerOfDeed_r1 : List Cond := [Cond.fieldLink RX7 36 "RimGrains" "fall" "LRimGrains$Fall;", Cond.fieldLink RX7 12 "RimGrains" "now" "LRimGrains$State;", Cond.methodLink RX7 105 yX0_dropTips, Cond.instanceMethod yX0_dropTips, Cond.selects RX0 yX0_dropTips yX0_dropTips, Cond.initialized RX0, Cond.code yX0_dropTips cX0_dropTips 4 (some .int), Cond.fieldLink RX0 9 "RimGrains$Fall" "falling" "[Z", Cond.fieldLink RX0 15 "RimGrains$Fall" "newNumbers" "[I", Cond.methodLink RX0 25 yX4_holderOf, Cond.instanceMethod yX4_holderOf, Cond.selects RX4 yX4_holderOf yX4_holderOf, Cond.initialized RX4, Cond.code yX4_holderOf cX4_holderOf 2 (some .int), Cond.fieldLink RX4 15 "RimGrains$State" "holders" "[I", Cond.methodLink RX4 97 yX4_isGrain, Cond.instanceMethod yX4_isGrain, Cond.selects RX4 yX4_isGrain yX4_isGrain, Cond.code yX4_isGrain cX4_isGrain 2 (some .boolean), Cond.fieldLink RX4 27 "RimGrains$State" "grains" "I", Cond.methodLink RX0 29 yX4_drop, Cond.instanceMethod yX4_drop, Cond.selects RX4 yX4_drop yX4_drop, Cond.code yX4_drop cX4_drop 7 (some .int)]
def wsX7_answerOfDeed_r2 : List Cond := [Cond.fieldLink RX4 9 "RimGrains$State" "cells" "[I", Cond.fieldLink RX4 21 "RimGrains$State" "grainsByCell" "[I", Cond.fieldLink RX4 18 "RimGrains$State" "steps" "[I", Cond.fieldLink RX4 40 "RimGrains$State" "gone" "I", Cond.methodLink RX7 88 yX4_refusalToGo, Cond.instanceMethod yX4_refusalToGo, Cond.selects RX4 yX4_refusalToGo yX4_refusalToGo, Cond.code yX4_refusalToGo cX4_refusalToGo 2 (some .int), Cond.methodLink RX4 88 yX2_isRim, Cond.static yX2_isRim, Cond.initialized RX2, Cond.code yX2_isRim cX2_isRim 1 (some .boolean), Cond.methodLink RX4 91 yX2_cellOfRim, Cond.static yX2_cellOfRim, Cond.code yX2_cellOfRim cX2_cellOfRim 1 (some .int), Cond.methodLink RX4 94 yX4_grainAt, Cond.instanceMethod yX4_grainAt, Cond.selects RX4 yX4_grainAt yX4_grainAt, Cond.code yX4_grainAt cX4_grainAt 2 (some .int), Cond.methodLink RX7 98 yX4_refusalToBreak, Cond.instanceMethod yX4_refusalToBreak, Cond.selects RX4 yX4_refusalToBreak yX4_refusalToBreak, Cond.code yX4_refusalToBreak cX4_refusalToBreak 2 (some .int), Cond.methodLink RX4 100 yX4_holderOf]
def wsX7_answerOfDeed_r3 : List Cond := [Cond.methodLink RX7 91 yX7_letWalk, Cond.instanceMethod yX7_letWalk, Cond.selects RX7 yX7_letWalk yX7_letWalk, Cond.initialized RX7, Cond.code yX7_letWalk cX7_letWalk 2 (some .int), Cond.fieldLink RX7 29 "RimGrains" "walk" "LRimGrains$Walk;", Cond.methodLink RX7 249 yX2_cellOfRim, Cond.methodLink RX7 252 yX6_walkFrom, Cond.instanceMethod yX6_walkFrom, Cond.selects RX6 yX6_walkFrom yX6_walkFrom, Cond.initialized RX6, Cond.code yX6_walkFrom cX6_walkFrom 6 none, Cond.fieldLink RX6 9 "RimGrains$Walk" "place" "I", Cond.fieldLink RX6 15 "RimGrains$Walk" "steps" "I", Cond.fieldLink RX6 18 "RimGrains$Walk" "draws" "I", Cond.fieldLink RX6 21 "RimGrains$Walk" "lot" "I", Cond.fieldLink RX6 24 "RimGrains$Walk" "holder" "I", Cond.methodLink RX6 30 yX4_setting, Cond.instanceMethod yX4_setting, Cond.selects RX4 yX4_setting yX4_setting, Cond.code yX4_setting cX4_setting 2 (some .int), Cond.fieldLink RX4 24 "RimGrains$State" "settings" "[I", Cond.methodLink RX6 34 yX6_catchesHold, Cond.instanceMethod yX6_catchesHold]
def wsX7_answerOfDeed_r4 : List Cond := [Cond.selects RX6 yX6_catchesHold yX6_catchesHold, Cond.code yX6_catchesHold cX6_catchesHold 3 (some .boolean), Cond.methodLink RX6 41 yX4_firstGrainBeside, Cond.instanceMethod yX4_firstGrainBeside, Cond.selects RX4 yX4_firstGrainBeside yX4_firstGrainBeside, Cond.code yX4_firstGrainBeside cX4_firstGrainBeside 4 (some .int), Cond.methodLink RX4 103 yX2_neighbour, Cond.static yX2_neighbour, Cond.code yX2_neighbour cX2_neighbour 4 (some .int), Cond.methodLink RX6 44 yX6_draw, Cond.instanceMethod yX6_draw, Cond.selects RX6 yX6_draw yX6_draw, Cond.code yX6_draw cX6_draw 1 (some .int), Cond.static yX7_nextLot, Cond.code yX7_nextLot cX7_nextLot 1 (some .int), Cond.methodLink RX6 38 yX6_makesStep, Cond.instanceMethod yX6_makesStep, Cond.selects RX6 yX6_makesStep yX6_makesStep, Cond.code yX6_makesStep cX6_makesStep 4 (some .boolean), Cond.methodLink RX6 48 yX2_neighbour, Cond.methodLink RX6 54 yX4_grainAt, Cond.methodLink RX7 276 yX4_settle, Cond.instanceMethod yX4_settle, Cond.selects RX4 yX4_settle yX4_settle]
def wsX7_answerOfDeed_r5 : List Cond := [Cond.code yX4_settle cX4_settle 2 none, Cond.fieldLink RX4 31 "RimGrains$State" "lot" "I", Cond.fieldLink RX4 34 "RimGrains$State" "released" "I", Cond.fieldLink RX4 43 "RimGrains$State" "walked" "I", Cond.fieldLink RX4 37 "RimGrains$State" "lost" "I", Cond.methodLink RX4 78 yX6_sticks, Cond.instanceMethod yX6_sticks, Cond.selects RX6 yX6_sticks yX6_sticks, Cond.code yX6_sticks cX6_sticks 1 (some .boolean), Cond.methodLink RX4 56 yX4_add, Cond.instanceMethod yX4_add, Cond.selects RX4 yX4_add yX4_add, Cond.code yX4_add cX4_add 4 none, Cond.methodLink RX4 66 yX2_isCell, Cond.static yX2_isCell, Cond.code yX2_isCell cX2_isCell 1 (some .boolean), Cond.methodLink RX7 256 yX6_answer, Cond.instanceMethod yX6_answer, Cond.selects RX6 yX6_answer yX6_answer, Cond.code yX6_answer cX6_answer 1 (some .int), Cond.methodLink RX6 60 yX6_sticks, Cond.methodLink RX7 101 yX0_dropTree, Cond.instanceMethod yX0_dropTree, Cond.selects RX0 yX0_dropTree yX0_dropTree]
def wsX7_answerOfDeed_r6 : List Cond := [Cond.code yX0_dropTree cX0_dropTree 5 (some .int)]
def wsX7_answerOfDeed : List Cond := .code yX7_answerOfDeed cX7_answerOfDeed 4 (some .int) :: ((wsX7_answerOfDeed_r1 ++ (wsX7_answerOfDeed_r2 ++ (wsX7_answerOfDeed_r3 ++ (wsX7_answerOfDeed_r4 ++ (wsX7_answerOfDeed_r5 ++ wsX7_answerOfDeed_r6))))) ++ wsX70 ++ wsX40 ++ wsX00 ++ wsX60)
def wsX7_carryOut_r1 : List Cond := [Cond.fieldLink RX7 57 "RimGrains" "pad" "LRimGrains$Pad;", Cond.fieldLink RX7 69 "RimGrains" "stopError" "I", Cond.fieldLink RX7 72 "RimGrains" "stopDeed" "I", Cond.fieldLink RX7 75 "RimGrains" "stopPlace" "I", Cond.methodLink RX7 127 yX1_firstWrong, Cond.instanceMethod yX1_firstWrong, Cond.selects RX1 yX1_firstWrong yX1_firstWrong, Cond.initialized RX1, Cond.code yX1_firstWrong cX1_firstWrong 5 (some .int), Cond.fieldLink RX1 15 "RimGrains$Pad" "length" "I", Cond.fieldLink RX1 9 "RimGrains$Pad" "signs" "[C", Cond.methodLink RX1 32 yX1_isLetter, Cond.static yX1_isLetter, Cond.code yX1_isLetter cX1_isLetter 1 (some .boolean), Cond.methodLink RX1 36 yX1_isWhole, Cond.static yX1_isWhole, Cond.code yX1_isWhole cX1_isWhole 2 (some .boolean), Cond.methodLink RX1 40 yX1_withDigit, Cond.static yX1_withDigit, Cond.code yX1_withDigit cX1_withDigit 6 (some .int), Cond.methodLink RX7 82 yX7_record, Cond.instanceMethod yX7_record, Cond.selects RX7 yX7_record yX7_record, Cond.initialized RX7]
def wsX7_carryOut_r2 : List Cond := [Cond.code yX7_record cX7_record 1 none, Cond.fieldLink RX7 61 "RimGrains" "states" "I", Cond.fieldLink RX7 22 "RimGrains" "history" "[LRimGrains$State;", Cond.fieldLink RX7 12 "RimGrains" "now" "LRimGrains$State;", Cond.methodLink RX7 273 yX7_dropOldest, Cond.instanceMethod yX7_dropOldest, Cond.selects RX7 yX7_dropOldest yX7_dropOldest, Cond.code yX7_dropOldest cX7_dropOldest 3 none, Cond.methodLink RX7 263 yX4_takeOver, Cond.instanceMethod yX4_takeOver, Cond.selects RX4 yX4_takeOver yX4_takeOver, Cond.initialized RX4, Cond.code yX4_takeOver cX4_takeOver 2 none, Cond.fieldLink RX4 9 "RimGrains$State" "cells" "[I", Cond.methodLink RX4 46 arraycopyName, Cond.native arraycopyName, Cond.static arraycopyName, Cond.initialized "java/lang/System", Cond.fieldLink RX4 15 "RimGrains$State" "holders" "[I", Cond.fieldLink RX4 18 "RimGrains$State" "steps" "[I", Cond.fieldLink RX4 21 "RimGrains$State" "grainsByCell" "[I", Cond.fieldLink RX4 24 "RimGrains$State" "settings" "[I", Cond.fieldLink RX4 27 "RimGrains$State" "grains" "I", Cond.fieldLink RX4 31 "RimGrains$State" "lot" "I"]
def wsX7_carryOut_r3 : List Cond := [Cond.fieldLink RX4 34 "RimGrains$State" "released" "I", Cond.fieldLink RX4 37 "RimGrains$State" "lost" "I", Cond.fieldLink RX4 40 "RimGrains$State" "gone" "I", Cond.fieldLink RX4 43 "RimGrains$State" "walked" "I", Cond.methodLink RX7 131 yX1_startReading, Cond.instanceMethod yX1_startReading, Cond.selects RX1 yX1_startReading yX1_startReading, Cond.code yX1_startReading cX1_startReading 1 none, Cond.fieldLink RX1 19 "RimGrains$Pad" "next" "I", Cond.methodLink RX7 134 yX1_readDeed, Cond.instanceMethod yX1_readDeed, Cond.selects RX1 yX1_readDeed yX1_readDeed, Cond.code yX1_readDeed cX1_readDeed 1 (some .boolean), Cond.fieldLink RX1 22 "RimGrains$Pad" "place" "I", Cond.fieldLink RX1 25 "RimGrains$Pad" "letter" "C", Cond.fieldLink RX1 29 "RimGrains$Pad" "number" "I", Cond.methodLink RX7 144 yX7_answerOfDeed, Cond.instanceMethod yX7_answerOfDeed, Cond.selects RX7 yX7_answerOfDeed yX7_answerOfDeed, Cond.code yX7_answerOfDeed cX7_answerOfDeed 4 (some .int), Cond.fieldLink RX7 36 "RimGrains" "fall" "LRimGrains$Fall;", Cond.methodLink RX7 105 yX0_dropTips, Cond.instanceMethod yX0_dropTips, Cond.selects RX0 yX0_dropTips yX0_dropTips]
def wsX7_carryOut_r4 : List Cond := [Cond.initialized RX0, Cond.code yX0_dropTips cX0_dropTips 4 (some .int), Cond.fieldLink RX0 9 "RimGrains$Fall" "falling" "[Z", Cond.fieldLink RX0 15 "RimGrains$Fall" "newNumbers" "[I", Cond.methodLink RX0 25 yX4_holderOf, Cond.instanceMethod yX4_holderOf, Cond.selects RX4 yX4_holderOf yX4_holderOf, Cond.code yX4_holderOf cX4_holderOf 2 (some .int), Cond.methodLink RX4 97 yX4_isGrain, Cond.instanceMethod yX4_isGrain, Cond.selects RX4 yX4_isGrain yX4_isGrain, Cond.code yX4_isGrain cX4_isGrain 2 (some .boolean), Cond.methodLink RX0 29 yX4_drop, Cond.instanceMethod yX4_drop, Cond.selects RX4 yX4_drop yX4_drop, Cond.code yX4_drop cX4_drop 7 (some .int), Cond.methodLink RX7 88 yX4_refusalToGo, Cond.instanceMethod yX4_refusalToGo, Cond.selects RX4 yX4_refusalToGo yX4_refusalToGo, Cond.code yX4_refusalToGo cX4_refusalToGo 2 (some .int), Cond.methodLink RX4 88 yX2_isRim, Cond.static yX2_isRim, Cond.initialized RX2, Cond.code yX2_isRim cX2_isRim 1 (some .boolean)]
def wsX7_carryOut_r5 : List Cond := [Cond.methodLink RX4 91 yX2_cellOfRim, Cond.static yX2_cellOfRim, Cond.code yX2_cellOfRim cX2_cellOfRim 1 (some .int), Cond.methodLink RX4 94 yX4_grainAt, Cond.instanceMethod yX4_grainAt, Cond.selects RX4 yX4_grainAt yX4_grainAt, Cond.code yX4_grainAt cX4_grainAt 2 (some .int), Cond.methodLink RX7 98 yX4_refusalToBreak, Cond.instanceMethod yX4_refusalToBreak, Cond.selects RX4 yX4_refusalToBreak yX4_refusalToBreak, Cond.code yX4_refusalToBreak cX4_refusalToBreak 2 (some .int), Cond.methodLink RX4 100 yX4_holderOf, Cond.methodLink RX7 91 yX7_letWalk, Cond.instanceMethod yX7_letWalk, Cond.selects RX7 yX7_letWalk yX7_letWalk, Cond.code yX7_letWalk cX7_letWalk 2 (some .int), Cond.fieldLink RX7 29 "RimGrains" "walk" "LRimGrains$Walk;", Cond.methodLink RX7 249 yX2_cellOfRim, Cond.methodLink RX7 252 yX6_walkFrom, Cond.instanceMethod yX6_walkFrom, Cond.selects RX6 yX6_walkFrom yX6_walkFrom, Cond.initialized RX6, Cond.code yX6_walkFrom cX6_walkFrom 6 none, Cond.fieldLink RX6 9 "RimGrains$Walk" "place" "I"]
def wsX7_carryOut_r6 : List Cond := [Cond.fieldLink RX6 15 "RimGrains$Walk" "steps" "I", Cond.fieldLink RX6 18 "RimGrains$Walk" "draws" "I", Cond.fieldLink RX6 21 "RimGrains$Walk" "lot" "I", Cond.fieldLink RX6 24 "RimGrains$Walk" "holder" "I", Cond.methodLink RX6 30 yX4_setting, Cond.instanceMethod yX4_setting, Cond.selects RX4 yX4_setting yX4_setting, Cond.code yX4_setting cX4_setting 2 (some .int), Cond.methodLink RX6 34 yX6_catchesHold, Cond.instanceMethod yX6_catchesHold, Cond.selects RX6 yX6_catchesHold yX6_catchesHold, Cond.code yX6_catchesHold cX6_catchesHold 3 (some .boolean), Cond.methodLink RX6 41 yX4_firstGrainBeside, Cond.instanceMethod yX4_firstGrainBeside, Cond.selects RX4 yX4_firstGrainBeside yX4_firstGrainBeside, Cond.code yX4_firstGrainBeside cX4_firstGrainBeside 4 (some .int), Cond.methodLink RX4 103 yX2_neighbour, Cond.static yX2_neighbour, Cond.code yX2_neighbour cX2_neighbour 4 (some .int), Cond.methodLink RX6 44 yX6_draw, Cond.instanceMethod yX6_draw, Cond.selects RX6 yX6_draw yX6_draw, Cond.code yX6_draw cX6_draw 1 (some .int), Cond.static yX7_nextLot]
def wsX7_carryOut_r7 : List Cond := [Cond.code yX7_nextLot cX7_nextLot 1 (some .int), Cond.methodLink RX6 38 yX6_makesStep, Cond.instanceMethod yX6_makesStep, Cond.selects RX6 yX6_makesStep yX6_makesStep, Cond.code yX6_makesStep cX6_makesStep 4 (some .boolean), Cond.methodLink RX6 48 yX2_neighbour, Cond.methodLink RX6 54 yX4_grainAt, Cond.methodLink RX7 276 yX4_settle, Cond.instanceMethod yX4_settle, Cond.selects RX4 yX4_settle yX4_settle, Cond.code yX4_settle cX4_settle 2 none, Cond.methodLink RX4 78 yX6_sticks, Cond.instanceMethod yX6_sticks, Cond.selects RX6 yX6_sticks yX6_sticks, Cond.code yX6_sticks cX6_sticks 1 (some .boolean), Cond.methodLink RX4 56 yX4_add, Cond.instanceMethod yX4_add, Cond.selects RX4 yX4_add yX4_add, Cond.code yX4_add cX4_add 4 none, Cond.methodLink RX4 66 yX2_isCell, Cond.static yX2_isCell, Cond.code yX2_isCell cX2_isCell 1 (some .boolean), Cond.methodLink RX7 256 yX6_answer, Cond.instanceMethod yX6_answer]
def wsX7_carryOut_r8 : List Cond := [Cond.selects RX6 yX6_answer yX6_answer, Cond.code yX6_answer cX6_answer 1 (some .int), Cond.methodLink RX6 60 yX6_sticks, Cond.methodLink RX7 101 yX0_dropTree, Cond.instanceMethod yX0_dropTree, Cond.selects RX0 yX0_dropTree yX0_dropTree, Cond.code yX0_dropTree cX0_dropTree 5 (some .int), Cond.methodLink RX7 124 yX1_wipe, Cond.instanceMethod yX1_wipe, Cond.selects RX1 yX1_wipe yX1_wipe, Cond.code yX1_wipe cX1_wipe 1 none]
def wsX7_carryOut : List Cond := .code yX7_carryOut cX7_carryOut 3 (some .int) :: ((wsX7_carryOut_r1 ++ (wsX7_carryOut_r2 ++ (wsX7_carryOut_r3 ++ (wsX7_carryOut_r4 ++ (wsX7_carryOut_r5 ++ (wsX7_carryOut_r6 ++ (wsX7_carryOut_r7 ++ wsX7_carryOut_r8))))))) ++ wsX70 ++ wsX10 ++ wsX40 ++ wsX00 ++ wsX60)
def wsX7_why : List Cond := .code yX7_why cX7_why 2 (some .int) :: ([.fieldLink RX7 69 "RimGrains" "stopError" "I", .fieldLink RX7 72 "RimGrains" "stopDeed" "I", .fieldLink RX7 75 "RimGrains" "stopPlace" "I"] ++ wsX70)
def wsX7_cell_r1 : List Cond := [Cond.fieldLink RX7 12 "RimGrains" "now" "LRimGrains$State;", Cond.methodLink RX7 151 yX2_isCell, Cond.static yX2_isCell, Cond.initialized RX2, Cond.code yX2_isCell cX2_isCell 1 (some .boolean), Cond.methodLink RX7 157 yX4_grainAt, Cond.instanceMethod yX4_grainAt, Cond.selects RX4 yX4_grainAt yX4_grainAt, Cond.initialized RX4, Cond.code yX4_grainAt cX4_grainAt 2 (some .int), Cond.fieldLink RX4 21 "RimGrains$State" "grainsByCell" "[I", Cond.methodLink RX7 160 yX2_ringOf, Cond.static yX2_ringOf, Cond.code yX2_ringOf cX2_ringOf 1 (some .int), Cond.methodLink RX2 9 Lib.Math.abs.name, Cond.static Lib.Math.abs.name, Cond.initialized "java/lang/Math", Cond.code Lib.Math.abs.name Lib.Math.abs.code 1 (some .int), Cond.methodLink RX2 15 Lib.Math.max.name, Cond.static Lib.Math.max.name, Cond.code Lib.Math.max.name Lib.Math.max.code 2 (some .int), Cond.methodLink RX7 163 yX4_grainsAround, Cond.instanceMethod yX4_grainsAround, Cond.selects RX4 yX4_grainsAround yX4_grainsAround]
def wsX7_cell_r2 : List Cond := [Cond.code yX4_grainsAround cX4_grainsAround 4 (some .int), Cond.methodLink RX4 103 yX2_neighbour, Cond.static yX2_neighbour, Cond.code yX2_neighbour cX2_neighbour 4 (some .int), Cond.methodLink RX4 94 yX4_grainAt, Cond.methodLink RX7 166 yX2_rimOf, Cond.static yX2_rimOf, Cond.code yX2_rimOf cX2_rimOf 3 (some .int)]
def wsX7_cell : List Cond := .code yX7_cell cX7_cell 3 (some .int) :: ((wsX7_cell_r1 ++ wsX7_cell_r2) ++ wsX70 ++ wsX40)
def wsX7_catchOf_r1 : List Cond := [Cond.fieldLink RX7 50 "RimGrains" "screening" "LRimGrains$Screens;", Cond.fieldLink RX7 12 "RimGrains" "now" "LRimGrains$State;", Cond.methodLink RX7 269 yX3_read, Cond.instanceMethod yX3_read, Cond.selects RX3 yX3_read yX3_read, Cond.initialized RX3, Cond.code yX3_read cX3_read 4 none, Cond.fieldLink RX3 15 "RimGrains$Screens" "grains" "I", Cond.fieldLink RX3 19 "RimGrains$Screens" "open" "I", Cond.fieldLink RX3 9 "RimGrains$Screens" "catches" "[I", Cond.methodLink RX3 25 yX3_firstMet, Cond.static yX3_firstMet, Cond.code yX3_firstMet cX3_firstMet 6 (some .int), Cond.methodLink RX3 29 yX2_cellOfRim, Cond.static yX2_cellOfRim, Cond.initialized RX2, Cond.code yX2_cellOfRim cX2_cellOfRim 1 (some .int), Cond.methodLink RX3 35 yX2_directionInward, Cond.static yX2_directionInward, Cond.code yX2_directionInward cX2_directionInward 1 (some .int), Cond.methodLink RX3 38 yX4_grainAt, Cond.instanceMethod yX4_grainAt, Cond.selects RX4 yX4_grainAt yX4_grainAt, Cond.initialized RX4]
def wsX7_catchOf_r2 : List Cond := [Cond.code yX4_grainAt cX4_grainAt 2 (some .int), Cond.fieldLink RX4 21 "RimGrains$State" "grainsByCell" "[I", Cond.methodLink RX3 41 yX2_neighbour, Cond.static yX2_neighbour, Cond.code yX2_neighbour cX2_neighbour 4 (some .int)]
def wsX7_catchOf : List Cond := .code yX7_catchOf cX7_catchOf 2 (some .int) :: ((wsX7_catchOf_r1 ++ wsX7_catchOf_r2) ++ wsX70 ++ wsX30 ++ wsX40)
def wsX7_grain_r1 : List Cond := [Cond.fieldLink RX7 12 "RimGrains" "now" "LRimGrains$State;", Cond.fieldLink RX7 43 "RimGrains" "trees" "LRimGrains$Trees;", Cond.methodLink RX7 169 yX4_isGrain, Cond.instanceMethod yX4_isGrain, Cond.selects RX4 yX4_isGrain yX4_isGrain, Cond.initialized RX4, Cond.code yX4_isGrain cX4_isGrain 2 (some .boolean), Cond.fieldLink RX4 27 "RimGrains$State" "grains" "I", Cond.methodLink RX7 172 yX5_read, Cond.instanceMethod yX5_read, Cond.selects RX5 yX5_read yX5_read, Cond.initialized RX5, Cond.code yX5_read cX5_read 4 none, Cond.fieldLink RX5 30 "RimGrains$Trees" "grains" "I", Cond.methodLink RX5 37 yX4_holderOf, Cond.instanceMethod yX4_holderOf, Cond.selects RX4 yX4_holderOf yX4_holderOf, Cond.code yX4_holderOf cX4_holderOf 2 (some .int), Cond.fieldLink RX4 15 "RimGrains$State" "holders" "[I", Cond.methodLink RX4 97 yX4_isGrain, Cond.methodLink RX5 41 yX5_readFromHolder, Cond.instanceMethod yX5_readFromHolder, Cond.selects RX5 yX5_readFromHolder yX5_readFromHolder, Cond.code yX5_readFromHolder cX5_readFromHolder 3 none]
def wsX7_grain_r2 : List Cond := [Cond.fieldLink RX5 9 "RimGrains$Trees" "depths" "[I", Cond.fieldLink RX5 15 "RimGrains$Trees" "roots" "[I", Cond.fieldLink RX5 18 "RimGrains$Trees" "holding" "[I", Cond.fieldLink RX5 21 "RimGrains$Trees" "members" "[I", Cond.fieldLink RX5 24 "RimGrains$Trees" "highest" "[I", Cond.fieldLink RX5 27 "RimGrains$Trees" "second" "[I", Cond.methodLink RX5 45 yX5_addToHolder, Cond.instanceMethod yX5_addToHolder, Cond.selects RX5 yX5_addToHolder yX5_addToHolder, Cond.code yX5_addToHolder cX5_addToHolder 4 none, Cond.methodLink RX7 176 yX4_cellOf, Cond.instanceMethod yX4_cellOf, Cond.selects RX4 yX4_cellOf yX4_cellOf, Cond.code yX4_cellOf cX4_cellOf 2 (some .int), Cond.fieldLink RX4 9 "RimGrains$State" "cells" "[I", Cond.methodLink RX7 179 yX4_holderOf, Cond.methodLink RX7 195 yX7_catchOf, Cond.instanceMethod yX7_catchOf, Cond.selects RX7 yX7_catchOf yX7_catchOf, Cond.initialized RX7, Cond.code yX7_catchOf cX7_catchOf 2 (some .int), Cond.fieldLink RX7 50 "RimGrains" "screening" "LRimGrains$Screens;", Cond.methodLink RX7 269 yX3_read, Cond.instanceMethod yX3_read]
def wsX7_grain_r3 : List Cond := [Cond.selects RX3 yX3_read yX3_read, Cond.initialized RX3, Cond.code yX3_read cX3_read 4 none, Cond.fieldLink RX3 15 "RimGrains$Screens" "grains" "I", Cond.fieldLink RX3 19 "RimGrains$Screens" "open" "I", Cond.fieldLink RX3 9 "RimGrains$Screens" "catches" "[I", Cond.methodLink RX3 25 yX3_firstMet, Cond.static yX3_firstMet, Cond.code yX3_firstMet cX3_firstMet 6 (some .int), Cond.methodLink RX3 29 yX2_cellOfRim, Cond.static yX2_cellOfRim, Cond.initialized RX2, Cond.code yX2_cellOfRim cX2_cellOfRim 1 (some .int), Cond.methodLink RX3 35 yX2_directionInward, Cond.static yX2_directionInward, Cond.code yX2_directionInward cX2_directionInward 1 (some .int), Cond.methodLink RX3 38 yX4_grainAt, Cond.instanceMethod yX4_grainAt, Cond.selects RX4 yX4_grainAt yX4_grainAt, Cond.code yX4_grainAt cX4_grainAt 2 (some .int), Cond.fieldLink RX4 21 "RimGrains$State" "grainsByCell" "[I", Cond.methodLink RX3 41 yX2_neighbour, Cond.static yX2_neighbour, Cond.code yX2_neighbour cX2_neighbour 4 (some .int)]
def wsX7_grain_r4 : List Cond := [Cond.methodLink RX7 201 yX4_stepsOf, Cond.instanceMethod yX4_stepsOf, Cond.selects RX4 yX4_stepsOf yX4_stepsOf, Cond.code yX4_stepsOf cX4_stepsOf 2 (some .int), Cond.fieldLink RX4 18 "RimGrains$State" "steps" "[I"]
def wsX7_grain : List Cond := .code yX7_grain cX7_grain 3 (some .int) :: ((wsX7_grain_r1 ++ (wsX7_grain_r2 ++ (wsX7_grain_r3 ++ wsX7_grain_r4))) ++ wsX70 ++ wsX50 ++ wsX40 ++ wsX30)
def wsX7_screens : List Cond := .code yX7_screens cX7_screens 2 (some .int) :: ([.fieldLink RX7 12 "RimGrains" "now" "LRimGrains$State;", .methodLink RX7 204 yX2_isRim, .static yX2_isRim, .initialized RX2, .code yX2_isRim cX2_isRim 1 (some .boolean), .methodLink RX7 207 yX3_firstMet, .static yX3_firstMet, .initialized RX3, .code yX3_firstMet cX3_firstMet 6 (some .int), .methodLink RX3 29 yX2_cellOfRim, .static yX2_cellOfRim, .code yX2_cellOfRim cX2_cellOfRim 1 (some .int), .methodLink RX3 35 yX2_directionInward, .static yX2_directionInward, .code yX2_directionInward cX2_directionInward 1 (some .int), .methodLink RX3 38 yX4_grainAt, .instanceMethod yX4_grainAt, .selects RX4 yX4_grainAt yX4_grainAt, .initialized RX4, .code yX4_grainAt cX4_grainAt 2 (some .int), .fieldLink RX4 21 "RimGrains$State" "grainsByCell" "[I", .methodLink RX3 41 yX2_neighbour, .static yX2_neighbour, .code yX2_neighbour cX2_neighbour 4 (some .int)] ++ wsX70 ++ wsX40)
def wsX7_ring : List Cond := .code yX7_ring cX7_ring 4 (some .int) :: ([.fieldLink RX7 12 "RimGrains" "now" "LRimGrains$State;", .methodLink RX7 176 yX4_cellOf, .instanceMethod yX4_cellOf, .selects RX4 yX4_cellOf yX4_cellOf, .initialized RX4, .code yX4_cellOf cX4_cellOf 2 (some .int), .fieldLink RX4 9 "RimGrains$State" "cells" "[I", .methodLink RX4 97 yX4_isGrain, .instanceMethod yX4_isGrain, .selects RX4 yX4_isGrain yX4_isGrain, .code yX4_isGrain cX4_isGrain 2 (some .boolean), .fieldLink RX4 27 "RimGrains$State" "grains" "I", .methodLink RX7 160 yX2_ringOf, .static yX2_ringOf, .initialized RX2, .code yX2_ringOf cX2_ringOf 1 (some .int), .methodLink RX2 9 Lib.Math.abs.name, .static Lib.Math.abs.name, .initialized "java/lang/Math", .code Lib.Math.abs.name Lib.Math.abs.code 1 (some .int), .methodLink RX2 15 Lib.Math.max.name, .static Lib.Math.max.name, .code Lib.Math.max.name Lib.Math.max.code 2 (some .int)] ++ wsX70 ++ wsX40)
def wsX7_apart : List Cond := .code yX7_apart cX7_apart 3 (some .int) :: ([.fieldLink RX7 12 "RimGrains" "now" "LRimGrains$State;", .methodLink RX7 169 yX4_isGrain, .instanceMethod yX4_isGrain, .selects RX4 yX4_isGrain yX4_isGrain, .initialized RX4, .code yX4_isGrain cX4_isGrain 2 (some .boolean), .fieldLink RX4 27 "RimGrains$State" "grains" "I", .methodLink RX7 213 yX4_holdsBetween, .instanceMethod yX4_holdsBetween, .selects RX4 yX4_holdsBetween yX4_holdsBetween, .code yX4_holdsBetween cX4_holdsBetween 7 (some .int), .methodLink RX4 110 Lib.Math.max.name, .static Lib.Math.max.name, .initialized "java/lang/Math", .code Lib.Math.max.name Lib.Math.max.code 2 (some .int), .methodLink RX4 115 Lib.Math.min.name, .static Lib.Math.min.name, .code Lib.Math.min.name Lib.Math.min.code 2 (some .int), .methodLink RX4 100 yX4_holderOf, .instanceMethod yX4_holderOf, .selects RX4 yX4_holderOf yX4_holderOf, .code yX4_holderOf cX4_holderOf 2 (some .int), .fieldLink RX4 15 "RimGrains$State" "holders" "[I", .methodLink RX4 97 yX4_isGrain] ++ wsX70 ++ wsX40)
def wsX7_longest_r1 : List Cond := [Cond.fieldLink RX7 12 "RimGrains" "now" "LRimGrains$State;", Cond.fieldLink RX7 43 "RimGrains" "trees" "LRimGrains$Trees;", Cond.methodLink RX7 216 yX4_longestOfPairs, Cond.instanceMethod yX4_longestOfPairs, Cond.selects RX4 yX4_longestOfPairs yX4_longestOfPairs, Cond.initialized RX4, Cond.code yX4_longestOfPairs cX4_longestOfPairs 4 (some .int), Cond.fieldLink RX4 27 "RimGrains$State" "grains" "I", Cond.methodLink RX4 110 Lib.Math.max.name, Cond.static Lib.Math.max.name, Cond.initialized "java/lang/Math", Cond.code Lib.Math.max.name Lib.Math.max.code 2 (some .int), Cond.methodLink RX4 118 yX4_holdsBetween, Cond.instanceMethod yX4_holdsBetween, Cond.selects RX4 yX4_holdsBetween yX4_holdsBetween, Cond.code yX4_holdsBetween cX4_holdsBetween 7 (some .int), Cond.methodLink RX4 115 Lib.Math.min.name, Cond.static Lib.Math.min.name, Cond.code Lib.Math.min.name Lib.Math.min.code 2 (some .int), Cond.methodLink RX4 100 yX4_holderOf, Cond.instanceMethod yX4_holderOf, Cond.selects RX4 yX4_holderOf yX4_holderOf, Cond.code yX4_holderOf cX4_holderOf 2 (some .int), Cond.fieldLink RX4 15 "RimGrains$State" "holders" "[I"]
def wsX7_longest_r2 : List Cond := [Cond.methodLink RX4 97 yX4_isGrain, Cond.instanceMethod yX4_isGrain, Cond.selects RX4 yX4_isGrain yX4_isGrain, Cond.code yX4_isGrain cX4_isGrain 2 (some .boolean), Cond.methodLink RX7 172 yX5_read, Cond.instanceMethod yX5_read, Cond.selects RX5 yX5_read yX5_read, Cond.initialized RX5, Cond.code yX5_read cX5_read 4 none, Cond.fieldLink RX5 30 "RimGrains$Trees" "grains" "I", Cond.methodLink RX5 37 yX4_holderOf, Cond.methodLink RX5 41 yX5_readFromHolder, Cond.instanceMethod yX5_readFromHolder, Cond.selects RX5 yX5_readFromHolder yX5_readFromHolder, Cond.code yX5_readFromHolder cX5_readFromHolder 3 none, Cond.fieldLink RX5 9 "RimGrains$Trees" "depths" "[I", Cond.fieldLink RX5 15 "RimGrains$Trees" "roots" "[I", Cond.fieldLink RX5 18 "RimGrains$Trees" "holding" "[I", Cond.fieldLink RX5 21 "RimGrains$Trees" "members" "[I", Cond.fieldLink RX5 24 "RimGrains$Trees" "highest" "[I", Cond.fieldLink RX5 27 "RimGrains$Trees" "second" "[I", Cond.methodLink RX5 45 yX5_addToHolder, Cond.instanceMethod yX5_addToHolder, Cond.selects RX5 yX5_addToHolder yX5_addToHolder]
def wsX7_longest_r3 : List Cond := [Cond.code yX5_addToHolder cX5_addToHolder 4 none, Cond.methodLink RX7 219 yX5_longestOfHeights, Cond.instanceMethod yX5_longestOfHeights, Cond.selects RX5 yX5_longestOfHeights yX5_longestOfHeights, Cond.code yX5_longestOfHeights cX5_longestOfHeights 3 (some .int), Cond.methodLink RX5 48 Lib.Math.max.name]
def wsX7_longest : List Cond := .code yX7_longest cX7_longest 2 (some .int) :: ((wsX7_longest_r1 ++ (wsX7_longest_r2 ++ wsX7_longest_r3)) ++ wsX70 ++ wsX40 ++ wsX50)
def wsX7_bestCatcher_r1 : List Cond := [Cond.fieldLink RX7 50 "RimGrains" "screening" "LRimGrains$Screens;", Cond.fieldLink RX7 12 "RimGrains" "now" "LRimGrains$State;", Cond.methodLink RX7 269 yX3_read, Cond.instanceMethod yX3_read, Cond.selects RX3 yX3_read yX3_read, Cond.initialized RX3, Cond.code yX3_read cX3_read 4 none, Cond.fieldLink RX3 15 "RimGrains$Screens" "grains" "I", Cond.fieldLink RX3 19 "RimGrains$Screens" "open" "I", Cond.fieldLink RX3 9 "RimGrains$Screens" "catches" "[I", Cond.methodLink RX3 25 yX3_firstMet, Cond.static yX3_firstMet, Cond.code yX3_firstMet cX3_firstMet 6 (some .int), Cond.methodLink RX3 29 yX2_cellOfRim, Cond.static yX2_cellOfRim, Cond.initialized RX2, Cond.code yX2_cellOfRim cX2_cellOfRim 1 (some .int), Cond.methodLink RX3 35 yX2_directionInward, Cond.static yX2_directionInward, Cond.code yX2_directionInward cX2_directionInward 1 (some .int), Cond.methodLink RX3 38 yX4_grainAt, Cond.instanceMethod yX4_grainAt, Cond.selects RX4 yX4_grainAt yX4_grainAt, Cond.initialized RX4]
def wsX7_bestCatcher_r2 : List Cond := [Cond.code yX4_grainAt cX4_grainAt 2 (some .int), Cond.fieldLink RX4 21 "RimGrains$State" "grainsByCell" "[I", Cond.methodLink RX3 41 yX2_neighbour, Cond.static yX2_neighbour, Cond.code yX2_neighbour cX2_neighbour 4 (some .int), Cond.methodLink RX7 292 yX3_bestGrain, Cond.instanceMethod yX3_bestGrain, Cond.selects RX3 yX3_bestGrain yX3_bestGrain, Cond.code yX3_bestGrain cX3_bestGrain 3 (some .int)]
def wsX7_bestCatcher : List Cond := .code yX7_bestCatcher cX7_bestCatcher 1 (some .int) :: ((wsX7_bestCatcher_r1 ++ wsX7_bestCatcher_r2) ++ wsX70 ++ wsX40 ++ wsX30)
def wsX7_countOfTrees_r1 : List Cond := [Cond.fieldLink RX7 43 "RimGrains" "trees" "LRimGrains$Trees;", Cond.fieldLink RX7 12 "RimGrains" "now" "LRimGrains$State;", Cond.methodLink RX7 172 yX5_read, Cond.instanceMethod yX5_read, Cond.selects RX5 yX5_read yX5_read, Cond.initialized RX5, Cond.code yX5_read cX5_read 4 none, Cond.fieldLink RX5 30 "RimGrains$Trees" "grains" "I", Cond.methodLink RX5 37 yX4_holderOf, Cond.instanceMethod yX4_holderOf, Cond.selects RX4 yX4_holderOf yX4_holderOf, Cond.initialized RX4, Cond.code yX4_holderOf cX4_holderOf 2 (some .int), Cond.fieldLink RX4 15 "RimGrains$State" "holders" "[I", Cond.methodLink RX4 97 yX4_isGrain, Cond.instanceMethod yX4_isGrain, Cond.selects RX4 yX4_isGrain yX4_isGrain, Cond.code yX4_isGrain cX4_isGrain 2 (some .boolean), Cond.fieldLink RX4 27 "RimGrains$State" "grains" "I", Cond.methodLink RX5 41 yX5_readFromHolder, Cond.instanceMethod yX5_readFromHolder, Cond.selects RX5 yX5_readFromHolder yX5_readFromHolder, Cond.code yX5_readFromHolder cX5_readFromHolder 3 none, Cond.fieldLink RX5 9 "RimGrains$Trees" "depths" "[I"]
def wsX7_countOfTrees_r2 : List Cond := [Cond.fieldLink RX5 15 "RimGrains$Trees" "roots" "[I", Cond.fieldLink RX5 18 "RimGrains$Trees" "holding" "[I", Cond.fieldLink RX5 21 "RimGrains$Trees" "members" "[I", Cond.fieldLink RX5 24 "RimGrains$Trees" "highest" "[I", Cond.fieldLink RX5 27 "RimGrains$Trees" "second" "[I", Cond.methodLink RX5 45 yX5_addToHolder, Cond.instanceMethod yX5_addToHolder, Cond.selects RX5 yX5_addToHolder yX5_addToHolder, Cond.code yX5_addToHolder cX5_addToHolder 4 none, Cond.methodLink RX7 295 yX5_rootGrains, Cond.instanceMethod yX5_rootGrains, Cond.selects RX5 yX5_rootGrains yX5_rootGrains, Cond.code yX5_rootGrains cX5_rootGrains 3 (some .int), Cond.methodLink RX7 298 yX5_grainsHeldBy, Cond.instanceMethod yX5_grainsHeldBy, Cond.selects RX5 yX5_grainsHeldBy yX5_grainsHeldBy, Cond.code yX5_grainsHeldBy cX5_grainsHeldBy 5 (some .int), Cond.methodLink RX7 266 yX5_deepest, Cond.instanceMethod yX5_deepest, Cond.selects RX5 yX5_deepest yX5_deepest, Cond.code yX5_deepest cX5_deepest 3 (some .int), Cond.methodLink RX5 48 Lib.Math.max.name, Cond.static Lib.Math.max.name, Cond.initialized "java/lang/Math"]
def wsX7_countOfTrees_r3 : List Cond := [Cond.code Lib.Math.max.name Lib.Math.max.code 2 (some .int)]
def wsX7_countOfTrees : List Cond := .code yX7_countOfTrees cX7_countOfTrees 2 (some .int) :: ((wsX7_countOfTrees_r1 ++ (wsX7_countOfTrees_r2 ++ wsX7_countOfTrees_r3)) ++ wsX70 ++ wsX40 ++ wsX50)
def wsX7_count_r1 : List Cond := [Cond.fieldLink RX7 12 "RimGrains" "now" "LRimGrains$State;", Cond.fieldLink RX7 57 "RimGrains" "pad" "LRimGrains$Pad;", Cond.fieldLink RX7 61 "RimGrains" "states" "I", Cond.methodLink RX7 222 yX4_reach, Cond.instanceMethod yX4_reach, Cond.selects RX4 yX4_reach yX4_reach, Cond.initialized RX4, Cond.code yX4_reach cX4_reach 3 (some .int), Cond.fieldLink RX4 27 "RimGrains$State" "grains" "I", Cond.fieldLink RX4 9 "RimGrains$State" "cells" "[I", Cond.methodLink RX4 110 Lib.Math.max.name, Cond.static Lib.Math.max.name, Cond.initialized "java/lang/Math", Cond.code Lib.Math.max.name Lib.Math.max.code 2 (some .int), Cond.methodLink RX4 60 yX2_ringOf, Cond.static yX2_ringOf, Cond.initialized RX2, Cond.code yX2_ringOf cX2_ringOf 1 (some .int), Cond.methodLink RX2 9 Lib.Math.abs.name, Cond.static Lib.Math.abs.name, Cond.code Lib.Math.abs.name Lib.Math.abs.code 1 (some .int), Cond.methodLink RX2 15 Lib.Math.max.name, Cond.methodLink RX7 225 yX4_freeCellsBeside, Cond.instanceMethod yX4_freeCellsBeside]
def wsX7_count_r2 : List Cond := [Cond.selects RX4 yX4_freeCellsBeside yX4_freeCellsBeside, Cond.code yX4_freeCellsBeside cX4_freeCellsBeside 3 (some .int), Cond.methodLink RX4 94 yX4_grainAt, Cond.instanceMethod yX4_grainAt, Cond.selects RX4 yX4_grainAt yX4_grainAt, Cond.code yX4_grainAt cX4_grainAt 2 (some .int), Cond.fieldLink RX4 21 "RimGrains$State" "grainsByCell" "[I", Cond.methodLink RX4 107 yX4_firstGrainBeside, Cond.instanceMethod yX4_firstGrainBeside, Cond.selects RX4 yX4_firstGrainBeside yX4_firstGrainBeside, Cond.code yX4_firstGrainBeside cX4_firstGrainBeside 4 (some .int), Cond.methodLink RX4 103 yX2_neighbour, Cond.static yX2_neighbour, Cond.code yX2_neighbour cX2_neighbour 4 (some .int), Cond.methodLink RX7 240 yX7_bestCatcher, Cond.instanceMethod yX7_bestCatcher, Cond.selects RX7 yX7_bestCatcher yX7_bestCatcher, Cond.initialized RX7, Cond.code yX7_bestCatcher cX7_bestCatcher 1 (some .int), Cond.fieldLink RX7 50 "RimGrains" "screening" "LRimGrains$Screens;", Cond.methodLink RX7 269 yX3_read, Cond.instanceMethod yX3_read, Cond.selects RX3 yX3_read yX3_read, Cond.initialized RX3]
def wsX7_count_r3 : List Cond := [Cond.code yX3_read cX3_read 4 none, Cond.fieldLink RX3 15 "RimGrains$Screens" "grains" "I", Cond.fieldLink RX3 19 "RimGrains$Screens" "open" "I", Cond.fieldLink RX3 9 "RimGrains$Screens" "catches" "[I", Cond.methodLink RX3 25 yX3_firstMet, Cond.static yX3_firstMet, Cond.code yX3_firstMet cX3_firstMet 6 (some .int), Cond.methodLink RX3 29 yX2_cellOfRim, Cond.static yX2_cellOfRim, Cond.code yX2_cellOfRim cX2_cellOfRim 1 (some .int), Cond.methodLink RX3 35 yX2_directionInward, Cond.static yX2_directionInward, Cond.code yX2_directionInward cX2_directionInward 1 (some .int), Cond.methodLink RX3 38 yX4_grainAt, Cond.methodLink RX3 41 yX2_neighbour, Cond.methodLink RX7 292 yX3_bestGrain, Cond.instanceMethod yX3_bestGrain, Cond.selects RX3 yX3_bestGrain yX3_bestGrain, Cond.code yX3_bestGrain cX3_bestGrain 3 (some .int), Cond.methodLink RX7 195 yX7_catchOf, Cond.instanceMethod yX7_catchOf, Cond.selects RX7 yX7_catchOf yX7_catchOf, Cond.code yX7_catchOf cX7_catchOf 2 (some .int), Cond.methodLink RX7 243 yX4_setting]
def wsX7_count_r4 : List Cond := [Cond.instanceMethod yX4_setting, Cond.selects RX4 yX4_setting yX4_setting, Cond.code yX4_setting cX4_setting 2 (some .int), Cond.fieldLink RX4 24 "RimGrains$State" "settings" "[I", Cond.methodLink RX7 246 yX7_countOfTrees, Cond.instanceMethod yX7_countOfTrees, Cond.selects RX7 yX7_countOfTrees yX7_countOfTrees, Cond.code yX7_countOfTrees cX7_countOfTrees 2 (some .int), Cond.fieldLink RX7 43 "RimGrains" "trees" "LRimGrains$Trees;", Cond.methodLink RX7 172 yX5_read, Cond.instanceMethod yX5_read, Cond.selects RX5 yX5_read yX5_read, Cond.initialized RX5, Cond.code yX5_read cX5_read 4 none, Cond.fieldLink RX5 30 "RimGrains$Trees" "grains" "I", Cond.methodLink RX5 37 yX4_holderOf, Cond.instanceMethod yX4_holderOf, Cond.selects RX4 yX4_holderOf yX4_holderOf, Cond.code yX4_holderOf cX4_holderOf 2 (some .int), Cond.fieldLink RX4 15 "RimGrains$State" "holders" "[I", Cond.methodLink RX4 97 yX4_isGrain, Cond.instanceMethod yX4_isGrain, Cond.selects RX4 yX4_isGrain yX4_isGrain, Cond.code yX4_isGrain cX4_isGrain 2 (some .boolean)]
def wsX7_count_r5 : List Cond := [Cond.methodLink RX5 41 yX5_readFromHolder, Cond.instanceMethod yX5_readFromHolder, Cond.selects RX5 yX5_readFromHolder yX5_readFromHolder, Cond.code yX5_readFromHolder cX5_readFromHolder 3 none, Cond.fieldLink RX5 9 "RimGrains$Trees" "depths" "[I", Cond.fieldLink RX5 15 "RimGrains$Trees" "roots" "[I", Cond.fieldLink RX5 18 "RimGrains$Trees" "holding" "[I", Cond.fieldLink RX5 21 "RimGrains$Trees" "members" "[I", Cond.fieldLink RX5 24 "RimGrains$Trees" "highest" "[I", Cond.fieldLink RX5 27 "RimGrains$Trees" "second" "[I", Cond.methodLink RX5 45 yX5_addToHolder, Cond.instanceMethod yX5_addToHolder, Cond.selects RX5 yX5_addToHolder yX5_addToHolder, Cond.code yX5_addToHolder cX5_addToHolder 4 none, Cond.methodLink RX7 295 yX5_rootGrains, Cond.instanceMethod yX5_rootGrains, Cond.selects RX5 yX5_rootGrains yX5_rootGrains, Cond.code yX5_rootGrains cX5_rootGrains 3 (some .int), Cond.methodLink RX7 298 yX5_grainsHeldBy, Cond.instanceMethod yX5_grainsHeldBy, Cond.selects RX5 yX5_grainsHeldBy yX5_grainsHeldBy, Cond.code yX5_grainsHeldBy cX5_grainsHeldBy 5 (some .int), Cond.methodLink RX7 266 yX5_deepest, Cond.instanceMethod yX5_deepest]
def wsX7_count_r6 : List Cond := [Cond.selects RX5 yX5_deepest yX5_deepest, Cond.code yX5_deepest cX5_deepest 3 (some .int), Cond.methodLink RX5 48 Lib.Math.max.name]
def wsX7_count : List Cond := .code yX7_count cX7_count 2 (some .int) :: ((wsX7_count_r1 ++ (wsX7_count_r2 ++ (wsX7_count_r3 ++ (wsX7_count_r4 ++ (wsX7_count_r5 ++ wsX7_count_r6))))) ++ wsX70 ++ wsX40 ++ wsX10 ++ wsX30 ++ wsX50)
def wsX7_density : List Cond := .code yX7_density cX7_density 2 (some .double) :: ([.fieldLink RX7 12 "RimGrains" "now" "LRimGrains$State;", .methodLink RX7 222 yX4_reach, .instanceMethod yX4_reach, .selects RX4 yX4_reach yX4_reach, .initialized RX4, .code yX4_reach cX4_reach 3 (some .int), .fieldLink RX4 27 "RimGrains$State" "grains" "I", .fieldLink RX4 9 "RimGrains$State" "cells" "[I", .methodLink RX4 110 Lib.Math.max.name, .static Lib.Math.max.name, .initialized "java/lang/Math", .code Lib.Math.max.name Lib.Math.max.code 2 (some .int), .methodLink RX4 60 yX2_ringOf, .static yX2_ringOf, .initialized RX2, .code yX2_ringOf cX2_ringOf 1 (some .int), .methodLink RX2 9 Lib.Math.abs.name, .static Lib.Math.abs.name, .code Lib.Math.abs.name Lib.Math.abs.code 1 (some .int), .methodLink RX2 15 Lib.Math.max.name] ++ wsX70 ++ wsX40)
def wsX7_ifGone_r1 : List Cond := [Cond.fieldLink RX7 12 "RimGrains" "now" "LRimGrains$State;", Cond.fieldLink RX7 29 "RimGrains" "walk" "LRimGrains$Walk;", Cond.methodLink RX7 88 yX4_refusalToGo, Cond.instanceMethod yX4_refusalToGo, Cond.selects RX4 yX4_refusalToGo yX4_refusalToGo, Cond.initialized RX4, Cond.code yX4_refusalToGo cX4_refusalToGo 2 (some .int), Cond.methodLink RX4 88 yX2_isRim, Cond.static yX2_isRim, Cond.initialized RX2, Cond.code yX2_isRim cX2_isRim 1 (some .boolean), Cond.methodLink RX4 91 yX2_cellOfRim, Cond.static yX2_cellOfRim, Cond.code yX2_cellOfRim cX2_cellOfRim 1 (some .int), Cond.methodLink RX4 94 yX4_grainAt, Cond.instanceMethod yX4_grainAt, Cond.selects RX4 yX4_grainAt yX4_grainAt, Cond.code yX4_grainAt cX4_grainAt 2 (some .int), Cond.fieldLink RX4 21 "RimGrains$State" "grainsByCell" "[I", Cond.methodLink RX7 249 yX2_cellOfRim, Cond.methodLink RX7 252 yX6_walkFrom, Cond.instanceMethod yX6_walkFrom, Cond.selects RX6 yX6_walkFrom yX6_walkFrom, Cond.initialized RX6]
def wsX7_ifGone_r2 : List Cond := [Cond.code yX6_walkFrom cX6_walkFrom 6 none, Cond.fieldLink RX6 9 "RimGrains$Walk" "place" "I", Cond.fieldLink RX6 15 "RimGrains$Walk" "steps" "I", Cond.fieldLink RX6 18 "RimGrains$Walk" "draws" "I", Cond.fieldLink RX6 21 "RimGrains$Walk" "lot" "I", Cond.fieldLink RX6 24 "RimGrains$Walk" "holder" "I", Cond.methodLink RX6 30 yX4_setting, Cond.instanceMethod yX4_setting, Cond.selects RX4 yX4_setting yX4_setting, Cond.code yX4_setting cX4_setting 2 (some .int), Cond.fieldLink RX4 24 "RimGrains$State" "settings" "[I", Cond.methodLink RX6 34 yX6_catchesHold, Cond.instanceMethod yX6_catchesHold, Cond.selects RX6 yX6_catchesHold yX6_catchesHold, Cond.code yX6_catchesHold cX6_catchesHold 3 (some .boolean), Cond.methodLink RX6 41 yX4_firstGrainBeside, Cond.instanceMethod yX4_firstGrainBeside, Cond.selects RX4 yX4_firstGrainBeside yX4_firstGrainBeside, Cond.code yX4_firstGrainBeside cX4_firstGrainBeside 4 (some .int), Cond.methodLink RX4 103 yX2_neighbour, Cond.static yX2_neighbour, Cond.code yX2_neighbour cX2_neighbour 4 (some .int), Cond.methodLink RX6 44 yX6_draw, Cond.instanceMethod yX6_draw]
def wsX7_ifGone_r3 : List Cond := [Cond.selects RX6 yX6_draw yX6_draw, Cond.code yX6_draw cX6_draw 1 (some .int), Cond.static yX7_nextLot, Cond.initialized RX7, Cond.code yX7_nextLot cX7_nextLot 1 (some .int), Cond.methodLink RX6 38 yX6_makesStep, Cond.instanceMethod yX6_makesStep, Cond.selects RX6 yX6_makesStep yX6_makesStep, Cond.code yX6_makesStep cX6_makesStep 4 (some .boolean), Cond.methodLink RX6 48 yX2_neighbour, Cond.methodLink RX6 54 yX4_grainAt, Cond.methodLink RX7 256 yX6_answer, Cond.instanceMethod yX6_answer, Cond.selects RX6 yX6_answer yX6_answer, Cond.code yX6_answer cX6_answer 1 (some .int), Cond.methodLink RX6 60 yX6_sticks, Cond.instanceMethod yX6_sticks, Cond.selects RX6 yX6_sticks yX6_sticks, Cond.code yX6_sticks cX6_sticks 1 (some .boolean)]
def wsX7_ifGone : List Cond := .code yX7_ifGone cX7_ifGone 4 (some .int) :: ((wsX7_ifGone_r1 ++ (wsX7_ifGone_r2 ++ wsX7_ifGone_r3)) ++ wsX70 ++ wsX60 ++ wsX40)
def wsX7_ifBroken_r1 : List Cond := [Cond.fieldLink RX7 12 "RimGrains" "now" "LRimGrains$State;", Cond.fieldLink RX7 19 "RimGrains" "trial" "LRimGrains$State;", Cond.fieldLink RX7 36 "RimGrains" "fall" "LRimGrains$Fall;", Cond.fieldLink RX7 43 "RimGrains" "trees" "LRimGrains$Trees;", Cond.fieldLink RX7 50 "RimGrains" "screening" "LRimGrains$Screens;", Cond.methodLink RX7 98 yX4_refusalToBreak, Cond.instanceMethod yX4_refusalToBreak, Cond.selects RX4 yX4_refusalToBreak yX4_refusalToBreak, Cond.initialized RX4, Cond.code yX4_refusalToBreak cX4_refusalToBreak 2 (some .int), Cond.methodLink RX4 97 yX4_isGrain, Cond.instanceMethod yX4_isGrain, Cond.selects RX4 yX4_isGrain yX4_isGrain, Cond.code yX4_isGrain cX4_isGrain 2 (some .boolean), Cond.fieldLink RX4 27 "RimGrains$State" "grains" "I", Cond.methodLink RX4 100 yX4_holderOf, Cond.instanceMethod yX4_holderOf, Cond.selects RX4 yX4_holderOf yX4_holderOf, Cond.code yX4_holderOf cX4_holderOf 2 (some .int), Cond.fieldLink RX4 15 "RimGrains$State" "holders" "[I", Cond.methodLink RX7 263 yX4_takeOver, Cond.instanceMethod yX4_takeOver, Cond.selects RX4 yX4_takeOver yX4_takeOver, Cond.code yX4_takeOver cX4_takeOver 2 none]
def wsX7_ifBroken_r2 : List Cond := [Cond.fieldLink RX4 9 "RimGrains$State" "cells" "[I", Cond.methodLink RX4 46 arraycopyName, Cond.native arraycopyName, Cond.static arraycopyName, Cond.initialized "java/lang/System", Cond.fieldLink RX4 18 "RimGrains$State" "steps" "[I", Cond.fieldLink RX4 21 "RimGrains$State" "grainsByCell" "[I", Cond.fieldLink RX4 24 "RimGrains$State" "settings" "[I", Cond.fieldLink RX4 31 "RimGrains$State" "lot" "I", Cond.fieldLink RX4 34 "RimGrains$State" "released" "I", Cond.fieldLink RX4 37 "RimGrains$State" "lost" "I", Cond.fieldLink RX4 40 "RimGrains$State" "gone" "I", Cond.fieldLink RX4 43 "RimGrains$State" "walked" "I", Cond.methodLink RX7 101 yX0_dropTree, Cond.instanceMethod yX0_dropTree, Cond.selects RX0 yX0_dropTree yX0_dropTree, Cond.initialized RX0, Cond.code yX0_dropTree cX0_dropTree 5 (some .int), Cond.fieldLink RX0 9 "RimGrains$Fall" "falling" "[Z", Cond.fieldLink RX0 15 "RimGrains$Fall" "newNumbers" "[I", Cond.methodLink RX0 25 yX4_holderOf, Cond.methodLink RX0 29 yX4_drop, Cond.instanceMethod yX4_drop, Cond.selects RX4 yX4_drop yX4_drop]
def wsX7_ifBroken_r3 : List Cond := [Cond.code yX4_drop cX4_drop 7 (some .int), Cond.methodLink RX7 222 yX4_reach, Cond.instanceMethod yX4_reach, Cond.selects RX4 yX4_reach yX4_reach, Cond.code yX4_reach cX4_reach 3 (some .int), Cond.methodLink RX4 110 Lib.Math.max.name, Cond.static Lib.Math.max.name, Cond.initialized "java/lang/Math", Cond.code Lib.Math.max.name Lib.Math.max.code 2 (some .int), Cond.methodLink RX4 60 yX2_ringOf, Cond.static yX2_ringOf, Cond.initialized RX2, Cond.code yX2_ringOf cX2_ringOf 1 (some .int), Cond.methodLink RX2 9 Lib.Math.abs.name, Cond.static Lib.Math.abs.name, Cond.code Lib.Math.abs.name Lib.Math.abs.code 1 (some .int), Cond.methodLink RX2 15 Lib.Math.max.name, Cond.methodLink RX7 172 yX5_read, Cond.instanceMethod yX5_read, Cond.selects RX5 yX5_read yX5_read, Cond.initialized RX5, Cond.code yX5_read cX5_read 4 none, Cond.fieldLink RX5 30 "RimGrains$Trees" "grains" "I", Cond.methodLink RX5 37 yX4_holderOf]
def wsX7_ifBroken_r4 : List Cond := [Cond.methodLink RX5 41 yX5_readFromHolder, Cond.instanceMethod yX5_readFromHolder, Cond.selects RX5 yX5_readFromHolder yX5_readFromHolder, Cond.code yX5_readFromHolder cX5_readFromHolder 3 none, Cond.fieldLink RX5 9 "RimGrains$Trees" "depths" "[I", Cond.fieldLink RX5 15 "RimGrains$Trees" "roots" "[I", Cond.fieldLink RX5 18 "RimGrains$Trees" "holding" "[I", Cond.fieldLink RX5 21 "RimGrains$Trees" "members" "[I", Cond.fieldLink RX5 24 "RimGrains$Trees" "highest" "[I", Cond.fieldLink RX5 27 "RimGrains$Trees" "second" "[I", Cond.methodLink RX5 45 yX5_addToHolder, Cond.instanceMethod yX5_addToHolder, Cond.selects RX5 yX5_addToHolder yX5_addToHolder, Cond.code yX5_addToHolder cX5_addToHolder 4 none, Cond.methodLink RX7 266 yX5_deepest, Cond.instanceMethod yX5_deepest, Cond.selects RX5 yX5_deepest yX5_deepest, Cond.code yX5_deepest cX5_deepest 3 (some .int), Cond.methodLink RX5 48 Lib.Math.max.name, Cond.methodLink RX7 269 yX3_read, Cond.instanceMethod yX3_read, Cond.selects RX3 yX3_read yX3_read, Cond.initialized RX3, Cond.code yX3_read cX3_read 4 none]
def wsX7_ifBroken_r5 : List Cond := [Cond.fieldLink RX3 15 "RimGrains$Screens" "grains" "I", Cond.fieldLink RX3 19 "RimGrains$Screens" "open" "I", Cond.fieldLink RX3 9 "RimGrains$Screens" "catches" "[I", Cond.methodLink RX3 25 yX3_firstMet, Cond.static yX3_firstMet, Cond.code yX3_firstMet cX3_firstMet 6 (some .int), Cond.methodLink RX3 29 yX2_cellOfRim, Cond.static yX2_cellOfRim, Cond.code yX2_cellOfRim cX2_cellOfRim 1 (some .int), Cond.methodLink RX3 35 yX2_directionInward, Cond.static yX2_directionInward, Cond.code yX2_directionInward cX2_directionInward 1 (some .int), Cond.methodLink RX3 38 yX4_grainAt, Cond.instanceMethod yX4_grainAt, Cond.selects RX4 yX4_grainAt yX4_grainAt, Cond.code yX4_grainAt cX4_grainAt 2 (some .int), Cond.methodLink RX3 41 yX2_neighbour, Cond.static yX2_neighbour, Cond.code yX2_neighbour cX2_neighbour 4 (some .int)]
def wsX7_ifBroken : List Cond := .code yX7_ifBroken cX7_ifBroken 4 (some .int) :: ((wsX7_ifBroken_r1 ++ (wsX7_ifBroken_r2 ++ (wsX7_ifBroken_r3 ++ (wsX7_ifBroken_r4 ++ wsX7_ifBroken_r5)))) ++ wsX70 ++ wsX40 ++ wsX30 ++ wsX00 ++ wsX50)
def wsX7_undo : List Cond := .code yX7_undo cX7_undo 1 (some .int) :: ([.fieldLink RX7 61 "RimGrains" "states" "I", .fieldLink RX7 12 "RimGrains" "now" "LRimGrains$State;", .fieldLink RX7 22 "RimGrains" "history" "[LRimGrains$State;", .methodLink RX7 263 yX4_takeOver, .instanceMethod yX4_takeOver, .selects RX4 yX4_takeOver yX4_takeOver, .initialized RX4, .code yX4_takeOver cX4_takeOver 2 none, .fieldLink RX4 9 "RimGrains$State" "cells" "[I", .methodLink RX4 46 arraycopyName, .native arraycopyName, .static arraycopyName, .initialized "java/lang/System", .fieldLink RX4 15 "RimGrains$State" "holders" "[I", .fieldLink RX4 18 "RimGrains$State" "steps" "[I", .fieldLink RX4 21 "RimGrains$State" "grainsByCell" "[I", .fieldLink RX4 24 "RimGrains$State" "settings" "[I", .fieldLink RX4 27 "RimGrains$State" "grains" "I", .fieldLink RX4 31 "RimGrains$State" "lot" "I", .fieldLink RX4 34 "RimGrains$State" "released" "I", .fieldLink RX4 37 "RimGrains$State" "lost" "I", .fieldLink RX4 40 "RimGrains$State" "gone" "I", .fieldLink RX4 43 "RimGrains$State" "walked" "I"] ++ wsX70 ++ wsX40)
def wsX7_save : List Cond := .code yX7_save cX7_save 1 (some .int) :: ([.fieldLink RX7 16 "RimGrains" "snapshot" "LRimGrains$State;", .fieldLink RX7 12 "RimGrains" "now" "LRimGrains$State;", .fieldLink RX7 65 "RimGrains" "saved" "Z", .methodLink RX7 263 yX4_takeOver, .instanceMethod yX4_takeOver, .selects RX4 yX4_takeOver yX4_takeOver, .initialized RX4, .code yX4_takeOver cX4_takeOver 2 none, .fieldLink RX4 9 "RimGrains$State" "cells" "[I", .methodLink RX4 46 arraycopyName, .native arraycopyName, .static arraycopyName, .initialized "java/lang/System", .fieldLink RX4 15 "RimGrains$State" "holders" "[I", .fieldLink RX4 18 "RimGrains$State" "steps" "[I", .fieldLink RX4 21 "RimGrains$State" "grainsByCell" "[I", .fieldLink RX4 24 "RimGrains$State" "settings" "[I", .fieldLink RX4 27 "RimGrains$State" "grains" "I", .fieldLink RX4 31 "RimGrains$State" "lot" "I", .fieldLink RX4 34 "RimGrains$State" "released" "I", .fieldLink RX4 37 "RimGrains$State" "lost" "I", .fieldLink RX4 40 "RimGrains$State" "gone" "I", .fieldLink RX4 43 "RimGrains$State" "walked" "I"] ++ wsX70 ++ wsX40)
def wsX7_restore_r1 : List Cond := [Cond.fieldLink RX7 65 "RimGrains" "saved" "Z", Cond.fieldLink RX7 12 "RimGrains" "now" "LRimGrains$State;", Cond.fieldLink RX7 16 "RimGrains" "snapshot" "LRimGrains$State;", Cond.methodLink RX7 82 yX7_record, Cond.instanceMethod yX7_record, Cond.selects RX7 yX7_record yX7_record, Cond.initialized RX7, Cond.code yX7_record cX7_record 1 none, Cond.fieldLink RX7 61 "RimGrains" "states" "I", Cond.fieldLink RX7 22 "RimGrains" "history" "[LRimGrains$State;", Cond.methodLink RX7 273 yX7_dropOldest, Cond.instanceMethod yX7_dropOldest, Cond.selects RX7 yX7_dropOldest yX7_dropOldest, Cond.code yX7_dropOldest cX7_dropOldest 3 none, Cond.methodLink RX7 263 yX4_takeOver, Cond.instanceMethod yX4_takeOver, Cond.selects RX4 yX4_takeOver yX4_takeOver, Cond.initialized RX4, Cond.code yX4_takeOver cX4_takeOver 2 none, Cond.fieldLink RX4 9 "RimGrains$State" "cells" "[I", Cond.methodLink RX4 46 arraycopyName, Cond.native arraycopyName, Cond.static arraycopyName, Cond.initialized "java/lang/System"]
def wsX7_restore_r2 : List Cond := [Cond.fieldLink RX4 15 "RimGrains$State" "holders" "[I", Cond.fieldLink RX4 18 "RimGrains$State" "steps" "[I", Cond.fieldLink RX4 21 "RimGrains$State" "grainsByCell" "[I", Cond.fieldLink RX4 24 "RimGrains$State" "settings" "[I", Cond.fieldLink RX4 27 "RimGrains$State" "grains" "I", Cond.fieldLink RX4 31 "RimGrains$State" "lot" "I", Cond.fieldLink RX4 34 "RimGrains$State" "released" "I", Cond.fieldLink RX4 37 "RimGrains$State" "lost" "I", Cond.fieldLink RX4 40 "RimGrains$State" "gone" "I", Cond.fieldLink RX4 43 "RimGrains$State" "walked" "I"]
def wsX7_restore : List Cond := .code yX7_restore cX7_restore 1 (some .int) :: ((wsX7_restore_r1 ++ wsX7_restore_r2) ++ wsX70 ++ wsX40)
def wsX8_size : List Cond := .code yX8_size cX8_size 1 (some .int) :: ([])
def wsX8_ringOf : List Cond := .code yX8_ringOf cX8_ringOf 3 (some .int) :: ([.methodLink RX8 51 yX8_size, .static yX8_size, .initialized RX8, .code yX8_size cX8_size 1 (some .int)])
def wsX8_adds : List Cond := .code yX8_adds cX8_adds 5 none :: ([.fieldLink RX8 7 "RimGrainsModel" "s" "[I"] ++ wsX80)
def wsX8_roots : List Cond := .code yX8_roots cX8_roots 4 none :: ([.fieldLink RX8 7 "RimGrainsModel" "s" "[I", .methodLink RX8 62 yX8_ringOf, .static yX8_ringOf, .initialized RX8, .code yX8_ringOf cX8_ringOf 3 (some .int), .methodLink RX8 51 yX8_size, .static yX8_size, .code yX8_size cX8_size 1 (some .int), .methodLink RX8 65 yX8_adds, .instanceMethod yX8_adds, .selects RX8 yX8_adds yX8_adds, .code yX8_adds cX8_adds 5 none] ++ wsX80)
def wsX8_init_r1 : List Cond := [Cond.methodLink RX8 1 objectInit, Cond.instanceMethod objectInit, Cond.code objectInit ⟨#[0xb1]⟩ 1 none, Cond.arrayClass .int, Cond.fieldLink RX8 7 "RimGrainsModel" "s" "[I", Cond.fieldLink RX8 13 "RimGrainsModel" "aside" "[I", Cond.fieldLink RX8 16 "RimGrainsModel" "past" "[I", Cond.fieldLink RX8 19 "RimGrainsModel" "kept" "[I", Cond.fieldLink RX8 22 "RimGrainsModel" "pad" "[I", Cond.arrayClass .boolean, Cond.fieldLink RX8 25 "RimGrainsModel" "goes" "[Z", Cond.fieldLink RX8 29 "RimGrainsModel" "becomes" "[I", Cond.fieldLink RX8 32 "RimGrainsModel" "highest" "[I", Cond.methodLink RX8 35 yX8_roots, Cond.instanceMethod yX8_roots, Cond.selects RX8 yX8_roots yX8_roots, Cond.initialized RX8, Cond.code yX8_roots cX8_roots 4 none, Cond.methodLink RX8 62 yX8_ringOf, Cond.static yX8_ringOf, Cond.code yX8_ringOf cX8_ringOf 3 (some .int), Cond.methodLink RX8 51 yX8_size, Cond.static yX8_size, Cond.code yX8_size cX8_size 1 (some .int)]
def wsX8_init_r2 : List Cond := [Cond.methodLink RX8 65 yX8_adds, Cond.instanceMethod yX8_adds, Cond.selects RX8 yX8_adds yX8_adds, Cond.code yX8_adds cX8_adds 5 none]
def wsX8_init : List Cond := .code yX8_init cX8_init 1 none :: ((wsX8_init_r1 ++ wsX8_init_r2) ++ wsX80)
def wsX8_in : List Cond := .code yX8_in cX8_in 3 (some .boolean) :: ([])
def wsX8_copies : List Cond := .code yX8_copies cX8_copies 5 none :: ([])
def wsX8_records : List Cond := .code yX8_records cX8_records 2 none :: ([.fieldLink RX8 39 "RimGrainsModel" "known" "I", .fieldLink RX8 16 "RimGrainsModel" "past" "[I", .fieldLink RX8 7 "RimGrainsModel" "s" "[I", .methodLink RX8 43 yX8_copies, .static yX8_copies, .initialized RX8, .code yX8_copies cX8_copies 5 none] ++ wsX80)
def wsX8_isCell : List Cond := .code yX8_isCell cX8_isCell 1 (some .boolean) :: ([.methodLink RX8 47 yX8_in, .static yX8_in, .initialized RX8, .code yX8_in cX8_in 3 (some .boolean)])
def wsX8_beside : List Cond := .code yX8_beside cX8_beside 4 (some .int) :: ([.methodLink RX8 47 yX8_in, .static yX8_in, .initialized RX8, .code yX8_in cX8_in 3 (some .boolean)])
def wsX8_rimCell : List Cond := .code yX8_rimCell cX8_rimCell 1 (some .int) :: ([])
def wsX8_rimOf : List Cond := .code yX8_rimOf cX8_rimOf 3 (some .int) :: ([.methodLink RX8 55 yX8_rimCell, .static yX8_rimCell, .initialized RX8, .code yX8_rimCell cX8_rimCell 1 (some .int)])
def wsX8_isRim : List Cond := .code yX8_isRim cX8_isRim 1 (some .boolean) :: ([.methodLink RX8 47 yX8_in, .static yX8_in, .initialized RX8, .code yX8_in cX8_in 3 (some .boolean)])
def wsX8_isGrain : List Cond := .code yX8_isGrain cX8_isGrain 2 (some .boolean) :: ([.fieldLink RX8 7 "RimGrainsModel" "s" "[I", .methodLink RX8 47 yX8_in, .static yX8_in, .initialized RX8, .code yX8_in cX8_in 3 (some .boolean)] ++ wsX80)
def wsX8_of : List Cond := .code yX8_of cX8_of 3 (some .int) :: ([.fieldLink RX8 7 "RimGrainsModel" "s" "[I"] ++ wsX80)
def wsX8_holder : List Cond := .code yX8_holder cX8_holder 2 (some .int) :: ([.methodLink RX8 58 yX8_of, .instanceMethod yX8_of, .selects RX8 yX8_of yX8_of, .initialized RX8, .code yX8_of cX8_of 3 (some .int), .fieldLink RX8 7 "RimGrainsModel" "s" "[I"] ++ wsX80)
def wsX8_grainAt : List Cond := .code yX8_grainAt cX8_grainAt 4 (some .int) :: ([.fieldLink RX8 7 "RimGrainsModel" "s" "[I", .methodLink RX8 58 yX8_of, .instanceMethod yX8_of, .selects RX8 yX8_of yX8_of, .initialized RX8, .code yX8_of cX8_of 3 (some .int)] ++ wsX80)
def wsX8_grainBeside : List Cond := .code yX8_grainBeside cX8_grainBeside 6 (some .int) :: ([.methodLink RX8 69 yX8_beside, .static yX8_beside, .initialized RX8, .code yX8_beside cX8_beside 4 (some .int), .methodLink RX8 47 yX8_in, .static yX8_in, .code yX8_in cX8_in 3 (some .boolean), .methodLink RX8 72 yX8_grainAt, .instanceMethod yX8_grainAt, .selects RX8 yX8_grainAt yX8_grainAt, .code yX8_grainAt cX8_grainAt 4 (some .int), .fieldLink RX8 7 "RimGrainsModel" "s" "[I", .methodLink RX8 58 yX8_of, .instanceMethod yX8_of, .selects RX8 yX8_of yX8_of, .code yX8_of cX8_of 3 (some .int)] ++ wsX80)
def wsX8_besides : List Cond := .code yX8_besides cX8_besides 5 (some .int) :: ([.methodLink RX8 69 yX8_beside, .static yX8_beside, .initialized RX8, .code yX8_beside cX8_beside 4 (some .int), .methodLink RX8 47 yX8_in, .static yX8_in, .code yX8_in cX8_in 3 (some .boolean), .methodLink RX8 72 yX8_grainAt, .instanceMethod yX8_grainAt, .selects RX8 yX8_grainAt yX8_grainAt, .code yX8_grainAt cX8_grainAt 4 (some .int), .fieldLink RX8 7 "RimGrainsModel" "s" "[I", .methodLink RX8 58 yX8_of, .instanceMethod yX8_of, .selects RX8 yX8_of yX8_of, .code yX8_of cX8_of 3 (some .int)] ++ wsX80)
def wsX8_draws : List Cond := .code yX8_draws cX8_draws 1 (some .int) :: ([.fieldLink RX8 7 "RimGrainsModel" "s" "[I", .fieldLink RX8 75 "RimGrainsModel" "lots" "I"] ++ wsX80)
def wsX8_makesStep : List Cond := .code yX8_makesStep cX8_makesStep 3 (some .boolean) :: ([.fieldLink RX8 7 "RimGrainsModel" "s" "[I", .fieldLink RX8 78 "RimGrainsModel" "walker" "I", .fieldLink RX8 81 "RimGrainsModel" "steps" "I", .methodLink RX8 87 yX8_draws, .instanceMethod yX8_draws, .selects RX8 yX8_draws yX8_draws, .initialized RX8, .code yX8_draws cX8_draws 1 (some .int), .fieldLink RX8 75 "RimGrainsModel" "lots" "I", .methodLink RX8 69 yX8_beside, .static yX8_beside, .code yX8_beside cX8_beside 4 (some .int), .methodLink RX8 47 yX8_in, .static yX8_in, .code yX8_in cX8_in 3 (some .boolean), .methodLink RX8 72 yX8_grainAt, .instanceMethod yX8_grainAt, .selects RX8 yX8_grainAt yX8_grainAt, .code yX8_grainAt cX8_grainAt 4 (some .int), .methodLink RX8 58 yX8_of, .instanceMethod yX8_of, .selects RX8 yX8_of yX8_of, .code yX8_of cX8_of 3 (some .int)] ++ wsX80)
def wsX8_walks_r1 : List Cond := [Cond.fieldLink RX8 78 "RimGrainsModel" "walker" "I", Cond.fieldLink RX8 81 "RimGrainsModel" "steps" "I", Cond.fieldLink RX8 75 "RimGrainsModel" "lots" "I", Cond.fieldLink RX8 7 "RimGrainsModel" "s" "[I", Cond.methodLink RX8 84 yX8_grainBeside, Cond.instanceMethod yX8_grainBeside, Cond.selects RX8 yX8_grainBeside yX8_grainBeside, Cond.initialized RX8, Cond.code yX8_grainBeside cX8_grainBeside 6 (some .int), Cond.methodLink RX8 69 yX8_beside, Cond.static yX8_beside, Cond.code yX8_beside cX8_beside 4 (some .int), Cond.methodLink RX8 47 yX8_in, Cond.static yX8_in, Cond.code yX8_in cX8_in 3 (some .boolean), Cond.methodLink RX8 72 yX8_grainAt, Cond.instanceMethod yX8_grainAt, Cond.selects RX8 yX8_grainAt yX8_grainAt, Cond.code yX8_grainAt cX8_grainAt 4 (some .int), Cond.methodLink RX8 58 yX8_of, Cond.instanceMethod yX8_of, Cond.selects RX8 yX8_of yX8_of, Cond.code yX8_of cX8_of 3 (some .int), Cond.methodLink RX8 87 yX8_draws]
def wsX8_walks_r2 : List Cond := [Cond.instanceMethod yX8_draws, Cond.selects RX8 yX8_draws yX8_draws, Cond.code yX8_draws cX8_draws 1 (some .int), Cond.methodLink RX8 91 yX8_makesStep, Cond.instanceMethod yX8_makesStep, Cond.selects RX8 yX8_makesStep yX8_makesStep, Cond.code yX8_makesStep cX8_makesStep 3 (some .boolean)]
def wsX8_walks : List Cond := .code yX8_walks cX8_walks 4 (some .boolean) :: ((wsX8_walks_r1 ++ wsX8_walks_r2) ++ wsX80)
def wsX8_goGrain_r1 : List Cond := [Cond.fieldLink RX8 7 "RimGrainsModel" "s" "[I", Cond.fieldLink RX8 81 "RimGrainsModel" "steps" "I", Cond.fieldLink RX8 78 "RimGrainsModel" "walker" "I", Cond.methodLink RX8 55 yX8_rimCell, Cond.static yX8_rimCell, Cond.initialized RX8, Cond.code yX8_rimCell cX8_rimCell 1 (some .int), Cond.methodLink RX8 95 yX8_walks, Cond.instanceMethod yX8_walks, Cond.selects RX8 yX8_walks yX8_walks, Cond.code yX8_walks cX8_walks 4 (some .boolean), Cond.fieldLink RX8 75 "RimGrainsModel" "lots" "I", Cond.methodLink RX8 84 yX8_grainBeside, Cond.instanceMethod yX8_grainBeside, Cond.selects RX8 yX8_grainBeside yX8_grainBeside, Cond.code yX8_grainBeside cX8_grainBeside 6 (some .int), Cond.methodLink RX8 69 yX8_beside, Cond.static yX8_beside, Cond.code yX8_beside cX8_beside 4 (some .int), Cond.methodLink RX8 47 yX8_in, Cond.static yX8_in, Cond.code yX8_in cX8_in 3 (some .boolean), Cond.methodLink RX8 72 yX8_grainAt, Cond.instanceMethod yX8_grainAt]
def wsX8_goGrain_r2 : List Cond := [Cond.selects RX8 yX8_grainAt yX8_grainAt, Cond.code yX8_grainAt cX8_grainAt 4 (some .int), Cond.methodLink RX8 58 yX8_of, Cond.instanceMethod yX8_of, Cond.selects RX8 yX8_of yX8_of, Cond.code yX8_of cX8_of 3 (some .int), Cond.methodLink RX8 87 yX8_draws, Cond.instanceMethod yX8_draws, Cond.selects RX8 yX8_draws yX8_draws, Cond.code yX8_draws cX8_draws 1 (some .int), Cond.methodLink RX8 91 yX8_makesStep, Cond.instanceMethod yX8_makesStep, Cond.selects RX8 yX8_makesStep yX8_makesStep, Cond.code yX8_makesStep cX8_makesStep 3 (some .boolean), Cond.methodLink RX8 65 yX8_adds, Cond.instanceMethod yX8_adds, Cond.selects RX8 yX8_adds yX8_adds, Cond.code yX8_adds cX8_adds 5 none]
def wsX8_goGrain : List Cond := .code yX8_goGrain cX8_goGrain 3 (some .int) :: ((wsX8_goGrain_r1 ++ wsX8_goGrain_r2) ++ wsX80)
def wsX8_isBlocked : List Cond := .code yX8_isBlocked cX8_isBlocked 2 (some .boolean) :: ([.methodLink RX8 55 yX8_rimCell, .static yX8_rimCell, .initialized RX8, .code yX8_rimCell cX8_rimCell 1 (some .int), .methodLink RX8 72 yX8_grainAt, .instanceMethod yX8_grainAt, .selects RX8 yX8_grainAt yX8_grainAt, .code yX8_grainAt cX8_grainAt 4 (some .int), .fieldLink RX8 7 "RimGrainsModel" "s" "[I", .methodLink RX8 58 yX8_of, .instanceMethod yX8_of, .selects RX8 yX8_of yX8_of, .code yX8_of cX8_of 3 (some .int)] ++ wsX80)
def wsX8_goRain_r1 : List Cond := [Cond.fieldLink RX8 7 "RimGrainsModel" "s" "[I", Cond.methodLink RX8 87 yX8_draws, Cond.instanceMethod yX8_draws, Cond.selects RX8 yX8_draws yX8_draws, Cond.initialized RX8, Cond.code yX8_draws cX8_draws 1 (some .int), Cond.fieldLink RX8 75 "RimGrainsModel" "lots" "I", Cond.methodLink RX8 99 yX8_isBlocked, Cond.instanceMethod yX8_isBlocked, Cond.selects RX8 yX8_isBlocked yX8_isBlocked, Cond.code yX8_isBlocked cX8_isBlocked 2 (some .boolean), Cond.methodLink RX8 55 yX8_rimCell, Cond.static yX8_rimCell, Cond.code yX8_rimCell cX8_rimCell 1 (some .int), Cond.methodLink RX8 72 yX8_grainAt, Cond.instanceMethod yX8_grainAt, Cond.selects RX8 yX8_grainAt yX8_grainAt, Cond.code yX8_grainAt cX8_grainAt 4 (some .int), Cond.methodLink RX8 58 yX8_of, Cond.instanceMethod yX8_of, Cond.selects RX8 yX8_of yX8_of, Cond.code yX8_of cX8_of 3 (some .int), Cond.methodLink RX8 102 yX8_goGrain, Cond.instanceMethod yX8_goGrain]
def wsX8_goRain_r2 : List Cond := [Cond.selects RX8 yX8_goGrain yX8_goGrain, Cond.code yX8_goGrain cX8_goGrain 3 (some .int), Cond.fieldLink RX8 81 "RimGrainsModel" "steps" "I", Cond.fieldLink RX8 78 "RimGrainsModel" "walker" "I", Cond.methodLink RX8 95 yX8_walks, Cond.instanceMethod yX8_walks, Cond.selects RX8 yX8_walks yX8_walks, Cond.code yX8_walks cX8_walks 4 (some .boolean), Cond.methodLink RX8 84 yX8_grainBeside, Cond.instanceMethod yX8_grainBeside, Cond.selects RX8 yX8_grainBeside yX8_grainBeside, Cond.code yX8_grainBeside cX8_grainBeside 6 (some .int), Cond.methodLink RX8 69 yX8_beside, Cond.static yX8_beside, Cond.code yX8_beside cX8_beside 4 (some .int), Cond.methodLink RX8 47 yX8_in, Cond.static yX8_in, Cond.code yX8_in cX8_in 3 (some .boolean), Cond.methodLink RX8 91 yX8_makesStep, Cond.instanceMethod yX8_makesStep, Cond.selects RX8 yX8_makesStep yX8_makesStep, Cond.code yX8_makesStep cX8_makesStep 3 (some .boolean), Cond.methodLink RX8 65 yX8_adds, Cond.instanceMethod yX8_adds]
def wsX8_goRain_r3 : List Cond := [Cond.selects RX8 yX8_adds yX8_adds, Cond.code yX8_adds cX8_adds 5 none]
def wsX8_goRain : List Cond := .code yX8_goRain cX8_goRain 5 (some .int) :: ((wsX8_goRain_r1 ++ (wsX8_goRain_r2 ++ wsX8_goRain_r3)) ++ wsX80)
def wsX8_takesAway : List Cond := .code yX8_takesAway cX8_takesAway 7 (some .int) :: ([.fieldLink RX8 7 "RimGrainsModel" "s" "[I", .fieldLink RX8 29 "RimGrainsModel" "becomes" "[I", .fieldLink RX8 25 "RimGrainsModel" "goes" "[Z", .methodLink RX8 105 yX8_holder, .instanceMethod yX8_holder, .selects RX8 yX8_holder yX8_holder, .initialized RX8, .code yX8_holder cX8_holder 2 (some .int), .methodLink RX8 58 yX8_of, .instanceMethod yX8_of, .selects RX8 yX8_of yX8_of, .code yX8_of cX8_of 3 (some .int), .methodLink RX8 65 yX8_adds, .instanceMethod yX8_adds, .selects RX8 yX8_adds yX8_adds, .code yX8_adds cX8_adds 5 none] ++ wsX80)
def wsX8_goBreak : List Cond := .code yX8_goBreak cX8_goBreak 3 (some .int) :: ([.fieldLink RX8 7 "RimGrainsModel" "s" "[I", .fieldLink RX8 25 "RimGrainsModel" "goes" "[Z", .methodLink RX8 105 yX8_holder, .instanceMethod yX8_holder, .selects RX8 yX8_holder yX8_holder, .initialized RX8, .code yX8_holder cX8_holder 2 (some .int), .methodLink RX8 58 yX8_of, .instanceMethod yX8_of, .selects RX8 yX8_of yX8_of, .code yX8_of cX8_of 3 (some .int), .methodLink RX8 108 yX8_takesAway, .instanceMethod yX8_takesAway, .selects RX8 yX8_takesAway yX8_takesAway, .code yX8_takesAway cX8_takesAway 7 (some .int), .fieldLink RX8 29 "RimGrainsModel" "becomes" "[I", .methodLink RX8 65 yX8_adds, .instanceMethod yX8_adds, .selects RX8 yX8_adds yX8_adds, .code yX8_adds cX8_adds 5 none] ++ wsX80)
def wsX8_children : List Cond := .code yX8_children cX8_children 4 (some .int) :: ([.fieldLink RX8 7 "RimGrainsModel" "s" "[I", .methodLink RX8 105 yX8_holder, .instanceMethod yX8_holder, .selects RX8 yX8_holder yX8_holder, .initialized RX8, .code yX8_holder cX8_holder 2 (some .int), .methodLink RX8 58 yX8_of, .instanceMethod yX8_of, .selects RX8 yX8_of yX8_of, .code yX8_of cX8_of 3 (some .int)] ++ wsX80)
def wsX8_goWash : List Cond := .code yX8_goWash cX8_goWash 2 (some .int) :: ([.fieldLink RX8 7 "RimGrainsModel" "s" "[I", .fieldLink RX8 25 "RimGrainsModel" "goes" "[Z", .methodLink RX8 105 yX8_holder, .instanceMethod yX8_holder, .selects RX8 yX8_holder yX8_holder, .initialized RX8, .code yX8_holder cX8_holder 2 (some .int), .methodLink RX8 58 yX8_of, .instanceMethod yX8_of, .selects RX8 yX8_of yX8_of, .code yX8_of cX8_of 3 (some .int), .methodLink RX8 111 yX8_children, .instanceMethod yX8_children, .selects RX8 yX8_children yX8_children, .code yX8_children cX8_children 4 (some .int), .methodLink RX8 108 yX8_takesAway, .instanceMethod yX8_takesAway, .selects RX8 yX8_takesAway yX8_takesAway, .code yX8_takesAway cX8_takesAway 7 (some .int), .fieldLink RX8 29 "RimGrainsModel" "becomes" "[I", .methodLink RX8 65 yX8_adds, .instanceMethod yX8_adds, .selects RX8 yX8_adds yX8_adds, .code yX8_adds cX8_adds 5 none] ++ wsX80)
def wsX8_errorGo : List Cond := .code yX8_errorGo cX8_errorGo 2 (some .int) :: ([.methodLink RX8 114 yX8_isRim, .static yX8_isRim, .initialized RX8, .code yX8_isRim cX8_isRim 1 (some .boolean), .methodLink RX8 47 yX8_in, .static yX8_in, .code yX8_in cX8_in 3 (some .boolean), .methodLink RX8 99 yX8_isBlocked, .instanceMethod yX8_isBlocked, .selects RX8 yX8_isBlocked yX8_isBlocked, .code yX8_isBlocked cX8_isBlocked 2 (some .boolean), .methodLink RX8 55 yX8_rimCell, .static yX8_rimCell, .code yX8_rimCell cX8_rimCell 1 (some .int), .methodLink RX8 72 yX8_grainAt, .instanceMethod yX8_grainAt, .selects RX8 yX8_grainAt yX8_grainAt, .code yX8_grainAt cX8_grainAt 4 (some .int), .fieldLink RX8 7 "RimGrainsModel" "s" "[I", .methodLink RX8 58 yX8_of, .instanceMethod yX8_of, .selects RX8 yX8_of yX8_of, .code yX8_of cX8_of 3 (some .int)] ++ wsX80)
def wsX8_errorBreak : List Cond := .code yX8_errorBreak cX8_errorBreak 2 (some .int) :: ([.methodLink RX8 117 yX8_isGrain, .instanceMethod yX8_isGrain, .selects RX8 yX8_isGrain yX8_isGrain, .initialized RX8, .code yX8_isGrain cX8_isGrain 2 (some .boolean), .fieldLink RX8 7 "RimGrainsModel" "s" "[I", .methodLink RX8 47 yX8_in, .static yX8_in, .code yX8_in cX8_in 3 (some .boolean), .methodLink RX8 105 yX8_holder, .instanceMethod yX8_holder, .selects RX8 yX8_holder yX8_holder, .code yX8_holder cX8_holder 2 (some .int), .methodLink RX8 58 yX8_of, .instanceMethod yX8_of, .selects RX8 yX8_of yX8_of, .code yX8_of cX8_of 3 (some .int)] ++ wsX80)
def wsX8_begin_r1 : List Cond := [Cond.fieldLink RX8 7 "RimGrainsModel" "s" "[I", Cond.methodLink RX8 47 yX8_in, Cond.static yX8_in, Cond.initialized RX8, Cond.code yX8_in cX8_in 3 (some .boolean), Cond.methodLink RX8 120 yX8_records, Cond.instanceMethod yX8_records, Cond.selects RX8 yX8_records yX8_records, Cond.code yX8_records cX8_records 2 none, Cond.fieldLink RX8 39 "RimGrainsModel" "known" "I", Cond.fieldLink RX8 16 "RimGrainsModel" "past" "[I", Cond.methodLink RX8 43 yX8_copies, Cond.static yX8_copies, Cond.code yX8_copies cX8_copies 5 none, Cond.methodLink RX8 35 yX8_roots, Cond.instanceMethod yX8_roots, Cond.selects RX8 yX8_roots yX8_roots, Cond.code yX8_roots cX8_roots 4 none, Cond.methodLink RX8 62 yX8_ringOf, Cond.static yX8_ringOf, Cond.code yX8_ringOf cX8_ringOf 3 (some .int), Cond.methodLink RX8 51 yX8_size, Cond.static yX8_size, Cond.code yX8_size cX8_size 1 (some .int)]
def wsX8_begin_r2 : List Cond := [Cond.methodLink RX8 65 yX8_adds, Cond.instanceMethod yX8_adds, Cond.selects RX8 yX8_adds yX8_adds, Cond.code yX8_adds cX8_adds 5 none]
def wsX8_begin : List Cond := .code yX8_begin cX8_begin 3 (some .int) :: ((wsX8_begin_r1 ++ wsX8_begin_r2) ++ wsX80)
def wsX8_lot : List Cond := .code yX8_lot cX8_lot 3 (some .int) :: ([.fieldLink RX8 7 "RimGrainsModel" "s" "[I", .methodLink RX8 47 yX8_in, .static yX8_in, .initialized RX8, .code yX8_in cX8_in 3 (some .boolean), .methodLink RX8 120 yX8_records, .instanceMethod yX8_records, .selects RX8 yX8_records yX8_records, .code yX8_records cX8_records 2 none, .fieldLink RX8 39 "RimGrainsModel" "known" "I", .fieldLink RX8 16 "RimGrainsModel" "past" "[I", .methodLink RX8 43 yX8_copies, .static yX8_copies, .code yX8_copies cX8_copies 5 none] ++ wsX80)
def wsX8_go_r1 : List Cond := [Cond.methodLink RX8 123 yX8_errorGo, Cond.instanceMethod yX8_errorGo, Cond.selects RX8 yX8_errorGo yX8_errorGo, Cond.initialized RX8, Cond.code yX8_errorGo cX8_errorGo 2 (some .int), Cond.methodLink RX8 114 yX8_isRim, Cond.static yX8_isRim, Cond.code yX8_isRim cX8_isRim 1 (some .boolean), Cond.methodLink RX8 47 yX8_in, Cond.static yX8_in, Cond.code yX8_in cX8_in 3 (some .boolean), Cond.methodLink RX8 99 yX8_isBlocked, Cond.instanceMethod yX8_isBlocked, Cond.selects RX8 yX8_isBlocked yX8_isBlocked, Cond.code yX8_isBlocked cX8_isBlocked 2 (some .boolean), Cond.methodLink RX8 55 yX8_rimCell, Cond.static yX8_rimCell, Cond.code yX8_rimCell cX8_rimCell 1 (some .int), Cond.methodLink RX8 72 yX8_grainAt, Cond.instanceMethod yX8_grainAt, Cond.selects RX8 yX8_grainAt yX8_grainAt, Cond.code yX8_grainAt cX8_grainAt 4 (some .int), Cond.fieldLink RX8 7 "RimGrainsModel" "s" "[I", Cond.methodLink RX8 58 yX8_of]
def wsX8_go_r2 : List Cond := [Cond.instanceMethod yX8_of, Cond.selects RX8 yX8_of yX8_of, Cond.code yX8_of cX8_of 3 (some .int), Cond.methodLink RX8 120 yX8_records, Cond.instanceMethod yX8_records, Cond.selects RX8 yX8_records yX8_records, Cond.code yX8_records cX8_records 2 none, Cond.fieldLink RX8 39 "RimGrainsModel" "known" "I", Cond.fieldLink RX8 16 "RimGrainsModel" "past" "[I", Cond.methodLink RX8 43 yX8_copies, Cond.static yX8_copies, Cond.code yX8_copies cX8_copies 5 none, Cond.methodLink RX8 102 yX8_goGrain, Cond.instanceMethod yX8_goGrain, Cond.selects RX8 yX8_goGrain yX8_goGrain, Cond.code yX8_goGrain cX8_goGrain 3 (some .int), Cond.fieldLink RX8 81 "RimGrainsModel" "steps" "I", Cond.fieldLink RX8 78 "RimGrainsModel" "walker" "I", Cond.methodLink RX8 95 yX8_walks, Cond.instanceMethod yX8_walks, Cond.selects RX8 yX8_walks yX8_walks, Cond.code yX8_walks cX8_walks 4 (some .boolean), Cond.fieldLink RX8 75 "RimGrainsModel" "lots" "I", Cond.methodLink RX8 84 yX8_grainBeside]
def wsX8_go_r3 : List Cond := [Cond.instanceMethod yX8_grainBeside, Cond.selects RX8 yX8_grainBeside yX8_grainBeside, Cond.code yX8_grainBeside cX8_grainBeside 6 (some .int), Cond.methodLink RX8 69 yX8_beside, Cond.static yX8_beside, Cond.code yX8_beside cX8_beside 4 (some .int), Cond.methodLink RX8 87 yX8_draws, Cond.instanceMethod yX8_draws, Cond.selects RX8 yX8_draws yX8_draws, Cond.code yX8_draws cX8_draws 1 (some .int), Cond.methodLink RX8 91 yX8_makesStep, Cond.instanceMethod yX8_makesStep, Cond.selects RX8 yX8_makesStep yX8_makesStep, Cond.code yX8_makesStep cX8_makesStep 3 (some .boolean), Cond.methodLink RX8 65 yX8_adds, Cond.instanceMethod yX8_adds, Cond.selects RX8 yX8_adds yX8_adds, Cond.code yX8_adds cX8_adds 5 none]
def wsX8_go : List Cond := .code yX8_go cX8_go 3 (some .int) :: ((wsX8_go_r1 ++ (wsX8_go_r2 ++ wsX8_go_r3)) ++ wsX80)
def wsX8_rain_r1 : List Cond := [Cond.methodLink RX8 47 yX8_in, Cond.static yX8_in, Cond.initialized RX8, Cond.code yX8_in cX8_in 3 (some .boolean), Cond.methodLink RX8 120 yX8_records, Cond.instanceMethod yX8_records, Cond.selects RX8 yX8_records yX8_records, Cond.code yX8_records cX8_records 2 none, Cond.fieldLink RX8 39 "RimGrainsModel" "known" "I", Cond.fieldLink RX8 16 "RimGrainsModel" "past" "[I", Cond.fieldLink RX8 7 "RimGrainsModel" "s" "[I", Cond.methodLink RX8 43 yX8_copies, Cond.static yX8_copies, Cond.code yX8_copies cX8_copies 5 none, Cond.methodLink RX8 126 yX8_goRain, Cond.instanceMethod yX8_goRain, Cond.selects RX8 yX8_goRain yX8_goRain, Cond.code yX8_goRain cX8_goRain 5 (some .int), Cond.methodLink RX8 87 yX8_draws, Cond.instanceMethod yX8_draws, Cond.selects RX8 yX8_draws yX8_draws, Cond.code yX8_draws cX8_draws 1 (some .int), Cond.fieldLink RX8 75 "RimGrainsModel" "lots" "I", Cond.methodLink RX8 99 yX8_isBlocked]
def wsX8_rain_r2 : List Cond := [Cond.instanceMethod yX8_isBlocked, Cond.selects RX8 yX8_isBlocked yX8_isBlocked, Cond.code yX8_isBlocked cX8_isBlocked 2 (some .boolean), Cond.methodLink RX8 55 yX8_rimCell, Cond.static yX8_rimCell, Cond.code yX8_rimCell cX8_rimCell 1 (some .int), Cond.methodLink RX8 72 yX8_grainAt, Cond.instanceMethod yX8_grainAt, Cond.selects RX8 yX8_grainAt yX8_grainAt, Cond.code yX8_grainAt cX8_grainAt 4 (some .int), Cond.methodLink RX8 58 yX8_of, Cond.instanceMethod yX8_of, Cond.selects RX8 yX8_of yX8_of, Cond.code yX8_of cX8_of 3 (some .int), Cond.methodLink RX8 102 yX8_goGrain, Cond.instanceMethod yX8_goGrain, Cond.selects RX8 yX8_goGrain yX8_goGrain, Cond.code yX8_goGrain cX8_goGrain 3 (some .int), Cond.fieldLink RX8 81 "RimGrainsModel" "steps" "I", Cond.fieldLink RX8 78 "RimGrainsModel" "walker" "I", Cond.methodLink RX8 95 yX8_walks, Cond.instanceMethod yX8_walks, Cond.selects RX8 yX8_walks yX8_walks, Cond.code yX8_walks cX8_walks 4 (some .boolean)]
def wsX8_rain_r3 : List Cond := [Cond.methodLink RX8 84 yX8_grainBeside, Cond.instanceMethod yX8_grainBeside, Cond.selects RX8 yX8_grainBeside yX8_grainBeside, Cond.code yX8_grainBeside cX8_grainBeside 6 (some .int), Cond.methodLink RX8 69 yX8_beside, Cond.static yX8_beside, Cond.code yX8_beside cX8_beside 4 (some .int), Cond.methodLink RX8 91 yX8_makesStep, Cond.instanceMethod yX8_makesStep, Cond.selects RX8 yX8_makesStep yX8_makesStep, Cond.code yX8_makesStep cX8_makesStep 3 (some .boolean), Cond.methodLink RX8 65 yX8_adds, Cond.instanceMethod yX8_adds, Cond.selects RX8 yX8_adds yX8_adds, Cond.code yX8_adds cX8_adds 5 none]
def wsX8_rain : List Cond := .code yX8_rain cX8_rain 2 (some .int) :: ((wsX8_rain_r1 ++ (wsX8_rain_r2 ++ wsX8_rain_r3)) ++ wsX80)
def wsX8_breakOff_r1 : List Cond := [Cond.methodLink RX8 129 yX8_errorBreak, Cond.instanceMethod yX8_errorBreak, Cond.selects RX8 yX8_errorBreak yX8_errorBreak, Cond.initialized RX8, Cond.code yX8_errorBreak cX8_errorBreak 2 (some .int), Cond.methodLink RX8 117 yX8_isGrain, Cond.instanceMethod yX8_isGrain, Cond.selects RX8 yX8_isGrain yX8_isGrain, Cond.code yX8_isGrain cX8_isGrain 2 (some .boolean), Cond.fieldLink RX8 7 "RimGrainsModel" "s" "[I", Cond.methodLink RX8 47 yX8_in, Cond.static yX8_in, Cond.code yX8_in cX8_in 3 (some .boolean), Cond.methodLink RX8 105 yX8_holder, Cond.instanceMethod yX8_holder, Cond.selects RX8 yX8_holder yX8_holder, Cond.code yX8_holder cX8_holder 2 (some .int), Cond.methodLink RX8 58 yX8_of, Cond.instanceMethod yX8_of, Cond.selects RX8 yX8_of yX8_of, Cond.code yX8_of cX8_of 3 (some .int), Cond.methodLink RX8 120 yX8_records, Cond.instanceMethod yX8_records, Cond.selects RX8 yX8_records yX8_records]
def wsX8_breakOff_r2 : List Cond := [Cond.code yX8_records cX8_records 2 none, Cond.fieldLink RX8 39 "RimGrainsModel" "known" "I", Cond.fieldLink RX8 16 "RimGrainsModel" "past" "[I", Cond.methodLink RX8 43 yX8_copies, Cond.static yX8_copies, Cond.code yX8_copies cX8_copies 5 none, Cond.methodLink RX8 132 yX8_goBreak, Cond.instanceMethod yX8_goBreak, Cond.selects RX8 yX8_goBreak yX8_goBreak, Cond.code yX8_goBreak cX8_goBreak 3 (some .int), Cond.fieldLink RX8 25 "RimGrainsModel" "goes" "[Z", Cond.methodLink RX8 108 yX8_takesAway, Cond.instanceMethod yX8_takesAway, Cond.selects RX8 yX8_takesAway yX8_takesAway, Cond.code yX8_takesAway cX8_takesAway 7 (some .int), Cond.fieldLink RX8 29 "RimGrainsModel" "becomes" "[I", Cond.methodLink RX8 65 yX8_adds, Cond.instanceMethod yX8_adds, Cond.selects RX8 yX8_adds yX8_adds, Cond.code yX8_adds cX8_adds 5 none]
def wsX8_breakOff : List Cond := .code yX8_breakOff cX8_breakOff 3 (some .int) :: ((wsX8_breakOff_r1 ++ wsX8_breakOff_r2) ++ wsX80)
def wsX8_wash_r1 : List Cond := [Cond.methodLink RX8 120 yX8_records, Cond.instanceMethod yX8_records, Cond.selects RX8 yX8_records yX8_records, Cond.initialized RX8, Cond.code yX8_records cX8_records 2 none, Cond.fieldLink RX8 39 "RimGrainsModel" "known" "I", Cond.fieldLink RX8 16 "RimGrainsModel" "past" "[I", Cond.fieldLink RX8 7 "RimGrainsModel" "s" "[I", Cond.methodLink RX8 43 yX8_copies, Cond.static yX8_copies, Cond.code yX8_copies cX8_copies 5 none, Cond.methodLink RX8 135 yX8_goWash, Cond.instanceMethod yX8_goWash, Cond.selects RX8 yX8_goWash yX8_goWash, Cond.code yX8_goWash cX8_goWash 2 (some .int), Cond.fieldLink RX8 25 "RimGrainsModel" "goes" "[Z", Cond.methodLink RX8 105 yX8_holder, Cond.instanceMethod yX8_holder, Cond.selects RX8 yX8_holder yX8_holder, Cond.code yX8_holder cX8_holder 2 (some .int), Cond.methodLink RX8 58 yX8_of, Cond.instanceMethod yX8_of, Cond.selects RX8 yX8_of yX8_of, Cond.code yX8_of cX8_of 3 (some .int)]
def wsX8_wash_r2 : List Cond := [Cond.methodLink RX8 111 yX8_children, Cond.instanceMethod yX8_children, Cond.selects RX8 yX8_children yX8_children, Cond.code yX8_children cX8_children 4 (some .int), Cond.methodLink RX8 108 yX8_takesAway, Cond.instanceMethod yX8_takesAway, Cond.selects RX8 yX8_takesAway yX8_takesAway, Cond.code yX8_takesAway cX8_takesAway 7 (some .int), Cond.fieldLink RX8 29 "RimGrainsModel" "becomes" "[I", Cond.methodLink RX8 65 yX8_adds, Cond.instanceMethod yX8_adds, Cond.selects RX8 yX8_adds yX8_adds, Cond.code yX8_adds cX8_adds 5 none]
def wsX8_wash : List Cond := .code yX8_wash cX8_wash 1 (some .int) :: ((wsX8_wash_r1 ++ wsX8_wash_r2) ++ wsX80)
def wsX8_leastOf : List Cond := .code yX8_leastOf cX8_leastOf 1 (some .int) :: ([])
def wsX8_mostOf : List Cond := .code yX8_mostOf cX8_mostOf 1 (some .int) :: ([])
def wsX8_set : List Cond := .code yX8_set cX8_set 4 (some .int) :: ([.fieldLink RX8 7 "RimGrainsModel" "s" "[I", .methodLink RX8 47 yX8_in, .static yX8_in, .initialized RX8, .code yX8_in cX8_in 3 (some .boolean), .methodLink RX8 138 yX8_leastOf, .static yX8_leastOf, .code yX8_leastOf cX8_leastOf 1 (some .int), .methodLink RX8 141 yX8_mostOf, .static yX8_mostOf, .code yX8_mostOf cX8_mostOf 1 (some .int), .methodLink RX8 120 yX8_records, .instanceMethod yX8_records, .selects RX8 yX8_records yX8_records, .code yX8_records cX8_records 2 none, .fieldLink RX8 39 "RimGrainsModel" "known" "I", .fieldLink RX8 16 "RimGrainsModel" "past" "[I", .methodLink RX8 43 yX8_copies, .static yX8_copies, .code yX8_copies cX8_copies 5 none] ++ wsX80)
def wsX8_append : List Cond := .code yX8_append cX8_append 2 (some .int) :: ([.fieldLink RX8 144 "RimGrainsModel" "length" "I", .fieldLink RX8 22 "RimGrainsModel" "pad" "[I", .methodLink RX8 47 yX8_in, .static yX8_in, .initialized RX8, .code yX8_in cX8_in 3 (some .boolean)] ++ wsX80)
def wsX8_clear : List Cond := .code yX8_clear cX8_clear 2 (some .int) :: ([.fieldLink RX8 144 "RimGrainsModel" "length" "I"] ++ wsX80)
def wsX8_here : List Cond := .code yX8_here cX8_here 1 (some .int) :: ([.fieldLink RX8 147 "RimGrainsModel" "spot" "I", .fieldLink RX8 144 "RimGrainsModel" "length" "I", .fieldLink RX8 22 "RimGrainsModel" "pad" "[I"] ++ wsX80)
def wsX8_takes : List Cond := .code yX8_takes cX8_takes 2 none :: ([.fieldLink RX8 150 "RimGrainsModel" "isForm" "Z", .fieldLink RX8 147 "RimGrainsModel" "spot" "I"] ++ wsX80)
def wsX8_takesNumber : List Cond := .code yX8_takesNumber cX8_takesNumber 2 none :: ([.fieldLink RX8 157 "RimGrainsModel" "told" "I", .fieldLink RX8 150 "RimGrainsModel" "isForm" "Z", .fieldLink RX8 147 "RimGrainsModel" "spot" "I", .methodLink RX8 154 yX8_here, .instanceMethod yX8_here, .selects RX8 yX8_here yX8_here, .initialized RX8, .code yX8_here cX8_here 1 (some .int), .fieldLink RX8 144 "RimGrainsModel" "length" "I", .fieldLink RX8 22 "RimGrainsModel" "pad" "[I", .methodLink RX8 47 yX8_in, .static yX8_in, .code yX8_in cX8_in 3 (some .boolean), .methodLink RX8 160 yX8_takes, .instanceMethod yX8_takes, .selects RX8 yX8_takes yX8_takes, .code yX8_takes cX8_takes 2 none] ++ wsX80)
def wsX8_takesDeed : List Cond := .code yX8_takesDeed cX8_takesDeed 1 none :: ([.fieldLink RX8 164 "RimGrainsModel" "letter" "I", .methodLink RX8 154 yX8_here, .instanceMethod yX8_here, .selects RX8 yX8_here yX8_here, .initialized RX8, .code yX8_here cX8_here 1 (some .int), .fieldLink RX8 147 "RimGrainsModel" "spot" "I", .fieldLink RX8 144 "RimGrainsModel" "length" "I", .fieldLink RX8 22 "RimGrainsModel" "pad" "[I", .methodLink RX8 160 yX8_takes, .instanceMethod yX8_takes, .selects RX8 yX8_takes yX8_takes, .code yX8_takes cX8_takes 2 none, .fieldLink RX8 150 "RimGrainsModel" "isForm" "Z", .methodLink RX8 167 yX8_takesNumber, .instanceMethod yX8_takesNumber, .selects RX8 yX8_takesNumber yX8_takesNumber, .code yX8_takesNumber cX8_takesNumber 2 none, .fieldLink RX8 157 "RimGrainsModel" "told" "I", .methodLink RX8 47 yX8_in, .static yX8_in, .code yX8_in cX8_in 3 (some .boolean)] ++ wsX80)
def wsX8_isText_r1 : List Cond := [Cond.fieldLink RX8 147 "RimGrainsModel" "spot" "I", Cond.fieldLink RX8 150 "RimGrainsModel" "isForm" "Z", Cond.fieldLink RX8 144 "RimGrainsModel" "length" "I", Cond.methodLink RX8 170 yX8_takesDeed, Cond.instanceMethod yX8_takesDeed, Cond.selects RX8 yX8_takesDeed yX8_takesDeed, Cond.initialized RX8, Cond.code yX8_takesDeed cX8_takesDeed 1 none, Cond.fieldLink RX8 164 "RimGrainsModel" "letter" "I", Cond.methodLink RX8 154 yX8_here, Cond.instanceMethod yX8_here, Cond.selects RX8 yX8_here yX8_here, Cond.code yX8_here cX8_here 1 (some .int), Cond.fieldLink RX8 22 "RimGrainsModel" "pad" "[I", Cond.methodLink RX8 160 yX8_takes, Cond.instanceMethod yX8_takes, Cond.selects RX8 yX8_takes yX8_takes, Cond.code yX8_takes cX8_takes 2 none, Cond.methodLink RX8 167 yX8_takesNumber, Cond.instanceMethod yX8_takesNumber, Cond.selects RX8 yX8_takesNumber yX8_takesNumber, Cond.code yX8_takesNumber cX8_takesNumber 2 none, Cond.fieldLink RX8 157 "RimGrainsModel" "told" "I", Cond.methodLink RX8 47 yX8_in]
def wsX8_isText_r2 : List Cond := [Cond.static yX8_in, Cond.code yX8_in cX8_in 3 (some .boolean)]
def wsX8_isText : List Cond := .code yX8_isText cX8_isText 1 (some .boolean) :: ((wsX8_isText_r1 ++ wsX8_isText_r2) ++ wsX80)
def wsX8_fault_r1 : List Cond := [Cond.fieldLink RX8 147 "RimGrainsModel" "spot" "I", Cond.methodLink RX8 173 yX8_isText, Cond.instanceMethod yX8_isText, Cond.selects RX8 yX8_isText yX8_isText, Cond.initialized RX8, Cond.code yX8_isText cX8_isText 1 (some .boolean), Cond.fieldLink RX8 150 "RimGrainsModel" "isForm" "Z", Cond.fieldLink RX8 144 "RimGrainsModel" "length" "I", Cond.methodLink RX8 170 yX8_takesDeed, Cond.instanceMethod yX8_takesDeed, Cond.selects RX8 yX8_takesDeed yX8_takesDeed, Cond.code yX8_takesDeed cX8_takesDeed 1 none, Cond.fieldLink RX8 164 "RimGrainsModel" "letter" "I", Cond.methodLink RX8 154 yX8_here, Cond.instanceMethod yX8_here, Cond.selects RX8 yX8_here yX8_here, Cond.code yX8_here cX8_here 1 (some .int), Cond.fieldLink RX8 22 "RimGrainsModel" "pad" "[I", Cond.methodLink RX8 160 yX8_takes, Cond.instanceMethod yX8_takes, Cond.selects RX8 yX8_takes yX8_takes, Cond.code yX8_takes cX8_takes 2 none, Cond.methodLink RX8 167 yX8_takesNumber, Cond.instanceMethod yX8_takesNumber]
def wsX8_fault_r2 : List Cond := [Cond.selects RX8 yX8_takesNumber yX8_takesNumber, Cond.code yX8_takesNumber cX8_takesNumber 2 none, Cond.fieldLink RX8 157 "RimGrainsModel" "told" "I", Cond.methodLink RX8 47 yX8_in, Cond.static yX8_in, Cond.code yX8_in cX8_in 3 (some .boolean)]
def wsX8_fault : List Cond := .code yX8_fault cX8_fault 1 (some .int) :: ((wsX8_fault_r1 ++ wsX8_fault_r2) ++ wsX80)
def wsX8_doesDeed_r1 : List Cond := [Cond.fieldLink RX8 164 "RimGrainsModel" "letter" "I", Cond.fieldLink RX8 157 "RimGrainsModel" "told" "I", Cond.methodLink RX8 123 yX8_errorGo, Cond.instanceMethod yX8_errorGo, Cond.selects RX8 yX8_errorGo yX8_errorGo, Cond.initialized RX8, Cond.code yX8_errorGo cX8_errorGo 2 (some .int), Cond.methodLink RX8 114 yX8_isRim, Cond.static yX8_isRim, Cond.code yX8_isRim cX8_isRim 1 (some .boolean), Cond.methodLink RX8 47 yX8_in, Cond.static yX8_in, Cond.code yX8_in cX8_in 3 (some .boolean), Cond.methodLink RX8 99 yX8_isBlocked, Cond.instanceMethod yX8_isBlocked, Cond.selects RX8 yX8_isBlocked yX8_isBlocked, Cond.code yX8_isBlocked cX8_isBlocked 2 (some .boolean), Cond.methodLink RX8 55 yX8_rimCell, Cond.static yX8_rimCell, Cond.code yX8_rimCell cX8_rimCell 1 (some .int), Cond.methodLink RX8 72 yX8_grainAt, Cond.instanceMethod yX8_grainAt, Cond.selects RX8 yX8_grainAt yX8_grainAt, Cond.code yX8_grainAt cX8_grainAt 4 (some .int)]
def wsX8_doesDeed_r2 : List Cond := [Cond.fieldLink RX8 7 "RimGrainsModel" "s" "[I", Cond.methodLink RX8 58 yX8_of, Cond.instanceMethod yX8_of, Cond.selects RX8 yX8_of yX8_of, Cond.code yX8_of cX8_of 3 (some .int), Cond.methodLink RX8 129 yX8_errorBreak, Cond.instanceMethod yX8_errorBreak, Cond.selects RX8 yX8_errorBreak yX8_errorBreak, Cond.code yX8_errorBreak cX8_errorBreak 2 (some .int), Cond.methodLink RX8 117 yX8_isGrain, Cond.instanceMethod yX8_isGrain, Cond.selects RX8 yX8_isGrain yX8_isGrain, Cond.code yX8_isGrain cX8_isGrain 2 (some .boolean), Cond.methodLink RX8 105 yX8_holder, Cond.instanceMethod yX8_holder, Cond.selects RX8 yX8_holder yX8_holder, Cond.code yX8_holder cX8_holder 2 (some .int), Cond.methodLink RX8 102 yX8_goGrain, Cond.instanceMethod yX8_goGrain, Cond.selects RX8 yX8_goGrain yX8_goGrain, Cond.code yX8_goGrain cX8_goGrain 3 (some .int), Cond.fieldLink RX8 81 "RimGrainsModel" "steps" "I", Cond.fieldLink RX8 78 "RimGrainsModel" "walker" "I", Cond.methodLink RX8 95 yX8_walks]
def wsX8_doesDeed_r3 : List Cond := [Cond.instanceMethod yX8_walks, Cond.selects RX8 yX8_walks yX8_walks, Cond.code yX8_walks cX8_walks 4 (some .boolean), Cond.fieldLink RX8 75 "RimGrainsModel" "lots" "I", Cond.methodLink RX8 84 yX8_grainBeside, Cond.instanceMethod yX8_grainBeside, Cond.selects RX8 yX8_grainBeside yX8_grainBeside, Cond.code yX8_grainBeside cX8_grainBeside 6 (some .int), Cond.methodLink RX8 69 yX8_beside, Cond.static yX8_beside, Cond.code yX8_beside cX8_beside 4 (some .int), Cond.methodLink RX8 87 yX8_draws, Cond.instanceMethod yX8_draws, Cond.selects RX8 yX8_draws yX8_draws, Cond.code yX8_draws cX8_draws 1 (some .int), Cond.methodLink RX8 91 yX8_makesStep, Cond.instanceMethod yX8_makesStep, Cond.selects RX8 yX8_makesStep yX8_makesStep, Cond.code yX8_makesStep cX8_makesStep 3 (some .boolean), Cond.methodLink RX8 65 yX8_adds, Cond.instanceMethod yX8_adds, Cond.selects RX8 yX8_adds yX8_adds, Cond.code yX8_adds cX8_adds 5 none, Cond.methodLink RX8 132 yX8_goBreak]
def wsX8_doesDeed_r4 : List Cond := [Cond.instanceMethod yX8_goBreak, Cond.selects RX8 yX8_goBreak yX8_goBreak, Cond.code yX8_goBreak cX8_goBreak 3 (some .int), Cond.fieldLink RX8 25 "RimGrainsModel" "goes" "[Z", Cond.methodLink RX8 108 yX8_takesAway, Cond.instanceMethod yX8_takesAway, Cond.selects RX8 yX8_takesAway yX8_takesAway, Cond.code yX8_takesAway cX8_takesAway 7 (some .int), Cond.fieldLink RX8 29 "RimGrainsModel" "becomes" "[I", Cond.methodLink RX8 135 yX8_goWash, Cond.instanceMethod yX8_goWash, Cond.selects RX8 yX8_goWash yX8_goWash, Cond.code yX8_goWash cX8_goWash 2 (some .int), Cond.methodLink RX8 111 yX8_children, Cond.instanceMethod yX8_children, Cond.selects RX8 yX8_children yX8_children, Cond.code yX8_children cX8_children 4 (some .int)]
def wsX8_doesDeed : List Cond := .code yX8_doesDeed cX8_doesDeed 3 (some .int) :: ((wsX8_doesDeed_r1 ++ (wsX8_doesDeed_r2 ++ (wsX8_doesDeed_r3 ++ wsX8_doesDeed_r4))) ++ wsX80)
def wsX8_carryOut_r1 : List Cond := [Cond.fieldLink RX8 147 "RimGrainsModel" "spot" "I", Cond.fieldLink RX8 176 "RimGrainsModel" "whyError" "I", Cond.fieldLink RX8 144 "RimGrainsModel" "length" "I", Cond.fieldLink RX8 179 "RimGrainsModel" "whySpot" "I", Cond.fieldLink RX8 182 "RimGrainsModel" "whyNumber" "I", Cond.methodLink RX8 173 yX8_isText, Cond.instanceMethod yX8_isText, Cond.selects RX8 yX8_isText yX8_isText, Cond.initialized RX8, Cond.code yX8_isText cX8_isText 1 (some .boolean), Cond.fieldLink RX8 150 "RimGrainsModel" "isForm" "Z", Cond.methodLink RX8 170 yX8_takesDeed, Cond.instanceMethod yX8_takesDeed, Cond.selects RX8 yX8_takesDeed yX8_takesDeed, Cond.code yX8_takesDeed cX8_takesDeed 1 none, Cond.fieldLink RX8 164 "RimGrainsModel" "letter" "I", Cond.methodLink RX8 154 yX8_here, Cond.instanceMethod yX8_here, Cond.selects RX8 yX8_here yX8_here, Cond.code yX8_here cX8_here 1 (some .int), Cond.fieldLink RX8 22 "RimGrainsModel" "pad" "[I", Cond.methodLink RX8 160 yX8_takes, Cond.instanceMethod yX8_takes, Cond.selects RX8 yX8_takes yX8_takes]
def wsX8_carryOut_r2 : List Cond := [Cond.code yX8_takes cX8_takes 2 none, Cond.methodLink RX8 167 yX8_takesNumber, Cond.instanceMethod yX8_takesNumber, Cond.selects RX8 yX8_takesNumber yX8_takesNumber, Cond.code yX8_takesNumber cX8_takesNumber 2 none, Cond.fieldLink RX8 157 "RimGrainsModel" "told" "I", Cond.methodLink RX8 47 yX8_in, Cond.static yX8_in, Cond.code yX8_in cX8_in 3 (some .boolean), Cond.methodLink RX8 120 yX8_records, Cond.instanceMethod yX8_records, Cond.selects RX8 yX8_records yX8_records, Cond.code yX8_records cX8_records 2 none, Cond.fieldLink RX8 39 "RimGrainsModel" "known" "I", Cond.fieldLink RX8 16 "RimGrainsModel" "past" "[I", Cond.fieldLink RX8 7 "RimGrainsModel" "s" "[I", Cond.methodLink RX8 43 yX8_copies, Cond.static yX8_copies, Cond.code yX8_copies cX8_copies 5 none, Cond.methodLink RX8 185 yX8_doesDeed, Cond.instanceMethod yX8_doesDeed, Cond.selects RX8 yX8_doesDeed yX8_doesDeed, Cond.code yX8_doesDeed cX8_doesDeed 3 (some .int), Cond.methodLink RX8 123 yX8_errorGo]
def wsX8_carryOut_r3 : List Cond := [Cond.instanceMethod yX8_errorGo, Cond.selects RX8 yX8_errorGo yX8_errorGo, Cond.code yX8_errorGo cX8_errorGo 2 (some .int), Cond.methodLink RX8 114 yX8_isRim, Cond.static yX8_isRim, Cond.code yX8_isRim cX8_isRim 1 (some .boolean), Cond.methodLink RX8 99 yX8_isBlocked, Cond.instanceMethod yX8_isBlocked, Cond.selects RX8 yX8_isBlocked yX8_isBlocked, Cond.code yX8_isBlocked cX8_isBlocked 2 (some .boolean), Cond.methodLink RX8 55 yX8_rimCell, Cond.static yX8_rimCell, Cond.code yX8_rimCell cX8_rimCell 1 (some .int), Cond.methodLink RX8 72 yX8_grainAt, Cond.instanceMethod yX8_grainAt, Cond.selects RX8 yX8_grainAt yX8_grainAt, Cond.code yX8_grainAt cX8_grainAt 4 (some .int), Cond.methodLink RX8 58 yX8_of, Cond.instanceMethod yX8_of, Cond.selects RX8 yX8_of yX8_of, Cond.code yX8_of cX8_of 3 (some .int), Cond.methodLink RX8 129 yX8_errorBreak, Cond.instanceMethod yX8_errorBreak, Cond.selects RX8 yX8_errorBreak yX8_errorBreak]
def wsX8_carryOut_r4 : List Cond := [Cond.code yX8_errorBreak cX8_errorBreak 2 (some .int), Cond.methodLink RX8 117 yX8_isGrain, Cond.instanceMethod yX8_isGrain, Cond.selects RX8 yX8_isGrain yX8_isGrain, Cond.code yX8_isGrain cX8_isGrain 2 (some .boolean), Cond.methodLink RX8 105 yX8_holder, Cond.instanceMethod yX8_holder, Cond.selects RX8 yX8_holder yX8_holder, Cond.code yX8_holder cX8_holder 2 (some .int), Cond.methodLink RX8 102 yX8_goGrain, Cond.instanceMethod yX8_goGrain, Cond.selects RX8 yX8_goGrain yX8_goGrain, Cond.code yX8_goGrain cX8_goGrain 3 (some .int), Cond.fieldLink RX8 81 "RimGrainsModel" "steps" "I", Cond.fieldLink RX8 78 "RimGrainsModel" "walker" "I", Cond.methodLink RX8 95 yX8_walks, Cond.instanceMethod yX8_walks, Cond.selects RX8 yX8_walks yX8_walks, Cond.code yX8_walks cX8_walks 4 (some .boolean), Cond.fieldLink RX8 75 "RimGrainsModel" "lots" "I", Cond.methodLink RX8 84 yX8_grainBeside, Cond.instanceMethod yX8_grainBeside, Cond.selects RX8 yX8_grainBeside yX8_grainBeside, Cond.code yX8_grainBeside cX8_grainBeside 6 (some .int)]
def wsX8_carryOut_r5 : List Cond := [Cond.methodLink RX8 69 yX8_beside, Cond.static yX8_beside, Cond.code yX8_beside cX8_beside 4 (some .int), Cond.methodLink RX8 87 yX8_draws, Cond.instanceMethod yX8_draws, Cond.selects RX8 yX8_draws yX8_draws, Cond.code yX8_draws cX8_draws 1 (some .int), Cond.methodLink RX8 91 yX8_makesStep, Cond.instanceMethod yX8_makesStep, Cond.selects RX8 yX8_makesStep yX8_makesStep, Cond.code yX8_makesStep cX8_makesStep 3 (some .boolean), Cond.methodLink RX8 65 yX8_adds, Cond.instanceMethod yX8_adds, Cond.selects RX8 yX8_adds yX8_adds, Cond.code yX8_adds cX8_adds 5 none, Cond.methodLink RX8 132 yX8_goBreak, Cond.instanceMethod yX8_goBreak, Cond.selects RX8 yX8_goBreak yX8_goBreak, Cond.code yX8_goBreak cX8_goBreak 3 (some .int), Cond.fieldLink RX8 25 "RimGrainsModel" "goes" "[Z", Cond.methodLink RX8 108 yX8_takesAway, Cond.instanceMethod yX8_takesAway, Cond.selects RX8 yX8_takesAway yX8_takesAway, Cond.code yX8_takesAway cX8_takesAway 7 (some .int)]
def wsX8_carryOut_r6 : List Cond := [Cond.fieldLink RX8 29 "RimGrainsModel" "becomes" "[I", Cond.methodLink RX8 135 yX8_goWash, Cond.instanceMethod yX8_goWash, Cond.selects RX8 yX8_goWash yX8_goWash, Cond.code yX8_goWash cX8_goWash 2 (some .int), Cond.methodLink RX8 111 yX8_children, Cond.instanceMethod yX8_children, Cond.selects RX8 yX8_children yX8_children, Cond.code yX8_children cX8_children 4 (some .int)]
def wsX8_carryOut : List Cond := .code yX8_carryOut cX8_carryOut 2 (some .int) :: ((wsX8_carryOut_r1 ++ (wsX8_carryOut_r2 ++ (wsX8_carryOut_r3 ++ (wsX8_carryOut_r4 ++ (wsX8_carryOut_r5 ++ wsX8_carryOut_r6))))) ++ wsX80)
def wsX8_why : List Cond := .code yX8_why cX8_why 2 (some .int) :: ([.fieldLink RX8 176 "RimGrainsModel" "whyError" "I", .fieldLink RX8 182 "RimGrainsModel" "whyNumber" "I", .fieldLink RX8 179 "RimGrainsModel" "whySpot" "I", .methodLink RX8 47 yX8_in, .static yX8_in, .initialized RX8, .code yX8_in cX8_in 3 (some .boolean)] ++ wsX80)
def wsX8_cell_r1 : List Cond := [Cond.methodLink RX8 188 yX8_isCell, Cond.static yX8_isCell, Cond.initialized RX8, Cond.code yX8_isCell cX8_isCell 1 (some .boolean), Cond.methodLink RX8 47 yX8_in, Cond.static yX8_in, Cond.code yX8_in cX8_in 3 (some .boolean), Cond.methodLink RX8 72 yX8_grainAt, Cond.instanceMethod yX8_grainAt, Cond.selects RX8 yX8_grainAt yX8_grainAt, Cond.code yX8_grainAt cX8_grainAt 4 (some .int), Cond.fieldLink RX8 7 "RimGrainsModel" "s" "[I", Cond.methodLink RX8 58 yX8_of, Cond.instanceMethod yX8_of, Cond.selects RX8 yX8_of yX8_of, Cond.code yX8_of cX8_of 3 (some .int), Cond.methodLink RX8 62 yX8_ringOf, Cond.static yX8_ringOf, Cond.code yX8_ringOf cX8_ringOf 3 (some .int), Cond.methodLink RX8 51 yX8_size, Cond.static yX8_size, Cond.code yX8_size cX8_size 1 (some .int), Cond.methodLink RX8 191 yX8_besides, Cond.instanceMethod yX8_besides]
def wsX8_cell_r2 : List Cond := [Cond.selects RX8 yX8_besides yX8_besides, Cond.code yX8_besides cX8_besides 5 (some .int), Cond.methodLink RX8 69 yX8_beside, Cond.static yX8_beside, Cond.code yX8_beside cX8_beside 4 (some .int), Cond.methodLink RX8 194 yX8_rimOf, Cond.static yX8_rimOf, Cond.code yX8_rimOf cX8_rimOf 3 (some .int), Cond.methodLink RX8 55 yX8_rimCell, Cond.static yX8_rimCell, Cond.code yX8_rimCell cX8_rimCell 1 (some .int)]
def wsX8_cell : List Cond := .code yX8_cell cX8_cell 3 (some .int) :: ((wsX8_cell_r1 ++ wsX8_cell_r2) ++ wsX80)
def wsX8_depthOf : List Cond := .code yX8_depthOf cX8_depthOf 4 (some .int) :: ([.methodLink RX8 105 yX8_holder, .instanceMethod yX8_holder, .selects RX8 yX8_holder yX8_holder, .initialized RX8, .code yX8_holder cX8_holder 2 (some .int), .methodLink RX8 58 yX8_of, .instanceMethod yX8_of, .selects RX8 yX8_of yX8_of, .code yX8_of cX8_of 3 (some .int), .fieldLink RX8 7 "RimGrainsModel" "s" "[I"] ++ wsX80)
def wsX8_rootOf : List Cond := .code yX8_rootOf cX8_rootOf 3 (some .int) :: ([.methodLink RX8 105 yX8_holder, .instanceMethod yX8_holder, .selects RX8 yX8_holder yX8_holder, .initialized RX8, .code yX8_holder cX8_holder 2 (some .int), .methodLink RX8 58 yX8_of, .instanceMethod yX8_of, .selects RX8 yX8_of yX8_of, .code yX8_of cX8_of 3 (some .int), .fieldLink RX8 7 "RimGrainsModel" "s" "[I"] ++ wsX80)
def wsX8_isIn : List Cond := .code yX8_isIn cX8_isIn 4 (some .boolean) :: ([.methodLink RX8 105 yX8_holder, .instanceMethod yX8_holder, .selects RX8 yX8_holder yX8_holder, .initialized RX8, .code yX8_holder cX8_holder 2 (some .int), .methodLink RX8 58 yX8_of, .instanceMethod yX8_of, .selects RX8 yX8_of yX8_of, .code yX8_of cX8_of 3 (some .int), .fieldLink RX8 7 "RimGrainsModel" "s" "[I"] ++ wsX80)
def wsX8_treeOf : List Cond := .code yX8_treeOf cX8_treeOf 4 (some .int) :: ([.fieldLink RX8 7 "RimGrainsModel" "s" "[I", .methodLink RX8 197 yX8_isIn, .instanceMethod yX8_isIn, .selects RX8 yX8_isIn yX8_isIn, .initialized RX8, .code yX8_isIn cX8_isIn 4 (some .boolean), .methodLink RX8 105 yX8_holder, .instanceMethod yX8_holder, .selects RX8 yX8_holder yX8_holder, .code yX8_holder cX8_holder 2 (some .int), .methodLink RX8 58 yX8_of, .instanceMethod yX8_of, .selects RX8 yX8_of yX8_of, .code yX8_of cX8_of 3 (some .int)] ++ wsX80)
def wsX8_highOf : List Cond := .code yX8_highOf cX8_highOf 5 (some .int) :: ([.fieldLink RX8 7 "RimGrainsModel" "s" "[I", .methodLink RX8 197 yX8_isIn, .instanceMethod yX8_isIn, .selects RX8 yX8_isIn yX8_isIn, .initialized RX8, .code yX8_isIn cX8_isIn 4 (some .boolean), .methodLink RX8 105 yX8_holder, .instanceMethod yX8_holder, .selects RX8 yX8_holder yX8_holder, .code yX8_holder cX8_holder 2 (some .int), .methodLink RX8 58 yX8_of, .instanceMethod yX8_of, .selects RX8 yX8_of yX8_of, .code yX8_of cX8_of 3 (some .int), .methodLink RX8 201 yX8_depthOf, .instanceMethod yX8_depthOf, .selects RX8 yX8_depthOf yX8_depthOf, .code yX8_depthOf cX8_depthOf 4 (some .int)] ++ wsX80)
def wsX8_lookingFrom : List Cond := .code yX8_lookingFrom cX8_lookingFrom 1 (some .int) :: ([])
def wsX8_screening : List Cond := .code yX8_screening cX8_screening 3 (some .int) :: ([.methodLink RX8 55 yX8_rimCell, .static yX8_rimCell, .initialized RX8, .code yX8_rimCell cX8_rimCell 1 (some .int), .methodLink RX8 72 yX8_grainAt, .instanceMethod yX8_grainAt, .selects RX8 yX8_grainAt yX8_grainAt, .code yX8_grainAt cX8_grainAt 4 (some .int), .fieldLink RX8 7 "RimGrainsModel" "s" "[I", .methodLink RX8 58 yX8_of, .instanceMethod yX8_of, .selects RX8 yX8_of yX8_of, .code yX8_of cX8_of 3 (some .int), .methodLink RX8 204 yX8_lookingFrom, .static yX8_lookingFrom, .code yX8_lookingFrom cX8_lookingFrom 1 (some .int), .methodLink RX8 69 yX8_beside, .static yX8_beside, .code yX8_beside cX8_beside 4 (some .int), .methodLink RX8 47 yX8_in, .static yX8_in, .code yX8_in cX8_in 3 (some .boolean)] ++ wsX80)
def wsX8_catchOf_r1 : List Cond := [Cond.methodLink RX8 207 yX8_screening, Cond.instanceMethod yX8_screening, Cond.selects RX8 yX8_screening yX8_screening, Cond.initialized RX8, Cond.code yX8_screening cX8_screening 3 (some .int), Cond.methodLink RX8 55 yX8_rimCell, Cond.static yX8_rimCell, Cond.code yX8_rimCell cX8_rimCell 1 (some .int), Cond.methodLink RX8 72 yX8_grainAt, Cond.instanceMethod yX8_grainAt, Cond.selects RX8 yX8_grainAt yX8_grainAt, Cond.code yX8_grainAt cX8_grainAt 4 (some .int), Cond.fieldLink RX8 7 "RimGrainsModel" "s" "[I", Cond.methodLink RX8 58 yX8_of, Cond.instanceMethod yX8_of, Cond.selects RX8 yX8_of yX8_of, Cond.code yX8_of cX8_of 3 (some .int), Cond.methodLink RX8 204 yX8_lookingFrom, Cond.static yX8_lookingFrom, Cond.code yX8_lookingFrom cX8_lookingFrom 1 (some .int), Cond.methodLink RX8 69 yX8_beside, Cond.static yX8_beside, Cond.code yX8_beside cX8_beside 4 (some .int), Cond.methodLink RX8 47 yX8_in]
def wsX8_catchOf_r2 : List Cond := [Cond.static yX8_in, Cond.code yX8_in cX8_in 3 (some .boolean)]
def wsX8_catchOf : List Cond := .code yX8_catchOf cX8_catchOf 4 (some .int) :: ((wsX8_catchOf_r1 ++ wsX8_catchOf_r2) ++ wsX80)
def wsX8_grain_r1 : List Cond := [Cond.methodLink RX8 117 yX8_isGrain, Cond.instanceMethod yX8_isGrain, Cond.selects RX8 yX8_isGrain yX8_isGrain, Cond.initialized RX8, Cond.code yX8_isGrain cX8_isGrain 2 (some .boolean), Cond.fieldLink RX8 7 "RimGrainsModel" "s" "[I", Cond.methodLink RX8 47 yX8_in, Cond.static yX8_in, Cond.code yX8_in cX8_in 3 (some .boolean), Cond.methodLink RX8 58 yX8_of, Cond.instanceMethod yX8_of, Cond.selects RX8 yX8_of yX8_of, Cond.code yX8_of cX8_of 3 (some .int), Cond.methodLink RX8 105 yX8_holder, Cond.instanceMethod yX8_holder, Cond.selects RX8 yX8_holder yX8_holder, Cond.code yX8_holder cX8_holder 2 (some .int), Cond.methodLink RX8 201 yX8_depthOf, Cond.instanceMethod yX8_depthOf, Cond.selects RX8 yX8_depthOf yX8_depthOf, Cond.code yX8_depthOf cX8_depthOf 4 (some .int), Cond.methodLink RX8 111 yX8_children, Cond.instanceMethod yX8_children, Cond.selects RX8 yX8_children yX8_children]
def wsX8_grain_r2 : List Cond := [Cond.code yX8_children cX8_children 4 (some .int), Cond.methodLink RX8 210 yX8_treeOf, Cond.instanceMethod yX8_treeOf, Cond.selects RX8 yX8_treeOf yX8_treeOf, Cond.code yX8_treeOf cX8_treeOf 4 (some .int), Cond.methodLink RX8 197 yX8_isIn, Cond.instanceMethod yX8_isIn, Cond.selects RX8 yX8_isIn yX8_isIn, Cond.code yX8_isIn cX8_isIn 4 (some .boolean), Cond.methodLink RX8 213 yX8_highOf, Cond.instanceMethod yX8_highOf, Cond.selects RX8 yX8_highOf yX8_highOf, Cond.code yX8_highOf cX8_highOf 5 (some .int), Cond.methodLink RX8 216 yX8_catchOf, Cond.instanceMethod yX8_catchOf, Cond.selects RX8 yX8_catchOf yX8_catchOf, Cond.code yX8_catchOf cX8_catchOf 4 (some .int), Cond.methodLink RX8 207 yX8_screening, Cond.instanceMethod yX8_screening, Cond.selects RX8 yX8_screening yX8_screening, Cond.code yX8_screening cX8_screening 3 (some .int), Cond.methodLink RX8 55 yX8_rimCell, Cond.static yX8_rimCell, Cond.code yX8_rimCell cX8_rimCell 1 (some .int)]
def wsX8_grain_r3 : List Cond := [Cond.methodLink RX8 72 yX8_grainAt, Cond.instanceMethod yX8_grainAt, Cond.selects RX8 yX8_grainAt yX8_grainAt, Cond.code yX8_grainAt cX8_grainAt 4 (some .int), Cond.methodLink RX8 204 yX8_lookingFrom, Cond.static yX8_lookingFrom, Cond.code yX8_lookingFrom cX8_lookingFrom 1 (some .int), Cond.methodLink RX8 69 yX8_beside, Cond.static yX8_beside, Cond.code yX8_beside cX8_beside 4 (some .int), Cond.methodLink RX8 219 yX8_rootOf, Cond.instanceMethod yX8_rootOf, Cond.selects RX8 yX8_rootOf yX8_rootOf, Cond.code yX8_rootOf cX8_rootOf 3 (some .int)]
def wsX8_grain : List Cond := .code yX8_grain cX8_grain 3 (some .int) :: ((wsX8_grain_r1 ++ (wsX8_grain_r2 ++ wsX8_grain_r3)) ++ wsX80)
def wsX8_screens_r1 : List Cond := [Cond.methodLink RX8 114 yX8_isRim, Cond.static yX8_isRim, Cond.initialized RX8, Cond.code yX8_isRim cX8_isRim 1 (some .boolean), Cond.methodLink RX8 47 yX8_in, Cond.static yX8_in, Cond.code yX8_in cX8_in 3 (some .boolean), Cond.methodLink RX8 207 yX8_screening, Cond.instanceMethod yX8_screening, Cond.selects RX8 yX8_screening yX8_screening, Cond.code yX8_screening cX8_screening 3 (some .int), Cond.methodLink RX8 55 yX8_rimCell, Cond.static yX8_rimCell, Cond.code yX8_rimCell cX8_rimCell 1 (some .int), Cond.methodLink RX8 72 yX8_grainAt, Cond.instanceMethod yX8_grainAt, Cond.selects RX8 yX8_grainAt yX8_grainAt, Cond.code yX8_grainAt cX8_grainAt 4 (some .int), Cond.fieldLink RX8 7 "RimGrainsModel" "s" "[I", Cond.methodLink RX8 58 yX8_of, Cond.instanceMethod yX8_of, Cond.selects RX8 yX8_of yX8_of, Cond.code yX8_of cX8_of 3 (some .int), Cond.methodLink RX8 204 yX8_lookingFrom]
def wsX8_screens_r2 : List Cond := [Cond.static yX8_lookingFrom, Cond.code yX8_lookingFrom cX8_lookingFrom 1 (some .int), Cond.methodLink RX8 69 yX8_beside, Cond.static yX8_beside, Cond.code yX8_beside cX8_beside 4 (some .int)]
def wsX8_screens : List Cond := .code yX8_screens cX8_screens 2 (some .int) :: ((wsX8_screens_r1 ++ wsX8_screens_r2) ++ wsX80)
def wsX8_ring : List Cond := .code yX8_ring cX8_ring 4 (some .int) :: ([.fieldLink RX8 7 "RimGrainsModel" "s" "[I", .methodLink RX8 47 yX8_in, .static yX8_in, .initialized RX8, .code yX8_in cX8_in 3 (some .boolean), .methodLink RX8 58 yX8_of, .instanceMethod yX8_of, .selects RX8 yX8_of yX8_of, .code yX8_of cX8_of 3 (some .int), .methodLink RX8 62 yX8_ringOf, .static yX8_ringOf, .code yX8_ringOf cX8_ringOf 3 (some .int), .methodLink RX8 51 yX8_size, .static yX8_size, .code yX8_size cX8_size 1 (some .int)] ++ wsX80)
def wsX8_apart : List Cond := .code yX8_apart cX8_apart 6 (some .int) :: ([.methodLink RX8 117 yX8_isGrain, .instanceMethod yX8_isGrain, .selects RX8 yX8_isGrain yX8_isGrain, .initialized RX8, .code yX8_isGrain cX8_isGrain 2 (some .boolean), .fieldLink RX8 7 "RimGrainsModel" "s" "[I", .methodLink RX8 47 yX8_in, .static yX8_in, .code yX8_in cX8_in 3 (some .boolean), .methodLink RX8 105 yX8_holder, .instanceMethod yX8_holder, .selects RX8 yX8_holder yX8_holder, .code yX8_holder cX8_holder 2 (some .int), .methodLink RX8 58 yX8_of, .instanceMethod yX8_of, .selects RX8 yX8_of yX8_of, .code yX8_of cX8_of 3 (some .int)] ++ wsX80)
def wsX8_longest : List Cond := .code yX8_longest cX8_longest 6 (some .int) :: ([.fieldLink RX8 7 "RimGrainsModel" "s" "[I", .fieldLink RX8 32 "RimGrainsModel" "highest" "[I", .methodLink RX8 47 yX8_in, .static yX8_in, .initialized RX8, .code yX8_in cX8_in 3 (some .boolean), .methodLink RX8 105 yX8_holder, .instanceMethod yX8_holder, .selects RX8 yX8_holder yX8_holder, .code yX8_holder cX8_holder 2 (some .int), .methodLink RX8 58 yX8_of, .instanceMethod yX8_of, .selects RX8 yX8_of yX8_of, .code yX8_of cX8_of 3 (some .int)] ++ wsX80)
def wsX8_reachOf : List Cond := .code yX8_reachOf cX8_reachOf 3 (some .int) :: ([.fieldLink RX8 7 "RimGrainsModel" "s" "[I", .methodLink RX8 58 yX8_of, .instanceMethod yX8_of, .selects RX8 yX8_of yX8_of, .initialized RX8, .code yX8_of cX8_of 3 (some .int), .methodLink RX8 62 yX8_ringOf, .static yX8_ringOf, .code yX8_ringOf cX8_ringOf 3 (some .int), .methodLink RX8 51 yX8_size, .static yX8_size, .code yX8_size cX8_size 1 (some .int)] ++ wsX80)
def wsX8_deepest : List Cond := .code yX8_deepest cX8_deepest 3 (some .int) :: ([.fieldLink RX8 7 "RimGrainsModel" "s" "[I", .methodLink RX8 201 yX8_depthOf, .instanceMethod yX8_depthOf, .selects RX8 yX8_depthOf yX8_depthOf, .initialized RX8, .code yX8_depthOf cX8_depthOf 4 (some .int), .methodLink RX8 105 yX8_holder, .instanceMethod yX8_holder, .selects RX8 yX8_holder yX8_holder, .code yX8_holder cX8_holder 2 (some .int), .methodLink RX8 58 yX8_of, .instanceMethod yX8_of, .selects RX8 yX8_of yX8_of, .code yX8_of cX8_of 3 (some .int)] ++ wsX80)
def wsX8_ofKind : List Cond := .code yX8_ofKind cX8_ofKind 5 (some .int) :: ([.fieldLink RX8 7 "RimGrainsModel" "s" "[I", .methodLink RX8 105 yX8_holder, .instanceMethod yX8_holder, .selects RX8 yX8_holder yX8_holder, .initialized RX8, .code yX8_holder cX8_holder 2 (some .int), .methodLink RX8 58 yX8_of, .instanceMethod yX8_of, .selects RX8 yX8_of yX8_of, .code yX8_of cX8_of 3 (some .int), .methodLink RX8 111 yX8_children, .instanceMethod yX8_children, .selects RX8 yX8_children yX8_children, .code yX8_children cX8_children 4 (some .int)] ++ wsX80)
def wsX8_shore : List Cond := .code yX8_shore cX8_shore 3 (some .int) :: ([.methodLink RX8 72 yX8_grainAt, .instanceMethod yX8_grainAt, .selects RX8 yX8_grainAt yX8_grainAt, .initialized RX8, .code yX8_grainAt cX8_grainAt 4 (some .int), .fieldLink RX8 7 "RimGrainsModel" "s" "[I", .methodLink RX8 58 yX8_of, .instanceMethod yX8_of, .selects RX8 yX8_of yX8_of, .code yX8_of cX8_of 3 (some .int), .methodLink RX8 191 yX8_besides, .instanceMethod yX8_besides, .selects RX8 yX8_besides yX8_besides, .code yX8_besides cX8_besides 5 (some .int), .methodLink RX8 69 yX8_beside, .static yX8_beside, .code yX8_beside cX8_beside 4 (some .int), .methodLink RX8 47 yX8_in, .static yX8_in, .code yX8_in cX8_in 3 (some .boolean)] ++ wsX80)
def wsX8_bestCatch_r1 : List Cond := [Cond.fieldLink RX8 7 "RimGrainsModel" "s" "[I", Cond.methodLink RX8 216 yX8_catchOf, Cond.instanceMethod yX8_catchOf, Cond.selects RX8 yX8_catchOf yX8_catchOf, Cond.initialized RX8, Cond.code yX8_catchOf cX8_catchOf 4 (some .int), Cond.methodLink RX8 207 yX8_screening, Cond.instanceMethod yX8_screening, Cond.selects RX8 yX8_screening yX8_screening, Cond.code yX8_screening cX8_screening 3 (some .int), Cond.methodLink RX8 55 yX8_rimCell, Cond.static yX8_rimCell, Cond.code yX8_rimCell cX8_rimCell 1 (some .int), Cond.methodLink RX8 72 yX8_grainAt, Cond.instanceMethod yX8_grainAt, Cond.selects RX8 yX8_grainAt yX8_grainAt, Cond.code yX8_grainAt cX8_grainAt 4 (some .int), Cond.methodLink RX8 58 yX8_of, Cond.instanceMethod yX8_of, Cond.selects RX8 yX8_of yX8_of, Cond.code yX8_of cX8_of 3 (some .int), Cond.methodLink RX8 204 yX8_lookingFrom, Cond.static yX8_lookingFrom, Cond.code yX8_lookingFrom cX8_lookingFrom 1 (some .int)]
def wsX8_bestCatch_r2 : List Cond := [Cond.methodLink RX8 69 yX8_beside, Cond.static yX8_beside, Cond.code yX8_beside cX8_beside 4 (some .int), Cond.methodLink RX8 47 yX8_in, Cond.static yX8_in, Cond.code yX8_in cX8_in 3 (some .boolean)]
def wsX8_bestCatch : List Cond := .code yX8_bestCatch cX8_bestCatch 3 (some .int) :: ((wsX8_bestCatch_r1 ++ wsX8_bestCatch_r2) ++ wsX80)
def wsX8_count_r1 : List Cond := [Cond.fieldLink RX8 7 "RimGrainsModel" "s" "[I", Cond.fieldLink RX8 144 "RimGrainsModel" "length" "I", Cond.fieldLink RX8 39 "RimGrainsModel" "known" "I", Cond.methodLink RX8 222 yX8_ofKind, Cond.instanceMethod yX8_ofKind, Cond.selects RX8 yX8_ofKind yX8_ofKind, Cond.initialized RX8, Cond.code yX8_ofKind cX8_ofKind 5 (some .int), Cond.methodLink RX8 105 yX8_holder, Cond.instanceMethod yX8_holder, Cond.selects RX8 yX8_holder yX8_holder, Cond.code yX8_holder cX8_holder 2 (some .int), Cond.methodLink RX8 58 yX8_of, Cond.instanceMethod yX8_of, Cond.selects RX8 yX8_of yX8_of, Cond.code yX8_of cX8_of 3 (some .int), Cond.methodLink RX8 111 yX8_children, Cond.instanceMethod yX8_children, Cond.selects RX8 yX8_children yX8_children, Cond.code yX8_children cX8_children 4 (some .int), Cond.methodLink RX8 225 yX8_deepest, Cond.instanceMethod yX8_deepest, Cond.selects RX8 yX8_deepest yX8_deepest, Cond.code yX8_deepest cX8_deepest 3 (some .int)]
def wsX8_count_r2 : List Cond := [Cond.methodLink RX8 201 yX8_depthOf, Cond.instanceMethod yX8_depthOf, Cond.selects RX8 yX8_depthOf yX8_depthOf, Cond.code yX8_depthOf cX8_depthOf 4 (some .int), Cond.methodLink RX8 228 yX8_reachOf, Cond.instanceMethod yX8_reachOf, Cond.selects RX8 yX8_reachOf yX8_reachOf, Cond.code yX8_reachOf cX8_reachOf 3 (some .int), Cond.methodLink RX8 62 yX8_ringOf, Cond.static yX8_ringOf, Cond.code yX8_ringOf cX8_ringOf 3 (some .int), Cond.methodLink RX8 51 yX8_size, Cond.static yX8_size, Cond.code yX8_size cX8_size 1 (some .int), Cond.methodLink RX8 231 yX8_shore, Cond.instanceMethod yX8_shore, Cond.selects RX8 yX8_shore yX8_shore, Cond.code yX8_shore cX8_shore 3 (some .int), Cond.methodLink RX8 72 yX8_grainAt, Cond.instanceMethod yX8_grainAt, Cond.selects RX8 yX8_grainAt yX8_grainAt, Cond.code yX8_grainAt cX8_grainAt 4 (some .int), Cond.methodLink RX8 191 yX8_besides, Cond.instanceMethod yX8_besides]
def wsX8_count_r3 : List Cond := [Cond.selects RX8 yX8_besides yX8_besides, Cond.code yX8_besides cX8_besides 5 (some .int), Cond.methodLink RX8 69 yX8_beside, Cond.static yX8_beside, Cond.code yX8_beside cX8_beside 4 (some .int), Cond.methodLink RX8 47 yX8_in, Cond.static yX8_in, Cond.code yX8_in cX8_in 3 (some .boolean), Cond.methodLink RX8 234 yX8_bestCatch, Cond.instanceMethod yX8_bestCatch, Cond.selects RX8 yX8_bestCatch yX8_bestCatch, Cond.code yX8_bestCatch cX8_bestCatch 3 (some .int), Cond.methodLink RX8 216 yX8_catchOf, Cond.instanceMethod yX8_catchOf, Cond.selects RX8 yX8_catchOf yX8_catchOf, Cond.code yX8_catchOf cX8_catchOf 4 (some .int), Cond.methodLink RX8 207 yX8_screening, Cond.instanceMethod yX8_screening, Cond.selects RX8 yX8_screening yX8_screening, Cond.code yX8_screening cX8_screening 3 (some .int), Cond.methodLink RX8 55 yX8_rimCell, Cond.static yX8_rimCell, Cond.code yX8_rimCell cX8_rimCell 1 (some .int), Cond.methodLink RX8 204 yX8_lookingFrom]
def wsX8_count_r4 : List Cond := [Cond.static yX8_lookingFrom, Cond.code yX8_lookingFrom cX8_lookingFrom 1 (some .int)]
def wsX8_count : List Cond := .code yX8_count cX8_count 2 (some .int) :: ((wsX8_count_r1 ++ (wsX8_count_r2 ++ (wsX8_count_r3 ++ wsX8_count_r4))) ++ wsX80)
def wsX8_density : List Cond := .code yX8_density cX8_density 2 (some .double) :: ([.fieldLink RX8 7 "RimGrainsModel" "s" "[I", .methodLink RX8 228 yX8_reachOf, .instanceMethod yX8_reachOf, .selects RX8 yX8_reachOf yX8_reachOf, .initialized RX8, .code yX8_reachOf cX8_reachOf 3 (some .int), .methodLink RX8 58 yX8_of, .instanceMethod yX8_of, .selects RX8 yX8_of yX8_of, .code yX8_of cX8_of 3 (some .int), .methodLink RX8 62 yX8_ringOf, .static yX8_ringOf, .code yX8_ringOf cX8_ringOf 3 (some .int), .methodLink RX8 51 yX8_size, .static yX8_size, .code yX8_size cX8_size 1 (some .int)] ++ wsX80)
def wsX8_ifGone_r1 : List Cond := [Cond.fieldLink RX8 7 "RimGrainsModel" "s" "[I", Cond.fieldLink RX8 78 "RimGrainsModel" "walker" "I", Cond.fieldLink RX8 75 "RimGrainsModel" "lots" "I", Cond.fieldLink RX8 81 "RimGrainsModel" "steps" "I", Cond.methodLink RX8 114 yX8_isRim, Cond.static yX8_isRim, Cond.initialized RX8, Cond.code yX8_isRim cX8_isRim 1 (some .boolean), Cond.methodLink RX8 47 yX8_in, Cond.static yX8_in, Cond.code yX8_in cX8_in 3 (some .boolean), Cond.methodLink RX8 99 yX8_isBlocked, Cond.instanceMethod yX8_isBlocked, Cond.selects RX8 yX8_isBlocked yX8_isBlocked, Cond.code yX8_isBlocked cX8_isBlocked 2 (some .boolean), Cond.methodLink RX8 55 yX8_rimCell, Cond.static yX8_rimCell, Cond.code yX8_rimCell cX8_rimCell 1 (some .int), Cond.methodLink RX8 72 yX8_grainAt, Cond.instanceMethod yX8_grainAt, Cond.selects RX8 yX8_grainAt yX8_grainAt, Cond.code yX8_grainAt cX8_grainAt 4 (some .int), Cond.methodLink RX8 58 yX8_of, Cond.instanceMethod yX8_of]
def wsX8_ifGone_r2 : List Cond := [Cond.selects RX8 yX8_of yX8_of, Cond.code yX8_of cX8_of 3 (some .int), Cond.methodLink RX8 95 yX8_walks, Cond.instanceMethod yX8_walks, Cond.selects RX8 yX8_walks yX8_walks, Cond.code yX8_walks cX8_walks 4 (some .boolean), Cond.methodLink RX8 84 yX8_grainBeside, Cond.instanceMethod yX8_grainBeside, Cond.selects RX8 yX8_grainBeside yX8_grainBeside, Cond.code yX8_grainBeside cX8_grainBeside 6 (some .int), Cond.methodLink RX8 69 yX8_beside, Cond.static yX8_beside, Cond.code yX8_beside cX8_beside 4 (some .int), Cond.methodLink RX8 87 yX8_draws, Cond.instanceMethod yX8_draws, Cond.selects RX8 yX8_draws yX8_draws, Cond.code yX8_draws cX8_draws 1 (some .int), Cond.methodLink RX8 91 yX8_makesStep, Cond.instanceMethod yX8_makesStep, Cond.selects RX8 yX8_makesStep yX8_makesStep, Cond.code yX8_makesStep cX8_makesStep 3 (some .boolean)]
def wsX8_ifGone : List Cond := .code yX8_ifGone cX8_ifGone 5 (some .int) :: ((wsX8_ifGone_r1 ++ wsX8_ifGone_r2) ++ wsX80)
def wsX8_unscreened_r1 : List Cond := [Cond.methodLink RX8 207 yX8_screening, Cond.instanceMethod yX8_screening, Cond.selects RX8 yX8_screening yX8_screening, Cond.initialized RX8, Cond.code yX8_screening cX8_screening 3 (some .int), Cond.methodLink RX8 55 yX8_rimCell, Cond.static yX8_rimCell, Cond.code yX8_rimCell cX8_rimCell 1 (some .int), Cond.methodLink RX8 72 yX8_grainAt, Cond.instanceMethod yX8_grainAt, Cond.selects RX8 yX8_grainAt yX8_grainAt, Cond.code yX8_grainAt cX8_grainAt 4 (some .int), Cond.fieldLink RX8 7 "RimGrainsModel" "s" "[I", Cond.methodLink RX8 58 yX8_of, Cond.instanceMethod yX8_of, Cond.selects RX8 yX8_of yX8_of, Cond.code yX8_of cX8_of 3 (some .int), Cond.methodLink RX8 204 yX8_lookingFrom, Cond.static yX8_lookingFrom, Cond.code yX8_lookingFrom cX8_lookingFrom 1 (some .int), Cond.methodLink RX8 69 yX8_beside, Cond.static yX8_beside, Cond.code yX8_beside cX8_beside 4 (some .int), Cond.methodLink RX8 47 yX8_in]
def wsX8_unscreened_r2 : List Cond := [Cond.static yX8_in, Cond.code yX8_in cX8_in 3 (some .boolean)]
def wsX8_unscreened : List Cond := .code yX8_unscreened cX8_unscreened 3 (some .int) :: ((wsX8_unscreened_r1 ++ wsX8_unscreened_r2) ++ wsX80)
def wsX8_ifBroken_r1 : List Cond := [Cond.fieldLink RX8 7 "RimGrainsModel" "s" "[I", Cond.fieldLink RX8 13 "RimGrainsModel" "aside" "[I", Cond.methodLink RX8 117 yX8_isGrain, Cond.instanceMethod yX8_isGrain, Cond.selects RX8 yX8_isGrain yX8_isGrain, Cond.initialized RX8, Cond.code yX8_isGrain cX8_isGrain 2 (some .boolean), Cond.methodLink RX8 47 yX8_in, Cond.static yX8_in, Cond.code yX8_in cX8_in 3 (some .boolean), Cond.methodLink RX8 105 yX8_holder, Cond.instanceMethod yX8_holder, Cond.selects RX8 yX8_holder yX8_holder, Cond.code yX8_holder cX8_holder 2 (some .int), Cond.methodLink RX8 58 yX8_of, Cond.instanceMethod yX8_of, Cond.selects RX8 yX8_of yX8_of, Cond.code yX8_of cX8_of 3 (some .int), Cond.methodLink RX8 43 yX8_copies, Cond.static yX8_copies, Cond.code yX8_copies cX8_copies 5 none, Cond.methodLink RX8 132 yX8_goBreak, Cond.instanceMethod yX8_goBreak, Cond.selects RX8 yX8_goBreak yX8_goBreak]
def wsX8_ifBroken_r2 : List Cond := [Cond.code yX8_goBreak cX8_goBreak 3 (some .int), Cond.fieldLink RX8 25 "RimGrainsModel" "goes" "[Z", Cond.methodLink RX8 108 yX8_takesAway, Cond.instanceMethod yX8_takesAway, Cond.selects RX8 yX8_takesAway yX8_takesAway, Cond.code yX8_takesAway cX8_takesAway 7 (some .int), Cond.fieldLink RX8 29 "RimGrainsModel" "becomes" "[I", Cond.methodLink RX8 65 yX8_adds, Cond.instanceMethod yX8_adds, Cond.selects RX8 yX8_adds yX8_adds, Cond.code yX8_adds cX8_adds 5 none, Cond.methodLink RX8 228 yX8_reachOf, Cond.instanceMethod yX8_reachOf, Cond.selects RX8 yX8_reachOf yX8_reachOf, Cond.code yX8_reachOf cX8_reachOf 3 (some .int), Cond.methodLink RX8 62 yX8_ringOf, Cond.static yX8_ringOf, Cond.code yX8_ringOf cX8_ringOf 3 (some .int), Cond.methodLink RX8 51 yX8_size, Cond.static yX8_size, Cond.code yX8_size cX8_size 1 (some .int), Cond.methodLink RX8 225 yX8_deepest, Cond.instanceMethod yX8_deepest, Cond.selects RX8 yX8_deepest yX8_deepest]
def wsX8_ifBroken_r3 : List Cond := [Cond.code yX8_deepest cX8_deepest 3 (some .int), Cond.methodLink RX8 201 yX8_depthOf, Cond.instanceMethod yX8_depthOf, Cond.selects RX8 yX8_depthOf yX8_depthOf, Cond.code yX8_depthOf cX8_depthOf 4 (some .int), Cond.methodLink RX8 237 yX8_unscreened, Cond.instanceMethod yX8_unscreened, Cond.selects RX8 yX8_unscreened yX8_unscreened, Cond.code yX8_unscreened cX8_unscreened 3 (some .int), Cond.methodLink RX8 207 yX8_screening, Cond.instanceMethod yX8_screening, Cond.selects RX8 yX8_screening yX8_screening, Cond.code yX8_screening cX8_screening 3 (some .int), Cond.methodLink RX8 55 yX8_rimCell, Cond.static yX8_rimCell, Cond.code yX8_rimCell cX8_rimCell 1 (some .int), Cond.methodLink RX8 72 yX8_grainAt, Cond.instanceMethod yX8_grainAt, Cond.selects RX8 yX8_grainAt yX8_grainAt, Cond.code yX8_grainAt cX8_grainAt 4 (some .int), Cond.methodLink RX8 204 yX8_lookingFrom, Cond.static yX8_lookingFrom, Cond.code yX8_lookingFrom cX8_lookingFrom 1 (some .int), Cond.methodLink RX8 69 yX8_beside]
def wsX8_ifBroken_r4 : List Cond := [Cond.static yX8_beside, Cond.code yX8_beside cX8_beside 4 (some .int)]
def wsX8_ifBroken : List Cond := .code yX8_ifBroken cX8_ifBroken 5 (some .int) :: ((wsX8_ifBroken_r1 ++ (wsX8_ifBroken_r2 ++ (wsX8_ifBroken_r3 ++ wsX8_ifBroken_r4))) ++ wsX80)
def wsX8_undo : List Cond := .code yX8_undo cX8_undo 1 (some .int) :: ([.fieldLink RX8 39 "RimGrainsModel" "known" "I", .fieldLink RX8 16 "RimGrainsModel" "past" "[I", .fieldLink RX8 7 "RimGrainsModel" "s" "[I", .methodLink RX8 43 yX8_copies, .static yX8_copies, .initialized RX8, .code yX8_copies cX8_copies 5 none] ++ wsX80)
def wsX8_save : List Cond := .code yX8_save cX8_save 1 (some .int) :: ([.fieldLink RX8 7 "RimGrainsModel" "s" "[I", .fieldLink RX8 19 "RimGrainsModel" "kept" "[I", .fieldLink RX8 240 "RimGrainsModel" "isKept" "Z", .methodLink RX8 43 yX8_copies, .static yX8_copies, .initialized RX8, .code yX8_copies cX8_copies 5 none] ++ wsX80)
def wsX8_restore : List Cond := .code yX8_restore cX8_restore 1 (some .int) :: ([.fieldLink RX8 240 "RimGrainsModel" "isKept" "Z", .fieldLink RX8 19 "RimGrainsModel" "kept" "[I", .fieldLink RX8 7 "RimGrainsModel" "s" "[I", .methodLink RX8 120 yX8_records, .instanceMethod yX8_records, .selects RX8 yX8_records yX8_records, .initialized RX8, .code yX8_records cX8_records 2 none, .fieldLink RX8 39 "RimGrainsModel" "known" "I", .fieldLink RX8 16 "RimGrainsModel" "past" "[I", .methodLink RX8 43 yX8_copies, .static yX8_copies, .code yX8_copies cX8_copies 5 none] ++ wsX80)
def wsJ9_abs_0f7a4 : List Cond := .code yJ9_abs_0f7a4 cJ9_abs_0f7a4 1 (some .int) :: ([])
def wsJ9_max_7cf53 : List Cond := .code yJ9_max_7cf53 cJ9_max_7cf53 2 (some .int) :: ([])
def wsJ9_min_7cf53 : List Cond := .code yJ9_min_7cf53 cJ9_min_7cf53 2 (some .int) :: ([])
def wsL_law_r1 : List Cond := [Cond.classLink RL 7 RX7, Cond.instantiable RX7 14, Cond.initialized RX7, Cond.classLink RL 10 RX8, Cond.instantiable RX8 21, Cond.initialized RX8, Cond.methodLink RL 9 yX7_init, Cond.instanceMethod yX7_init, Cond.code yX7_init cX7_init 2 none, Cond.methodLink RX7 3 objectInit, Cond.instanceMethod objectInit, Cond.code objectInit ⟨#[0xb1]⟩ 1 none, Cond.classLink RX7 9 RX4, Cond.instantiable RX4 11, Cond.initialized RX4, Cond.fieldLink RX7 12 "RimGrains" "now" "LRimGrains$State;", Cond.fieldLink RX7 16 "RimGrains" "snapshot" "LRimGrains$State;", Cond.fieldLink RX7 19 "RimGrains" "trial" "LRimGrains$State;", Cond.fieldLink RX7 22 "RimGrains" "history" "[LRimGrains$State;", Cond.classLink RX7 26 RX6, Cond.instantiable RX6 5, Cond.initialized RX6, Cond.fieldLink RX7 29 "RimGrains" "walk" "LRimGrains$Walk;", Cond.classLink RX7 33 RX0]
def wsL_law_r2 : List Cond := [Cond.instantiable RX0 2, Cond.initialized RX0, Cond.fieldLink RX7 36 "RimGrains" "fall" "LRimGrains$Fall;", Cond.classLink RX7 40 RX5, Cond.instantiable RX5 7, Cond.initialized RX5, Cond.fieldLink RX7 43 "RimGrains" "trees" "LRimGrains$Trees;", Cond.classLink RX7 47 RX3, Cond.instantiable RX3 3, Cond.initialized RX3, Cond.fieldLink RX7 50 "RimGrains" "screening" "LRimGrains$Screens;", Cond.classLink RX7 54 RX1, Cond.instantiable RX1 6, Cond.initialized RX1, Cond.fieldLink RX7 57 "RimGrains" "pad" "LRimGrains$Pad;", Cond.fieldLink RX7 61 "RimGrains" "states" "I", Cond.fieldLink RX7 65 "RimGrains" "saved" "Z", Cond.fieldLink RX7 69 "RimGrains" "stopError" "I", Cond.fieldLink RX7 72 "RimGrains" "stopDeed" "I", Cond.fieldLink RX7 75 "RimGrains" "stopPlace" "I", Cond.instanceMethod yX4_init, Cond.code yX4_init cX4_init 1 none, Cond.methodLink RX4 3 objectInit, Cond.arrayClass .int]
def wsL_law_r3 : List Cond := [Cond.fieldLink RX4 9 "RimGrains$State" "cells" "[I", Cond.fieldLink RX4 15 "RimGrains$State" "holders" "[I", Cond.fieldLink RX4 18 "RimGrains$State" "steps" "[I", Cond.fieldLink RX4 21 "RimGrains$State" "grainsByCell" "[I", Cond.fieldLink RX4 24 "RimGrains$State" "settings" "[I", Cond.fieldLink RX4 27 "RimGrains$State" "grains" "I", Cond.fieldLink RX4 31 "RimGrains$State" "lot" "I", Cond.fieldLink RX4 34 "RimGrains$State" "released" "I", Cond.fieldLink RX4 37 "RimGrains$State" "lost" "I", Cond.fieldLink RX4 40 "RimGrains$State" "gone" "I", Cond.fieldLink RX4 43 "RimGrains$State" "walked" "I", Cond.instanceMethod yX6_init, Cond.code yX6_init cX6_init 1 none, Cond.methodLink RX6 3 objectInit, Cond.fieldLink RX6 9 "RimGrains$Walk" "place" "I", Cond.fieldLink RX6 15 "RimGrains$Walk" "steps" "I", Cond.fieldLink RX6 18 "RimGrains$Walk" "draws" "I", Cond.fieldLink RX6 21 "RimGrains$Walk" "lot" "I", Cond.fieldLink RX6 24 "RimGrains$Walk" "holder" "I", Cond.instanceMethod yX0_init, Cond.code yX0_init cX0_init 1 none, Cond.methodLink RX0 3 objectInit, Cond.arrayClass .boolean, Cond.fieldLink RX0 9 "RimGrains$Fall" "falling" "[Z"]
def wsL_law_r4 : List Cond := [Cond.fieldLink RX0 15 "RimGrains$Fall" "newNumbers" "[I", Cond.instanceMethod yX5_init, Cond.code yX5_init cX5_init 1 none, Cond.methodLink RX5 3 objectInit, Cond.fieldLink RX5 9 "RimGrains$Trees" "depths" "[I", Cond.fieldLink RX5 15 "RimGrains$Trees" "roots" "[I", Cond.fieldLink RX5 18 "RimGrains$Trees" "holding" "[I", Cond.fieldLink RX5 21 "RimGrains$Trees" "members" "[I", Cond.fieldLink RX5 24 "RimGrains$Trees" "highest" "[I", Cond.fieldLink RX5 27 "RimGrains$Trees" "second" "[I", Cond.fieldLink RX5 30 "RimGrains$Trees" "grains" "I", Cond.instanceMethod yX3_init, Cond.code yX3_init cX3_init 1 none, Cond.methodLink RX3 3 objectInit, Cond.fieldLink RX3 9 "RimGrains$Screens" "catches" "[I", Cond.fieldLink RX3 15 "RimGrains$Screens" "grains" "I", Cond.fieldLink RX3 19 "RimGrains$Screens" "open" "I", Cond.instanceMethod yX1_init, Cond.code yX1_init cX1_init 1 none, Cond.methodLink RX1 3 objectInit, Cond.arrayClass .char, Cond.fieldLink RX1 9 "RimGrains$Pad" "signs" "[C", Cond.fieldLink RX1 15 "RimGrains$Pad" "length" "I", Cond.fieldLink RX1 19 "RimGrains$Pad" "next" "I"]
def wsL_law_r5 : List Cond := [Cond.fieldLink RX1 22 "RimGrains$Pad" "place" "I", Cond.fieldLink RX1 25 "RimGrains$Pad" "letter" "C", Cond.fieldLink RX1 29 "RimGrains$Pad" "number" "I", Cond.methodLink RX7 78 yX4_plant, Cond.instanceMethod yX4_plant, Cond.selects RX4 yX4_plant yX4_plant, Cond.code yX4_plant cX4_plant 3 (some .int), Cond.methodLink RX4 52 yX4_isRootCell, Cond.static yX4_isRootCell, Cond.code yX4_isRootCell cX4_isRootCell 2 (some .boolean), Cond.methodLink RX4 60 yX2_ringOf, Cond.static yX2_ringOf, Cond.initialized RX2, Cond.code yX2_ringOf cX2_ringOf 1 (some .int), Cond.methodLink RX2 9 Lib.Math.abs.name, Cond.static Lib.Math.abs.name, Cond.initialized "java/lang/Math", Cond.code Lib.Math.abs.name Lib.Math.abs.code 1 (some .int), Cond.methodLink RX2 15 Lib.Math.max.name, Cond.static Lib.Math.max.name, Cond.code Lib.Math.max.name Lib.Math.max.code 2 (some .int), Cond.methodLink RX4 56 yX4_add, Cond.instanceMethod yX4_add, Cond.selects RX4 yX4_add yX4_add]
def wsL_law_r6 : List Cond := [Cond.code yX4_add cX4_add 4 none, Cond.methodLink RX4 66 yX2_isCell, Cond.static yX2_isCell, Cond.code yX2_isCell cX2_isCell 1 (some .boolean), Cond.methodLink RL 12 yX8_init, Cond.instanceMethod yX8_init, Cond.code yX8_init cX8_init 1 none, Cond.methodLink RX8 1 objectInit, Cond.fieldLink RX8 7 "RimGrainsModel" "s" "[I", Cond.fieldLink RX8 13 "RimGrainsModel" "aside" "[I", Cond.fieldLink RX8 16 "RimGrainsModel" "past" "[I", Cond.fieldLink RX8 19 "RimGrainsModel" "kept" "[I", Cond.fieldLink RX8 22 "RimGrainsModel" "pad" "[I", Cond.fieldLink RX8 25 "RimGrainsModel" "goes" "[Z", Cond.fieldLink RX8 29 "RimGrainsModel" "becomes" "[I", Cond.fieldLink RX8 32 "RimGrainsModel" "highest" "[I", Cond.methodLink RX8 35 yX8_roots, Cond.instanceMethod yX8_roots, Cond.selects RX8 yX8_roots yX8_roots, Cond.code yX8_roots cX8_roots 4 none, Cond.methodLink RX8 62 yX8_ringOf, Cond.static yX8_ringOf, Cond.code yX8_ringOf cX8_ringOf 3 (some .int), Cond.methodLink RX8 51 yX8_size]
def wsL_law_r7 : List Cond := [Cond.static yX8_size, Cond.code yX8_size cX8_size 1 (some .int), Cond.methodLink RX8 65 yX8_adds, Cond.instanceMethod yX8_adds, Cond.selects RX8 yX8_adds yX8_adds, Cond.code yX8_adds cX8_adds 5 none, Cond.methodLink RL 13 yX7_begin, Cond.instanceMethod yX7_begin, Cond.selects RX7 yX7_begin yX7_begin, Cond.code yX7_begin cX7_begin 2 (some .int), Cond.methodLink RX7 82 yX7_record, Cond.instanceMethod yX7_record, Cond.selects RX7 yX7_record yX7_record, Cond.code yX7_record cX7_record 1 none, Cond.methodLink RX7 273 yX7_dropOldest, Cond.instanceMethod yX7_dropOldest, Cond.selects RX7 yX7_dropOldest yX7_dropOldest, Cond.code yX7_dropOldest cX7_dropOldest 3 none, Cond.methodLink RX7 263 yX4_takeOver, Cond.instanceMethod yX4_takeOver, Cond.selects RX4 yX4_takeOver yX4_takeOver, Cond.code yX4_takeOver cX4_takeOver 2 none, Cond.methodLink RX4 46 arraycopyName, Cond.native arraycopyName]
def wsL_law_r8 : List Cond := [Cond.static arraycopyName, Cond.initialized "java/lang/System", Cond.methodLink RL 17 yX8_begin, Cond.instanceMethod yX8_begin, Cond.selects RX8 yX8_begin yX8_begin, Cond.code yX8_begin cX8_begin 3 (some .int), Cond.methodLink RX8 47 yX8_in, Cond.static yX8_in, Cond.code yX8_in cX8_in 3 (some .boolean), Cond.methodLink RX8 120 yX8_records, Cond.instanceMethod yX8_records, Cond.selects RX8 yX8_records yX8_records, Cond.code yX8_records cX8_records 2 none, Cond.fieldLink RX8 39 "RimGrainsModel" "known" "I", Cond.methodLink RX8 43 yX8_copies, Cond.static yX8_copies, Cond.code yX8_copies cX8_copies 5 none, Cond.methodLink RL 18 yX7_lot, Cond.instanceMethod yX7_lot, Cond.selects RX7 yX7_lot yX7_lot, Cond.code yX7_lot cX7_lot 3 (some .int), Cond.methodLink RL 21 yX8_lot, Cond.instanceMethod yX8_lot, Cond.selects RX8 yX8_lot yX8_lot]
def wsL_law_r9 : List Cond := [Cond.code yX8_lot cX8_lot 3 (some .int), Cond.methodLink RL 22 yX7_go, Cond.instanceMethod yX7_go, Cond.selects RX7 yX7_go yX7_go, Cond.code yX7_go cX7_go 3 (some .int), Cond.methodLink RX7 88 yX4_refusalToGo, Cond.instanceMethod yX4_refusalToGo, Cond.selects RX4 yX4_refusalToGo yX4_refusalToGo, Cond.code yX4_refusalToGo cX4_refusalToGo 2 (some .int), Cond.methodLink RX4 88 yX2_isRim, Cond.static yX2_isRim, Cond.code yX2_isRim cX2_isRim 1 (some .boolean), Cond.methodLink RX4 91 yX2_cellOfRim, Cond.static yX2_cellOfRim, Cond.code yX2_cellOfRim cX2_cellOfRim 1 (some .int), Cond.methodLink RX4 94 yX4_grainAt, Cond.instanceMethod yX4_grainAt, Cond.selects RX4 yX4_grainAt yX4_grainAt, Cond.code yX4_grainAt cX4_grainAt 2 (some .int), Cond.methodLink RX7 91 yX7_letWalk, Cond.instanceMethod yX7_letWalk, Cond.selects RX7 yX7_letWalk yX7_letWalk, Cond.code yX7_letWalk cX7_letWalk 2 (some .int), Cond.methodLink RX7 249 yX2_cellOfRim]
def wsL_law_r10 : List Cond := [Cond.methodLink RX7 252 yX6_walkFrom, Cond.instanceMethod yX6_walkFrom, Cond.selects RX6 yX6_walkFrom yX6_walkFrom, Cond.code yX6_walkFrom cX6_walkFrom 6 none, Cond.methodLink RX6 30 yX4_setting, Cond.instanceMethod yX4_setting, Cond.selects RX4 yX4_setting yX4_setting, Cond.code yX4_setting cX4_setting 2 (some .int), Cond.methodLink RX6 34 yX6_catchesHold, Cond.instanceMethod yX6_catchesHold, Cond.selects RX6 yX6_catchesHold yX6_catchesHold, Cond.code yX6_catchesHold cX6_catchesHold 3 (some .boolean), Cond.methodLink RX6 41 yX4_firstGrainBeside, Cond.instanceMethod yX4_firstGrainBeside, Cond.selects RX4 yX4_firstGrainBeside yX4_firstGrainBeside, Cond.code yX4_firstGrainBeside cX4_firstGrainBeside 4 (some .int), Cond.methodLink RX4 103 yX2_neighbour, Cond.static yX2_neighbour, Cond.code yX2_neighbour cX2_neighbour 4 (some .int), Cond.methodLink RX6 44 yX6_draw, Cond.instanceMethod yX6_draw, Cond.selects RX6 yX6_draw yX6_draw, Cond.code yX6_draw cX6_draw 1 (some .int), Cond.static yX7_nextLot]
def wsL_law_r11 : List Cond := [Cond.code yX7_nextLot cX7_nextLot 1 (some .int), Cond.methodLink RX6 38 yX6_makesStep, Cond.instanceMethod yX6_makesStep, Cond.selects RX6 yX6_makesStep yX6_makesStep, Cond.code yX6_makesStep cX6_makesStep 4 (some .boolean), Cond.methodLink RX6 48 yX2_neighbour, Cond.methodLink RX6 54 yX4_grainAt, Cond.methodLink RX7 276 yX4_settle, Cond.instanceMethod yX4_settle, Cond.selects RX4 yX4_settle yX4_settle, Cond.code yX4_settle cX4_settle 2 none, Cond.methodLink RX4 78 yX6_sticks, Cond.instanceMethod yX6_sticks, Cond.selects RX6 yX6_sticks yX6_sticks, Cond.code yX6_sticks cX6_sticks 1 (some .boolean), Cond.methodLink RX7 256 yX6_answer, Cond.instanceMethod yX6_answer, Cond.selects RX6 yX6_answer yX6_answer, Cond.code yX6_answer cX6_answer 1 (some .int), Cond.methodLink RX6 60 yX6_sticks, Cond.methodLink RL 25 yX8_go, Cond.instanceMethod yX8_go, Cond.selects RX8 yX8_go yX8_go, Cond.code yX8_go cX8_go 3 (some .int)]
def wsL_law_r12 : List Cond := [Cond.methodLink RX8 123 yX8_errorGo, Cond.instanceMethod yX8_errorGo, Cond.selects RX8 yX8_errorGo yX8_errorGo, Cond.code yX8_errorGo cX8_errorGo 2 (some .int), Cond.methodLink RX8 114 yX8_isRim, Cond.static yX8_isRim, Cond.code yX8_isRim cX8_isRim 1 (some .boolean), Cond.methodLink RX8 99 yX8_isBlocked, Cond.instanceMethod yX8_isBlocked, Cond.selects RX8 yX8_isBlocked yX8_isBlocked, Cond.code yX8_isBlocked cX8_isBlocked 2 (some .boolean), Cond.methodLink RX8 55 yX8_rimCell, Cond.static yX8_rimCell, Cond.code yX8_rimCell cX8_rimCell 1 (some .int), Cond.methodLink RX8 72 yX8_grainAt, Cond.instanceMethod yX8_grainAt, Cond.selects RX8 yX8_grainAt yX8_grainAt, Cond.code yX8_grainAt cX8_grainAt 4 (some .int), Cond.methodLink RX8 58 yX8_of, Cond.instanceMethod yX8_of, Cond.selects RX8 yX8_of yX8_of, Cond.code yX8_of cX8_of 3 (some .int), Cond.methodLink RX8 102 yX8_goGrain, Cond.instanceMethod yX8_goGrain]
def wsL_law_r13 : List Cond := [Cond.selects RX8 yX8_goGrain yX8_goGrain, Cond.code yX8_goGrain cX8_goGrain 3 (some .int), Cond.fieldLink RX8 81 "RimGrainsModel" "steps" "I", Cond.fieldLink RX8 78 "RimGrainsModel" "walker" "I", Cond.methodLink RX8 95 yX8_walks, Cond.instanceMethod yX8_walks, Cond.selects RX8 yX8_walks yX8_walks, Cond.code yX8_walks cX8_walks 4 (some .boolean), Cond.fieldLink RX8 75 "RimGrainsModel" "lots" "I", Cond.methodLink RX8 84 yX8_grainBeside, Cond.instanceMethod yX8_grainBeside, Cond.selects RX8 yX8_grainBeside yX8_grainBeside, Cond.code yX8_grainBeside cX8_grainBeside 6 (some .int), Cond.methodLink RX8 69 yX8_beside, Cond.static yX8_beside, Cond.code yX8_beside cX8_beside 4 (some .int), Cond.methodLink RX8 87 yX8_draws, Cond.instanceMethod yX8_draws, Cond.selects RX8 yX8_draws yX8_draws, Cond.code yX8_draws cX8_draws 1 (some .int), Cond.methodLink RX8 91 yX8_makesStep, Cond.instanceMethod yX8_makesStep, Cond.selects RX8 yX8_makesStep yX8_makesStep, Cond.code yX8_makesStep cX8_makesStep 3 (some .boolean)]
def wsL_law_r14 : List Cond := [Cond.methodLink RL 26 yX7_rain, Cond.instanceMethod yX7_rain, Cond.selects RX7 yX7_rain yX7_rain, Cond.code yX7_rain cX7_rain 4 (some .int), Cond.methodLink RX7 94 yX7_dropSticks, Cond.instanceMethod yX7_dropSticks, Cond.selects RX7 yX7_dropSticks yX7_dropSticks, Cond.code yX7_dropSticks cX7_dropSticks 2 (some .boolean), Cond.methodLink RX7 280 yX7_nextLot, Cond.methodLink RX7 283 yX4_loseAtOnce, Cond.instanceMethod yX4_loseAtOnce, Cond.selects RX4 yX4_loseAtOnce yX4_loseAtOnce, Cond.code yX4_loseAtOnce cX4_loseAtOnce 1 none, Cond.methodLink RX7 286 yX6_sticks, Cond.methodLink RL 29 yX8_rain, Cond.instanceMethod yX8_rain, Cond.selects RX8 yX8_rain yX8_rain, Cond.code yX8_rain cX8_rain 2 (some .int), Cond.methodLink RX8 126 yX8_goRain, Cond.instanceMethod yX8_goRain, Cond.selects RX8 yX8_goRain yX8_goRain, Cond.code yX8_goRain cX8_goRain 5 (some .int), Cond.methodLink RL 30 yX7_breakOff, Cond.instanceMethod yX7_breakOff]
def wsL_law_r15 : List Cond := [Cond.selects RX7 yX7_breakOff yX7_breakOff, Cond.code yX7_breakOff cX7_breakOff 3 (some .int), Cond.methodLink RX7 98 yX4_refusalToBreak, Cond.instanceMethod yX4_refusalToBreak, Cond.selects RX4 yX4_refusalToBreak yX4_refusalToBreak, Cond.code yX4_refusalToBreak cX4_refusalToBreak 2 (some .int), Cond.methodLink RX4 97 yX4_isGrain, Cond.instanceMethod yX4_isGrain, Cond.selects RX4 yX4_isGrain yX4_isGrain, Cond.code yX4_isGrain cX4_isGrain 2 (some .boolean), Cond.methodLink RX4 100 yX4_holderOf, Cond.instanceMethod yX4_holderOf, Cond.selects RX4 yX4_holderOf yX4_holderOf, Cond.code yX4_holderOf cX4_holderOf 2 (some .int), Cond.methodLink RX7 101 yX0_dropTree, Cond.instanceMethod yX0_dropTree, Cond.selects RX0 yX0_dropTree yX0_dropTree, Cond.code yX0_dropTree cX0_dropTree 5 (some .int), Cond.methodLink RX0 25 yX4_holderOf, Cond.methodLink RX0 29 yX4_drop, Cond.instanceMethod yX4_drop, Cond.selects RX4 yX4_drop yX4_drop, Cond.code yX4_drop cX4_drop 7 (some .int), Cond.methodLink RL 33 yX8_breakOff]
def wsL_law_r16 : List Cond := [Cond.instanceMethod yX8_breakOff, Cond.selects RX8 yX8_breakOff yX8_breakOff, Cond.code yX8_breakOff cX8_breakOff 3 (some .int), Cond.methodLink RX8 129 yX8_errorBreak, Cond.instanceMethod yX8_errorBreak, Cond.selects RX8 yX8_errorBreak yX8_errorBreak, Cond.code yX8_errorBreak cX8_errorBreak 2 (some .int), Cond.methodLink RX8 117 yX8_isGrain, Cond.instanceMethod yX8_isGrain, Cond.selects RX8 yX8_isGrain yX8_isGrain, Cond.code yX8_isGrain cX8_isGrain 2 (some .boolean), Cond.methodLink RX8 105 yX8_holder, Cond.instanceMethod yX8_holder, Cond.selects RX8 yX8_holder yX8_holder, Cond.code yX8_holder cX8_holder 2 (some .int), Cond.methodLink RX8 132 yX8_goBreak, Cond.instanceMethod yX8_goBreak, Cond.selects RX8 yX8_goBreak yX8_goBreak, Cond.code yX8_goBreak cX8_goBreak 3 (some .int), Cond.methodLink RX8 108 yX8_takesAway, Cond.instanceMethod yX8_takesAway, Cond.selects RX8 yX8_takesAway yX8_takesAway, Cond.code yX8_takesAway cX8_takesAway 7 (some .int), Cond.methodLink RL 34 yX7_wash]
def wsL_law_r17 : List Cond := [Cond.instanceMethod yX7_wash, Cond.selects RX7 yX7_wash yX7_wash, Cond.code yX7_wash cX7_wash 1 (some .int), Cond.methodLink RX7 105 yX0_dropTips, Cond.instanceMethod yX0_dropTips, Cond.selects RX0 yX0_dropTips yX0_dropTips, Cond.code yX0_dropTips cX0_dropTips 4 (some .int), Cond.methodLink RL 38 yX8_wash, Cond.instanceMethod yX8_wash, Cond.selects RX8 yX8_wash yX8_wash, Cond.code yX8_wash cX8_wash 1 (some .int), Cond.methodLink RX8 135 yX8_goWash, Cond.instanceMethod yX8_goWash, Cond.selects RX8 yX8_goWash yX8_goWash, Cond.code yX8_goWash cX8_goWash 2 (some .int), Cond.methodLink RX8 111 yX8_children, Cond.instanceMethod yX8_children, Cond.selects RX8 yX8_children yX8_children, Cond.code yX8_children cX8_children 4 (some .int), Cond.methodLink RL 39 yX7_set, Cond.instanceMethod yX7_set, Cond.selects RX7 yX7_set yX7_set, Cond.code yX7_set cX7_set 3 (some .int), Cond.methodLink RX7 109 yX7_isSettingValue]
def wsL_law_r18 : List Cond := [Cond.static yX7_isSettingValue, Cond.code yX7_isSettingValue cX7_isSettingValue 2 (some .boolean), Cond.methodLink RX7 113 yX4_change, Cond.instanceMethod yX4_change, Cond.selects RX4 yX4_change yX4_change, Cond.code yX4_change cX4_change 4 (some .int), Cond.methodLink RX4 70 yX4_setting, Cond.methodLink RL 43 yX8_set, Cond.instanceMethod yX8_set, Cond.selects RX8 yX8_set yX8_set, Cond.code yX8_set cX8_set 4 (some .int), Cond.methodLink RX8 138 yX8_leastOf, Cond.static yX8_leastOf, Cond.code yX8_leastOf cX8_leastOf 1 (some .int), Cond.methodLink RX8 141 yX8_mostOf, Cond.static yX8_mostOf, Cond.code yX8_mostOf cX8_mostOf 1 (some .int), Cond.methodLink RL 44 yX7_append, Cond.instanceMethod yX7_append, Cond.selects RX7 yX7_append yX7_append, Cond.code yX7_append cX7_append 2 (some .int), Cond.methodLink RX7 120 yX1_write, Cond.instanceMethod yX1_write, Cond.selects RX1 yX1_write yX1_write]
def wsL_law_r19 : List Cond := [Cond.code yX1_write cX1_write 2 none, Cond.methodLink RL 47 yX8_append, Cond.instanceMethod yX8_append, Cond.selects RX8 yX8_append yX8_append, Cond.code yX8_append cX8_append 2 (some .int), Cond.fieldLink RX8 144 "RimGrainsModel" "length" "I", Cond.methodLink RL 48 yX7_clear, Cond.instanceMethod yX7_clear, Cond.selects RX7 yX7_clear yX7_clear, Cond.code yX7_clear cX7_clear 2 (some .int), Cond.methodLink RX7 124 yX1_wipe, Cond.instanceMethod yX1_wipe, Cond.selects RX1 yX1_wipe yX1_wipe, Cond.code yX1_wipe cX1_wipe 1 none, Cond.methodLink RL 51 yX8_clear, Cond.instanceMethod yX8_clear, Cond.selects RX8 yX8_clear yX8_clear, Cond.code yX8_clear cX8_clear 2 (some .int), Cond.methodLink RL 52 yX7_fault, Cond.instanceMethod yX7_fault, Cond.selects RX7 yX7_fault yX7_fault, Cond.code yX7_fault cX7_fault 1 (some .int), Cond.methodLink RX7 127 yX1_firstWrong, Cond.instanceMethod yX1_firstWrong]
def wsL_law_r20 : List Cond := [Cond.selects RX1 yX1_firstWrong yX1_firstWrong, Cond.code yX1_firstWrong cX1_firstWrong 5 (some .int), Cond.methodLink RX1 32 yX1_isLetter, Cond.static yX1_isLetter, Cond.code yX1_isLetter cX1_isLetter 1 (some .boolean), Cond.methodLink RX1 36 yX1_isWhole, Cond.static yX1_isWhole, Cond.code yX1_isWhole cX1_isWhole 2 (some .boolean), Cond.methodLink RX1 40 yX1_withDigit, Cond.static yX1_withDigit, Cond.code yX1_withDigit cX1_withDigit 6 (some .int), Cond.methodLink RL 55 yX8_fault, Cond.instanceMethod yX8_fault, Cond.selects RX8 yX8_fault yX8_fault, Cond.code yX8_fault cX8_fault 1 (some .int), Cond.fieldLink RX8 147 "RimGrainsModel" "spot" "I", Cond.methodLink RX8 173 yX8_isText, Cond.instanceMethod yX8_isText, Cond.selects RX8 yX8_isText yX8_isText, Cond.code yX8_isText cX8_isText 1 (some .boolean), Cond.fieldLink RX8 150 "RimGrainsModel" "isForm" "Z", Cond.methodLink RX8 170 yX8_takesDeed, Cond.instanceMethod yX8_takesDeed, Cond.selects RX8 yX8_takesDeed yX8_takesDeed]
def wsL_law_r21 : List Cond := [Cond.code yX8_takesDeed cX8_takesDeed 1 none, Cond.fieldLink RX8 164 "RimGrainsModel" "letter" "I", Cond.methodLink RX8 154 yX8_here, Cond.instanceMethod yX8_here, Cond.selects RX8 yX8_here yX8_here, Cond.code yX8_here cX8_here 1 (some .int), Cond.methodLink RX8 160 yX8_takes, Cond.instanceMethod yX8_takes, Cond.selects RX8 yX8_takes yX8_takes, Cond.code yX8_takes cX8_takes 2 none, Cond.methodLink RX8 167 yX8_takesNumber, Cond.instanceMethod yX8_takesNumber, Cond.selects RX8 yX8_takesNumber yX8_takesNumber, Cond.code yX8_takesNumber cX8_takesNumber 2 none, Cond.fieldLink RX8 157 "RimGrainsModel" "told" "I", Cond.methodLink RL 56 yX7_carryOut, Cond.instanceMethod yX7_carryOut, Cond.selects RX7 yX7_carryOut yX7_carryOut, Cond.code yX7_carryOut cX7_carryOut 3 (some .int), Cond.methodLink RX7 131 yX1_startReading, Cond.instanceMethod yX1_startReading, Cond.selects RX1 yX1_startReading yX1_startReading, Cond.code yX1_startReading cX1_startReading 1 none, Cond.methodLink RX7 134 yX1_readDeed]
def wsL_law_r22 : List Cond := [Cond.instanceMethod yX1_readDeed, Cond.selects RX1 yX1_readDeed yX1_readDeed, Cond.code yX1_readDeed cX1_readDeed 1 (some .boolean), Cond.methodLink RX7 144 yX7_answerOfDeed, Cond.instanceMethod yX7_answerOfDeed, Cond.selects RX7 yX7_answerOfDeed yX7_answerOfDeed, Cond.code yX7_answerOfDeed cX7_answerOfDeed 4 (some .int), Cond.methodLink RL 59 yX8_carryOut, Cond.instanceMethod yX8_carryOut, Cond.selects RX8 yX8_carryOut yX8_carryOut, Cond.code yX8_carryOut cX8_carryOut 2 (some .int), Cond.fieldLink RX8 176 "RimGrainsModel" "whyError" "I", Cond.fieldLink RX8 179 "RimGrainsModel" "whySpot" "I", Cond.fieldLink RX8 182 "RimGrainsModel" "whyNumber" "I", Cond.methodLink RX8 185 yX8_doesDeed, Cond.instanceMethod yX8_doesDeed, Cond.selects RX8 yX8_doesDeed yX8_doesDeed, Cond.code yX8_doesDeed cX8_doesDeed 3 (some .int), Cond.methodLink RL 60 yX7_why, Cond.instanceMethod yX7_why, Cond.selects RX7 yX7_why yX7_why, Cond.code yX7_why cX7_why 2 (some .int), Cond.methodLink RL 63 yX8_why, Cond.instanceMethod yX8_why]
def wsL_law_r23 : List Cond := [Cond.selects RX8 yX8_why yX8_why, Cond.code yX8_why cX8_why 2 (some .int), Cond.methodLink RL 64 yX7_cell, Cond.instanceMethod yX7_cell, Cond.selects RX7 yX7_cell yX7_cell, Cond.code yX7_cell cX7_cell 3 (some .int), Cond.methodLink RX7 151 yX2_isCell, Cond.methodLink RX7 157 yX4_grainAt, Cond.methodLink RX7 160 yX2_ringOf, Cond.methodLink RX7 163 yX4_grainsAround, Cond.instanceMethod yX4_grainsAround, Cond.selects RX4 yX4_grainsAround yX4_grainsAround, Cond.code yX4_grainsAround cX4_grainsAround 4 (some .int), Cond.methodLink RX7 166 yX2_rimOf, Cond.static yX2_rimOf, Cond.code yX2_rimOf cX2_rimOf 3 (some .int), Cond.methodLink RL 67 yX8_cell, Cond.instanceMethod yX8_cell, Cond.selects RX8 yX8_cell yX8_cell, Cond.code yX8_cell cX8_cell 3 (some .int), Cond.methodLink RX8 188 yX8_isCell, Cond.static yX8_isCell, Cond.code yX8_isCell cX8_isCell 1 (some .boolean), Cond.methodLink RX8 191 yX8_besides]
def wsL_law_r24 : List Cond := [Cond.instanceMethod yX8_besides, Cond.selects RX8 yX8_besides yX8_besides, Cond.code yX8_besides cX8_besides 5 (some .int), Cond.methodLink RX8 194 yX8_rimOf, Cond.static yX8_rimOf, Cond.code yX8_rimOf cX8_rimOf 3 (some .int), Cond.methodLink RL 68 yX7_grain, Cond.instanceMethod yX7_grain, Cond.selects RX7 yX7_grain yX7_grain, Cond.code yX7_grain cX7_grain 3 (some .int), Cond.methodLink RX7 169 yX4_isGrain, Cond.methodLink RX7 172 yX5_read, Cond.instanceMethod yX5_read, Cond.selects RX5 yX5_read yX5_read, Cond.code yX5_read cX5_read 4 none, Cond.methodLink RX5 37 yX4_holderOf, Cond.methodLink RX5 41 yX5_readFromHolder, Cond.instanceMethod yX5_readFromHolder, Cond.selects RX5 yX5_readFromHolder yX5_readFromHolder, Cond.code yX5_readFromHolder cX5_readFromHolder 3 none, Cond.methodLink RX5 45 yX5_addToHolder, Cond.instanceMethod yX5_addToHolder, Cond.selects RX5 yX5_addToHolder yX5_addToHolder, Cond.code yX5_addToHolder cX5_addToHolder 4 none]
def wsL_law_r25 : List Cond := [Cond.methodLink RX7 176 yX4_cellOf, Cond.instanceMethod yX4_cellOf, Cond.selects RX4 yX4_cellOf yX4_cellOf, Cond.code yX4_cellOf cX4_cellOf 2 (some .int), Cond.methodLink RX7 179 yX4_holderOf, Cond.methodLink RX7 195 yX7_catchOf, Cond.instanceMethod yX7_catchOf, Cond.selects RX7 yX7_catchOf yX7_catchOf, Cond.code yX7_catchOf cX7_catchOf 2 (some .int), Cond.methodLink RX7 269 yX3_read, Cond.instanceMethod yX3_read, Cond.selects RX3 yX3_read yX3_read, Cond.code yX3_read cX3_read 4 none, Cond.methodLink RX3 25 yX3_firstMet, Cond.static yX3_firstMet, Cond.code yX3_firstMet cX3_firstMet 6 (some .int), Cond.methodLink RX3 29 yX2_cellOfRim, Cond.methodLink RX3 35 yX2_directionInward, Cond.static yX2_directionInward, Cond.code yX2_directionInward cX2_directionInward 1 (some .int), Cond.methodLink RX3 38 yX4_grainAt, Cond.methodLink RX3 41 yX2_neighbour, Cond.methodLink RX7 201 yX4_stepsOf, Cond.instanceMethod yX4_stepsOf]
def wsL_law_r26 : List Cond := [Cond.selects RX4 yX4_stepsOf yX4_stepsOf, Cond.code yX4_stepsOf cX4_stepsOf 2 (some .int), Cond.methodLink RL 71 yX8_grain, Cond.instanceMethod yX8_grain, Cond.selects RX8 yX8_grain yX8_grain, Cond.code yX8_grain cX8_grain 3 (some .int), Cond.methodLink RX8 201 yX8_depthOf, Cond.instanceMethod yX8_depthOf, Cond.selects RX8 yX8_depthOf yX8_depthOf, Cond.code yX8_depthOf cX8_depthOf 4 (some .int), Cond.methodLink RX8 210 yX8_treeOf, Cond.instanceMethod yX8_treeOf, Cond.selects RX8 yX8_treeOf yX8_treeOf, Cond.code yX8_treeOf cX8_treeOf 4 (some .int), Cond.methodLink RX8 197 yX8_isIn, Cond.instanceMethod yX8_isIn, Cond.selects RX8 yX8_isIn yX8_isIn, Cond.code yX8_isIn cX8_isIn 4 (some .boolean), Cond.methodLink RX8 213 yX8_highOf, Cond.instanceMethod yX8_highOf, Cond.selects RX8 yX8_highOf yX8_highOf, Cond.code yX8_highOf cX8_highOf 5 (some .int), Cond.methodLink RX8 216 yX8_catchOf, Cond.instanceMethod yX8_catchOf]
def wsL_law_r27 : List Cond := [Cond.selects RX8 yX8_catchOf yX8_catchOf, Cond.code yX8_catchOf cX8_catchOf 4 (some .int), Cond.methodLink RX8 207 yX8_screening, Cond.instanceMethod yX8_screening, Cond.selects RX8 yX8_screening yX8_screening, Cond.code yX8_screening cX8_screening 3 (some .int), Cond.methodLink RX8 204 yX8_lookingFrom, Cond.static yX8_lookingFrom, Cond.code yX8_lookingFrom cX8_lookingFrom 1 (some .int), Cond.methodLink RX8 219 yX8_rootOf, Cond.instanceMethod yX8_rootOf, Cond.selects RX8 yX8_rootOf yX8_rootOf, Cond.code yX8_rootOf cX8_rootOf 3 (some .int), Cond.methodLink RL 72 yX7_screens, Cond.instanceMethod yX7_screens, Cond.selects RX7 yX7_screens yX7_screens, Cond.code yX7_screens cX7_screens 2 (some .int), Cond.methodLink RX7 204 yX2_isRim, Cond.methodLink RX7 207 yX3_firstMet, Cond.methodLink RL 75 yX8_screens, Cond.instanceMethod yX8_screens, Cond.selects RX8 yX8_screens yX8_screens, Cond.code yX8_screens cX8_screens 2 (some .int), Cond.methodLink RL 76 yX7_ring]
def wsL_law_r28 : List Cond := [Cond.instanceMethod yX7_ring, Cond.selects RX7 yX7_ring yX7_ring, Cond.code yX7_ring cX7_ring 4 (some .int), Cond.methodLink RL 79 yX8_ring, Cond.instanceMethod yX8_ring, Cond.selects RX8 yX8_ring yX8_ring, Cond.code yX8_ring cX8_ring 4 (some .int), Cond.methodLink RL 80 yX7_apart, Cond.instanceMethod yX7_apart, Cond.selects RX7 yX7_apart yX7_apart, Cond.code yX7_apart cX7_apart 3 (some .int), Cond.methodLink RX7 213 yX4_holdsBetween, Cond.instanceMethod yX4_holdsBetween, Cond.selects RX4 yX4_holdsBetween yX4_holdsBetween, Cond.code yX4_holdsBetween cX4_holdsBetween 7 (some .int), Cond.methodLink RX4 110 Lib.Math.max.name, Cond.methodLink RX4 115 Lib.Math.min.name, Cond.static Lib.Math.min.name, Cond.code Lib.Math.min.name Lib.Math.min.code 2 (some .int), Cond.methodLink RL 83 yX8_apart, Cond.instanceMethod yX8_apart, Cond.selects RX8 yX8_apart yX8_apart, Cond.code yX8_apart cX8_apart 6 (some .int), Cond.methodLink RL 84 yX7_longest]
def wsL_law_r29 : List Cond := [Cond.instanceMethod yX7_longest, Cond.selects RX7 yX7_longest yX7_longest, Cond.code yX7_longest cX7_longest 2 (some .int), Cond.methodLink RX7 216 yX4_longestOfPairs, Cond.instanceMethod yX4_longestOfPairs, Cond.selects RX4 yX4_longestOfPairs yX4_longestOfPairs, Cond.code yX4_longestOfPairs cX4_longestOfPairs 4 (some .int), Cond.methodLink RX4 118 yX4_holdsBetween, Cond.methodLink RX7 219 yX5_longestOfHeights, Cond.instanceMethod yX5_longestOfHeights, Cond.selects RX5 yX5_longestOfHeights yX5_longestOfHeights, Cond.code yX5_longestOfHeights cX5_longestOfHeights 3 (some .int), Cond.methodLink RX5 48 Lib.Math.max.name, Cond.methodLink RL 87 yX8_longest, Cond.instanceMethod yX8_longest, Cond.selects RX8 yX8_longest yX8_longest, Cond.code yX8_longest cX8_longest 6 (some .int), Cond.methodLink RL 88 yX7_count, Cond.instanceMethod yX7_count, Cond.selects RX7 yX7_count yX7_count, Cond.code yX7_count cX7_count 2 (some .int), Cond.methodLink RX7 222 yX4_reach, Cond.instanceMethod yX4_reach, Cond.selects RX4 yX4_reach yX4_reach]
def wsL_law_r30 : List Cond := [Cond.code yX4_reach cX4_reach 3 (some .int), Cond.methodLink RX7 225 yX4_freeCellsBeside, Cond.instanceMethod yX4_freeCellsBeside, Cond.selects RX4 yX4_freeCellsBeside yX4_freeCellsBeside, Cond.code yX4_freeCellsBeside cX4_freeCellsBeside 3 (some .int), Cond.methodLink RX4 107 yX4_firstGrainBeside, Cond.methodLink RX7 240 yX7_bestCatcher, Cond.instanceMethod yX7_bestCatcher, Cond.selects RX7 yX7_bestCatcher yX7_bestCatcher, Cond.code yX7_bestCatcher cX7_bestCatcher 1 (some .int), Cond.methodLink RX7 292 yX3_bestGrain, Cond.instanceMethod yX3_bestGrain, Cond.selects RX3 yX3_bestGrain yX3_bestGrain, Cond.code yX3_bestGrain cX3_bestGrain 3 (some .int), Cond.methodLink RX7 243 yX4_setting, Cond.methodLink RX7 246 yX7_countOfTrees, Cond.instanceMethod yX7_countOfTrees, Cond.selects RX7 yX7_countOfTrees yX7_countOfTrees, Cond.code yX7_countOfTrees cX7_countOfTrees 2 (some .int), Cond.methodLink RX7 295 yX5_rootGrains, Cond.instanceMethod yX5_rootGrains, Cond.selects RX5 yX5_rootGrains yX5_rootGrains, Cond.code yX5_rootGrains cX5_rootGrains 3 (some .int), Cond.methodLink RX7 298 yX5_grainsHeldBy]
def wsL_law_r31 : List Cond := [Cond.instanceMethod yX5_grainsHeldBy, Cond.selects RX5 yX5_grainsHeldBy yX5_grainsHeldBy, Cond.code yX5_grainsHeldBy cX5_grainsHeldBy 5 (some .int), Cond.methodLink RX7 266 yX5_deepest, Cond.instanceMethod yX5_deepest, Cond.selects RX5 yX5_deepest yX5_deepest, Cond.code yX5_deepest cX5_deepest 3 (some .int), Cond.methodLink RL 91 yX8_count, Cond.instanceMethod yX8_count, Cond.selects RX8 yX8_count yX8_count, Cond.code yX8_count cX8_count 2 (some .int), Cond.methodLink RX8 222 yX8_ofKind, Cond.instanceMethod yX8_ofKind, Cond.selects RX8 yX8_ofKind yX8_ofKind, Cond.code yX8_ofKind cX8_ofKind 5 (some .int), Cond.methodLink RX8 225 yX8_deepest, Cond.instanceMethod yX8_deepest, Cond.selects RX8 yX8_deepest yX8_deepest, Cond.code yX8_deepest cX8_deepest 3 (some .int), Cond.methodLink RX8 228 yX8_reachOf, Cond.instanceMethod yX8_reachOf, Cond.selects RX8 yX8_reachOf yX8_reachOf, Cond.code yX8_reachOf cX8_reachOf 3 (some .int), Cond.methodLink RX8 231 yX8_shore]
def wsL_law_r32 : List Cond := [Cond.instanceMethod yX8_shore, Cond.selects RX8 yX8_shore yX8_shore, Cond.code yX8_shore cX8_shore 3 (some .int), Cond.methodLink RX8 234 yX8_bestCatch, Cond.instanceMethod yX8_bestCatch, Cond.selects RX8 yX8_bestCatch yX8_bestCatch, Cond.code yX8_bestCatch cX8_bestCatch 3 (some .int), Cond.methodLink RL 92 yX7_density, Cond.instanceMethod yX7_density, Cond.selects RX7 yX7_density yX7_density, Cond.code yX7_density cX7_density 2 (some .double), Cond.methodLink RL 96 yX8_density, Cond.instanceMethod yX8_density, Cond.selects RX8 yX8_density yX8_density, Cond.code yX8_density cX8_density 2 (some .double), Cond.methodLink RL 97 yX7_ifGone, Cond.instanceMethod yX7_ifGone, Cond.selects RX7 yX7_ifGone yX7_ifGone, Cond.code yX7_ifGone cX7_ifGone 4 (some .int), Cond.methodLink RL 100 yX8_ifGone, Cond.instanceMethod yX8_ifGone, Cond.selects RX8 yX8_ifGone yX8_ifGone, Cond.code yX8_ifGone cX8_ifGone 5 (some .int), Cond.methodLink RL 101 yX7_ifBroken]
def wsL_law_r33 : List Cond := [Cond.instanceMethod yX7_ifBroken, Cond.selects RX7 yX7_ifBroken yX7_ifBroken, Cond.code yX7_ifBroken cX7_ifBroken 4 (some .int), Cond.methodLink RL 104 yX8_ifBroken, Cond.instanceMethod yX8_ifBroken, Cond.selects RX8 yX8_ifBroken yX8_ifBroken, Cond.code yX8_ifBroken cX8_ifBroken 5 (some .int), Cond.methodLink RX8 237 yX8_unscreened, Cond.instanceMethod yX8_unscreened, Cond.selects RX8 yX8_unscreened yX8_unscreened, Cond.code yX8_unscreened cX8_unscreened 3 (some .int), Cond.methodLink RL 105 yX7_undo, Cond.instanceMethod yX7_undo, Cond.selects RX7 yX7_undo yX7_undo, Cond.code yX7_undo cX7_undo 1 (some .int), Cond.methodLink RL 108 yX8_undo, Cond.instanceMethod yX8_undo, Cond.selects RX8 yX8_undo yX8_undo, Cond.code yX8_undo cX8_undo 1 (some .int), Cond.methodLink RL 109 yX7_save, Cond.instanceMethod yX7_save, Cond.selects RX7 yX7_save yX7_save, Cond.code yX7_save cX7_save 1 (some .int), Cond.methodLink RL 112 yX8_save]
def wsL_law_r34 : List Cond := [Cond.instanceMethod yX8_save, Cond.selects RX8 yX8_save yX8_save, Cond.code yX8_save cX8_save 1 (some .int), Cond.fieldLink RX8 240 "RimGrainsModel" "isKept" "Z", Cond.methodLink RL 113 yX7_restore, Cond.instanceMethod yX7_restore, Cond.selects RX7 yX7_restore yX7_restore, Cond.code yX7_restore cX7_restore 1 (some .int), Cond.methodLink RL 116 yX8_restore, Cond.instanceMethod yX8_restore, Cond.selects RX8 yX8_restore yX8_restore, Cond.code yX8_restore cX8_restore 1 (some .int)]
def wsL_law : List Cond := (wsL_law_r1 ++ (wsL_law_r2 ++ (wsL_law_r3 ++ (wsL_law_r4 ++ (wsL_law_r5 ++ (wsL_law_r6 ++ (wsL_law_r7 ++ (wsL_law_r8 ++ (wsL_law_r9 ++ (wsL_law_r10 ++ (wsL_law_r11 ++ (wsL_law_r12 ++ (wsL_law_r13 ++ (wsL_law_r14 ++ (wsL_law_r15 ++ (wsL_law_r16 ++ (wsL_law_r17 ++ (wsL_law_r18 ++ (wsL_law_r19 ++ (wsL_law_r20 ++ (wsL_law_r21 ++ (wsL_law_r22 ++ (wsL_law_r23 ++ (wsL_law_r24 ++ (wsL_law_r25 ++ (wsL_law_r26 ++ (wsL_law_r27 ++ (wsL_law_r28 ++ (wsL_law_r29 ++ (wsL_law_r30 ++ (wsL_law_r31 ++ (wsL_law_r32 ++ (wsL_law_r33 ++ wsL_law_r34))))))))))))))))))))))))))))))))) ++ wsX70 ++ wsX80 ++ wsX40 ++ wsX60 ++ wsX00 ++ wsX50 ++ wsX30 ++ wsX10 ++ ([] : List Cond)
abbrev vwCl : List vw_C := [(RX0, TX0, 2), (RX1, TX1, 6), (RX3, TX3, 3), (RX4, TX4, 11), (RX5, TX5, 7), (RX6, TX6, 5), (RX7, TX7, 14), (RX8, TX8, 21)]
end
section
set_option maxRecDepth 20000 in
theorem wsL_law_r1_in : GoodIn lw_tbl wsL_law_r1 := goodIn_p wsL_law_r1 [70, 73] (by decide +kernel) (by decide +kernel)
set_option maxRecDepth 20000 in
theorem wsL_law_r2_in : GoodIn lw_tbl wsL_law_r2 := goodIn_p wsL_law_r2 [78] (by decide +kernel) (by decide +kernel)
set_option maxRecDepth 20000 in
theorem wsL_law_r3_in : GoodIn lw_tbl wsL_law_r3 := goodIn_p wsL_law_r3 [130, 158] (by decide +kernel) (by decide +kernel)
set_option maxRecDepth 20000 in
theorem wsL_law_r4_in : GoodIn lw_tbl wsL_law_r4 := goodIn_p wsL_law_r4 [172, 205, 223] (by decide +kernel) (by decide +kernel)
set_option maxRecDepth 20000 in
theorem wsL_law_r5_in : GoodIn lw_tbl wsL_law_r5 := goodIn_p wsL_law_r5 [252, 255, 258, 261, 264] (by decide +kernel) (by decide +kernel)
set_option maxRecDepth 20000 in
theorem wsL_law_r6_in : GoodIn lw_tbl wsL_law_r6 := goodIn_p wsL_law_r6 [268, 271, 678, 683, 686] (by decide +kernel) (by decide +kernel)
set_option maxRecDepth 20000 in
theorem wsL_law_r7_in : GoodIn lw_tbl wsL_law_r7 := goodIn_p wsL_law_r7 [689, 693, 318, 322, 326, 330] (by decide +kernel) (by decide +kernel)
set_option maxRecDepth 20000 in
theorem wsL_law_r8_in : GoodIn lw_tbl wsL_law_r8 := goodIn_p wsL_law_r8 [761, 764, 768, 771, 337] (by decide +kernel) (by decide +kernel)
set_option maxRecDepth 20000 in
theorem wsL_law_r9_in : GoodIn lw_tbl wsL_law_r9 := goodIn_p wsL_law_r9 [775, 341, 345, 348, 351, 355, 359] (by decide +kernel) (by decide +kernel)
set_option maxRecDepth 20000 in
theorem wsL_law_r10_in : GoodIn lw_tbl wsL_law_r10 := goodIn_p wsL_law_r10 [364, 368, 372, 376, 379, 383] (by decide +kernel) (by decide +kernel)
set_option maxRecDepth 20000 in
theorem wsL_law_r11_in : GoodIn lw_tbl wsL_law_r11 := goodIn_p wsL_law_r11 [386, 390, 396, 400, 404, 779] (by decide +kernel) (by decide +kernel)
set_option maxRecDepth 20000 in
theorem wsL_law_r12_in : GoodIn lw_tbl wsL_law_r12 := goodIn_p wsL_law_r12 [783, 786, 790, 793, 797, 801] (by decide +kernel) (by decide +kernel)
set_option maxRecDepth 20000 in
theorem wsL_law_r13_in : GoodIn lw_tbl wsL_law_r13 := goodIn_p wsL_law_r13 [805, 809, 813, 816, 820, 824] (by decide +kernel) (by decide +kernel)
set_option maxRecDepth 20000 in
theorem wsL_law_r14_in : GoodIn lw_tbl wsL_law_r14 := goodIn_p wsL_law_r14 [409, 413, 418, 828, 832] (by decide +kernel) (by decide +kernel)
set_option maxRecDepth 20000 in
theorem wsL_law_r15_in : GoodIn lw_tbl wsL_law_r15 := goodIn_p wsL_law_r15 [423, 427, 431, 435, 439, 444] (by decide +kernel) (by decide +kernel)
set_option maxRecDepth 20000 in
theorem wsL_law_r16_in : GoodIn lw_tbl wsL_law_r16 := goodIn_p wsL_law_r16 [836, 840, 844, 848, 852, 856] (by decide +kernel) (by decide +kernel)
set_option maxRecDepth 20000 in
theorem wsL_law_r17_in : GoodIn lw_tbl wsL_law_r17 := goodIn_p wsL_law_r17 [448, 452, 860, 864, 868, 456] (by decide +kernel) (by decide +kernel)
set_option maxRecDepth 20000 in
theorem wsL_law_r18_in : GoodIn lw_tbl wsL_law_r18 := goodIn_p wsL_law_r18 [459, 463, 872, 875, 878, 468] (by decide +kernel) (by decide +kernel)
set_option maxRecDepth 20000 in
theorem wsL_law_r19_in : GoodIn lw_tbl wsL_law_r19 := goodIn_p wsL_law_r19 [472, 882, 476, 480, 886, 484] (by decide +kernel) (by decide +kernel)
set_option maxRecDepth 20000 in
theorem wsL_law_r20_in : GoodIn lw_tbl wsL_law_r20 := goodIn_p wsL_law_r20 [488, 491, 494, 497, 890, 894] (by decide +kernel) (by decide +kernel)
set_option maxRecDepth 20000 in
theorem wsL_law_r21_in : GoodIn lw_tbl wsL_law_r21 := goodIn_p wsL_law_r21 [898, 902, 906, 910, 501, 505] (by decide +kernel) (by decide +kernel)
set_option maxRecDepth 20000 in
theorem wsL_law_r22_in : GoodIn lw_tbl wsL_law_r22 := goodIn_p wsL_law_r22 [509, 513, 914, 918, 517] (by decide +kernel) (by decide +kernel)
set_option maxRecDepth 20000 in
theorem wsL_law_r23_in : GoodIn lw_tbl wsL_law_r23 := goodIn_p wsL_law_r23 [922, 521, 528, 531, 926, 929] (by decide +kernel) (by decide +kernel)
set_option maxRecDepth 20000 in
theorem wsL_law_r24_in : GoodIn lw_tbl wsL_law_r24 := goodIn_p wsL_law_r24 [933, 936, 535, 540, 545, 549] (by decide +kernel) (by decide +kernel)
set_option maxRecDepth 20000 in
theorem wsL_law_r25_in : GoodIn lw_tbl wsL_law_r25 := goodIn_p wsL_law_r25 [553, 558, 562, 565, 569] (by decide +kernel) (by decide +kernel)
set_option maxRecDepth 20000 in
theorem wsL_law_r26_in : GoodIn lw_tbl wsL_law_r26 := goodIn_p wsL_law_r26 [575, 940, 944, 948, 952, 956] (by decide +kernel) (by decide +kernel)
set_option maxRecDepth 20000 in
theorem wsL_law_r27_in : GoodIn lw_tbl wsL_law_r27 := goodIn_p wsL_law_r27 [960, 964, 967, 971, 579, 975] (by decide +kernel) (by decide +kernel)
set_option maxRecDepth 20000 in
theorem wsL_law_r28_in : GoodIn lw_tbl wsL_law_r28 := goodIn_p wsL_law_r28 [585, 979, 589, 593, 597, 983] (by decide +kernel) (by decide +kernel)
set_option maxRecDepth 20000 in
theorem wsL_law_r29_in : GoodIn lw_tbl wsL_law_r29 := goodIn_p wsL_law_r29 [601, 605, 610, 987, 615] (by decide +kernel) (by decide +kernel)
set_option maxRecDepth 20000 in
theorem wsL_law_r30_in : GoodIn lw_tbl wsL_law_r30 := goodIn_p wsL_law_r30 [619, 623, 628, 632, 637, 641] (by decide +kernel) (by decide +kernel)
set_option maxRecDepth 20000 in
theorem wsL_law_r31_in : GoodIn lw_tbl wsL_law_r31 := goodIn_p wsL_law_r31 [645, 649, 991, 995, 999, 1003] (by decide +kernel) (by decide +kernel)
set_option maxRecDepth 20000 in
theorem wsL_law_r32_in : GoodIn lw_tbl wsL_law_r32 := goodIn_p wsL_law_r32 [1007, 1011, 653, 1015, 657, 1019] (by decide +kernel) (by decide +kernel)
set_option maxRecDepth 20000 in
theorem wsL_law_r33_in : GoodIn lw_tbl wsL_law_r33 := goodIn_p wsL_law_r33 [661, 1023, 1027, 665, 1031, 669] (by decide +kernel) (by decide +kernel)
set_option maxRecDepth 20000 in
theorem wsL_law_r34_in : GoodIn lw_tbl wsL_law_r34 := goodIn_p wsL_law_r34 [1035, 673, 1039] (by decide +kernel) (by decide +kernel)
set_option maxRecDepth 20000 in
theorem wsX70_lawin : GoodIn lw_tbl wsX70 := goodIn_p wsX70 [] (by decide +kernel) (by decide +kernel)
set_option maxRecDepth 20000 in
theorem wsX80_lawin : GoodIn lw_tbl wsX80 := goodIn_p wsX80 [] (by decide +kernel) (by decide +kernel)
set_option maxRecDepth 20000 in
theorem wsX40_lawin : GoodIn lw_tbl wsX40 := goodIn_p wsX40 [] (by decide +kernel) (by decide +kernel)
set_option maxRecDepth 20000 in
theorem wsX60_lawin : GoodIn lw_tbl wsX60 := goodIn_p wsX60 [] (by decide +kernel) (by decide +kernel)
set_option maxRecDepth 20000 in
theorem wsX00_lawin : GoodIn lw_tbl wsX00 := goodIn_p wsX00 [] (by decide +kernel) (by decide +kernel)
set_option maxRecDepth 20000 in
theorem wsX50_lawin : GoodIn lw_tbl wsX50 := goodIn_p wsX50 [] (by decide +kernel) (by decide +kernel)
set_option maxRecDepth 20000 in
theorem wsX30_lawin : GoodIn lw_tbl wsX30 := goodIn_p wsX30 [] (by decide +kernel) (by decide +kernel)
set_option maxRecDepth 20000 in
theorem wsX10_lawin : GoodIn lw_tbl wsX10 := goodIn_p wsX10 [] (by decide +kernel) (by decide +kernel)
theorem wsL_law_good : GoodIn lw_tbl wsL_law := goodIn_app (goodIn_app (goodIn_app (goodIn_app (goodIn_app (goodIn_app (goodIn_app (goodIn_app (goodIn_app (goodIn_app wsL_law_r1_in (goodIn_app wsL_law_r2_in (goodIn_app wsL_law_r3_in (goodIn_app wsL_law_r4_in (goodIn_app wsL_law_r5_in (goodIn_app wsL_law_r6_in (goodIn_app wsL_law_r7_in (goodIn_app wsL_law_r8_in (goodIn_app wsL_law_r9_in (goodIn_app wsL_law_r10_in (goodIn_app wsL_law_r11_in (goodIn_app wsL_law_r12_in (goodIn_app wsL_law_r13_in (goodIn_app wsL_law_r14_in (goodIn_app wsL_law_r15_in (goodIn_app wsL_law_r16_in (goodIn_app wsL_law_r17_in (goodIn_app wsL_law_r18_in (goodIn_app wsL_law_r19_in (goodIn_app wsL_law_r20_in (goodIn_app wsL_law_r21_in (goodIn_app wsL_law_r22_in (goodIn_app wsL_law_r23_in (goodIn_app wsL_law_r24_in (goodIn_app wsL_law_r25_in (goodIn_app wsL_law_r26_in (goodIn_app wsL_law_r27_in (goodIn_app wsL_law_r28_in (goodIn_app wsL_law_r29_in (goodIn_app wsL_law_r30_in (goodIn_app wsL_law_r31_in (goodIn_app wsL_law_r32_in (goodIn_app wsL_law_r33_in (wsL_law_r34_in)))))))))))))))))))))))))))))))))) wsX70_lawin) wsX80_lawin) wsX40_lawin) wsX60_lawin) wsX00_lawin) wsX50_lawin) wsX30_lawin) wsX10_lawin) (fun _ h => absurd h List.not_mem_nil)
theorem wsL_law_in : ∀ w ∈ wsL_law, w ∈ lw_tbl := fun w h => (wsL_law_good w h).1
theorem inlX0 : ∀ w ∈ wsX00, w ∈ wsL_law := fun _ h => List.mem_append_left _ (List.mem_append_left _ (List.mem_append_left _ (List.mem_append_left _ (List.mem_append_right _ h))))
theorem inX0 : ∀ w ∈ wsX00, w ∈ lw_tbl := fun w h => wsL_law_in w (inlX0 w h)
theorem inlX1 : ∀ w ∈ wsX10, w ∈ wsL_law := fun _ h => List.mem_append_left _ (List.mem_append_right _ h)
theorem inX1 : ∀ w ∈ wsX10, w ∈ lw_tbl := fun w h => wsL_law_in w (inlX1 w h)
theorem inX2 : ∀ w ∈ wsX20, w ∈ lw_tbl := by decide +kernel
theorem inlX3 : ∀ w ∈ wsX30, w ∈ wsL_law := fun _ h => List.mem_append_left _ (List.mem_append_left _ (List.mem_append_right _ h))
theorem inX3 : ∀ w ∈ wsX30, w ∈ lw_tbl := fun w h => wsL_law_in w (inlX3 w h)
theorem inlX4 : ∀ w ∈ wsX40, w ∈ wsL_law := fun _ h => List.mem_append_left _ (List.mem_append_left _ (List.mem_append_left _ (List.mem_append_left _ (List.mem_append_left _ (List.mem_append_left _ (List.mem_append_right _ h))))))
theorem inX4 : ∀ w ∈ wsX40, w ∈ lw_tbl := fun w h => wsL_law_in w (inlX4 w h)
theorem inlX5 : ∀ w ∈ wsX50, w ∈ wsL_law := fun _ h => List.mem_append_left _ (List.mem_append_left _ (List.mem_append_left _ (List.mem_append_right _ h)))
theorem inX5 : ∀ w ∈ wsX50, w ∈ lw_tbl := fun w h => wsL_law_in w (inlX5 w h)
theorem inlX6 : ∀ w ∈ wsX60, w ∈ wsL_law := fun _ h => List.mem_append_left _ (List.mem_append_left _ (List.mem_append_left _ (List.mem_append_left _ (List.mem_append_left _ (List.mem_append_right _ h)))))
theorem inX6 : ∀ w ∈ wsX60, w ∈ lw_tbl := fun w h => wsL_law_in w (inlX6 w h)
theorem inlX7 : ∀ w ∈ wsX70, w ∈ wsL_law := fun _ h => List.mem_append_left _ (List.mem_append_left _ (List.mem_append_left _ (List.mem_append_left _ (List.mem_append_left _ (List.mem_append_left _ (List.mem_append_left _ (List.mem_append_left _ (List.mem_append_right _ h))))))))
theorem inX7 : ∀ w ∈ wsX70, w ∈ lw_tbl := fun w h => wsL_law_in w (inlX7 w h)
theorem inlX8 : ∀ w ∈ wsX80, w ∈ wsL_law := fun _ h => List.mem_append_left _ (List.mem_append_left _ (List.mem_append_left _ (List.mem_append_left _ (List.mem_append_left _ (List.mem_append_left _ (List.mem_append_left _ (List.mem_append_right _ h)))))))
theorem inX8 : ∀ w ∈ wsX80, w ∈ lw_tbl := fun w h => wsL_law_in w (inlX8 w h)
theorem inJ9 : ∀ w ∈ wsJ90, w ∈ lw_tbl := by decide +kernel
theorem inJ10 : ∀ w ∈ wsJ100, w ∈ lw_tbl := by decide +kernel
end
section
theorem dX0_init_0 : decode cX0_init 0 = .ok (.aload_n 0, 1) := by decide +kernel
theorem dX0_init_1 : decode cX0_init 1 = .ok (.invokespecial 3, 3) := by decide +kernel
theorem dX0_init_4 : decode cX0_init 4 = .ok (.aload_n 0, 1) := by decide +kernel
theorem dX0_init_5 : decode cX0_init 5 = .ok (.bipush 121, 2) := by decide +kernel
theorem dX0_init_7 : decode cX0_init 7 = .ok (.newarray .boolean, 2) := by decide +kernel
theorem dX0_init_9 : decode cX0_init 9 = .ok (.putfield 9, 3) := by decide +kernel
theorem dX0_init_12 : decode cX0_init 12 = .ok (.aload_n 0, 1) := by decide +kernel
theorem dX0_init_13 : decode cX0_init 13 = .ok (.bipush 121, 2) := by decide +kernel
theorem dX0_init_15 : decode cX0_init 15 = .ok (.newarray .int, 2) := by decide +kernel
theorem dX0_init_17 : decode cX0_init 17 = .ok (.putfield 15, 3) := by decide +kernel
theorem dX0_init_20 : decode cX0_init 20 = .ok (.return_, 1) := by decide +kernel
set_option maxRecDepth 20000 in
theorem ggX0_dropTree_X4_holderOf : GoodIn wsX0_dropTree wsX4_holderOf := goodIn_r _ [7, 8, 9, 10, 11, 6, 12, 13, 22, 23, 24, 25, 26, 27, 28, 29, 30, 31, 32] (by decide +kernel) (by decide +kernel)
set_option maxRecDepth 20000 in
theorem gX0_dropTree_X4_holderOf : GoodIn wsX0_dropTree (wsV RX0 25 RX4 yX4_holderOf wsX4_holderOf) := goodIn_app (goodIn_of _ (by decide +kernel)) ggX0_dropTree_X4_holderOf
set_option maxRecDepth 20000 in
theorem ggX0_dropTree_X4_drop : GoodIn wsX0_dropTree wsX4_drop := goodIn_r _ [17, 13, 18, 19, 8, 20, 21, 22, 23, 24, 25, 26, 27, 28, 29, 30, 31, 32] (by decide +kernel) (by decide +kernel)
set_option maxRecDepth 20000 in
theorem gX0_dropTree_X4_drop : GoodIn wsX0_dropTree (wsV RX0 29 RX4 yX4_drop wsX4_drop) := goodIn_app (goodIn_of _ (by decide +kernel)) ggX0_dropTree_X4_drop
theorem dX0_dropTree_0 : decode cX0_dropTree 0 = .ok (.iconst 0, 1) := by decide +kernel
theorem dX0_dropTree_1 : decode cX0_dropTree 1 = .ok (.istore_n 3, 1) := by decide +kernel
theorem dX0_dropTree_2 : decode cX0_dropTree 2 = .ok (.iload_n 3, 1) := by decide +kernel
theorem dX0_dropTree_3 : decode cX0_dropTree 3 = .ok (.aload_n 1, 1) := by decide +kernel
theorem dX0_dropTree_4 : decode cX0_dropTree 4 = .ok (.getfield 19, 3) := by decide +kernel
theorem dX0_dropTree_7 : decode cX0_dropTree 7 = .ok (.if_icmp .ge 49, 3) := by decide +kernel
theorem dX0_dropTree_10 : decode cX0_dropTree 10 = .ok (.aload_n 1, 1) := by decide +kernel
theorem dX0_dropTree_11 : decode cX0_dropTree 11 = .ok (.iload_n 3, 1) := by decide +kernel
theorem dX0_dropTree_12 : decode cX0_dropTree 12 = .ok (.invokevirtual 25, 3) := by decide +kernel
theorem dX0_dropTree_15 : decode cX0_dropTree 15 = .ok (.istore 4, 2) := by decide +kernel
theorem dX0_dropTree_17 : decode cX0_dropTree 17 = .ok (.aload_n 0, 1) := by decide +kernel
theorem dX0_dropTree_18 : decode cX0_dropTree 18 = .ok (.getfield 9, 3) := by decide +kernel
theorem dX0_dropTree_21 : decode cX0_dropTree 21 = .ok (.iload_n 3, 1) := by decide +kernel
theorem dX0_dropTree_22 : decode cX0_dropTree 22 = .ok (.iload_n 3, 1) := by decide +kernel
theorem dX0_dropTree_23 : decode cX0_dropTree 23 = .ok (.iload_n 2, 1) := by decide +kernel
theorem dX0_dropTree_24 : decode cX0_dropTree 24 = .ok (.if_icmp .eq 20, 3) := by decide +kernel
theorem dX0_dropTree_27 : decode cX0_dropTree 27 = .ok (.iload 4, 2) := by decide +kernel
theorem dX0_dropTree_29 : decode cX0_dropTree 29 = .ok (.bipush (-4), 2) := by decide +kernel
theorem dX0_dropTree_31 : decode cX0_dropTree 31 = .ok (.if_icmp .eq 17, 3) := by decide +kernel
theorem dX0_dropTree_34 : decode cX0_dropTree 34 = .ok (.aload_n 0, 1) := by decide +kernel
theorem dX0_dropTree_35 : decode cX0_dropTree 35 = .ok (.getfield 9, 3) := by decide +kernel
theorem dX0_dropTree_38 : decode cX0_dropTree 38 = .ok (.iload 4, 2) := by decide +kernel
theorem dX0_dropTree_40 : decode cX0_dropTree 40 = .ok (.baload, 1) := by decide +kernel
theorem dX0_dropTree_41 : decode cX0_dropTree 41 = .ok (.ifCond .eq 7, 3) := by decide +kernel
theorem dX0_dropTree_44 : decode cX0_dropTree 44 = .ok (.iconst 1, 1) := by decide +kernel
theorem dX0_dropTree_45 : decode cX0_dropTree 45 = .ok (.goto 4, 3) := by decide +kernel
theorem dX0_dropTree_48 : decode cX0_dropTree 48 = .ok (.iconst 0, 1) := by decide +kernel
theorem dX0_dropTree_49 : decode cX0_dropTree 49 = .ok (.bastore, 1) := by decide +kernel
theorem dX0_dropTree_50 : decode cX0_dropTree 50 = .ok (.iinc 3 1, 3) := by decide +kernel
theorem dX0_dropTree_53 : decode cX0_dropTree 53 = .ok (.goto (-51), 3) := by decide +kernel
theorem dX0_dropTree_56 : decode cX0_dropTree 56 = .ok (.aload_n 1, 1) := by decide +kernel
theorem dX0_dropTree_57 : decode cX0_dropTree 57 = .ok (.aload_n 0, 1) := by decide +kernel
theorem dX0_dropTree_58 : decode cX0_dropTree 58 = .ok (.getfield 9, 3) := by decide +kernel
theorem dX0_dropTree_61 : decode cX0_dropTree 61 = .ok (.aload_n 0, 1) := by decide +kernel
theorem dX0_dropTree_62 : decode cX0_dropTree 62 = .ok (.getfield 15, 3) := by decide +kernel
theorem dX0_dropTree_65 : decode cX0_dropTree 65 = .ok (.invokevirtual 29, 3) := by decide +kernel
theorem dX0_dropTree_68 : decode cX0_dropTree 68 = .ok (.ireturn, 1) := by decide +kernel
set_option maxRecDepth 20000 in
theorem ggX0_dropTips_X4_holderOf : GoodIn wsX0_dropTips wsX4_holderOf := goodIn_r _ [7, 8, 9, 10, 11, 6, 12, 13, 22, 23, 24, 25, 26, 27, 28, 29, 30, 31, 32] (by decide +kernel) (by decide +kernel)
set_option maxRecDepth 20000 in
theorem gX0_dropTips_X4_holderOf : GoodIn wsX0_dropTips (wsV RX0 25 RX4 yX4_holderOf wsX4_holderOf) := goodIn_app (goodIn_of _ (by decide +kernel)) ggX0_dropTips_X4_holderOf
set_option maxRecDepth 20000 in
theorem ggX0_dropTips_X4_drop : GoodIn wsX0_dropTips wsX4_drop := goodIn_r _ [17, 13, 18, 19, 8, 20, 21, 22, 23, 24, 25, 26, 27, 28, 29, 30, 31, 32] (by decide +kernel) (by decide +kernel)
set_option maxRecDepth 20000 in
theorem gX0_dropTips_X4_drop : GoodIn wsX0_dropTips (wsV RX0 29 RX4 yX4_drop wsX4_drop) := goodIn_app (goodIn_of _ (by decide +kernel)) ggX0_dropTips_X4_drop
theorem dX0_dropTips_0 : decode cX0_dropTips 0 = .ok (.iconst 0, 1) := by decide +kernel
theorem dX0_dropTips_1 : decode cX0_dropTips 1 = .ok (.istore_n 2, 1) := by decide +kernel
theorem dX0_dropTips_2 : decode cX0_dropTips 2 = .ok (.iload_n 2, 1) := by decide +kernel
theorem dX0_dropTips_3 : decode cX0_dropTips 3 = .ok (.aload_n 1, 1) := by decide +kernel
theorem dX0_dropTips_4 : decode cX0_dropTips 4 = .ok (.getfield 19, 3) := by decide +kernel
theorem dX0_dropTips_7 : decode cX0_dropTips 7 = .ok (.if_icmp .ge 45, 3) := by decide +kernel
theorem dX0_dropTips_10 : decode cX0_dropTips 10 = .ok (.aload_n 1, 1) := by decide +kernel
theorem dX0_dropTips_11 : decode cX0_dropTips 11 = .ok (.iload_n 2, 1) := by decide +kernel
theorem dX0_dropTips_12 : decode cX0_dropTips 12 = .ok (.invokevirtual 25, 3) := by decide +kernel
theorem dX0_dropTips_15 : decode cX0_dropTips 15 = .ok (.istore_n 3, 1) := by decide +kernel
theorem dX0_dropTips_16 : decode cX0_dropTips 16 = .ok (.aload_n 0, 1) := by decide +kernel
theorem dX0_dropTips_17 : decode cX0_dropTips 17 = .ok (.getfield 9, 3) := by decide +kernel
theorem dX0_dropTips_20 : decode cX0_dropTips 20 = .ok (.iload_n 2, 1) := by decide +kernel
theorem dX0_dropTips_21 : decode cX0_dropTips 21 = .ok (.iload_n 3, 1) := by decide +kernel
theorem dX0_dropTips_22 : decode cX0_dropTips 22 = .ok (.bipush (-4), 2) := by decide +kernel
theorem dX0_dropTips_24 : decode cX0_dropTips 24 = .ok (.if_icmp .eq 7, 3) := by decide +kernel
theorem dX0_dropTips_27 : decode cX0_dropTips 27 = .ok (.iconst 1, 1) := by decide +kernel
theorem dX0_dropTips_28 : decode cX0_dropTips 28 = .ok (.goto 4, 3) := by decide +kernel
theorem dX0_dropTips_31 : decode cX0_dropTips 31 = .ok (.iconst 0, 1) := by decide +kernel
theorem dX0_dropTips_32 : decode cX0_dropTips 32 = .ok (.bastore, 1) := by decide +kernel
theorem dX0_dropTips_33 : decode cX0_dropTips 33 = .ok (.iload_n 3, 1) := by decide +kernel
theorem dX0_dropTips_34 : decode cX0_dropTips 34 = .ok (.bipush (-4), 2) := by decide +kernel
theorem dX0_dropTips_36 : decode cX0_dropTips 36 = .ok (.if_icmp .eq 10, 3) := by decide +kernel
theorem dX0_dropTips_39 : decode cX0_dropTips 39 = .ok (.aload_n 0, 1) := by decide +kernel
theorem dX0_dropTips_40 : decode cX0_dropTips 40 = .ok (.getfield 9, 3) := by decide +kernel
theorem dX0_dropTips_43 : decode cX0_dropTips 43 = .ok (.iload_n 3, 1) := by decide +kernel
theorem dX0_dropTips_44 : decode cX0_dropTips 44 = .ok (.iconst 0, 1) := by decide +kernel
theorem dX0_dropTips_45 : decode cX0_dropTips 45 = .ok (.bastore, 1) := by decide +kernel
theorem dX0_dropTips_46 : decode cX0_dropTips 46 = .ok (.iinc 2 1, 3) := by decide +kernel
theorem dX0_dropTips_49 : decode cX0_dropTips 49 = .ok (.goto (-47), 3) := by decide +kernel
theorem dX0_dropTips_52 : decode cX0_dropTips 52 = .ok (.aload_n 1, 1) := by decide +kernel
theorem dX0_dropTips_53 : decode cX0_dropTips 53 = .ok (.aload_n 0, 1) := by decide +kernel
theorem dX0_dropTips_54 : decode cX0_dropTips 54 = .ok (.getfield 9, 3) := by decide +kernel
theorem dX0_dropTips_57 : decode cX0_dropTips 57 = .ok (.aload_n 0, 1) := by decide +kernel
theorem dX0_dropTips_58 : decode cX0_dropTips 58 = .ok (.getfield 15, 3) := by decide +kernel
theorem dX0_dropTips_61 : decode cX0_dropTips 61 = .ok (.invokevirtual 29, 3) := by decide +kernel
theorem dX0_dropTips_64 : decode cX0_dropTips 64 = .ok (.ireturn, 1) := by decide +kernel
theorem dX1_init_0 : decode cX1_init 0 = .ok (.aload_n 0, 1) := by decide +kernel
theorem dX1_init_1 : decode cX1_init 1 = .ok (.invokespecial 3, 3) := by decide +kernel
theorem dX1_init_4 : decode cX1_init 4 = .ok (.aload_n 0, 1) := by decide +kernel
theorem dX1_init_5 : decode cX1_init 5 = .ok (.bipush 60, 2) := by decide +kernel
theorem dX1_init_7 : decode cX1_init 7 = .ok (.newarray .char, 2) := by decide +kernel
theorem dX1_init_9 : decode cX1_init 9 = .ok (.putfield 9, 3) := by decide +kernel
theorem dX1_init_12 : decode cX1_init 12 = .ok (.aload_n 0, 1) := by decide +kernel
theorem dX1_init_13 : decode cX1_init 13 = .ok (.iconst 0, 1) := by decide +kernel
theorem dX1_init_14 : decode cX1_init 14 = .ok (.putfield 15, 3) := by decide +kernel
theorem dX1_init_17 : decode cX1_init 17 = .ok (.aload_n 0, 1) := by decide +kernel
theorem dX1_init_18 : decode cX1_init 18 = .ok (.iconst 0, 1) := by decide +kernel
theorem dX1_init_19 : decode cX1_init 19 = .ok (.putfield 19, 3) := by decide +kernel
theorem dX1_init_22 : decode cX1_init 22 = .ok (.aload_n 0, 1) := by decide +kernel
theorem dX1_init_23 : decode cX1_init 23 = .ok (.iconst 0, 1) := by decide +kernel
theorem dX1_init_24 : decode cX1_init 24 = .ok (.putfield 22, 3) := by decide +kernel
theorem dX1_init_27 : decode cX1_init 27 = .ok (.aload_n 0, 1) := by decide +kernel
theorem dX1_init_28 : decode cX1_init 28 = .ok (.bipush 32, 2) := by decide +kernel
theorem dX1_init_30 : decode cX1_init 30 = .ok (.putfield 25, 3) := by decide +kernel
theorem dX1_init_33 : decode cX1_init 33 = .ok (.aload_n 0, 1) := by decide +kernel
theorem dX1_init_34 : decode cX1_init 34 = .ok (.iconst (-1), 1) := by decide +kernel
theorem dX1_init_35 : decode cX1_init 35 = .ok (.putfield 29, 3) := by decide +kernel
theorem dX1_init_38 : decode cX1_init 38 = .ok (.return_, 1) := by decide +kernel
theorem dX1_write_0 : decode cX1_write 0 = .ok (.aload_n 0, 1) := by decide +kernel
theorem dX1_write_1 : decode cX1_write 1 = .ok (.getfield 15, 3) := by decide +kernel
theorem dX1_write_4 : decode cX1_write 4 = .ok (.aload_n 0, 1) := by decide +kernel
theorem dX1_write_5 : decode cX1_write 5 = .ok (.getfield 9, 3) := by decide +kernel
theorem dX1_write_8 : decode cX1_write 8 = .ok (.arraylength, 1) := by decide +kernel
theorem dX1_write_9 : decode cX1_write 9 = .ok (.if_icmp .ge 23, 3) := by decide +kernel
theorem dX1_write_12 : decode cX1_write 12 = .ok (.aload_n 0, 1) := by decide +kernel
theorem dX1_write_13 : decode cX1_write 13 = .ok (.getfield 9, 3) := by decide +kernel
theorem dX1_write_16 : decode cX1_write 16 = .ok (.aload_n 0, 1) := by decide +kernel
theorem dX1_write_17 : decode cX1_write 17 = .ok (.getfield 15, 3) := by decide +kernel
theorem dX1_write_20 : decode cX1_write 20 = .ok (.iload_n 1, 1) := by decide +kernel
theorem dX1_write_21 : decode cX1_write 21 = .ok (.castore, 1) := by decide +kernel
theorem dX1_write_22 : decode cX1_write 22 = .ok (.aload_n 0, 1) := by decide +kernel
theorem dX1_write_23 : decode cX1_write 23 = .ok (.dup, 1) := by decide +kernel
theorem dX1_write_24 : decode cX1_write 24 = .ok (.getfield 15, 3) := by decide +kernel
theorem dX1_write_27 : decode cX1_write 27 = .ok (.iconst 1, 1) := by decide +kernel
theorem dX1_write_28 : decode cX1_write 28 = .ok (.iadd, 1) := by decide +kernel
theorem dX1_write_29 : decode cX1_write 29 = .ok (.putfield 15, 3) := by decide +kernel
theorem dX1_write_32 : decode cX1_write 32 = .ok (.return_, 1) := by decide +kernel
theorem dX1_wipe_0 : decode cX1_wipe 0 = .ok (.aload_n 0, 1) := by decide +kernel
theorem dX1_wipe_1 : decode cX1_wipe 1 = .ok (.iconst 0, 1) := by decide +kernel
theorem dX1_wipe_2 : decode cX1_wipe 2 = .ok (.putfield 15, 3) := by decide +kernel
theorem dX1_wipe_5 : decode cX1_wipe 5 = .ok (.return_, 1) := by decide +kernel
set_option maxRecDepth 20000 in
theorem ggX1_firstWrong_X1_isLetter : GoodIn wsX1_firstWrong wsX1_isLetter := goodIn_r _ [6] (by decide +kernel) (by decide +kernel)
set_option maxRecDepth 20000 in
theorem gX1_firstWrong_X1_isLetter : GoodIn wsX1_firstWrong (va_wsS RX1 32 yX1_isLetter wsX1_isLetter) := goodIn_app (goodIn_of _ (by decide +kernel)) ggX1_firstWrong_X1_isLetter
set_option maxRecDepth 20000 in
theorem ggX1_firstWrong_X1_isWhole : GoodIn wsX1_firstWrong wsX1_isWhole := goodIn_r _ [9] (by decide +kernel) (by decide +kernel)
set_option maxRecDepth 20000 in
theorem gX1_firstWrong_X1_isWhole : GoodIn wsX1_firstWrong (va_wsS RX1 36 yX1_isWhole wsX1_isWhole) := goodIn_app (goodIn_of _ (by decide +kernel)) ggX1_firstWrong_X1_isWhole
set_option maxRecDepth 20000 in
theorem ggX1_firstWrong_X1_withDigit : GoodIn wsX1_firstWrong wsX1_withDigit := goodIn_r _ [12] (by decide +kernel) (by decide +kernel)
set_option maxRecDepth 20000 in
theorem gX1_firstWrong_X1_withDigit : GoodIn wsX1_firstWrong (va_wsS RX1 40 yX1_withDigit wsX1_withDigit) := goodIn_app (goodIn_of _ (by decide +kernel)) ggX1_firstWrong_X1_withDigit
theorem dX1_firstWrong_0 : decode cX1_firstWrong 0 = .ok (.bipush 32, 2) := by decide +kernel
theorem dX1_firstWrong_2 : decode cX1_firstWrong 2 = .ok (.istore_n 1, 1) := by decide +kernel
theorem dX1_firstWrong_3 : decode cX1_firstWrong 3 = .ok (.iconst (-1), 1) := by decide +kernel
theorem dX1_firstWrong_4 : decode cX1_firstWrong 4 = .ok (.istore_n 2, 1) := by decide +kernel
theorem dX1_firstWrong_5 : decode cX1_firstWrong 5 = .ok (.iconst 0, 1) := by decide +kernel
theorem dX1_firstWrong_6 : decode cX1_firstWrong 6 = .ok (.istore_n 3, 1) := by decide +kernel
theorem dX1_firstWrong_7 : decode cX1_firstWrong 7 = .ok (.iload_n 3, 1) := by decide +kernel
theorem dX1_firstWrong_8 : decode cX1_firstWrong 8 = .ok (.aload_n 0, 1) := by decide +kernel
theorem dX1_firstWrong_9 : decode cX1_firstWrong 9 = .ok (.getfield 15, 3) := by decide +kernel
theorem dX1_firstWrong_12 : decode cX1_firstWrong 12 = .ok (.if_icmp .ge 80, 3) := by decide +kernel
theorem dX1_firstWrong_15 : decode cX1_firstWrong 15 = .ok (.aload_n 0, 1) := by decide +kernel
theorem dX1_firstWrong_16 : decode cX1_firstWrong 16 = .ok (.getfield 9, 3) := by decide +kernel
theorem dX1_firstWrong_19 : decode cX1_firstWrong 19 = .ok (.iload_n 3, 1) := by decide +kernel
theorem dX1_firstWrong_20 : decode cX1_firstWrong 20 = .ok (.caload, 1) := by decide +kernel
theorem dX1_firstWrong_21 : decode cX1_firstWrong 21 = .ok (.istore 4, 2) := by decide +kernel
theorem dX1_firstWrong_23 : decode cX1_firstWrong 23 = .ok (.iload_n 1, 1) := by decide +kernel
theorem dX1_firstWrong_24 : decode cX1_firstWrong 24 = .ok (.bipush 32, 2) := by decide +kernel
theorem dX1_firstWrong_26 : decode cX1_firstWrong 26 = .ok (.if_icmp .ne 21, 3) := by decide +kernel
theorem dX1_firstWrong_29 : decode cX1_firstWrong 29 = .ok (.iload 4, 2) := by decide +kernel
theorem dX1_firstWrong_31 : decode cX1_firstWrong 31 = .ok (.invokestatic 32, 3) := by decide +kernel
theorem dX1_firstWrong_34 : decode cX1_firstWrong 34 = .ok (.ifCond .ne 5, 3) := by decide +kernel
theorem dX1_firstWrong_37 : decode cX1_firstWrong 37 = .ok (.iload_n 3, 1) := by decide +kernel
theorem dX1_firstWrong_38 : decode cX1_firstWrong 38 = .ok (.ireturn, 1) := by decide +kernel
theorem dX1_firstWrong_39 : decode cX1_firstWrong 39 = .ok (.iload 4, 2) := by decide +kernel
theorem dX1_firstWrong_41 : decode cX1_firstWrong 41 = .ok (.istore_n 1, 1) := by decide +kernel
theorem dX1_firstWrong_42 : decode cX1_firstWrong 42 = .ok (.iconst (-1), 1) := by decide +kernel
theorem dX1_firstWrong_43 : decode cX1_firstWrong 43 = .ok (.istore_n 2, 1) := by decide +kernel
theorem dX1_firstWrong_44 : decode cX1_firstWrong 44 = .ok (.goto 42, 3) := by decide +kernel
theorem dX1_firstWrong_47 : decode cX1_firstWrong 47 = .ok (.iload 4, 2) := by decide +kernel
theorem dX1_firstWrong_49 : decode cX1_firstWrong 49 = .ok (.bipush 59, 2) := by decide +kernel
theorem dX1_firstWrong_51 : decode cX1_firstWrong 51 = .ok (.if_icmp .ne 19, 3) := by decide +kernel
theorem dX1_firstWrong_54 : decode cX1_firstWrong 54 = .ok (.iload_n 1, 1) := by decide +kernel
theorem dX1_firstWrong_55 : decode cX1_firstWrong 55 = .ok (.iload_n 2, 1) := by decide +kernel
theorem dX1_firstWrong_56 : decode cX1_firstWrong 56 = .ok (.invokestatic 36, 3) := by decide +kernel
theorem dX1_firstWrong_59 : decode cX1_firstWrong 59 = .ok (.ifCond .ne 5, 3) := by decide +kernel
theorem dX1_firstWrong_62 : decode cX1_firstWrong 62 = .ok (.iload_n 3, 1) := by decide +kernel
theorem dX1_firstWrong_63 : decode cX1_firstWrong 63 = .ok (.ireturn, 1) := by decide +kernel
theorem dX1_firstWrong_64 : decode cX1_firstWrong 64 = .ok (.bipush 32, 2) := by decide +kernel
theorem dX1_firstWrong_66 : decode cX1_firstWrong 66 = .ok (.istore_n 1, 1) := by decide +kernel
theorem dX1_firstWrong_67 : decode cX1_firstWrong 67 = .ok (.goto 19, 3) := by decide +kernel
theorem dX1_firstWrong_70 : decode cX1_firstWrong 70 = .ok (.iload_n 1, 1) := by decide +kernel
theorem dX1_firstWrong_71 : decode cX1_firstWrong 71 = .ok (.iload_n 2, 1) := by decide +kernel
theorem dX1_firstWrong_72 : decode cX1_firstWrong 72 = .ok (.iload 4, 2) := by decide +kernel
theorem dX1_firstWrong_74 : decode cX1_firstWrong 74 = .ok (.invokestatic 40, 3) := by decide +kernel
theorem dX1_firstWrong_77 : decode cX1_firstWrong 77 = .ok (.istore_n 2, 1) := by decide +kernel
theorem dX1_firstWrong_78 : decode cX1_firstWrong 78 = .ok (.iload_n 2, 1) := by decide +kernel
theorem dX1_firstWrong_79 : decode cX1_firstWrong 79 = .ok (.bipush (-2), 2) := by decide +kernel
theorem dX1_firstWrong_81 : decode cX1_firstWrong 81 = .ok (.if_icmp .ne 5, 3) := by decide +kernel
theorem dX1_firstWrong_84 : decode cX1_firstWrong 84 = .ok (.iload_n 3, 1) := by decide +kernel
theorem dX1_firstWrong_85 : decode cX1_firstWrong 85 = .ok (.ireturn, 1) := by decide +kernel
theorem dX1_firstWrong_86 : decode cX1_firstWrong 86 = .ok (.iinc 3 1, 3) := by decide +kernel
theorem dX1_firstWrong_89 : decode cX1_firstWrong 89 = .ok (.goto (-82), 3) := by decide +kernel
theorem dX1_firstWrong_92 : decode cX1_firstWrong 92 = .ok (.iload_n 1, 1) := by decide +kernel
theorem dX1_firstWrong_93 : decode cX1_firstWrong 93 = .ok (.iload_n 2, 1) := by decide +kernel
theorem dX1_firstWrong_94 : decode cX1_firstWrong 94 = .ok (.invokestatic 36, 3) := by decide +kernel
theorem dX1_firstWrong_97 : decode cX1_firstWrong 97 = .ok (.ifCond .eq 8, 3) := by decide +kernel
theorem dX1_firstWrong_100 : decode cX1_firstWrong 100 = .ok (.bipush (-4), 2) := by decide +kernel
theorem dX1_firstWrong_102 : decode cX1_firstWrong 102 = .ok (.goto 7, 3) := by decide +kernel
theorem dX1_firstWrong_105 : decode cX1_firstWrong 105 = .ok (.aload_n 0, 1) := by decide +kernel
theorem dX1_firstWrong_106 : decode cX1_firstWrong 106 = .ok (.getfield 15, 3) := by decide +kernel
theorem dX1_firstWrong_109 : decode cX1_firstWrong 109 = .ok (.ireturn, 1) := by decide +kernel
theorem dX1_isLetter_0 : decode cX1_isLetter 0 = .ok (.iload_n 0, 1) := by decide +kernel
theorem dX1_isLetter_1 : decode cX1_isLetter 1 = .ok (.bipush 103, 2) := by decide +kernel
theorem dX1_isLetter_3 : decode cX1_isLetter 3 = .ok (.if_icmp .eq 15, 3) := by decide +kernel
theorem dX1_isLetter_6 : decode cX1_isLetter 6 = .ok (.iload_n 0, 1) := by decide +kernel
theorem dX1_isLetter_7 : decode cX1_isLetter 7 = .ok (.bipush 98, 2) := by decide +kernel
theorem dX1_isLetter_9 : decode cX1_isLetter 9 = .ok (.if_icmp .eq 9, 3) := by decide +kernel
theorem dX1_isLetter_12 : decode cX1_isLetter 12 = .ok (.iload_n 0, 1) := by decide +kernel
theorem dX1_isLetter_13 : decode cX1_isLetter 13 = .ok (.bipush 119, 2) := by decide +kernel
theorem dX1_isLetter_15 : decode cX1_isLetter 15 = .ok (.if_icmp .ne 7, 3) := by decide +kernel
theorem dX1_isLetter_18 : decode cX1_isLetter 18 = .ok (.iconst 1, 1) := by decide +kernel
theorem dX1_isLetter_19 : decode cX1_isLetter 19 = .ok (.goto 4, 3) := by decide +kernel
theorem dX1_isLetter_22 : decode cX1_isLetter 22 = .ok (.iconst 0, 1) := by decide +kernel
theorem dX1_isLetter_23 : decode cX1_isLetter 23 = .ok (.ireturn, 1) := by decide +kernel
theorem dX1_isWhole_0 : decode cX1_isWhole 0 = .ok (.iload_n 0, 1) := by decide +kernel
theorem dX1_isWhole_1 : decode cX1_isWhole 1 = .ok (.bipush 119, 2) := by decide +kernel
theorem dX1_isWhole_3 : decode cX1_isWhole 3 = .ok (.if_icmp .eq 14, 3) := by decide +kernel
theorem dX1_isWhole_6 : decode cX1_isWhole 6 = .ok (.iload_n 0, 1) := by decide +kernel
theorem dX1_isWhole_7 : decode cX1_isWhole 7 = .ok (.bipush 32, 2) := by decide +kernel
theorem dX1_isWhole_9 : decode cX1_isWhole 9 = .ok (.if_icmp .eq 12, 3) := by decide +kernel
theorem dX1_isWhole_12 : decode cX1_isWhole 12 = .ok (.iload_n 1, 1) := by decide +kernel
theorem dX1_isWhole_13 : decode cX1_isWhole 13 = .ok (.iconst (-1), 1) := by decide +kernel
theorem dX1_isWhole_14 : decode cX1_isWhole 14 = .ok (.if_icmp .eq 7, 3) := by decide +kernel
theorem dX1_isWhole_17 : decode cX1_isWhole 17 = .ok (.iconst 1, 1) := by decide +kernel
theorem dX1_isWhole_18 : decode cX1_isWhole 18 = .ok (.goto 4, 3) := by decide +kernel
theorem dX1_isWhole_21 : decode cX1_isWhole 21 = .ok (.iconst 0, 1) := by decide +kernel
theorem dX1_isWhole_22 : decode cX1_isWhole 22 = .ok (.ireturn, 1) := by decide +kernel
theorem dX1_withDigit_0 : decode cX1_withDigit 0 = .ok (.iload_n 0, 1) := by decide +kernel
theorem dX1_withDigit_1 : decode cX1_withDigit 1 = .ok (.bipush 119, 2) := by decide +kernel
theorem dX1_withDigit_3 : decode cX1_withDigit 3 = .ok (.if_icmp .eq 19, 3) := by decide +kernel
theorem dX1_withDigit_6 : decode cX1_withDigit 6 = .ok (.iload_n 2, 1) := by decide +kernel
theorem dX1_withDigit_7 : decode cX1_withDigit 7 = .ok (.bipush 48, 2) := by decide +kernel
theorem dX1_withDigit_9 : decode cX1_withDigit 9 = .ok (.if_icmp .lt 13, 3) := by decide +kernel
theorem dX1_withDigit_12 : decode cX1_withDigit 12 = .ok (.iload_n 2, 1) := by decide +kernel
theorem dX1_withDigit_13 : decode cX1_withDigit 13 = .ok (.bipush 57, 2) := by decide +kernel
theorem dX1_withDigit_15 : decode cX1_withDigit 15 = .ok (.if_icmp .gt 7, 3) := by decide +kernel
theorem dX1_withDigit_18 : decode cX1_withDigit 18 = .ok (.iload_n 1, 1) := by decide +kernel
theorem dX1_withDigit_19 : decode cX1_withDigit 19 = .ok (.ifCond .ne 6, 3) := by decide +kernel
theorem dX1_withDigit_22 : decode cX1_withDigit 22 = .ok (.bipush (-2), 2) := by decide +kernel
theorem dX1_withDigit_24 : decode cX1_withDigit 24 = .ok (.ireturn, 1) := by decide +kernel
theorem dX1_withDigit_25 : decode cX1_withDigit 25 = .ok (.iload_n 2, 1) := by decide +kernel
theorem dX1_withDigit_26 : decode cX1_withDigit 26 = .ok (.bipush 48, 2) := by decide +kernel
theorem dX1_withDigit_28 : decode cX1_withDigit 28 = .ok (.isub, 1) := by decide +kernel
theorem dX1_withDigit_29 : decode cX1_withDigit 29 = .ok (.istore_n 3, 1) := by decide +kernel
theorem dX1_withDigit_30 : decode cX1_withDigit 30 = .ok (.iload_n 1, 1) := by decide +kernel
theorem dX1_withDigit_31 : decode cX1_withDigit 31 = .ok (.iconst (-1), 1) := by decide +kernel
theorem dX1_withDigit_32 : decode cX1_withDigit 32 = .ok (.if_icmp .ne 7, 3) := by decide +kernel
theorem dX1_withDigit_35 : decode cX1_withDigit 35 = .ok (.iload_n 3, 1) := by decide +kernel
theorem dX1_withDigit_36 : decode cX1_withDigit 36 = .ok (.goto 9, 3) := by decide +kernel
theorem dX1_withDigit_39 : decode cX1_withDigit 39 = .ok (.bipush 10, 2) := by decide +kernel
theorem dX1_withDigit_41 : decode cX1_withDigit 41 = .ok (.iload_n 1, 1) := by decide +kernel
theorem dX1_withDigit_42 : decode cX1_withDigit 42 = .ok (.imul, 1) := by decide +kernel
theorem dX1_withDigit_43 : decode cX1_withDigit 43 = .ok (.iload_n 3, 1) := by decide +kernel
theorem dX1_withDigit_44 : decode cX1_withDigit 44 = .ok (.iadd, 1) := by decide +kernel
theorem dX1_withDigit_45 : decode cX1_withDigit 45 = .ok (.istore 4, 2) := by decide +kernel
theorem dX1_withDigit_47 : decode cX1_withDigit 47 = .ok (.iload_n 0, 1) := by decide +kernel
theorem dX1_withDigit_48 : decode cX1_withDigit 48 = .ok (.bipush 103, 2) := by decide +kernel
theorem dX1_withDigit_50 : decode cX1_withDigit 50 = .ok (.if_icmp .ne 8, 3) := by decide +kernel
theorem dX1_withDigit_53 : decode cX1_withDigit 53 = .ok (.bipush 39, 2) := by decide +kernel
theorem dX1_withDigit_55 : decode cX1_withDigit 55 = .ok (.goto 5, 3) := by decide +kernel
theorem dX1_withDigit_58 : decode cX1_withDigit 58 = .ok (.bipush 120, 2) := by decide +kernel
theorem dX1_withDigit_60 : decode cX1_withDigit 60 = .ok (.istore 5, 2) := by decide +kernel
theorem dX1_withDigit_62 : decode cX1_withDigit 62 = .ok (.iload 4, 2) := by decide +kernel
theorem dX1_withDigit_64 : decode cX1_withDigit 64 = .ok (.iload 5, 2) := by decide +kernel
theorem dX1_withDigit_66 : decode cX1_withDigit 66 = .ok (.if_icmp .gt 8, 3) := by decide +kernel
theorem dX1_withDigit_69 : decode cX1_withDigit 69 = .ok (.iload 4, 2) := by decide +kernel
theorem dX1_withDigit_71 : decode cX1_withDigit 71 = .ok (.goto 5, 3) := by decide +kernel
theorem dX1_withDigit_74 : decode cX1_withDigit 74 = .ok (.bipush (-2), 2) := by decide +kernel
theorem dX1_withDigit_76 : decode cX1_withDigit 76 = .ok (.ireturn, 1) := by decide +kernel
theorem dX1_startReading_0 : decode cX1_startReading 0 = .ok (.aload_n 0, 1) := by decide +kernel
theorem dX1_startReading_1 : decode cX1_startReading 1 = .ok (.iconst 0, 1) := by decide +kernel
theorem dX1_startReading_2 : decode cX1_startReading 2 = .ok (.putfield 19, 3) := by decide +kernel
theorem dX1_startReading_5 : decode cX1_startReading 5 = .ok (.return_, 1) := by decide +kernel
theorem dX1_readDeed_0 : decode cX1_readDeed 0 = .ok (.aload_n 0, 1) := by decide +kernel
theorem dX1_readDeed_1 : decode cX1_readDeed 1 = .ok (.getfield 19, 3) := by decide +kernel
theorem dX1_readDeed_4 : decode cX1_readDeed 4 = .ok (.aload_n 0, 1) := by decide +kernel
theorem dX1_readDeed_5 : decode cX1_readDeed 5 = .ok (.getfield 15, 3) := by decide +kernel
theorem dX1_readDeed_8 : decode cX1_readDeed 8 = .ok (.if_icmp .lt 5, 3) := by decide +kernel
theorem dX1_readDeed_11 : decode cX1_readDeed 11 = .ok (.iconst 0, 1) := by decide +kernel
theorem dX1_readDeed_12 : decode cX1_readDeed 12 = .ok (.ireturn, 1) := by decide +kernel
theorem dX1_readDeed_13 : decode cX1_readDeed 13 = .ok (.aload_n 0, 1) := by decide +kernel
theorem dX1_readDeed_14 : decode cX1_readDeed 14 = .ok (.aload_n 0, 1) := by decide +kernel
theorem dX1_readDeed_15 : decode cX1_readDeed 15 = .ok (.getfield 19, 3) := by decide +kernel
theorem dX1_readDeed_18 : decode cX1_readDeed 18 = .ok (.putfield 22, 3) := by decide +kernel
theorem dX1_readDeed_21 : decode cX1_readDeed 21 = .ok (.aload_n 0, 1) := by decide +kernel
theorem dX1_readDeed_22 : decode cX1_readDeed 22 = .ok (.aload_n 0, 1) := by decide +kernel
theorem dX1_readDeed_23 : decode cX1_readDeed 23 = .ok (.getfield 9, 3) := by decide +kernel
theorem dX1_readDeed_26 : decode cX1_readDeed 26 = .ok (.aload_n 0, 1) := by decide +kernel
theorem dX1_readDeed_27 : decode cX1_readDeed 27 = .ok (.getfield 19, 3) := by decide +kernel
theorem dX1_readDeed_30 : decode cX1_readDeed 30 = .ok (.caload, 1) := by decide +kernel
theorem dX1_readDeed_31 : decode cX1_readDeed 31 = .ok (.putfield 25, 3) := by decide +kernel
theorem dX1_readDeed_34 : decode cX1_readDeed 34 = .ok (.aload_n 0, 1) := by decide +kernel
theorem dX1_readDeed_35 : decode cX1_readDeed 35 = .ok (.iconst 0, 1) := by decide +kernel
theorem dX1_readDeed_36 : decode cX1_readDeed 36 = .ok (.putfield 29, 3) := by decide +kernel
theorem dX1_readDeed_39 : decode cX1_readDeed 39 = .ok (.aload_n 0, 1) := by decide +kernel
theorem dX1_readDeed_40 : decode cX1_readDeed 40 = .ok (.dup, 1) := by decide +kernel
theorem dX1_readDeed_41 : decode cX1_readDeed 41 = .ok (.getfield 19, 3) := by decide +kernel
theorem dX1_readDeed_44 : decode cX1_readDeed 44 = .ok (.iconst 1, 1) := by decide +kernel
theorem dX1_readDeed_45 : decode cX1_readDeed 45 = .ok (.iadd, 1) := by decide +kernel
theorem dX1_readDeed_46 : decode cX1_readDeed 46 = .ok (.putfield 19, 3) := by decide +kernel
theorem dX1_readDeed_49 : decode cX1_readDeed 49 = .ok (.aload_n 0, 1) := by decide +kernel
theorem dX1_readDeed_50 : decode cX1_readDeed 50 = .ok (.getfield 19, 3) := by decide +kernel
theorem dX1_readDeed_53 : decode cX1_readDeed 53 = .ok (.aload_n 0, 1) := by decide +kernel
theorem dX1_readDeed_54 : decode cX1_readDeed 54 = .ok (.getfield 15, 3) := by decide +kernel
theorem dX1_readDeed_57 : decode cX1_readDeed 57 = .ok (.if_icmp .ge 54, 3) := by decide +kernel
theorem dX1_readDeed_60 : decode cX1_readDeed 60 = .ok (.aload_n 0, 1) := by decide +kernel
theorem dX1_readDeed_61 : decode cX1_readDeed 61 = .ok (.getfield 9, 3) := by decide +kernel
theorem dX1_readDeed_64 : decode cX1_readDeed 64 = .ok (.aload_n 0, 1) := by decide +kernel
theorem dX1_readDeed_65 : decode cX1_readDeed 65 = .ok (.getfield 19, 3) := by decide +kernel
theorem dX1_readDeed_68 : decode cX1_readDeed 68 = .ok (.caload, 1) := by decide +kernel
theorem dX1_readDeed_69 : decode cX1_readDeed 69 = .ok (.bipush 59, 2) := by decide +kernel
theorem dX1_readDeed_71 : decode cX1_readDeed 71 = .ok (.if_icmp .eq 40, 3) := by decide +kernel
theorem dX1_readDeed_74 : decode cX1_readDeed 74 = .ok (.aload_n 0, 1) := by decide +kernel
theorem dX1_readDeed_75 : decode cX1_readDeed 75 = .ok (.bipush 10, 2) := by decide +kernel
theorem dX1_readDeed_77 : decode cX1_readDeed 77 = .ok (.aload_n 0, 1) := by decide +kernel
theorem dX1_readDeed_78 : decode cX1_readDeed 78 = .ok (.getfield 29, 3) := by decide +kernel
theorem dX1_readDeed_81 : decode cX1_readDeed 81 = .ok (.imul, 1) := by decide +kernel
theorem dX1_readDeed_82 : decode cX1_readDeed 82 = .ok (.aload_n 0, 1) := by decide +kernel
theorem dX1_readDeed_83 : decode cX1_readDeed 83 = .ok (.getfield 9, 3) := by decide +kernel
theorem dX1_readDeed_86 : decode cX1_readDeed 86 = .ok (.aload_n 0, 1) := by decide +kernel
theorem dX1_readDeed_87 : decode cX1_readDeed 87 = .ok (.getfield 19, 3) := by decide +kernel
theorem dX1_readDeed_90 : decode cX1_readDeed 90 = .ok (.caload, 1) := by decide +kernel
theorem dX1_readDeed_91 : decode cX1_readDeed 91 = .ok (.iadd, 1) := by decide +kernel
theorem dX1_readDeed_92 : decode cX1_readDeed 92 = .ok (.bipush 48, 2) := by decide +kernel
theorem dX1_readDeed_94 : decode cX1_readDeed 94 = .ok (.isub, 1) := by decide +kernel
theorem dX1_readDeed_95 : decode cX1_readDeed 95 = .ok (.putfield 29, 3) := by decide +kernel
theorem dX1_readDeed_98 : decode cX1_readDeed 98 = .ok (.aload_n 0, 1) := by decide +kernel
theorem dX1_readDeed_99 : decode cX1_readDeed 99 = .ok (.dup, 1) := by decide +kernel
theorem dX1_readDeed_100 : decode cX1_readDeed 100 = .ok (.getfield 19, 3) := by decide +kernel
theorem dX1_readDeed_103 : decode cX1_readDeed 103 = .ok (.iconst 1, 1) := by decide +kernel
theorem dX1_readDeed_104 : decode cX1_readDeed 104 = .ok (.iadd, 1) := by decide +kernel
theorem dX1_readDeed_105 : decode cX1_readDeed 105 = .ok (.putfield 19, 3) := by decide +kernel
theorem dX1_readDeed_108 : decode cX1_readDeed 108 = .ok (.goto (-59), 3) := by decide +kernel
theorem dX1_readDeed_111 : decode cX1_readDeed 111 = .ok (.aload_n 0, 1) := by decide +kernel
theorem dX1_readDeed_112 : decode cX1_readDeed 112 = .ok (.dup, 1) := by decide +kernel
theorem dX1_readDeed_113 : decode cX1_readDeed 113 = .ok (.getfield 19, 3) := by decide +kernel
theorem dX1_readDeed_116 : decode cX1_readDeed 116 = .ok (.iconst 1, 1) := by decide +kernel
theorem dX1_readDeed_117 : decode cX1_readDeed 117 = .ok (.iadd, 1) := by decide +kernel
theorem dX1_readDeed_118 : decode cX1_readDeed 118 = .ok (.putfield 19, 3) := by decide +kernel
theorem dX1_readDeed_121 : decode cX1_readDeed 121 = .ok (.iconst 1, 1) := by decide +kernel
theorem dX1_readDeed_122 : decode cX1_readDeed 122 = .ok (.ireturn, 1) := by decide +kernel
theorem dX2_isCell_0 : decode cX2_isCell 0 = .ok (.iload_n 0, 1) := by decide +kernel
theorem dX2_isCell_1 : decode cX2_isCell 1 = .ok (.ifCond .lt 13, 3) := by decide +kernel
theorem dX2_isCell_4 : decode cX2_isCell 4 = .ok (.iload_n 0, 1) := by decide +kernel
theorem dX2_isCell_5 : decode cX2_isCell 5 = .ok (.bipush 121, 2) := by decide +kernel
theorem dX2_isCell_7 : decode cX2_isCell 7 = .ok (.if_icmp .ge 7, 3) := by decide +kernel
theorem dX2_isCell_10 : decode cX2_isCell 10 = .ok (.iconst 1, 1) := by decide +kernel
theorem dX2_isCell_11 : decode cX2_isCell 11 = .ok (.goto 4, 3) := by decide +kernel
theorem dX2_isCell_14 : decode cX2_isCell 14 = .ok (.iconst 0, 1) := by decide +kernel
theorem dX2_isCell_15 : decode cX2_isCell 15 = .ok (.ireturn, 1) := by decide +kernel
theorem dX2_isRim_0 : decode cX2_isRim 0 = .ok (.iload_n 0, 1) := by decide +kernel
theorem dX2_isRim_1 : decode cX2_isRim 1 = .ok (.ifCond .lt 13, 3) := by decide +kernel
theorem dX2_isRim_4 : decode cX2_isRim 4 = .ok (.iload_n 0, 1) := by decide +kernel
theorem dX2_isRim_5 : decode cX2_isRim 5 = .ok (.bipush 40, 2) := by decide +kernel
theorem dX2_isRim_7 : decode cX2_isRim 7 = .ok (.if_icmp .ge 7, 3) := by decide +kernel
theorem dX2_isRim_10 : decode cX2_isRim 10 = .ok (.iconst 1, 1) := by decide +kernel
theorem dX2_isRim_11 : decode cX2_isRim 11 = .ok (.goto 4, 3) := by decide +kernel
theorem dX2_isRim_14 : decode cX2_isRim 14 = .ok (.iconst 0, 1) := by decide +kernel
theorem dX2_isRim_15 : decode cX2_isRim 15 = .ok (.ireturn, 1) := by decide +kernel
theorem dX2_neighbour_0 : decode cX2_neighbour 0 = .ok (.iload_n 0, 1) := by decide +kernel
theorem dX2_neighbour_1 : decode cX2_neighbour 1 = .ok (.ifCond .lt 9, 3) := by decide +kernel
theorem dX2_neighbour_4 : decode cX2_neighbour 4 = .ok (.iload_n 0, 1) := by decide +kernel
theorem dX2_neighbour_5 : decode cX2_neighbour 5 = .ok (.bipush 121, 2) := by decide +kernel
theorem dX2_neighbour_7 : decode cX2_neighbour 7 = .ok (.if_icmp .lt 6, 3) := by decide +kernel
theorem dX2_neighbour_10 : decode cX2_neighbour 10 = .ok (.bipush (-4), 2) := by decide +kernel
theorem dX2_neighbour_12 : decode cX2_neighbour 12 = .ok (.ireturn, 1) := by decide +kernel
theorem dX2_neighbour_13 : decode cX2_neighbour 13 = .ok (.iload_n 0, 1) := by decide +kernel
theorem dX2_neighbour_14 : decode cX2_neighbour 14 = .ok (.bipush 11, 2) := by decide +kernel
theorem dX2_neighbour_16 : decode cX2_neighbour 16 = .ok (.idiv, 1) := by decide +kernel
theorem dX2_neighbour_17 : decode cX2_neighbour 17 = .ok (.istore_n 2, 1) := by decide +kernel
theorem dX2_neighbour_18 : decode cX2_neighbour 18 = .ok (.iload_n 0, 1) := by decide +kernel
theorem dX2_neighbour_19 : decode cX2_neighbour 19 = .ok (.bipush 11, 2) := by decide +kernel
theorem dX2_neighbour_21 : decode cX2_neighbour 21 = .ok (.irem, 1) := by decide +kernel
theorem dX2_neighbour_22 : decode cX2_neighbour 22 = .ok (.istore_n 3, 1) := by decide +kernel
theorem dX2_neighbour_23 : decode cX2_neighbour 23 = .ok (.iload_n 1, 1) := by decide +kernel
theorem dX2_neighbour_24 : decode cX2_neighbour 24 = .ok (.tableswitch 90 0 3 #[32, 46, 61, 77], 32) := by decide +kernel
theorem dX2_neighbour_56 : decode cX2_neighbour 56 = .ok (.iload_n 2, 1) := by decide +kernel
theorem dX2_neighbour_57 : decode cX2_neighbour 57 = .ok (.ifCond .le 10, 3) := by decide +kernel
theorem dX2_neighbour_60 : decode cX2_neighbour 60 = .ok (.iload_n 0, 1) := by decide +kernel
theorem dX2_neighbour_61 : decode cX2_neighbour 61 = .ok (.bipush 11, 2) := by decide +kernel
theorem dX2_neighbour_63 : decode cX2_neighbour 63 = .ok (.isub, 1) := by decide +kernel
theorem dX2_neighbour_64 : decode cX2_neighbour 64 = .ok (.goto 5, 3) := by decide +kernel
theorem dX2_neighbour_67 : decode cX2_neighbour 67 = .ok (.bipush (-4), 2) := by decide +kernel
theorem dX2_neighbour_69 : decode cX2_neighbour 69 = .ok (.ireturn, 1) := by decide +kernel
theorem dX2_neighbour_70 : decode cX2_neighbour 70 = .ok (.iload_n 3, 1) := by decide +kernel
theorem dX2_neighbour_71 : decode cX2_neighbour 71 = .ok (.bipush 10, 2) := by decide +kernel
theorem dX2_neighbour_73 : decode cX2_neighbour 73 = .ok (.if_icmp .ge 9, 3) := by decide +kernel
theorem dX2_neighbour_76 : decode cX2_neighbour 76 = .ok (.iload_n 0, 1) := by decide +kernel
theorem dX2_neighbour_77 : decode cX2_neighbour 77 = .ok (.iconst 1, 1) := by decide +kernel
theorem dX2_neighbour_78 : decode cX2_neighbour 78 = .ok (.iadd, 1) := by decide +kernel
theorem dX2_neighbour_79 : decode cX2_neighbour 79 = .ok (.goto 5, 3) := by decide +kernel
theorem dX2_neighbour_82 : decode cX2_neighbour 82 = .ok (.bipush (-4), 2) := by decide +kernel
theorem dX2_neighbour_84 : decode cX2_neighbour 84 = .ok (.ireturn, 1) := by decide +kernel
theorem dX2_neighbour_85 : decode cX2_neighbour 85 = .ok (.iload_n 2, 1) := by decide +kernel
theorem dX2_neighbour_86 : decode cX2_neighbour 86 = .ok (.bipush 10, 2) := by decide +kernel
theorem dX2_neighbour_88 : decode cX2_neighbour 88 = .ok (.if_icmp .ge 10, 3) := by decide +kernel
theorem dX2_neighbour_91 : decode cX2_neighbour 91 = .ok (.iload_n 0, 1) := by decide +kernel
theorem dX2_neighbour_92 : decode cX2_neighbour 92 = .ok (.bipush 11, 2) := by decide +kernel
theorem dX2_neighbour_94 : decode cX2_neighbour 94 = .ok (.iadd, 1) := by decide +kernel
theorem dX2_neighbour_95 : decode cX2_neighbour 95 = .ok (.goto 5, 3) := by decide +kernel
theorem dX2_neighbour_98 : decode cX2_neighbour 98 = .ok (.bipush (-4), 2) := by decide +kernel
theorem dX2_neighbour_100 : decode cX2_neighbour 100 = .ok (.ireturn, 1) := by decide +kernel
theorem dX2_neighbour_101 : decode cX2_neighbour 101 = .ok (.iload_n 3, 1) := by decide +kernel
theorem dX2_neighbour_102 : decode cX2_neighbour 102 = .ok (.ifCond .le 9, 3) := by decide +kernel
theorem dX2_neighbour_105 : decode cX2_neighbour 105 = .ok (.iload_n 0, 1) := by decide +kernel
theorem dX2_neighbour_106 : decode cX2_neighbour 106 = .ok (.iconst 1, 1) := by decide +kernel
theorem dX2_neighbour_107 : decode cX2_neighbour 107 = .ok (.isub, 1) := by decide +kernel
theorem dX2_neighbour_108 : decode cX2_neighbour 108 = .ok (.goto 5, 3) := by decide +kernel
theorem dX2_neighbour_111 : decode cX2_neighbour 111 = .ok (.bipush (-4), 2) := by decide +kernel
theorem dX2_neighbour_113 : decode cX2_neighbour 113 = .ok (.ireturn, 1) := by decide +kernel
theorem dX2_neighbour_114 : decode cX2_neighbour 114 = .ok (.bipush (-4), 2) := by decide +kernel
theorem dX2_neighbour_116 : decode cX2_neighbour 116 = .ok (.ireturn, 1) := by decide +kernel
theorem dX2_ringOf_0 : decode cX2_ringOf 0 = .ok (.iload_n 0, 1) := by decide +kernel
theorem dX2_ringOf_1 : decode cX2_ringOf 1 = .ok (.bipush 11, 2) := by decide +kernel
theorem dX2_ringOf_3 : decode cX2_ringOf 3 = .ok (.idiv, 1) := by decide +kernel
theorem dX2_ringOf_4 : decode cX2_ringOf 4 = .ok (.iconst 5, 1) := by decide +kernel
theorem dX2_ringOf_5 : decode cX2_ringOf 5 = .ok (.isub, 1) := by decide +kernel
theorem dX2_ringOf_6 : decode cX2_ringOf 6 = .ok (.invokestatic 9, 3) := by decide +kernel
theorem dX2_ringOf_9 : decode cX2_ringOf 9 = .ok (.iload_n 0, 1) := by decide +kernel
theorem dX2_ringOf_10 : decode cX2_ringOf 10 = .ok (.bipush 11, 2) := by decide +kernel
theorem dX2_ringOf_12 : decode cX2_ringOf 12 = .ok (.irem, 1) := by decide +kernel
theorem dX2_ringOf_13 : decode cX2_ringOf 13 = .ok (.iconst 5, 1) := by decide +kernel
theorem dX2_ringOf_14 : decode cX2_ringOf 14 = .ok (.isub, 1) := by decide +kernel
theorem dX2_ringOf_15 : decode cX2_ringOf 15 = .ok (.invokestatic 9, 3) := by decide +kernel
theorem dX2_ringOf_18 : decode cX2_ringOf 18 = .ok (.invokestatic 15, 3) := by decide +kernel
theorem dX2_ringOf_21 : decode cX2_ringOf 21 = .ok (.ireturn, 1) := by decide +kernel
theorem dX2_cellOfRim_0 : decode cX2_cellOfRim 0 = .ok (.iload_n 0, 1) := by decide +kernel
theorem dX2_cellOfRim_1 : decode cX2_cellOfRim 1 = .ok (.bipush 10, 2) := by decide +kernel
theorem dX2_cellOfRim_3 : decode cX2_cellOfRim 3 = .ok (.if_icmp .gt 5, 3) := by decide +kernel
theorem dX2_cellOfRim_6 : decode cX2_cellOfRim 6 = .ok (.iload_n 0, 1) := by decide +kernel
theorem dX2_cellOfRim_7 : decode cX2_cellOfRim 7 = .ok (.ireturn, 1) := by decide +kernel
theorem dX2_cellOfRim_8 : decode cX2_cellOfRim 8 = .ok (.iload_n 0, 1) := by decide +kernel
theorem dX2_cellOfRim_9 : decode cX2_cellOfRim 9 = .ok (.bipush 20, 2) := by decide +kernel
theorem dX2_cellOfRim_11 : decode cX2_cellOfRim 11 = .ok (.if_icmp .gt 16, 3) := by decide +kernel
theorem dX2_cellOfRim_14 : decode cX2_cellOfRim 14 = .ok (.bipush 11, 2) := by decide +kernel
theorem dX2_cellOfRim_16 : decode cX2_cellOfRim 16 = .ok (.iload_n 0, 1) := by decide +kernel
theorem dX2_cellOfRim_17 : decode cX2_cellOfRim 17 = .ok (.bipush 10, 2) := by decide +kernel
theorem dX2_cellOfRim_19 : decode cX2_cellOfRim 19 = .ok (.isub, 1) := by decide +kernel
theorem dX2_cellOfRim_20 : decode cX2_cellOfRim 20 = .ok (.imul, 1) := by decide +kernel
theorem dX2_cellOfRim_21 : decode cX2_cellOfRim 21 = .ok (.bipush 11, 2) := by decide +kernel
theorem dX2_cellOfRim_23 : decode cX2_cellOfRim 23 = .ok (.iadd, 1) := by decide +kernel
theorem dX2_cellOfRim_24 : decode cX2_cellOfRim 24 = .ok (.iconst 1, 1) := by decide +kernel
theorem dX2_cellOfRim_25 : decode cX2_cellOfRim 25 = .ok (.isub, 1) := by decide +kernel
theorem dX2_cellOfRim_26 : decode cX2_cellOfRim 26 = .ok (.ireturn, 1) := by decide +kernel
theorem dX2_cellOfRim_27 : decode cX2_cellOfRim 27 = .ok (.iload_n 0, 1) := by decide +kernel
theorem dX2_cellOfRim_28 : decode cX2_cellOfRim 28 = .ok (.bipush 30, 2) := by decide +kernel
theorem dX2_cellOfRim_30 : decode cX2_cellOfRim 30 = .ok (.if_icmp .gt 9, 3) := by decide +kernel
theorem dX2_cellOfRim_33 : decode cX2_cellOfRim 33 = .ok (.sipush 140, 3) := by decide +kernel
theorem dX2_cellOfRim_36 : decode cX2_cellOfRim 36 = .ok (.iload_n 0, 1) := by decide +kernel
theorem dX2_cellOfRim_37 : decode cX2_cellOfRim 37 = .ok (.isub, 1) := by decide +kernel
theorem dX2_cellOfRim_38 : decode cX2_cellOfRim 38 = .ok (.ireturn, 1) := by decide +kernel
theorem dX2_cellOfRim_39 : decode cX2_cellOfRim 39 = .ok (.bipush 11, 2) := by decide +kernel
theorem dX2_cellOfRim_41 : decode cX2_cellOfRim 41 = .ok (.bipush 40, 2) := by decide +kernel
theorem dX2_cellOfRim_43 : decode cX2_cellOfRim 43 = .ok (.iload_n 0, 1) := by decide +kernel
theorem dX2_cellOfRim_44 : decode cX2_cellOfRim 44 = .ok (.isub, 1) := by decide +kernel
theorem dX2_cellOfRim_45 : decode cX2_cellOfRim 45 = .ok (.imul, 1) := by decide +kernel
theorem dX2_cellOfRim_46 : decode cX2_cellOfRim 46 = .ok (.ireturn, 1) := by decide +kernel
theorem dX2_rimOf_0 : decode cX2_rimOf 0 = .ok (.iload_n 0, 1) := by decide +kernel
theorem dX2_rimOf_1 : decode cX2_rimOf 1 = .ok (.bipush 11, 2) := by decide +kernel
theorem dX2_rimOf_3 : decode cX2_rimOf 3 = .ok (.idiv, 1) := by decide +kernel
theorem dX2_rimOf_4 : decode cX2_rimOf 4 = .ok (.istore_n 1, 1) := by decide +kernel
theorem dX2_rimOf_5 : decode cX2_rimOf 5 = .ok (.iload_n 0, 1) := by decide +kernel
theorem dX2_rimOf_6 : decode cX2_rimOf 6 = .ok (.bipush 11, 2) := by decide +kernel
theorem dX2_rimOf_8 : decode cX2_rimOf 8 = .ok (.irem, 1) := by decide +kernel
theorem dX2_rimOf_9 : decode cX2_rimOf 9 = .ok (.istore_n 2, 1) := by decide +kernel
theorem dX2_rimOf_10 : decode cX2_rimOf 10 = .ok (.iload_n 1, 1) := by decide +kernel
theorem dX2_rimOf_11 : decode cX2_rimOf 11 = .ok (.ifCond .ne 5, 3) := by decide +kernel
theorem dX2_rimOf_14 : decode cX2_rimOf 14 = .ok (.iload_n 2, 1) := by decide +kernel
theorem dX2_rimOf_15 : decode cX2_rimOf 15 = .ok (.ireturn, 1) := by decide +kernel
theorem dX2_rimOf_16 : decode cX2_rimOf 16 = .ok (.iload_n 2, 1) := by decide +kernel
theorem dX2_rimOf_17 : decode cX2_rimOf 17 = .ok (.bipush 10, 2) := by decide +kernel
theorem dX2_rimOf_19 : decode cX2_rimOf 19 = .ok (.if_icmp .ne 8, 3) := by decide +kernel
theorem dX2_rimOf_22 : decode cX2_rimOf 22 = .ok (.bipush 10, 2) := by decide +kernel
theorem dX2_rimOf_24 : decode cX2_rimOf 24 = .ok (.iload_n 1, 1) := by decide +kernel
theorem dX2_rimOf_25 : decode cX2_rimOf 25 = .ok (.iadd, 1) := by decide +kernel
theorem dX2_rimOf_26 : decode cX2_rimOf 26 = .ok (.ireturn, 1) := by decide +kernel
theorem dX2_rimOf_27 : decode cX2_rimOf 27 = .ok (.iload_n 1, 1) := by decide +kernel
theorem dX2_rimOf_28 : decode cX2_rimOf 28 = .ok (.bipush 10, 2) := by decide +kernel
theorem dX2_rimOf_30 : decode cX2_rimOf 30 = .ok (.if_icmp .ne 8, 3) := by decide +kernel
theorem dX2_rimOf_33 : decode cX2_rimOf 33 = .ok (.bipush 30, 2) := by decide +kernel
theorem dX2_rimOf_35 : decode cX2_rimOf 35 = .ok (.iload_n 2, 1) := by decide +kernel
theorem dX2_rimOf_36 : decode cX2_rimOf 36 = .ok (.isub, 1) := by decide +kernel
theorem dX2_rimOf_37 : decode cX2_rimOf 37 = .ok (.ireturn, 1) := by decide +kernel
theorem dX2_rimOf_38 : decode cX2_rimOf 38 = .ok (.iload_n 2, 1) := by decide +kernel
theorem dX2_rimOf_39 : decode cX2_rimOf 39 = .ok (.ifCond .ne 10, 3) := by decide +kernel
theorem dX2_rimOf_42 : decode cX2_rimOf 42 = .ok (.bipush 40, 2) := by decide +kernel
theorem dX2_rimOf_44 : decode cX2_rimOf 44 = .ok (.iload_n 1, 1) := by decide +kernel
theorem dX2_rimOf_45 : decode cX2_rimOf 45 = .ok (.isub, 1) := by decide +kernel
theorem dX2_rimOf_46 : decode cX2_rimOf 46 = .ok (.goto 5, 3) := by decide +kernel
theorem dX2_rimOf_49 : decode cX2_rimOf 49 = .ok (.bipush (-4), 2) := by decide +kernel
theorem dX2_rimOf_51 : decode cX2_rimOf 51 = .ok (.ireturn, 1) := by decide +kernel
theorem dX2_directionInward_0 : decode cX2_directionInward 0 = .ok (.iload_n 0, 1) := by decide +kernel
theorem dX2_directionInward_1 : decode cX2_directionInward 1 = .ok (.bipush 10, 2) := by decide +kernel
theorem dX2_directionInward_3 : decode cX2_directionInward 3 = .ok (.if_icmp .gt 5, 3) := by decide +kernel
theorem dX2_directionInward_6 : decode cX2_directionInward 6 = .ok (.iconst 2, 1) := by decide +kernel
theorem dX2_directionInward_7 : decode cX2_directionInward 7 = .ok (.ireturn, 1) := by decide +kernel
theorem dX2_directionInward_8 : decode cX2_directionInward 8 = .ok (.iload_n 0, 1) := by decide +kernel
theorem dX2_directionInward_9 : decode cX2_directionInward 9 = .ok (.bipush 19, 2) := by decide +kernel
theorem dX2_directionInward_11 : decode cX2_directionInward 11 = .ok (.if_icmp .gt 5, 3) := by decide +kernel
theorem dX2_directionInward_14 : decode cX2_directionInward 14 = .ok (.iconst 3, 1) := by decide +kernel
theorem dX2_directionInward_15 : decode cX2_directionInward 15 = .ok (.ireturn, 1) := by decide +kernel
theorem dX2_directionInward_16 : decode cX2_directionInward 16 = .ok (.iload_n 0, 1) := by decide +kernel
theorem dX2_directionInward_17 : decode cX2_directionInward 17 = .ok (.bipush 30, 2) := by decide +kernel
theorem dX2_directionInward_19 : decode cX2_directionInward 19 = .ok (.if_icmp .gt 7, 3) := by decide +kernel
theorem dX2_directionInward_22 : decode cX2_directionInward 22 = .ok (.iconst 0, 1) := by decide +kernel
theorem dX2_directionInward_23 : decode cX2_directionInward 23 = .ok (.goto 4, 3) := by decide +kernel
theorem dX2_directionInward_26 : decode cX2_directionInward 26 = .ok (.iconst 1, 1) := by decide +kernel
theorem dX2_directionInward_27 : decode cX2_directionInward 27 = .ok (.ireturn, 1) := by decide +kernel
theorem dX3_init_0 : decode cX3_init 0 = .ok (.aload_n 0, 1) := by decide +kernel
theorem dX3_init_1 : decode cX3_init 1 = .ok (.invokespecial 3, 3) := by decide +kernel
theorem dX3_init_4 : decode cX3_init 4 = .ok (.aload_n 0, 1) := by decide +kernel
theorem dX3_init_5 : decode cX3_init 5 = .ok (.bipush 121, 2) := by decide +kernel
theorem dX3_init_7 : decode cX3_init 7 = .ok (.newarray .int, 2) := by decide +kernel
theorem dX3_init_9 : decode cX3_init 9 = .ok (.putfield 9, 3) := by decide +kernel
theorem dX3_init_12 : decode cX3_init 12 = .ok (.aload_n 0, 1) := by decide +kernel
theorem dX3_init_13 : decode cX3_init 13 = .ok (.iconst 0, 1) := by decide +kernel
theorem dX3_init_14 : decode cX3_init 14 = .ok (.putfield 15, 3) := by decide +kernel
theorem dX3_init_17 : decode cX3_init 17 = .ok (.aload_n 0, 1) := by decide +kernel
theorem dX3_init_18 : decode cX3_init 18 = .ok (.iconst 0, 1) := by decide +kernel
theorem dX3_init_19 : decode cX3_init 19 = .ok (.putfield 19, 3) := by decide +kernel
theorem dX3_init_22 : decode cX3_init 22 = .ok (.return_, 1) := by decide +kernel
set_option maxRecDepth 20000 in
theorem ggX3_read_X3_firstMet : GoodIn wsX3_read wsX3_firstMet := goodIn_r _ [7, 8, 9, 10, 11, 12, 13, 14, 15, 16, 17, 18, 19, 20, 21, 22, 23, 24, 25, 26, 27, 28, 29, 30, 31, 32, 33, 34] (by decide +kernel) (by decide +kernel)
set_option maxRecDepth 20000 in
theorem gX3_read_X3_firstMet : GoodIn wsX3_read (va_wsS RX3 25 yX3_firstMet wsX3_firstMet) := goodIn_app (goodIn_of _ (by decide +kernel)) ggX3_read_X3_firstMet
theorem dX3_read_0 : decode cX3_read 0 = .ok (.aload_n 0, 1) := by decide +kernel
theorem dX3_read_1 : decode cX3_read 1 = .ok (.aload_n 1, 1) := by decide +kernel
theorem dX3_read_2 : decode cX3_read 2 = .ok (.getfield 22, 3) := by decide +kernel
theorem dX3_read_5 : decode cX3_read 5 = .ok (.putfield 15, 3) := by decide +kernel
theorem dX3_read_8 : decode cX3_read 8 = .ok (.aload_n 0, 1) := by decide +kernel
theorem dX3_read_9 : decode cX3_read 9 = .ok (.iconst 0, 1) := by decide +kernel
theorem dX3_read_10 : decode cX3_read 10 = .ok (.putfield 19, 3) := by decide +kernel
theorem dX3_read_13 : decode cX3_read 13 = .ok (.iconst 0, 1) := by decide +kernel
theorem dX3_read_14 : decode cX3_read 14 = .ok (.istore_n 2, 1) := by decide +kernel
theorem dX3_read_15 : decode cX3_read 15 = .ok (.iload_n 2, 1) := by decide +kernel
theorem dX3_read_16 : decode cX3_read 16 = .ok (.aload_n 0, 1) := by decide +kernel
theorem dX3_read_17 : decode cX3_read 17 = .ok (.getfield 15, 3) := by decide +kernel
theorem dX3_read_20 : decode cX3_read 20 = .ok (.if_icmp .ge 16, 3) := by decide +kernel
theorem dX3_read_23 : decode cX3_read 23 = .ok (.aload_n 0, 1) := by decide +kernel
theorem dX3_read_24 : decode cX3_read 24 = .ok (.getfield 9, 3) := by decide +kernel
theorem dX3_read_27 : decode cX3_read 27 = .ok (.iload_n 2, 1) := by decide +kernel
theorem dX3_read_28 : decode cX3_read 28 = .ok (.iconst 0, 1) := by decide +kernel
theorem dX3_read_29 : decode cX3_read 29 = .ok (.iastore, 1) := by decide +kernel
theorem dX3_read_30 : decode cX3_read 30 = .ok (.iinc 2 1, 3) := by decide +kernel
theorem dX3_read_33 : decode cX3_read 33 = .ok (.goto (-18), 3) := by decide +kernel
theorem dX3_read_36 : decode cX3_read 36 = .ok (.iconst 0, 1) := by decide +kernel
theorem dX3_read_37 : decode cX3_read 37 = .ok (.istore_n 2, 1) := by decide +kernel
theorem dX3_read_38 : decode cX3_read 38 = .ok (.iload_n 2, 1) := by decide +kernel
theorem dX3_read_39 : decode cX3_read 39 = .ok (.bipush 40, 2) := by decide +kernel
theorem dX3_read_41 : decode cX3_read 41 = .ok (.if_icmp .ge 44, 3) := by decide +kernel
theorem dX3_read_44 : decode cX3_read 44 = .ok (.aload_n 1, 1) := by decide +kernel
theorem dX3_read_45 : decode cX3_read 45 = .ok (.iload_n 2, 1) := by decide +kernel
theorem dX3_read_46 : decode cX3_read 46 = .ok (.invokestatic 25, 3) := by decide +kernel
theorem dX3_read_49 : decode cX3_read 49 = .ok (.istore_n 3, 1) := by decide +kernel
theorem dX3_read_50 : decode cX3_read 50 = .ok (.iload_n 3, 1) := by decide +kernel
theorem dX3_read_51 : decode cX3_read 51 = .ok (.bipush (-4), 2) := by decide +kernel
theorem dX3_read_53 : decode cX3_read 53 = .ok (.if_icmp .ne 16, 3) := by decide +kernel
theorem dX3_read_56 : decode cX3_read 56 = .ok (.aload_n 0, 1) := by decide +kernel
theorem dX3_read_57 : decode cX3_read 57 = .ok (.dup, 1) := by decide +kernel
theorem dX3_read_58 : decode cX3_read 58 = .ok (.getfield 19, 3) := by decide +kernel
theorem dX3_read_61 : decode cX3_read 61 = .ok (.iconst 1, 1) := by decide +kernel
theorem dX3_read_62 : decode cX3_read 62 = .ok (.iadd, 1) := by decide +kernel
theorem dX3_read_63 : decode cX3_read 63 = .ok (.putfield 19, 3) := by decide +kernel
theorem dX3_read_66 : decode cX3_read 66 = .ok (.goto 13, 3) := by decide +kernel
theorem dX3_read_69 : decode cX3_read 69 = .ok (.aload_n 0, 1) := by decide +kernel
theorem dX3_read_70 : decode cX3_read 70 = .ok (.getfield 9, 3) := by decide +kernel
theorem dX3_read_73 : decode cX3_read 73 = .ok (.iload_n 3, 1) := by decide +kernel
theorem dX3_read_74 : decode cX3_read 74 = .ok (.dup2, 1) := by decide +kernel
theorem dX3_read_75 : decode cX3_read 75 = .ok (.iaload, 1) := by decide +kernel
theorem dX3_read_76 : decode cX3_read 76 = .ok (.iconst 1, 1) := by decide +kernel
theorem dX3_read_77 : decode cX3_read 77 = .ok (.iadd, 1) := by decide +kernel
theorem dX3_read_78 : decode cX3_read 78 = .ok (.iastore, 1) := by decide +kernel
theorem dX3_read_79 : decode cX3_read 79 = .ok (.iinc 2 1, 3) := by decide +kernel
theorem dX3_read_82 : decode cX3_read 82 = .ok (.goto (-44), 3) := by decide +kernel
theorem dX3_read_85 : decode cX3_read 85 = .ok (.return_, 1) := by decide +kernel
theorem dX3_bestGrain_0 : decode cX3_bestGrain 0 = .ok (.iconst 0, 1) := by decide +kernel
theorem dX3_bestGrain_1 : decode cX3_bestGrain 1 = .ok (.istore_n 1, 1) := by decide +kernel
theorem dX3_bestGrain_2 : decode cX3_bestGrain 2 = .ok (.iconst 1, 1) := by decide +kernel
theorem dX3_bestGrain_3 : decode cX3_bestGrain 3 = .ok (.istore_n 2, 1) := by decide +kernel
theorem dX3_bestGrain_4 : decode cX3_bestGrain 4 = .ok (.iload_n 2, 1) := by decide +kernel
theorem dX3_bestGrain_5 : decode cX3_bestGrain 5 = .ok (.aload_n 0, 1) := by decide +kernel
theorem dX3_bestGrain_6 : decode cX3_bestGrain 6 = .ok (.getfield 15, 3) := by decide +kernel
theorem dX3_bestGrain_9 : decode cX3_bestGrain 9 = .ok (.if_icmp .ge 26, 3) := by decide +kernel
theorem dX3_bestGrain_12 : decode cX3_bestGrain 12 = .ok (.aload_n 0, 1) := by decide +kernel
theorem dX3_bestGrain_13 : decode cX3_bestGrain 13 = .ok (.getfield 9, 3) := by decide +kernel
theorem dX3_bestGrain_16 : decode cX3_bestGrain 16 = .ok (.iload_n 2, 1) := by decide +kernel
theorem dX3_bestGrain_17 : decode cX3_bestGrain 17 = .ok (.iaload, 1) := by decide +kernel
theorem dX3_bestGrain_18 : decode cX3_bestGrain 18 = .ok (.aload_n 0, 1) := by decide +kernel
theorem dX3_bestGrain_19 : decode cX3_bestGrain 19 = .ok (.getfield 9, 3) := by decide +kernel
theorem dX3_bestGrain_22 : decode cX3_bestGrain 22 = .ok (.iload_n 1, 1) := by decide +kernel
theorem dX3_bestGrain_23 : decode cX3_bestGrain 23 = .ok (.iaload, 1) := by decide +kernel
theorem dX3_bestGrain_24 : decode cX3_bestGrain 24 = .ok (.if_icmp .le 5, 3) := by decide +kernel
theorem dX3_bestGrain_27 : decode cX3_bestGrain 27 = .ok (.iload_n 2, 1) := by decide +kernel
theorem dX3_bestGrain_28 : decode cX3_bestGrain 28 = .ok (.istore_n 1, 1) := by decide +kernel
theorem dX3_bestGrain_29 : decode cX3_bestGrain 29 = .ok (.iinc 2 1, 3) := by decide +kernel
theorem dX3_bestGrain_32 : decode cX3_bestGrain 32 = .ok (.goto (-28), 3) := by decide +kernel
theorem dX3_bestGrain_35 : decode cX3_bestGrain 35 = .ok (.iload_n 1, 1) := by decide +kernel
theorem dX3_bestGrain_36 : decode cX3_bestGrain 36 = .ok (.ireturn, 1) := by decide +kernel
set_option maxRecDepth 20000 in
theorem ggX3_firstMet_X2_cellOfRim : GoodIn wsX3_firstMet wsX2_cellOfRim := goodIn_r _ [4] (by decide +kernel) (by decide +kernel)
set_option maxRecDepth 20000 in
theorem gX3_firstMet_X2_cellOfRim : GoodIn wsX3_firstMet (va_wsS RX3 29 yX2_cellOfRim wsX2_cellOfRim) := goodIn_app (goodIn_of _ (by decide +kernel)) ggX3_firstMet_X2_cellOfRim
set_option maxRecDepth 20000 in
theorem ggX3_firstMet_X2_directionInward : GoodIn wsX3_firstMet wsX2_directionInward := goodIn_r _ [7] (by decide +kernel) (by decide +kernel)
set_option maxRecDepth 20000 in
theorem gX3_firstMet_X2_directionInward : GoodIn wsX3_firstMet (va_wsS RX3 35 yX2_directionInward wsX2_directionInward) := goodIn_app (goodIn_of _ (by decide +kernel)) ggX3_firstMet_X2_directionInward
set_option maxRecDepth 20000 in
theorem ggX3_firstMet_X4_grainAt : GoodIn wsX3_firstMet wsX4_grainAt := goodIn_r _ [12, 13, 17, 18, 19, 20, 21, 22, 23, 24, 25, 26, 27] (by decide +kernel) (by decide +kernel)
set_option maxRecDepth 20000 in
theorem gX3_firstMet_X4_grainAt : GoodIn wsX3_firstMet (wsV RX3 38 RX4 yX4_grainAt wsX4_grainAt) := goodIn_app (goodIn_of _ (by decide +kernel)) ggX3_firstMet_X4_grainAt
set_option maxRecDepth 20000 in
theorem ggX3_firstMet_X2_neighbour : GoodIn wsX3_firstMet wsX2_neighbour := goodIn_r _ [16] (by decide +kernel) (by decide +kernel)
set_option maxRecDepth 20000 in
theorem gX3_firstMet_X2_neighbour : GoodIn wsX3_firstMet (va_wsS RX3 41 yX2_neighbour wsX2_neighbour) := goodIn_app (goodIn_of _ (by decide +kernel)) ggX3_firstMet_X2_neighbour
theorem dX3_firstMet_0 : decode cX3_firstMet 0 = .ok (.iload_n 1, 1) := by decide +kernel
theorem dX3_firstMet_1 : decode cX3_firstMet 1 = .ok (.invokestatic 29, 3) := by decide +kernel
theorem dX3_firstMet_4 : decode cX3_firstMet 4 = .ok (.istore_n 2, 1) := by decide +kernel
theorem dX3_firstMet_5 : decode cX3_firstMet 5 = .ok (.iload_n 1, 1) := by decide +kernel
theorem dX3_firstMet_6 : decode cX3_firstMet 6 = .ok (.invokestatic 35, 3) := by decide +kernel
theorem dX3_firstMet_9 : decode cX3_firstMet 9 = .ok (.istore_n 3, 1) := by decide +kernel
theorem dX3_firstMet_10 : decode cX3_firstMet 10 = .ok (.iconst 0, 1) := by decide +kernel
theorem dX3_firstMet_11 : decode cX3_firstMet 11 = .ok (.istore 4, 2) := by decide +kernel
theorem dX3_firstMet_13 : decode cX3_firstMet 13 = .ok (.iload 4, 2) := by decide +kernel
theorem dX3_firstMet_15 : decode cX3_firstMet 15 = .ok (.bipush 11, 2) := by decide +kernel
theorem dX3_firstMet_17 : decode cX3_firstMet 17 = .ok (.if_icmp .ge 32, 3) := by decide +kernel
theorem dX3_firstMet_20 : decode cX3_firstMet 20 = .ok (.aload_n 0, 1) := by decide +kernel
theorem dX3_firstMet_21 : decode cX3_firstMet 21 = .ok (.iload_n 2, 1) := by decide +kernel
theorem dX3_firstMet_22 : decode cX3_firstMet 22 = .ok (.invokevirtual 38, 3) := by decide +kernel
theorem dX3_firstMet_25 : decode cX3_firstMet 25 = .ok (.istore 5, 2) := by decide +kernel
theorem dX3_firstMet_27 : decode cX3_firstMet 27 = .ok (.iload 5, 2) := by decide +kernel
theorem dX3_firstMet_29 : decode cX3_firstMet 29 = .ok (.bipush (-4), 2) := by decide +kernel
theorem dX3_firstMet_31 : decode cX3_firstMet 31 = .ok (.if_icmp .eq 6, 3) := by decide +kernel
theorem dX3_firstMet_34 : decode cX3_firstMet 34 = .ok (.iload 5, 2) := by decide +kernel
theorem dX3_firstMet_36 : decode cX3_firstMet 36 = .ok (.ireturn, 1) := by decide +kernel
theorem dX3_firstMet_37 : decode cX3_firstMet 37 = .ok (.iload_n 2, 1) := by decide +kernel
theorem dX3_firstMet_38 : decode cX3_firstMet 38 = .ok (.iload_n 3, 1) := by decide +kernel
theorem dX3_firstMet_39 : decode cX3_firstMet 39 = .ok (.invokestatic 41, 3) := by decide +kernel
theorem dX3_firstMet_42 : decode cX3_firstMet 42 = .ok (.istore_n 2, 1) := by decide +kernel
theorem dX3_firstMet_43 : decode cX3_firstMet 43 = .ok (.iinc 4 1, 3) := by decide +kernel
theorem dX3_firstMet_46 : decode cX3_firstMet 46 = .ok (.goto (-33), 3) := by decide +kernel
theorem dX3_firstMet_49 : decode cX3_firstMet 49 = .ok (.bipush (-4), 2) := by decide +kernel
theorem dX3_firstMet_51 : decode cX3_firstMet 51 = .ok (.ireturn, 1) := by decide +kernel
theorem dX4_init_0 : decode cX4_init 0 = .ok (.aload_n 0, 1) := by decide +kernel
theorem dX4_init_1 : decode cX4_init 1 = .ok (.invokespecial 3, 3) := by decide +kernel
theorem dX4_init_4 : decode cX4_init 4 = .ok (.aload_n 0, 1) := by decide +kernel
theorem dX4_init_5 : decode cX4_init 5 = .ok (.bipush 121, 2) := by decide +kernel
theorem dX4_init_7 : decode cX4_init 7 = .ok (.newarray .int, 2) := by decide +kernel
theorem dX4_init_9 : decode cX4_init 9 = .ok (.putfield 9, 3) := by decide +kernel
theorem dX4_init_12 : decode cX4_init 12 = .ok (.aload_n 0, 1) := by decide +kernel
theorem dX4_init_13 : decode cX4_init 13 = .ok (.bipush 121, 2) := by decide +kernel
theorem dX4_init_15 : decode cX4_init 15 = .ok (.newarray .int, 2) := by decide +kernel
theorem dX4_init_17 : decode cX4_init 17 = .ok (.putfield 15, 3) := by decide +kernel
theorem dX4_init_20 : decode cX4_init 20 = .ok (.aload_n 0, 1) := by decide +kernel
theorem dX4_init_21 : decode cX4_init 21 = .ok (.bipush 121, 2) := by decide +kernel
theorem dX4_init_23 : decode cX4_init 23 = .ok (.newarray .int, 2) := by decide +kernel
theorem dX4_init_25 : decode cX4_init 25 = .ok (.putfield 18, 3) := by decide +kernel
theorem dX4_init_28 : decode cX4_init 28 = .ok (.aload_n 0, 1) := by decide +kernel
theorem dX4_init_29 : decode cX4_init 29 = .ok (.bipush 121, 2) := by decide +kernel
theorem dX4_init_31 : decode cX4_init 31 = .ok (.newarray .int, 2) := by decide +kernel
theorem dX4_init_33 : decode cX4_init 33 = .ok (.putfield 21, 3) := by decide +kernel
theorem dX4_init_36 : decode cX4_init 36 = .ok (.aload_n 0, 1) := by decide +kernel
theorem dX4_init_37 : decode cX4_init 37 = .ok (.iconst 4, 1) := by decide +kernel
theorem dX4_init_38 : decode cX4_init 38 = .ok (.newarray .int, 2) := by decide +kernel
theorem dX4_init_40 : decode cX4_init 40 = .ok (.dup, 1) := by decide +kernel
theorem dX4_init_41 : decode cX4_init 41 = .ok (.iconst 0, 1) := by decide +kernel
theorem dX4_init_42 : decode cX4_init 42 = .ok (.iconst 4, 1) := by decide +kernel
theorem dX4_init_43 : decode cX4_init 43 = .ok (.iastore, 1) := by decide +kernel
theorem dX4_init_44 : decode cX4_init 44 = .ok (.dup, 1) := by decide +kernel
theorem dX4_init_45 : decode cX4_init 45 = .ok (.iconst 1, 1) := by decide +kernel
theorem dX4_init_46 : decode cX4_init 46 = .ok (.bipush 60, 2) := by decide +kernel
theorem dX4_init_48 : decode cX4_init 48 = .ok (.iastore, 1) := by decide +kernel
theorem dX4_init_49 : decode cX4_init 49 = .ok (.dup, 1) := by decide +kernel
theorem dX4_init_50 : decode cX4_init 50 = .ok (.iconst 2, 1) := by decide +kernel
theorem dX4_init_51 : decode cX4_init 51 = .ok (.iconst 0, 1) := by decide +kernel
theorem dX4_init_52 : decode cX4_init 52 = .ok (.iastore, 1) := by decide +kernel
theorem dX4_init_53 : decode cX4_init 53 = .ok (.dup, 1) := by decide +kernel
theorem dX4_init_54 : decode cX4_init 54 = .ok (.iconst 3, 1) := by decide +kernel
theorem dX4_init_55 : decode cX4_init 55 = .ok (.iconst 2, 1) := by decide +kernel
theorem dX4_init_56 : decode cX4_init 56 = .ok (.iastore, 1) := by decide +kernel
theorem dX4_init_57 : decode cX4_init 57 = .ok (.putfield 24, 3) := by decide +kernel
theorem dX4_init_60 : decode cX4_init 60 = .ok (.aload_n 0, 1) := by decide +kernel
theorem dX4_init_61 : decode cX4_init 61 = .ok (.iconst 0, 1) := by decide +kernel
theorem dX4_init_62 : decode cX4_init 62 = .ok (.putfield 27, 3) := by decide +kernel
theorem dX4_init_65 : decode cX4_init 65 = .ok (.aload_n 0, 1) := by decide +kernel
theorem dX4_init_66 : decode cX4_init 66 = .ok (.iconst 1, 1) := by decide +kernel
theorem dX4_init_67 : decode cX4_init 67 = .ok (.putfield 31, 3) := by decide +kernel
theorem dX4_init_70 : decode cX4_init 70 = .ok (.aload_n 0, 1) := by decide +kernel
theorem dX4_init_71 : decode cX4_init 71 = .ok (.iconst 0, 1) := by decide +kernel
theorem dX4_init_72 : decode cX4_init 72 = .ok (.putfield 34, 3) := by decide +kernel
theorem dX4_init_75 : decode cX4_init 75 = .ok (.aload_n 0, 1) := by decide +kernel
theorem dX4_init_76 : decode cX4_init 76 = .ok (.iconst 0, 1) := by decide +kernel
theorem dX4_init_77 : decode cX4_init 77 = .ok (.putfield 37, 3) := by decide +kernel
theorem dX4_init_80 : decode cX4_init 80 = .ok (.aload_n 0, 1) := by decide +kernel
theorem dX4_init_81 : decode cX4_init 81 = .ok (.iconst 0, 1) := by decide +kernel
theorem dX4_init_82 : decode cX4_init 82 = .ok (.putfield 40, 3) := by decide +kernel
theorem dX4_init_85 : decode cX4_init 85 = .ok (.aload_n 0, 1) := by decide +kernel
theorem dX4_init_86 : decode cX4_init 86 = .ok (.iconst 0, 1) := by decide +kernel
theorem dX4_init_87 : decode cX4_init 87 = .ok (.putfield 43, 3) := by decide +kernel
theorem dX4_init_90 : decode cX4_init 90 = .ok (.return_, 1) := by decide +kernel
theorem dX4_takeOver_0 : decode cX4_takeOver 0 = .ok (.aload_n 1, 1) := by decide +kernel
theorem dX4_takeOver_1 : decode cX4_takeOver 1 = .ok (.getfield 9, 3) := by decide +kernel
theorem dX4_takeOver_4 : decode cX4_takeOver 4 = .ok (.iconst 0, 1) := by decide +kernel
theorem dX4_takeOver_5 : decode cX4_takeOver 5 = .ok (.aload_n 0, 1) := by decide +kernel
theorem dX4_takeOver_6 : decode cX4_takeOver 6 = .ok (.getfield 9, 3) := by decide +kernel
theorem dX4_takeOver_9 : decode cX4_takeOver 9 = .ok (.iconst 0, 1) := by decide +kernel
theorem dX4_takeOver_10 : decode cX4_takeOver 10 = .ok (.bipush 121, 2) := by decide +kernel
theorem dX4_takeOver_12 : decode cX4_takeOver 12 = .ok (.invokestatic 46, 3) := by decide +kernel
theorem dX4_takeOver_15 : decode cX4_takeOver 15 = .ok (.aload_n 1, 1) := by decide +kernel
theorem dX4_takeOver_16 : decode cX4_takeOver 16 = .ok (.getfield 15, 3) := by decide +kernel
theorem dX4_takeOver_19 : decode cX4_takeOver 19 = .ok (.iconst 0, 1) := by decide +kernel
theorem dX4_takeOver_20 : decode cX4_takeOver 20 = .ok (.aload_n 0, 1) := by decide +kernel
theorem dX4_takeOver_21 : decode cX4_takeOver 21 = .ok (.getfield 15, 3) := by decide +kernel
theorem dX4_takeOver_24 : decode cX4_takeOver 24 = .ok (.iconst 0, 1) := by decide +kernel
theorem dX4_takeOver_25 : decode cX4_takeOver 25 = .ok (.bipush 121, 2) := by decide +kernel
theorem dX4_takeOver_27 : decode cX4_takeOver 27 = .ok (.invokestatic 46, 3) := by decide +kernel
theorem dX4_takeOver_30 : decode cX4_takeOver 30 = .ok (.aload_n 1, 1) := by decide +kernel
theorem dX4_takeOver_31 : decode cX4_takeOver 31 = .ok (.getfield 18, 3) := by decide +kernel
theorem dX4_takeOver_34 : decode cX4_takeOver 34 = .ok (.iconst 0, 1) := by decide +kernel
theorem dX4_takeOver_35 : decode cX4_takeOver 35 = .ok (.aload_n 0, 1) := by decide +kernel
theorem dX4_takeOver_36 : decode cX4_takeOver 36 = .ok (.getfield 18, 3) := by decide +kernel
theorem dX4_takeOver_39 : decode cX4_takeOver 39 = .ok (.iconst 0, 1) := by decide +kernel
theorem dX4_takeOver_40 : decode cX4_takeOver 40 = .ok (.bipush 121, 2) := by decide +kernel
theorem dX4_takeOver_42 : decode cX4_takeOver 42 = .ok (.invokestatic 46, 3) := by decide +kernel
theorem dX4_takeOver_45 : decode cX4_takeOver 45 = .ok (.aload_n 1, 1) := by decide +kernel
theorem dX4_takeOver_46 : decode cX4_takeOver 46 = .ok (.getfield 21, 3) := by decide +kernel
theorem dX4_takeOver_49 : decode cX4_takeOver 49 = .ok (.iconst 0, 1) := by decide +kernel
theorem dX4_takeOver_50 : decode cX4_takeOver 50 = .ok (.aload_n 0, 1) := by decide +kernel
theorem dX4_takeOver_51 : decode cX4_takeOver 51 = .ok (.getfield 21, 3) := by decide +kernel
theorem dX4_takeOver_54 : decode cX4_takeOver 54 = .ok (.iconst 0, 1) := by decide +kernel
theorem dX4_takeOver_55 : decode cX4_takeOver 55 = .ok (.bipush 121, 2) := by decide +kernel
theorem dX4_takeOver_57 : decode cX4_takeOver 57 = .ok (.invokestatic 46, 3) := by decide +kernel
theorem dX4_takeOver_60 : decode cX4_takeOver 60 = .ok (.aload_n 1, 1) := by decide +kernel
theorem dX4_takeOver_61 : decode cX4_takeOver 61 = .ok (.getfield 24, 3) := by decide +kernel
theorem dX4_takeOver_64 : decode cX4_takeOver 64 = .ok (.iconst 0, 1) := by decide +kernel
theorem dX4_takeOver_65 : decode cX4_takeOver 65 = .ok (.aload_n 0, 1) := by decide +kernel
theorem dX4_takeOver_66 : decode cX4_takeOver 66 = .ok (.getfield 24, 3) := by decide +kernel
theorem dX4_takeOver_69 : decode cX4_takeOver 69 = .ok (.iconst 0, 1) := by decide +kernel
theorem dX4_takeOver_70 : decode cX4_takeOver 70 = .ok (.iconst 4, 1) := by decide +kernel
theorem dX4_takeOver_71 : decode cX4_takeOver 71 = .ok (.invokestatic 46, 3) := by decide +kernel
theorem dX4_takeOver_74 : decode cX4_takeOver 74 = .ok (.aload_n 0, 1) := by decide +kernel
theorem dX4_takeOver_75 : decode cX4_takeOver 75 = .ok (.aload_n 1, 1) := by decide +kernel
theorem dX4_takeOver_76 : decode cX4_takeOver 76 = .ok (.getfield 27, 3) := by decide +kernel
theorem dX4_takeOver_79 : decode cX4_takeOver 79 = .ok (.putfield 27, 3) := by decide +kernel
theorem dX4_takeOver_82 : decode cX4_takeOver 82 = .ok (.aload_n 0, 1) := by decide +kernel
theorem dX4_takeOver_83 : decode cX4_takeOver 83 = .ok (.aload_n 1, 1) := by decide +kernel
theorem dX4_takeOver_84 : decode cX4_takeOver 84 = .ok (.getfield 31, 3) := by decide +kernel
theorem dX4_takeOver_87 : decode cX4_takeOver 87 = .ok (.putfield 31, 3) := by decide +kernel
theorem dX4_takeOver_90 : decode cX4_takeOver 90 = .ok (.aload_n 0, 1) := by decide +kernel
theorem dX4_takeOver_91 : decode cX4_takeOver 91 = .ok (.aload_n 1, 1) := by decide +kernel
theorem dX4_takeOver_92 : decode cX4_takeOver 92 = .ok (.getfield 34, 3) := by decide +kernel
theorem dX4_takeOver_95 : decode cX4_takeOver 95 = .ok (.putfield 34, 3) := by decide +kernel
theorem dX4_takeOver_98 : decode cX4_takeOver 98 = .ok (.aload_n 0, 1) := by decide +kernel
theorem dX4_takeOver_99 : decode cX4_takeOver 99 = .ok (.aload_n 1, 1) := by decide +kernel
theorem dX4_takeOver_100 : decode cX4_takeOver 100 = .ok (.getfield 37, 3) := by decide +kernel
theorem dX4_takeOver_103 : decode cX4_takeOver 103 = .ok (.putfield 37, 3) := by decide +kernel
theorem dX4_takeOver_106 : decode cX4_takeOver 106 = .ok (.aload_n 0, 1) := by decide +kernel
theorem dX4_takeOver_107 : decode cX4_takeOver 107 = .ok (.aload_n 1, 1) := by decide +kernel
theorem dX4_takeOver_108 : decode cX4_takeOver 108 = .ok (.getfield 40, 3) := by decide +kernel
theorem dX4_takeOver_111 : decode cX4_takeOver 111 = .ok (.putfield 40, 3) := by decide +kernel
theorem dX4_takeOver_114 : decode cX4_takeOver 114 = .ok (.aload_n 0, 1) := by decide +kernel
theorem dX4_takeOver_115 : decode cX4_takeOver 115 = .ok (.aload_n 1, 1) := by decide +kernel
theorem dX4_takeOver_116 : decode cX4_takeOver 116 = .ok (.getfield 43, 3) := by decide +kernel
theorem dX4_takeOver_119 : decode cX4_takeOver 119 = .ok (.putfield 43, 3) := by decide +kernel
theorem dX4_takeOver_122 : decode cX4_takeOver 122 = .ok (.return_, 1) := by decide +kernel
set_option maxRecDepth 20000 in
theorem ggX4_plant_X4_isRootCell : GoodIn wsX4_plant wsX4_isRootCell := goodIn_r _ [10, 11, 12, 13, 14, 15, 16, 17, 18, 19, 20, 21] (by decide +kernel) (by decide +kernel)
set_option maxRecDepth 20000 in
theorem gX4_plant_X4_isRootCell : GoodIn wsX4_plant (va_wsS RX4 52 yX4_isRootCell wsX4_isRootCell) := goodIn_app (goodIn_of _ (by decide +kernel)) ggX4_plant_X4_isRootCell
set_option maxRecDepth 20000 in
theorem ggX4_plant_X4_add : GoodIn wsX4_plant wsX4_add := goodIn_r _ [25, 1, 26, 27, 28, 6, 29, 30, 13, 31, 32, 33, 34, 35, 36, 37, 38, 39, 40, 41, 42] (by decide +kernel) (by decide +kernel)
set_option maxRecDepth 20000 in
theorem gX4_plant_X4_add : GoodIn wsX4_plant (wsV RX4 56 RX4 yX4_add wsX4_add) := goodIn_app (goodIn_of _ (by decide +kernel)) ggX4_plant_X4_add
theorem dX4_plant_0 : decode cX4_plant 0 = .ok (.aload_n 0, 1) := by decide +kernel
theorem dX4_plant_1 : decode cX4_plant 1 = .ok (.iconst 0, 1) := by decide +kernel
theorem dX4_plant_2 : decode cX4_plant 2 = .ok (.putfield 27, 3) := by decide +kernel
theorem dX4_plant_5 : decode cX4_plant 5 = .ok (.aload_n 0, 1) := by decide +kernel
theorem dX4_plant_6 : decode cX4_plant 6 = .ok (.iconst 0, 1) := by decide +kernel
theorem dX4_plant_7 : decode cX4_plant 7 = .ok (.putfield 34, 3) := by decide +kernel
theorem dX4_plant_10 : decode cX4_plant 10 = .ok (.aload_n 0, 1) := by decide +kernel
theorem dX4_plant_11 : decode cX4_plant 11 = .ok (.iconst 0, 1) := by decide +kernel
theorem dX4_plant_12 : decode cX4_plant 12 = .ok (.putfield 37, 3) := by decide +kernel
theorem dX4_plant_15 : decode cX4_plant 15 = .ok (.aload_n 0, 1) := by decide +kernel
theorem dX4_plant_16 : decode cX4_plant 16 = .ok (.iconst 0, 1) := by decide +kernel
theorem dX4_plant_17 : decode cX4_plant 17 = .ok (.putfield 40, 3) := by decide +kernel
theorem dX4_plant_20 : decode cX4_plant 20 = .ok (.aload_n 0, 1) := by decide +kernel
theorem dX4_plant_21 : decode cX4_plant 21 = .ok (.iconst 0, 1) := by decide +kernel
theorem dX4_plant_22 : decode cX4_plant 22 = .ok (.putfield 43, 3) := by decide +kernel
theorem dX4_plant_25 : decode cX4_plant 25 = .ok (.iconst 0, 1) := by decide +kernel
theorem dX4_plant_26 : decode cX4_plant 26 = .ok (.istore_n 2, 1) := by decide +kernel
theorem dX4_plant_27 : decode cX4_plant 27 = .ok (.iload_n 2, 1) := by decide +kernel
theorem dX4_plant_28 : decode cX4_plant 28 = .ok (.bipush 121, 2) := by decide +kernel
theorem dX4_plant_30 : decode cX4_plant 30 = .ok (.if_icmp .ge 17, 3) := by decide +kernel
theorem dX4_plant_33 : decode cX4_plant 33 = .ok (.aload_n 0, 1) := by decide +kernel
theorem dX4_plant_34 : decode cX4_plant 34 = .ok (.getfield 21, 3) := by decide +kernel
theorem dX4_plant_37 : decode cX4_plant 37 = .ok (.iload_n 2, 1) := by decide +kernel
theorem dX4_plant_38 : decode cX4_plant 38 = .ok (.bipush (-4), 2) := by decide +kernel
theorem dX4_plant_40 : decode cX4_plant 40 = .ok (.iastore, 1) := by decide +kernel
theorem dX4_plant_41 : decode cX4_plant 41 = .ok (.iinc 2 1, 3) := by decide +kernel
theorem dX4_plant_44 : decode cX4_plant 44 = .ok (.goto (-17), 3) := by decide +kernel
theorem dX4_plant_47 : decode cX4_plant 47 = .ok (.iconst 0, 1) := by decide +kernel
theorem dX4_plant_48 : decode cX4_plant 48 = .ok (.istore_n 2, 1) := by decide +kernel
theorem dX4_plant_49 : decode cX4_plant 49 = .ok (.iload_n 2, 1) := by decide +kernel
theorem dX4_plant_50 : decode cX4_plant 50 = .ok (.bipush 121, 2) := by decide +kernel
theorem dX4_plant_52 : decode cX4_plant 52 = .ok (.if_icmp .ge 25, 3) := by decide +kernel
theorem dX4_plant_55 : decode cX4_plant 55 = .ok (.iload_n 1, 1) := by decide +kernel
theorem dX4_plant_56 : decode cX4_plant 56 = .ok (.iload_n 2, 1) := by decide +kernel
theorem dX4_plant_57 : decode cX4_plant 57 = .ok (.invokestatic 52, 3) := by decide +kernel
theorem dX4_plant_60 : decode cX4_plant 60 = .ok (.ifCond .eq 11, 3) := by decide +kernel
theorem dX4_plant_63 : decode cX4_plant 63 = .ok (.aload_n 0, 1) := by decide +kernel
theorem dX4_plant_64 : decode cX4_plant 64 = .ok (.iload_n 2, 1) := by decide +kernel
theorem dX4_plant_65 : decode cX4_plant 65 = .ok (.bipush (-4), 2) := by decide +kernel
theorem dX4_plant_67 : decode cX4_plant 67 = .ok (.iconst 0, 1) := by decide +kernel
theorem dX4_plant_68 : decode cX4_plant 68 = .ok (.invokevirtual 56, 3) := by decide +kernel
theorem dX4_plant_71 : decode cX4_plant 71 = .ok (.iinc 2 1, 3) := by decide +kernel
theorem dX4_plant_74 : decode cX4_plant 74 = .ok (.goto (-25), 3) := by decide +kernel
theorem dX4_plant_77 : decode cX4_plant 77 = .ok (.aload_n 0, 1) := by decide +kernel
theorem dX4_plant_78 : decode cX4_plant 78 = .ok (.getfield 27, 3) := by decide +kernel
theorem dX4_plant_81 : decode cX4_plant 81 = .ok (.ireturn, 1) := by decide +kernel
set_option maxRecDepth 20000 in
theorem ggX4_isRootCell_X2_ringOf : GoodIn wsX4_isRootCell wsX2_ringOf := goodIn_r _ [4, 5, 6, 7, 8, 9, 10, 11] (by decide +kernel) (by decide +kernel)
set_option maxRecDepth 20000 in
theorem gX4_isRootCell_X2_ringOf : GoodIn wsX4_isRootCell (va_wsS RX4 60 yX2_ringOf wsX2_ringOf) := goodIn_app (goodIn_of _ (by decide +kernel)) ggX4_isRootCell_X2_ringOf
theorem dX4_isRootCell_0 : decode cX4_isRootCell 0 = .ok (.iload_n 0, 1) := by decide +kernel
theorem dX4_isRootCell_1 : decode cX4_isRootCell 1 = .ok (.lookupswitch 55 #[(0, 27), (1, 40)], 27) := by decide +kernel
theorem dX4_isRootCell_28 : decode cX4_isRootCell 28 = .ok (.iload_n 1, 1) := by decide +kernel
theorem dX4_isRootCell_29 : decode cX4_isRootCell 29 = .ok (.invokestatic 60, 3) := by decide +kernel
theorem dX4_isRootCell_32 : decode cX4_isRootCell 32 = .ok (.ifCond .ne 7, 3) := by decide +kernel
theorem dX4_isRootCell_35 : decode cX4_isRootCell 35 = .ok (.iconst 1, 1) := by decide +kernel
theorem dX4_isRootCell_36 : decode cX4_isRootCell 36 = .ok (.goto 4, 3) := by decide +kernel
theorem dX4_isRootCell_39 : decode cX4_isRootCell 39 = .ok (.iconst 0, 1) := by decide +kernel
theorem dX4_isRootCell_40 : decode cX4_isRootCell 40 = .ok (.ireturn, 1) := by decide +kernel
theorem dX4_isRootCell_41 : decode cX4_isRootCell 41 = .ok (.iload_n 1, 1) := by decide +kernel
theorem dX4_isRootCell_42 : decode cX4_isRootCell 42 = .ok (.bipush 11, 2) := by decide +kernel
theorem dX4_isRootCell_44 : decode cX4_isRootCell 44 = .ok (.idiv, 1) := by decide +kernel
theorem dX4_isRootCell_45 : decode cX4_isRootCell 45 = .ok (.bipush 10, 2) := by decide +kernel
theorem dX4_isRootCell_47 : decode cX4_isRootCell 47 = .ok (.if_icmp .ne 7, 3) := by decide +kernel
theorem dX4_isRootCell_50 : decode cX4_isRootCell 50 = .ok (.iconst 1, 1) := by decide +kernel
theorem dX4_isRootCell_51 : decode cX4_isRootCell 51 = .ok (.goto 4, 3) := by decide +kernel
theorem dX4_isRootCell_54 : decode cX4_isRootCell 54 = .ok (.iconst 0, 1) := by decide +kernel
theorem dX4_isRootCell_55 : decode cX4_isRootCell 55 = .ok (.ireturn, 1) := by decide +kernel
theorem dX4_isRootCell_56 : decode cX4_isRootCell 56 = .ok (.iload_n 1, 1) := by decide +kernel
theorem dX4_isRootCell_57 : decode cX4_isRootCell 57 = .ok (.invokestatic 60, 3) := by decide +kernel
theorem dX4_isRootCell_60 : decode cX4_isRootCell 60 = .ok (.iconst 2, 1) := by decide +kernel
theorem dX4_isRootCell_61 : decode cX4_isRootCell 61 = .ok (.if_icmp .ne 7, 3) := by decide +kernel
theorem dX4_isRootCell_64 : decode cX4_isRootCell 64 = .ok (.iconst 1, 1) := by decide +kernel
theorem dX4_isRootCell_65 : decode cX4_isRootCell 65 = .ok (.goto 4, 3) := by decide +kernel
theorem dX4_isRootCell_68 : decode cX4_isRootCell 68 = .ok (.iconst 0, 1) := by decide +kernel
theorem dX4_isRootCell_69 : decode cX4_isRootCell 69 = .ok (.ireturn, 1) := by decide +kernel
set_option maxRecDepth 20000 in
theorem ggX4_add_X2_isCell : GoodIn wsX4_add wsX2_isCell := goodIn_r _ [9] (by decide +kernel) (by decide +kernel)
set_option maxRecDepth 20000 in
theorem gX4_add_X2_isCell : GoodIn wsX4_add (va_wsS RX4 66 yX2_isCell wsX2_isCell) := goodIn_app (goodIn_of _ (by decide +kernel)) ggX4_add_X2_isCell
theorem dX4_add_0 : decode cX4_add 0 = .ok (.aload_n 0, 1) := by decide +kernel
theorem dX4_add_1 : decode cX4_add 1 = .ok (.getfield 27, 3) := by decide +kernel
theorem dX4_add_4 : decode cX4_add 4 = .ok (.bipush 121, 2) := by decide +kernel
theorem dX4_add_6 : decode cX4_add 6 = .ok (.if_icmp .ge 10, 3) := by decide +kernel
theorem dX4_add_9 : decode cX4_add 9 = .ok (.iload_n 1, 1) := by decide +kernel
theorem dX4_add_10 : decode cX4_add 10 = .ok (.invokestatic 66, 3) := by decide +kernel
theorem dX4_add_13 : decode cX4_add 13 = .ok (.ifCond .ne 4, 3) := by decide +kernel
theorem dX4_add_16 : decode cX4_add 16 = .ok (.return_, 1) := by decide +kernel
theorem dX4_add_17 : decode cX4_add 17 = .ok (.aload_n 0, 1) := by decide +kernel
theorem dX4_add_18 : decode cX4_add 18 = .ok (.getfield 9, 3) := by decide +kernel
theorem dX4_add_21 : decode cX4_add 21 = .ok (.aload_n 0, 1) := by decide +kernel
theorem dX4_add_22 : decode cX4_add 22 = .ok (.getfield 27, 3) := by decide +kernel
theorem dX4_add_25 : decode cX4_add 25 = .ok (.iload_n 1, 1) := by decide +kernel
theorem dX4_add_26 : decode cX4_add 26 = .ok (.iastore, 1) := by decide +kernel
theorem dX4_add_27 : decode cX4_add 27 = .ok (.aload_n 0, 1) := by decide +kernel
theorem dX4_add_28 : decode cX4_add 28 = .ok (.getfield 15, 3) := by decide +kernel
theorem dX4_add_31 : decode cX4_add 31 = .ok (.aload_n 0, 1) := by decide +kernel
theorem dX4_add_32 : decode cX4_add 32 = .ok (.getfield 27, 3) := by decide +kernel
theorem dX4_add_35 : decode cX4_add 35 = .ok (.iload_n 2, 1) := by decide +kernel
theorem dX4_add_36 : decode cX4_add 36 = .ok (.iastore, 1) := by decide +kernel
theorem dX4_add_37 : decode cX4_add 37 = .ok (.aload_n 0, 1) := by decide +kernel
theorem dX4_add_38 : decode cX4_add 38 = .ok (.getfield 18, 3) := by decide +kernel
theorem dX4_add_41 : decode cX4_add 41 = .ok (.aload_n 0, 1) := by decide +kernel
theorem dX4_add_42 : decode cX4_add 42 = .ok (.getfield 27, 3) := by decide +kernel
theorem dX4_add_45 : decode cX4_add 45 = .ok (.iload_n 3, 1) := by decide +kernel
theorem dX4_add_46 : decode cX4_add 46 = .ok (.iastore, 1) := by decide +kernel
theorem dX4_add_47 : decode cX4_add 47 = .ok (.aload_n 0, 1) := by decide +kernel
theorem dX4_add_48 : decode cX4_add 48 = .ok (.getfield 21, 3) := by decide +kernel
theorem dX4_add_51 : decode cX4_add 51 = .ok (.iload_n 1, 1) := by decide +kernel
theorem dX4_add_52 : decode cX4_add 52 = .ok (.aload_n 0, 1) := by decide +kernel
theorem dX4_add_53 : decode cX4_add 53 = .ok (.getfield 27, 3) := by decide +kernel
theorem dX4_add_56 : decode cX4_add 56 = .ok (.iastore, 1) := by decide +kernel
theorem dX4_add_57 : decode cX4_add 57 = .ok (.aload_n 0, 1) := by decide +kernel
theorem dX4_add_58 : decode cX4_add 58 = .ok (.dup, 1) := by decide +kernel
theorem dX4_add_59 : decode cX4_add 59 = .ok (.getfield 27, 3) := by decide +kernel
theorem dX4_add_62 : decode cX4_add 62 = .ok (.iconst 1, 1) := by decide +kernel
theorem dX4_add_63 : decode cX4_add 63 = .ok (.iadd, 1) := by decide +kernel
theorem dX4_add_64 : decode cX4_add 64 = .ok (.putfield 27, 3) := by decide +kernel
theorem dX4_add_67 : decode cX4_add 67 = .ok (.return_, 1) := by decide +kernel
set_option maxRecDepth 20000 in
theorem ggX4_change_X4_setting : GoodIn wsX4_change wsX4_setting := goodIn_r _ [6, 1, 7, 8, 9, 10, 11, 12, 13, 14, 15, 16, 17] (by decide +kernel) (by decide +kernel)
set_option maxRecDepth 20000 in
theorem gX4_change_X4_setting : GoodIn wsX4_change (wsV RX4 70 RX4 yX4_setting wsX4_setting) := goodIn_app (goodIn_of _ (by decide +kernel)) ggX4_change_X4_setting
theorem dX4_change_0 : decode cX4_change 0 = .ok (.aload_n 0, 1) := by decide +kernel
theorem dX4_change_1 : decode cX4_change 1 = .ok (.iload_n 1, 1) := by decide +kernel
theorem dX4_change_2 : decode cX4_change 2 = .ok (.invokevirtual 70, 3) := by decide +kernel
theorem dX4_change_5 : decode cX4_change 5 = .ok (.istore_n 3, 1) := by decide +kernel
theorem dX4_change_6 : decode cX4_change 6 = .ok (.iload_n 1, 1) := by decide +kernel
theorem dX4_change_7 : decode cX4_change 7 = .ok (.ifCond .lt 15, 3) := by decide +kernel
theorem dX4_change_10 : decode cX4_change 10 = .ok (.iload_n 1, 1) := by decide +kernel
theorem dX4_change_11 : decode cX4_change 11 = .ok (.iconst 4, 1) := by decide +kernel
theorem dX4_change_12 : decode cX4_change 12 = .ok (.if_icmp .ge 10, 3) := by decide +kernel
theorem dX4_change_15 : decode cX4_change 15 = .ok (.aload_n 0, 1) := by decide +kernel
theorem dX4_change_16 : decode cX4_change 16 = .ok (.getfield 24, 3) := by decide +kernel
theorem dX4_change_19 : decode cX4_change 19 = .ok (.iload_n 1, 1) := by decide +kernel
theorem dX4_change_20 : decode cX4_change 20 = .ok (.iload_n 2, 1) := by decide +kernel
theorem dX4_change_21 : decode cX4_change 21 = .ok (.iastore, 1) := by decide +kernel
theorem dX4_change_22 : decode cX4_change 22 = .ok (.iload_n 3, 1) := by decide +kernel
theorem dX4_change_23 : decode cX4_change 23 = .ok (.ireturn, 1) := by decide +kernel
set_option maxRecDepth 20000 in
theorem ggX4_settle_X6_sticks : GoodIn wsX4_settle wsX6_sticks := goodIn_r _ [9, 10, 25, 26, 27, 28, 29] (by decide +kernel) (by decide +kernel)
set_option maxRecDepth 20000 in
theorem gX4_settle_X6_sticks : GoodIn wsX4_settle (wsV RX4 78 RX6 yX6_sticks wsX6_sticks) := goodIn_app (goodIn_of _ (by decide +kernel)) ggX4_settle_X6_sticks
set_option maxRecDepth 20000 in
theorem ggX4_settle_X4_add : GoodIn wsX4_settle wsX4_add := goodIn_r _ [15, 16, 17, 18, 19, 20, 21, 22, 23, 24, 30, 31, 32, 33, 34, 35, 36, 37, 38, 39, 40] (by decide +kernel) (by decide +kernel)
set_option maxRecDepth 20000 in
theorem gX4_settle_X4_add : GoodIn wsX4_settle (wsV RX4 56 RX4 yX4_add wsX4_add) := goodIn_app (goodIn_of _ (by decide +kernel)) ggX4_settle_X4_add
theorem dX4_settle_0 : decode cX4_settle 0 = .ok (.aload_n 0, 1) := by decide +kernel
theorem dX4_settle_1 : decode cX4_settle 1 = .ok (.aload_n 1, 1) := by decide +kernel
theorem dX4_settle_2 : decode cX4_settle 2 = .ok (.getfield 73, 3) := by decide +kernel
theorem dX4_settle_5 : decode cX4_settle 5 = .ok (.putfield 31, 3) := by decide +kernel
theorem dX4_settle_8 : decode cX4_settle 8 = .ok (.aload_n 0, 1) := by decide +kernel
theorem dX4_settle_9 : decode cX4_settle 9 = .ok (.dup, 1) := by decide +kernel
theorem dX4_settle_10 : decode cX4_settle 10 = .ok (.getfield 34, 3) := by decide +kernel
theorem dX4_settle_13 : decode cX4_settle 13 = .ok (.iconst 1, 1) := by decide +kernel
theorem dX4_settle_14 : decode cX4_settle 14 = .ok (.iadd, 1) := by decide +kernel
theorem dX4_settle_15 : decode cX4_settle 15 = .ok (.putfield 34, 3) := by decide +kernel
theorem dX4_settle_18 : decode cX4_settle 18 = .ok (.aload_n 0, 1) := by decide +kernel
theorem dX4_settle_19 : decode cX4_settle 19 = .ok (.dup, 1) := by decide +kernel
theorem dX4_settle_20 : decode cX4_settle 20 = .ok (.getfield 43, 3) := by decide +kernel
theorem dX4_settle_23 : decode cX4_settle 23 = .ok (.aload_n 1, 1) := by decide +kernel
theorem dX4_settle_24 : decode cX4_settle 24 = .ok (.getfield 76, 3) := by decide +kernel
theorem dX4_settle_27 : decode cX4_settle 27 = .ok (.iadd, 1) := by decide +kernel
theorem dX4_settle_28 : decode cX4_settle 28 = .ok (.putfield 43, 3) := by decide +kernel
theorem dX4_settle_31 : decode cX4_settle 31 = .ok (.aload_n 1, 1) := by decide +kernel
theorem dX4_settle_32 : decode cX4_settle 32 = .ok (.invokevirtual 78, 3) := by decide +kernel
theorem dX4_settle_35 : decode cX4_settle 35 = .ok (.ifCond .eq 22, 3) := by decide +kernel
theorem dX4_settle_38 : decode cX4_settle 38 = .ok (.aload_n 0, 1) := by decide +kernel
theorem dX4_settle_39 : decode cX4_settle 39 = .ok (.aload_n 1, 1) := by decide +kernel
theorem dX4_settle_40 : decode cX4_settle 40 = .ok (.getfield 82, 3) := by decide +kernel
theorem dX4_settle_43 : decode cX4_settle 43 = .ok (.aload_n 1, 1) := by decide +kernel
theorem dX4_settle_44 : decode cX4_settle 44 = .ok (.getfield 85, 3) := by decide +kernel
theorem dX4_settle_47 : decode cX4_settle 47 = .ok (.aload_n 1, 1) := by decide +kernel
theorem dX4_settle_48 : decode cX4_settle 48 = .ok (.getfield 76, 3) := by decide +kernel
theorem dX4_settle_51 : decode cX4_settle 51 = .ok (.invokevirtual 56, 3) := by decide +kernel
theorem dX4_settle_54 : decode cX4_settle 54 = .ok (.goto 13, 3) := by decide +kernel
theorem dX4_settle_57 : decode cX4_settle 57 = .ok (.aload_n 0, 1) := by decide +kernel
theorem dX4_settle_58 : decode cX4_settle 58 = .ok (.dup, 1) := by decide +kernel
theorem dX4_settle_59 : decode cX4_settle 59 = .ok (.getfield 37, 3) := by decide +kernel
theorem dX4_settle_62 : decode cX4_settle 62 = .ok (.iconst 1, 1) := by decide +kernel
theorem dX4_settle_63 : decode cX4_settle 63 = .ok (.iadd, 1) := by decide +kernel
theorem dX4_settle_64 : decode cX4_settle 64 = .ok (.putfield 37, 3) := by decide +kernel
theorem dX4_settle_67 : decode cX4_settle 67 = .ok (.return_, 1) := by decide +kernel
theorem dX4_loseAtOnce_0 : decode cX4_loseAtOnce 0 = .ok (.aload_n 0, 1) := by decide +kernel
theorem dX4_loseAtOnce_1 : decode cX4_loseAtOnce 1 = .ok (.dup, 1) := by decide +kernel
theorem dX4_loseAtOnce_2 : decode cX4_loseAtOnce 2 = .ok (.getfield 34, 3) := by decide +kernel
theorem dX4_loseAtOnce_5 : decode cX4_loseAtOnce 5 = .ok (.iconst 1, 1) := by decide +kernel
theorem dX4_loseAtOnce_6 : decode cX4_loseAtOnce 6 = .ok (.iadd, 1) := by decide +kernel
theorem dX4_loseAtOnce_7 : decode cX4_loseAtOnce 7 = .ok (.putfield 34, 3) := by decide +kernel
theorem dX4_loseAtOnce_10 : decode cX4_loseAtOnce 10 = .ok (.aload_n 0, 1) := by decide +kernel
theorem dX4_loseAtOnce_11 : decode cX4_loseAtOnce 11 = .ok (.dup, 1) := by decide +kernel
theorem dX4_loseAtOnce_12 : decode cX4_loseAtOnce 12 = .ok (.getfield 37, 3) := by decide +kernel
theorem dX4_loseAtOnce_15 : decode cX4_loseAtOnce 15 = .ok (.iconst 1, 1) := by decide +kernel
theorem dX4_loseAtOnce_16 : decode cX4_loseAtOnce 16 = .ok (.iadd, 1) := by decide +kernel
theorem dX4_loseAtOnce_17 : decode cX4_loseAtOnce 17 = .ok (.putfield 37, 3) := by decide +kernel
theorem dX4_loseAtOnce_20 : decode cX4_loseAtOnce 20 = .ok (.return_, 1) := by decide +kernel
theorem dX4_drop_0 : decode cX4_drop 0 = .ok (.iconst 0, 1) := by decide +kernel
theorem dX4_drop_1 : decode cX4_drop 1 = .ok (.istore_n 3, 1) := by decide +kernel
theorem dX4_drop_2 : decode cX4_drop 2 = .ok (.iconst 0, 1) := by decide +kernel
theorem dX4_drop_3 : decode cX4_drop 3 = .ok (.istore 4, 2) := by decide +kernel
theorem dX4_drop_5 : decode cX4_drop 5 = .ok (.iload 4, 2) := by decide +kernel
theorem dX4_drop_7 : decode cX4_drop 7 = .ok (.aload_n 0, 1) := by decide +kernel
theorem dX4_drop_8 : decode cX4_drop 8 = .ok (.getfield 27, 3) := by decide +kernel
theorem dX4_drop_11 : decode cX4_drop 11 = .ok (.if_icmp .ge 111, 3) := by decide +kernel
theorem dX4_drop_14 : decode cX4_drop 14 = .ok (.aload_n 0, 1) := by decide +kernel
theorem dX4_drop_15 : decode cX4_drop 15 = .ok (.getfield 9, 3) := by decide +kernel
theorem dX4_drop_18 : decode cX4_drop 18 = .ok (.iload 4, 2) := by decide +kernel
theorem dX4_drop_20 : decode cX4_drop 20 = .ok (.iaload, 1) := by decide +kernel
theorem dX4_drop_21 : decode cX4_drop 21 = .ok (.istore 5, 2) := by decide +kernel
theorem dX4_drop_23 : decode cX4_drop 23 = .ok (.aload_n 1, 1) := by decide +kernel
theorem dX4_drop_24 : decode cX4_drop 24 = .ok (.iload 4, 2) := by decide +kernel
theorem dX4_drop_26 : decode cX4_drop 26 = .ok (.baload, 1) := by decide +kernel
theorem dX4_drop_27 : decode cX4_drop 27 = .ok (.ifCond .eq 21, 3) := by decide +kernel
theorem dX4_drop_30 : decode cX4_drop 30 = .ok (.aload_n 2, 1) := by decide +kernel
theorem dX4_drop_31 : decode cX4_drop 31 = .ok (.iload 4, 2) := by decide +kernel
theorem dX4_drop_33 : decode cX4_drop 33 = .ok (.bipush (-4), 2) := by decide +kernel
theorem dX4_drop_35 : decode cX4_drop 35 = .ok (.iastore, 1) := by decide +kernel
theorem dX4_drop_36 : decode cX4_drop 36 = .ok (.aload_n 0, 1) := by decide +kernel
theorem dX4_drop_37 : decode cX4_drop 37 = .ok (.getfield 21, 3) := by decide +kernel
theorem dX4_drop_40 : decode cX4_drop 40 = .ok (.iload 5, 2) := by decide +kernel
theorem dX4_drop_42 : decode cX4_drop 42 = .ok (.bipush (-4), 2) := by decide +kernel
theorem dX4_drop_44 : decode cX4_drop 44 = .ok (.iastore, 1) := by decide +kernel
theorem dX4_drop_45 : decode cX4_drop 45 = .ok (.goto 71, 3) := by decide +kernel
theorem dX4_drop_48 : decode cX4_drop 48 = .ok (.aload_n 0, 1) := by decide +kernel
theorem dX4_drop_49 : decode cX4_drop 49 = .ok (.getfield 15, 3) := by decide +kernel
theorem dX4_drop_52 : decode cX4_drop 52 = .ok (.iload 4, 2) := by decide +kernel
theorem dX4_drop_54 : decode cX4_drop 54 = .ok (.iaload, 1) := by decide +kernel
theorem dX4_drop_55 : decode cX4_drop 55 = .ok (.istore 6, 2) := by decide +kernel
theorem dX4_drop_57 : decode cX4_drop 57 = .ok (.aload_n 2, 1) := by decide +kernel
theorem dX4_drop_58 : decode cX4_drop 58 = .ok (.iload 4, 2) := by decide +kernel
theorem dX4_drop_60 : decode cX4_drop 60 = .ok (.iload_n 3, 1) := by decide +kernel
theorem dX4_drop_61 : decode cX4_drop 61 = .ok (.iastore, 1) := by decide +kernel
theorem dX4_drop_62 : decode cX4_drop 62 = .ok (.aload_n 0, 1) := by decide +kernel
theorem dX4_drop_63 : decode cX4_drop 63 = .ok (.getfield 9, 3) := by decide +kernel
theorem dX4_drop_66 : decode cX4_drop 66 = .ok (.iload_n 3, 1) := by decide +kernel
theorem dX4_drop_67 : decode cX4_drop 67 = .ok (.iload 5, 2) := by decide +kernel
theorem dX4_drop_69 : decode cX4_drop 69 = .ok (.iastore, 1) := by decide +kernel
theorem dX4_drop_70 : decode cX4_drop 70 = .ok (.aload_n 0, 1) := by decide +kernel
theorem dX4_drop_71 : decode cX4_drop 71 = .ok (.getfield 15, 3) := by decide +kernel
theorem dX4_drop_74 : decode cX4_drop 74 = .ok (.iload_n 3, 1) := by decide +kernel
theorem dX4_drop_75 : decode cX4_drop 75 = .ok (.iload 6, 2) := by decide +kernel
theorem dX4_drop_77 : decode cX4_drop 77 = .ok (.bipush (-4), 2) := by decide +kernel
theorem dX4_drop_79 : decode cX4_drop 79 = .ok (.if_icmp .ne 8, 3) := by decide +kernel
theorem dX4_drop_82 : decode cX4_drop 82 = .ok (.bipush (-4), 2) := by decide +kernel
theorem dX4_drop_84 : decode cX4_drop 84 = .ok (.goto 7, 3) := by decide +kernel
theorem dX4_drop_87 : decode cX4_drop 87 = .ok (.aload_n 2, 1) := by decide +kernel
theorem dX4_drop_88 : decode cX4_drop 88 = .ok (.iload 6, 2) := by decide +kernel
theorem dX4_drop_90 : decode cX4_drop 90 = .ok (.iaload, 1) := by decide +kernel
theorem dX4_drop_91 : decode cX4_drop 91 = .ok (.iastore, 1) := by decide +kernel
theorem dX4_drop_92 : decode cX4_drop 92 = .ok (.aload_n 0, 1) := by decide +kernel
theorem dX4_drop_93 : decode cX4_drop 93 = .ok (.getfield 18, 3) := by decide +kernel
theorem dX4_drop_96 : decode cX4_drop 96 = .ok (.iload_n 3, 1) := by decide +kernel
theorem dX4_drop_97 : decode cX4_drop 97 = .ok (.aload_n 0, 1) := by decide +kernel
theorem dX4_drop_98 : decode cX4_drop 98 = .ok (.getfield 18, 3) := by decide +kernel
theorem dX4_drop_101 : decode cX4_drop 101 = .ok (.iload 4, 2) := by decide +kernel
theorem dX4_drop_103 : decode cX4_drop 103 = .ok (.iaload, 1) := by decide +kernel
theorem dX4_drop_104 : decode cX4_drop 104 = .ok (.iastore, 1) := by decide +kernel
theorem dX4_drop_105 : decode cX4_drop 105 = .ok (.aload_n 0, 1) := by decide +kernel
theorem dX4_drop_106 : decode cX4_drop 106 = .ok (.getfield 21, 3) := by decide +kernel
theorem dX4_drop_109 : decode cX4_drop 109 = .ok (.iload 5, 2) := by decide +kernel
theorem dX4_drop_111 : decode cX4_drop 111 = .ok (.iload_n 3, 1) := by decide +kernel
theorem dX4_drop_112 : decode cX4_drop 112 = .ok (.iastore, 1) := by decide +kernel
theorem dX4_drop_113 : decode cX4_drop 113 = .ok (.iinc 3 1, 3) := by decide +kernel
theorem dX4_drop_116 : decode cX4_drop 116 = .ok (.iinc 4 1, 3) := by decide +kernel
theorem dX4_drop_119 : decode cX4_drop 119 = .ok (.goto (-114), 3) := by decide +kernel
theorem dX4_drop_122 : decode cX4_drop 122 = .ok (.aload_n 0, 1) := by decide +kernel
theorem dX4_drop_123 : decode cX4_drop 123 = .ok (.getfield 27, 3) := by decide +kernel
theorem dX4_drop_126 : decode cX4_drop 126 = .ok (.iload_n 3, 1) := by decide +kernel
theorem dX4_drop_127 : decode cX4_drop 127 = .ok (.isub, 1) := by decide +kernel
theorem dX4_drop_128 : decode cX4_drop 128 = .ok (.istore 4, 2) := by decide +kernel
theorem dX4_drop_130 : decode cX4_drop 130 = .ok (.aload_n 0, 1) := by decide +kernel
theorem dX4_drop_131 : decode cX4_drop 131 = .ok (.iload_n 3, 1) := by decide +kernel
theorem dX4_drop_132 : decode cX4_drop 132 = .ok (.putfield 27, 3) := by decide +kernel
theorem dX4_drop_135 : decode cX4_drop 135 = .ok (.aload_n 0, 1) := by decide +kernel
theorem dX4_drop_136 : decode cX4_drop 136 = .ok (.dup, 1) := by decide +kernel
theorem dX4_drop_137 : decode cX4_drop 137 = .ok (.getfield 40, 3) := by decide +kernel
theorem dX4_drop_140 : decode cX4_drop 140 = .ok (.iload 4, 2) := by decide +kernel
theorem dX4_drop_142 : decode cX4_drop 142 = .ok (.iadd, 1) := by decide +kernel
theorem dX4_drop_143 : decode cX4_drop 143 = .ok (.putfield 40, 3) := by decide +kernel
theorem dX4_drop_146 : decode cX4_drop 146 = .ok (.iload 4, 2) := by decide +kernel
theorem dX4_drop_148 : decode cX4_drop 148 = .ok (.ireturn, 1) := by decide +kernel
set_option maxRecDepth 20000 in
theorem ggX4_refusalToGo_X2_isRim : GoodIn wsX4_refusalToGo wsX2_isRim := goodIn_r _ [4] (by decide +kernel) (by decide +kernel)
set_option maxRecDepth 20000 in
theorem gX4_refusalToGo_X2_isRim : GoodIn wsX4_refusalToGo (va_wsS RX4 88 yX2_isRim wsX2_isRim) := goodIn_app (goodIn_of _ (by decide +kernel)) ggX4_refusalToGo_X2_isRim
set_option maxRecDepth 20000 in
theorem ggX4_refusalToGo_X2_cellOfRim : GoodIn wsX4_refusalToGo wsX2_cellOfRim := goodIn_r _ [7] (by decide +kernel) (by decide +kernel)
set_option maxRecDepth 20000 in
theorem gX4_refusalToGo_X2_cellOfRim : GoodIn wsX4_refusalToGo (va_wsS RX4 91 yX2_cellOfRim wsX2_cellOfRim) := goodIn_app (goodIn_of _ (by decide +kernel)) ggX4_refusalToGo_X2_cellOfRim
set_option maxRecDepth 20000 in
theorem ggX4_refusalToGo_X4_grainAt : GoodIn wsX4_refusalToGo wsX4_grainAt := goodIn_r _ [12, 13, 14, 15, 16, 17, 18, 19, 20, 21, 22, 23, 24] (by decide +kernel) (by decide +kernel)
set_option maxRecDepth 20000 in
theorem gX4_refusalToGo_X4_grainAt : GoodIn wsX4_refusalToGo (wsV RX4 94 RX4 yX4_grainAt wsX4_grainAt) := goodIn_app (goodIn_of _ (by decide +kernel)) ggX4_refusalToGo_X4_grainAt
theorem dX4_refusalToGo_0 : decode cX4_refusalToGo 0 = .ok (.iload_n 1, 1) := by decide +kernel
theorem dX4_refusalToGo_1 : decode cX4_refusalToGo 1 = .ok (.invokestatic 88, 3) := by decide +kernel
theorem dX4_refusalToGo_4 : decode cX4_refusalToGo 4 = .ok (.ifCond .ne 5, 3) := by decide +kernel
theorem dX4_refusalToGo_7 : decode cX4_refusalToGo 7 = .ok (.iconst (-1), 1) := by decide +kernel
theorem dX4_refusalToGo_8 : decode cX4_refusalToGo 8 = .ok (.ireturn, 1) := by decide +kernel
theorem dX4_refusalToGo_9 : decode cX4_refusalToGo 9 = .ok (.aload_n 0, 1) := by decide +kernel
theorem dX4_refusalToGo_10 : decode cX4_refusalToGo 10 = .ok (.iload_n 1, 1) := by decide +kernel
theorem dX4_refusalToGo_11 : decode cX4_refusalToGo 11 = .ok (.invokestatic 91, 3) := by decide +kernel
theorem dX4_refusalToGo_14 : decode cX4_refusalToGo 14 = .ok (.invokevirtual 94, 3) := by decide +kernel
theorem dX4_refusalToGo_17 : decode cX4_refusalToGo 17 = .ok (.bipush (-4), 2) := by decide +kernel
theorem dX4_refusalToGo_19 : decode cX4_refusalToGo 19 = .ok (.if_icmp .ne 7, 3) := by decide +kernel
theorem dX4_refusalToGo_22 : decode cX4_refusalToGo 22 = .ok (.iconst 0, 1) := by decide +kernel
theorem dX4_refusalToGo_23 : decode cX4_refusalToGo 23 = .ok (.goto 5, 3) := by decide +kernel
theorem dX4_refusalToGo_26 : decode cX4_refusalToGo 26 = .ok (.bipush (-2), 2) := by decide +kernel
theorem dX4_refusalToGo_28 : decode cX4_refusalToGo 28 = .ok (.ireturn, 1) := by decide +kernel
set_option maxRecDepth 20000 in
theorem ggX4_refusalToBreak_X4_isGrain : GoodIn wsX4_refusalToBreak wsX4_isGrain := goodIn_r _ [5, 6, 12, 13, 14, 15, 16, 17, 18, 19, 20, 21, 22] (by decide +kernel) (by decide +kernel)
set_option maxRecDepth 20000 in
theorem gX4_refusalToBreak_X4_isGrain : GoodIn wsX4_refusalToBreak (wsV RX4 97 RX4 yX4_isGrain wsX4_isGrain) := goodIn_app (goodIn_of _ (by decide +kernel)) ggX4_refusalToBreak_X4_isGrain
set_option maxRecDepth 20000 in
theorem ggX4_refusalToBreak_X4_holderOf : GoodIn wsX4_refusalToBreak wsX4_holderOf := goodIn_r _ [10, 11, 1, 2, 3, 4, 5, 6, 12, 13, 14, 15, 16, 17, 18, 19, 20, 21, 22] (by decide +kernel) (by decide +kernel)
set_option maxRecDepth 20000 in
theorem gX4_refusalToBreak_X4_holderOf : GoodIn wsX4_refusalToBreak (wsV RX4 100 RX4 yX4_holderOf wsX4_holderOf) := goodIn_app (goodIn_of _ (by decide +kernel)) ggX4_refusalToBreak_X4_holderOf
theorem dX4_refusalToBreak_0 : decode cX4_refusalToBreak 0 = .ok (.aload_n 0, 1) := by decide +kernel
theorem dX4_refusalToBreak_1 : decode cX4_refusalToBreak 1 = .ok (.iload_n 1, 1) := by decide +kernel
theorem dX4_refusalToBreak_2 : decode cX4_refusalToBreak 2 = .ok (.invokevirtual 97, 3) := by decide +kernel
theorem dX4_refusalToBreak_5 : decode cX4_refusalToBreak 5 = .ok (.ifCond .ne 5, 3) := by decide +kernel
theorem dX4_refusalToBreak_8 : decode cX4_refusalToBreak 8 = .ok (.iconst (-1), 1) := by decide +kernel
theorem dX4_refusalToBreak_9 : decode cX4_refusalToBreak 9 = .ok (.ireturn, 1) := by decide +kernel
theorem dX4_refusalToBreak_10 : decode cX4_refusalToBreak 10 = .ok (.aload_n 0, 1) := by decide +kernel
theorem dX4_refusalToBreak_11 : decode cX4_refusalToBreak 11 = .ok (.iload_n 1, 1) := by decide +kernel
theorem dX4_refusalToBreak_12 : decode cX4_refusalToBreak 12 = .ok (.invokevirtual 100, 3) := by decide +kernel
theorem dX4_refusalToBreak_15 : decode cX4_refusalToBreak 15 = .ok (.bipush (-4), 2) := by decide +kernel
theorem dX4_refusalToBreak_17 : decode cX4_refusalToBreak 17 = .ok (.if_icmp .ne 8, 3) := by decide +kernel
theorem dX4_refusalToBreak_20 : decode cX4_refusalToBreak 20 = .ok (.bipush (-2), 2) := by decide +kernel
theorem dX4_refusalToBreak_22 : decode cX4_refusalToBreak 22 = .ok (.goto 4, 3) := by decide +kernel
theorem dX4_refusalToBreak_25 : decode cX4_refusalToBreak 25 = .ok (.iconst 0, 1) := by decide +kernel
theorem dX4_refusalToBreak_26 : decode cX4_refusalToBreak 26 = .ok (.ireturn, 1) := by decide +kernel
theorem dX4_isGrain_0 : decode cX4_isGrain 0 = .ok (.iload_n 1, 1) := by decide +kernel
theorem dX4_isGrain_1 : decode cX4_isGrain 1 = .ok (.ifCond .lt 15, 3) := by decide +kernel
theorem dX4_isGrain_4 : decode cX4_isGrain 4 = .ok (.iload_n 1, 1) := by decide +kernel
theorem dX4_isGrain_5 : decode cX4_isGrain 5 = .ok (.aload_n 0, 1) := by decide +kernel
theorem dX4_isGrain_6 : decode cX4_isGrain 6 = .ok (.getfield 27, 3) := by decide +kernel
theorem dX4_isGrain_9 : decode cX4_isGrain 9 = .ok (.if_icmp .ge 7, 3) := by decide +kernel
theorem dX4_isGrain_12 : decode cX4_isGrain 12 = .ok (.iconst 1, 1) := by decide +kernel
theorem dX4_isGrain_13 : decode cX4_isGrain 13 = .ok (.goto 4, 3) := by decide +kernel
theorem dX4_isGrain_16 : decode cX4_isGrain 16 = .ok (.iconst 0, 1) := by decide +kernel
theorem dX4_isGrain_17 : decode cX4_isGrain 17 = .ok (.ireturn, 1) := by decide +kernel
set_option maxRecDepth 20000 in
theorem ggX4_cellOf_X4_isGrain : GoodIn wsX4_cellOf wsX4_isGrain := goodIn_r _ [6, 7, 8, 9, 10, 11, 12, 13, 14, 15, 16, 17, 18] (by decide +kernel) (by decide +kernel)
set_option maxRecDepth 20000 in
theorem gX4_cellOf_X4_isGrain : GoodIn wsX4_cellOf (wsV RX4 97 RX4 yX4_isGrain wsX4_isGrain) := goodIn_app (goodIn_of _ (by decide +kernel)) ggX4_cellOf_X4_isGrain
theorem dX4_cellOf_0 : decode cX4_cellOf 0 = .ok (.aload_n 0, 1) := by decide +kernel
theorem dX4_cellOf_1 : decode cX4_cellOf 1 = .ok (.iload_n 1, 1) := by decide +kernel
theorem dX4_cellOf_2 : decode cX4_cellOf 2 = .ok (.invokevirtual 97, 3) := by decide +kernel
theorem dX4_cellOf_5 : decode cX4_cellOf 5 = .ok (.ifCond .eq 12, 3) := by decide +kernel
theorem dX4_cellOf_8 : decode cX4_cellOf 8 = .ok (.aload_n 0, 1) := by decide +kernel
theorem dX4_cellOf_9 : decode cX4_cellOf 9 = .ok (.getfield 9, 3) := by decide +kernel
theorem dX4_cellOf_12 : decode cX4_cellOf 12 = .ok (.iload_n 1, 1) := by decide +kernel
theorem dX4_cellOf_13 : decode cX4_cellOf 13 = .ok (.iaload, 1) := by decide +kernel
theorem dX4_cellOf_14 : decode cX4_cellOf 14 = .ok (.goto 5, 3) := by decide +kernel
theorem dX4_cellOf_17 : decode cX4_cellOf 17 = .ok (.bipush (-4), 2) := by decide +kernel
theorem dX4_cellOf_19 : decode cX4_cellOf 19 = .ok (.ireturn, 1) := by decide +kernel
set_option maxRecDepth 20000 in
theorem ggX4_holderOf_X4_isGrain : GoodIn wsX4_holderOf wsX4_isGrain := goodIn_r _ [6, 7, 8, 9, 10, 11, 12, 13, 14, 15, 16, 17, 18] (by decide +kernel) (by decide +kernel)
set_option maxRecDepth 20000 in
theorem gX4_holderOf_X4_isGrain : GoodIn wsX4_holderOf (wsV RX4 97 RX4 yX4_isGrain wsX4_isGrain) := goodIn_app (goodIn_of _ (by decide +kernel)) ggX4_holderOf_X4_isGrain
theorem dX4_holderOf_0 : decode cX4_holderOf 0 = .ok (.aload_n 0, 1) := by decide +kernel
theorem dX4_holderOf_1 : decode cX4_holderOf 1 = .ok (.iload_n 1, 1) := by decide +kernel
theorem dX4_holderOf_2 : decode cX4_holderOf 2 = .ok (.invokevirtual 97, 3) := by decide +kernel
theorem dX4_holderOf_5 : decode cX4_holderOf 5 = .ok (.ifCond .eq 12, 3) := by decide +kernel
theorem dX4_holderOf_8 : decode cX4_holderOf 8 = .ok (.aload_n 0, 1) := by decide +kernel
theorem dX4_holderOf_9 : decode cX4_holderOf 9 = .ok (.getfield 15, 3) := by decide +kernel
theorem dX4_holderOf_12 : decode cX4_holderOf 12 = .ok (.iload_n 1, 1) := by decide +kernel
theorem dX4_holderOf_13 : decode cX4_holderOf 13 = .ok (.iaload, 1) := by decide +kernel
theorem dX4_holderOf_14 : decode cX4_holderOf 14 = .ok (.goto 5, 3) := by decide +kernel
theorem dX4_holderOf_17 : decode cX4_holderOf 17 = .ok (.bipush (-4), 2) := by decide +kernel
theorem dX4_holderOf_19 : decode cX4_holderOf 19 = .ok (.ireturn, 1) := by decide +kernel
set_option maxRecDepth 20000 in
theorem ggX4_stepsOf_X4_isGrain : GoodIn wsX4_stepsOf wsX4_isGrain := goodIn_r _ [6, 7, 8, 9, 10, 11, 12, 13, 14, 15, 16, 17, 18] (by decide +kernel) (by decide +kernel)
set_option maxRecDepth 20000 in
theorem gX4_stepsOf_X4_isGrain : GoodIn wsX4_stepsOf (wsV RX4 97 RX4 yX4_isGrain wsX4_isGrain) := goodIn_app (goodIn_of _ (by decide +kernel)) ggX4_stepsOf_X4_isGrain
theorem dX4_stepsOf_0 : decode cX4_stepsOf 0 = .ok (.aload_n 0, 1) := by decide +kernel
theorem dX4_stepsOf_1 : decode cX4_stepsOf 1 = .ok (.iload_n 1, 1) := by decide +kernel
theorem dX4_stepsOf_2 : decode cX4_stepsOf 2 = .ok (.invokevirtual 97, 3) := by decide +kernel
theorem dX4_stepsOf_5 : decode cX4_stepsOf 5 = .ok (.ifCond .eq 12, 3) := by decide +kernel
theorem dX4_stepsOf_8 : decode cX4_stepsOf 8 = .ok (.aload_n 0, 1) := by decide +kernel
theorem dX4_stepsOf_9 : decode cX4_stepsOf 9 = .ok (.getfield 18, 3) := by decide +kernel
theorem dX4_stepsOf_12 : decode cX4_stepsOf 12 = .ok (.iload_n 1, 1) := by decide +kernel
theorem dX4_stepsOf_13 : decode cX4_stepsOf 13 = .ok (.iaload, 1) := by decide +kernel
theorem dX4_stepsOf_14 : decode cX4_stepsOf 14 = .ok (.goto 5, 3) := by decide +kernel
theorem dX4_stepsOf_17 : decode cX4_stepsOf 17 = .ok (.bipush (-4), 2) := by decide +kernel
theorem dX4_stepsOf_19 : decode cX4_stepsOf 19 = .ok (.ireturn, 1) := by decide +kernel
theorem dX4_grainAt_0 : decode cX4_grainAt 0 = .ok (.iload_n 1, 1) := by decide +kernel
theorem dX4_grainAt_1 : decode cX4_grainAt 1 = .ok (.ifCond .lt 18, 3) := by decide +kernel
theorem dX4_grainAt_4 : decode cX4_grainAt 4 = .ok (.iload_n 1, 1) := by decide +kernel
theorem dX4_grainAt_5 : decode cX4_grainAt 5 = .ok (.bipush 121, 2) := by decide +kernel
theorem dX4_grainAt_7 : decode cX4_grainAt 7 = .ok (.if_icmp .ge 12, 3) := by decide +kernel
theorem dX4_grainAt_10 : decode cX4_grainAt 10 = .ok (.aload_n 0, 1) := by decide +kernel
theorem dX4_grainAt_11 : decode cX4_grainAt 11 = .ok (.getfield 21, 3) := by decide +kernel
theorem dX4_grainAt_14 : decode cX4_grainAt 14 = .ok (.iload_n 1, 1) := by decide +kernel
theorem dX4_grainAt_15 : decode cX4_grainAt 15 = .ok (.iaload, 1) := by decide +kernel
theorem dX4_grainAt_16 : decode cX4_grainAt 16 = .ok (.goto 5, 3) := by decide +kernel
theorem dX4_grainAt_19 : decode cX4_grainAt 19 = .ok (.bipush (-4), 2) := by decide +kernel
theorem dX4_grainAt_21 : decode cX4_grainAt 21 = .ok (.ireturn, 1) := by decide +kernel
theorem dX4_setting_0 : decode cX4_setting 0 = .ok (.iload_n 1, 1) := by decide +kernel
theorem dX4_setting_1 : decode cX4_setting 1 = .ok (.ifCond .lt 17, 3) := by decide +kernel
theorem dX4_setting_4 : decode cX4_setting 4 = .ok (.iload_n 1, 1) := by decide +kernel
theorem dX4_setting_5 : decode cX4_setting 5 = .ok (.iconst 4, 1) := by decide +kernel
theorem dX4_setting_6 : decode cX4_setting 6 = .ok (.if_icmp .ge 12, 3) := by decide +kernel
theorem dX4_setting_9 : decode cX4_setting 9 = .ok (.aload_n 0, 1) := by decide +kernel
theorem dX4_setting_10 : decode cX4_setting 10 = .ok (.getfield 24, 3) := by decide +kernel
theorem dX4_setting_13 : decode cX4_setting 13 = .ok (.iload_n 1, 1) := by decide +kernel
theorem dX4_setting_14 : decode cX4_setting 14 = .ok (.iaload, 1) := by decide +kernel
theorem dX4_setting_15 : decode cX4_setting 15 = .ok (.goto 4, 3) := by decide +kernel
theorem dX4_setting_18 : decode cX4_setting 18 = .ok (.iconst 0, 1) := by decide +kernel
theorem dX4_setting_19 : decode cX4_setting 19 = .ok (.ireturn, 1) := by decide +kernel
set_option maxRecDepth 20000 in
theorem ggX4_firstGrainBeside_X2_neighbour : GoodIn wsX4_firstGrainBeside wsX2_neighbour := goodIn_r _ [4] (by decide +kernel) (by decide +kernel)
set_option maxRecDepth 20000 in
theorem gX4_firstGrainBeside_X2_neighbour : GoodIn wsX4_firstGrainBeside (va_wsS RX4 103 yX2_neighbour wsX2_neighbour) := goodIn_app (goodIn_of _ (by decide +kernel)) ggX4_firstGrainBeside_X2_neighbour
set_option maxRecDepth 20000 in
theorem ggX4_firstGrainBeside_X4_grainAt : GoodIn wsX4_firstGrainBeside wsX4_grainAt := goodIn_r _ [9, 10, 11, 12, 13, 14, 15, 16, 17, 18, 19, 20, 21] (by decide +kernel) (by decide +kernel)
set_option maxRecDepth 20000 in
theorem gX4_firstGrainBeside_X4_grainAt : GoodIn wsX4_firstGrainBeside (wsV RX4 94 RX4 yX4_grainAt wsX4_grainAt) := goodIn_app (goodIn_of _ (by decide +kernel)) ggX4_firstGrainBeside_X4_grainAt
theorem dX4_firstGrainBeside_0 : decode cX4_firstGrainBeside 0 = .ok (.iconst 0, 1) := by decide +kernel
theorem dX4_firstGrainBeside_1 : decode cX4_firstGrainBeside 1 = .ok (.istore_n 2, 1) := by decide +kernel
theorem dX4_firstGrainBeside_2 : decode cX4_firstGrainBeside 2 = .ok (.iload_n 2, 1) := by decide +kernel
theorem dX4_firstGrainBeside_3 : decode cX4_firstGrainBeside 3 = .ok (.iconst 4, 1) := by decide +kernel
theorem dX4_firstGrainBeside_4 : decode cX4_firstGrainBeside 4 = .ok (.if_icmp .ge 27, 3) := by decide +kernel
theorem dX4_firstGrainBeside_7 : decode cX4_firstGrainBeside 7 = .ok (.aload_n 0, 1) := by decide +kernel
theorem dX4_firstGrainBeside_8 : decode cX4_firstGrainBeside 8 = .ok (.iload_n 1, 1) := by decide +kernel
theorem dX4_firstGrainBeside_9 : decode cX4_firstGrainBeside 9 = .ok (.iload_n 2, 1) := by decide +kernel
theorem dX4_firstGrainBeside_10 : decode cX4_firstGrainBeside 10 = .ok (.invokestatic 103, 3) := by decide +kernel
theorem dX4_firstGrainBeside_13 : decode cX4_firstGrainBeside 13 = .ok (.invokevirtual 94, 3) := by decide +kernel
theorem dX4_firstGrainBeside_16 : decode cX4_firstGrainBeside 16 = .ok (.istore_n 3, 1) := by decide +kernel
theorem dX4_firstGrainBeside_17 : decode cX4_firstGrainBeside 17 = .ok (.iload_n 3, 1) := by decide +kernel
theorem dX4_firstGrainBeside_18 : decode cX4_firstGrainBeside 18 = .ok (.bipush (-4), 2) := by decide +kernel
theorem dX4_firstGrainBeside_20 : decode cX4_firstGrainBeside 20 = .ok (.if_icmp .eq 5, 3) := by decide +kernel
theorem dX4_firstGrainBeside_23 : decode cX4_firstGrainBeside 23 = .ok (.iload_n 3, 1) := by decide +kernel
theorem dX4_firstGrainBeside_24 : decode cX4_firstGrainBeside 24 = .ok (.ireturn, 1) := by decide +kernel
theorem dX4_firstGrainBeside_25 : decode cX4_firstGrainBeside 25 = .ok (.iinc 2 1, 3) := by decide +kernel
theorem dX4_firstGrainBeside_28 : decode cX4_firstGrainBeside 28 = .ok (.goto (-26), 3) := by decide +kernel
theorem dX4_firstGrainBeside_31 : decode cX4_firstGrainBeside 31 = .ok (.bipush (-4), 2) := by decide +kernel
theorem dX4_firstGrainBeside_33 : decode cX4_firstGrainBeside 33 = .ok (.ireturn, 1) := by decide +kernel
set_option maxRecDepth 20000 in
theorem ggX4_grainsAround_X2_neighbour : GoodIn wsX4_grainsAround wsX2_neighbour := goodIn_r _ [4] (by decide +kernel) (by decide +kernel)
set_option maxRecDepth 20000 in
theorem gX4_grainsAround_X2_neighbour : GoodIn wsX4_grainsAround (va_wsS RX4 103 yX2_neighbour wsX2_neighbour) := goodIn_app (goodIn_of _ (by decide +kernel)) ggX4_grainsAround_X2_neighbour
set_option maxRecDepth 20000 in
theorem ggX4_grainsAround_X4_grainAt : GoodIn wsX4_grainsAround wsX4_grainAt := goodIn_r _ [9, 10, 11, 12, 13, 14, 15, 16, 17, 18, 19, 20, 21] (by decide +kernel) (by decide +kernel)
set_option maxRecDepth 20000 in
theorem gX4_grainsAround_X4_grainAt : GoodIn wsX4_grainsAround (wsV RX4 94 RX4 yX4_grainAt wsX4_grainAt) := goodIn_app (goodIn_of _ (by decide +kernel)) ggX4_grainsAround_X4_grainAt
theorem dX4_grainsAround_0 : decode cX4_grainsAround 0 = .ok (.iconst 0, 1) := by decide +kernel
theorem dX4_grainsAround_1 : decode cX4_grainsAround 1 = .ok (.istore_n 2, 1) := by decide +kernel
theorem dX4_grainsAround_2 : decode cX4_grainsAround 2 = .ok (.iconst 0, 1) := by decide +kernel
theorem dX4_grainsAround_3 : decode cX4_grainsAround 3 = .ok (.istore_n 3, 1) := by decide +kernel
theorem dX4_grainsAround_4 : decode cX4_grainsAround 4 = .ok (.iload_n 3, 1) := by decide +kernel
theorem dX4_grainsAround_5 : decode cX4_grainsAround 5 = .ok (.iconst 4, 1) := by decide +kernel
theorem dX4_grainsAround_6 : decode cX4_grainsAround 6 = .ok (.if_icmp .ge 26, 3) := by decide +kernel
theorem dX4_grainsAround_9 : decode cX4_grainsAround 9 = .ok (.aload_n 0, 1) := by decide +kernel
theorem dX4_grainsAround_10 : decode cX4_grainsAround 10 = .ok (.iload_n 1, 1) := by decide +kernel
theorem dX4_grainsAround_11 : decode cX4_grainsAround 11 = .ok (.iload_n 3, 1) := by decide +kernel
theorem dX4_grainsAround_12 : decode cX4_grainsAround 12 = .ok (.invokestatic 103, 3) := by decide +kernel
theorem dX4_grainsAround_15 : decode cX4_grainsAround 15 = .ok (.invokevirtual 94, 3) := by decide +kernel
theorem dX4_grainsAround_18 : decode cX4_grainsAround 18 = .ok (.bipush (-4), 2) := by decide +kernel
theorem dX4_grainsAround_20 : decode cX4_grainsAround 20 = .ok (.if_icmp .eq 6, 3) := by decide +kernel
theorem dX4_grainsAround_23 : decode cX4_grainsAround 23 = .ok (.iinc 2 1, 3) := by decide +kernel
theorem dX4_grainsAround_26 : decode cX4_grainsAround 26 = .ok (.iinc 3 1, 3) := by decide +kernel
theorem dX4_grainsAround_29 : decode cX4_grainsAround 29 = .ok (.goto (-25), 3) := by decide +kernel
theorem dX4_grainsAround_32 : decode cX4_grainsAround 32 = .ok (.iload_n 2, 1) := by decide +kernel
theorem dX4_grainsAround_33 : decode cX4_grainsAround 33 = .ok (.ireturn, 1) := by decide +kernel
set_option maxRecDepth 20000 in
theorem ggX4_freeCellsBeside_X4_grainAt : GoodIn wsX4_freeCellsBeside wsX4_grainAt := goodIn_r _ [5, 6, 15, 16, 17, 18, 19, 20, 21, 22, 23, 24, 25] (by decide +kernel) (by decide +kernel)
set_option maxRecDepth 20000 in
theorem gX4_freeCellsBeside_X4_grainAt : GoodIn wsX4_freeCellsBeside (wsV RX4 94 RX4 yX4_grainAt wsX4_grainAt) := goodIn_app (goodIn_of _ (by decide +kernel)) ggX4_freeCellsBeside_X4_grainAt
set_option maxRecDepth 20000 in
theorem ggX4_freeCellsBeside_X4_firstGrainBeside : GoodIn wsX4_freeCellsBeside wsX4_firstGrainBeside := goodIn_r _ [10, 11, 12, 13, 14, 1, 2, 3, 4, 5, 6, 15, 16, 17, 18, 19, 20, 21, 22, 23, 24, 25] (by decide +kernel) (by decide +kernel)
set_option maxRecDepth 20000 in
theorem gX4_freeCellsBeside_X4_firstGrainBeside : GoodIn wsX4_freeCellsBeside (wsV RX4 107 RX4 yX4_firstGrainBeside wsX4_firstGrainBeside) := goodIn_app (goodIn_of _ (by decide +kernel)) ggX4_freeCellsBeside_X4_firstGrainBeside
theorem dX4_freeCellsBeside_0 : decode cX4_freeCellsBeside 0 = .ok (.iconst 0, 1) := by decide +kernel
theorem dX4_freeCellsBeside_1 : decode cX4_freeCellsBeside 1 = .ok (.istore_n 1, 1) := by decide +kernel
theorem dX4_freeCellsBeside_2 : decode cX4_freeCellsBeside 2 = .ok (.iconst 0, 1) := by decide +kernel
theorem dX4_freeCellsBeside_3 : decode cX4_freeCellsBeside 3 = .ok (.istore_n 2, 1) := by decide +kernel
theorem dX4_freeCellsBeside_4 : decode cX4_freeCellsBeside 4 = .ok (.iload_n 2, 1) := by decide +kernel
theorem dX4_freeCellsBeside_5 : decode cX4_freeCellsBeside 5 = .ok (.bipush 121, 2) := by decide +kernel
theorem dX4_freeCellsBeside_7 : decode cX4_freeCellsBeside 7 = .ok (.if_icmp .ge 32, 3) := by decide +kernel
theorem dX4_freeCellsBeside_10 : decode cX4_freeCellsBeside 10 = .ok (.aload_n 0, 1) := by decide +kernel
theorem dX4_freeCellsBeside_11 : decode cX4_freeCellsBeside 11 = .ok (.iload_n 2, 1) := by decide +kernel
theorem dX4_freeCellsBeside_12 : decode cX4_freeCellsBeside 12 = .ok (.invokevirtual 94, 3) := by decide +kernel
theorem dX4_freeCellsBeside_15 : decode cX4_freeCellsBeside 15 = .ok (.bipush (-4), 2) := by decide +kernel
theorem dX4_freeCellsBeside_17 : decode cX4_freeCellsBeside 17 = .ok (.if_icmp .ne 16, 3) := by decide +kernel
theorem dX4_freeCellsBeside_20 : decode cX4_freeCellsBeside 20 = .ok (.aload_n 0, 1) := by decide +kernel
theorem dX4_freeCellsBeside_21 : decode cX4_freeCellsBeside 21 = .ok (.iload_n 2, 1) := by decide +kernel
theorem dX4_freeCellsBeside_22 : decode cX4_freeCellsBeside 22 = .ok (.invokevirtual 107, 3) := by decide +kernel
theorem dX4_freeCellsBeside_25 : decode cX4_freeCellsBeside 25 = .ok (.bipush (-4), 2) := by decide +kernel
theorem dX4_freeCellsBeside_27 : decode cX4_freeCellsBeside 27 = .ok (.if_icmp .eq 6, 3) := by decide +kernel
theorem dX4_freeCellsBeside_30 : decode cX4_freeCellsBeside 30 = .ok (.iinc 1 1, 3) := by decide +kernel
theorem dX4_freeCellsBeside_33 : decode cX4_freeCellsBeside 33 = .ok (.iinc 2 1, 3) := by decide +kernel
theorem dX4_freeCellsBeside_36 : decode cX4_freeCellsBeside 36 = .ok (.goto (-32), 3) := by decide +kernel
theorem dX4_freeCellsBeside_39 : decode cX4_freeCellsBeside 39 = .ok (.iload_n 1, 1) := by decide +kernel
theorem dX4_freeCellsBeside_40 : decode cX4_freeCellsBeside 40 = .ok (.ireturn, 1) := by decide +kernel
set_option maxRecDepth 20000 in
theorem ggX4_reach_X2_ringOf : GoodIn wsX4_reach wsX2_ringOf := goodIn_r _ [10, 11, 12, 5, 13, 14, 4, 6] (by decide +kernel) (by decide +kernel)
set_option maxRecDepth 20000 in
theorem gX4_reach_X2_ringOf : GoodIn wsX4_reach (va_wsS RX4 60 yX2_ringOf wsX2_ringOf) := goodIn_app (goodIn_of _ (by decide +kernel)) ggX4_reach_X2_ringOf
theorem dX4_reach_0 : decode cX4_reach 0 = .ok (.iconst 0, 1) := by decide +kernel
theorem dX4_reach_1 : decode cX4_reach 1 = .ok (.istore_n 1, 1) := by decide +kernel
theorem dX4_reach_2 : decode cX4_reach 2 = .ok (.iconst 0, 1) := by decide +kernel
theorem dX4_reach_3 : decode cX4_reach 3 = .ok (.istore_n 2, 1) := by decide +kernel
theorem dX4_reach_4 : decode cX4_reach 4 = .ok (.iload_n 2, 1) := by decide +kernel
theorem dX4_reach_5 : decode cX4_reach 5 = .ok (.aload_n 0, 1) := by decide +kernel
theorem dX4_reach_6 : decode cX4_reach 6 = .ok (.getfield 27, 3) := by decide +kernel
theorem dX4_reach_9 : decode cX4_reach 9 = .ok (.if_icmp .ge 23, 3) := by decide +kernel
theorem dX4_reach_12 : decode cX4_reach 12 = .ok (.iload_n 1, 1) := by decide +kernel
theorem dX4_reach_13 : decode cX4_reach 13 = .ok (.aload_n 0, 1) := by decide +kernel
theorem dX4_reach_14 : decode cX4_reach 14 = .ok (.getfield 9, 3) := by decide +kernel
theorem dX4_reach_17 : decode cX4_reach 17 = .ok (.iload_n 2, 1) := by decide +kernel
theorem dX4_reach_18 : decode cX4_reach 18 = .ok (.iaload, 1) := by decide +kernel
theorem dX4_reach_19 : decode cX4_reach 19 = .ok (.invokestatic 60, 3) := by decide +kernel
theorem dX4_reach_22 : decode cX4_reach 22 = .ok (.invokestatic 110, 3) := by decide +kernel
theorem dX4_reach_25 : decode cX4_reach 25 = .ok (.istore_n 1, 1) := by decide +kernel
theorem dX4_reach_26 : decode cX4_reach 26 = .ok (.iinc 2 1, 3) := by decide +kernel
theorem dX4_reach_29 : decode cX4_reach 29 = .ok (.goto (-25), 3) := by decide +kernel
theorem dX4_reach_32 : decode cX4_reach 32 = .ok (.iload_n 1, 1) := by decide +kernel
theorem dX4_reach_33 : decode cX4_reach 33 = .ok (.ireturn, 1) := by decide +kernel
set_option maxRecDepth 20000 in
theorem ggX4_holdsBetween_X4_holderOf : GoodIn wsX4_holdsBetween wsX4_holderOf := goodIn_r _ [12, 13, 14, 15, 16, 11, 17, 18, 19, 20, 21, 22, 23, 24, 25, 26, 27, 28, 29] (by decide +kernel) (by decide +kernel)
set_option maxRecDepth 20000 in
theorem gX4_holdsBetween_X4_holderOf : GoodIn wsX4_holdsBetween (wsV RX4 100 RX4 yX4_holderOf wsX4_holderOf) := goodIn_app (goodIn_of _ (by decide +kernel)) ggX4_holdsBetween_X4_holderOf
theorem dX4_holdsBetween_0 : decode cX4_holdsBetween 0 = .ok (.iload_n 1, 1) := by decide +kernel
theorem dX4_holdsBetween_1 : decode cX4_holdsBetween 1 = .ok (.istore_n 3, 1) := by decide +kernel
theorem dX4_holdsBetween_2 : decode cX4_holdsBetween 2 = .ok (.iload_n 2, 1) := by decide +kernel
theorem dX4_holdsBetween_3 : decode cX4_holdsBetween 3 = .ok (.istore 4, 2) := by decide +kernel
theorem dX4_holdsBetween_5 : decode cX4_holdsBetween 5 = .ok (.iconst 0, 1) := by decide +kernel
theorem dX4_holdsBetween_6 : decode cX4_holdsBetween 6 = .ok (.istore 5, 2) := by decide +kernel
theorem dX4_holdsBetween_8 : decode cX4_holdsBetween 8 = .ok (.iload 5, 2) := by decide +kernel
theorem dX4_holdsBetween_10 : decode cX4_holdsBetween 10 = .ok (.bipush 121, 2) := by decide +kernel
theorem dX4_holdsBetween_12 : decode cX4_holdsBetween 12 = .ok (.if_icmp .ge 51, 3) := by decide +kernel
theorem dX4_holdsBetween_15 : decode cX4_holdsBetween 15 = .ok (.iload_n 3, 1) := by decide +kernel
theorem dX4_holdsBetween_16 : decode cX4_holdsBetween 16 = .ok (.iload 4, 2) := by decide +kernel
theorem dX4_holdsBetween_18 : decode cX4_holdsBetween 18 = .ok (.if_icmp .ne 6, 3) := by decide +kernel
theorem dX4_holdsBetween_21 : decode cX4_holdsBetween 21 = .ok (.iload 5, 2) := by decide +kernel
theorem dX4_holdsBetween_23 : decode cX4_holdsBetween 23 = .ok (.ireturn, 1) := by decide +kernel
theorem dX4_holdsBetween_24 : decode cX4_holdsBetween 24 = .ok (.iload_n 3, 1) := by decide +kernel
theorem dX4_holdsBetween_25 : decode cX4_holdsBetween 25 = .ok (.iload 4, 2) := by decide +kernel
theorem dX4_holdsBetween_27 : decode cX4_holdsBetween 27 = .ok (.invokestatic 110, 3) := by decide +kernel
theorem dX4_holdsBetween_30 : decode cX4_holdsBetween 30 = .ok (.istore 6, 2) := by decide +kernel
theorem dX4_holdsBetween_32 : decode cX4_holdsBetween 32 = .ok (.iload_n 3, 1) := by decide +kernel
theorem dX4_holdsBetween_33 : decode cX4_holdsBetween 33 = .ok (.iload 4, 2) := by decide +kernel
theorem dX4_holdsBetween_35 : decode cX4_holdsBetween 35 = .ok (.invokestatic 115, 3) := by decide +kernel
theorem dX4_holdsBetween_38 : decode cX4_holdsBetween 38 = .ok (.istore_n 3, 1) := by decide +kernel
theorem dX4_holdsBetween_39 : decode cX4_holdsBetween 39 = .ok (.aload_n 0, 1) := by decide +kernel
theorem dX4_holdsBetween_40 : decode cX4_holdsBetween 40 = .ok (.iload 6, 2) := by decide +kernel
theorem dX4_holdsBetween_42 : decode cX4_holdsBetween 42 = .ok (.invokevirtual 100, 3) := by decide +kernel
theorem dX4_holdsBetween_45 : decode cX4_holdsBetween 45 = .ok (.istore 4, 2) := by decide +kernel
theorem dX4_holdsBetween_47 : decode cX4_holdsBetween 47 = .ok (.iload 4, 2) := by decide +kernel
theorem dX4_holdsBetween_49 : decode cX4_holdsBetween 49 = .ok (.bipush (-4), 2) := by decide +kernel
theorem dX4_holdsBetween_51 : decode cX4_holdsBetween 51 = .ok (.if_icmp .ne 6, 3) := by decide +kernel
theorem dX4_holdsBetween_54 : decode cX4_holdsBetween 54 = .ok (.bipush (-4), 2) := by decide +kernel
theorem dX4_holdsBetween_56 : decode cX4_holdsBetween 56 = .ok (.ireturn, 1) := by decide +kernel
theorem dX4_holdsBetween_57 : decode cX4_holdsBetween 57 = .ok (.iinc 5 1, 3) := by decide +kernel
theorem dX4_holdsBetween_60 : decode cX4_holdsBetween 60 = .ok (.goto (-52), 3) := by decide +kernel
theorem dX4_holdsBetween_63 : decode cX4_holdsBetween 63 = .ok (.bipush (-4), 2) := by decide +kernel
theorem dX4_holdsBetween_65 : decode cX4_holdsBetween 65 = .ok (.ireturn, 1) := by decide +kernel
set_option maxRecDepth 20000 in
theorem ggX4_longestOfPairs_X4_holdsBetween : GoodIn wsX4_longestOfPairs wsX4_holdsBetween := goodIn_r _ [10, 2, 3, 4, 5, 11, 12, 13, 14, 15, 16, 9, 17, 18, 19, 20, 21, 22, 1, 23, 24, 25, 26, 27, 28, 29, 30, 31, 32, 33] (by decide +kernel) (by decide +kernel)
set_option maxRecDepth 20000 in
theorem gX4_longestOfPairs_X4_holdsBetween : GoodIn wsX4_longestOfPairs (wsV RX4 118 RX4 yX4_holdsBetween wsX4_holdsBetween) := goodIn_app (goodIn_of _ (by decide +kernel)) ggX4_longestOfPairs_X4_holdsBetween
theorem dX4_longestOfPairs_0 : decode cX4_longestOfPairs 0 = .ok (.iconst 0, 1) := by decide +kernel
theorem dX4_longestOfPairs_1 : decode cX4_longestOfPairs 1 = .ok (.istore_n 1, 1) := by decide +kernel
theorem dX4_longestOfPairs_2 : decode cX4_longestOfPairs 2 = .ok (.iconst 0, 1) := by decide +kernel
theorem dX4_longestOfPairs_3 : decode cX4_longestOfPairs 3 = .ok (.istore_n 2, 1) := by decide +kernel
theorem dX4_longestOfPairs_4 : decode cX4_longestOfPairs 4 = .ok (.iload_n 2, 1) := by decide +kernel
theorem dX4_longestOfPairs_5 : decode cX4_longestOfPairs 5 = .ok (.aload_n 0, 1) := by decide +kernel
theorem dX4_longestOfPairs_6 : decode cX4_longestOfPairs 6 = .ok (.getfield 27, 3) := by decide +kernel
theorem dX4_longestOfPairs_9 : decode cX4_longestOfPairs 9 = .ok (.if_icmp .ge 38, 3) := by decide +kernel
theorem dX4_longestOfPairs_12 : decode cX4_longestOfPairs 12 = .ok (.iload_n 2, 1) := by decide +kernel
theorem dX4_longestOfPairs_13 : decode cX4_longestOfPairs 13 = .ok (.iconst 1, 1) := by decide +kernel
theorem dX4_longestOfPairs_14 : decode cX4_longestOfPairs 14 = .ok (.iadd, 1) := by decide +kernel
theorem dX4_longestOfPairs_15 : decode cX4_longestOfPairs 15 = .ok (.istore_n 3, 1) := by decide +kernel
theorem dX4_longestOfPairs_16 : decode cX4_longestOfPairs 16 = .ok (.iload_n 3, 1) := by decide +kernel
theorem dX4_longestOfPairs_17 : decode cX4_longestOfPairs 17 = .ok (.aload_n 0, 1) := by decide +kernel
theorem dX4_longestOfPairs_18 : decode cX4_longestOfPairs 18 = .ok (.getfield 27, 3) := by decide +kernel
theorem dX4_longestOfPairs_21 : decode cX4_longestOfPairs 21 = .ok (.if_icmp .ge 20, 3) := by decide +kernel
theorem dX4_longestOfPairs_24 : decode cX4_longestOfPairs 24 = .ok (.iload_n 1, 1) := by decide +kernel
theorem dX4_longestOfPairs_25 : decode cX4_longestOfPairs 25 = .ok (.aload_n 0, 1) := by decide +kernel
theorem dX4_longestOfPairs_26 : decode cX4_longestOfPairs 26 = .ok (.iload_n 2, 1) := by decide +kernel
theorem dX4_longestOfPairs_27 : decode cX4_longestOfPairs 27 = .ok (.iload_n 3, 1) := by decide +kernel
theorem dX4_longestOfPairs_28 : decode cX4_longestOfPairs 28 = .ok (.invokevirtual 118, 3) := by decide +kernel
theorem dX4_longestOfPairs_31 : decode cX4_longestOfPairs 31 = .ok (.invokestatic 110, 3) := by decide +kernel
theorem dX4_longestOfPairs_34 : decode cX4_longestOfPairs 34 = .ok (.istore_n 1, 1) := by decide +kernel
theorem dX4_longestOfPairs_35 : decode cX4_longestOfPairs 35 = .ok (.iinc 3 1, 3) := by decide +kernel
theorem dX4_longestOfPairs_38 : decode cX4_longestOfPairs 38 = .ok (.goto (-22), 3) := by decide +kernel
theorem dX4_longestOfPairs_41 : decode cX4_longestOfPairs 41 = .ok (.iinc 2 1, 3) := by decide +kernel
theorem dX4_longestOfPairs_44 : decode cX4_longestOfPairs 44 = .ok (.goto (-40), 3) := by decide +kernel
theorem dX4_longestOfPairs_47 : decode cX4_longestOfPairs 47 = .ok (.iload_n 1, 1) := by decide +kernel
theorem dX4_longestOfPairs_48 : decode cX4_longestOfPairs 48 = .ok (.ireturn, 1) := by decide +kernel
theorem dX5_init_0 : decode cX5_init 0 = .ok (.aload_n 0, 1) := by decide +kernel
theorem dX5_init_1 : decode cX5_init 1 = .ok (.invokespecial 3, 3) := by decide +kernel
theorem dX5_init_4 : decode cX5_init 4 = .ok (.aload_n 0, 1) := by decide +kernel
theorem dX5_init_5 : decode cX5_init 5 = .ok (.bipush 121, 2) := by decide +kernel
theorem dX5_init_7 : decode cX5_init 7 = .ok (.newarray .int, 2) := by decide +kernel
theorem dX5_init_9 : decode cX5_init 9 = .ok (.putfield 9, 3) := by decide +kernel
theorem dX5_init_12 : decode cX5_init 12 = .ok (.aload_n 0, 1) := by decide +kernel
theorem dX5_init_13 : decode cX5_init 13 = .ok (.bipush 121, 2) := by decide +kernel
theorem dX5_init_15 : decode cX5_init 15 = .ok (.newarray .int, 2) := by decide +kernel
theorem dX5_init_17 : decode cX5_init 17 = .ok (.putfield 15, 3) := by decide +kernel
theorem dX5_init_20 : decode cX5_init 20 = .ok (.aload_n 0, 1) := by decide +kernel
theorem dX5_init_21 : decode cX5_init 21 = .ok (.bipush 121, 2) := by decide +kernel
theorem dX5_init_23 : decode cX5_init 23 = .ok (.newarray .int, 2) := by decide +kernel
theorem dX5_init_25 : decode cX5_init 25 = .ok (.putfield 18, 3) := by decide +kernel
theorem dX5_init_28 : decode cX5_init 28 = .ok (.aload_n 0, 1) := by decide +kernel
theorem dX5_init_29 : decode cX5_init 29 = .ok (.bipush 121, 2) := by decide +kernel
theorem dX5_init_31 : decode cX5_init 31 = .ok (.newarray .int, 2) := by decide +kernel
theorem dX5_init_33 : decode cX5_init 33 = .ok (.putfield 21, 3) := by decide +kernel
theorem dX5_init_36 : decode cX5_init 36 = .ok (.aload_n 0, 1) := by decide +kernel
theorem dX5_init_37 : decode cX5_init 37 = .ok (.bipush 121, 2) := by decide +kernel
theorem dX5_init_39 : decode cX5_init 39 = .ok (.newarray .int, 2) := by decide +kernel
theorem dX5_init_41 : decode cX5_init 41 = .ok (.putfield 24, 3) := by decide +kernel
theorem dX5_init_44 : decode cX5_init 44 = .ok (.aload_n 0, 1) := by decide +kernel
theorem dX5_init_45 : decode cX5_init 45 = .ok (.bipush 121, 2) := by decide +kernel
theorem dX5_init_47 : decode cX5_init 47 = .ok (.newarray .int, 2) := by decide +kernel
theorem dX5_init_49 : decode cX5_init 49 = .ok (.putfield 27, 3) := by decide +kernel
theorem dX5_init_52 : decode cX5_init 52 = .ok (.aload_n 0, 1) := by decide +kernel
theorem dX5_init_53 : decode cX5_init 53 = .ok (.iconst 0, 1) := by decide +kernel
theorem dX5_init_54 : decode cX5_init 54 = .ok (.putfield 30, 3) := by decide +kernel
theorem dX5_init_57 : decode cX5_init 57 = .ok (.return_, 1) := by decide +kernel
set_option maxRecDepth 20000 in
theorem ggX5_read_X4_holderOf : GoodIn wsX5_read wsX4_holderOf := goodIn_r _ [6, 7, 8, 9, 10, 5, 11, 12, 28, 29, 30, 31, 32, 33, 34, 35, 36, 37, 38] (by decide +kernel) (by decide +kernel)
set_option maxRecDepth 20000 in
theorem gX5_read_X4_holderOf : GoodIn wsX5_read (wsV RX5 37 RX4 yX4_holderOf wsX4_holderOf) := goodIn_app (goodIn_of _ (by decide +kernel)) ggX5_read_X4_holderOf
set_option maxRecDepth 20000 in
theorem ggX5_read_X5_readFromHolder : GoodIn wsX5_read wsX5_readFromHolder := goodIn_r _ [17, 18, 19, 20, 21, 22, 23, 39, 40, 41, 42, 43, 44, 45] (by decide +kernel) (by decide +kernel)
set_option maxRecDepth 20000 in
theorem gX5_read_X5_readFromHolder : GoodIn wsX5_read (wsV RX5 41 RX5 yX5_readFromHolder wsX5_readFromHolder) := goodIn_app (goodIn_of _ (by decide +kernel)) ggX5_read_X5_readFromHolder
set_option maxRecDepth 20000 in
theorem ggX5_read_X5_addToHolder : GoodIn wsX5_read wsX5_addToHolder := goodIn_r _ [27, 20, 21, 22, 23, 39, 40, 41, 42, 43, 44, 45] (by decide +kernel) (by decide +kernel)
set_option maxRecDepth 20000 in
theorem gX5_read_X5_addToHolder : GoodIn wsX5_read (wsV RX5 45 RX5 yX5_addToHolder wsX5_addToHolder) := goodIn_app (goodIn_of _ (by decide +kernel)) ggX5_read_X5_addToHolder
theorem dX5_read_0 : decode cX5_read 0 = .ok (.aload_n 0, 1) := by decide +kernel
theorem dX5_read_1 : decode cX5_read 1 = .ok (.aload_n 1, 1) := by decide +kernel
theorem dX5_read_2 : decode cX5_read 2 = .ok (.getfield 34, 3) := by decide +kernel
theorem dX5_read_5 : decode cX5_read 5 = .ok (.putfield 30, 3) := by decide +kernel
theorem dX5_read_8 : decode cX5_read 8 = .ok (.iconst 0, 1) := by decide +kernel
theorem dX5_read_9 : decode cX5_read 9 = .ok (.istore_n 2, 1) := by decide +kernel
theorem dX5_read_10 : decode cX5_read 10 = .ok (.iload_n 2, 1) := by decide +kernel
theorem dX5_read_11 : decode cX5_read 11 = .ok (.aload_n 0, 1) := by decide +kernel
theorem dX5_read_12 : decode cX5_read 12 = .ok (.getfield 30, 3) := by decide +kernel
theorem dX5_read_15 : decode cX5_read 15 = .ok (.if_icmp .ge 19, 3) := by decide +kernel
theorem dX5_read_18 : decode cX5_read 18 = .ok (.aload_n 0, 1) := by decide +kernel
theorem dX5_read_19 : decode cX5_read 19 = .ok (.iload_n 2, 1) := by decide +kernel
theorem dX5_read_20 : decode cX5_read 20 = .ok (.aload_n 1, 1) := by decide +kernel
theorem dX5_read_21 : decode cX5_read 21 = .ok (.iload_n 2, 1) := by decide +kernel
theorem dX5_read_22 : decode cX5_read 22 = .ok (.invokevirtual 37, 3) := by decide +kernel
theorem dX5_read_25 : decode cX5_read 25 = .ok (.invokevirtual 41, 3) := by decide +kernel
theorem dX5_read_28 : decode cX5_read 28 = .ok (.iinc 2 1, 3) := by decide +kernel
theorem dX5_read_31 : decode cX5_read 31 = .ok (.goto (-21), 3) := by decide +kernel
theorem dX5_read_34 : decode cX5_read 34 = .ok (.aload_n 0, 1) := by decide +kernel
theorem dX5_read_35 : decode cX5_read 35 = .ok (.getfield 30, 3) := by decide +kernel
theorem dX5_read_38 : decode cX5_read 38 = .ok (.iconst 1, 1) := by decide +kernel
theorem dX5_read_39 : decode cX5_read 39 = .ok (.isub, 1) := by decide +kernel
theorem dX5_read_40 : decode cX5_read 40 = .ok (.istore_n 2, 1) := by decide +kernel
theorem dX5_read_41 : decode cX5_read 41 = .ok (.iload_n 2, 1) := by decide +kernel
theorem dX5_read_42 : decode cX5_read 42 = .ok (.ifCond .lt 27, 3) := by decide +kernel
theorem dX5_read_45 : decode cX5_read 45 = .ok (.aload_n 1, 1) := by decide +kernel
theorem dX5_read_46 : decode cX5_read 46 = .ok (.iload_n 2, 1) := by decide +kernel
theorem dX5_read_47 : decode cX5_read 47 = .ok (.invokevirtual 37, 3) := by decide +kernel
theorem dX5_read_50 : decode cX5_read 50 = .ok (.istore_n 3, 1) := by decide +kernel
theorem dX5_read_51 : decode cX5_read 51 = .ok (.iload_n 3, 1) := by decide +kernel
theorem dX5_read_52 : decode cX5_read 52 = .ok (.bipush (-4), 2) := by decide +kernel
theorem dX5_read_54 : decode cX5_read 54 = .ok (.if_icmp .eq 9, 3) := by decide +kernel
theorem dX5_read_57 : decode cX5_read 57 = .ok (.aload_n 0, 1) := by decide +kernel
theorem dX5_read_58 : decode cX5_read 58 = .ok (.iload_n 2, 1) := by decide +kernel
theorem dX5_read_59 : decode cX5_read 59 = .ok (.iload_n 3, 1) := by decide +kernel
theorem dX5_read_60 : decode cX5_read 60 = .ok (.invokevirtual 45, 3) := by decide +kernel
theorem dX5_read_63 : decode cX5_read 63 = .ok (.iinc 2 (-1), 3) := by decide +kernel
theorem dX5_read_66 : decode cX5_read 66 = .ok (.goto (-25), 3) := by decide +kernel
theorem dX5_read_69 : decode cX5_read 69 = .ok (.return_, 1) := by decide +kernel
theorem dX5_readFromHolder_0 : decode cX5_readFromHolder 0 = .ok (.aload_n 0, 1) := by decide +kernel
theorem dX5_readFromHolder_1 : decode cX5_readFromHolder 1 = .ok (.getfield 9, 3) := by decide +kernel
theorem dX5_readFromHolder_4 : decode cX5_readFromHolder 4 = .ok (.iload_n 1, 1) := by decide +kernel
theorem dX5_readFromHolder_5 : decode cX5_readFromHolder 5 = .ok (.iload_n 2, 1) := by decide +kernel
theorem dX5_readFromHolder_6 : decode cX5_readFromHolder 6 = .ok (.bipush (-4), 2) := by decide +kernel
theorem dX5_readFromHolder_8 : decode cX5_readFromHolder 8 = .ok (.if_icmp .ne 7, 3) := by decide +kernel
theorem dX5_readFromHolder_11 : decode cX5_readFromHolder 11 = .ok (.iconst 0, 1) := by decide +kernel
theorem dX5_readFromHolder_12 : decode cX5_readFromHolder 12 = .ok (.goto 11, 3) := by decide +kernel
theorem dX5_readFromHolder_15 : decode cX5_readFromHolder 15 = .ok (.aload_n 0, 1) := by decide +kernel
theorem dX5_readFromHolder_16 : decode cX5_readFromHolder 16 = .ok (.getfield 9, 3) := by decide +kernel
theorem dX5_readFromHolder_19 : decode cX5_readFromHolder 19 = .ok (.iload_n 2, 1) := by decide +kernel
theorem dX5_readFromHolder_20 : decode cX5_readFromHolder 20 = .ok (.iaload, 1) := by decide +kernel
theorem dX5_readFromHolder_21 : decode cX5_readFromHolder 21 = .ok (.iconst 1, 1) := by decide +kernel
theorem dX5_readFromHolder_22 : decode cX5_readFromHolder 22 = .ok (.iadd, 1) := by decide +kernel
theorem dX5_readFromHolder_23 : decode cX5_readFromHolder 23 = .ok (.iastore, 1) := by decide +kernel
theorem dX5_readFromHolder_24 : decode cX5_readFromHolder 24 = .ok (.aload_n 0, 1) := by decide +kernel
theorem dX5_readFromHolder_25 : decode cX5_readFromHolder 25 = .ok (.getfield 15, 3) := by decide +kernel
theorem dX5_readFromHolder_28 : decode cX5_readFromHolder 28 = .ok (.iload_n 1, 1) := by decide +kernel
theorem dX5_readFromHolder_29 : decode cX5_readFromHolder 29 = .ok (.iload_n 2, 1) := by decide +kernel
theorem dX5_readFromHolder_30 : decode cX5_readFromHolder 30 = .ok (.bipush (-4), 2) := by decide +kernel
theorem dX5_readFromHolder_32 : decode cX5_readFromHolder 32 = .ok (.if_icmp .ne 7, 3) := by decide +kernel
theorem dX5_readFromHolder_35 : decode cX5_readFromHolder 35 = .ok (.iload_n 1, 1) := by decide +kernel
theorem dX5_readFromHolder_36 : decode cX5_readFromHolder 36 = .ok (.goto 9, 3) := by decide +kernel
theorem dX5_readFromHolder_39 : decode cX5_readFromHolder 39 = .ok (.aload_n 0, 1) := by decide +kernel
theorem dX5_readFromHolder_40 : decode cX5_readFromHolder 40 = .ok (.getfield 15, 3) := by decide +kernel
theorem dX5_readFromHolder_43 : decode cX5_readFromHolder 43 = .ok (.iload_n 2, 1) := by decide +kernel
theorem dX5_readFromHolder_44 : decode cX5_readFromHolder 44 = .ok (.iaload, 1) := by decide +kernel
theorem dX5_readFromHolder_45 : decode cX5_readFromHolder 45 = .ok (.iastore, 1) := by decide +kernel
theorem dX5_readFromHolder_46 : decode cX5_readFromHolder 46 = .ok (.aload_n 0, 1) := by decide +kernel
theorem dX5_readFromHolder_47 : decode cX5_readFromHolder 47 = .ok (.getfield 18, 3) := by decide +kernel
theorem dX5_readFromHolder_50 : decode cX5_readFromHolder 50 = .ok (.iload_n 1, 1) := by decide +kernel
theorem dX5_readFromHolder_51 : decode cX5_readFromHolder 51 = .ok (.iconst 0, 1) := by decide +kernel
theorem dX5_readFromHolder_52 : decode cX5_readFromHolder 52 = .ok (.iastore, 1) := by decide +kernel
theorem dX5_readFromHolder_53 : decode cX5_readFromHolder 53 = .ok (.aload_n 0, 1) := by decide +kernel
theorem dX5_readFromHolder_54 : decode cX5_readFromHolder 54 = .ok (.getfield 21, 3) := by decide +kernel
theorem dX5_readFromHolder_57 : decode cX5_readFromHolder 57 = .ok (.iload_n 1, 1) := by decide +kernel
theorem dX5_readFromHolder_58 : decode cX5_readFromHolder 58 = .ok (.iconst 1, 1) := by decide +kernel
theorem dX5_readFromHolder_59 : decode cX5_readFromHolder 59 = .ok (.iastore, 1) := by decide +kernel
theorem dX5_readFromHolder_60 : decode cX5_readFromHolder 60 = .ok (.aload_n 0, 1) := by decide +kernel
theorem dX5_readFromHolder_61 : decode cX5_readFromHolder 61 = .ok (.getfield 24, 3) := by decide +kernel
theorem dX5_readFromHolder_64 : decode cX5_readFromHolder 64 = .ok (.iload_n 1, 1) := by decide +kernel
theorem dX5_readFromHolder_65 : decode cX5_readFromHolder 65 = .ok (.iconst 0, 1) := by decide +kernel
theorem dX5_readFromHolder_66 : decode cX5_readFromHolder 66 = .ok (.iastore, 1) := by decide +kernel
theorem dX5_readFromHolder_67 : decode cX5_readFromHolder 67 = .ok (.aload_n 0, 1) := by decide +kernel
theorem dX5_readFromHolder_68 : decode cX5_readFromHolder 68 = .ok (.getfield 27, 3) := by decide +kernel
theorem dX5_readFromHolder_71 : decode cX5_readFromHolder 71 = .ok (.iload_n 1, 1) := by decide +kernel
theorem dX5_readFromHolder_72 : decode cX5_readFromHolder 72 = .ok (.iconst 0, 1) := by decide +kernel
theorem dX5_readFromHolder_73 : decode cX5_readFromHolder 73 = .ok (.iastore, 1) := by decide +kernel
theorem dX5_readFromHolder_74 : decode cX5_readFromHolder 74 = .ok (.return_, 1) := by decide +kernel
end
section
theorem dX5_addToHolder_0 : decode cX5_addToHolder 0 = .ok (.aload_n 0, 1) := by decide +kernel
theorem dX5_addToHolder_1 : decode cX5_addToHolder 1 = .ok (.getfield 18, 3) := by decide +kernel
theorem dX5_addToHolder_4 : decode cX5_addToHolder 4 = .ok (.iload_n 2, 1) := by decide +kernel
theorem dX5_addToHolder_5 : decode cX5_addToHolder 5 = .ok (.dup2, 1) := by decide +kernel
theorem dX5_addToHolder_6 : decode cX5_addToHolder 6 = .ok (.iaload, 1) := by decide +kernel
theorem dX5_addToHolder_7 : decode cX5_addToHolder 7 = .ok (.iconst 1, 1) := by decide +kernel
theorem dX5_addToHolder_8 : decode cX5_addToHolder 8 = .ok (.iadd, 1) := by decide +kernel
theorem dX5_addToHolder_9 : decode cX5_addToHolder 9 = .ok (.iastore, 1) := by decide +kernel
theorem dX5_addToHolder_10 : decode cX5_addToHolder 10 = .ok (.aload_n 0, 1) := by decide +kernel
theorem dX5_addToHolder_11 : decode cX5_addToHolder 11 = .ok (.getfield 21, 3) := by decide +kernel
theorem dX5_addToHolder_14 : decode cX5_addToHolder 14 = .ok (.iload_n 2, 1) := by decide +kernel
theorem dX5_addToHolder_15 : decode cX5_addToHolder 15 = .ok (.dup2, 1) := by decide +kernel
theorem dX5_addToHolder_16 : decode cX5_addToHolder 16 = .ok (.iaload, 1) := by decide +kernel
theorem dX5_addToHolder_17 : decode cX5_addToHolder 17 = .ok (.aload_n 0, 1) := by decide +kernel
theorem dX5_addToHolder_18 : decode cX5_addToHolder 18 = .ok (.getfield 21, 3) := by decide +kernel
theorem dX5_addToHolder_21 : decode cX5_addToHolder 21 = .ok (.iload_n 1, 1) := by decide +kernel
theorem dX5_addToHolder_22 : decode cX5_addToHolder 22 = .ok (.iaload, 1) := by decide +kernel
theorem dX5_addToHolder_23 : decode cX5_addToHolder 23 = .ok (.iadd, 1) := by decide +kernel
theorem dX5_addToHolder_24 : decode cX5_addToHolder 24 = .ok (.iastore, 1) := by decide +kernel
theorem dX5_addToHolder_25 : decode cX5_addToHolder 25 = .ok (.aload_n 0, 1) := by decide +kernel
theorem dX5_addToHolder_26 : decode cX5_addToHolder 26 = .ok (.getfield 24, 3) := by decide +kernel
theorem dX5_addToHolder_29 : decode cX5_addToHolder 29 = .ok (.iload_n 1, 1) := by decide +kernel
theorem dX5_addToHolder_30 : decode cX5_addToHolder 30 = .ok (.iaload, 1) := by decide +kernel
theorem dX5_addToHolder_31 : decode cX5_addToHolder 31 = .ok (.iconst 1, 1) := by decide +kernel
theorem dX5_addToHolder_32 : decode cX5_addToHolder 32 = .ok (.iadd, 1) := by decide +kernel
theorem dX5_addToHolder_33 : decode cX5_addToHolder 33 = .ok (.istore_n 3, 1) := by decide +kernel
theorem dX5_addToHolder_34 : decode cX5_addToHolder 34 = .ok (.iload_n 3, 1) := by decide +kernel
theorem dX5_addToHolder_35 : decode cX5_addToHolder 35 = .ok (.aload_n 0, 1) := by decide +kernel
theorem dX5_addToHolder_36 : decode cX5_addToHolder 36 = .ok (.getfield 24, 3) := by decide +kernel
theorem dX5_addToHolder_39 : decode cX5_addToHolder 39 = .ok (.iload_n 2, 1) := by decide +kernel
theorem dX5_addToHolder_40 : decode cX5_addToHolder 40 = .ok (.iaload, 1) := by decide +kernel
theorem dX5_addToHolder_41 : decode cX5_addToHolder 41 = .ok (.if_icmp .le 25, 3) := by decide +kernel
theorem dX5_addToHolder_44 : decode cX5_addToHolder 44 = .ok (.aload_n 0, 1) := by decide +kernel
theorem dX5_addToHolder_45 : decode cX5_addToHolder 45 = .ok (.getfield 27, 3) := by decide +kernel
theorem dX5_addToHolder_48 : decode cX5_addToHolder 48 = .ok (.iload_n 2, 1) := by decide +kernel
theorem dX5_addToHolder_49 : decode cX5_addToHolder 49 = .ok (.aload_n 0, 1) := by decide +kernel
theorem dX5_addToHolder_50 : decode cX5_addToHolder 50 = .ok (.getfield 24, 3) := by decide +kernel
theorem dX5_addToHolder_53 : decode cX5_addToHolder 53 = .ok (.iload_n 2, 1) := by decide +kernel
theorem dX5_addToHolder_54 : decode cX5_addToHolder 54 = .ok (.iaload, 1) := by decide +kernel
theorem dX5_addToHolder_55 : decode cX5_addToHolder 55 = .ok (.iastore, 1) := by decide +kernel
theorem dX5_addToHolder_56 : decode cX5_addToHolder 56 = .ok (.aload_n 0, 1) := by decide +kernel
theorem dX5_addToHolder_57 : decode cX5_addToHolder 57 = .ok (.getfield 24, 3) := by decide +kernel
theorem dX5_addToHolder_60 : decode cX5_addToHolder 60 = .ok (.iload_n 2, 1) := by decide +kernel
theorem dX5_addToHolder_61 : decode cX5_addToHolder 61 = .ok (.iload_n 3, 1) := by decide +kernel
theorem dX5_addToHolder_62 : decode cX5_addToHolder 62 = .ok (.iastore, 1) := by decide +kernel
theorem dX5_addToHolder_63 : decode cX5_addToHolder 63 = .ok (.goto 20, 3) := by decide +kernel
theorem dX5_addToHolder_66 : decode cX5_addToHolder 66 = .ok (.iload_n 3, 1) := by decide +kernel
theorem dX5_addToHolder_67 : decode cX5_addToHolder 67 = .ok (.aload_n 0, 1) := by decide +kernel
theorem dX5_addToHolder_68 : decode cX5_addToHolder 68 = .ok (.getfield 27, 3) := by decide +kernel
theorem dX5_addToHolder_71 : decode cX5_addToHolder 71 = .ok (.iload_n 2, 1) := by decide +kernel
theorem dX5_addToHolder_72 : decode cX5_addToHolder 72 = .ok (.iaload, 1) := by decide +kernel
theorem dX5_addToHolder_73 : decode cX5_addToHolder 73 = .ok (.if_icmp .le 10, 3) := by decide +kernel
theorem dX5_addToHolder_76 : decode cX5_addToHolder 76 = .ok (.aload_n 0, 1) := by decide +kernel
theorem dX5_addToHolder_77 : decode cX5_addToHolder 77 = .ok (.getfield 27, 3) := by decide +kernel
theorem dX5_addToHolder_80 : decode cX5_addToHolder 80 = .ok (.iload_n 2, 1) := by decide +kernel
theorem dX5_addToHolder_81 : decode cX5_addToHolder 81 = .ok (.iload_n 3, 1) := by decide +kernel
theorem dX5_addToHolder_82 : decode cX5_addToHolder 82 = .ok (.iastore, 1) := by decide +kernel
theorem dX5_addToHolder_83 : decode cX5_addToHolder 83 = .ok (.return_, 1) := by decide +kernel
theorem dX5_rootGrains_0 : decode cX5_rootGrains 0 = .ok (.iconst 0, 1) := by decide +kernel
theorem dX5_rootGrains_1 : decode cX5_rootGrains 1 = .ok (.istore_n 1, 1) := by decide +kernel
theorem dX5_rootGrains_2 : decode cX5_rootGrains 2 = .ok (.iconst 0, 1) := by decide +kernel
theorem dX5_rootGrains_3 : decode cX5_rootGrains 3 = .ok (.istore_n 2, 1) := by decide +kernel
theorem dX5_rootGrains_4 : decode cX5_rootGrains 4 = .ok (.iload_n 2, 1) := by decide +kernel
theorem dX5_rootGrains_5 : decode cX5_rootGrains 5 = .ok (.aload_n 0, 1) := by decide +kernel
theorem dX5_rootGrains_6 : decode cX5_rootGrains 6 = .ok (.getfield 30, 3) := by decide +kernel
theorem dX5_rootGrains_9 : decode cX5_rootGrains 9 = .ok (.if_icmp .ge 22, 3) := by decide +kernel
theorem dX5_rootGrains_12 : decode cX5_rootGrains 12 = .ok (.aload_n 0, 1) := by decide +kernel
theorem dX5_rootGrains_13 : decode cX5_rootGrains 13 = .ok (.getfield 15, 3) := by decide +kernel
theorem dX5_rootGrains_16 : decode cX5_rootGrains 16 = .ok (.iload_n 2, 1) := by decide +kernel
theorem dX5_rootGrains_17 : decode cX5_rootGrains 17 = .ok (.iaload, 1) := by decide +kernel
theorem dX5_rootGrains_18 : decode cX5_rootGrains 18 = .ok (.iload_n 2, 1) := by decide +kernel
theorem dX5_rootGrains_19 : decode cX5_rootGrains 19 = .ok (.if_icmp .ne 6, 3) := by decide +kernel
theorem dX5_rootGrains_22 : decode cX5_rootGrains 22 = .ok (.iinc 1 1, 3) := by decide +kernel
theorem dX5_rootGrains_25 : decode cX5_rootGrains 25 = .ok (.iinc 2 1, 3) := by decide +kernel
theorem dX5_rootGrains_28 : decode cX5_rootGrains 28 = .ok (.goto (-24), 3) := by decide +kernel
theorem dX5_rootGrains_31 : decode cX5_rootGrains 31 = .ok (.iload_n 1, 1) := by decide +kernel
theorem dX5_rootGrains_32 : decode cX5_rootGrains 32 = .ok (.ireturn, 1) := by decide +kernel
theorem dX5_grainsHeldBy_0 : decode cX5_grainsHeldBy 0 = .ok (.iconst 0, 1) := by decide +kernel
theorem dX5_grainsHeldBy_1 : decode cX5_grainsHeldBy 1 = .ok (.istore_n 3, 1) := by decide +kernel
theorem dX5_grainsHeldBy_2 : decode cX5_grainsHeldBy 2 = .ok (.iconst 0, 1) := by decide +kernel
theorem dX5_grainsHeldBy_3 : decode cX5_grainsHeldBy 3 = .ok (.istore 4, 2) := by decide +kernel
theorem dX5_grainsHeldBy_5 : decode cX5_grainsHeldBy 5 = .ok (.iload 4, 2) := by decide +kernel
theorem dX5_grainsHeldBy_7 : decode cX5_grainsHeldBy 7 = .ok (.aload_n 0, 1) := by decide +kernel
theorem dX5_grainsHeldBy_8 : decode cX5_grainsHeldBy 8 = .ok (.getfield 30, 3) := by decide +kernel
theorem dX5_grainsHeldBy_11 : decode cX5_grainsHeldBy 11 = .ok (.if_icmp .ge 34, 3) := by decide +kernel
theorem dX5_grainsHeldBy_14 : decode cX5_grainsHeldBy 14 = .ok (.aload_n 0, 1) := by decide +kernel
theorem dX5_grainsHeldBy_15 : decode cX5_grainsHeldBy 15 = .ok (.getfield 18, 3) := by decide +kernel
theorem dX5_grainsHeldBy_18 : decode cX5_grainsHeldBy 18 = .ok (.iload 4, 2) := by decide +kernel
theorem dX5_grainsHeldBy_20 : decode cX5_grainsHeldBy 20 = .ok (.iaload, 1) := by decide +kernel
theorem dX5_grainsHeldBy_21 : decode cX5_grainsHeldBy 21 = .ok (.iload_n 1, 1) := by decide +kernel
theorem dX5_grainsHeldBy_22 : decode cX5_grainsHeldBy 22 = .ok (.if_icmp .lt 17, 3) := by decide +kernel
theorem dX5_grainsHeldBy_25 : decode cX5_grainsHeldBy 25 = .ok (.aload_n 0, 1) := by decide +kernel
theorem dX5_grainsHeldBy_26 : decode cX5_grainsHeldBy 26 = .ok (.getfield 18, 3) := by decide +kernel
theorem dX5_grainsHeldBy_29 : decode cX5_grainsHeldBy 29 = .ok (.iload 4, 2) := by decide +kernel
theorem dX5_grainsHeldBy_31 : decode cX5_grainsHeldBy 31 = .ok (.iaload, 1) := by decide +kernel
theorem dX5_grainsHeldBy_32 : decode cX5_grainsHeldBy 32 = .ok (.iload_n 2, 1) := by decide +kernel
theorem dX5_grainsHeldBy_33 : decode cX5_grainsHeldBy 33 = .ok (.if_icmp .gt 6, 3) := by decide +kernel
theorem dX5_grainsHeldBy_36 : decode cX5_grainsHeldBy 36 = .ok (.iinc 3 1, 3) := by decide +kernel
theorem dX5_grainsHeldBy_39 : decode cX5_grainsHeldBy 39 = .ok (.iinc 4 1, 3) := by decide +kernel
theorem dX5_grainsHeldBy_42 : decode cX5_grainsHeldBy 42 = .ok (.goto (-37), 3) := by decide +kernel
theorem dX5_grainsHeldBy_45 : decode cX5_grainsHeldBy 45 = .ok (.iload_n 3, 1) := by decide +kernel
theorem dX5_grainsHeldBy_46 : decode cX5_grainsHeldBy 46 = .ok (.ireturn, 1) := by decide +kernel
theorem dX5_deepest_0 : decode cX5_deepest 0 = .ok (.iconst 0, 1) := by decide +kernel
theorem dX5_deepest_1 : decode cX5_deepest 1 = .ok (.istore_n 1, 1) := by decide +kernel
theorem dX5_deepest_2 : decode cX5_deepest 2 = .ok (.iconst 0, 1) := by decide +kernel
theorem dX5_deepest_3 : decode cX5_deepest 3 = .ok (.istore_n 2, 1) := by decide +kernel
theorem dX5_deepest_4 : decode cX5_deepest 4 = .ok (.iload_n 2, 1) := by decide +kernel
theorem dX5_deepest_5 : decode cX5_deepest 5 = .ok (.aload_n 0, 1) := by decide +kernel
theorem dX5_deepest_6 : decode cX5_deepest 6 = .ok (.getfield 30, 3) := by decide +kernel
theorem dX5_deepest_9 : decode cX5_deepest 9 = .ok (.if_icmp .ge 20, 3) := by decide +kernel
theorem dX5_deepest_12 : decode cX5_deepest 12 = .ok (.iload_n 1, 1) := by decide +kernel
theorem dX5_deepest_13 : decode cX5_deepest 13 = .ok (.aload_n 0, 1) := by decide +kernel
theorem dX5_deepest_14 : decode cX5_deepest 14 = .ok (.getfield 9, 3) := by decide +kernel
theorem dX5_deepest_17 : decode cX5_deepest 17 = .ok (.iload_n 2, 1) := by decide +kernel
theorem dX5_deepest_18 : decode cX5_deepest 18 = .ok (.iaload, 1) := by decide +kernel
theorem dX5_deepest_19 : decode cX5_deepest 19 = .ok (.invokestatic 48, 3) := by decide +kernel
theorem dX5_deepest_22 : decode cX5_deepest 22 = .ok (.istore_n 1, 1) := by decide +kernel
theorem dX5_deepest_23 : decode cX5_deepest 23 = .ok (.iinc 2 1, 3) := by decide +kernel
theorem dX5_deepest_26 : decode cX5_deepest 26 = .ok (.goto (-22), 3) := by decide +kernel
theorem dX5_deepest_29 : decode cX5_deepest 29 = .ok (.iload_n 1, 1) := by decide +kernel
theorem dX5_deepest_30 : decode cX5_deepest 30 = .ok (.ireturn, 1) := by decide +kernel
theorem dX5_longestOfHeights_0 : decode cX5_longestOfHeights 0 = .ok (.iconst 0, 1) := by decide +kernel
theorem dX5_longestOfHeights_1 : decode cX5_longestOfHeights 1 = .ok (.istore_n 1, 1) := by decide +kernel
theorem dX5_longestOfHeights_2 : decode cX5_longestOfHeights 2 = .ok (.iconst 0, 1) := by decide +kernel
theorem dX5_longestOfHeights_3 : decode cX5_longestOfHeights 3 = .ok (.istore_n 2, 1) := by decide +kernel
theorem dX5_longestOfHeights_4 : decode cX5_longestOfHeights 4 = .ok (.iload_n 2, 1) := by decide +kernel
theorem dX5_longestOfHeights_5 : decode cX5_longestOfHeights 5 = .ok (.aload_n 0, 1) := by decide +kernel
theorem dX5_longestOfHeights_6 : decode cX5_longestOfHeights 6 = .ok (.getfield 30, 3) := by decide +kernel
theorem dX5_longestOfHeights_9 : decode cX5_longestOfHeights 9 = .ok (.if_icmp .ge 27, 3) := by decide +kernel
theorem dX5_longestOfHeights_12 : decode cX5_longestOfHeights 12 = .ok (.iload_n 1, 1) := by decide +kernel
theorem dX5_longestOfHeights_13 : decode cX5_longestOfHeights 13 = .ok (.aload_n 0, 1) := by decide +kernel
theorem dX5_longestOfHeights_14 : decode cX5_longestOfHeights 14 = .ok (.getfield 24, 3) := by decide +kernel
theorem dX5_longestOfHeights_17 : decode cX5_longestOfHeights 17 = .ok (.iload_n 2, 1) := by decide +kernel
theorem dX5_longestOfHeights_18 : decode cX5_longestOfHeights 18 = .ok (.iaload, 1) := by decide +kernel
theorem dX5_longestOfHeights_19 : decode cX5_longestOfHeights 19 = .ok (.aload_n 0, 1) := by decide +kernel
theorem dX5_longestOfHeights_20 : decode cX5_longestOfHeights 20 = .ok (.getfield 27, 3) := by decide +kernel
theorem dX5_longestOfHeights_23 : decode cX5_longestOfHeights 23 = .ok (.iload_n 2, 1) := by decide +kernel
theorem dX5_longestOfHeights_24 : decode cX5_longestOfHeights 24 = .ok (.iaload, 1) := by decide +kernel
theorem dX5_longestOfHeights_25 : decode cX5_longestOfHeights 25 = .ok (.iadd, 1) := by decide +kernel
theorem dX5_longestOfHeights_26 : decode cX5_longestOfHeights 26 = .ok (.invokestatic 48, 3) := by decide +kernel
theorem dX5_longestOfHeights_29 : decode cX5_longestOfHeights 29 = .ok (.istore_n 1, 1) := by decide +kernel
theorem dX5_longestOfHeights_30 : decode cX5_longestOfHeights 30 = .ok (.iinc 2 1, 3) := by decide +kernel
theorem dX5_longestOfHeights_33 : decode cX5_longestOfHeights 33 = .ok (.goto (-29), 3) := by decide +kernel
theorem dX5_longestOfHeights_36 : decode cX5_longestOfHeights 36 = .ok (.iload_n 1, 1) := by decide +kernel
theorem dX5_longestOfHeights_37 : decode cX5_longestOfHeights 37 = .ok (.ireturn, 1) := by decide +kernel
theorem dX6_init_0 : decode cX6_init 0 = .ok (.aload_n 0, 1) := by decide +kernel
theorem dX6_init_1 : decode cX6_init 1 = .ok (.invokespecial 3, 3) := by decide +kernel
theorem dX6_init_4 : decode cX6_init 4 = .ok (.aload_n 0, 1) := by decide +kernel
theorem dX6_init_5 : decode cX6_init 5 = .ok (.iconst 0, 1) := by decide +kernel
theorem dX6_init_6 : decode cX6_init 6 = .ok (.putfield 9, 3) := by decide +kernel
theorem dX6_init_9 : decode cX6_init 9 = .ok (.aload_n 0, 1) := by decide +kernel
theorem dX6_init_10 : decode cX6_init 10 = .ok (.iconst 0, 1) := by decide +kernel
theorem dX6_init_11 : decode cX6_init 11 = .ok (.putfield 15, 3) := by decide +kernel
theorem dX6_init_14 : decode cX6_init 14 = .ok (.aload_n 0, 1) := by decide +kernel
theorem dX6_init_15 : decode cX6_init 15 = .ok (.iconst 0, 1) := by decide +kernel
theorem dX6_init_16 : decode cX6_init 16 = .ok (.putfield 18, 3) := by decide +kernel
theorem dX6_init_19 : decode cX6_init 19 = .ok (.aload_n 0, 1) := by decide +kernel
theorem dX6_init_20 : decode cX6_init 20 = .ok (.iconst 0, 1) := by decide +kernel
theorem dX6_init_21 : decode cX6_init 21 = .ok (.putfield 21, 3) := by decide +kernel
theorem dX6_init_24 : decode cX6_init 24 = .ok (.aload_n 0, 1) := by decide +kernel
theorem dX6_init_25 : decode cX6_init 25 = .ok (.bipush (-4), 2) := by decide +kernel
theorem dX6_init_27 : decode cX6_init 27 = .ok (.putfield 24, 3) := by decide +kernel
theorem dX6_init_30 : decode cX6_init 30 = .ok (.return_, 1) := by decide +kernel
set_option maxRecDepth 20000 in
theorem ggX6_walkFrom_X4_setting : GoodIn wsX6_walkFrom wsX4_setting := goodIn_r _ [10, 11, 48, 49, 50, 51, 52, 53, 54, 55, 56, 57, 58] (by decide +kernel) (by decide +kernel)
set_option maxRecDepth 20000 in
theorem gX6_walkFrom_X4_setting : GoodIn wsX6_walkFrom (wsV RX6 30 RX4 yX4_setting wsX4_setting) := goodIn_app (goodIn_of _ (by decide +kernel)) ggX6_walkFrom_X4_setting
set_option maxRecDepth 20000 in
theorem ggX6_walkFrom_X6_catchesHold : GoodIn wsX6_walkFrom wsX6_catchesHold := goodIn_r _ [16, 1, 5, 17, 18, 19, 9, 20, 21, 22, 23, 24, 25, 26, 27, 28, 29, 30, 31, 32, 15, 33, 4, 3, 34, 35, 36, 6, 7, 8, 10, 11, 43, 44, 45, 46, 47, 48, 49, 50, 51, 52, 53, 54, 55, 56, 57, 58] (by decide +kernel) (by decide +kernel)
set_option maxRecDepth 20000 in
theorem gX6_walkFrom_X6_catchesHold : GoodIn wsX6_walkFrom (wsV RX6 34 RX6 yX6_catchesHold wsX6_catchesHold) := goodIn_app (goodIn_of _ (by decide +kernel)) ggX6_walkFrom_X6_catchesHold
set_option maxRecDepth 20000 in
theorem ggX6_walkFrom_X6_makesStep : GoodIn wsX6_walkFrom wsX6_makesStep := goodIn_r _ [40, 1, 2, 30, 31, 32, 15, 33, 4, 3, 34, 35, 36, 6, 7, 8, 9, 10, 11, 41, 22, 23, 24, 42, 26, 27, 28, 29, 43, 44, 45, 46, 47, 48, 49, 50, 51, 52, 53, 54, 55, 56, 57, 58] (by decide +kernel) (by decide +kernel)
set_option maxRecDepth 20000 in
theorem gX6_walkFrom_X6_makesStep : GoodIn wsX6_walkFrom (wsV RX6 38 RX6 yX6_makesStep wsX6_makesStep) := goodIn_app (goodIn_of _ (by decide +kernel)) ggX6_walkFrom_X6_makesStep
theorem dX6_walkFrom_0 : decode cX6_walkFrom 0 = .ok (.aload_n 0, 1) := by decide +kernel
theorem dX6_walkFrom_1 : decode cX6_walkFrom 1 = .ok (.iload_n 2, 1) := by decide +kernel
theorem dX6_walkFrom_2 : decode cX6_walkFrom 2 = .ok (.putfield 9, 3) := by decide +kernel
theorem dX6_walkFrom_5 : decode cX6_walkFrom 5 = .ok (.aload_n 0, 1) := by decide +kernel
theorem dX6_walkFrom_6 : decode cX6_walkFrom 6 = .ok (.iconst 0, 1) := by decide +kernel
theorem dX6_walkFrom_7 : decode cX6_walkFrom 7 = .ok (.putfield 15, 3) := by decide +kernel
theorem dX6_walkFrom_10 : decode cX6_walkFrom 10 = .ok (.aload_n 0, 1) := by decide +kernel
theorem dX6_walkFrom_11 : decode cX6_walkFrom 11 = .ok (.iconst 0, 1) := by decide +kernel
theorem dX6_walkFrom_12 : decode cX6_walkFrom 12 = .ok (.putfield 18, 3) := by decide +kernel
theorem dX6_walkFrom_15 : decode cX6_walkFrom 15 = .ok (.aload_n 0, 1) := by decide +kernel
theorem dX6_walkFrom_16 : decode cX6_walkFrom 16 = .ok (.aload_n 1, 1) := by decide +kernel
theorem dX6_walkFrom_17 : decode cX6_walkFrom 17 = .ok (.getfield 27, 3) := by decide +kernel
theorem dX6_walkFrom_20 : decode cX6_walkFrom 20 = .ok (.putfield 21, 3) := by decide +kernel
theorem dX6_walkFrom_23 : decode cX6_walkFrom 23 = .ok (.aload_n 0, 1) := by decide +kernel
theorem dX6_walkFrom_24 : decode cX6_walkFrom 24 = .ok (.bipush (-4), 2) := by decide +kernel
theorem dX6_walkFrom_26 : decode cX6_walkFrom 26 = .ok (.putfield 24, 3) := by decide +kernel
theorem dX6_walkFrom_29 : decode cX6_walkFrom 29 = .ok (.aload_n 1, 1) := by decide +kernel
theorem dX6_walkFrom_30 : decode cX6_walkFrom 30 = .ok (.iconst 1, 1) := by decide +kernel
theorem dX6_walkFrom_31 : decode cX6_walkFrom 31 = .ok (.invokevirtual 30, 3) := by decide +kernel
theorem dX6_walkFrom_34 : decode cX6_walkFrom 34 = .ok (.istore_n 3, 1) := by decide +kernel
theorem dX6_walkFrom_35 : decode cX6_walkFrom 35 = .ok (.iconst 1, 1) := by decide +kernel
theorem dX6_walkFrom_36 : decode cX6_walkFrom 36 = .ok (.istore 4, 2) := by decide +kernel
theorem dX6_walkFrom_38 : decode cX6_walkFrom 38 = .ok (.iconst 0, 1) := by decide +kernel
theorem dX6_walkFrom_39 : decode cX6_walkFrom 39 = .ok (.istore 5, 2) := by decide +kernel
theorem dX6_walkFrom_41 : decode cX6_walkFrom 41 = .ok (.iload 5, 2) := by decide +kernel
theorem dX6_walkFrom_43 : decode cX6_walkFrom 43 = .ok (.iload_n 3, 1) := by decide +kernel
theorem dX6_walkFrom_44 : decode cX6_walkFrom 44 = .ok (.if_icmp .gt 45, 3) := by decide +kernel
theorem dX6_walkFrom_47 : decode cX6_walkFrom 47 = .ok (.iload 4, 2) := by decide +kernel
theorem dX6_walkFrom_49 : decode cX6_walkFrom 49 = .ok (.ifCond .eq 40, 3) := by decide +kernel
theorem dX6_walkFrom_52 : decode cX6_walkFrom 52 = .ok (.aload_n 0, 1) := by decide +kernel
theorem dX6_walkFrom_53 : decode cX6_walkFrom 53 = .ok (.aload_n 1, 1) := by decide +kernel
theorem dX6_walkFrom_54 : decode cX6_walkFrom 54 = .ok (.invokevirtual 34, 3) := by decide +kernel
theorem dX6_walkFrom_57 : decode cX6_walkFrom 57 = .ok (.ifCond .ne 23, 3) := by decide +kernel
theorem dX6_walkFrom_60 : decode cX6_walkFrom 60 = .ok (.aload_n 0, 1) := by decide +kernel
theorem dX6_walkFrom_61 : decode cX6_walkFrom 61 = .ok (.getfield 15, 3) := by decide +kernel
theorem dX6_walkFrom_64 : decode cX6_walkFrom 64 = .ok (.iload_n 3, 1) := by decide +kernel
theorem dX6_walkFrom_65 : decode cX6_walkFrom 65 = .ok (.if_icmp .ge 15, 3) := by decide +kernel
theorem dX6_walkFrom_68 : decode cX6_walkFrom 68 = .ok (.aload_n 0, 1) := by decide +kernel
theorem dX6_walkFrom_69 : decode cX6_walkFrom 69 = .ok (.aload_n 1, 1) := by decide +kernel
theorem dX6_walkFrom_70 : decode cX6_walkFrom 70 = .ok (.invokevirtual 38, 3) := by decide +kernel
theorem dX6_walkFrom_73 : decode cX6_walkFrom 73 = .ok (.ifCond .eq 7, 3) := by decide +kernel
theorem dX6_walkFrom_76 : decode cX6_walkFrom 76 = .ok (.iconst 1, 1) := by decide +kernel
theorem dX6_walkFrom_77 : decode cX6_walkFrom 77 = .ok (.goto 4, 3) := by decide +kernel
theorem dX6_walkFrom_80 : decode cX6_walkFrom 80 = .ok (.iconst 0, 1) := by decide +kernel
theorem dX6_walkFrom_81 : decode cX6_walkFrom 81 = .ok (.istore 4, 2) := by decide +kernel
theorem dX6_walkFrom_83 : decode cX6_walkFrom 83 = .ok (.iinc 5 1, 3) := by decide +kernel
theorem dX6_walkFrom_86 : decode cX6_walkFrom 86 = .ok (.goto (-45), 3) := by decide +kernel
theorem dX6_walkFrom_89 : decode cX6_walkFrom 89 = .ok (.return_, 1) := by decide +kernel
set_option maxRecDepth 20000 in
theorem ggX6_catchesHold_X4_firstGrainBeside : GoodIn wsX6_catchesHold wsX4_firstGrainBeside := goodIn_r _ [7, 8, 9, 10, 11, 12, 13, 14, 6, 15, 16, 37, 38, 39, 40, 41, 42, 43, 44, 45, 46, 47] (by decide +kernel) (by decide +kernel)
set_option maxRecDepth 20000 in
theorem gX6_catchesHold_X4_firstGrainBeside : GoodIn wsX6_catchesHold (wsV RX6 41 RX4 yX4_firstGrainBeside wsX4_firstGrainBeside) := goodIn_app (goodIn_of _ (by decide +kernel)) ggX6_catchesHold_X4_firstGrainBeside
set_option maxRecDepth 20000 in
theorem ggX6_catchesHold_X6_draw : GoodIn wsX6_catchesHold wsX6_draw := goodIn_r _ [21, 22, 23, 24, 25, 26, 32, 33, 34, 35, 36] (by decide +kernel) (by decide +kernel)
set_option maxRecDepth 20000 in
theorem gX6_catchesHold_X6_draw : GoodIn wsX6_catchesHold (wsV RX6 44 RX6 yX6_draw wsX6_draw) := goodIn_app (goodIn_of _ (by decide +kernel)) ggX6_catchesHold_X6_draw
set_option maxRecDepth 20000 in
theorem ggX6_catchesHold_X4_setting : GoodIn wsX6_catchesHold wsX4_setting := goodIn_r _ [30, 31, 37, 38, 39, 40, 41, 42, 43, 44, 45, 46, 47] (by decide +kernel) (by decide +kernel)
set_option maxRecDepth 20000 in
theorem gX6_catchesHold_X4_setting : GoodIn wsX6_catchesHold (wsV RX6 30 RX4 yX4_setting wsX4_setting) := goodIn_app (goodIn_of _ (by decide +kernel)) ggX6_catchesHold_X4_setting
theorem dX6_catchesHold_0 : decode cX6_catchesHold 0 = .ok (.aload_n 1, 1) := by decide +kernel
theorem dX6_catchesHold_1 : decode cX6_catchesHold 1 = .ok (.aload_n 0, 1) := by decide +kernel
theorem dX6_catchesHold_2 : decode cX6_catchesHold 2 = .ok (.getfield 9, 3) := by decide +kernel
theorem dX6_catchesHold_5 : decode cX6_catchesHold 5 = .ok (.invokevirtual 41, 3) := by decide +kernel
theorem dX6_catchesHold_8 : decode cX6_catchesHold 8 = .ok (.istore_n 2, 1) := by decide +kernel
theorem dX6_catchesHold_9 : decode cX6_catchesHold 9 = .ok (.iload_n 2, 1) := by decide +kernel
theorem dX6_catchesHold_10 : decode cX6_catchesHold 10 = .ok (.bipush (-4), 2) := by decide +kernel
theorem dX6_catchesHold_12 : decode cX6_catchesHold 12 = .ok (.if_icmp .eq 17, 3) := by decide +kernel
theorem dX6_catchesHold_15 : decode cX6_catchesHold 15 = .ok (.aload_n 0, 1) := by decide +kernel
theorem dX6_catchesHold_16 : decode cX6_catchesHold 16 = .ok (.invokevirtual 44, 3) := by decide +kernel
theorem dX6_catchesHold_19 : decode cX6_catchesHold 19 = .ok (.iconst 4, 1) := by decide +kernel
theorem dX6_catchesHold_20 : decode cX6_catchesHold 20 = .ok (.irem, 1) := by decide +kernel
theorem dX6_catchesHold_21 : decode cX6_catchesHold 21 = .ok (.aload_n 1, 1) := by decide +kernel
theorem dX6_catchesHold_22 : decode cX6_catchesHold 22 = .ok (.iconst 0, 1) := by decide +kernel
theorem dX6_catchesHold_23 : decode cX6_catchesHold 23 = .ok (.invokevirtual 30, 3) := by decide +kernel
theorem dX6_catchesHold_26 : decode cX6_catchesHold 26 = .ok (.if_icmp .lt 5, 3) := by decide +kernel
theorem dX6_catchesHold_29 : decode cX6_catchesHold 29 = .ok (.iconst 0, 1) := by decide +kernel
theorem dX6_catchesHold_30 : decode cX6_catchesHold 30 = .ok (.ireturn, 1) := by decide +kernel
theorem dX6_catchesHold_31 : decode cX6_catchesHold 31 = .ok (.aload_n 0, 1) := by decide +kernel
theorem dX6_catchesHold_32 : decode cX6_catchesHold 32 = .ok (.iload_n 2, 1) := by decide +kernel
theorem dX6_catchesHold_33 : decode cX6_catchesHold 33 = .ok (.putfield 24, 3) := by decide +kernel
theorem dX6_catchesHold_36 : decode cX6_catchesHold 36 = .ok (.iconst 1, 1) := by decide +kernel
theorem dX6_catchesHold_37 : decode cX6_catchesHold 37 = .ok (.ireturn, 1) := by decide +kernel
set_option maxRecDepth 20000 in
theorem ggX6_makesStep_X6_draw : GoodIn wsX6_makesStep wsX6_draw := goodIn_r _ [7, 8, 9, 10, 11, 12, 28, 29, 30, 31, 32] (by decide +kernel) (by decide +kernel)
set_option maxRecDepth 20000 in
theorem gX6_makesStep_X6_draw : GoodIn wsX6_makesStep (wsV RX6 44 RX6 yX6_draw wsX6_draw) := goodIn_app (goodIn_of _ (by decide +kernel)) ggX6_makesStep_X6_draw
set_option maxRecDepth 20000 in
theorem ggX6_makesStep_X4_setting : GoodIn wsX6_makesStep wsX4_setting := goodIn_r _ [17, 18, 33, 34, 35, 36, 37, 38, 39, 40, 41, 42, 43] (by decide +kernel) (by decide +kernel)
set_option maxRecDepth 20000 in
theorem gX6_makesStep_X4_setting : GoodIn wsX6_makesStep (wsV RX6 30 RX4 yX4_setting wsX4_setting) := goodIn_app (goodIn_of _ (by decide +kernel)) ggX6_makesStep_X4_setting
set_option maxRecDepth 20000 in
theorem ggX6_makesStep_X2_neighbour : GoodIn wsX6_makesStep wsX2_neighbour := goodIn_r _ [22] (by decide +kernel) (by decide +kernel)
set_option maxRecDepth 20000 in
theorem gX6_makesStep_X2_neighbour : GoodIn wsX6_makesStep (va_wsS RX6 48 yX2_neighbour wsX2_neighbour) := goodIn_app (goodIn_of _ (by decide +kernel)) ggX6_makesStep_X2_neighbour
set_option maxRecDepth 20000 in
theorem ggX6_makesStep_X4_grainAt : GoodIn wsX6_makesStep wsX4_grainAt := goodIn_r _ [26, 27, 33, 34, 35, 36, 37, 38, 39, 40, 41, 42, 43] (by decide +kernel) (by decide +kernel)
set_option maxRecDepth 20000 in
theorem gX6_makesStep_X4_grainAt : GoodIn wsX6_makesStep (wsV RX6 54 RX4 yX4_grainAt wsX4_grainAt) := goodIn_app (goodIn_of _ (by decide +kernel)) ggX6_makesStep_X4_grainAt
theorem dX6_makesStep_0 : decode cX6_makesStep 0 = .ok (.aload_n 0, 1) := by decide +kernel
theorem dX6_makesStep_1 : decode cX6_makesStep 1 = .ok (.invokevirtual 44, 3) := by decide +kernel
theorem dX6_makesStep_4 : decode cX6_makesStep 4 = .ok (.iconst 4, 1) := by decide +kernel
theorem dX6_makesStep_5 : decode cX6_makesStep 5 = .ok (.aload_n 1, 1) := by decide +kernel
theorem dX6_makesStep_6 : decode cX6_makesStep 6 = .ok (.iconst 2, 1) := by decide +kernel
theorem dX6_makesStep_7 : decode cX6_makesStep 7 = .ok (.invokevirtual 30, 3) := by decide +kernel
theorem dX6_makesStep_10 : decode cX6_makesStep 10 = .ok (.iadd, 1) := by decide +kernel
theorem dX6_makesStep_11 : decode cX6_makesStep 11 = .ok (.irem, 1) := by decide +kernel
theorem dX6_makesStep_12 : decode cX6_makesStep 12 = .ok (.istore_n 2, 1) := by decide +kernel
theorem dX6_makesStep_13 : decode cX6_makesStep 13 = .ok (.aload_n 0, 1) := by decide +kernel
theorem dX6_makesStep_14 : decode cX6_makesStep 14 = .ok (.getfield 9, 3) := by decide +kernel
theorem dX6_makesStep_17 : decode cX6_makesStep 17 = .ok (.iload_n 2, 1) := by decide +kernel
theorem dX6_makesStep_18 : decode cX6_makesStep 18 = .ok (.iconst 4, 1) := by decide +kernel
theorem dX6_makesStep_19 : decode cX6_makesStep 19 = .ok (.if_icmp .ge 7, 3) := by decide +kernel
theorem dX6_makesStep_22 : decode cX6_makesStep 22 = .ok (.iload_n 2, 1) := by decide +kernel
theorem dX6_makesStep_23 : decode cX6_makesStep 23 = .ok (.goto 8, 3) := by decide +kernel
theorem dX6_makesStep_26 : decode cX6_makesStep 26 = .ok (.aload_n 1, 1) := by decide +kernel
theorem dX6_makesStep_27 : decode cX6_makesStep 27 = .ok (.iconst 3, 1) := by decide +kernel
theorem dX6_makesStep_28 : decode cX6_makesStep 28 = .ok (.invokevirtual 30, 3) := by decide +kernel
theorem dX6_makesStep_31 : decode cX6_makesStep 31 = .ok (.invokestatic 48, 3) := by decide +kernel
theorem dX6_makesStep_34 : decode cX6_makesStep 34 = .ok (.istore_n 3, 1) := by decide +kernel
theorem dX6_makesStep_35 : decode cX6_makesStep 35 = .ok (.aload_n 0, 1) := by decide +kernel
theorem dX6_makesStep_36 : decode cX6_makesStep 36 = .ok (.dup, 1) := by decide +kernel
theorem dX6_makesStep_37 : decode cX6_makesStep 37 = .ok (.getfield 15, 3) := by decide +kernel
theorem dX6_makesStep_40 : decode cX6_makesStep 40 = .ok (.iconst 1, 1) := by decide +kernel
theorem dX6_makesStep_41 : decode cX6_makesStep 41 = .ok (.iadd, 1) := by decide +kernel
theorem dX6_makesStep_42 : decode cX6_makesStep 42 = .ok (.putfield 15, 3) := by decide +kernel
theorem dX6_makesStep_45 : decode cX6_makesStep 45 = .ok (.iload_n 3, 1) := by decide +kernel
theorem dX6_makesStep_46 : decode cX6_makesStep 46 = .ok (.bipush (-4), 2) := by decide +kernel
theorem dX6_makesStep_48 : decode cX6_makesStep 48 = .ok (.if_icmp .ne 5, 3) := by decide +kernel
theorem dX6_makesStep_51 : decode cX6_makesStep 51 = .ok (.iconst 0, 1) := by decide +kernel
theorem dX6_makesStep_52 : decode cX6_makesStep 52 = .ok (.ireturn, 1) := by decide +kernel
theorem dX6_makesStep_53 : decode cX6_makesStep 53 = .ok (.aload_n 1, 1) := by decide +kernel
theorem dX6_makesStep_54 : decode cX6_makesStep 54 = .ok (.iload_n 3, 1) := by decide +kernel
theorem dX6_makesStep_55 : decode cX6_makesStep 55 = .ok (.invokevirtual 54, 3) := by decide +kernel
theorem dX6_makesStep_58 : decode cX6_makesStep 58 = .ok (.bipush (-4), 2) := by decide +kernel
theorem dX6_makesStep_60 : decode cX6_makesStep 60 = .ok (.if_icmp .ne 8, 3) := by decide +kernel
theorem dX6_makesStep_63 : decode cX6_makesStep 63 = .ok (.aload_n 0, 1) := by decide +kernel
theorem dX6_makesStep_64 : decode cX6_makesStep 64 = .ok (.iload_n 3, 1) := by decide +kernel
theorem dX6_makesStep_65 : decode cX6_makesStep 65 = .ok (.putfield 9, 3) := by decide +kernel
theorem dX6_makesStep_68 : decode cX6_makesStep 68 = .ok (.iconst 1, 1) := by decide +kernel
theorem dX6_makesStep_69 : decode cX6_makesStep 69 = .ok (.ireturn, 1) := by decide +kernel
set_option maxRecDepth 20000 in
theorem ggX6_draw_X7_nextLot : GoodIn wsX6_draw wsX7_nextLot := goodIn_r _ [5] (by decide +kernel) (by decide +kernel)
set_option maxRecDepth 20000 in
theorem gX6_draw_X7_nextLot_n57 : GoodIn wsX6_draw (wsX7_nextLot) := ggX6_draw_X7_nextLot
theorem dX6_draw_0 : decode cX6_draw 0 = .ok (.aload_n 0, 1) := by decide +kernel
theorem dX6_draw_1 : decode cX6_draw 1 = .ok (.aload_n 0, 1) := by decide +kernel
theorem dX6_draw_2 : decode cX6_draw 2 = .ok (.getfield 21, 3) := by decide +kernel
theorem dX6_draw_5 : decode cX6_draw 5 = .ok (.invokestatic 57, 3) := by decide +kernel
theorem dX6_draw_8 : decode cX6_draw 8 = .ok (.putfield 21, 3) := by decide +kernel
theorem dX6_draw_11 : decode cX6_draw 11 = .ok (.aload_n 0, 1) := by decide +kernel
theorem dX6_draw_12 : decode cX6_draw 12 = .ok (.dup, 1) := by decide +kernel
theorem dX6_draw_13 : decode cX6_draw 13 = .ok (.getfield 18, 3) := by decide +kernel
theorem dX6_draw_16 : decode cX6_draw 16 = .ok (.iconst 1, 1) := by decide +kernel
theorem dX6_draw_17 : decode cX6_draw 17 = .ok (.iadd, 1) := by decide +kernel
theorem dX6_draw_18 : decode cX6_draw 18 = .ok (.putfield 18, 3) := by decide +kernel
theorem dX6_draw_21 : decode cX6_draw 21 = .ok (.aload_n 0, 1) := by decide +kernel
theorem dX6_draw_22 : decode cX6_draw 22 = .ok (.getfield 21, 3) := by decide +kernel
theorem dX6_draw_25 : decode cX6_draw 25 = .ok (.ireturn, 1) := by decide +kernel
theorem dX6_sticks_0 : decode cX6_sticks 0 = .ok (.aload_n 0, 1) := by decide +kernel
theorem dX6_sticks_1 : decode cX6_sticks 1 = .ok (.getfield 24, 3) := by decide +kernel
theorem dX6_sticks_4 : decode cX6_sticks 4 = .ok (.bipush (-4), 2) := by decide +kernel
theorem dX6_sticks_6 : decode cX6_sticks 6 = .ok (.if_icmp .eq 7, 3) := by decide +kernel
theorem dX6_sticks_9 : decode cX6_sticks 9 = .ok (.iconst 1, 1) := by decide +kernel
theorem dX6_sticks_10 : decode cX6_sticks 10 = .ok (.goto 4, 3) := by decide +kernel
theorem dX6_sticks_13 : decode cX6_sticks 13 = .ok (.iconst 0, 1) := by decide +kernel
theorem dX6_sticks_14 : decode cX6_sticks 14 = .ok (.ireturn, 1) := by decide +kernel
set_option maxRecDepth 20000 in
theorem ggX6_answer_X6_sticks : GoodIn wsX6_answer wsX6_sticks := goodIn_r _ [7, 8, 9, 10, 11, 12, 13] (by decide +kernel) (by decide +kernel)
set_option maxRecDepth 20000 in
theorem gX6_answer_X6_sticks : GoodIn wsX6_answer (wsV RX6 60 RX6 yX6_sticks wsX6_sticks) := goodIn_app (goodIn_of _ (by decide +kernel)) ggX6_answer_X6_sticks
theorem dX6_answer_0 : decode cX6_answer 0 = .ok (.aload_n 0, 1) := by decide +kernel
theorem dX6_answer_1 : decode cX6_answer 1 = .ok (.invokevirtual 60, 3) := by decide +kernel
theorem dX6_answer_4 : decode cX6_answer 4 = .ok (.ifCond .eq 14, 3) := by decide +kernel
theorem dX6_answer_7 : decode cX6_answer 7 = .ok (.sipush 1000, 3) := by decide +kernel
theorem dX6_answer_10 : decode cX6_answer 10 = .ok (.aload_n 0, 1) := by decide +kernel
theorem dX6_answer_11 : decode cX6_answer 11 = .ok (.getfield 9, 3) := by decide +kernel
theorem dX6_answer_14 : decode cX6_answer 14 = .ok (.iadd, 1) := by decide +kernel
theorem dX6_answer_15 : decode cX6_answer 15 = .ok (.goto 7, 3) := by decide +kernel
theorem dX6_answer_18 : decode cX6_answer 18 = .ok (.aload_n 0, 1) := by decide +kernel
theorem dX6_answer_19 : decode cX6_answer 19 = .ok (.getfield 15, 3) := by decide +kernel
theorem dX6_answer_22 : decode cX6_answer 22 = .ok (.ireturn, 1) := by decide +kernel
set_option maxRecDepth 20000 in
theorem ggX7_init_X4_init : GoodIn wsX7_init wsX4_init := goodIn_r _ [37, 38, 2, 3, 39, 40, 41, 42, 43, 44, 45, 46, 47, 48, 49, 50, 116, 117, 118, 119, 120, 121, 122, 123, 124, 125, 126] (by decide +kernel) (by decide +kernel)
set_option maxRecDepth 20000 in
theorem gX7_init_X4_init_n11 : GoodIn wsX7_init (wsX4_init) := ggX7_init_X4_init
set_option maxRecDepth 20000 in
theorem ggX7_init_X6_init : GoodIn wsX7_init wsX6_init := goodIn_r _ [52, 53, 2, 3, 54, 55, 56, 57, 58, 141, 142, 143, 144, 145] (by decide +kernel) (by decide +kernel)
set_option maxRecDepth 20000 in
theorem gX7_init_X6_init_n28 : GoodIn wsX7_init (wsX6_init) := ggX7_init_X6_init
set_option maxRecDepth 20000 in
theorem ggX7_init_X0_init : GoodIn wsX7_init wsX0_init := goodIn_r _ [60, 61, 2, 3, 62, 63, 39, 64, 146, 147] (by decide +kernel) (by decide +kernel)
set_option maxRecDepth 20000 in
theorem gX7_init_X0_init_n35 : GoodIn wsX7_init (wsX0_init) := ggX7_init_X0_init
set_option maxRecDepth 20000 in
theorem ggX7_init_X5_init : GoodIn wsX7_init wsX5_init := goodIn_r _ [66, 67, 2, 3, 39, 68, 69, 70, 71, 72, 73, 74, 148, 149, 150, 151, 152, 153, 154] (by decide +kernel) (by decide +kernel)
set_option maxRecDepth 20000 in
theorem gX7_init_X5_init_n42 : GoodIn wsX7_init (wsX5_init) := ggX7_init_X5_init
set_option maxRecDepth 20000 in
theorem ggX7_init_X3_init : GoodIn wsX7_init wsX3_init := goodIn_r _ [76, 77, 2, 3, 39, 78, 79, 80, 155, 156, 157] (by decide +kernel) (by decide +kernel)
set_option maxRecDepth 20000 in
theorem gX7_init_X3_init_n49 : GoodIn wsX7_init (wsX3_init) := ggX7_init_X3_init
set_option maxRecDepth 20000 in
theorem ggX7_init_X1_init : GoodIn wsX7_init wsX1_init := goodIn_r _ [82, 83, 2, 3, 84, 85, 86, 87, 88, 89, 90, 158, 159, 160, 161, 162, 163] (by decide +kernel) (by decide +kernel)
set_option maxRecDepth 20000 in
theorem gX7_init_X1_init_n56 : GoodIn wsX7_init (wsX1_init) := ggX7_init_X1_init
set_option maxRecDepth 20000 in
theorem ggX7_init_X4_plant : GoodIn wsX7_init wsX4_plant := goodIn_r _ [94, 45, 47, 48, 49, 50, 43, 95, 96, 6, 97, 98, 99, 100, 101, 102, 103, 104, 105, 106, 107, 108, 109, 110, 111, 112, 40, 41, 42, 113, 114, 115, 116, 117, 118, 119, 120, 121, 122, 123, 124, 125, 126] (by decide +kernel) (by decide +kernel)
set_option maxRecDepth 20000 in
theorem gX7_init_X4_plant : GoodIn wsX7_init (wsV RX7 78 RX4 yX4_plant wsX4_plant) := goodIn_app (goodIn_of _ (by decide +kernel)) ggX7_init_X4_plant
theorem dX7_init_0 : decode cX7_init 0 = .ok (.aload_n 0, 1) := by decide +kernel
theorem dX7_init_1 : decode cX7_init 1 = .ok (.invokespecial 3, 3) := by decide +kernel
theorem dX7_init_4 : decode cX7_init 4 = .ok (.aload_n 0, 1) := by decide +kernel
theorem dX7_init_5 : decode cX7_init 5 = .ok (.new 9, 3) := by decide +kernel
theorem dX7_init_8 : decode cX7_init 8 = .ok (.dup, 1) := by decide +kernel
theorem dX7_init_9 : decode cX7_init 9 = .ok (.invokespecial 11, 3) := by decide +kernel
theorem dX7_init_12 : decode cX7_init 12 = .ok (.putfield 12, 3) := by decide +kernel
theorem dX7_init_15 : decode cX7_init 15 = .ok (.aload_n 0, 1) := by decide +kernel
theorem dX7_init_16 : decode cX7_init 16 = .ok (.new 9, 3) := by decide +kernel
theorem dX7_init_19 : decode cX7_init 19 = .ok (.dup, 1) := by decide +kernel
theorem dX7_init_20 : decode cX7_init 20 = .ok (.invokespecial 11, 3) := by decide +kernel
theorem dX7_init_23 : decode cX7_init 23 = .ok (.putfield 16, 3) := by decide +kernel
theorem dX7_init_26 : decode cX7_init 26 = .ok (.aload_n 0, 1) := by decide +kernel
theorem dX7_init_27 : decode cX7_init 27 = .ok (.new 9, 3) := by decide +kernel
theorem dX7_init_30 : decode cX7_init 30 = .ok (.dup, 1) := by decide +kernel
theorem dX7_init_31 : decode cX7_init 31 = .ok (.invokespecial 11, 3) := by decide +kernel
theorem dX7_init_34 : decode cX7_init 34 = .ok (.putfield 19, 3) := by decide +kernel
theorem dX7_init_37 : decode cX7_init 37 = .ok (.aload_n 0, 1) := by decide +kernel
theorem dX7_init_38 : decode cX7_init 38 = .ok (.iconst 4, 1) := by decide +kernel
theorem dX7_init_39 : decode cX7_init 39 = .ok (.anewarray 9, 3) := by decide +kernel
theorem dX7_init_42 : decode cX7_init 42 = .ok (.putfield 22, 3) := by decide +kernel
theorem dX7_init_45 : decode cX7_init 45 = .ok (.aload_n 0, 1) := by decide +kernel
theorem dX7_init_46 : decode cX7_init 46 = .ok (.new 26, 3) := by decide +kernel
theorem dX7_init_49 : decode cX7_init 49 = .ok (.dup, 1) := by decide +kernel
theorem dX7_init_50 : decode cX7_init 50 = .ok (.invokespecial 28, 3) := by decide +kernel
theorem dX7_init_53 : decode cX7_init 53 = .ok (.putfield 29, 3) := by decide +kernel
theorem dX7_init_56 : decode cX7_init 56 = .ok (.aload_n 0, 1) := by decide +kernel
theorem dX7_init_57 : decode cX7_init 57 = .ok (.new 33, 3) := by decide +kernel
theorem dX7_init_60 : decode cX7_init 60 = .ok (.dup, 1) := by decide +kernel
theorem dX7_init_61 : decode cX7_init 61 = .ok (.invokespecial 35, 3) := by decide +kernel
theorem dX7_init_64 : decode cX7_init 64 = .ok (.putfield 36, 3) := by decide +kernel
theorem dX7_init_67 : decode cX7_init 67 = .ok (.aload_n 0, 1) := by decide +kernel
theorem dX7_init_68 : decode cX7_init 68 = .ok (.new 40, 3) := by decide +kernel
theorem dX7_init_71 : decode cX7_init 71 = .ok (.dup, 1) := by decide +kernel
theorem dX7_init_72 : decode cX7_init 72 = .ok (.invokespecial 42, 3) := by decide +kernel
theorem dX7_init_75 : decode cX7_init 75 = .ok (.putfield 43, 3) := by decide +kernel
theorem dX7_init_78 : decode cX7_init 78 = .ok (.aload_n 0, 1) := by decide +kernel
theorem dX7_init_79 : decode cX7_init 79 = .ok (.new 47, 3) := by decide +kernel
theorem dX7_init_82 : decode cX7_init 82 = .ok (.dup, 1) := by decide +kernel
theorem dX7_init_83 : decode cX7_init 83 = .ok (.invokespecial 49, 3) := by decide +kernel
theorem dX7_init_86 : decode cX7_init 86 = .ok (.putfield 50, 3) := by decide +kernel
theorem dX7_init_89 : decode cX7_init 89 = .ok (.aload_n 0, 1) := by decide +kernel
theorem dX7_init_90 : decode cX7_init 90 = .ok (.new 54, 3) := by decide +kernel
theorem dX7_init_93 : decode cX7_init 93 = .ok (.dup, 1) := by decide +kernel
theorem dX7_init_94 : decode cX7_init 94 = .ok (.invokespecial 56, 3) := by decide +kernel
theorem dX7_init_97 : decode cX7_init 97 = .ok (.putfield 57, 3) := by decide +kernel
theorem dX7_init_100 : decode cX7_init 100 = .ok (.aload_n 0, 1) := by decide +kernel
theorem dX7_init_101 : decode cX7_init 101 = .ok (.iconst 0, 1) := by decide +kernel
theorem dX7_init_102 : decode cX7_init 102 = .ok (.putfield 61, 3) := by decide +kernel
theorem dX7_init_105 : decode cX7_init 105 = .ok (.aload_n 0, 1) := by decide +kernel
theorem dX7_init_106 : decode cX7_init 106 = .ok (.iconst 0, 1) := by decide +kernel
theorem dX7_init_107 : decode cX7_init 107 = .ok (.putfield 65, 3) := by decide +kernel
theorem dX7_init_110 : decode cX7_init 110 = .ok (.aload_n 0, 1) := by decide +kernel
theorem dX7_init_111 : decode cX7_init 111 = .ok (.iconst 0, 1) := by decide +kernel
theorem dX7_init_112 : decode cX7_init 112 = .ok (.putfield 69, 3) := by decide +kernel
theorem dX7_init_115 : decode cX7_init 115 = .ok (.aload_n 0, 1) := by decide +kernel
theorem dX7_init_116 : decode cX7_init 116 = .ok (.iconst 0, 1) := by decide +kernel
theorem dX7_init_117 : decode cX7_init 117 = .ok (.putfield 72, 3) := by decide +kernel
theorem dX7_init_120 : decode cX7_init 120 = .ok (.aload_n 0, 1) := by decide +kernel
theorem dX7_init_121 : decode cX7_init 121 = .ok (.iconst 0, 1) := by decide +kernel
theorem dX7_init_122 : decode cX7_init 122 = .ok (.putfield 75, 3) := by decide +kernel
theorem dX7_init_125 : decode cX7_init 125 = .ok (.iconst 0, 1) := by decide +kernel
theorem dX7_init_126 : decode cX7_init 126 = .ok (.istore_n 1, 1) := by decide +kernel
theorem dX7_init_127 : decode cX7_init 127 = .ok (.iload_n 1, 1) := by decide +kernel
theorem dX7_init_128 : decode cX7_init 128 = .ok (.aload_n 0, 1) := by decide +kernel
theorem dX7_init_129 : decode cX7_init 129 = .ok (.getfield 22, 3) := by decide +kernel
theorem dX7_init_132 : decode cX7_init 132 = .ok (.arraylength, 1) := by decide +kernel
theorem dX7_init_133 : decode cX7_init 133 = .ok (.if_icmp .ge 22, 3) := by decide +kernel
theorem dX7_init_136 : decode cX7_init 136 = .ok (.aload_n 0, 1) := by decide +kernel
theorem dX7_init_137 : decode cX7_init 137 = .ok (.getfield 22, 3) := by decide +kernel
theorem dX7_init_140 : decode cX7_init 140 = .ok (.iload_n 1, 1) := by decide +kernel
theorem dX7_init_141 : decode cX7_init 141 = .ok (.new 9, 3) := by decide +kernel
theorem dX7_init_144 : decode cX7_init 144 = .ok (.dup, 1) := by decide +kernel
theorem dX7_init_145 : decode cX7_init 145 = .ok (.invokespecial 11, 3) := by decide +kernel
theorem dX7_init_148 : decode cX7_init 148 = .ok (.aastore, 1) := by decide +kernel
theorem dX7_init_149 : decode cX7_init 149 = .ok (.iinc 1 1, 3) := by decide +kernel
theorem dX7_init_152 : decode cX7_init 152 = .ok (.goto (-25), 3) := by decide +kernel
theorem dX7_init_155 : decode cX7_init 155 = .ok (.aload_n 0, 1) := by decide +kernel
theorem dX7_init_156 : decode cX7_init 156 = .ok (.getfield 12, 3) := by decide +kernel
theorem dX7_init_159 : decode cX7_init 159 = .ok (.iconst 0, 1) := by decide +kernel
theorem dX7_init_160 : decode cX7_init 160 = .ok (.invokevirtual 78, 3) := by decide +kernel
theorem dX7_init_163 : decode cX7_init 163 = .ok (.pop, 1) := by decide +kernel
theorem dX7_init_164 : decode cX7_init 164 = .ok (.return_, 1) := by decide +kernel
set_option maxRecDepth 20000 in
theorem ggX7_begin_X7_record : GoodIn wsX7_begin wsX7_record := goodIn_r _ [6, 7, 8, 1, 9, 10, 11, 5, 12, 13, 14, 15, 16, 17, 18, 19, 20, 21, 22, 23, 24, 25, 26, 27, 28, 29, 30, 31, 32, 58, 59, 60, 61, 62, 63, 64, 65, 66, 67, 68, 69, 70, 71, 72, 73, 74, 75, 76, 77, 78, 79, 80, 81, 82] (by decide +kernel) (by decide +kernel)
set_option maxRecDepth 20000 in
theorem gX7_begin_X7_record : GoodIn wsX7_begin (wsV RX7 82 RX7 yX7_record wsX7_record) := goodIn_app (goodIn_of _ (by decide +kernel)) ggX7_begin_X7_record
set_option maxRecDepth 20000 in
theorem ggX7_begin_X4_plant : GoodIn wsX7_begin wsX4_plant := goodIn_r _ [36, 27, 29, 30, 31, 32, 25, 37, 38, 16, 39, 40, 41, 42, 43, 44, 45, 46, 47, 48, 49, 50, 51, 52, 53, 54, 18, 23, 24, 55, 56, 57, 72, 73, 74, 75, 76, 77, 78, 79, 80, 81, 82] (by decide +kernel) (by decide +kernel)
set_option maxRecDepth 20000 in
theorem gX7_begin_X4_plant : GoodIn wsX7_begin (wsV RX7 78 RX4 yX4_plant wsX4_plant) := goodIn_app (goodIn_of _ (by decide +kernel)) ggX7_begin_X4_plant
theorem dX7_begin_0 : decode cX7_begin 0 = .ok (.iload_n 1, 1) := by decide +kernel
theorem dX7_begin_1 : decode cX7_begin 1 = .ok (.ifCond .lt 8, 3) := by decide +kernel
theorem dX7_begin_4 : decode cX7_begin 4 = .ok (.iload_n 1, 1) := by decide +kernel
theorem dX7_begin_5 : decode cX7_begin 5 = .ok (.iconst 2, 1) := by decide +kernel
theorem dX7_begin_6 : decode cX7_begin 6 = .ok (.if_icmp .le 5, 3) := by decide +kernel
theorem dX7_begin_9 : decode cX7_begin 9 = .ok (.iconst (-1), 1) := by decide +kernel
theorem dX7_begin_10 : decode cX7_begin 10 = .ok (.ireturn, 1) := by decide +kernel
theorem dX7_begin_11 : decode cX7_begin 11 = .ok (.aload_n 0, 1) := by decide +kernel
theorem dX7_begin_12 : decode cX7_begin 12 = .ok (.invokevirtual 82, 3) := by decide +kernel
theorem dX7_begin_15 : decode cX7_begin 15 = .ok (.aload_n 0, 1) := by decide +kernel
theorem dX7_begin_16 : decode cX7_begin 16 = .ok (.getfield 12, 3) := by decide +kernel
theorem dX7_begin_19 : decode cX7_begin 19 = .ok (.iload_n 1, 1) := by decide +kernel
theorem dX7_begin_20 : decode cX7_begin 20 = .ok (.invokevirtual 78, 3) := by decide +kernel
theorem dX7_begin_23 : decode cX7_begin 23 = .ok (.ireturn, 1) := by decide +kernel
set_option maxRecDepth 20000 in
theorem ggX7_lot_X7_record : GoodIn wsX7_lot wsX7_record := goodIn_r _ [6, 7, 8, 1, 9, 10, 11, 5, 12, 13, 14, 15, 16, 17, 18, 19, 20, 21, 22, 23, 24, 25, 26, 27, 28, 29, 30, 31, 32, 33, 34, 35, 36, 37, 38, 39, 40, 41, 42, 43, 44, 45, 46, 47, 48, 49, 50, 51, 52, 53, 54, 55, 56, 57] (by decide +kernel) (by decide +kernel)
set_option maxRecDepth 20000 in
theorem gX7_lot_X7_record : GoodIn wsX7_lot (wsV RX7 82 RX7 yX7_record wsX7_record) := goodIn_app (goodIn_of _ (by decide +kernel)) ggX7_lot_X7_record
theorem dX7_lot_0 : decode cX7_lot 0 = .ok (.iload_n 1, 1) := by decide +kernel
theorem dX7_lot_1 : decode cX7_lot 1 = .ok (.ifCond .lt 10, 3) := by decide +kernel
theorem dX7_lot_4 : decode cX7_lot 4 = .ok (.iload_n 1, 1) := by decide +kernel
theorem dX7_lot_5 : decode cX7_lot 5 = .ok (.sipush 10000, 3) := by decide +kernel
theorem dX7_lot_8 : decode cX7_lot 8 = .ok (.if_icmp .lt 5, 3) := by decide +kernel
theorem dX7_lot_11 : decode cX7_lot 11 = .ok (.iconst (-1), 1) := by decide +kernel
theorem dX7_lot_12 : decode cX7_lot 12 = .ok (.ireturn, 1) := by decide +kernel
theorem dX7_lot_13 : decode cX7_lot 13 = .ok (.aload_n 0, 1) := by decide +kernel
theorem dX7_lot_14 : decode cX7_lot 14 = .ok (.invokevirtual 82, 3) := by decide +kernel
theorem dX7_lot_17 : decode cX7_lot 17 = .ok (.aload_n 0, 1) := by decide +kernel
theorem dX7_lot_18 : decode cX7_lot 18 = .ok (.getfield 12, 3) := by decide +kernel
theorem dX7_lot_21 : decode cX7_lot 21 = .ok (.getfield 85, 3) := by decide +kernel
theorem dX7_lot_24 : decode cX7_lot 24 = .ok (.istore_n 2, 1) := by decide +kernel
theorem dX7_lot_25 : decode cX7_lot 25 = .ok (.aload_n 0, 1) := by decide +kernel
theorem dX7_lot_26 : decode cX7_lot 26 = .ok (.getfield 12, 3) := by decide +kernel
theorem dX7_lot_29 : decode cX7_lot 29 = .ok (.iload_n 1, 1) := by decide +kernel
theorem dX7_lot_30 : decode cX7_lot 30 = .ok (.putfield 85, 3) := by decide +kernel
theorem dX7_lot_33 : decode cX7_lot 33 = .ok (.iload_n 2, 1) := by decide +kernel
theorem dX7_lot_34 : decode cX7_lot 34 = .ok (.ireturn, 1) := by decide +kernel
set_option maxRecDepth 20000 in
theorem ggX7_go_X4_refusalToGo : GoodIn wsX7_go wsX4_refusalToGo := goodIn_r _ [6, 7, 8, 9, 10, 11, 12, 13, 14, 15, 16, 5, 17, 18, 125, 126, 127, 128, 129, 130, 131, 132, 133, 134, 135] (by decide +kernel) (by decide +kernel)
set_option maxRecDepth 20000 in
theorem gX7_go_X4_refusalToGo : GoodIn wsX7_go (wsV RX7 88 RX4 yX4_refusalToGo wsX4_refusalToGo) := goodIn_app (goodIn_of _ (by decide +kernel)) ggX7_go_X4_refusalToGo
set_option maxRecDepth 20000 in
theorem ggX7_go_X7_record : GoodIn wsX7_go wsX7_record := goodIn_r _ [23, 24, 25, 1, 26, 27, 28, 22, 29, 30, 31, 32, 5, 33, 34, 35, 36, 37, 38, 39, 40, 18, 41, 42, 43, 44, 45, 46, 47, 111, 112, 113, 114, 115, 116, 117, 118, 119, 120, 121, 122, 123, 124, 125, 126, 127, 128, 129, 130, 131, 132, 133, 134, 135] (by decide +kernel) (by decide +kernel)
set_option maxRecDepth 20000 in
theorem gX7_go_X7_record : GoodIn wsX7_go (wsV RX7 82 RX7 yX7_record wsX7_record) := goodIn_app (goodIn_of _ (by decide +kernel)) ggX7_go_X7_record
set_option maxRecDepth 20000 in
theorem ggX7_go_X7_letWalk : GoodIn wsX7_go wsX7_letWalk := goodIn_r _ [51, 52, 1, 53, 12, 9, 13, 54, 55, 56, 57, 58, 59, 60, 61, 62, 63, 64, 65, 66, 5, 67, 41, 68, 69, 70, 71, 72, 73, 74, 75, 76, 77, 78, 14, 15, 16, 17, 18, 79, 80, 81, 82, 83, 22, 84, 85, 86, 87, 88, 89, 90, 91, 92, 93, 94, 43, 44, 47, 45, 95, 96, 97, 98, 99, 100, 101, 102, 42, 34, 39, 40, 103, 104, 105, 106, 107, 108, 109, 110, 111, 112, 113, 114, 115, 116, 117, 118, 119, 120, 121, 122, 123, 124, 136, 137, 138, 139, 140, 125, 126, 127, 128, 129, 130, 131, 132, 133, 134, 135] (by decide +kernel) (by decide +kernel)
set_option maxRecDepth 20000 in
theorem gX7_go_X7_letWalk : GoodIn wsX7_go (wsV RX7 91 RX7 yX7_letWalk wsX7_letWalk) := goodIn_app (goodIn_of _ (by decide +kernel)) ggX7_go_X7_letWalk
theorem dX7_go_0 : decode cX7_go 0 = .ok (.aload_n 0, 1) := by decide +kernel
theorem dX7_go_1 : decode cX7_go 1 = .ok (.getfield 12, 3) := by decide +kernel
theorem dX7_go_4 : decode cX7_go 4 = .ok (.iload_n 1, 1) := by decide +kernel
theorem dX7_go_5 : decode cX7_go 5 = .ok (.invokevirtual 88, 3) := by decide +kernel
theorem dX7_go_8 : decode cX7_go 8 = .ok (.istore_n 2, 1) := by decide +kernel
theorem dX7_go_9 : decode cX7_go 9 = .ok (.iload_n 2, 1) := by decide +kernel
theorem dX7_go_10 : decode cX7_go 10 = .ok (.ifCond .eq 5, 3) := by decide +kernel
theorem dX7_go_13 : decode cX7_go 13 = .ok (.iload_n 2, 1) := by decide +kernel
theorem dX7_go_14 : decode cX7_go 14 = .ok (.ireturn, 1) := by decide +kernel
theorem dX7_go_15 : decode cX7_go 15 = .ok (.aload_n 0, 1) := by decide +kernel
theorem dX7_go_16 : decode cX7_go 16 = .ok (.invokevirtual 82, 3) := by decide +kernel
theorem dX7_go_19 : decode cX7_go 19 = .ok (.aload_n 0, 1) := by decide +kernel
theorem dX7_go_20 : decode cX7_go 20 = .ok (.iload_n 1, 1) := by decide +kernel
theorem dX7_go_21 : decode cX7_go 21 = .ok (.invokevirtual 91, 3) := by decide +kernel
theorem dX7_go_24 : decode cX7_go 24 = .ok (.ireturn, 1) := by decide +kernel
set_option maxRecDepth 20000 in
theorem ggX7_rain_X7_record : GoodIn wsX7_rain wsX7_record := goodIn_r _ [5, 6, 7, 8, 9, 10, 11, 4, 12, 13, 14, 15, 16, 17, 18, 19, 20, 21, 22, 23, 24, 25, 26, 27, 28, 29, 30, 31, 32, 121, 122, 123, 124, 125, 126, 127, 128, 129, 130, 131, 132, 133, 134, 135, 136, 137, 138, 139, 140, 141, 142, 143, 144, 145] (by decide +kernel) (by decide +kernel)
set_option maxRecDepth 20000 in
theorem gX7_rain_X7_record : GoodIn wsX7_rain (wsV RX7 82 RX7 yX7_record wsX7_record) := goodIn_app (goodIn_of _ (by decide +kernel)) ggX7_rain_X7_record
set_option maxRecDepth 20000 in
theorem ggX7_rain_X7_dropSticks : GoodIn wsX7_rain wsX7_dropSticks := goodIn_r _ [36, 8, 37, 38, 39, 4, 40, 41, 42, 43, 16, 44, 45, 46, 47, 48, 49, 50, 51, 52, 53, 54, 55, 25, 56, 57, 58, 59, 29, 30, 60, 61, 62, 63, 64, 65, 66, 67, 68, 69, 70, 71, 72, 73, 74, 75, 76, 77, 78, 26, 79, 80, 81, 82, 83, 84, 85, 86, 87, 88, 89, 90, 91, 92, 93, 94, 95, 96, 97, 98, 99, 100, 101, 102, 103, 28, 32, 104, 105, 106, 107, 108, 109, 110, 111, 27, 18, 23, 24, 112, 113, 114, 115, 116, 117, 118, 119, 120, 121, 122, 123, 124, 125, 126, 127, 128, 129, 130, 131, 132, 133, 134, 135, 136, 137, 138, 139, 140, 141, 142, 143, 144, 145, 146, 147, 148, 149, 150] (by decide +kernel) (by decide +kernel)
set_option maxRecDepth 20000 in
theorem gX7_rain_X7_dropSticks : GoodIn wsX7_rain (wsV RX7 94 RX7 yX7_dropSticks wsX7_dropSticks) := goodIn_app (goodIn_of _ (by decide +kernel)) ggX7_rain_X7_dropSticks
theorem dX7_rain_0 : decode cX7_rain 0 = .ok (.iload_n 1, 1) := by decide +kernel
theorem dX7_rain_1 : decode cX7_rain 1 = .ok (.iconst 1, 1) := by decide +kernel
theorem dX7_rain_2 : decode cX7_rain 2 = .ok (.if_icmp .lt 9, 3) := by decide +kernel
theorem dX7_rain_5 : decode cX7_rain 5 = .ok (.iload_n 1, 1) := by decide +kernel
theorem dX7_rain_6 : decode cX7_rain 6 = .ok (.bipush 20, 2) := by decide +kernel
theorem dX7_rain_8 : decode cX7_rain 8 = .ok (.if_icmp .le 5, 3) := by decide +kernel
theorem dX7_rain_11 : decode cX7_rain 11 = .ok (.iconst (-1), 1) := by decide +kernel
theorem dX7_rain_12 : decode cX7_rain 12 = .ok (.ireturn, 1) := by decide +kernel
theorem dX7_rain_13 : decode cX7_rain 13 = .ok (.aload_n 0, 1) := by decide +kernel
theorem dX7_rain_14 : decode cX7_rain 14 = .ok (.invokevirtual 82, 3) := by decide +kernel
theorem dX7_rain_17 : decode cX7_rain 17 = .ok (.iconst 0, 1) := by decide +kernel
theorem dX7_rain_18 : decode cX7_rain 18 = .ok (.istore_n 2, 1) := by decide +kernel
theorem dX7_rain_19 : decode cX7_rain 19 = .ok (.iconst 0, 1) := by decide +kernel
theorem dX7_rain_20 : decode cX7_rain 20 = .ok (.istore_n 3, 1) := by decide +kernel
theorem dX7_rain_21 : decode cX7_rain 21 = .ok (.iload_n 3, 1) := by decide +kernel
theorem dX7_rain_22 : decode cX7_rain 22 = .ok (.iload_n 1, 1) := by decide +kernel
theorem dX7_rain_23 : decode cX7_rain 23 = .ok (.if_icmp .ge 19, 3) := by decide +kernel
theorem dX7_rain_26 : decode cX7_rain 26 = .ok (.aload_n 0, 1) := by decide +kernel
theorem dX7_rain_27 : decode cX7_rain 27 = .ok (.invokevirtual 94, 3) := by decide +kernel
theorem dX7_rain_30 : decode cX7_rain 30 = .ok (.ifCond .eq 6, 3) := by decide +kernel
theorem dX7_rain_33 : decode cX7_rain 33 = .ok (.iinc 2 1, 3) := by decide +kernel
theorem dX7_rain_36 : decode cX7_rain 36 = .ok (.iinc 3 1, 3) := by decide +kernel
theorem dX7_rain_39 : decode cX7_rain 39 = .ok (.goto (-18), 3) := by decide +kernel
theorem dX7_rain_42 : decode cX7_rain 42 = .ok (.iload_n 2, 1) := by decide +kernel
theorem dX7_rain_43 : decode cX7_rain 43 = .ok (.ireturn, 1) := by decide +kernel
set_option maxRecDepth 20000 in
theorem ggX7_breakOff_X4_refusalToBreak : GoodIn wsX7_breakOff wsX4_refusalToBreak := goodIn_r _ [7, 8, 9, 10, 6, 11, 12, 13, 14, 15, 16, 17, 72, 73, 74, 75, 76, 77, 78, 79, 80, 81, 82] (by decide +kernel) (by decide +kernel)
set_option maxRecDepth 20000 in
theorem gX7_breakOff_X4_refusalToBreak : GoodIn wsX7_breakOff (wsV RX7 98 RX4 yX4_refusalToBreak wsX4_refusalToBreak) := goodIn_app (goodIn_of _ (by decide +kernel)) ggX7_breakOff_X4_refusalToBreak
set_option maxRecDepth 20000 in
theorem ggX7_breakOff_X7_record : GoodIn wsX7_breakOff wsX7_record := goodIn_r _ [22, 23, 24, 1, 25, 26, 27, 21, 28, 29, 30, 31, 6, 32, 33, 34, 35, 36, 37, 17, 38, 39, 40, 12, 41, 42, 43, 44, 45, 58, 59, 60, 61, 62, 63, 64, 65, 66, 67, 68, 69, 70, 71, 72, 73, 74, 75, 76, 77, 78, 79, 80, 81, 82] (by decide +kernel) (by decide +kernel)
set_option maxRecDepth 20000 in
theorem gX7_breakOff_X7_record : GoodIn wsX7_breakOff (wsV RX7 82 RX7 yX7_record wsX7_record) := goodIn_app (goodIn_of _ (by decide +kernel)) ggX7_breakOff_X7_record
set_option maxRecDepth 20000 in
theorem ggX7_breakOff_X0_dropTree : GoodIn wsX7_breakOff wsX0_dropTree := goodIn_r _ [50, 51, 52, 53, 14, 15, 6, 16, 17, 8, 9, 10, 11, 12, 54, 55, 56, 57, 33, 39, 38, 44, 72, 73, 74, 75, 76, 77, 78, 79, 80, 81, 82, 83, 84] (by decide +kernel) (by decide +kernel)
set_option maxRecDepth 20000 in
theorem gX7_breakOff_X0_dropTree : GoodIn wsX7_breakOff (wsV RX7 101 RX0 yX0_dropTree wsX0_dropTree) := goodIn_app (goodIn_of _ (by decide +kernel)) ggX7_breakOff_X0_dropTree
theorem dX7_breakOff_0 : decode cX7_breakOff 0 = .ok (.aload_n 0, 1) := by decide +kernel
theorem dX7_breakOff_1 : decode cX7_breakOff 1 = .ok (.getfield 12, 3) := by decide +kernel
theorem dX7_breakOff_4 : decode cX7_breakOff 4 = .ok (.iload_n 1, 1) := by decide +kernel
theorem dX7_breakOff_5 : decode cX7_breakOff 5 = .ok (.invokevirtual 98, 3) := by decide +kernel
theorem dX7_breakOff_8 : decode cX7_breakOff 8 = .ok (.istore_n 2, 1) := by decide +kernel
theorem dX7_breakOff_9 : decode cX7_breakOff 9 = .ok (.iload_n 2, 1) := by decide +kernel
theorem dX7_breakOff_10 : decode cX7_breakOff 10 = .ok (.ifCond .eq 5, 3) := by decide +kernel
theorem dX7_breakOff_13 : decode cX7_breakOff 13 = .ok (.iload_n 2, 1) := by decide +kernel
theorem dX7_breakOff_14 : decode cX7_breakOff 14 = .ok (.ireturn, 1) := by decide +kernel
theorem dX7_breakOff_15 : decode cX7_breakOff 15 = .ok (.aload_n 0, 1) := by decide +kernel
theorem dX7_breakOff_16 : decode cX7_breakOff 16 = .ok (.invokevirtual 82, 3) := by decide +kernel
theorem dX7_breakOff_19 : decode cX7_breakOff 19 = .ok (.aload_n 0, 1) := by decide +kernel
theorem dX7_breakOff_20 : decode cX7_breakOff 20 = .ok (.getfield 36, 3) := by decide +kernel
theorem dX7_breakOff_23 : decode cX7_breakOff 23 = .ok (.aload_n 0, 1) := by decide +kernel
theorem dX7_breakOff_24 : decode cX7_breakOff 24 = .ok (.getfield 12, 3) := by decide +kernel
theorem dX7_breakOff_27 : decode cX7_breakOff 27 = .ok (.iload_n 1, 1) := by decide +kernel
theorem dX7_breakOff_28 : decode cX7_breakOff 28 = .ok (.invokevirtual 101, 3) := by decide +kernel
theorem dX7_breakOff_31 : decode cX7_breakOff 31 = .ok (.ireturn, 1) := by decide +kernel
set_option maxRecDepth 20000 in
theorem ggX7_wash_X7_record : GoodIn wsX7_wash wsX7_record := goodIn_r _ [7, 8, 9, 2, 10, 11, 12, 6, 13, 14, 15, 16, 17, 18, 19, 20, 21, 22, 23, 24, 25, 26, 27, 28, 29, 30, 31, 32, 33, 53, 54, 55, 56, 57, 58, 59, 60, 61, 62, 63, 64, 65, 66, 67, 68, 69, 70, 71, 72, 73, 74, 75, 76, 77] (by decide +kernel) (by decide +kernel)
set_option maxRecDepth 20000 in
theorem gX7_wash_X7_record : GoodIn wsX7_wash (wsV RX7 82 RX7 yX7_record wsX7_record) := goodIn_app (goodIn_of _ (by decide +kernel)) ggX7_wash_X7_record
set_option maxRecDepth 20000 in
theorem ggX7_wash_X0_dropTips : GoodIn wsX7_wash wsX0_dropTips := goodIn_r _ [38, 39, 40, 41, 42, 43, 17, 44, 24, 45, 46, 47, 48, 28, 49, 50, 51, 52, 19, 26, 25, 32, 67, 68, 69, 70, 71, 72, 73, 74, 75, 76, 77, 78, 79] (by decide +kernel) (by decide +kernel)
set_option maxRecDepth 20000 in
theorem gX7_wash_X0_dropTips : GoodIn wsX7_wash (wsV RX7 105 RX0 yX0_dropTips wsX0_dropTips) := goodIn_app (goodIn_of _ (by decide +kernel)) ggX7_wash_X0_dropTips
theorem dX7_wash_0 : decode cX7_wash 0 = .ok (.aload_n 0, 1) := by decide +kernel
theorem dX7_wash_1 : decode cX7_wash 1 = .ok (.invokevirtual 82, 3) := by decide +kernel
theorem dX7_wash_4 : decode cX7_wash 4 = .ok (.aload_n 0, 1) := by decide +kernel
theorem dX7_wash_5 : decode cX7_wash 5 = .ok (.getfield 36, 3) := by decide +kernel
theorem dX7_wash_8 : decode cX7_wash 8 = .ok (.aload_n 0, 1) := by decide +kernel
theorem dX7_wash_9 : decode cX7_wash 9 = .ok (.getfield 12, 3) := by decide +kernel
theorem dX7_wash_12 : decode cX7_wash 12 = .ok (.invokevirtual 105, 3) := by decide +kernel
theorem dX7_wash_15 : decode cX7_wash 15 = .ok (.ireturn, 1) := by decide +kernel
set_option maxRecDepth 20000 in
theorem ggX7_set_X7_isSettingValue : GoodIn wsX7_set wsX7_isSettingValue := goodIn_r _ [5] (by decide +kernel) (by decide +kernel)
set_option maxRecDepth 20000 in
theorem gX7_set_X7_isSettingValue : GoodIn wsX7_set (va_wsS RX7 109 yX7_isSettingValue wsX7_isSettingValue) := goodIn_app (goodIn_of _ (by decide +kernel)) ggX7_set_X7_isSettingValue
set_option maxRecDepth 20000 in
theorem ggX7_set_X7_record : GoodIn wsX7_set wsX7_record := goodIn_r _ [9, 10, 11, 1, 12, 13, 14, 4, 15, 16, 17, 18, 19, 20, 21, 22, 23, 24, 25, 26, 27, 28, 29, 30, 31, 32, 33, 34, 35, 44, 45, 46, 47, 48, 49, 50, 51, 52, 53, 54, 55, 56, 57, 58, 59, 60, 61, 62, 63, 64, 65, 66, 67, 68] (by decide +kernel) (by decide +kernel)
set_option maxRecDepth 20000 in
theorem gX7_set_X7_record : GoodIn wsX7_set (wsV RX7 82 RX7 yX7_record wsX7_record) := goodIn_app (goodIn_of _ (by decide +kernel)) ggX7_set_X7_record
set_option maxRecDepth 20000 in
theorem ggX7_set_X4_change : GoodIn wsX7_set wsX4_change := goodIn_r _ [39, 29, 40, 41, 42, 19, 43, 58, 59, 60, 61, 62, 63, 64, 65, 66, 67, 68] (by decide +kernel) (by decide +kernel)
set_option maxRecDepth 20000 in
theorem gX7_set_X4_change : GoodIn wsX7_set (wsV RX7 113 RX4 yX4_change wsX4_change) := goodIn_app (goodIn_of _ (by decide +kernel)) ggX7_set_X4_change
theorem dX7_set_0 : decode cX7_set 0 = .ok (.iload_n 1, 1) := by decide +kernel
theorem dX7_set_1 : decode cX7_set 1 = .ok (.iload_n 2, 1) := by decide +kernel
theorem dX7_set_2 : decode cX7_set 2 = .ok (.invokestatic 109, 3) := by decide +kernel
theorem dX7_set_5 : decode cX7_set 5 = .ok (.ifCond .ne 5, 3) := by decide +kernel
theorem dX7_set_8 : decode cX7_set 8 = .ok (.iconst (-1), 1) := by decide +kernel
theorem dX7_set_9 : decode cX7_set 9 = .ok (.ireturn, 1) := by decide +kernel
theorem dX7_set_10 : decode cX7_set 10 = .ok (.aload_n 0, 1) := by decide +kernel
theorem dX7_set_11 : decode cX7_set 11 = .ok (.invokevirtual 82, 3) := by decide +kernel
theorem dX7_set_14 : decode cX7_set 14 = .ok (.aload_n 0, 1) := by decide +kernel
theorem dX7_set_15 : decode cX7_set 15 = .ok (.getfield 12, 3) := by decide +kernel
theorem dX7_set_18 : decode cX7_set 18 = .ok (.iload_n 1, 1) := by decide +kernel
theorem dX7_set_19 : decode cX7_set 19 = .ok (.iload_n 2, 1) := by decide +kernel
theorem dX7_set_20 : decode cX7_set 20 = .ok (.invokevirtual 113, 3) := by decide +kernel
theorem dX7_set_23 : decode cX7_set 23 = .ok (.ireturn, 1) := by decide +kernel
set_option maxRecDepth 20000 in
theorem ggX7_append_X1_write : GoodIn wsX7_append wsX1_write := goodIn_r _ [6, 7, 8, 23, 24, 25, 26, 27, 28] (by decide +kernel) (by decide +kernel)
set_option maxRecDepth 20000 in
theorem gX7_append_X1_write : GoodIn wsX7_append (wsV RX7 120 RX1 yX1_write wsX1_write) := goodIn_app (goodIn_of _ (by decide +kernel)) ggX7_append_X1_write
theorem dX7_append_0 : decode cX7_append 0 = .ok (.iload_n 1, 1) := by decide +kernel
theorem dX7_append_1 : decode cX7_append 1 = .ok (.bipush 33, 2) := by decide +kernel
theorem dX7_append_3 : decode cX7_append 3 = .ok (.if_icmp .lt 9, 3) := by decide +kernel
theorem dX7_append_6 : decode cX7_append 6 = .ok (.iload_n 1, 1) := by decide +kernel
theorem dX7_append_7 : decode cX7_append 7 = .ok (.bipush 126, 2) := by decide +kernel
theorem dX7_append_9 : decode cX7_append 9 = .ok (.if_icmp .le 5, 3) := by decide +kernel
theorem dX7_append_12 : decode cX7_append 12 = .ok (.iconst (-1), 1) := by decide +kernel
theorem dX7_append_13 : decode cX7_append 13 = .ok (.ireturn, 1) := by decide +kernel
theorem dX7_append_14 : decode cX7_append 14 = .ok (.aload_n 0, 1) := by decide +kernel
theorem dX7_append_15 : decode cX7_append 15 = .ok (.getfield 57, 3) := by decide +kernel
theorem dX7_append_18 : decode cX7_append 18 = .ok (.getfield 117, 3) := by decide +kernel
theorem dX7_append_21 : decode cX7_append 21 = .ok (.bipush 60, 2) := by decide +kernel
theorem dX7_append_23 : decode cX7_append 23 = .ok (.if_icmp .lt 6, 3) := by decide +kernel
theorem dX7_append_26 : decode cX7_append 26 = .ok (.bipush (-3), 2) := by decide +kernel
theorem dX7_append_28 : decode cX7_append 28 = .ok (.ireturn, 1) := by decide +kernel
theorem dX7_append_29 : decode cX7_append 29 = .ok (.aload_n 0, 1) := by decide +kernel
theorem dX7_append_30 : decode cX7_append 30 = .ok (.getfield 57, 3) := by decide +kernel
theorem dX7_append_33 : decode cX7_append 33 = .ok (.iload_n 1, 1) := by decide +kernel
theorem dX7_append_34 : decode cX7_append 34 = .ok (.i2c, 1) := by decide +kernel
theorem dX7_append_35 : decode cX7_append 35 = .ok (.invokevirtual 120, 3) := by decide +kernel
theorem dX7_append_38 : decode cX7_append 38 = .ok (.aload_n 0, 1) := by decide +kernel
theorem dX7_append_39 : decode cX7_append 39 = .ok (.getfield 57, 3) := by decide +kernel
theorem dX7_append_42 : decode cX7_append 42 = .ok (.getfield 117, 3) := by decide +kernel
theorem dX7_append_45 : decode cX7_append 45 = .ok (.ireturn, 1) := by decide +kernel
set_option maxRecDepth 20000 in
theorem ggX7_clear_X1_wipe : GoodIn wsX7_clear wsX1_wipe := goodIn_r _ [6, 7, 22, 23, 24, 25, 26, 27] (by decide +kernel) (by decide +kernel)
set_option maxRecDepth 20000 in
theorem gX7_clear_X1_wipe : GoodIn wsX7_clear (wsV RX7 124 RX1 yX1_wipe wsX1_wipe) := goodIn_app (goodIn_of _ (by decide +kernel)) ggX7_clear_X1_wipe
theorem dX7_clear_0 : decode cX7_clear 0 = .ok (.aload_n 0, 1) := by decide +kernel
theorem dX7_clear_1 : decode cX7_clear 1 = .ok (.getfield 57, 3) := by decide +kernel
theorem dX7_clear_4 : decode cX7_clear 4 = .ok (.getfield 117, 3) := by decide +kernel
theorem dX7_clear_7 : decode cX7_clear 7 = .ok (.istore_n 1, 1) := by decide +kernel
theorem dX7_clear_8 : decode cX7_clear 8 = .ok (.aload_n 0, 1) := by decide +kernel
theorem dX7_clear_9 : decode cX7_clear 9 = .ok (.getfield 57, 3) := by decide +kernel
theorem dX7_clear_12 : decode cX7_clear 12 = .ok (.invokevirtual 124, 3) := by decide +kernel
theorem dX7_clear_15 : decode cX7_clear 15 = .ok (.iload_n 1, 1) := by decide +kernel
theorem dX7_clear_16 : decode cX7_clear 16 = .ok (.ireturn, 1) := by decide +kernel
set_option maxRecDepth 20000 in
theorem ggX7_fault_X1_firstWrong : GoodIn wsX7_fault wsX1_firstWrong := goodIn_r _ [6, 7, 8, 9, 10, 5, 11, 12, 13, 14, 15, 16, 17, 32, 33, 34, 35, 36, 37] (by decide +kernel) (by decide +kernel)
set_option maxRecDepth 20000 in
theorem gX7_fault_X1_firstWrong : GoodIn wsX7_fault (wsV RX7 127 RX1 yX1_firstWrong wsX1_firstWrong) := goodIn_app (goodIn_of _ (by decide +kernel)) ggX7_fault_X1_firstWrong
theorem dX7_fault_0 : decode cX7_fault 0 = .ok (.aload_n 0, 1) := by decide +kernel
theorem dX7_fault_1 : decode cX7_fault 1 = .ok (.getfield 57, 3) := by decide +kernel
theorem dX7_fault_4 : decode cX7_fault 4 = .ok (.invokevirtual 127, 3) := by decide +kernel
theorem dX7_fault_7 : decode cX7_fault 7 = .ok (.ireturn, 1) := by decide +kernel
set_option maxRecDepth 20000 in
theorem ggX7_carryOut_X1_firstWrong : GoodIn wsX7_carryOut wsX1_firstWrong := goodIn_r _ [9, 10, 11, 12, 13, 8, 14, 15, 16, 17, 18, 19, 20, 194, 195, 196, 197, 198, 199] (by decide +kernel) (by decide +kernel)
set_option maxRecDepth 20000 in
theorem gX7_carryOut_X1_firstWrong : GoodIn wsX7_carryOut (wsV RX7 127 RX1 yX1_firstWrong wsX1_firstWrong) := goodIn_app (goodIn_of _ (by decide +kernel)) ggX7_carryOut_X1_firstWrong
set_option maxRecDepth 20000 in
theorem ggX7_carryOut_X7_record : GoodIn wsX7_carryOut wsX7_record := goodIn_r _ [25, 26, 27, 28, 29, 30, 31, 24, 32, 33, 34, 35, 36, 37, 38, 39, 40, 41, 42, 43, 44, 45, 46, 47, 48, 49, 50, 51, 52, 180, 181, 182, 183, 184, 185, 186, 187, 188, 189, 190, 191, 192, 193, 200, 201, 202, 203, 204, 205, 206, 207, 208, 209, 210] (by decide +kernel) (by decide +kernel)
set_option maxRecDepth 20000 in
theorem gX7_carryOut_X7_record : GoodIn wsX7_carryOut (wsV RX7 82 RX7 yX7_record wsX7_record) := goodIn_app (goodIn_of _ (by decide +kernel)) ggX7_carryOut_X7_record
set_option maxRecDepth 20000 in
theorem ggX7_carryOut_X1_startReading : GoodIn wsX7_carryOut wsX1_startReading := goodIn_r _ [56, 57, 194, 195, 196, 197, 198, 199] (by decide +kernel) (by decide +kernel)
set_option maxRecDepth 20000 in
theorem gX7_carryOut_X1_startReading : GoodIn wsX7_carryOut (wsV RX7 131 RX1 yX1_startReading wsX1_startReading) := goodIn_app (goodIn_of _ (by decide +kernel)) ggX7_carryOut_X1_startReading
set_option maxRecDepth 20000 in
theorem ggX7_carryOut_X1_readDeed : GoodIn wsX7_carryOut wsX1_readDeed := goodIn_r _ [61, 57, 10, 62, 11, 63, 64, 194, 195, 196, 197, 198, 199] (by decide +kernel) (by decide +kernel)
set_option maxRecDepth 20000 in
theorem gX7_carryOut_X1_readDeed : GoodIn wsX7_carryOut (wsV RX7 134 RX1 yX1_readDeed wsX1_readDeed) := goodIn_app (goodIn_of _ (by decide +kernel)) ggX7_carryOut_X1_readDeed
set_option maxRecDepth 20000 in
theorem ggX7_carryOut_X7_answerOfDeed : GoodIn wsX7_carryOut wsX7_answerOfDeed := goodIn_r _ [68, 69, 28, 70, 71, 72, 73, 74, 75, 76, 77, 78, 79, 36, 80, 43, 81, 82, 83, 84, 47, 85, 86, 87, 88, 38, 45, 44, 51, 89, 90, 91, 92, 93, 94, 95, 96, 97, 98, 99, 100, 101, 102, 103, 104, 105, 106, 107, 108, 109, 110, 111, 24, 112, 113, 114, 115, 116, 117, 118, 119, 120, 121, 122, 123, 124, 125, 126, 127, 128, 46, 129, 130, 131, 132, 133, 134, 135, 136, 137, 138, 139, 140, 141, 142, 143, 144, 145, 146, 147, 148, 149, 150, 151, 152, 153, 154, 155, 48, 49, 52, 50, 156, 157, 158, 159, 160, 161, 162, 163, 164, 165, 166, 167, 168, 169, 170, 171, 172, 173, 174, 175, 180, 181, 182, 183, 184, 185, 186, 187, 188, 189, 190, 191, 192, 193, 200, 201, 202, 203, 204, 205, 206, 207, 208, 209, 210, 211, 212, 213, 214, 215, 216, 217] (by decide +kernel) (by decide +kernel)
set_option maxRecDepth 20000 in
theorem gX7_carryOut_X7_answerOfDeed : GoodIn wsX7_carryOut (wsV RX7 144 RX7 yX7_answerOfDeed wsX7_answerOfDeed) := goodIn_app (goodIn_of _ (by decide +kernel)) ggX7_carryOut_X7_answerOfDeed
set_option maxRecDepth 20000 in
theorem ggX7_carryOut_X1_wipe : GoodIn wsX7_carryOut wsX1_wipe := goodIn_r _ [179, 10, 194, 195, 196, 197, 198, 199] (by decide +kernel) (by decide +kernel)
set_option maxRecDepth 20000 in
theorem gX7_carryOut_X1_wipe : GoodIn wsX7_carryOut (wsV RX7 124 RX1 yX1_wipe wsX1_wipe) := goodIn_app (goodIn_of _ (by decide +kernel)) ggX7_carryOut_X1_wipe
theorem dX7_carryOut_0 : decode cX7_carryOut 0 = .ok (.aload_n 0, 1) := by decide +kernel
theorem dX7_carryOut_1 : decode cX7_carryOut 1 = .ok (.getfield 57, 3) := by decide +kernel
theorem dX7_carryOut_4 : decode cX7_carryOut 4 = .ok (.invokevirtual 127, 3) := by decide +kernel
theorem dX7_carryOut_7 : decode cX7_carryOut 7 = .ok (.bipush (-4), 2) := by decide +kernel
theorem dX7_carryOut_9 : decode cX7_carryOut 9 = .ok (.if_icmp .eq 6, 3) := by decide +kernel
theorem dX7_carryOut_12 : decode cX7_carryOut 12 = .ok (.bipush (-2), 2) := by decide +kernel
theorem dX7_carryOut_14 : decode cX7_carryOut 14 = .ok (.ireturn, 1) := by decide +kernel
theorem dX7_carryOut_15 : decode cX7_carryOut 15 = .ok (.aload_n 0, 1) := by decide +kernel
theorem dX7_carryOut_16 : decode cX7_carryOut 16 = .ok (.invokevirtual 82, 3) := by decide +kernel
theorem dX7_carryOut_19 : decode cX7_carryOut 19 = .ok (.aload_n 0, 1) := by decide +kernel
theorem dX7_carryOut_20 : decode cX7_carryOut 20 = .ok (.iconst 0, 1) := by decide +kernel
theorem dX7_carryOut_21 : decode cX7_carryOut 21 = .ok (.putfield 69, 3) := by decide +kernel
theorem dX7_carryOut_24 : decode cX7_carryOut 24 = .ok (.iconst 0, 1) := by decide +kernel
theorem dX7_carryOut_25 : decode cX7_carryOut 25 = .ok (.istore_n 1, 1) := by decide +kernel
theorem dX7_carryOut_26 : decode cX7_carryOut 26 = .ok (.aload_n 0, 1) := by decide +kernel
theorem dX7_carryOut_27 : decode cX7_carryOut 27 = .ok (.getfield 57, 3) := by decide +kernel
theorem dX7_carryOut_30 : decode cX7_carryOut 30 = .ok (.invokevirtual 131, 3) := by decide +kernel
theorem dX7_carryOut_33 : decode cX7_carryOut 33 = .ok (.iload_n 1, 1) := by decide +kernel
theorem dX7_carryOut_34 : decode cX7_carryOut 34 = .ok (.bipush 60, 2) := by decide +kernel
theorem dX7_carryOut_36 : decode cX7_carryOut 36 = .ok (.if_icmp .ge 73, 3) := by decide +kernel
theorem dX7_carryOut_39 : decode cX7_carryOut 39 = .ok (.aload_n 0, 1) := by decide +kernel
theorem dX7_carryOut_40 : decode cX7_carryOut 40 = .ok (.getfield 69, 3) := by decide +kernel
theorem dX7_carryOut_43 : decode cX7_carryOut 43 = .ok (.ifCond .ne 66, 3) := by decide +kernel
theorem dX7_carryOut_46 : decode cX7_carryOut 46 = .ok (.aload_n 0, 1) := by decide +kernel
theorem dX7_carryOut_47 : decode cX7_carryOut 47 = .ok (.getfield 57, 3) := by decide +kernel
theorem dX7_carryOut_50 : decode cX7_carryOut 50 = .ok (.invokevirtual 134, 3) := by decide +kernel
theorem dX7_carryOut_53 : decode cX7_carryOut 53 = .ok (.ifCond .eq 56, 3) := by decide +kernel
theorem dX7_carryOut_56 : decode cX7_carryOut 56 = .ok (.aload_n 0, 1) := by decide +kernel
theorem dX7_carryOut_57 : decode cX7_carryOut 57 = .ok (.aload_n 0, 1) := by decide +kernel
theorem dX7_carryOut_58 : decode cX7_carryOut 58 = .ok (.getfield 57, 3) := by decide +kernel
theorem dX7_carryOut_61 : decode cX7_carryOut 61 = .ok (.getfield 137, 3) := by decide +kernel
theorem dX7_carryOut_64 : decode cX7_carryOut 64 = .ok (.aload_n 0, 1) := by decide +kernel
theorem dX7_carryOut_65 : decode cX7_carryOut 65 = .ok (.getfield 57, 3) := by decide +kernel
theorem dX7_carryOut_68 : decode cX7_carryOut 68 = .ok (.getfield 141, 3) := by decide +kernel
theorem dX7_carryOut_71 : decode cX7_carryOut 71 = .ok (.invokevirtual 144, 3) := by decide +kernel
theorem dX7_carryOut_74 : decode cX7_carryOut 74 = .ok (.istore_n 2, 1) := by decide +kernel
theorem dX7_carryOut_75 : decode cX7_carryOut 75 = .ok (.iload_n 2, 1) := by decide +kernel
theorem dX7_carryOut_76 : decode cX7_carryOut 76 = .ok (.ifCond .ge 27, 3) := by decide +kernel
theorem dX7_carryOut_79 : decode cX7_carryOut 79 = .ok (.aload_n 0, 1) := by decide +kernel
theorem dX7_carryOut_80 : decode cX7_carryOut 80 = .ok (.iload_n 2, 1) := by decide +kernel
theorem dX7_carryOut_81 : decode cX7_carryOut 81 = .ok (.putfield 69, 3) := by decide +kernel
theorem dX7_carryOut_84 : decode cX7_carryOut 84 = .ok (.aload_n 0, 1) := by decide +kernel
theorem dX7_carryOut_85 : decode cX7_carryOut 85 = .ok (.iload_n 1, 1) := by decide +kernel
theorem dX7_carryOut_86 : decode cX7_carryOut 86 = .ok (.putfield 72, 3) := by decide +kernel
theorem dX7_carryOut_89 : decode cX7_carryOut 89 = .ok (.aload_n 0, 1) := by decide +kernel
theorem dX7_carryOut_90 : decode cX7_carryOut 90 = .ok (.aload_n 0, 1) := by decide +kernel
theorem dX7_carryOut_91 : decode cX7_carryOut 91 = .ok (.getfield 57, 3) := by decide +kernel
theorem dX7_carryOut_94 : decode cX7_carryOut 94 = .ok (.getfield 148, 3) := by decide +kernel
theorem dX7_carryOut_97 : decode cX7_carryOut 97 = .ok (.putfield 75, 3) := by decide +kernel
theorem dX7_carryOut_100 : decode cX7_carryOut 100 = .ok (.goto 6, 3) := by decide +kernel
theorem dX7_carryOut_103 : decode cX7_carryOut 103 = .ok (.iinc 1 1, 3) := by decide +kernel
theorem dX7_carryOut_106 : decode cX7_carryOut 106 = .ok (.goto (-73), 3) := by decide +kernel
theorem dX7_carryOut_109 : decode cX7_carryOut 109 = .ok (.aload_n 0, 1) := by decide +kernel
theorem dX7_carryOut_110 : decode cX7_carryOut 110 = .ok (.getfield 57, 3) := by decide +kernel
theorem dX7_carryOut_113 : decode cX7_carryOut 113 = .ok (.invokevirtual 124, 3) := by decide +kernel
theorem dX7_carryOut_116 : decode cX7_carryOut 116 = .ok (.iload_n 1, 1) := by decide +kernel
theorem dX7_carryOut_117 : decode cX7_carryOut 117 = .ok (.ireturn, 1) := by decide +kernel
theorem dX7_why_0 : decode cX7_why 0 = .ok (.iload_n 1, 1) := by decide +kernel
theorem dX7_why_1 : decode cX7_why 1 = .ok (.ifCond .lt 8, 3) := by decide +kernel
theorem dX7_why_4 : decode cX7_why 4 = .ok (.iload_n 1, 1) := by decide +kernel
theorem dX7_why_5 : decode cX7_why 5 = .ok (.iconst 2, 1) := by decide +kernel
theorem dX7_why_6 : decode cX7_why 6 = .ok (.if_icmp .le 5, 3) := by decide +kernel
theorem dX7_why_9 : decode cX7_why 9 = .ok (.iconst (-1), 1) := by decide +kernel
theorem dX7_why_10 : decode cX7_why 10 = .ok (.ireturn, 1) := by decide +kernel
theorem dX7_why_11 : decode cX7_why 11 = .ok (.aload_n 0, 1) := by decide +kernel
theorem dX7_why_12 : decode cX7_why 12 = .ok (.getfield 69, 3) := by decide +kernel
theorem dX7_why_15 : decode cX7_why 15 = .ok (.ifCond .ne 6, 3) := by decide +kernel
theorem dX7_why_18 : decode cX7_why 18 = .ok (.bipush (-4), 2) := by decide +kernel
theorem dX7_why_20 : decode cX7_why 20 = .ok (.ireturn, 1) := by decide +kernel
theorem dX7_why_21 : decode cX7_why 21 = .ok (.iload_n 1, 1) := by decide +kernel
theorem dX7_why_22 : decode cX7_why 22 = .ok (.lookupswitch 36 #[(0, 26), (1, 31)], 26) := by decide +kernel
theorem dX7_why_48 : decode cX7_why 48 = .ok (.aload_n 0, 1) := by decide +kernel
theorem dX7_why_49 : decode cX7_why 49 = .ok (.getfield 69, 3) := by decide +kernel
theorem dX7_why_52 : decode cX7_why 52 = .ok (.ireturn, 1) := by decide +kernel
theorem dX7_why_53 : decode cX7_why 53 = .ok (.aload_n 0, 1) := by decide +kernel
theorem dX7_why_54 : decode cX7_why 54 = .ok (.getfield 72, 3) := by decide +kernel
theorem dX7_why_57 : decode cX7_why 57 = .ok (.ireturn, 1) := by decide +kernel
theorem dX7_why_58 : decode cX7_why 58 = .ok (.aload_n 0, 1) := by decide +kernel
theorem dX7_why_59 : decode cX7_why 59 = .ok (.getfield 75, 3) := by decide +kernel
theorem dX7_why_62 : decode cX7_why 62 = .ok (.ireturn, 1) := by decide +kernel
set_option maxRecDepth 20000 in
theorem ggX7_cell_X2_isCell : GoodIn wsX7_cell wsX2_isCell := goodIn_r _ [5] (by decide +kernel) (by decide +kernel)
set_option maxRecDepth 20000 in
theorem gX7_cell_X2_isCell : GoodIn wsX7_cell (va_wsS RX7 151 yX2_isCell wsX2_isCell) := goodIn_app (goodIn_of _ (by decide +kernel)) ggX7_cell_X2_isCell
set_option maxRecDepth 20000 in
theorem ggX7_cell_X4_grainAt : GoodIn wsX7_cell wsX4_grainAt := goodIn_r _ [10, 11, 47, 48, 49, 50, 51, 52, 53, 54, 55, 56, 57] (by decide +kernel) (by decide +kernel)
set_option maxRecDepth 20000 in
theorem gX7_cell_X4_grainAt : GoodIn wsX7_cell (wsV RX7 157 RX4 yX4_grainAt wsX4_grainAt) := goodIn_app (goodIn_of _ (by decide +kernel)) ggX7_cell_X4_grainAt
set_option maxRecDepth 20000 in
theorem ggX7_cell_X2_ringOf : GoodIn wsX7_cell wsX2_ringOf := goodIn_r _ [14, 15, 16, 17, 18, 19, 20, 21] (by decide +kernel) (by decide +kernel)
set_option maxRecDepth 20000 in
theorem gX7_cell_X2_ringOf : GoodIn wsX7_cell (va_wsS RX7 160 yX2_ringOf wsX2_ringOf) := goodIn_app (goodIn_of _ (by decide +kernel)) ggX7_cell_X2_ringOf
set_option maxRecDepth 20000 in
theorem ggX7_cell_X4_grainsAround : GoodIn wsX7_cell wsX4_grainsAround := goodIn_r _ [25, 26, 27, 4, 28, 29, 7, 8, 9, 10, 11, 47, 48, 49, 50, 51, 52, 53, 54, 55, 56, 57] (by decide +kernel) (by decide +kernel)
set_option maxRecDepth 20000 in
theorem gX7_cell_X4_grainsAround : GoodIn wsX7_cell (wsV RX7 163 RX4 yX4_grainsAround wsX4_grainsAround) := goodIn_app (goodIn_of _ (by decide +kernel)) ggX7_cell_X4_grainsAround
set_option maxRecDepth 20000 in
theorem ggX7_cell_X2_rimOf : GoodIn wsX7_cell wsX2_rimOf := goodIn_r _ [32] (by decide +kernel) (by decide +kernel)
set_option maxRecDepth 20000 in
theorem gX7_cell_X2_rimOf : GoodIn wsX7_cell (va_wsS RX7 166 yX2_rimOf wsX2_rimOf) := goodIn_app (goodIn_of _ (by decide +kernel)) ggX7_cell_X2_rimOf
theorem dX7_cell_0 : decode cX7_cell 0 = .ok (.iload_n 1, 1) := by decide +kernel
theorem dX7_cell_1 : decode cX7_cell 1 = .ok (.invokestatic 151, 3) := by decide +kernel
theorem dX7_cell_4 : decode cX7_cell 4 = .ok (.ifCond .eq 12, 3) := by decide +kernel
theorem dX7_cell_7 : decode cX7_cell 7 = .ok (.iload_n 2, 1) := by decide +kernel
theorem dX7_cell_8 : decode cX7_cell 8 = .ok (.ifCond .lt 8, 3) := by decide +kernel
theorem dX7_cell_11 : decode cX7_cell 11 = .ok (.iload_n 2, 1) := by decide +kernel
theorem dX7_cell_12 : decode cX7_cell 12 = .ok (.iconst 3, 1) := by decide +kernel
theorem dX7_cell_13 : decode cX7_cell 13 = .ok (.if_icmp .le 5, 3) := by decide +kernel
theorem dX7_cell_16 : decode cX7_cell 16 = .ok (.iconst (-1), 1) := by decide +kernel
theorem dX7_cell_17 : decode cX7_cell 17 = .ok (.ireturn, 1) := by decide +kernel
theorem dX7_cell_18 : decode cX7_cell 18 = .ok (.iload_n 2, 1) := by decide +kernel
theorem dX7_cell_19 : decode cX7_cell 19 = .ok (.tableswitch 48 0 2 #[25, 34, 39], 25) := by decide +kernel
theorem dX7_cell_44 : decode cX7_cell 44 = .ok (.aload_n 0, 1) := by decide +kernel
theorem dX7_cell_45 : decode cX7_cell 45 = .ok (.getfield 12, 3) := by decide +kernel
theorem dX7_cell_48 : decode cX7_cell 48 = .ok (.iload_n 1, 1) := by decide +kernel
theorem dX7_cell_49 : decode cX7_cell 49 = .ok (.invokevirtual 157, 3) := by decide +kernel
theorem dX7_cell_52 : decode cX7_cell 52 = .ok (.ireturn, 1) := by decide +kernel
theorem dX7_cell_53 : decode cX7_cell 53 = .ok (.iload_n 1, 1) := by decide +kernel
theorem dX7_cell_54 : decode cX7_cell 54 = .ok (.invokestatic 160, 3) := by decide +kernel
theorem dX7_cell_57 : decode cX7_cell 57 = .ok (.ireturn, 1) := by decide +kernel
theorem dX7_cell_58 : decode cX7_cell 58 = .ok (.aload_n 0, 1) := by decide +kernel
theorem dX7_cell_59 : decode cX7_cell 59 = .ok (.getfield 12, 3) := by decide +kernel
theorem dX7_cell_62 : decode cX7_cell 62 = .ok (.iload_n 1, 1) := by decide +kernel
theorem dX7_cell_63 : decode cX7_cell 63 = .ok (.invokevirtual 163, 3) := by decide +kernel
theorem dX7_cell_66 : decode cX7_cell 66 = .ok (.ireturn, 1) := by decide +kernel
theorem dX7_cell_67 : decode cX7_cell 67 = .ok (.iload_n 1, 1) := by decide +kernel
theorem dX7_cell_68 : decode cX7_cell 68 = .ok (.invokestatic 166, 3) := by decide +kernel
theorem dX7_cell_71 : decode cX7_cell 71 = .ok (.ireturn, 1) := by decide +kernel
set_option maxRecDepth 20000 in
theorem ggX7_grain_X4_isGrain : GoodIn wsX7_grain wsX4_isGrain := goodIn_r _ [7, 8, 99, 100, 101, 102, 103, 104, 105, 106, 107, 108, 109] (by decide +kernel) (by decide +kernel)
set_option maxRecDepth 20000 in
theorem gX7_grain_X4_isGrain : GoodIn wsX7_grain (wsV RX7 169 RX4 yX4_isGrain wsX4_isGrain) := goodIn_app (goodIn_of _ (by decide +kernel)) ggX7_grain_X4_isGrain
set_option maxRecDepth 20000 in
theorem ggX7_grain_X5_read : GoodIn wsX7_grain wsX5_read := goodIn_r _ [13, 14, 15, 16, 17, 6, 18, 19, 20, 4, 5, 7, 8, 21, 22, 23, 12, 24, 25, 26, 27, 28, 29, 30, 31, 32, 33, 34, 99, 100, 101, 102, 103, 104, 105, 106, 107, 108, 109, 92, 93, 94, 95, 96, 97, 98] (by decide +kernel) (by decide +kernel)
set_option maxRecDepth 20000 in
theorem gX7_grain_X5_read : GoodIn wsX7_grain (wsV RX7 172 RX5 yX5_read wsX5_read) := goodIn_app (goodIn_of _ (by decide +kernel)) ggX7_grain_X5_read
set_option maxRecDepth 20000 in
theorem ggX7_grain_X4_cellOf : GoodIn wsX7_grain wsX4_cellOf := goodIn_r _ [38, 39, 20, 4, 5, 6, 7, 8, 99, 100, 101, 102, 103, 104, 105, 106, 107, 108, 109] (by decide +kernel) (by decide +kernel)
set_option maxRecDepth 20000 in
theorem gX7_grain_X4_cellOf : GoodIn wsX7_grain (wsV RX7 176 RX4 yX4_cellOf wsX4_cellOf) := goodIn_app (goodIn_of _ (by decide +kernel)) ggX7_grain_X4_cellOf
set_option maxRecDepth 20000 in
theorem ggX7_grain_X4_holderOf : GoodIn wsX7_grain wsX4_holderOf := goodIn_r _ [18, 19, 20, 4, 5, 6, 7, 8, 99, 100, 101, 102, 103, 104, 105, 106, 107, 108, 109] (by decide +kernel) (by decide +kernel)
set_option maxRecDepth 20000 in
theorem gX7_grain_X4_holderOf : GoodIn wsX7_grain (wsV RX7 179 RX4 yX4_holderOf wsX4_holderOf) := goodIn_app (goodIn_of _ (by decide +kernel)) ggX7_grain_X4_holderOf
set_option maxRecDepth 20000 in
theorem ggX7_grain_X7_catchOf : GoodIn wsX7_grain wsX7_catchOf := goodIn_r _ [45, 46, 1, 47, 48, 49, 50, 51, 52, 53, 54, 55, 56, 57, 58, 59, 60, 61, 62, 63, 64, 65, 66, 67, 6, 68, 69, 70, 71, 72, 78, 79, 80, 81, 82, 83, 84, 85, 86, 87, 88, 89, 90, 91, 110, 111, 112, 99, 100, 101, 102, 103, 104, 105, 106, 107, 108, 109] (by decide +kernel) (by decide +kernel)
set_option maxRecDepth 20000 in
theorem gX7_grain_X7_catchOf : GoodIn wsX7_grain (wsV RX7 195 RX7 yX7_catchOf wsX7_catchOf) := goodIn_app (goodIn_of _ (by decide +kernel)) ggX7_grain_X7_catchOf
set_option maxRecDepth 20000 in
theorem ggX7_grain_X4_stepsOf : GoodIn wsX7_grain wsX4_stepsOf := goodIn_r _ [76, 77, 20, 4, 5, 6, 7, 8, 99, 100, 101, 102, 103, 104, 105, 106, 107, 108, 109] (by decide +kernel) (by decide +kernel)
set_option maxRecDepth 20000 in
theorem gX7_grain_X4_stepsOf : GoodIn wsX7_grain (wsV RX7 201 RX4 yX4_stepsOf wsX4_stepsOf) := goodIn_app (goodIn_of _ (by decide +kernel)) ggX7_grain_X4_stepsOf
theorem dX7_grain_0 : decode cX7_grain 0 = .ok (.aload_n 0, 1) := by decide +kernel
theorem dX7_grain_1 : decode cX7_grain 1 = .ok (.getfield 12, 3) := by decide +kernel
theorem dX7_grain_4 : decode cX7_grain 4 = .ok (.iload_n 1, 1) := by decide +kernel
theorem dX7_grain_5 : decode cX7_grain 5 = .ok (.invokevirtual 169, 3) := by decide +kernel
theorem dX7_grain_8 : decode cX7_grain 8 = .ok (.ifCond .eq 13, 3) := by decide +kernel
theorem dX7_grain_11 : decode cX7_grain 11 = .ok (.iload_n 2, 1) := by decide +kernel
theorem dX7_grain_12 : decode cX7_grain 12 = .ok (.ifCond .lt 9, 3) := by decide +kernel
theorem dX7_grain_15 : decode cX7_grain 15 = .ok (.iload_n 2, 1) := by decide +kernel
theorem dX7_grain_16 : decode cX7_grain 16 = .ok (.bipush 8, 2) := by decide +kernel
theorem dX7_grain_18 : decode cX7_grain 18 = .ok (.if_icmp .le 5, 3) := by decide +kernel
theorem dX7_grain_21 : decode cX7_grain 21 = .ok (.iconst (-1), 1) := by decide +kernel
theorem dX7_grain_22 : decode cX7_grain 22 = .ok (.ireturn, 1) := by decide +kernel
theorem dX7_grain_23 : decode cX7_grain 23 = .ok (.aload_n 0, 1) := by decide +kernel
theorem dX7_grain_24 : decode cX7_grain 24 = .ok (.getfield 43, 3) := by decide +kernel
theorem dX7_grain_27 : decode cX7_grain 27 = .ok (.aload_n 0, 1) := by decide +kernel
theorem dX7_grain_28 : decode cX7_grain 28 = .ok (.getfield 12, 3) := by decide +kernel
theorem dX7_grain_31 : decode cX7_grain 31 = .ok (.invokevirtual 172, 3) := by decide +kernel
theorem dX7_grain_34 : decode cX7_grain 34 = .ok (.iload_n 2, 1) := by decide +kernel
theorem dX7_grain_35 : decode cX7_grain 35 = .ok (.tableswitch 119 0 7 #[45, 54, 63, 73, 83, 93, 103, 109], 45) := by decide +kernel
theorem dX7_grain_80 : decode cX7_grain 80 = .ok (.aload_n 0, 1) := by decide +kernel
theorem dX7_grain_81 : decode cX7_grain 81 = .ok (.getfield 12, 3) := by decide +kernel
theorem dX7_grain_84 : decode cX7_grain 84 = .ok (.iload_n 1, 1) := by decide +kernel
theorem dX7_grain_85 : decode cX7_grain 85 = .ok (.invokevirtual 176, 3) := by decide +kernel
theorem dX7_grain_88 : decode cX7_grain 88 = .ok (.ireturn, 1) := by decide +kernel
theorem dX7_grain_89 : decode cX7_grain 89 = .ok (.aload_n 0, 1) := by decide +kernel
theorem dX7_grain_90 : decode cX7_grain 90 = .ok (.getfield 12, 3) := by decide +kernel
theorem dX7_grain_93 : decode cX7_grain 93 = .ok (.iload_n 1, 1) := by decide +kernel
theorem dX7_grain_94 : decode cX7_grain 94 = .ok (.invokevirtual 179, 3) := by decide +kernel
theorem dX7_grain_97 : decode cX7_grain 97 = .ok (.ireturn, 1) := by decide +kernel
theorem dX7_grain_98 : decode cX7_grain 98 = .ok (.aload_n 0, 1) := by decide +kernel
theorem dX7_grain_99 : decode cX7_grain 99 = .ok (.getfield 43, 3) := by decide +kernel
theorem dX7_grain_102 : decode cX7_grain 102 = .ok (.getfield 182, 3) := by decide +kernel
theorem dX7_grain_105 : decode cX7_grain 105 = .ok (.iload_n 1, 1) := by decide +kernel
theorem dX7_grain_106 : decode cX7_grain 106 = .ok (.iaload, 1) := by decide +kernel
theorem dX7_grain_107 : decode cX7_grain 107 = .ok (.ireturn, 1) := by decide +kernel
theorem dX7_grain_108 : decode cX7_grain 108 = .ok (.aload_n 0, 1) := by decide +kernel
theorem dX7_grain_109 : decode cX7_grain 109 = .ok (.getfield 43, 3) := by decide +kernel
theorem dX7_grain_112 : decode cX7_grain 112 = .ok (.getfield 186, 3) := by decide +kernel
theorem dX7_grain_115 : decode cX7_grain 115 = .ok (.iload_n 1, 1) := by decide +kernel
theorem dX7_grain_116 : decode cX7_grain 116 = .ok (.iaload, 1) := by decide +kernel
theorem dX7_grain_117 : decode cX7_grain 117 = .ok (.ireturn, 1) := by decide +kernel
theorem dX7_grain_118 : decode cX7_grain 118 = .ok (.aload_n 0, 1) := by decide +kernel
theorem dX7_grain_119 : decode cX7_grain 119 = .ok (.getfield 43, 3) := by decide +kernel
theorem dX7_grain_122 : decode cX7_grain 122 = .ok (.getfield 189, 3) := by decide +kernel
theorem dX7_grain_125 : decode cX7_grain 125 = .ok (.iload_n 1, 1) := by decide +kernel
theorem dX7_grain_126 : decode cX7_grain 126 = .ok (.iaload, 1) := by decide +kernel
theorem dX7_grain_127 : decode cX7_grain 127 = .ok (.ireturn, 1) := by decide +kernel
theorem dX7_grain_128 : decode cX7_grain 128 = .ok (.aload_n 0, 1) := by decide +kernel
theorem dX7_grain_129 : decode cX7_grain 129 = .ok (.getfield 43, 3) := by decide +kernel
theorem dX7_grain_132 : decode cX7_grain 132 = .ok (.getfield 192, 3) := by decide +kernel
theorem dX7_grain_135 : decode cX7_grain 135 = .ok (.iload_n 1, 1) := by decide +kernel
theorem dX7_grain_136 : decode cX7_grain 136 = .ok (.iaload, 1) := by decide +kernel
theorem dX7_grain_137 : decode cX7_grain 137 = .ok (.ireturn, 1) := by decide +kernel
theorem dX7_grain_138 : decode cX7_grain 138 = .ok (.aload_n 0, 1) := by decide +kernel
theorem dX7_grain_139 : decode cX7_grain 139 = .ok (.iload_n 1, 1) := by decide +kernel
theorem dX7_grain_140 : decode cX7_grain 140 = .ok (.invokevirtual 195, 3) := by decide +kernel
theorem dX7_grain_143 : decode cX7_grain 143 = .ok (.ireturn, 1) := by decide +kernel
theorem dX7_grain_144 : decode cX7_grain 144 = .ok (.aload_n 0, 1) := by decide +kernel
theorem dX7_grain_145 : decode cX7_grain 145 = .ok (.getfield 43, 3) := by decide +kernel
theorem dX7_grain_148 : decode cX7_grain 148 = .ok (.getfield 198, 3) := by decide +kernel
theorem dX7_grain_151 : decode cX7_grain 151 = .ok (.iload_n 1, 1) := by decide +kernel
theorem dX7_grain_152 : decode cX7_grain 152 = .ok (.iaload, 1) := by decide +kernel
theorem dX7_grain_153 : decode cX7_grain 153 = .ok (.ireturn, 1) := by decide +kernel
theorem dX7_grain_154 : decode cX7_grain 154 = .ok (.aload_n 0, 1) := by decide +kernel
theorem dX7_grain_155 : decode cX7_grain 155 = .ok (.getfield 12, 3) := by decide +kernel
theorem dX7_grain_158 : decode cX7_grain 158 = .ok (.iload_n 1, 1) := by decide +kernel
theorem dX7_grain_159 : decode cX7_grain 159 = .ok (.invokevirtual 201, 3) := by decide +kernel
theorem dX7_grain_162 : decode cX7_grain 162 = .ok (.ireturn, 1) := by decide +kernel
set_option maxRecDepth 20000 in
theorem ggX7_screens_X2_isRim : GoodIn wsX7_screens wsX2_isRim := goodIn_r _ [5] (by decide +kernel) (by decide +kernel)
set_option maxRecDepth 20000 in
theorem gX7_screens_X2_isRim : GoodIn wsX7_screens (va_wsS RX7 204 yX2_isRim wsX2_isRim) := goodIn_app (goodIn_of _ (by decide +kernel)) ggX7_screens_X2_isRim
set_option maxRecDepth 20000 in
theorem ggX7_screens_X3_firstMet : GoodIn wsX7_screens wsX3_firstMet := goodIn_r _ [9, 10, 11, 4, 12, 13, 14, 15, 16, 17, 18, 19, 20, 21, 22, 23, 24, 39, 40, 41, 42, 43, 44, 45, 46, 47, 48, 49] (by decide +kernel) (by decide +kernel)
set_option maxRecDepth 20000 in
theorem gX7_screens_X3_firstMet : GoodIn wsX7_screens (va_wsS RX7 207 yX3_firstMet wsX3_firstMet) := goodIn_app (goodIn_of _ (by decide +kernel)) ggX7_screens_X3_firstMet
theorem dX7_screens_0 : decode cX7_screens 0 = .ok (.iload_n 1, 1) := by decide +kernel
theorem dX7_screens_1 : decode cX7_screens 1 = .ok (.invokestatic 204, 3) := by decide +kernel
theorem dX7_screens_4 : decode cX7_screens 4 = .ok (.ifCond .ne 5, 3) := by decide +kernel
theorem dX7_screens_7 : decode cX7_screens 7 = .ok (.iconst (-1), 1) := by decide +kernel
theorem dX7_screens_8 : decode cX7_screens 8 = .ok (.ireturn, 1) := by decide +kernel
theorem dX7_screens_9 : decode cX7_screens 9 = .ok (.aload_n 0, 1) := by decide +kernel
theorem dX7_screens_10 : decode cX7_screens 10 = .ok (.getfield 12, 3) := by decide +kernel
theorem dX7_screens_13 : decode cX7_screens 13 = .ok (.iload_n 1, 1) := by decide +kernel
theorem dX7_screens_14 : decode cX7_screens 14 = .ok (.invokestatic 207, 3) := by decide +kernel
theorem dX7_screens_17 : decode cX7_screens 17 = .ok (.ireturn, 1) := by decide +kernel
set_option maxRecDepth 20000 in
theorem ggX7_ring_X4_cellOf : GoodIn wsX7_ring wsX4_cellOf := goodIn_r _ [6, 7, 8, 9, 10, 5, 11, 12, 38, 39, 40, 41, 42, 43, 44, 45, 46, 47, 48] (by decide +kernel) (by decide +kernel)
set_option maxRecDepth 20000 in
theorem gX7_ring_X4_cellOf : GoodIn wsX7_ring (wsV RX7 176 RX4 yX4_cellOf wsX4_cellOf) := goodIn_app (goodIn_of _ (by decide +kernel)) ggX7_ring_X4_cellOf
set_option maxRecDepth 20000 in
theorem ggX7_ring_X2_ringOf : GoodIn wsX7_ring wsX2_ringOf := goodIn_r _ [16, 17, 18, 19, 20, 21, 22, 23] (by decide +kernel) (by decide +kernel)
set_option maxRecDepth 20000 in
theorem gX7_ring_X2_ringOf : GoodIn wsX7_ring (va_wsS RX7 160 yX2_ringOf wsX2_ringOf) := goodIn_app (goodIn_of _ (by decide +kernel)) ggX7_ring_X2_ringOf
theorem dX7_ring_0 : decode cX7_ring 0 = .ok (.iload_n 1, 1) := by decide +kernel
theorem dX7_ring_1 : decode cX7_ring 1 = .ok (.ifCond .lt 9, 3) := by decide +kernel
theorem dX7_ring_4 : decode cX7_ring 4 = .ok (.iload_n 1, 1) := by decide +kernel
theorem dX7_ring_5 : decode cX7_ring 5 = .ok (.bipush 6, 2) := by decide +kernel
theorem dX7_ring_7 : decode cX7_ring 7 = .ok (.if_icmp .lt 5, 3) := by decide +kernel
theorem dX7_ring_10 : decode cX7_ring 10 = .ok (.iconst (-1), 1) := by decide +kernel
theorem dX7_ring_11 : decode cX7_ring 11 = .ok (.ireturn, 1) := by decide +kernel
theorem dX7_ring_12 : decode cX7_ring 12 = .ok (.iconst 0, 1) := by decide +kernel
theorem dX7_ring_13 : decode cX7_ring 13 = .ok (.istore_n 2, 1) := by decide +kernel
theorem dX7_ring_14 : decode cX7_ring 14 = .ok (.iconst 0, 1) := by decide +kernel
theorem dX7_ring_15 : decode cX7_ring 15 = .ok (.istore_n 3, 1) := by decide +kernel
theorem dX7_ring_16 : decode cX7_ring 16 = .ok (.iload_n 3, 1) := by decide +kernel
theorem dX7_ring_17 : decode cX7_ring 17 = .ok (.aload_n 0, 1) := by decide +kernel
theorem dX7_ring_18 : decode cX7_ring 18 = .ok (.getfield 12, 3) := by decide +kernel
theorem dX7_ring_21 : decode cX7_ring 21 = .ok (.getfield 210, 3) := by decide +kernel
theorem dX7_ring_24 : decode cX7_ring 24 = .ok (.if_icmp .ge 27, 3) := by decide +kernel
theorem dX7_ring_27 : decode cX7_ring 27 = .ok (.aload_n 0, 1) := by decide +kernel
theorem dX7_ring_28 : decode cX7_ring 28 = .ok (.getfield 12, 3) := by decide +kernel
theorem dX7_ring_31 : decode cX7_ring 31 = .ok (.iload_n 3, 1) := by decide +kernel
theorem dX7_ring_32 : decode cX7_ring 32 = .ok (.invokevirtual 176, 3) := by decide +kernel
theorem dX7_ring_35 : decode cX7_ring 35 = .ok (.invokestatic 160, 3) := by decide +kernel
theorem dX7_ring_38 : decode cX7_ring 38 = .ok (.iload_n 1, 1) := by decide +kernel
theorem dX7_ring_39 : decode cX7_ring 39 = .ok (.if_icmp .ne 6, 3) := by decide +kernel
theorem dX7_ring_42 : decode cX7_ring 42 = .ok (.iinc 2 1, 3) := by decide +kernel
theorem dX7_ring_45 : decode cX7_ring 45 = .ok (.iinc 3 1, 3) := by decide +kernel
theorem dX7_ring_48 : decode cX7_ring 48 = .ok (.goto (-32), 3) := by decide +kernel
theorem dX7_ring_51 : decode cX7_ring 51 = .ok (.iload_n 2, 1) := by decide +kernel
theorem dX7_ring_52 : decode cX7_ring 52 = .ok (.ireturn, 1) := by decide +kernel
set_option maxRecDepth 20000 in
theorem ggX7_apart_X4_isGrain : GoodIn wsX7_apart wsX4_isGrain := goodIn_r _ [6, 7, 39, 40, 41, 42, 43, 44, 45, 46, 47, 48, 49] (by decide +kernel) (by decide +kernel)
set_option maxRecDepth 20000 in
theorem gX7_apart_X4_isGrain : GoodIn wsX7_apart (wsV RX7 169 RX4 yX4_isGrain wsX4_isGrain) := goodIn_app (goodIn_of _ (by decide +kernel)) ggX7_apart_X4_isGrain
set_option maxRecDepth 20000 in
theorem ggX7_apart_X4_holdsBetween : GoodIn wsX7_apart wsX4_holdsBetween := goodIn_r _ [11, 12, 13, 14, 15, 16, 17, 18, 19, 20, 21, 5, 22, 23, 24, 3, 4, 6, 7, 39, 40, 41, 42, 43, 44, 45, 46, 47, 48, 49] (by decide +kernel) (by decide +kernel)
set_option maxRecDepth 20000 in
theorem gX7_apart_X4_holdsBetween : GoodIn wsX7_apart (wsV RX7 213 RX4 yX4_holdsBetween wsX4_holdsBetween) := goodIn_app (goodIn_of _ (by decide +kernel)) ggX7_apart_X4_holdsBetween
theorem dX7_apart_0 : decode cX7_apart 0 = .ok (.aload_n 0, 1) := by decide +kernel
theorem dX7_apart_1 : decode cX7_apart 1 = .ok (.getfield 12, 3) := by decide +kernel
theorem dX7_apart_4 : decode cX7_apart 4 = .ok (.iload_n 1, 1) := by decide +kernel
theorem dX7_apart_5 : decode cX7_apart 5 = .ok (.invokevirtual 169, 3) := by decide +kernel
theorem dX7_apart_8 : decode cX7_apart 8 = .ok (.ifCond .eq 14, 3) := by decide +kernel
theorem dX7_apart_11 : decode cX7_apart 11 = .ok (.aload_n 0, 1) := by decide +kernel
theorem dX7_apart_12 : decode cX7_apart 12 = .ok (.getfield 12, 3) := by decide +kernel
theorem dX7_apart_15 : decode cX7_apart 15 = .ok (.iload_n 2, 1) := by decide +kernel
theorem dX7_apart_16 : decode cX7_apart 16 = .ok (.invokevirtual 169, 3) := by decide +kernel
theorem dX7_apart_19 : decode cX7_apart 19 = .ok (.ifCond .ne 5, 3) := by decide +kernel
theorem dX7_apart_22 : decode cX7_apart 22 = .ok (.iconst (-1), 1) := by decide +kernel
theorem dX7_apart_23 : decode cX7_apart 23 = .ok (.ireturn, 1) := by decide +kernel
theorem dX7_apart_24 : decode cX7_apart 24 = .ok (.aload_n 0, 1) := by decide +kernel
theorem dX7_apart_25 : decode cX7_apart 25 = .ok (.getfield 12, 3) := by decide +kernel
theorem dX7_apart_28 : decode cX7_apart 28 = .ok (.iload_n 1, 1) := by decide +kernel
theorem dX7_apart_29 : decode cX7_apart 29 = .ok (.iload_n 2, 1) := by decide +kernel
theorem dX7_apart_30 : decode cX7_apart 30 = .ok (.invokevirtual 213, 3) := by decide +kernel
theorem dX7_apart_33 : decode cX7_apart 33 = .ok (.ireturn, 1) := by decide +kernel
set_option maxRecDepth 20000 in
theorem ggX7_longest_X4_longestOfPairs : GoodIn wsX7_longest wsX4_longestOfPairs := goodIn_r _ [7, 8, 9, 10, 11, 12, 13, 14, 15, 6, 16, 17, 18, 19, 20, 21, 22, 23, 24, 25, 26, 27, 28, 69, 70, 71, 72, 73, 74, 75, 76, 77, 78, 79] (by decide +kernel) (by decide +kernel)
set_option maxRecDepth 20000 in
theorem gX7_longest_X4_longestOfPairs : GoodIn wsX7_longest (wsV RX7 216 RX4 yX4_longestOfPairs wsX4_longestOfPairs) := goodIn_app (goodIn_of _ (by decide +kernel)) ggX7_longest_X4_longestOfPairs
set_option maxRecDepth 20000 in
theorem ggX7_longest_X5_read : GoodIn wsX7_longest wsX5_read := goodIn_r _ [33, 34, 35, 21, 22, 6, 23, 24, 25, 26, 27, 28, 8, 36, 37, 38, 32, 39, 40, 41, 42, 43, 44, 45, 46, 47, 48, 49, 69, 70, 71, 72, 73, 74, 75, 76, 77, 78, 79, 80, 81, 82, 83, 84, 85, 86] (by decide +kernel) (by decide +kernel)
set_option maxRecDepth 20000 in
theorem gX7_longest_X5_read : GoodIn wsX7_longest (wsV RX7 172 RX5 yX5_read wsX5_read) := goodIn_app (goodIn_of _ (by decide +kernel)) ggX7_longest_X5_read
set_option maxRecDepth 20000 in
theorem ggX7_longest_X5_longestOfHeights : GoodIn wsX7_longest wsX5_longestOfHeights := goodIn_r _ [53, 34, 44, 45, 54, 10, 11, 12, 80, 81, 82, 83, 84, 85, 86] (by decide +kernel) (by decide +kernel)
set_option maxRecDepth 20000 in
theorem gX7_longest_X5_longestOfHeights : GoodIn wsX7_longest (wsV RX7 219 RX5 yX5_longestOfHeights wsX5_longestOfHeights) := goodIn_app (goodIn_of _ (by decide +kernel)) ggX7_longest_X5_longestOfHeights
theorem dX7_longest_0 : decode cX7_longest 0 = .ok (.iload_n 1, 1) := by decide +kernel
theorem dX7_longest_1 : decode cX7_longest 1 = .ok (.ifCond .lt 8, 3) := by decide +kernel
theorem dX7_longest_4 : decode cX7_longest 4 = .ok (.iload_n 1, 1) := by decide +kernel
theorem dX7_longest_5 : decode cX7_longest 5 = .ok (.iconst 1, 1) := by decide +kernel
theorem dX7_longest_6 : decode cX7_longest 6 = .ok (.if_icmp .le 5, 3) := by decide +kernel
theorem dX7_longest_9 : decode cX7_longest 9 = .ok (.iconst (-1), 1) := by decide +kernel
theorem dX7_longest_10 : decode cX7_longest 10 = .ok (.ireturn, 1) := by decide +kernel
theorem dX7_longest_11 : decode cX7_longest 11 = .ok (.iload_n 1, 1) := by decide +kernel
theorem dX7_longest_12 : decode cX7_longest 12 = .ok (.ifCond .ne 11, 3) := by decide +kernel
theorem dX7_longest_15 : decode cX7_longest 15 = .ok (.aload_n 0, 1) := by decide +kernel
theorem dX7_longest_16 : decode cX7_longest 16 = .ok (.getfield 12, 3) := by decide +kernel
theorem dX7_longest_19 : decode cX7_longest 19 = .ok (.invokevirtual 216, 3) := by decide +kernel
theorem dX7_longest_22 : decode cX7_longest 22 = .ok (.ireturn, 1) := by decide +kernel
theorem dX7_longest_23 : decode cX7_longest 23 = .ok (.aload_n 0, 1) := by decide +kernel
theorem dX7_longest_24 : decode cX7_longest 24 = .ok (.getfield 43, 3) := by decide +kernel
theorem dX7_longest_27 : decode cX7_longest 27 = .ok (.aload_n 0, 1) := by decide +kernel
theorem dX7_longest_28 : decode cX7_longest 28 = .ok (.getfield 12, 3) := by decide +kernel
theorem dX7_longest_31 : decode cX7_longest 31 = .ok (.invokevirtual 172, 3) := by decide +kernel
theorem dX7_longest_34 : decode cX7_longest 34 = .ok (.aload_n 0, 1) := by decide +kernel
theorem dX7_longest_35 : decode cX7_longest 35 = .ok (.getfield 43, 3) := by decide +kernel
theorem dX7_longest_38 : decode cX7_longest 38 = .ok (.invokevirtual 219, 3) := by decide +kernel
theorem dX7_longest_41 : decode cX7_longest 41 = .ok (.ireturn, 1) := by decide +kernel
set_option maxRecDepth 20000 in
theorem ggX7_count_X4_reach : GoodIn wsX7_count wsX4_reach := goodIn_r _ [8, 9, 10, 11, 12, 13, 14, 15, 16, 17, 18, 19, 20, 21, 22, 138, 139, 140, 141, 142, 143, 144, 145, 146, 147, 148] (by decide +kernel) (by decide +kernel)
set_option maxRecDepth 20000 in
theorem gX7_count_X4_reach : GoodIn wsX7_count (wsV RX7 222 RX4 yX4_reach wsX4_reach) := goodIn_app (goodIn_of _ (by decide +kernel)) ggX7_count_X4_reach
set_option maxRecDepth 20000 in
theorem ggX7_count_X4_freeCellsBeside : GoodIn wsX7_count wsX4_freeCellsBeside := goodIn_r _ [26, 27, 28, 29, 7, 30, 31, 32, 33, 34, 35, 36, 37, 17, 38, 138, 139, 140, 141, 142, 143, 144, 145, 146, 147, 148] (by decide +kernel) (by decide +kernel)
set_option maxRecDepth 20000 in
theorem gX7_count_X4_freeCellsBeside : GoodIn wsX7_count (wsV RX7 225 RX4 yX4_freeCellsBeside wsX4_freeCellsBeside) := goodIn_app (goodIn_of _ (by decide +kernel)) ggX7_count_X4_freeCellsBeside
set_option maxRecDepth 20000 in
theorem ggX7_count_X7_bestCatcher : GoodIn wsX7_count wsX7_bestCatcher := goodIn_r _ [43, 44, 1, 45, 46, 47, 48, 49, 50, 51, 52, 53, 54, 55, 56, 57, 17, 58, 59, 60, 61, 62, 28, 29, 7, 30, 31, 63, 37, 38, 64, 65, 66, 67, 124, 125, 126, 127, 128, 129, 130, 131, 132, 133, 134, 135, 136, 137, 138, 139, 140, 141, 142, 143, 144, 145, 146, 147, 148, 155, 156, 157] (by decide +kernel) (by decide +kernel)
set_option maxRecDepth 20000 in
theorem gX7_count_X7_bestCatcher : GoodIn wsX7_count (wsV RX7 240 RX7 yX7_bestCatcher wsX7_bestCatcher) := goodIn_app (goodIn_of _ (by decide +kernel)) ggX7_count_X7_bestCatcher
set_option maxRecDepth 20000 in
theorem ggX7_count_X7_catchOf : GoodIn wsX7_count wsX7_catchOf := goodIn_r _ [71, 44, 1, 45, 46, 47, 48, 49, 50, 51, 52, 53, 54, 55, 56, 57, 17, 58, 59, 60, 61, 62, 28, 29, 7, 30, 31, 63, 37, 38, 124, 125, 126, 127, 128, 129, 130, 131, 132, 133, 134, 135, 136, 137, 155, 156, 157, 138, 139, 140, 141, 142, 143, 144, 145, 146, 147, 148] (by decide +kernel) (by decide +kernel)
set_option maxRecDepth 20000 in
theorem gX7_count_X7_catchOf : GoodIn wsX7_count (wsV RX7 195 RX7 yX7_catchOf wsX7_catchOf) := goodIn_app (goodIn_of _ (by decide +kernel)) ggX7_count_X7_catchOf
set_option maxRecDepth 20000 in
theorem ggX7_count_X4_setting : GoodIn wsX7_count wsX4_setting := goodIn_r _ [75, 76, 138, 139, 140, 141, 142, 143, 144, 145, 146, 147, 148] (by decide +kernel) (by decide +kernel)
set_option maxRecDepth 20000 in
theorem gX7_count_X4_setting : GoodIn wsX7_count (wsV RX7 243 RX4 yX4_setting wsX4_setting) := goodIn_app (goodIn_of _ (by decide +kernel)) ggX7_count_X4_setting
set_option maxRecDepth 20000 in
theorem ggX7_count_X7_countOfTrees : GoodIn wsX7_count wsX7_countOfTrees := goodIn_r _ [80, 81, 1, 82, 83, 84, 85, 86, 87, 88, 89, 90, 7, 91, 92, 93, 94, 95, 96, 9, 97, 98, 99, 100, 101, 102, 103, 104, 105, 106, 107, 108, 109, 110, 111, 112, 113, 114, 115, 116, 117, 118, 119, 120, 121, 122, 123, 12, 13, 14, 124, 125, 126, 127, 128, 129, 130, 131, 132, 133, 134, 135, 136, 137, 138, 139, 140, 141, 142, 143, 144, 145, 146, 147, 148, 158, 159, 160, 161, 162, 163, 164] (by decide +kernel) (by decide +kernel)
set_option maxRecDepth 20000 in
theorem gX7_count_X7_countOfTrees : GoodIn wsX7_count (wsV RX7 246 RX7 yX7_countOfTrees wsX7_countOfTrees) := goodIn_app (goodIn_of _ (by decide +kernel)) ggX7_count_X7_countOfTrees
theorem dX7_count_0 : decode cX7_count 0 = .ok (.iload_n 1, 1) := by decide +kernel
theorem dX7_count_1 : decode cX7_count 1 = .ok (.ifCond .lt 9, 3) := by decide +kernel
theorem dX7_count_4 : decode cX7_count 4 = .ok (.iload_n 1, 1) := by decide +kernel
theorem dX7_count_5 : decode cX7_count 5 = .ok (.bipush 19, 2) := by decide +kernel
theorem dX7_count_7 : decode cX7_count 7 = .ok (.if_icmp .le 5, 3) := by decide +kernel
theorem dX7_count_10 : decode cX7_count 10 = .ok (.iconst (-1), 1) := by decide +kernel
theorem dX7_count_11 : decode cX7_count 11 = .ok (.ireturn, 1) := by decide +kernel
theorem dX7_count_12 : decode cX7_count 12 = .ok (.iload_n 1, 1) := by decide +kernel
theorem dX7_count_13 : decode cX7_count 13 = .ok (.tableswitch 198 0 19 #[95, 198, 198, 198, 198, 103, 111, 119, 127, 135, 143, 151, 160, 165, 165, 165, 165, 177, 185, 193], 95) := by decide +kernel
theorem dX7_count_108 : decode cX7_count 108 = .ok (.aload_n 0, 1) := by decide +kernel
theorem dX7_count_109 : decode cX7_count 109 = .ok (.getfield 12, 3) := by decide +kernel
theorem dX7_count_112 : decode cX7_count 112 = .ok (.getfield 210, 3) := by decide +kernel
theorem dX7_count_115 : decode cX7_count 115 = .ok (.ireturn, 1) := by decide +kernel
theorem dX7_count_116 : decode cX7_count 116 = .ok (.aload_n 0, 1) := by decide +kernel
theorem dX7_count_117 : decode cX7_count 117 = .ok (.getfield 12, 3) := by decide +kernel
theorem dX7_count_120 : decode cX7_count 120 = .ok (.invokevirtual 222, 3) := by decide +kernel
theorem dX7_count_123 : decode cX7_count 123 = .ok (.ireturn, 1) := by decide +kernel
theorem dX7_count_124 : decode cX7_count 124 = .ok (.aload_n 0, 1) := by decide +kernel
theorem dX7_count_125 : decode cX7_count 125 = .ok (.getfield 12, 3) := by decide +kernel
theorem dX7_count_128 : decode cX7_count 128 = .ok (.invokevirtual 225, 3) := by decide +kernel
theorem dX7_count_131 : decode cX7_count 131 = .ok (.ireturn, 1) := by decide +kernel
theorem dX7_count_132 : decode cX7_count 132 = .ok (.aload_n 0, 1) := by decide +kernel
theorem dX7_count_133 : decode cX7_count 133 = .ok (.getfield 12, 3) := by decide +kernel
theorem dX7_count_136 : decode cX7_count 136 = .ok (.getfield 228, 3) := by decide +kernel
theorem dX7_count_139 : decode cX7_count 139 = .ok (.ireturn, 1) := by decide +kernel
theorem dX7_count_140 : decode cX7_count 140 = .ok (.aload_n 0, 1) := by decide +kernel
theorem dX7_count_141 : decode cX7_count 141 = .ok (.getfield 12, 3) := by decide +kernel
theorem dX7_count_144 : decode cX7_count 144 = .ok (.getfield 231, 3) := by decide +kernel
theorem dX7_count_147 : decode cX7_count 147 = .ok (.ireturn, 1) := by decide +kernel
theorem dX7_count_148 : decode cX7_count 148 = .ok (.aload_n 0, 1) := by decide +kernel
theorem dX7_count_149 : decode cX7_count 149 = .ok (.getfield 12, 3) := by decide +kernel
theorem dX7_count_152 : decode cX7_count 152 = .ok (.getfield 234, 3) := by decide +kernel
theorem dX7_count_155 : decode cX7_count 155 = .ok (.ireturn, 1) := by decide +kernel
theorem dX7_count_156 : decode cX7_count 156 = .ok (.aload_n 0, 1) := by decide +kernel
theorem dX7_count_157 : decode cX7_count 157 = .ok (.getfield 12, 3) := by decide +kernel
theorem dX7_count_160 : decode cX7_count 160 = .ok (.getfield 237, 3) := by decide +kernel
theorem dX7_count_163 : decode cX7_count 163 = .ok (.ireturn, 1) := by decide +kernel
theorem dX7_count_164 : decode cX7_count 164 = .ok (.aload_n 0, 1) := by decide +kernel
theorem dX7_count_165 : decode cX7_count 165 = .ok (.aload_n 0, 1) := by decide +kernel
theorem dX7_count_166 : decode cX7_count 166 = .ok (.invokevirtual 240, 3) := by decide +kernel
theorem dX7_count_169 : decode cX7_count 169 = .ok (.invokevirtual 195, 3) := by decide +kernel
theorem dX7_count_172 : decode cX7_count 172 = .ok (.ireturn, 1) := by decide +kernel
theorem dX7_count_173 : decode cX7_count 173 = .ok (.aload_n 0, 1) := by decide +kernel
theorem dX7_count_174 : decode cX7_count 174 = .ok (.invokevirtual 240, 3) := by decide +kernel
theorem dX7_count_177 : decode cX7_count 177 = .ok (.ireturn, 1) := by decide +kernel
theorem dX7_count_178 : decode cX7_count 178 = .ok (.aload_n 0, 1) := by decide +kernel
theorem dX7_count_179 : decode cX7_count 179 = .ok (.getfield 12, 3) := by decide +kernel
theorem dX7_count_182 : decode cX7_count 182 = .ok (.iload_n 1, 1) := by decide +kernel
theorem dX7_count_183 : decode cX7_count 183 = .ok (.bipush 13, 2) := by decide +kernel
theorem dX7_count_185 : decode cX7_count 185 = .ok (.isub, 1) := by decide +kernel
theorem dX7_count_186 : decode cX7_count 186 = .ok (.invokevirtual 243, 3) := by decide +kernel
theorem dX7_count_189 : decode cX7_count 189 = .ok (.ireturn, 1) := by decide +kernel
theorem dX7_count_190 : decode cX7_count 190 = .ok (.aload_n 0, 1) := by decide +kernel
theorem dX7_count_191 : decode cX7_count 191 = .ok (.getfield 12, 3) := by decide +kernel
theorem dX7_count_194 : decode cX7_count 194 = .ok (.getfield 85, 3) := by decide +kernel
theorem dX7_count_197 : decode cX7_count 197 = .ok (.ireturn, 1) := by decide +kernel
theorem dX7_count_198 : decode cX7_count 198 = .ok (.aload_n 0, 1) := by decide +kernel
theorem dX7_count_199 : decode cX7_count 199 = .ok (.getfield 57, 3) := by decide +kernel
theorem dX7_count_202 : decode cX7_count 202 = .ok (.getfield 117, 3) := by decide +kernel
theorem dX7_count_205 : decode cX7_count 205 = .ok (.ireturn, 1) := by decide +kernel
theorem dX7_count_206 : decode cX7_count 206 = .ok (.aload_n 0, 1) := by decide +kernel
theorem dX7_count_207 : decode cX7_count 207 = .ok (.getfield 61, 3) := by decide +kernel
theorem dX7_count_210 : decode cX7_count 210 = .ok (.ireturn, 1) := by decide +kernel
theorem dX7_count_211 : decode cX7_count 211 = .ok (.aload_n 0, 1) := by decide +kernel
theorem dX7_count_212 : decode cX7_count 212 = .ok (.iload_n 1, 1) := by decide +kernel
theorem dX7_count_213 : decode cX7_count 213 = .ok (.invokevirtual 246, 3) := by decide +kernel
theorem dX7_count_216 : decode cX7_count 216 = .ok (.ireturn, 1) := by decide +kernel
set_option maxRecDepth 20000 in
theorem ggX7_density_X4_reach : GoodIn wsX7_density wsX4_reach := goodIn_r _ [6, 7, 8, 9, 10, 11, 12, 13, 14, 15, 16, 17, 18, 19, 20, 35, 36, 37, 38, 39, 40, 41, 42, 43, 44, 45] (by decide +kernel) (by decide +kernel)
set_option maxRecDepth 20000 in
theorem gX7_density_X4_reach : GoodIn wsX7_density (wsV RX7 222 RX4 yX4_reach wsX4_reach) := goodIn_app (goodIn_of _ (by decide +kernel)) ggX7_density_X4_reach
theorem dX7_density_0 : decode cX7_density 0 = .ok (.iconst 2, 1) := by decide +kernel
theorem dX7_density_1 : decode cX7_density 1 = .ok (.aload_n 0, 1) := by decide +kernel
theorem dX7_density_2 : decode cX7_density 2 = .ok (.getfield 12, 3) := by decide +kernel
theorem dX7_density_5 : decode cX7_density 5 = .ok (.invokevirtual 222, 3) := by decide +kernel
theorem dX7_density_8 : decode cX7_density 8 = .ok (.imul, 1) := by decide +kernel
theorem dX7_density_9 : decode cX7_density 9 = .ok (.iconst 1, 1) := by decide +kernel
theorem dX7_density_10 : decode cX7_density 10 = .ok (.iadd, 1) := by decide +kernel
theorem dX7_density_11 : decode cX7_density 11 = .ok (.istore_n 1, 1) := by decide +kernel
theorem dX7_density_12 : decode cX7_density 12 = .ok (.aload_n 0, 1) := by decide +kernel
theorem dX7_density_13 : decode cX7_density 13 = .ok (.getfield 12, 3) := by decide +kernel
theorem dX7_density_16 : decode cX7_density 16 = .ok (.getfield 210, 3) := by decide +kernel
theorem dX7_density_19 : decode cX7_density 19 = .ok (.i2d, 1) := by decide +kernel
theorem dX7_density_20 : decode cX7_density 20 = .ok (.iload_n 1, 1) := by decide +kernel
theorem dX7_density_21 : decode cX7_density 21 = .ok (.iload_n 1, 1) := by decide +kernel
theorem dX7_density_22 : decode cX7_density 22 = .ok (.imul, 1) := by decide +kernel
theorem dX7_density_23 : decode cX7_density 23 = .ok (.i2d, 1) := by decide +kernel
theorem dX7_density_24 : decode cX7_density 24 = .ok (.ddiv, 1) := by decide +kernel
theorem dX7_density_25 : decode cX7_density 25 = .ok (.dreturn, 1) := by decide +kernel
set_option maxRecDepth 20000 in
theorem ggX7_ifGone_X4_refusalToGo : GoodIn wsX7_ifGone wsX4_refusalToGo := goodIn_r _ [7, 8, 9, 10, 11, 12, 13, 14, 15, 16, 17, 6, 18, 19, 87, 88, 89, 90, 91, 92, 93, 94, 95, 96, 97] (by decide +kernel) (by decide +kernel)
set_option maxRecDepth 20000 in
theorem gX7_ifGone_X4_refusalToGo : GoodIn wsX7_ifGone (wsV RX7 88 RX4 yX4_refusalToGo wsX4_refusalToGo) := goodIn_app (goodIn_of _ (by decide +kernel)) ggX7_ifGone_X4_refusalToGo
set_option maxRecDepth 20000 in
theorem ggX7_ifGone_X2_cellOfRim : GoodIn wsX7_ifGone wsX2_cellOfRim := goodIn_r _ [14] (by decide +kernel) (by decide +kernel)
set_option maxRecDepth 20000 in
theorem gX7_ifGone_X2_cellOfRim : GoodIn wsX7_ifGone (va_wsS RX7 249 yX2_cellOfRim wsX2_cellOfRim) := goodIn_app (goodIn_of _ (by decide +kernel)) ggX7_ifGone_X2_cellOfRim
set_option maxRecDepth 20000 in
theorem ggX7_ifGone_X6_walkFrom : GoodIn wsX7_ifGone wsX6_walkFrom := goodIn_r _ [25, 26, 27, 28, 29, 30, 31, 32, 33, 6, 34, 35, 36, 37, 38, 24, 39, 40, 41, 42, 43, 44, 45, 10, 46, 15, 16, 17, 18, 19, 47, 48, 49, 50, 51, 52, 53, 54, 55, 56, 57, 58, 59, 82, 83, 84, 85, 86, 87, 88, 89, 90, 91, 92, 93, 94, 95, 96, 97] (by decide +kernel) (by decide +kernel)
set_option maxRecDepth 20000 in
theorem gX7_ifGone_X6_walkFrom : GoodIn wsX7_ifGone (wsV RX7 252 RX6 yX6_walkFrom wsX6_walkFrom) := goodIn_app (goodIn_of _ (by decide +kernel)) ggX7_ifGone_X6_walkFrom
set_option maxRecDepth 20000 in
theorem ggX7_ifGone_X6_answer : GoodIn wsX7_ifGone wsX6_answer := goodIn_r _ [63, 26, 27, 64, 65, 66, 24, 67, 30, 82, 83, 84, 85, 86] (by decide +kernel) (by decide +kernel)
set_option maxRecDepth 20000 in
theorem gX7_ifGone_X6_answer : GoodIn wsX7_ifGone (wsV RX7 256 RX6 yX6_answer wsX6_answer) := goodIn_app (goodIn_of _ (by decide +kernel)) ggX7_ifGone_X6_answer
theorem dX7_ifGone_0 : decode cX7_ifGone 0 = .ok (.iload_n 2, 1) := by decide +kernel
theorem dX7_ifGone_1 : decode cX7_ifGone 1 = .ok (.ifCond .lt 8, 3) := by decide +kernel
theorem dX7_ifGone_4 : decode cX7_ifGone 4 = .ok (.iload_n 2, 1) := by decide +kernel
theorem dX7_ifGone_5 : decode cX7_ifGone 5 = .ok (.iconst 2, 1) := by decide +kernel
theorem dX7_ifGone_6 : decode cX7_ifGone 6 = .ok (.if_icmp .le 5, 3) := by decide +kernel
theorem dX7_ifGone_9 : decode cX7_ifGone 9 = .ok (.iconst (-1), 1) := by decide +kernel
theorem dX7_ifGone_10 : decode cX7_ifGone 10 = .ok (.ireturn, 1) := by decide +kernel
theorem dX7_ifGone_11 : decode cX7_ifGone 11 = .ok (.aload_n 0, 1) := by decide +kernel
theorem dX7_ifGone_12 : decode cX7_ifGone 12 = .ok (.getfield 12, 3) := by decide +kernel
theorem dX7_ifGone_15 : decode cX7_ifGone 15 = .ok (.iload_n 1, 1) := by decide +kernel
theorem dX7_ifGone_16 : decode cX7_ifGone 16 = .ok (.invokevirtual 88, 3) := by decide +kernel
theorem dX7_ifGone_19 : decode cX7_ifGone 19 = .ok (.istore_n 3, 1) := by decide +kernel
theorem dX7_ifGone_20 : decode cX7_ifGone 20 = .ok (.iload_n 3, 1) := by decide +kernel
theorem dX7_ifGone_21 : decode cX7_ifGone 21 = .ok (.ifCond .eq 5, 3) := by decide +kernel
theorem dX7_ifGone_24 : decode cX7_ifGone 24 = .ok (.iload_n 3, 1) := by decide +kernel
theorem dX7_ifGone_25 : decode cX7_ifGone 25 = .ok (.ireturn, 1) := by decide +kernel
theorem dX7_ifGone_26 : decode cX7_ifGone 26 = .ok (.aload_n 0, 1) := by decide +kernel
theorem dX7_ifGone_27 : decode cX7_ifGone 27 = .ok (.getfield 29, 3) := by decide +kernel
theorem dX7_ifGone_30 : decode cX7_ifGone 30 = .ok (.aload_n 0, 1) := by decide +kernel
theorem dX7_ifGone_31 : decode cX7_ifGone 31 = .ok (.getfield 12, 3) := by decide +kernel
theorem dX7_ifGone_34 : decode cX7_ifGone 34 = .ok (.iload_n 1, 1) := by decide +kernel
theorem dX7_ifGone_35 : decode cX7_ifGone 35 = .ok (.invokestatic 249, 3) := by decide +kernel
theorem dX7_ifGone_38 : decode cX7_ifGone 38 = .ok (.invokevirtual 252, 3) := by decide +kernel
theorem dX7_ifGone_41 : decode cX7_ifGone 41 = .ok (.iload_n 2, 1) := by decide +kernel
theorem dX7_ifGone_42 : decode cX7_ifGone 42 = .ok (.lookupswitch 42 #[(0, 26), (1, 34)], 26) := by decide +kernel
theorem dX7_ifGone_68 : decode cX7_ifGone 68 = .ok (.aload_n 0, 1) := by decide +kernel
theorem dX7_ifGone_69 : decode cX7_ifGone 69 = .ok (.getfield 29, 3) := by decide +kernel
theorem dX7_ifGone_72 : decode cX7_ifGone 72 = .ok (.invokevirtual 256, 3) := by decide +kernel
theorem dX7_ifGone_75 : decode cX7_ifGone 75 = .ok (.ireturn, 1) := by decide +kernel
theorem dX7_ifGone_76 : decode cX7_ifGone 76 = .ok (.aload_n 0, 1) := by decide +kernel
theorem dX7_ifGone_77 : decode cX7_ifGone 77 = .ok (.getfield 29, 3) := by decide +kernel
theorem dX7_ifGone_80 : decode cX7_ifGone 80 = .ok (.getfield 259, 3) := by decide +kernel
theorem dX7_ifGone_83 : decode cX7_ifGone 83 = .ok (.ireturn, 1) := by decide +kernel
theorem dX7_ifGone_84 : decode cX7_ifGone 84 = .ok (.aload_n 0, 1) := by decide +kernel
theorem dX7_ifGone_85 : decode cX7_ifGone 85 = .ok (.getfield 29, 3) := by decide +kernel
theorem dX7_ifGone_88 : decode cX7_ifGone 88 = .ok (.getfield 260, 3) := by decide +kernel
theorem dX7_ifGone_91 : decode cX7_ifGone 91 = .ok (.ireturn, 1) := by decide +kernel
set_option maxRecDepth 20000 in
theorem ggX7_ifBroken_X4_refusalToBreak : GoodIn wsX7_ifBroken wsX4_refusalToBreak := goodIn_r _ [10, 11, 12, 13, 9, 14, 15, 16, 17, 18, 19, 20, 130, 131, 132, 133, 134, 135, 136, 137, 138, 139, 140] (by decide +kernel) (by decide +kernel)
set_option maxRecDepth 20000 in
theorem gX7_ifBroken_X4_refusalToBreak : GoodIn wsX7_ifBroken (wsV RX7 98 RX4 yX4_refusalToBreak wsX4_refusalToBreak) := goodIn_app (goodIn_of _ (by decide +kernel)) ggX7_ifBroken_X4_refusalToBreak
set_option maxRecDepth 20000 in
theorem ggX7_ifBroken_X4_takeOver : GoodIn wsX7_ifBroken wsX4_takeOver := goodIn_r _ [24, 25, 26, 27, 28, 29, 20, 30, 31, 32, 15, 33, 34, 35, 36, 37, 130, 131, 132, 133, 134, 135, 136, 137, 138, 139, 140] (by decide +kernel) (by decide +kernel)
set_option maxRecDepth 20000 in
theorem gX7_ifBroken_X4_takeOver : GoodIn wsX7_ifBroken (wsV RX7 263 RX4 yX4_takeOver wsX4_takeOver) := goodIn_app (goodIn_of _ (by decide +kernel)) ggX7_ifBroken_X4_takeOver
set_option maxRecDepth 20000 in
theorem ggX7_ifBroken_X0_dropTree : GoodIn wsX7_ifBroken wsX0_dropTree := goodIn_r _ [42, 43, 44, 45, 17, 18, 9, 19, 20, 11, 12, 13, 14, 15, 46, 47, 48, 49, 25, 31, 30, 36, 130, 131, 132, 133, 134, 135, 136, 137, 138, 139, 140, 144, 145] (by decide +kernel) (by decide +kernel)
set_option maxRecDepth 20000 in
theorem gX7_ifBroken_X0_dropTree : GoodIn wsX7_ifBroken (wsV RX7 101 RX0 yX0_dropTree wsX0_dropTree) := goodIn_app (goodIn_of _ (by decide +kernel)) ggX7_ifBroken_X0_dropTree
set_option maxRecDepth 20000 in
theorem ggX7_ifBroken_X4_reach : GoodIn wsX7_ifBroken wsX4_reach := goodIn_r _ [53, 15, 25, 54, 55, 56, 57, 58, 59, 60, 61, 62, 63, 64, 65, 130, 131, 132, 133, 134, 135, 136, 137, 138, 139, 140] (by decide +kernel) (by decide +kernel)
set_option maxRecDepth 20000 in
theorem gX7_ifBroken_X4_reach : GoodIn wsX7_ifBroken (wsV RX7 222 RX4 yX4_reach wsX4_reach) := goodIn_app (goodIn_of _ (by decide +kernel)) ggX7_ifBroken_X4_reach
set_option maxRecDepth 20000 in
theorem ggX7_ifBroken_X5_read : GoodIn wsX7_ifBroken wsX5_read := goodIn_r _ [70, 71, 72, 17, 18, 9, 19, 20, 11, 12, 13, 14, 15, 73, 74, 75, 69, 76, 77, 78, 79, 80, 81, 82, 83, 84, 85, 86, 130, 131, 132, 133, 134, 135, 136, 137, 138, 139, 140, 146, 147, 148, 149, 150, 151, 152] (by decide +kernel) (by decide +kernel)
set_option maxRecDepth 20000 in
theorem gX7_ifBroken_X5_read : GoodIn wsX7_ifBroken (wsV RX7 172 RX5 yX5_read wsX5_read) := goodIn_app (goodIn_of _ (by decide +kernel)) ggX7_ifBroken_X5_read
set_option maxRecDepth 20000 in
theorem ggX7_ifBroken_X5_deepest : GoodIn wsX7_ifBroken wsX5_deepest := goodIn_r _ [90, 71, 77, 91, 55, 56, 57, 146, 147, 148, 149, 150, 151, 152] (by decide +kernel) (by decide +kernel)
set_option maxRecDepth 20000 in
theorem gX7_ifBroken_X5_deepest : GoodIn wsX7_ifBroken (wsV RX7 266 RX5 yX5_deepest wsX5_deepest) := goodIn_app (goodIn_of _ (by decide +kernel)) ggX7_ifBroken_X5_deepest
set_option maxRecDepth 20000 in
theorem ggX7_ifBroken_X3_read : GoodIn wsX7_ifBroken wsX3_read := goodIn_r _ [96, 97, 98, 99, 100, 101, 95, 102, 103, 104, 60, 105, 106, 107, 108, 109, 110, 111, 9, 112, 31, 113, 114, 115, 130, 131, 132, 133, 134, 135, 136, 137, 138, 139, 140, 141, 142, 143] (by decide +kernel) (by decide +kernel)
set_option maxRecDepth 20000 in
theorem gX7_ifBroken_X3_read : GoodIn wsX7_ifBroken (wsV RX7 269 RX3 yX3_read wsX3_read) := goodIn_app (goodIn_of _ (by decide +kernel)) ggX7_ifBroken_X3_read
theorem dX7_ifBroken_0 : decode cX7_ifBroken 0 = .ok (.iload_n 2, 1) := by decide +kernel
theorem dX7_ifBroken_1 : decode cX7_ifBroken 1 = .ok (.ifCond .lt 8, 3) := by decide +kernel
theorem dX7_ifBroken_4 : decode cX7_ifBroken 4 = .ok (.iload_n 2, 1) := by decide +kernel
theorem dX7_ifBroken_5 : decode cX7_ifBroken 5 = .ok (.iconst 3, 1) := by decide +kernel
theorem dX7_ifBroken_6 : decode cX7_ifBroken 6 = .ok (.if_icmp .le 5, 3) := by decide +kernel
theorem dX7_ifBroken_9 : decode cX7_ifBroken 9 = .ok (.iconst (-1), 1) := by decide +kernel
theorem dX7_ifBroken_10 : decode cX7_ifBroken 10 = .ok (.ireturn, 1) := by decide +kernel
theorem dX7_ifBroken_11 : decode cX7_ifBroken 11 = .ok (.aload_n 0, 1) := by decide +kernel
theorem dX7_ifBroken_12 : decode cX7_ifBroken 12 = .ok (.getfield 12, 3) := by decide +kernel
theorem dX7_ifBroken_15 : decode cX7_ifBroken 15 = .ok (.iload_n 1, 1) := by decide +kernel
theorem dX7_ifBroken_16 : decode cX7_ifBroken 16 = .ok (.invokevirtual 98, 3) := by decide +kernel
theorem dX7_ifBroken_19 : decode cX7_ifBroken 19 = .ok (.istore_n 3, 1) := by decide +kernel
theorem dX7_ifBroken_20 : decode cX7_ifBroken 20 = .ok (.iload_n 3, 1) := by decide +kernel
theorem dX7_ifBroken_21 : decode cX7_ifBroken 21 = .ok (.ifCond .eq 5, 3) := by decide +kernel
theorem dX7_ifBroken_24 : decode cX7_ifBroken 24 = .ok (.iload_n 3, 1) := by decide +kernel
theorem dX7_ifBroken_25 : decode cX7_ifBroken 25 = .ok (.ireturn, 1) := by decide +kernel
theorem dX7_ifBroken_26 : decode cX7_ifBroken 26 = .ok (.aload_n 0, 1) := by decide +kernel
theorem dX7_ifBroken_27 : decode cX7_ifBroken 27 = .ok (.getfield 19, 3) := by decide +kernel
theorem dX7_ifBroken_30 : decode cX7_ifBroken 30 = .ok (.aload_n 0, 1) := by decide +kernel
theorem dX7_ifBroken_31 : decode cX7_ifBroken 31 = .ok (.getfield 12, 3) := by decide +kernel
theorem dX7_ifBroken_34 : decode cX7_ifBroken 34 = .ok (.invokevirtual 263, 3) := by decide +kernel
theorem dX7_ifBroken_37 : decode cX7_ifBroken 37 = .ok (.aload_n 0, 1) := by decide +kernel
theorem dX7_ifBroken_38 : decode cX7_ifBroken 38 = .ok (.getfield 36, 3) := by decide +kernel
theorem dX7_ifBroken_41 : decode cX7_ifBroken 41 = .ok (.aload_n 0, 1) := by decide +kernel
theorem dX7_ifBroken_42 : decode cX7_ifBroken 42 = .ok (.getfield 19, 3) := by decide +kernel
theorem dX7_ifBroken_45 : decode cX7_ifBroken 45 = .ok (.iload_n 1, 1) := by decide +kernel
theorem dX7_ifBroken_46 : decode cX7_ifBroken 46 = .ok (.invokevirtual 101, 3) := by decide +kernel
theorem dX7_ifBroken_49 : decode cX7_ifBroken 49 = .ok (.pop, 1) := by decide +kernel
theorem dX7_ifBroken_50 : decode cX7_ifBroken 50 = .ok (.iload_n 2, 1) := by decide +kernel
theorem dX7_ifBroken_51 : decode cX7_ifBroken 51 = .ok (.tableswitch 60 0 2 #[25, 33, 41], 25) := by decide +kernel
theorem dX7_ifBroken_76 : decode cX7_ifBroken 76 = .ok (.aload_n 0, 1) := by decide +kernel
theorem dX7_ifBroken_77 : decode cX7_ifBroken 77 = .ok (.getfield 19, 3) := by decide +kernel
theorem dX7_ifBroken_80 : decode cX7_ifBroken 80 = .ok (.getfield 210, 3) := by decide +kernel
theorem dX7_ifBroken_83 : decode cX7_ifBroken 83 = .ok (.ireturn, 1) := by decide +kernel
theorem dX7_ifBroken_84 : decode cX7_ifBroken 84 = .ok (.aload_n 0, 1) := by decide +kernel
theorem dX7_ifBroken_85 : decode cX7_ifBroken 85 = .ok (.getfield 19, 3) := by decide +kernel
theorem dX7_ifBroken_88 : decode cX7_ifBroken 88 = .ok (.invokevirtual 222, 3) := by decide +kernel
theorem dX7_ifBroken_91 : decode cX7_ifBroken 91 = .ok (.ireturn, 1) := by decide +kernel
theorem dX7_ifBroken_92 : decode cX7_ifBroken 92 = .ok (.aload_n 0, 1) := by decide +kernel
theorem dX7_ifBroken_93 : decode cX7_ifBroken 93 = .ok (.getfield 43, 3) := by decide +kernel
theorem dX7_ifBroken_96 : decode cX7_ifBroken 96 = .ok (.aload_n 0, 1) := by decide +kernel
theorem dX7_ifBroken_97 : decode cX7_ifBroken 97 = .ok (.getfield 19, 3) := by decide +kernel
theorem dX7_ifBroken_100 : decode cX7_ifBroken 100 = .ok (.invokevirtual 172, 3) := by decide +kernel
theorem dX7_ifBroken_103 : decode cX7_ifBroken 103 = .ok (.aload_n 0, 1) := by decide +kernel
theorem dX7_ifBroken_104 : decode cX7_ifBroken 104 = .ok (.getfield 43, 3) := by decide +kernel
theorem dX7_ifBroken_107 : decode cX7_ifBroken 107 = .ok (.invokevirtual 266, 3) := by decide +kernel
theorem dX7_ifBroken_110 : decode cX7_ifBroken 110 = .ok (.ireturn, 1) := by decide +kernel
theorem dX7_ifBroken_111 : decode cX7_ifBroken 111 = .ok (.aload_n 0, 1) := by decide +kernel
theorem dX7_ifBroken_112 : decode cX7_ifBroken 112 = .ok (.getfield 50, 3) := by decide +kernel
theorem dX7_ifBroken_115 : decode cX7_ifBroken 115 = .ok (.aload_n 0, 1) := by decide +kernel
theorem dX7_ifBroken_116 : decode cX7_ifBroken 116 = .ok (.getfield 19, 3) := by decide +kernel
theorem dX7_ifBroken_119 : decode cX7_ifBroken 119 = .ok (.invokevirtual 269, 3) := by decide +kernel
theorem dX7_ifBroken_122 : decode cX7_ifBroken 122 = .ok (.aload_n 0, 1) := by decide +kernel
theorem dX7_ifBroken_123 : decode cX7_ifBroken 123 = .ok (.getfield 50, 3) := by decide +kernel
theorem dX7_ifBroken_126 : decode cX7_ifBroken 126 = .ok (.getfield 270, 3) := by decide +kernel
theorem dX7_ifBroken_129 : decode cX7_ifBroken 129 = .ok (.ireturn, 1) := by decide +kernel
set_option maxRecDepth 20000 in
theorem ggX7_undo_X4_takeOver : GoodIn wsX7_undo wsX4_takeOver := goodIn_r _ [8, 9, 10, 11, 12, 13, 14, 15, 16, 17, 18, 19, 20, 21, 22, 23, 38, 39, 40, 41, 42, 43, 44, 45, 46, 47, 48] (by decide +kernel) (by decide +kernel)
set_option maxRecDepth 20000 in
theorem gX7_undo_X4_takeOver : GoodIn wsX7_undo (wsV RX7 263 RX4 yX4_takeOver wsX4_takeOver) := goodIn_app (goodIn_of _ (by decide +kernel)) ggX7_undo_X4_takeOver
theorem dX7_undo_0 : decode cX7_undo 0 = .ok (.aload_n 0, 1) := by decide +kernel
theorem dX7_undo_1 : decode cX7_undo 1 = .ok (.getfield 61, 3) := by decide +kernel
theorem dX7_undo_4 : decode cX7_undo 4 = .ok (.iconst 1, 1) := by decide +kernel
theorem dX7_undo_5 : decode cX7_undo 5 = .ok (.if_icmp .ge 6, 3) := by decide +kernel
theorem dX7_undo_8 : decode cX7_undo 8 = .ok (.bipush (-2), 2) := by decide +kernel
theorem dX7_undo_10 : decode cX7_undo 10 = .ok (.ireturn, 1) := by decide +kernel
theorem dX7_undo_11 : decode cX7_undo 11 = .ok (.aload_n 0, 1) := by decide +kernel
theorem dX7_undo_12 : decode cX7_undo 12 = .ok (.dup, 1) := by decide +kernel
theorem dX7_undo_13 : decode cX7_undo 13 = .ok (.getfield 61, 3) := by decide +kernel
theorem dX7_undo_16 : decode cX7_undo 16 = .ok (.iconst 1, 1) := by decide +kernel
theorem dX7_undo_17 : decode cX7_undo 17 = .ok (.isub, 1) := by decide +kernel
theorem dX7_undo_18 : decode cX7_undo 18 = .ok (.putfield 61, 3) := by decide +kernel
theorem dX7_undo_21 : decode cX7_undo 21 = .ok (.aload_n 0, 1) := by decide +kernel
theorem dX7_undo_22 : decode cX7_undo 22 = .ok (.getfield 12, 3) := by decide +kernel
theorem dX7_undo_25 : decode cX7_undo 25 = .ok (.aload_n 0, 1) := by decide +kernel
theorem dX7_undo_26 : decode cX7_undo 26 = .ok (.getfield 22, 3) := by decide +kernel
theorem dX7_undo_29 : decode cX7_undo 29 = .ok (.aload_n 0, 1) := by decide +kernel
theorem dX7_undo_30 : decode cX7_undo 30 = .ok (.getfield 61, 3) := by decide +kernel
theorem dX7_undo_33 : decode cX7_undo 33 = .ok (.aaload, 1) := by decide +kernel
theorem dX7_undo_34 : decode cX7_undo 34 = .ok (.invokevirtual 263, 3) := by decide +kernel
theorem dX7_undo_37 : decode cX7_undo 37 = .ok (.aload_n 0, 1) := by decide +kernel
theorem dX7_undo_38 : decode cX7_undo 38 = .ok (.getfield 61, 3) := by decide +kernel
theorem dX7_undo_41 : decode cX7_undo 41 = .ok (.ireturn, 1) := by decide +kernel
set_option maxRecDepth 20000 in
theorem ggX7_save_X4_takeOver : GoodIn wsX7_save wsX4_takeOver := goodIn_r _ [8, 9, 10, 11, 12, 13, 14, 15, 16, 17, 18, 19, 20, 21, 22, 23, 38, 39, 40, 41, 42, 43, 44, 45, 46, 47, 48] (by decide +kernel) (by decide +kernel)
set_option maxRecDepth 20000 in
theorem gX7_save_X4_takeOver : GoodIn wsX7_save (wsV RX7 263 RX4 yX4_takeOver wsX4_takeOver) := goodIn_app (goodIn_of _ (by decide +kernel)) ggX7_save_X4_takeOver
theorem dX7_save_0 : decode cX7_save 0 = .ok (.aload_n 0, 1) := by decide +kernel
theorem dX7_save_1 : decode cX7_save 1 = .ok (.getfield 16, 3) := by decide +kernel
theorem dX7_save_4 : decode cX7_save 4 = .ok (.aload_n 0, 1) := by decide +kernel
theorem dX7_save_5 : decode cX7_save 5 = .ok (.getfield 12, 3) := by decide +kernel
theorem dX7_save_8 : decode cX7_save 8 = .ok (.invokevirtual 263, 3) := by decide +kernel
theorem dX7_save_11 : decode cX7_save 11 = .ok (.aload_n 0, 1) := by decide +kernel
theorem dX7_save_12 : decode cX7_save 12 = .ok (.iconst 1, 1) := by decide +kernel
theorem dX7_save_13 : decode cX7_save 13 = .ok (.putfield 65, 3) := by decide +kernel
theorem dX7_save_16 : decode cX7_save 16 = .ok (.aload_n 0, 1) := by decide +kernel
theorem dX7_save_17 : decode cX7_save 17 = .ok (.getfield 12, 3) := by decide +kernel
theorem dX7_save_20 : decode cX7_save 20 = .ok (.getfield 210, 3) := by decide +kernel
theorem dX7_save_23 : decode cX7_save 23 = .ok (.ireturn, 1) := by decide +kernel
set_option maxRecDepth 20000 in
theorem ggX7_restore_X7_record : GoodIn wsX7_restore wsX7_record := goodIn_r _ [8, 9, 10, 2, 11, 12, 13, 7, 14, 15, 16, 17, 18, 19, 20, 21, 22, 23, 24, 25, 26, 27, 28, 29, 30, 31, 32, 33, 34, 35, 36, 37, 38, 39, 40, 41, 42, 43, 44, 45, 46, 47, 48, 49, 50, 51, 52, 53, 54, 55, 56, 57, 58, 59] (by decide +kernel) (by decide +kernel)
set_option maxRecDepth 20000 in
theorem gX7_restore_X7_record : GoodIn wsX7_restore (wsV RX7 82 RX7 yX7_record wsX7_record) := goodIn_app (goodIn_of _ (by decide +kernel)) ggX7_restore_X7_record
set_option maxRecDepth 20000 in
theorem ggX7_restore_X4_takeOver : GoodIn wsX7_restore wsX4_takeOver := goodIn_r _ [19, 20, 21, 22, 23, 24, 25, 26, 27, 28, 29, 30, 31, 32, 33, 34, 49, 50, 51, 52, 53, 54, 55, 56, 57, 58, 59] (by decide +kernel) (by decide +kernel)
set_option maxRecDepth 20000 in
theorem gX7_restore_X4_takeOver : GoodIn wsX7_restore (wsV RX7 263 RX4 yX4_takeOver wsX4_takeOver) := goodIn_app (goodIn_of _ (by decide +kernel)) ggX7_restore_X4_takeOver
theorem dX7_restore_0 : decode cX7_restore 0 = .ok (.aload_n 0, 1) := by decide +kernel
theorem dX7_restore_1 : decode cX7_restore 1 = .ok (.getfield 65, 3) := by decide +kernel
theorem dX7_restore_4 : decode cX7_restore 4 = .ok (.ifCond .ne 6, 3) := by decide +kernel
theorem dX7_restore_7 : decode cX7_restore 7 = .ok (.bipush (-2), 2) := by decide +kernel
theorem dX7_restore_9 : decode cX7_restore 9 = .ok (.ireturn, 1) := by decide +kernel
theorem dX7_restore_10 : decode cX7_restore 10 = .ok (.aload_n 0, 1) := by decide +kernel
theorem dX7_restore_11 : decode cX7_restore 11 = .ok (.invokevirtual 82, 3) := by decide +kernel
theorem dX7_restore_14 : decode cX7_restore 14 = .ok (.aload_n 0, 1) := by decide +kernel
theorem dX7_restore_15 : decode cX7_restore 15 = .ok (.getfield 12, 3) := by decide +kernel
theorem dX7_restore_18 : decode cX7_restore 18 = .ok (.aload_n 0, 1) := by decide +kernel
theorem dX7_restore_19 : decode cX7_restore 19 = .ok (.getfield 16, 3) := by decide +kernel
theorem dX7_restore_22 : decode cX7_restore 22 = .ok (.invokevirtual 263, 3) := by decide +kernel
theorem dX7_restore_25 : decode cX7_restore 25 = .ok (.aload_n 0, 1) := by decide +kernel
theorem dX7_restore_26 : decode cX7_restore 26 = .ok (.getfield 12, 3) := by decide +kernel
theorem dX7_restore_29 : decode cX7_restore 29 = .ok (.getfield 210, 3) := by decide +kernel
theorem dX7_restore_32 : decode cX7_restore 32 = .ok (.ireturn, 1) := by decide +kernel
set_option maxRecDepth 20000 in
theorem ggX7_record_X7_dropOldest : GoodIn wsX7_record wsX7_dropOldest := goodIn_r _ [8, 2, 1, 29, 30, 31, 32, 33, 34, 35, 36, 37, 38, 39, 40, 41, 42] (by decide +kernel) (by decide +kernel)
set_option maxRecDepth 20000 in
theorem gX7_record_X7_dropOldest : GoodIn wsX7_record (wsV RX7 273 RX7 yX7_dropOldest wsX7_dropOldest) := goodIn_app (goodIn_of _ (by decide +kernel)) ggX7_record_X7_dropOldest
set_option maxRecDepth 20000 in
theorem ggX7_record_X4_takeOver : GoodIn wsX7_record wsX4_takeOver := goodIn_r _ [13, 14, 15, 16, 17, 18, 19, 20, 21, 22, 23, 24, 25, 26, 27, 28, 43, 44, 45, 46, 47, 48, 49, 50, 51, 52, 53] (by decide +kernel) (by decide +kernel)
set_option maxRecDepth 20000 in
theorem gX7_record_X4_takeOver : GoodIn wsX7_record (wsV RX7 263 RX4 yX4_takeOver wsX4_takeOver) := goodIn_app (goodIn_of _ (by decide +kernel)) ggX7_record_X4_takeOver
theorem dX7_record_0 : decode cX7_record 0 = .ok (.aload_n 0, 1) := by decide +kernel
theorem dX7_record_1 : decode cX7_record 1 = .ok (.getfield 61, 3) := by decide +kernel
theorem dX7_record_4 : decode cX7_record 4 = .ok (.aload_n 0, 1) := by decide +kernel
theorem dX7_record_5 : decode cX7_record 5 = .ok (.getfield 22, 3) := by decide +kernel
theorem dX7_record_8 : decode cX7_record 8 = .ok (.arraylength, 1) := by decide +kernel
theorem dX7_record_9 : decode cX7_record 9 = .ok (.if_icmp .lt 7, 3) := by decide +kernel
theorem dX7_record_12 : decode cX7_record 12 = .ok (.aload_n 0, 1) := by decide +kernel
theorem dX7_record_13 : decode cX7_record 13 = .ok (.invokevirtual 273, 3) := by decide +kernel
theorem dX7_record_16 : decode cX7_record 16 = .ok (.aload_n 0, 1) := by decide +kernel
theorem dX7_record_17 : decode cX7_record 17 = .ok (.getfield 22, 3) := by decide +kernel
theorem dX7_record_20 : decode cX7_record 20 = .ok (.aload_n 0, 1) := by decide +kernel
theorem dX7_record_21 : decode cX7_record 21 = .ok (.getfield 61, 3) := by decide +kernel
theorem dX7_record_24 : decode cX7_record 24 = .ok (.aaload, 1) := by decide +kernel
theorem dX7_record_25 : decode cX7_record 25 = .ok (.aload_n 0, 1) := by decide +kernel
theorem dX7_record_26 : decode cX7_record 26 = .ok (.getfield 12, 3) := by decide +kernel
theorem dX7_record_29 : decode cX7_record 29 = .ok (.invokevirtual 263, 3) := by decide +kernel
theorem dX7_record_32 : decode cX7_record 32 = .ok (.aload_n 0, 1) := by decide +kernel
theorem dX7_record_33 : decode cX7_record 33 = .ok (.dup, 1) := by decide +kernel
theorem dX7_record_34 : decode cX7_record 34 = .ok (.getfield 61, 3) := by decide +kernel
theorem dX7_record_37 : decode cX7_record 37 = .ok (.iconst 1, 1) := by decide +kernel
theorem dX7_record_38 : decode cX7_record 38 = .ok (.iadd, 1) := by decide +kernel
theorem dX7_record_39 : decode cX7_record 39 = .ok (.putfield 61, 3) := by decide +kernel
theorem dX7_record_42 : decode cX7_record 42 = .ok (.return_, 1) := by decide +kernel
theorem dX7_dropOldest_0 : decode cX7_dropOldest 0 = .ok (.aload_n 0, 1) := by decide +kernel
theorem dX7_dropOldest_1 : decode cX7_dropOldest 1 = .ok (.getfield 22, 3) := by decide +kernel
theorem dX7_dropOldest_4 : decode cX7_dropOldest 4 = .ok (.iconst 0, 1) := by decide +kernel
theorem dX7_dropOldest_5 : decode cX7_dropOldest 5 = .ok (.aaload, 1) := by decide +kernel
theorem dX7_dropOldest_6 : decode cX7_dropOldest 6 = .ok (.astore_n 1, 1) := by decide +kernel
theorem dX7_dropOldest_7 : decode cX7_dropOldest 7 = .ok (.iconst 1, 1) := by decide +kernel
theorem dX7_dropOldest_8 : decode cX7_dropOldest 8 = .ok (.istore_n 2, 1) := by decide +kernel
theorem dX7_dropOldest_9 : decode cX7_dropOldest 9 = .ok (.iload_n 2, 1) := by decide +kernel
theorem dX7_dropOldest_10 : decode cX7_dropOldest 10 = .ok (.aload_n 0, 1) := by decide +kernel
theorem dX7_dropOldest_11 : decode cX7_dropOldest 11 = .ok (.getfield 22, 3) := by decide +kernel
theorem dX7_dropOldest_14 : decode cX7_dropOldest 14 = .ok (.arraylength, 1) := by decide +kernel
theorem dX7_dropOldest_15 : decode cX7_dropOldest 15 = .ok (.if_icmp .ge 23, 3) := by decide +kernel
theorem dX7_dropOldest_18 : decode cX7_dropOldest 18 = .ok (.aload_n 0, 1) := by decide +kernel
theorem dX7_dropOldest_19 : decode cX7_dropOldest 19 = .ok (.getfield 22, 3) := by decide +kernel
theorem dX7_dropOldest_22 : decode cX7_dropOldest 22 = .ok (.iload_n 2, 1) := by decide +kernel
theorem dX7_dropOldest_23 : decode cX7_dropOldest 23 = .ok (.iconst 1, 1) := by decide +kernel
theorem dX7_dropOldest_24 : decode cX7_dropOldest 24 = .ok (.isub, 1) := by decide +kernel
theorem dX7_dropOldest_25 : decode cX7_dropOldest 25 = .ok (.aload_n 0, 1) := by decide +kernel
theorem dX7_dropOldest_26 : decode cX7_dropOldest 26 = .ok (.getfield 22, 3) := by decide +kernel
theorem dX7_dropOldest_29 : decode cX7_dropOldest 29 = .ok (.iload_n 2, 1) := by decide +kernel
theorem dX7_dropOldest_30 : decode cX7_dropOldest 30 = .ok (.aaload, 1) := by decide +kernel
theorem dX7_dropOldest_31 : decode cX7_dropOldest 31 = .ok (.aastore, 1) := by decide +kernel
theorem dX7_dropOldest_32 : decode cX7_dropOldest 32 = .ok (.iinc 2 1, 3) := by decide +kernel
theorem dX7_dropOldest_35 : decode cX7_dropOldest 35 = .ok (.goto (-26), 3) := by decide +kernel
theorem dX7_dropOldest_38 : decode cX7_dropOldest 38 = .ok (.aload_n 0, 1) := by decide +kernel
theorem dX7_dropOldest_39 : decode cX7_dropOldest 39 = .ok (.getfield 22, 3) := by decide +kernel
theorem dX7_dropOldest_42 : decode cX7_dropOldest 42 = .ok (.aload_n 0, 1) := by decide +kernel
theorem dX7_dropOldest_43 : decode cX7_dropOldest 43 = .ok (.getfield 22, 3) := by decide +kernel
theorem dX7_dropOldest_46 : decode cX7_dropOldest 46 = .ok (.arraylength, 1) := by decide +kernel
theorem dX7_dropOldest_47 : decode cX7_dropOldest 47 = .ok (.iconst 1, 1) := by decide +kernel
theorem dX7_dropOldest_48 : decode cX7_dropOldest 48 = .ok (.isub, 1) := by decide +kernel
theorem dX7_dropOldest_49 : decode cX7_dropOldest 49 = .ok (.aload_n 1, 1) := by decide +kernel
theorem dX7_dropOldest_50 : decode cX7_dropOldest 50 = .ok (.aastore, 1) := by decide +kernel
theorem dX7_dropOldest_51 : decode cX7_dropOldest 51 = .ok (.aload_n 0, 1) := by decide +kernel
theorem dX7_dropOldest_52 : decode cX7_dropOldest 52 = .ok (.aload_n 0, 1) := by decide +kernel
theorem dX7_dropOldest_53 : decode cX7_dropOldest 53 = .ok (.getfield 22, 3) := by decide +kernel
theorem dX7_dropOldest_56 : decode cX7_dropOldest 56 = .ok (.arraylength, 1) := by decide +kernel
theorem dX7_dropOldest_57 : decode cX7_dropOldest 57 = .ok (.iconst 1, 1) := by decide +kernel
theorem dX7_dropOldest_58 : decode cX7_dropOldest 58 = .ok (.isub, 1) := by decide +kernel
theorem dX7_dropOldest_59 : decode cX7_dropOldest 59 = .ok (.putfield 61, 3) := by decide +kernel
theorem dX7_dropOldest_62 : decode cX7_dropOldest 62 = .ok (.return_, 1) := by decide +kernel
set_option maxRecDepth 20000 in
theorem ggX7_letWalk_X2_cellOfRim : GoodIn wsX7_letWalk wsX2_cellOfRim := goodIn_r _ [6] (by decide +kernel) (by decide +kernel)
set_option maxRecDepth 20000 in
theorem gX7_letWalk_X2_cellOfRim : GoodIn wsX7_letWalk (va_wsS RX7 249 yX2_cellOfRim wsX2_cellOfRim) := goodIn_app (goodIn_of _ (by decide +kernel)) ggX7_letWalk_X2_cellOfRim
set_option maxRecDepth 20000 in
theorem ggX7_letWalk_X6_walkFrom : GoodIn wsX7_letWalk wsX6_walkFrom := goodIn_r _ [11, 12, 13, 14, 15, 16, 17, 18, 19, 20, 21, 22, 23, 24, 25, 10, 26, 27, 28, 29, 30, 31, 32, 5, 33, 34, 35, 36, 37, 38, 39, 40, 41, 42, 43, 44, 45, 46, 47, 48, 49, 50, 51, 94, 95, 96, 97, 98, 99, 100, 101, 102, 103, 104, 105, 106, 107, 108, 109] (by decide +kernel) (by decide +kernel)
set_option maxRecDepth 20000 in
theorem gX7_letWalk_X6_walkFrom : GoodIn wsX7_letWalk (wsV RX7 252 RX6 yX6_walkFrom wsX6_walkFrom) := goodIn_app (goodIn_of _ (by decide +kernel)) ggX7_letWalk_X6_walkFrom
set_option maxRecDepth 20000 in
theorem ggX7_letWalk_X4_settle : GoodIn wsX7_letWalk wsX4_settle := goodIn_r _ [55, 56, 57, 58, 59, 60, 61, 62, 10, 63, 16, 64, 65, 66, 20, 67, 68, 69, 70, 71, 38, 72, 73, 5, 74, 94, 95, 96, 97, 98, 99, 100, 101, 102, 103, 104, 105, 106, 107, 108, 109] (by decide +kernel) (by decide +kernel)
set_option maxRecDepth 20000 in
theorem gX7_letWalk_X4_settle : GoodIn wsX7_letWalk (wsV RX7 276 RX4 yX4_settle wsX4_settle) := goodIn_app (goodIn_of _ (by decide +kernel)) ggX7_letWalk_X4_settle
set_option maxRecDepth 20000 in
theorem ggX7_letWalk_X6_answer : GoodIn wsX7_letWalk wsX6_answer := goodIn_r _ [78, 12, 13, 79, 61, 62, 10, 63, 16, 94, 95, 96, 97, 98] (by decide +kernel) (by decide +kernel)
set_option maxRecDepth 20000 in
theorem gX7_letWalk_X6_answer : GoodIn wsX7_letWalk (wsV RX7 256 RX6 yX6_answer wsX6_answer) := goodIn_app (goodIn_of _ (by decide +kernel)) ggX7_letWalk_X6_answer
theorem dX7_letWalk_0 : decode cX7_letWalk 0 = .ok (.aload_n 0, 1) := by decide +kernel
theorem dX7_letWalk_1 : decode cX7_letWalk 1 = .ok (.getfield 29, 3) := by decide +kernel
theorem dX7_letWalk_4 : decode cX7_letWalk 4 = .ok (.aload_n 0, 1) := by decide +kernel
theorem dX7_letWalk_5 : decode cX7_letWalk 5 = .ok (.getfield 12, 3) := by decide +kernel
theorem dX7_letWalk_8 : decode cX7_letWalk 8 = .ok (.iload_n 1, 1) := by decide +kernel
theorem dX7_letWalk_9 : decode cX7_letWalk 9 = .ok (.invokestatic 249, 3) := by decide +kernel
theorem dX7_letWalk_12 : decode cX7_letWalk 12 = .ok (.invokevirtual 252, 3) := by decide +kernel
theorem dX7_letWalk_15 : decode cX7_letWalk 15 = .ok (.aload_n 0, 1) := by decide +kernel
theorem dX7_letWalk_16 : decode cX7_letWalk 16 = .ok (.getfield 12, 3) := by decide +kernel
theorem dX7_letWalk_19 : decode cX7_letWalk 19 = .ok (.aload_n 0, 1) := by decide +kernel
theorem dX7_letWalk_20 : decode cX7_letWalk 20 = .ok (.getfield 29, 3) := by decide +kernel
theorem dX7_letWalk_23 : decode cX7_letWalk 23 = .ok (.invokevirtual 276, 3) := by decide +kernel
theorem dX7_letWalk_26 : decode cX7_letWalk 26 = .ok (.aload_n 0, 1) := by decide +kernel
theorem dX7_letWalk_27 : decode cX7_letWalk 27 = .ok (.getfield 29, 3) := by decide +kernel
theorem dX7_letWalk_30 : decode cX7_letWalk 30 = .ok (.invokevirtual 256, 3) := by decide +kernel
theorem dX7_letWalk_33 : decode cX7_letWalk 33 = .ok (.ireturn, 1) := by decide +kernel
set_option maxRecDepth 20000 in
theorem ggX7_dropSticks_X7_nextLot : GoodIn wsX7_dropSticks wsX7_nextLot := goodIn_r _ [6] (by decide +kernel) (by decide +kernel)
set_option maxRecDepth 20000 in
theorem gX7_dropSticks_X7_nextLot : GoodIn wsX7_dropSticks (va_wsS RX7 280 yX7_nextLot wsX7_nextLot) := goodIn_app (goodIn_of _ (by decide +kernel)) ggX7_dropSticks_X7_nextLot
set_option maxRecDepth 20000 in
theorem ggX7_dropSticks_X4_refusalToGo : GoodIn wsX7_dropSticks wsX4_refusalToGo := goodIn_r _ [11, 12, 13, 14, 15, 16, 17, 18, 19, 20, 21, 10, 22, 23, 112, 113, 114, 115, 116, 117, 118, 119, 120, 121, 122] (by decide +kernel) (by decide +kernel)
set_option maxRecDepth 20000 in
theorem gX7_dropSticks_X4_refusalToGo : GoodIn wsX7_dropSticks (wsV RX7 88 RX4 yX4_refusalToGo wsX4_refusalToGo) := goodIn_app (goodIn_of _ (by decide +kernel)) ggX7_dropSticks_X4_refusalToGo
set_option maxRecDepth 20000 in
theorem ggX7_dropSticks_X4_loseAtOnce : GoodIn wsX7_dropSticks wsX4_loseAtOnce := goodIn_r _ [27, 28, 29, 112, 113, 114, 115, 116, 117, 118, 119, 120, 121, 122] (by decide +kernel) (by decide +kernel)
set_option maxRecDepth 20000 in
theorem gX7_dropSticks_X4_loseAtOnce : GoodIn wsX7_dropSticks (wsV RX7 283 RX4 yX4_loseAtOnce wsX4_loseAtOnce) := goodIn_app (goodIn_of _ (by decide +kernel)) ggX7_dropSticks_X4_loseAtOnce
set_option maxRecDepth 20000 in
theorem ggX7_dropSticks_X7_letWalk : GoodIn wsX7_dropSticks wsX7_letWalk := goodIn_r _ [33, 2, 1, 34, 17, 14, 18, 35, 36, 37, 38, 39, 40, 41, 42, 43, 44, 45, 46, 47, 10, 48, 49, 50, 51, 52, 53, 54, 55, 56, 57, 58, 59, 60, 19, 20, 21, 22, 23, 61, 62, 63, 64, 4, 5, 6, 65, 66, 67, 68, 69, 70, 71, 72, 73, 74, 75, 28, 76, 29, 77, 78, 79, 80, 81, 82, 83, 84, 85, 86, 87, 88, 89, 90, 91, 92, 93, 94, 95, 96, 98, 99, 100, 101, 102, 103, 104, 105, 106, 107, 108, 109, 110, 111, 123, 124, 125, 126, 127, 112, 113, 114, 115, 116, 117, 118, 119, 120, 121, 122] (by decide +kernel) (by decide +kernel)
set_option maxRecDepth 20000 in
theorem gX7_dropSticks_X7_letWalk : GoodIn wsX7_dropSticks (wsV RX7 91 RX7 yX7_letWalk wsX7_letWalk) := goodIn_app (goodIn_of _ (by decide +kernel)) ggX7_dropSticks_X7_letWalk
set_option maxRecDepth 20000 in
theorem ggX7_dropSticks_X6_sticks : GoodIn wsX7_dropSticks wsX6_sticks := goodIn_r _ [80, 44, 123, 124, 125, 126, 127] (by decide +kernel) (by decide +kernel)
set_option maxRecDepth 20000 in
theorem gX7_dropSticks_X6_sticks : GoodIn wsX7_dropSticks (wsV RX7 286 RX6 yX6_sticks wsX6_sticks) := goodIn_app (goodIn_of _ (by decide +kernel)) ggX7_dropSticks_X6_sticks
theorem dX7_dropSticks_0 : decode cX7_dropSticks 0 = .ok (.aload_n 0, 1) := by decide +kernel
theorem dX7_dropSticks_1 : decode cX7_dropSticks 1 = .ok (.getfield 12, 3) := by decide +kernel
theorem dX7_dropSticks_4 : decode cX7_dropSticks 4 = .ok (.aload_n 0, 1) := by decide +kernel
theorem dX7_dropSticks_5 : decode cX7_dropSticks 5 = .ok (.getfield 12, 3) := by decide +kernel
theorem dX7_dropSticks_8 : decode cX7_dropSticks 8 = .ok (.getfield 85, 3) := by decide +kernel
theorem dX7_dropSticks_11 : decode cX7_dropSticks 11 = .ok (.invokestatic 280, 3) := by decide +kernel
theorem dX7_dropSticks_14 : decode cX7_dropSticks 14 = .ok (.putfield 85, 3) := by decide +kernel
theorem dX7_dropSticks_17 : decode cX7_dropSticks 17 = .ok (.aload_n 0, 1) := by decide +kernel
theorem dX7_dropSticks_18 : decode cX7_dropSticks 18 = .ok (.getfield 12, 3) := by decide +kernel
theorem dX7_dropSticks_21 : decode cX7_dropSticks 21 = .ok (.getfield 85, 3) := by decide +kernel
theorem dX7_dropSticks_24 : decode cX7_dropSticks 24 = .ok (.bipush 40, 2) := by decide +kernel
theorem dX7_dropSticks_26 : decode cX7_dropSticks 26 = .ok (.irem, 1) := by decide +kernel
theorem dX7_dropSticks_27 : decode cX7_dropSticks 27 = .ok (.istore_n 1, 1) := by decide +kernel
theorem dX7_dropSticks_28 : decode cX7_dropSticks 28 = .ok (.aload_n 0, 1) := by decide +kernel
theorem dX7_dropSticks_29 : decode cX7_dropSticks 29 = .ok (.getfield 12, 3) := by decide +kernel
theorem dX7_dropSticks_32 : decode cX7_dropSticks 32 = .ok (.iload_n 1, 1) := by decide +kernel
theorem dX7_dropSticks_33 : decode cX7_dropSticks 33 = .ok (.invokevirtual 88, 3) := by decide +kernel
theorem dX7_dropSticks_36 : decode cX7_dropSticks 36 = .ok (.ifCond .eq 12, 3) := by decide +kernel
theorem dX7_dropSticks_39 : decode cX7_dropSticks 39 = .ok (.aload_n 0, 1) := by decide +kernel
theorem dX7_dropSticks_40 : decode cX7_dropSticks 40 = .ok (.getfield 12, 3) := by decide +kernel
theorem dX7_dropSticks_43 : decode cX7_dropSticks 43 = .ok (.invokevirtual 283, 3) := by decide +kernel
theorem dX7_dropSticks_46 : decode cX7_dropSticks 46 = .ok (.iconst 0, 1) := by decide +kernel
theorem dX7_dropSticks_47 : decode cX7_dropSticks 47 = .ok (.ireturn, 1) := by decide +kernel
theorem dX7_dropSticks_48 : decode cX7_dropSticks 48 = .ok (.aload_n 0, 1) := by decide +kernel
theorem dX7_dropSticks_49 : decode cX7_dropSticks 49 = .ok (.iload_n 1, 1) := by decide +kernel
theorem dX7_dropSticks_50 : decode cX7_dropSticks 50 = .ok (.invokevirtual 91, 3) := by decide +kernel
theorem dX7_dropSticks_53 : decode cX7_dropSticks 53 = .ok (.pop, 1) := by decide +kernel
theorem dX7_dropSticks_54 : decode cX7_dropSticks 54 = .ok (.aload_n 0, 1) := by decide +kernel
theorem dX7_dropSticks_55 : decode cX7_dropSticks 55 = .ok (.getfield 29, 3) := by decide +kernel
theorem dX7_dropSticks_58 : decode cX7_dropSticks 58 = .ok (.invokevirtual 286, 3) := by decide +kernel
theorem dX7_dropSticks_61 : decode cX7_dropSticks 61 = .ok (.ireturn, 1) := by decide +kernel
set_option maxRecDepth 20000 in
theorem ggX7_answerOfDeed_X0_dropTips : GoodIn wsX7_answerOfDeed wsX0_dropTips := goodIn_r _ [7, 8, 9, 10, 11, 12, 13, 14, 15, 16, 17, 18, 19, 20, 21, 22, 23, 24, 25, 26, 27, 28, 136, 137, 138, 139, 140, 141, 142, 143, 144, 145, 146, 147, 148] (by decide +kernel) (by decide +kernel)
set_option maxRecDepth 20000 in
theorem gX7_answerOfDeed_X0_dropTips : GoodIn wsX7_answerOfDeed (wsV RX7 105 RX0 yX0_dropTips wsX0_dropTips) := goodIn_app (goodIn_of _ (by decide +kernel)) ggX7_answerOfDeed_X0_dropTips
set_option maxRecDepth 20000 in
theorem ggX7_answerOfDeed_X4_refusalToGo : GoodIn wsX7_answerOfDeed wsX4_refusalToGo := goodIn_r _ [32, 33, 34, 35, 36, 37, 38, 39, 40, 41, 42, 13, 43, 26, 136, 137, 138, 139, 140, 141, 142, 143, 144, 145, 146] (by decide +kernel) (by decide +kernel)
set_option maxRecDepth 20000 in
theorem gX7_answerOfDeed_X4_refusalToGo : GoodIn wsX7_answerOfDeed (wsV RX7 88 RX4 yX4_refusalToGo wsX4_refusalToGo) := goodIn_app (goodIn_of _ (by decide +kernel)) ggX7_answerOfDeed_X4_refusalToGo
set_option maxRecDepth 20000 in
theorem ggX7_answerOfDeed_X4_refusalToBreak : GoodIn wsX7_answerOfDeed wsX4_refusalToBreak := goodIn_r _ [47, 16, 17, 18, 13, 19, 20, 48, 11, 12, 14, 15, 136, 137, 138, 139, 140, 141, 142, 143, 144, 145, 146] (by decide +kernel) (by decide +kernel)
set_option maxRecDepth 20000 in
theorem gX7_answerOfDeed_X4_refusalToBreak : GoodIn wsX7_answerOfDeed (wsV RX7 98 RX4 yX4_refusalToBreak wsX4_refusalToBreak) := goodIn_app (goodIn_of _ (by decide +kernel)) ggX7_answerOfDeed_X4_refusalToBreak
set_option maxRecDepth 20000 in
theorem ggX7_answerOfDeed_X7_letWalk : GoodIn wsX7_answerOfDeed wsX7_letWalk := goodIn_r _ [53, 54, 2, 55, 38, 35, 39, 56, 57, 58, 59, 60, 61, 62, 63, 64, 65, 66, 67, 68, 13, 69, 70, 71, 72, 73, 74, 75, 76, 77, 78, 79, 80, 81, 40, 41, 42, 43, 26, 82, 83, 84, 85, 86, 52, 87, 88, 89, 90, 91, 92, 93, 94, 95, 96, 97, 98, 99, 100, 101, 102, 103, 104, 105, 106, 107, 108, 109, 20, 25, 15, 27, 110, 111, 112, 113, 114, 115, 116, 117, 122, 123, 124, 125, 126, 127, 128, 129, 130, 131, 132, 133, 134, 135, 149, 150, 151, 152, 153, 136, 137, 138, 139, 140, 141, 142, 143, 144, 145, 146] (by decide +kernel) (by decide +kernel)
set_option maxRecDepth 20000 in
theorem gX7_answerOfDeed_X7_letWalk : GoodIn wsX7_answerOfDeed (wsV RX7 91 RX7 yX7_letWalk wsX7_letWalk) := goodIn_app (goodIn_of _ (by decide +kernel)) ggX7_answerOfDeed_X7_letWalk
set_option maxRecDepth 20000 in
theorem ggX7_answerOfDeed_X0_dropTree : GoodIn wsX7_answerOfDeed wsX0_dropTree := goodIn_r _ [121, 8, 9, 10, 11, 12, 13, 14, 15, 16, 17, 18, 19, 20, 21, 22, 23, 24, 25, 26, 27, 28, 136, 137, 138, 139, 140, 141, 142, 143, 144, 145, 146, 147, 148] (by decide +kernel) (by decide +kernel)
set_option maxRecDepth 20000 in
theorem gX7_answerOfDeed_X0_dropTree : GoodIn wsX7_answerOfDeed (wsV RX7 101 RX0 yX0_dropTree wsX0_dropTree) := goodIn_app (goodIn_of _ (by decide +kernel)) ggX7_answerOfDeed_X0_dropTree
end
section
theorem dX7_answerOfDeed_0 : decode cX7_answerOfDeed 0 = .ok (.iload_n 1, 1) := by decide +kernel
theorem dX7_answerOfDeed_1 : decode cX7_answerOfDeed 1 = .ok (.bipush 119, 2) := by decide +kernel
theorem dX7_answerOfDeed_3 : decode cX7_answerOfDeed 3 = .ok (.if_icmp .ne 15, 3) := by decide +kernel
theorem dX7_answerOfDeed_6 : decode cX7_answerOfDeed 6 = .ok (.aload_n 0, 1) := by decide +kernel
theorem dX7_answerOfDeed_7 : decode cX7_answerOfDeed 7 = .ok (.getfield 36, 3) := by decide +kernel
theorem dX7_answerOfDeed_10 : decode cX7_answerOfDeed 10 = .ok (.aload_n 0, 1) := by decide +kernel
theorem dX7_answerOfDeed_11 : decode cX7_answerOfDeed 11 = .ok (.getfield 12, 3) := by decide +kernel
theorem dX7_answerOfDeed_14 : decode cX7_answerOfDeed 14 = .ok (.invokevirtual 105, 3) := by decide +kernel
theorem dX7_answerOfDeed_17 : decode cX7_answerOfDeed 17 = .ok (.ireturn, 1) := by decide +kernel
theorem dX7_answerOfDeed_18 : decode cX7_answerOfDeed 18 = .ok (.iload_n 1, 1) := by decide +kernel
theorem dX7_answerOfDeed_19 : decode cX7_answerOfDeed 19 = .ok (.bipush 103, 2) := by decide +kernel
theorem dX7_answerOfDeed_21 : decode cX7_answerOfDeed 21 = .ok (.if_icmp .ne 14, 3) := by decide +kernel
theorem dX7_answerOfDeed_24 : decode cX7_answerOfDeed 24 = .ok (.aload_n 0, 1) := by decide +kernel
theorem dX7_answerOfDeed_25 : decode cX7_answerOfDeed 25 = .ok (.getfield 12, 3) := by decide +kernel
theorem dX7_answerOfDeed_28 : decode cX7_answerOfDeed 28 = .ok (.iload_n 2, 1) := by decide +kernel
theorem dX7_answerOfDeed_29 : decode cX7_answerOfDeed 29 = .ok (.invokevirtual 88, 3) := by decide +kernel
theorem dX7_answerOfDeed_32 : decode cX7_answerOfDeed 32 = .ok (.goto 11, 3) := by decide +kernel
theorem dX7_answerOfDeed_35 : decode cX7_answerOfDeed 35 = .ok (.aload_n 0, 1) := by decide +kernel
theorem dX7_answerOfDeed_36 : decode cX7_answerOfDeed 36 = .ok (.getfield 12, 3) := by decide +kernel
theorem dX7_answerOfDeed_39 : decode cX7_answerOfDeed 39 = .ok (.iload_n 2, 1) := by decide +kernel
theorem dX7_answerOfDeed_40 : decode cX7_answerOfDeed 40 = .ok (.invokevirtual 98, 3) := by decide +kernel
theorem dX7_answerOfDeed_43 : decode cX7_answerOfDeed 43 = .ok (.istore_n 3, 1) := by decide +kernel
theorem dX7_answerOfDeed_44 : decode cX7_answerOfDeed 44 = .ok (.iload_n 3, 1) := by decide +kernel
theorem dX7_answerOfDeed_45 : decode cX7_answerOfDeed 45 = .ok (.ifCond .eq 5, 3) := by decide +kernel
theorem dX7_answerOfDeed_48 : decode cX7_answerOfDeed 48 = .ok (.iload_n 3, 1) := by decide +kernel
theorem dX7_answerOfDeed_49 : decode cX7_answerOfDeed 49 = .ok (.ireturn, 1) := by decide +kernel
theorem dX7_answerOfDeed_50 : decode cX7_answerOfDeed 50 = .ok (.iload_n 1, 1) := by decide +kernel
theorem dX7_answerOfDeed_51 : decode cX7_answerOfDeed 51 = .ok (.bipush 103, 2) := by decide +kernel
theorem dX7_answerOfDeed_53 : decode cX7_answerOfDeed 53 = .ok (.if_icmp .ne 11, 3) := by decide +kernel
theorem dX7_answerOfDeed_56 : decode cX7_answerOfDeed 56 = .ok (.aload_n 0, 1) := by decide +kernel
theorem dX7_answerOfDeed_57 : decode cX7_answerOfDeed 57 = .ok (.iload_n 2, 1) := by decide +kernel
theorem dX7_answerOfDeed_58 : decode cX7_answerOfDeed 58 = .ok (.invokevirtual 91, 3) := by decide +kernel
theorem dX7_answerOfDeed_61 : decode cX7_answerOfDeed 61 = .ok (.goto 15, 3) := by decide +kernel
theorem dX7_answerOfDeed_64 : decode cX7_answerOfDeed 64 = .ok (.aload_n 0, 1) := by decide +kernel
theorem dX7_answerOfDeed_65 : decode cX7_answerOfDeed 65 = .ok (.getfield 36, 3) := by decide +kernel
theorem dX7_answerOfDeed_68 : decode cX7_answerOfDeed 68 = .ok (.aload_n 0, 1) := by decide +kernel
theorem dX7_answerOfDeed_69 : decode cX7_answerOfDeed 69 = .ok (.getfield 12, 3) := by decide +kernel
theorem dX7_answerOfDeed_72 : decode cX7_answerOfDeed 72 = .ok (.iload_n 2, 1) := by decide +kernel
theorem dX7_answerOfDeed_73 : decode cX7_answerOfDeed 73 = .ok (.invokevirtual 101, 3) := by decide +kernel
theorem dX7_answerOfDeed_76 : decode cX7_answerOfDeed 76 = .ok (.ireturn, 1) := by decide +kernel
set_option maxRecDepth 20000 in
theorem ggX7_catchOf_X3_read : GoodIn wsX7_catchOf wsX3_read := goodIn_r _ [7, 8, 9, 10, 11, 12, 6, 13, 14, 15, 16, 17, 18, 19, 20, 21, 22, 23, 24, 25, 26, 27, 28, 29, 47, 48, 49, 50, 51, 52, 53, 54, 55, 56, 57, 44, 45, 46] (by decide +kernel) (by decide +kernel)
set_option maxRecDepth 20000 in
theorem gX7_catchOf_X3_read : GoodIn wsX7_catchOf (wsV RX7 269 RX3 yX3_read wsX3_read) := goodIn_app (goodIn_of _ (by decide +kernel)) ggX7_catchOf_X3_read
theorem dX7_catchOf_0 : decode cX7_catchOf 0 = .ok (.aload_n 0, 1) := by decide +kernel
theorem dX7_catchOf_1 : decode cX7_catchOf 1 = .ok (.getfield 50, 3) := by decide +kernel
theorem dX7_catchOf_4 : decode cX7_catchOf 4 = .ok (.aload_n 0, 1) := by decide +kernel
theorem dX7_catchOf_5 : decode cX7_catchOf 5 = .ok (.getfield 12, 3) := by decide +kernel
theorem dX7_catchOf_8 : decode cX7_catchOf 8 = .ok (.invokevirtual 269, 3) := by decide +kernel
theorem dX7_catchOf_11 : decode cX7_catchOf 11 = .ok (.aload_n 0, 1) := by decide +kernel
theorem dX7_catchOf_12 : decode cX7_catchOf 12 = .ok (.getfield 50, 3) := by decide +kernel
theorem dX7_catchOf_15 : decode cX7_catchOf 15 = .ok (.getfield 289, 3) := by decide +kernel
theorem dX7_catchOf_18 : decode cX7_catchOf 18 = .ok (.iload_n 1, 1) := by decide +kernel
theorem dX7_catchOf_19 : decode cX7_catchOf 19 = .ok (.iaload, 1) := by decide +kernel
theorem dX7_catchOf_20 : decode cX7_catchOf 20 = .ok (.ireturn, 1) := by decide +kernel
set_option maxRecDepth 20000 in
theorem ggX7_bestCatcher_X3_read : GoodIn wsX7_bestCatcher wsX3_read := goodIn_r _ [7, 8, 9, 10, 11, 12, 6, 13, 14, 15, 16, 17, 18, 19, 20, 21, 22, 23, 24, 25, 26, 27, 28, 29, 48, 49, 50, 51, 52, 53, 54, 55, 56, 57, 58, 59, 60, 61] (by decide +kernel) (by decide +kernel)
set_option maxRecDepth 20000 in
theorem gX7_bestCatcher_X3_read : GoodIn wsX7_bestCatcher (wsV RX7 269 RX3 yX3_read wsX3_read) := goodIn_app (goodIn_of _ (by decide +kernel)) ggX7_bestCatcher_X3_read
set_option maxRecDepth 20000 in
theorem ggX7_bestCatcher_X3_bestGrain : GoodIn wsX7_bestCatcher wsX3_bestGrain := goodIn_r _ [33, 8, 10, 59, 60, 61] (by decide +kernel) (by decide +kernel)
set_option maxRecDepth 20000 in
theorem gX7_bestCatcher_X3_bestGrain : GoodIn wsX7_bestCatcher (wsV RX7 292 RX3 yX3_bestGrain wsX3_bestGrain) := goodIn_app (goodIn_of _ (by decide +kernel)) ggX7_bestCatcher_X3_bestGrain
theorem dX7_bestCatcher_0 : decode cX7_bestCatcher 0 = .ok (.aload_n 0, 1) := by decide +kernel
theorem dX7_bestCatcher_1 : decode cX7_bestCatcher 1 = .ok (.getfield 50, 3) := by decide +kernel
theorem dX7_bestCatcher_4 : decode cX7_bestCatcher 4 = .ok (.aload_n 0, 1) := by decide +kernel
theorem dX7_bestCatcher_5 : decode cX7_bestCatcher 5 = .ok (.getfield 12, 3) := by decide +kernel
theorem dX7_bestCatcher_8 : decode cX7_bestCatcher 8 = .ok (.invokevirtual 269, 3) := by decide +kernel
theorem dX7_bestCatcher_11 : decode cX7_bestCatcher 11 = .ok (.aload_n 0, 1) := by decide +kernel
theorem dX7_bestCatcher_12 : decode cX7_bestCatcher 12 = .ok (.getfield 50, 3) := by decide +kernel
theorem dX7_bestCatcher_15 : decode cX7_bestCatcher 15 = .ok (.invokevirtual 292, 3) := by decide +kernel
theorem dX7_bestCatcher_18 : decode cX7_bestCatcher 18 = .ok (.ireturn, 1) := by decide +kernel
set_option maxRecDepth 20000 in
theorem ggX7_countOfTrees_X5_read : GoodIn wsX7_countOfTrees wsX5_read := goodIn_r _ [7, 8, 9, 10, 11, 12, 13, 14, 15, 16, 17, 18, 19, 20, 21, 22, 6, 23, 24, 25, 26, 27, 28, 29, 30, 31, 32, 33, 64, 65, 66, 67, 68, 69, 70, 71, 72, 73, 74, 75, 76, 77, 78, 79, 80, 81] (by decide +kernel) (by decide +kernel)
set_option maxRecDepth 20000 in
theorem gX7_countOfTrees_X5_read : GoodIn wsX7_countOfTrees (wsV RX7 172 RX5 yX5_read wsX5_read) := goodIn_app (goodIn_of _ (by decide +kernel)) ggX7_countOfTrees_X5_read
set_option maxRecDepth 20000 in
theorem ggX7_countOfTrees_X5_rootGrains : GoodIn wsX7_countOfTrees wsX5_rootGrains := goodIn_r _ [37, 8, 25, 75, 76, 77, 78, 79, 80, 81] (by decide +kernel) (by decide +kernel)
set_option maxRecDepth 20000 in
theorem gX7_countOfTrees_X5_rootGrains : GoodIn wsX7_countOfTrees (wsV RX7 295 RX5 yX5_rootGrains wsX5_rootGrains) := goodIn_app (goodIn_of _ (by decide +kernel)) ggX7_countOfTrees_X5_rootGrains
set_option maxRecDepth 20000 in
theorem ggX7_countOfTrees_X5_grainsHeldBy : GoodIn wsX7_countOfTrees wsX5_grainsHeldBy := goodIn_r _ [41, 8, 26, 75, 76, 77, 78, 79, 80, 81] (by decide +kernel) (by decide +kernel)
set_option maxRecDepth 20000 in
theorem gX7_countOfTrees_X5_grainsHeldBy : GoodIn wsX7_countOfTrees (wsV RX7 298 RX5 yX5_grainsHeldBy wsX5_grainsHeldBy) := goodIn_app (goodIn_of _ (by decide +kernel)) ggX7_countOfTrees_X5_grainsHeldBy
set_option maxRecDepth 20000 in
theorem ggX7_countOfTrees_X5_deepest : GoodIn wsX7_countOfTrees wsX5_deepest := goodIn_r _ [45, 8, 24, 46, 47, 48, 49, 75, 76, 77, 78, 79, 80, 81] (by decide +kernel) (by decide +kernel)
set_option maxRecDepth 20000 in
theorem gX7_countOfTrees_X5_deepest : GoodIn wsX7_countOfTrees (wsV RX7 266 RX5 yX5_deepest wsX5_deepest) := goodIn_app (goodIn_of _ (by decide +kernel)) ggX7_countOfTrees_X5_deepest
theorem dX7_countOfTrees_0 : decode cX7_countOfTrees 0 = .ok (.aload_n 0, 1) := by decide +kernel
theorem dX7_countOfTrees_1 : decode cX7_countOfTrees 1 = .ok (.getfield 43, 3) := by decide +kernel
theorem dX7_countOfTrees_4 : decode cX7_countOfTrees 4 = .ok (.aload_n 0, 1) := by decide +kernel
theorem dX7_countOfTrees_5 : decode cX7_countOfTrees 5 = .ok (.getfield 12, 3) := by decide +kernel
theorem dX7_countOfTrees_8 : decode cX7_countOfTrees 8 = .ok (.invokevirtual 172, 3) := by decide +kernel
theorem dX7_countOfTrees_11 : decode cX7_countOfTrees 11 = .ok (.iload_n 1, 1) := by decide +kernel
theorem dX7_countOfTrees_12 : decode cX7_countOfTrees 12 = .ok (.tableswitch 56 1 3 #[28, 36, 46], 28) := by decide +kernel
theorem dX7_countOfTrees_40 : decode cX7_countOfTrees 40 = .ok (.aload_n 0, 1) := by decide +kernel
theorem dX7_countOfTrees_41 : decode cX7_countOfTrees 41 = .ok (.getfield 43, 3) := by decide +kernel
theorem dX7_countOfTrees_44 : decode cX7_countOfTrees 44 = .ok (.invokevirtual 295, 3) := by decide +kernel
theorem dX7_countOfTrees_47 : decode cX7_countOfTrees 47 = .ok (.ireturn, 1) := by decide +kernel
theorem dX7_countOfTrees_48 : decode cX7_countOfTrees 48 = .ok (.aload_n 0, 1) := by decide +kernel
theorem dX7_countOfTrees_49 : decode cX7_countOfTrees 49 = .ok (.getfield 43, 3) := by decide +kernel
theorem dX7_countOfTrees_52 : decode cX7_countOfTrees 52 = .ok (.iconst 0, 1) := by decide +kernel
theorem dX7_countOfTrees_53 : decode cX7_countOfTrees 53 = .ok (.iconst 0, 1) := by decide +kernel
theorem dX7_countOfTrees_54 : decode cX7_countOfTrees 54 = .ok (.invokevirtual 298, 3) := by decide +kernel
theorem dX7_countOfTrees_57 : decode cX7_countOfTrees 57 = .ok (.ireturn, 1) := by decide +kernel
theorem dX7_countOfTrees_58 : decode cX7_countOfTrees 58 = .ok (.aload_n 0, 1) := by decide +kernel
theorem dX7_countOfTrees_59 : decode cX7_countOfTrees 59 = .ok (.getfield 43, 3) := by decide +kernel
theorem dX7_countOfTrees_62 : decode cX7_countOfTrees 62 = .ok (.iconst 2, 1) := by decide +kernel
theorem dX7_countOfTrees_63 : decode cX7_countOfTrees 63 = .ok (.iconst 4, 1) := by decide +kernel
theorem dX7_countOfTrees_64 : decode cX7_countOfTrees 64 = .ok (.invokevirtual 298, 3) := by decide +kernel
theorem dX7_countOfTrees_67 : decode cX7_countOfTrees 67 = .ok (.ireturn, 1) := by decide +kernel
theorem dX7_countOfTrees_68 : decode cX7_countOfTrees 68 = .ok (.aload_n 0, 1) := by decide +kernel
theorem dX7_countOfTrees_69 : decode cX7_countOfTrees 69 = .ok (.getfield 43, 3) := by decide +kernel
theorem dX7_countOfTrees_72 : decode cX7_countOfTrees 72 = .ok (.invokevirtual 266, 3) := by decide +kernel
theorem dX7_countOfTrees_75 : decode cX7_countOfTrees 75 = .ok (.ireturn, 1) := by decide +kernel
theorem dX7_isSettingValue_0 : decode cX7_isSettingValue 0 = .ok (.iload_n 0, 1) := by decide +kernel
theorem dX7_isSettingValue_1 : decode cX7_isSettingValue 1 = .ok (.tableswitch 96 0 3 #[31, 47, 66, 81], 31) := by decide +kernel
theorem dX7_isSettingValue_32 : decode cX7_isSettingValue 32 = .ok (.iload_n 1, 1) := by decide +kernel
theorem dX7_isSettingValue_33 : decode cX7_isSettingValue 33 = .ok (.iconst 1, 1) := by decide +kernel
theorem dX7_isSettingValue_34 : decode cX7_isSettingValue 34 = .ok (.if_icmp .lt 12, 3) := by decide +kernel
theorem dX7_isSettingValue_37 : decode cX7_isSettingValue 37 = .ok (.iload_n 1, 1) := by decide +kernel
theorem dX7_isSettingValue_38 : decode cX7_isSettingValue 38 = .ok (.iconst 4, 1) := by decide +kernel
theorem dX7_isSettingValue_39 : decode cX7_isSettingValue 39 = .ok (.if_icmp .gt 7, 3) := by decide +kernel
theorem dX7_isSettingValue_42 : decode cX7_isSettingValue 42 = .ok (.iconst 1, 1) := by decide +kernel
theorem dX7_isSettingValue_43 : decode cX7_isSettingValue 43 = .ok (.goto 4, 3) := by decide +kernel
theorem dX7_isSettingValue_46 : decode cX7_isSettingValue 46 = .ok (.iconst 0, 1) := by decide +kernel
theorem dX7_isSettingValue_47 : decode cX7_isSettingValue 47 = .ok (.ireturn, 1) := by decide +kernel
theorem dX7_isSettingValue_48 : decode cX7_isSettingValue 48 = .ok (.iload_n 1, 1) := by decide +kernel
theorem dX7_isSettingValue_49 : decode cX7_isSettingValue 49 = .ok (.bipush 10, 2) := by decide +kernel
theorem dX7_isSettingValue_51 : decode cX7_isSettingValue 51 = .ok (.if_icmp .lt 14, 3) := by decide +kernel
theorem dX7_isSettingValue_54 : decode cX7_isSettingValue 54 = .ok (.iload_n 1, 1) := by decide +kernel
theorem dX7_isSettingValue_55 : decode cX7_isSettingValue 55 = .ok (.sipush 200, 3) := by decide +kernel
theorem dX7_isSettingValue_58 : decode cX7_isSettingValue 58 = .ok (.if_icmp .gt 7, 3) := by decide +kernel
theorem dX7_isSettingValue_61 : decode cX7_isSettingValue 61 = .ok (.iconst 1, 1) := by decide +kernel
theorem dX7_isSettingValue_62 : decode cX7_isSettingValue 62 = .ok (.goto 4, 3) := by decide +kernel
theorem dX7_isSettingValue_65 : decode cX7_isSettingValue 65 = .ok (.iconst 0, 1) := by decide +kernel
theorem dX7_isSettingValue_66 : decode cX7_isSettingValue 66 = .ok (.ireturn, 1) := by decide +kernel
theorem dX7_isSettingValue_67 : decode cX7_isSettingValue 67 = .ok (.iload_n 1, 1) := by decide +kernel
theorem dX7_isSettingValue_68 : decode cX7_isSettingValue 68 = .ok (.ifCond .lt 12, 3) := by decide +kernel
theorem dX7_isSettingValue_71 : decode cX7_isSettingValue 71 = .ok (.iload_n 1, 1) := by decide +kernel
theorem dX7_isSettingValue_72 : decode cX7_isSettingValue 72 = .ok (.iconst 4, 1) := by decide +kernel
theorem dX7_isSettingValue_73 : decode cX7_isSettingValue 73 = .ok (.if_icmp .gt 7, 3) := by decide +kernel
theorem dX7_isSettingValue_76 : decode cX7_isSettingValue 76 = .ok (.iconst 1, 1) := by decide +kernel
theorem dX7_isSettingValue_77 : decode cX7_isSettingValue 77 = .ok (.goto 4, 3) := by decide +kernel
theorem dX7_isSettingValue_80 : decode cX7_isSettingValue 80 = .ok (.iconst 0, 1) := by decide +kernel
theorem dX7_isSettingValue_81 : decode cX7_isSettingValue 81 = .ok (.ireturn, 1) := by decide +kernel
theorem dX7_isSettingValue_82 : decode cX7_isSettingValue 82 = .ok (.iload_n 1, 1) := by decide +kernel
theorem dX7_isSettingValue_83 : decode cX7_isSettingValue 83 = .ok (.ifCond .lt 12, 3) := by decide +kernel
theorem dX7_isSettingValue_86 : decode cX7_isSettingValue 86 = .ok (.iload_n 1, 1) := by decide +kernel
theorem dX7_isSettingValue_87 : decode cX7_isSettingValue 87 = .ok (.iconst 4, 1) := by decide +kernel
theorem dX7_isSettingValue_88 : decode cX7_isSettingValue 88 = .ok (.if_icmp .ge 7, 3) := by decide +kernel
theorem dX7_isSettingValue_91 : decode cX7_isSettingValue 91 = .ok (.iconst 1, 1) := by decide +kernel
theorem dX7_isSettingValue_92 : decode cX7_isSettingValue 92 = .ok (.goto 4, 3) := by decide +kernel
theorem dX7_isSettingValue_95 : decode cX7_isSettingValue 95 = .ok (.iconst 0, 1) := by decide +kernel
theorem dX7_isSettingValue_96 : decode cX7_isSettingValue 96 = .ok (.ireturn, 1) := by decide +kernel
theorem dX7_isSettingValue_97 : decode cX7_isSettingValue 97 = .ok (.iconst 0, 1) := by decide +kernel
theorem dX7_isSettingValue_98 : decode cX7_isSettingValue 98 = .ok (.ireturn, 1) := by decide +kernel
theorem dX7_nextLot_0 : decode cX7_nextLot 0 = .ok (.sipush 421, 3) := by decide +kernel
theorem dX7_nextLot_3 : decode cX7_nextLot 3 = .ok (.iload_n 0, 1) := by decide +kernel
theorem dX7_nextLot_4 : decode cX7_nextLot 4 = .ok (.imul, 1) := by decide +kernel
theorem dX7_nextLot_5 : decode cX7_nextLot 5 = .ok (.sipush 1663, 3) := by decide +kernel
theorem dX7_nextLot_8 : decode cX7_nextLot 8 = .ok (.iadd, 1) := by decide +kernel
theorem dX7_nextLot_9 : decode cX7_nextLot 9 = .ok (.sipush 10000, 3) := by decide +kernel
theorem dX7_nextLot_12 : decode cX7_nextLot 12 = .ok (.irem, 1) := by decide +kernel
theorem dX7_nextLot_13 : decode cX7_nextLot 13 = .ok (.ireturn, 1) := by decide +kernel
set_option maxRecDepth 20000 in
theorem ggX8_init_X8_roots : GoodIn wsX8_init wsX8_roots := goodIn_r _ [18, 5, 19, 20, 17, 21, 22, 23, 24, 25, 26, 27, 28, 29, 30, 31, 32, 33, 34, 35, 36, 37, 38, 39, 40, 41, 42, 43, 44, 45, 46, 47, 48, 49] (by decide +kernel) (by decide +kernel)
set_option maxRecDepth 20000 in
theorem gX8_init_X8_roots : GoodIn wsX8_init (wsV RX8 35 RX8 yX8_roots wsX8_roots) := goodIn_app (goodIn_of _ (by decide +kernel)) ggX8_init_X8_roots
theorem dX8_init_0 : decode cX8_init 0 = .ok (.aload_n 0, 1) := by decide +kernel
theorem dX8_init_1 : decode cX8_init 1 = .ok (.invokespecial 1, 3) := by decide +kernel
theorem dX8_init_4 : decode cX8_init 4 = .ok (.aload_n 0, 1) := by decide +kernel
theorem dX8_init_5 : decode cX8_init 5 = .ok (.sipush 373, 3) := by decide +kernel
theorem dX8_init_8 : decode cX8_init 8 = .ok (.newarray .int, 2) := by decide +kernel
theorem dX8_init_10 : decode cX8_init 10 = .ok (.putfield 7, 3) := by decide +kernel
theorem dX8_init_13 : decode cX8_init 13 = .ok (.aload_n 0, 1) := by decide +kernel
theorem dX8_init_14 : decode cX8_init 14 = .ok (.sipush 373, 3) := by decide +kernel
theorem dX8_init_17 : decode cX8_init 17 = .ok (.newarray .int, 2) := by decide +kernel
theorem dX8_init_19 : decode cX8_init 19 = .ok (.putfield 13, 3) := by decide +kernel
theorem dX8_init_22 : decode cX8_init 22 = .ok (.aload_n 0, 1) := by decide +kernel
theorem dX8_init_23 : decode cX8_init 23 = .ok (.sipush 1492, 3) := by decide +kernel
theorem dX8_init_26 : decode cX8_init 26 = .ok (.newarray .int, 2) := by decide +kernel
theorem dX8_init_28 : decode cX8_init 28 = .ok (.putfield 16, 3) := by decide +kernel
theorem dX8_init_31 : decode cX8_init 31 = .ok (.aload_n 0, 1) := by decide +kernel
theorem dX8_init_32 : decode cX8_init 32 = .ok (.sipush 373, 3) := by decide +kernel
theorem dX8_init_35 : decode cX8_init 35 = .ok (.newarray .int, 2) := by decide +kernel
theorem dX8_init_37 : decode cX8_init 37 = .ok (.putfield 19, 3) := by decide +kernel
theorem dX8_init_40 : decode cX8_init 40 = .ok (.aload_n 0, 1) := by decide +kernel
theorem dX8_init_41 : decode cX8_init 41 = .ok (.bipush 60, 2) := by decide +kernel
theorem dX8_init_43 : decode cX8_init 43 = .ok (.newarray .int, 2) := by decide +kernel
theorem dX8_init_45 : decode cX8_init 45 = .ok (.putfield 22, 3) := by decide +kernel
theorem dX8_init_48 : decode cX8_init 48 = .ok (.aload_n 0, 1) := by decide +kernel
theorem dX8_init_49 : decode cX8_init 49 = .ok (.bipush 121, 2) := by decide +kernel
theorem dX8_init_51 : decode cX8_init 51 = .ok (.newarray .boolean, 2) := by decide +kernel
theorem dX8_init_53 : decode cX8_init 53 = .ok (.putfield 25, 3) := by decide +kernel
theorem dX8_init_56 : decode cX8_init 56 = .ok (.aload_n 0, 1) := by decide +kernel
theorem dX8_init_57 : decode cX8_init 57 = .ok (.bipush 121, 2) := by decide +kernel
theorem dX8_init_59 : decode cX8_init 59 = .ok (.newarray .int, 2) := by decide +kernel
theorem dX8_init_61 : decode cX8_init 61 = .ok (.putfield 29, 3) := by decide +kernel
theorem dX8_init_64 : decode cX8_init 64 = .ok (.aload_n 0, 1) := by decide +kernel
theorem dX8_init_65 : decode cX8_init 65 = .ok (.bipush 121, 2) := by decide +kernel
theorem dX8_init_67 : decode cX8_init 67 = .ok (.newarray .int, 2) := by decide +kernel
theorem dX8_init_69 : decode cX8_init 69 = .ok (.putfield 32, 3) := by decide +kernel
theorem dX8_init_72 : decode cX8_init 72 = .ok (.aload_n 0, 1) := by decide +kernel
theorem dX8_init_73 : decode cX8_init 73 = .ok (.getfield 7, 3) := by decide +kernel
theorem dX8_init_76 : decode cX8_init 76 = .ok (.iconst 1, 1) := by decide +kernel
theorem dX8_init_77 : decode cX8_init 77 = .ok (.iconst 1, 1) := by decide +kernel
theorem dX8_init_78 : decode cX8_init 78 = .ok (.iastore, 1) := by decide +kernel
theorem dX8_init_79 : decode cX8_init 79 = .ok (.aload_n 0, 1) := by decide +kernel
theorem dX8_init_80 : decode cX8_init 80 = .ok (.getfield 7, 3) := by decide +kernel
theorem dX8_init_83 : decode cX8_init 83 = .ok (.iconst 2, 1) := by decide +kernel
theorem dX8_init_84 : decode cX8_init 84 = .ok (.iconst 4, 1) := by decide +kernel
theorem dX8_init_85 : decode cX8_init 85 = .ok (.iastore, 1) := by decide +kernel
theorem dX8_init_86 : decode cX8_init 86 = .ok (.aload_n 0, 1) := by decide +kernel
theorem dX8_init_87 : decode cX8_init 87 = .ok (.getfield 7, 3) := by decide +kernel
theorem dX8_init_90 : decode cX8_init 90 = .ok (.iconst 3, 1) := by decide +kernel
theorem dX8_init_91 : decode cX8_init 91 = .ok (.bipush 60, 2) := by decide +kernel
theorem dX8_init_93 : decode cX8_init 93 = .ok (.iastore, 1) := by decide +kernel
theorem dX8_init_94 : decode cX8_init 94 = .ok (.aload_n 0, 1) := by decide +kernel
theorem dX8_init_95 : decode cX8_init 95 = .ok (.getfield 7, 3) := by decide +kernel
theorem dX8_init_98 : decode cX8_init 98 = .ok (.iconst 5, 1) := by decide +kernel
theorem dX8_init_99 : decode cX8_init 99 = .ok (.iconst 2, 1) := by decide +kernel
theorem dX8_init_100 : decode cX8_init 100 = .ok (.iastore, 1) := by decide +kernel
theorem dX8_init_101 : decode cX8_init 101 = .ok (.aload_n 0, 1) := by decide +kernel
theorem dX8_init_102 : decode cX8_init 102 = .ok (.iconst 0, 1) := by decide +kernel
theorem dX8_init_103 : decode cX8_init 103 = .ok (.invokevirtual 35, 3) := by decide +kernel
theorem dX8_init_106 : decode cX8_init 106 = .ok (.return_, 1) := by decide +kernel
theorem dX8_in_0 : decode cX8_in 0 = .ok (.iload_n 0, 1) := by decide +kernel
theorem dX8_in_1 : decode cX8_in 1 = .ok (.iload_n 1, 1) := by decide +kernel
theorem dX8_in_2 : decode cX8_in 2 = .ok (.if_icmp .lt 12, 3) := by decide +kernel
theorem dX8_in_5 : decode cX8_in 5 = .ok (.iload_n 0, 1) := by decide +kernel
theorem dX8_in_6 : decode cX8_in 6 = .ok (.iload_n 2, 1) := by decide +kernel
theorem dX8_in_7 : decode cX8_in 7 = .ok (.if_icmp .gt 7, 3) := by decide +kernel
theorem dX8_in_10 : decode cX8_in 10 = .ok (.iconst 1, 1) := by decide +kernel
theorem dX8_in_11 : decode cX8_in 11 = .ok (.goto 4, 3) := by decide +kernel
theorem dX8_in_14 : decode cX8_in 14 = .ok (.iconst 0, 1) := by decide +kernel
theorem dX8_in_15 : decode cX8_in 15 = .ok (.ireturn, 1) := by decide +kernel
theorem dX8_copies_0 : decode cX8_copies 0 = .ok (.iconst 0, 1) := by decide +kernel
theorem dX8_copies_1 : decode cX8_copies 1 = .ok (.istore 4, 2) := by decide +kernel
theorem dX8_copies_3 : decode cX8_copies 3 = .ok (.iload 4, 2) := by decide +kernel
theorem dX8_copies_5 : decode cX8_copies 5 = .ok (.sipush 373, 3) := by decide +kernel
theorem dX8_copies_8 : decode cX8_copies 8 = .ok (.if_icmp .ge 21, 3) := by decide +kernel
theorem dX8_copies_11 : decode cX8_copies 11 = .ok (.aload_n 2, 1) := by decide +kernel
theorem dX8_copies_12 : decode cX8_copies 12 = .ok (.iload_n 3, 1) := by decide +kernel
theorem dX8_copies_13 : decode cX8_copies 13 = .ok (.iload 4, 2) := by decide +kernel
theorem dX8_copies_15 : decode cX8_copies 15 = .ok (.iadd, 1) := by decide +kernel
theorem dX8_copies_16 : decode cX8_copies 16 = .ok (.aload_n 0, 1) := by decide +kernel
theorem dX8_copies_17 : decode cX8_copies 17 = .ok (.iload_n 1, 1) := by decide +kernel
theorem dX8_copies_18 : decode cX8_copies 18 = .ok (.iload 4, 2) := by decide +kernel
theorem dX8_copies_20 : decode cX8_copies 20 = .ok (.iadd, 1) := by decide +kernel
theorem dX8_copies_21 : decode cX8_copies 21 = .ok (.iaload, 1) := by decide +kernel
theorem dX8_copies_22 : decode cX8_copies 22 = .ok (.iastore, 1) := by decide +kernel
theorem dX8_copies_23 : decode cX8_copies 23 = .ok (.iinc 4 1, 3) := by decide +kernel
theorem dX8_copies_26 : decode cX8_copies 26 = .ok (.goto (-23), 3) := by decide +kernel
theorem dX8_copies_29 : decode cX8_copies 29 = .ok (.return_, 1) := by decide +kernel
set_option maxRecDepth 20000 in
theorem ggX8_records_X8_copies : GoodIn wsX8_records wsX8_copies := goodIn_r _ [7] (by decide +kernel) (by decide +kernel)
set_option maxRecDepth 20000 in
theorem gX8_records_X8_copies : GoodIn wsX8_records (va_wsS RX8 43 yX8_copies wsX8_copies) := goodIn_app (goodIn_of _ (by decide +kernel)) ggX8_records_X8_copies
theorem dX8_records_0 : decode cX8_records 0 = .ok (.aload_n 0, 1) := by decide +kernel
theorem dX8_records_1 : decode cX8_records 1 = .ok (.getfield 39, 3) := by decide +kernel
theorem dX8_records_4 : decode cX8_records 4 = .ok (.iconst 4, 1) := by decide +kernel
theorem dX8_records_5 : decode cX8_records 5 = .ok (.if_icmp .ne 44, 3) := by decide +kernel
theorem dX8_records_8 : decode cX8_records 8 = .ok (.iconst 0, 1) := by decide +kernel
theorem dX8_records_9 : decode cX8_records 9 = .ok (.istore_n 1, 1) := by decide +kernel
theorem dX8_records_10 : decode cX8_records 10 = .ok (.iload_n 1, 1) := by decide +kernel
theorem dX8_records_11 : decode cX8_records 11 = .ok (.sipush 1119, 3) := by decide +kernel
theorem dX8_records_14 : decode cX8_records 14 = .ok (.if_icmp .ge 25, 3) := by decide +kernel
theorem dX8_records_17 : decode cX8_records 17 = .ok (.aload_n 0, 1) := by decide +kernel
theorem dX8_records_18 : decode cX8_records 18 = .ok (.getfield 16, 3) := by decide +kernel
theorem dX8_records_21 : decode cX8_records 21 = .ok (.iload_n 1, 1) := by decide +kernel
theorem dX8_records_22 : decode cX8_records 22 = .ok (.aload_n 0, 1) := by decide +kernel
theorem dX8_records_23 : decode cX8_records 23 = .ok (.getfield 16, 3) := by decide +kernel
theorem dX8_records_26 : decode cX8_records 26 = .ok (.iload_n 1, 1) := by decide +kernel
theorem dX8_records_27 : decode cX8_records 27 = .ok (.sipush 373, 3) := by decide +kernel
theorem dX8_records_30 : decode cX8_records 30 = .ok (.iadd, 1) := by decide +kernel
theorem dX8_records_31 : decode cX8_records 31 = .ok (.iaload, 1) := by decide +kernel
theorem dX8_records_32 : decode cX8_records 32 = .ok (.iastore, 1) := by decide +kernel
theorem dX8_records_33 : decode cX8_records 33 = .ok (.iinc 1 1, 3) := by decide +kernel
theorem dX8_records_36 : decode cX8_records 36 = .ok (.goto (-26), 3) := by decide +kernel
theorem dX8_records_39 : decode cX8_records 39 = .ok (.aload_n 0, 1) := by decide +kernel
theorem dX8_records_40 : decode cX8_records 40 = .ok (.dup, 1) := by decide +kernel
theorem dX8_records_41 : decode cX8_records 41 = .ok (.getfield 39, 3) := by decide +kernel
theorem dX8_records_44 : decode cX8_records 44 = .ok (.iconst 1, 1) := by decide +kernel
theorem dX8_records_45 : decode cX8_records 45 = .ok (.isub, 1) := by decide +kernel
theorem dX8_records_46 : decode cX8_records 46 = .ok (.putfield 39, 3) := by decide +kernel
theorem dX8_records_49 : decode cX8_records 49 = .ok (.aload_n 0, 1) := by decide +kernel
theorem dX8_records_50 : decode cX8_records 50 = .ok (.getfield 7, 3) := by decide +kernel
theorem dX8_records_53 : decode cX8_records 53 = .ok (.iconst 0, 1) := by decide +kernel
theorem dX8_records_54 : decode cX8_records 54 = .ok (.aload_n 0, 1) := by decide +kernel
theorem dX8_records_55 : decode cX8_records 55 = .ok (.getfield 16, 3) := by decide +kernel
theorem dX8_records_58 : decode cX8_records 58 = .ok (.sipush 373, 3) := by decide +kernel
theorem dX8_records_61 : decode cX8_records 61 = .ok (.aload_n 0, 1) := by decide +kernel
theorem dX8_records_62 : decode cX8_records 62 = .ok (.getfield 39, 3) := by decide +kernel
theorem dX8_records_65 : decode cX8_records 65 = .ok (.imul, 1) := by decide +kernel
theorem dX8_records_66 : decode cX8_records 66 = .ok (.invokestatic 43, 3) := by decide +kernel
theorem dX8_records_69 : decode cX8_records 69 = .ok (.aload_n 0, 1) := by decide +kernel
theorem dX8_records_70 : decode cX8_records 70 = .ok (.dup, 1) := by decide +kernel
theorem dX8_records_71 : decode cX8_records 71 = .ok (.getfield 39, 3) := by decide +kernel
theorem dX8_records_74 : decode cX8_records 74 = .ok (.iconst 1, 1) := by decide +kernel
theorem dX8_records_75 : decode cX8_records 75 = .ok (.iadd, 1) := by decide +kernel
theorem dX8_records_76 : decode cX8_records 76 = .ok (.putfield 39, 3) := by decide +kernel
theorem dX8_records_79 : decode cX8_records 79 = .ok (.return_, 1) := by decide +kernel
set_option maxRecDepth 20000 in
theorem ggX8_isCell_X8_in : GoodIn wsX8_isCell wsX8_in := goodIn_r _ [4] (by decide +kernel) (by decide +kernel)
set_option maxRecDepth 20000 in
theorem gX8_isCell_X8_in : GoodIn wsX8_isCell (va_wsS RX8 47 yX8_in wsX8_in) := goodIn_app (goodIn_of _ (by decide +kernel)) ggX8_isCell_X8_in
theorem dX8_isCell_0 : decode cX8_isCell 0 = .ok (.iload_n 0, 1) := by decide +kernel
theorem dX8_isCell_1 : decode cX8_isCell 1 = .ok (.iconst 0, 1) := by decide +kernel
theorem dX8_isCell_2 : decode cX8_isCell 2 = .ok (.bipush 120, 2) := by decide +kernel
theorem dX8_isCell_4 : decode cX8_isCell 4 = .ok (.invokestatic 47, 3) := by decide +kernel
theorem dX8_isCell_7 : decode cX8_isCell 7 = .ok (.ireturn, 1) := by decide +kernel
theorem dX8_size_0 : decode cX8_size 0 = .ok (.iload_n 0, 1) := by decide +kernel
theorem dX8_size_1 : decode cX8_size 1 = .ok (.ifCond .ge 8, 3) := by decide +kernel
theorem dX8_size_4 : decode cX8_size 4 = .ok (.iload_n 0, 1) := by decide +kernel
theorem dX8_size_5 : decode cX8_size 5 = .ok (.ineg, 1) := by decide +kernel
theorem dX8_size_6 : decode cX8_size 6 = .ok (.goto 4, 3) := by decide +kernel
theorem dX8_size_9 : decode cX8_size 9 = .ok (.iload_n 0, 1) := by decide +kernel
theorem dX8_size_10 : decode cX8_size 10 = .ok (.ireturn, 1) := by decide +kernel
set_option maxRecDepth 20000 in
theorem ggX8_ringOf_X8_size : GoodIn wsX8_ringOf wsX8_size := goodIn_r _ [4] (by decide +kernel) (by decide +kernel)
set_option maxRecDepth 20000 in
theorem gX8_ringOf_X8_size : GoodIn wsX8_ringOf (va_wsS RX8 51 yX8_size wsX8_size) := goodIn_app (goodIn_of _ (by decide +kernel)) ggX8_ringOf_X8_size
theorem dX8_ringOf_0 : decode cX8_ringOf 0 = .ok (.iload_n 0, 1) := by decide +kernel
theorem dX8_ringOf_1 : decode cX8_ringOf 1 = .ok (.bipush 11, 2) := by decide +kernel
theorem dX8_ringOf_3 : decode cX8_ringOf 3 = .ok (.idiv, 1) := by decide +kernel
theorem dX8_ringOf_4 : decode cX8_ringOf 4 = .ok (.iconst 5, 1) := by decide +kernel
theorem dX8_ringOf_5 : decode cX8_ringOf 5 = .ok (.isub, 1) := by decide +kernel
theorem dX8_ringOf_6 : decode cX8_ringOf 6 = .ok (.invokestatic 51, 3) := by decide +kernel
theorem dX8_ringOf_9 : decode cX8_ringOf 9 = .ok (.istore_n 1, 1) := by decide +kernel
theorem dX8_ringOf_10 : decode cX8_ringOf 10 = .ok (.iload_n 0, 1) := by decide +kernel
theorem dX8_ringOf_11 : decode cX8_ringOf 11 = .ok (.bipush 11, 2) := by decide +kernel
theorem dX8_ringOf_13 : decode cX8_ringOf 13 = .ok (.irem, 1) := by decide +kernel
theorem dX8_ringOf_14 : decode cX8_ringOf 14 = .ok (.iconst 5, 1) := by decide +kernel
theorem dX8_ringOf_15 : decode cX8_ringOf 15 = .ok (.isub, 1) := by decide +kernel
theorem dX8_ringOf_16 : decode cX8_ringOf 16 = .ok (.invokestatic 51, 3) := by decide +kernel
theorem dX8_ringOf_19 : decode cX8_ringOf 19 = .ok (.istore_n 2, 1) := by decide +kernel
theorem dX8_ringOf_20 : decode cX8_ringOf 20 = .ok (.iload_n 1, 1) := by decide +kernel
theorem dX8_ringOf_21 : decode cX8_ringOf 21 = .ok (.iload_n 2, 1) := by decide +kernel
theorem dX8_ringOf_22 : decode cX8_ringOf 22 = .ok (.if_icmp .le 7, 3) := by decide +kernel
theorem dX8_ringOf_25 : decode cX8_ringOf 25 = .ok (.iload_n 1, 1) := by decide +kernel
theorem dX8_ringOf_26 : decode cX8_ringOf 26 = .ok (.goto 4, 3) := by decide +kernel
theorem dX8_ringOf_29 : decode cX8_ringOf 29 = .ok (.iload_n 2, 1) := by decide +kernel
theorem dX8_ringOf_30 : decode cX8_ringOf 30 = .ok (.ireturn, 1) := by decide +kernel
set_option maxRecDepth 20000 in
theorem ggX8_beside_X8_in : GoodIn wsX8_beside wsX8_in := goodIn_r _ [4] (by decide +kernel) (by decide +kernel)
set_option maxRecDepth 20000 in
theorem gX8_beside_X8_in : GoodIn wsX8_beside (va_wsS RX8 47 yX8_in wsX8_in) := goodIn_app (goodIn_of _ (by decide +kernel)) ggX8_beside_X8_in
theorem dX8_beside_0 : decode cX8_beside 0 = .ok (.iload_n 0, 1) := by decide +kernel
theorem dX8_beside_1 : decode cX8_beside 1 = .ok (.bipush 11, 2) := by decide +kernel
theorem dX8_beside_3 : decode cX8_beside 3 = .ok (.idiv, 1) := by decide +kernel
theorem dX8_beside_4 : decode cX8_beside 4 = .ok (.iload_n 1, 1) := by decide +kernel
theorem dX8_beside_5 : decode cX8_beside 5 = .ok (.ifCond .ne 7, 3) := by decide +kernel
theorem dX8_beside_8 : decode cX8_beside 8 = .ok (.iconst (-1), 1) := by decide +kernel
theorem dX8_beside_9 : decode cX8_beside 9 = .ok (.goto 13, 3) := by decide +kernel
theorem dX8_beside_12 : decode cX8_beside 12 = .ok (.iload_n 1, 1) := by decide +kernel
theorem dX8_beside_13 : decode cX8_beside 13 = .ok (.iconst 2, 1) := by decide +kernel
theorem dX8_beside_14 : decode cX8_beside 14 = .ok (.if_icmp .ne 7, 3) := by decide +kernel
theorem dX8_beside_17 : decode cX8_beside 17 = .ok (.iconst 1, 1) := by decide +kernel
theorem dX8_beside_18 : decode cX8_beside 18 = .ok (.goto 4, 3) := by decide +kernel
theorem dX8_beside_21 : decode cX8_beside 21 = .ok (.iconst 0, 1) := by decide +kernel
theorem dX8_beside_22 : decode cX8_beside 22 = .ok (.iadd, 1) := by decide +kernel
theorem dX8_beside_23 : decode cX8_beside 23 = .ok (.istore_n 2, 1) := by decide +kernel
theorem dX8_beside_24 : decode cX8_beside 24 = .ok (.iload_n 0, 1) := by decide +kernel
theorem dX8_beside_25 : decode cX8_beside 25 = .ok (.bipush 11, 2) := by decide +kernel
theorem dX8_beside_27 : decode cX8_beside 27 = .ok (.irem, 1) := by decide +kernel
theorem dX8_beside_28 : decode cX8_beside 28 = .ok (.iload_n 1, 1) := by decide +kernel
theorem dX8_beside_29 : decode cX8_beside 29 = .ok (.iconst 1, 1) := by decide +kernel
theorem dX8_beside_30 : decode cX8_beside 30 = .ok (.if_icmp .ne 7, 3) := by decide +kernel
theorem dX8_beside_33 : decode cX8_beside 33 = .ok (.iconst 1, 1) := by decide +kernel
theorem dX8_beside_34 : decode cX8_beside 34 = .ok (.goto 13, 3) := by decide +kernel
theorem dX8_beside_37 : decode cX8_beside 37 = .ok (.iload_n 1, 1) := by decide +kernel
theorem dX8_beside_38 : decode cX8_beside 38 = .ok (.iconst 3, 1) := by decide +kernel
theorem dX8_beside_39 : decode cX8_beside 39 = .ok (.if_icmp .ne 7, 3) := by decide +kernel
theorem dX8_beside_42 : decode cX8_beside 42 = .ok (.iconst (-1), 1) := by decide +kernel
theorem dX8_beside_43 : decode cX8_beside 43 = .ok (.goto 4, 3) := by decide +kernel
theorem dX8_beside_46 : decode cX8_beside 46 = .ok (.iconst 0, 1) := by decide +kernel
theorem dX8_beside_47 : decode cX8_beside 47 = .ok (.iadd, 1) := by decide +kernel
theorem dX8_beside_48 : decode cX8_beside 48 = .ok (.istore_n 3, 1) := by decide +kernel
theorem dX8_beside_49 : decode cX8_beside 49 = .ok (.iload_n 2, 1) := by decide +kernel
theorem dX8_beside_50 : decode cX8_beside 50 = .ok (.iconst 0, 1) := by decide +kernel
theorem dX8_beside_51 : decode cX8_beside 51 = .ok (.bipush 10, 2) := by decide +kernel
theorem dX8_beside_53 : decode cX8_beside 53 = .ok (.invokestatic 47, 3) := by decide +kernel
theorem dX8_beside_56 : decode cX8_beside 56 = .ok (.ifCond .eq 22, 3) := by decide +kernel
theorem dX8_beside_59 : decode cX8_beside 59 = .ok (.iload_n 3, 1) := by decide +kernel
theorem dX8_beside_60 : decode cX8_beside 60 = .ok (.iconst 0, 1) := by decide +kernel
theorem dX8_beside_61 : decode cX8_beside 61 = .ok (.bipush 10, 2) := by decide +kernel
theorem dX8_beside_63 : decode cX8_beside 63 = .ok (.invokestatic 47, 3) := by decide +kernel
theorem dX8_beside_66 : decode cX8_beside 66 = .ok (.ifCond .eq 12, 3) := by decide +kernel
theorem dX8_beside_69 : decode cX8_beside 69 = .ok (.bipush 11, 2) := by decide +kernel
theorem dX8_beside_71 : decode cX8_beside 71 = .ok (.iload_n 2, 1) := by decide +kernel
theorem dX8_beside_72 : decode cX8_beside 72 = .ok (.imul, 1) := by decide +kernel
theorem dX8_beside_73 : decode cX8_beside 73 = .ok (.iload_n 3, 1) := by decide +kernel
theorem dX8_beside_74 : decode cX8_beside 74 = .ok (.iadd, 1) := by decide +kernel
theorem dX8_beside_75 : decode cX8_beside 75 = .ok (.goto 5, 3) := by decide +kernel
theorem dX8_beside_78 : decode cX8_beside 78 = .ok (.bipush (-4), 2) := by decide +kernel
theorem dX8_beside_80 : decode cX8_beside 80 = .ok (.ireturn, 1) := by decide +kernel
theorem dX8_rimCell_0 : decode cX8_rimCell 0 = .ok (.iload_n 0, 1) := by decide +kernel
theorem dX8_rimCell_1 : decode cX8_rimCell 1 = .ok (.bipush 11, 2) := by decide +kernel
theorem dX8_rimCell_3 : decode cX8_rimCell 3 = .ok (.if_icmp .ge 7, 3) := by decide +kernel
theorem dX8_rimCell_6 : decode cX8_rimCell 6 = .ok (.iload_n 0, 1) := by decide +kernel
theorem dX8_rimCell_7 : decode cX8_rimCell 7 = .ok (.goto 43, 3) := by decide +kernel
theorem dX8_rimCell_10 : decode cX8_rimCell 10 = .ok (.iload_n 0, 1) := by decide +kernel
theorem dX8_rimCell_11 : decode cX8_rimCell 11 = .ok (.bipush 21, 2) := by decide +kernel
theorem dX8_rimCell_13 : decode cX8_rimCell 13 = .ok (.if_icmp .ge 16, 3) := by decide +kernel
theorem dX8_rimCell_16 : decode cX8_rimCell 16 = .ok (.bipush 11, 2) := by decide +kernel
theorem dX8_rimCell_18 : decode cX8_rimCell 18 = .ok (.iload_n 0, 1) := by decide +kernel
theorem dX8_rimCell_19 : decode cX8_rimCell 19 = .ok (.bipush 10, 2) := by decide +kernel
theorem dX8_rimCell_21 : decode cX8_rimCell 21 = .ok (.isub, 1) := by decide +kernel
theorem dX8_rimCell_22 : decode cX8_rimCell 22 = .ok (.imul, 1) := by decide +kernel
theorem dX8_rimCell_23 : decode cX8_rimCell 23 = .ok (.bipush 10, 2) := by decide +kernel
theorem dX8_rimCell_25 : decode cX8_rimCell 25 = .ok (.iadd, 1) := by decide +kernel
theorem dX8_rimCell_26 : decode cX8_rimCell 26 = .ok (.goto 24, 3) := by decide +kernel
theorem dX8_rimCell_29 : decode cX8_rimCell 29 = .ok (.iload_n 0, 1) := by decide +kernel
theorem dX8_rimCell_30 : decode cX8_rimCell 30 = .ok (.bipush 31, 2) := by decide +kernel
theorem dX8_rimCell_32 : decode cX8_rimCell 32 = .ok (.if_icmp .ge 11, 3) := by decide +kernel
theorem dX8_rimCell_35 : decode cX8_rimCell 35 = .ok (.sipush 140, 3) := by decide +kernel
theorem dX8_rimCell_38 : decode cX8_rimCell 38 = .ok (.iload_n 0, 1) := by decide +kernel
theorem dX8_rimCell_39 : decode cX8_rimCell 39 = .ok (.isub, 1) := by decide +kernel
theorem dX8_rimCell_40 : decode cX8_rimCell 40 = .ok (.goto 10, 3) := by decide +kernel
theorem dX8_rimCell_43 : decode cX8_rimCell 43 = .ok (.bipush 11, 2) := by decide +kernel
theorem dX8_rimCell_45 : decode cX8_rimCell 45 = .ok (.bipush 40, 2) := by decide +kernel
theorem dX8_rimCell_47 : decode cX8_rimCell 47 = .ok (.iload_n 0, 1) := by decide +kernel
theorem dX8_rimCell_48 : decode cX8_rimCell 48 = .ok (.isub, 1) := by decide +kernel
theorem dX8_rimCell_49 : decode cX8_rimCell 49 = .ok (.imul, 1) := by decide +kernel
theorem dX8_rimCell_50 : decode cX8_rimCell 50 = .ok (.ireturn, 1) := by decide +kernel
set_option maxRecDepth 20000 in
theorem ggX8_rimOf_X8_rimCell : GoodIn wsX8_rimOf wsX8_rimCell := goodIn_r _ [4] (by decide +kernel) (by decide +kernel)
set_option maxRecDepth 20000 in
theorem gX8_rimOf_X8_rimCell : GoodIn wsX8_rimOf (va_wsS RX8 55 yX8_rimCell wsX8_rimCell) := goodIn_app (goodIn_of _ (by decide +kernel)) ggX8_rimOf_X8_rimCell
theorem dX8_rimOf_0 : decode cX8_rimOf 0 = .ok (.bipush (-4), 2) := by decide +kernel
theorem dX8_rimOf_2 : decode cX8_rimOf 2 = .ok (.istore_n 1, 1) := by decide +kernel
theorem dX8_rimOf_3 : decode cX8_rimOf 3 = .ok (.iconst 0, 1) := by decide +kernel
theorem dX8_rimOf_4 : decode cX8_rimOf 4 = .ok (.istore_n 2, 1) := by decide +kernel
theorem dX8_rimOf_5 : decode cX8_rimOf 5 = .ok (.iload_n 2, 1) := by decide +kernel
theorem dX8_rimOf_6 : decode cX8_rimOf 6 = .ok (.bipush 40, 2) := by decide +kernel
theorem dX8_rimOf_8 : decode cX8_rimOf 8 = .ok (.if_icmp .ge 23, 3) := by decide +kernel
theorem dX8_rimOf_11 : decode cX8_rimOf 11 = .ok (.iload_n 2, 1) := by decide +kernel
theorem dX8_rimOf_12 : decode cX8_rimOf 12 = .ok (.invokestatic 55, 3) := by decide +kernel
theorem dX8_rimOf_15 : decode cX8_rimOf 15 = .ok (.iload_n 0, 1) := by decide +kernel
theorem dX8_rimOf_16 : decode cX8_rimOf 16 = .ok (.if_icmp .ne 7, 3) := by decide +kernel
theorem dX8_rimOf_19 : decode cX8_rimOf 19 = .ok (.iload_n 2, 1) := by decide +kernel
theorem dX8_rimOf_20 : decode cX8_rimOf 20 = .ok (.goto 4, 3) := by decide +kernel
theorem dX8_rimOf_23 : decode cX8_rimOf 23 = .ok (.iload_n 1, 1) := by decide +kernel
theorem dX8_rimOf_24 : decode cX8_rimOf 24 = .ok (.istore_n 1, 1) := by decide +kernel
theorem dX8_rimOf_25 : decode cX8_rimOf 25 = .ok (.iinc 2 1, 3) := by decide +kernel
theorem dX8_rimOf_28 : decode cX8_rimOf 28 = .ok (.goto (-23), 3) := by decide +kernel
theorem dX8_rimOf_31 : decode cX8_rimOf 31 = .ok (.iload_n 1, 1) := by decide +kernel
theorem dX8_rimOf_32 : decode cX8_rimOf 32 = .ok (.ireturn, 1) := by decide +kernel
set_option maxRecDepth 20000 in
theorem ggX8_isRim_X8_in : GoodIn wsX8_isRim wsX8_in := goodIn_r _ [4] (by decide +kernel) (by decide +kernel)
set_option maxRecDepth 20000 in
theorem gX8_isRim_X8_in : GoodIn wsX8_isRim (va_wsS RX8 47 yX8_in wsX8_in) := goodIn_app (goodIn_of _ (by decide +kernel)) ggX8_isRim_X8_in
theorem dX8_isRim_0 : decode cX8_isRim 0 = .ok (.iload_n 0, 1) := by decide +kernel
theorem dX8_isRim_1 : decode cX8_isRim 1 = .ok (.iconst 0, 1) := by decide +kernel
theorem dX8_isRim_2 : decode cX8_isRim 2 = .ok (.bipush 39, 2) := by decide +kernel
theorem dX8_isRim_4 : decode cX8_isRim 4 = .ok (.invokestatic 47, 3) := by decide +kernel
theorem dX8_isRim_7 : decode cX8_isRim 7 = .ok (.ireturn, 1) := by decide +kernel
set_option maxRecDepth 20000 in
theorem ggX8_isGrain_X8_in : GoodIn wsX8_isGrain wsX8_in := goodIn_r _ [5] (by decide +kernel) (by decide +kernel)
set_option maxRecDepth 20000 in
theorem gX8_isGrain_X8_in : GoodIn wsX8_isGrain (va_wsS RX8 47 yX8_in wsX8_in) := goodIn_app (goodIn_of _ (by decide +kernel)) ggX8_isGrain_X8_in
theorem dX8_isGrain_0 : decode cX8_isGrain 0 = .ok (.iload_n 1, 1) := by decide +kernel
theorem dX8_isGrain_1 : decode cX8_isGrain 1 = .ok (.iconst 0, 1) := by decide +kernel
theorem dX8_isGrain_2 : decode cX8_isGrain 2 = .ok (.aload_n 0, 1) := by decide +kernel
theorem dX8_isGrain_3 : decode cX8_isGrain 3 = .ok (.getfield 7, 3) := by decide +kernel
theorem dX8_isGrain_6 : decode cX8_isGrain 6 = .ok (.iconst 0, 1) := by decide +kernel
theorem dX8_isGrain_7 : decode cX8_isGrain 7 = .ok (.iaload, 1) := by decide +kernel
theorem dX8_isGrain_8 : decode cX8_isGrain 8 = .ok (.iconst 1, 1) := by decide +kernel
theorem dX8_isGrain_9 : decode cX8_isGrain 9 = .ok (.isub, 1) := by decide +kernel
theorem dX8_isGrain_10 : decode cX8_isGrain 10 = .ok (.invokestatic 47, 3) := by decide +kernel
theorem dX8_isGrain_13 : decode cX8_isGrain 13 = .ok (.ireturn, 1) := by decide +kernel
theorem dX8_of_0 : decode cX8_of 0 = .ok (.aload_n 0, 1) := by decide +kernel
theorem dX8_of_1 : decode cX8_of 1 = .ok (.getfield 7, 3) := by decide +kernel
theorem dX8_of_4 : decode cX8_of 4 = .ok (.bipush 10, 2) := by decide +kernel
theorem dX8_of_6 : decode cX8_of 6 = .ok (.iconst 3, 1) := by decide +kernel
theorem dX8_of_7 : decode cX8_of 7 = .ok (.iload_n 1, 1) := by decide +kernel
theorem dX8_of_8 : decode cX8_of 8 = .ok (.imul, 1) := by decide +kernel
theorem dX8_of_9 : decode cX8_of 9 = .ok (.iadd, 1) := by decide +kernel
theorem dX8_of_10 : decode cX8_of 10 = .ok (.iload_n 2, 1) := by decide +kernel
theorem dX8_of_11 : decode cX8_of 11 = .ok (.iadd, 1) := by decide +kernel
theorem dX8_of_12 : decode cX8_of 12 = .ok (.iaload, 1) := by decide +kernel
theorem dX8_of_13 : decode cX8_of 13 = .ok (.ireturn, 1) := by decide +kernel
set_option maxRecDepth 20000 in
theorem ggX8_holder_X8_of : GoodIn wsX8_holder wsX8_of := goodIn_r _ [5, 6, 7, 8, 9, 10, 11, 12, 13, 14, 15, 16, 17, 18, 19, 20, 21, 22, 23, 24, 25, 26, 27] (by decide +kernel) (by decide +kernel)
set_option maxRecDepth 20000 in
theorem gX8_holder_X8_of : GoodIn wsX8_holder (wsV RX8 58 RX8 yX8_of wsX8_of) := goodIn_app (goodIn_of _ (by decide +kernel)) ggX8_holder_X8_of
theorem dX8_holder_0 : decode cX8_holder 0 = .ok (.aload_n 0, 1) := by decide +kernel
theorem dX8_holder_1 : decode cX8_holder 1 = .ok (.iload_n 1, 1) := by decide +kernel
theorem dX8_holder_2 : decode cX8_holder 2 = .ok (.iconst 1, 1) := by decide +kernel
theorem dX8_holder_3 : decode cX8_holder 3 = .ok (.invokevirtual 58, 3) := by decide +kernel
theorem dX8_holder_6 : decode cX8_holder 6 = .ok (.iconst 1, 1) := by decide +kernel
theorem dX8_holder_7 : decode cX8_holder 7 = .ok (.isub, 1) := by decide +kernel
theorem dX8_holder_8 : decode cX8_holder 8 = .ok (.ireturn, 1) := by decide +kernel
set_option maxRecDepth 20000 in
theorem ggX8_grainAt_X8_of : GoodIn wsX8_grainAt wsX8_of := goodIn_r _ [6, 1, 7, 8, 9, 10, 11, 12, 13, 14, 15, 16, 17, 18, 19, 20, 21, 22, 23, 24, 25, 26, 27] (by decide +kernel) (by decide +kernel)
set_option maxRecDepth 20000 in
theorem gX8_grainAt_X8_of : GoodIn wsX8_grainAt (wsV RX8 58 RX8 yX8_of wsX8_of) := goodIn_app (goodIn_of _ (by decide +kernel)) ggX8_grainAt_X8_of
theorem dX8_grainAt_0 : decode cX8_grainAt 0 = .ok (.bipush (-4), 2) := by decide +kernel
theorem dX8_grainAt_2 : decode cX8_grainAt 2 = .ok (.istore_n 2, 1) := by decide +kernel
theorem dX8_grainAt_3 : decode cX8_grainAt 3 = .ok (.iconst 0, 1) := by decide +kernel
theorem dX8_grainAt_4 : decode cX8_grainAt 4 = .ok (.istore_n 3, 1) := by decide +kernel
theorem dX8_grainAt_5 : decode cX8_grainAt 5 = .ok (.iload_n 3, 1) := by decide +kernel
theorem dX8_grainAt_6 : decode cX8_grainAt 6 = .ok (.aload_n 0, 1) := by decide +kernel
theorem dX8_grainAt_7 : decode cX8_grainAt 7 = .ok (.getfield 7, 3) := by decide +kernel
theorem dX8_grainAt_10 : decode cX8_grainAt 10 = .ok (.iconst 0, 1) := by decide +kernel
theorem dX8_grainAt_11 : decode cX8_grainAt 11 = .ok (.iaload, 1) := by decide +kernel
theorem dX8_grainAt_12 : decode cX8_grainAt 12 = .ok (.if_icmp .ge 25, 3) := by decide +kernel
theorem dX8_grainAt_15 : decode cX8_grainAt 15 = .ok (.aload_n 0, 1) := by decide +kernel
theorem dX8_grainAt_16 : decode cX8_grainAt 16 = .ok (.iload_n 3, 1) := by decide +kernel
theorem dX8_grainAt_17 : decode cX8_grainAt 17 = .ok (.iconst 0, 1) := by decide +kernel
theorem dX8_grainAt_18 : decode cX8_grainAt 18 = .ok (.invokevirtual 58, 3) := by decide +kernel
theorem dX8_grainAt_21 : decode cX8_grainAt 21 = .ok (.iload_n 1, 1) := by decide +kernel
theorem dX8_grainAt_22 : decode cX8_grainAt 22 = .ok (.if_icmp .ne 7, 3) := by decide +kernel
theorem dX8_grainAt_25 : decode cX8_grainAt 25 = .ok (.iload_n 3, 1) := by decide +kernel
theorem dX8_grainAt_26 : decode cX8_grainAt 26 = .ok (.goto 4, 3) := by decide +kernel
theorem dX8_grainAt_29 : decode cX8_grainAt 29 = .ok (.iload_n 2, 1) := by decide +kernel
theorem dX8_grainAt_30 : decode cX8_grainAt 30 = .ok (.istore_n 2, 1) := by decide +kernel
theorem dX8_grainAt_31 : decode cX8_grainAt 31 = .ok (.iinc 3 1, 3) := by decide +kernel
theorem dX8_grainAt_34 : decode cX8_grainAt 34 = .ok (.goto (-29), 3) := by decide +kernel
theorem dX8_grainAt_37 : decode cX8_grainAt 37 = .ok (.iload_n 2, 1) := by decide +kernel
theorem dX8_grainAt_38 : decode cX8_grainAt 38 = .ok (.ireturn, 1) := by decide +kernel
theorem dX8_adds_0 : decode cX8_adds 0 = .ok (.bipush 10, 2) := by decide +kernel
theorem dX8_adds_2 : decode cX8_adds 2 = .ok (.iconst 3, 1) := by decide +kernel
theorem dX8_adds_3 : decode cX8_adds 3 = .ok (.aload_n 0, 1) := by decide +kernel
theorem dX8_adds_4 : decode cX8_adds 4 = .ok (.getfield 7, 3) := by decide +kernel
theorem dX8_adds_7 : decode cX8_adds 7 = .ok (.iconst 0, 1) := by decide +kernel
theorem dX8_adds_8 : decode cX8_adds 8 = .ok (.iaload, 1) := by decide +kernel
theorem dX8_adds_9 : decode cX8_adds 9 = .ok (.imul, 1) := by decide +kernel
theorem dX8_adds_10 : decode cX8_adds 10 = .ok (.iadd, 1) := by decide +kernel
theorem dX8_adds_11 : decode cX8_adds 11 = .ok (.istore 4, 2) := by decide +kernel
theorem dX8_adds_13 : decode cX8_adds 13 = .ok (.aload_n 0, 1) := by decide +kernel
theorem dX8_adds_14 : decode cX8_adds 14 = .ok (.getfield 7, 3) := by decide +kernel
theorem dX8_adds_17 : decode cX8_adds 17 = .ok (.iload 4, 2) := by decide +kernel
theorem dX8_adds_19 : decode cX8_adds 19 = .ok (.iconst 0, 1) := by decide +kernel
theorem dX8_adds_20 : decode cX8_adds 20 = .ok (.iadd, 1) := by decide +kernel
theorem dX8_adds_21 : decode cX8_adds 21 = .ok (.iload_n 1, 1) := by decide +kernel
theorem dX8_adds_22 : decode cX8_adds 22 = .ok (.iastore, 1) := by decide +kernel
theorem dX8_adds_23 : decode cX8_adds 23 = .ok (.aload_n 0, 1) := by decide +kernel
theorem dX8_adds_24 : decode cX8_adds 24 = .ok (.getfield 7, 3) := by decide +kernel
theorem dX8_adds_27 : decode cX8_adds 27 = .ok (.iload 4, 2) := by decide +kernel
theorem dX8_adds_29 : decode cX8_adds 29 = .ok (.iconst 1, 1) := by decide +kernel
theorem dX8_adds_30 : decode cX8_adds 30 = .ok (.iadd, 1) := by decide +kernel
theorem dX8_adds_31 : decode cX8_adds 31 = .ok (.iload_n 2, 1) := by decide +kernel
theorem dX8_adds_32 : decode cX8_adds 32 = .ok (.iconst 1, 1) := by decide +kernel
theorem dX8_adds_33 : decode cX8_adds 33 = .ok (.iadd, 1) := by decide +kernel
theorem dX8_adds_34 : decode cX8_adds 34 = .ok (.iastore, 1) := by decide +kernel
theorem dX8_adds_35 : decode cX8_adds 35 = .ok (.aload_n 0, 1) := by decide +kernel
theorem dX8_adds_36 : decode cX8_adds 36 = .ok (.getfield 7, 3) := by decide +kernel
theorem dX8_adds_39 : decode cX8_adds 39 = .ok (.iload 4, 2) := by decide +kernel
theorem dX8_adds_41 : decode cX8_adds 41 = .ok (.iconst 2, 1) := by decide +kernel
theorem dX8_adds_42 : decode cX8_adds 42 = .ok (.iadd, 1) := by decide +kernel
theorem dX8_adds_43 : decode cX8_adds 43 = .ok (.iload_n 3, 1) := by decide +kernel
theorem dX8_adds_44 : decode cX8_adds 44 = .ok (.iastore, 1) := by decide +kernel
theorem dX8_adds_45 : decode cX8_adds 45 = .ok (.aload_n 0, 1) := by decide +kernel
theorem dX8_adds_46 : decode cX8_adds 46 = .ok (.getfield 7, 3) := by decide +kernel
theorem dX8_adds_49 : decode cX8_adds 49 = .ok (.iconst 0, 1) := by decide +kernel
theorem dX8_adds_50 : decode cX8_adds 50 = .ok (.dup2, 1) := by decide +kernel
theorem dX8_adds_51 : decode cX8_adds 51 = .ok (.iaload, 1) := by decide +kernel
theorem dX8_adds_52 : decode cX8_adds 52 = .ok (.iconst 1, 1) := by decide +kernel
theorem dX8_adds_53 : decode cX8_adds 53 = .ok (.iadd, 1) := by decide +kernel
theorem dX8_adds_54 : decode cX8_adds 54 = .ok (.iastore, 1) := by decide +kernel
theorem dX8_adds_55 : decode cX8_adds 55 = .ok (.return_, 1) := by decide +kernel
set_option maxRecDepth 20000 in
theorem ggX8_roots_X8_ringOf : GoodIn wsX8_roots wsX8_ringOf := goodIn_r _ [5, 6, 7, 4, 8] (by decide +kernel) (by decide +kernel)
set_option maxRecDepth 20000 in
theorem gX8_roots_X8_ringOf : GoodIn wsX8_roots (va_wsS RX8 62 yX8_ringOf wsX8_ringOf) := goodIn_app (goodIn_of _ (by decide +kernel)) ggX8_roots_X8_ringOf
set_option maxRecDepth 20000 in
theorem ggX8_roots_X8_adds : GoodIn wsX8_roots wsX8_adds := goodIn_r _ [12, 1, 13, 14, 15, 16, 17, 18, 19, 20, 21, 22, 23, 24, 25, 26, 27, 28, 29, 30, 31, 32, 33] (by decide +kernel) (by decide +kernel)
set_option maxRecDepth 20000 in
theorem gX8_roots_X8_adds : GoodIn wsX8_roots (wsV RX8 65 RX8 yX8_adds wsX8_adds) := goodIn_app (goodIn_of _ (by decide +kernel)) ggX8_roots_X8_adds
theorem dX8_roots_0 : decode cX8_roots 0 = .ok (.aload_n 0, 1) := by decide +kernel
theorem dX8_roots_1 : decode cX8_roots 1 = .ok (.getfield 7, 3) := by decide +kernel
theorem dX8_roots_4 : decode cX8_roots 4 = .ok (.iconst 0, 1) := by decide +kernel
theorem dX8_roots_5 : decode cX8_roots 5 = .ok (.iconst 0, 1) := by decide +kernel
theorem dX8_roots_6 : decode cX8_roots 6 = .ok (.iastore, 1) := by decide +kernel
theorem dX8_roots_7 : decode cX8_roots 7 = .ok (.iconst 0, 1) := by decide +kernel
theorem dX8_roots_8 : decode cX8_roots 8 = .ok (.istore_n 2, 1) := by decide +kernel
theorem dX8_roots_9 : decode cX8_roots 9 = .ok (.iload_n 2, 1) := by decide +kernel
theorem dX8_roots_10 : decode cX8_roots 10 = .ok (.bipush 121, 2) := by decide +kernel
theorem dX8_roots_12 : decode cX8_roots 12 = .ok (.if_icmp .ge 71, 3) := by decide +kernel
theorem dX8_roots_15 : decode cX8_roots 15 = .ok (.iload_n 1, 1) := by decide +kernel
theorem dX8_roots_16 : decode cX8_roots 16 = .ok (.ifCond .ne 17, 3) := by decide +kernel
theorem dX8_roots_19 : decode cX8_roots 19 = .ok (.iload_n 2, 1) := by decide +kernel
theorem dX8_roots_20 : decode cX8_roots 20 = .ok (.bipush 60, 2) := by decide +kernel
theorem dX8_roots_22 : decode cX8_roots 22 = .ok (.if_icmp .ne 7, 3) := by decide +kernel
theorem dX8_roots_25 : decode cX8_roots 25 = .ok (.iconst 1, 1) := by decide +kernel
theorem dX8_roots_26 : decode cX8_roots 26 = .ok (.goto 39, 3) := by decide +kernel
theorem dX8_roots_29 : decode cX8_roots 29 = .ok (.iconst 0, 1) := by decide +kernel
theorem dX8_roots_30 : decode cX8_roots 30 = .ok (.goto 35, 3) := by decide +kernel
theorem dX8_roots_33 : decode cX8_roots 33 = .ok (.iload_n 1, 1) := by decide +kernel
theorem dX8_roots_34 : decode cX8_roots 34 = .ok (.iconst 1, 1) := by decide +kernel
theorem dX8_roots_35 : decode cX8_roots 35 = .ok (.if_icmp .ne 17, 3) := by decide +kernel
theorem dX8_roots_38 : decode cX8_roots 38 = .ok (.iload_n 2, 1) := by decide +kernel
theorem dX8_roots_39 : decode cX8_roots 39 = .ok (.bipush 110, 2) := by decide +kernel
theorem dX8_roots_41 : decode cX8_roots 41 = .ok (.if_icmp .lt 7, 3) := by decide +kernel
theorem dX8_roots_44 : decode cX8_roots 44 = .ok (.iconst 1, 1) := by decide +kernel
theorem dX8_roots_45 : decode cX8_roots 45 = .ok (.goto 20, 3) := by decide +kernel
theorem dX8_roots_48 : decode cX8_roots 48 = .ok (.iconst 0, 1) := by decide +kernel
theorem dX8_roots_49 : decode cX8_roots 49 = .ok (.goto 16, 3) := by decide +kernel
theorem dX8_roots_52 : decode cX8_roots 52 = .ok (.iload_n 2, 1) := by decide +kernel
theorem dX8_roots_53 : decode cX8_roots 53 = .ok (.invokestatic 62, 3) := by decide +kernel
theorem dX8_roots_56 : decode cX8_roots 56 = .ok (.iconst 2, 1) := by decide +kernel
theorem dX8_roots_57 : decode cX8_roots 57 = .ok (.if_icmp .ne 7, 3) := by decide +kernel
theorem dX8_roots_60 : decode cX8_roots 60 = .ok (.iconst 1, 1) := by decide +kernel
theorem dX8_roots_61 : decode cX8_roots 61 = .ok (.goto 4, 3) := by decide +kernel
theorem dX8_roots_64 : decode cX8_roots 64 = .ok (.iconst 0, 1) := by decide +kernel
theorem dX8_roots_65 : decode cX8_roots 65 = .ok (.istore_n 3, 1) := by decide +kernel
theorem dX8_roots_66 : decode cX8_roots 66 = .ok (.iload_n 3, 1) := by decide +kernel
theorem dX8_roots_67 : decode cX8_roots 67 = .ok (.ifCond .eq 10, 3) := by decide +kernel
theorem dX8_roots_70 : decode cX8_roots 70 = .ok (.aload_n 0, 1) := by decide +kernel
theorem dX8_roots_71 : decode cX8_roots 71 = .ok (.iload_n 2, 1) := by decide +kernel
theorem dX8_roots_72 : decode cX8_roots 72 = .ok (.iconst (-1), 1) := by decide +kernel
theorem dX8_roots_73 : decode cX8_roots 73 = .ok (.iconst 0, 1) := by decide +kernel
theorem dX8_roots_74 : decode cX8_roots 74 = .ok (.invokevirtual 65, 3) := by decide +kernel
theorem dX8_roots_77 : decode cX8_roots 77 = .ok (.iinc 2 1, 3) := by decide +kernel
theorem dX8_roots_80 : decode cX8_roots 80 = .ok (.goto (-71), 3) := by decide +kernel
theorem dX8_roots_83 : decode cX8_roots 83 = .ok (.return_, 1) := by decide +kernel
set_option maxRecDepth 20000 in
theorem ggX8_grainBeside_X8_beside : GoodIn wsX8_grainBeside wsX8_beside := goodIn_r _ [4, 5, 6, 3, 7] (by decide +kernel) (by decide +kernel)
set_option maxRecDepth 20000 in
theorem gX8_grainBeside_X8_beside : GoodIn wsX8_grainBeside (va_wsS RX8 69 yX8_beside wsX8_beside) := goodIn_app (goodIn_of _ (by decide +kernel)) ggX8_grainBeside_X8_beside
set_option maxRecDepth 20000 in
theorem ggX8_grainBeside_X8_grainAt : GoodIn wsX8_grainBeside wsX8_grainAt := goodIn_r _ [11, 12, 13, 14, 15, 3, 16, 17, 18, 19, 20, 21, 22, 23, 24, 25, 26, 27, 28, 29, 30, 31, 32, 33, 34, 35, 36, 37] (by decide +kernel) (by decide +kernel)
set_option maxRecDepth 20000 in
theorem gX8_grainBeside_X8_grainAt : GoodIn wsX8_grainBeside (wsV RX8 72 RX8 yX8_grainAt wsX8_grainAt) := goodIn_app (goodIn_of _ (by decide +kernel)) ggX8_grainBeside_X8_grainAt
theorem dX8_grainBeside_0 : decode cX8_grainBeside 0 = .ok (.bipush (-4), 2) := by decide +kernel
theorem dX8_grainBeside_2 : decode cX8_grainBeside 2 = .ok (.istore_n 2, 1) := by decide +kernel
theorem dX8_grainBeside_3 : decode cX8_grainBeside 3 = .ok (.iconst 3, 1) := by decide +kernel
theorem dX8_grainBeside_4 : decode cX8_grainBeside 4 = .ok (.istore_n 3, 1) := by decide +kernel
theorem dX8_grainBeside_5 : decode cX8_grainBeside 5 = .ok (.iload_n 3, 1) := by decide +kernel
theorem dX8_grainBeside_6 : decode cX8_grainBeside 6 = .ok (.ifCond .lt 46, 3) := by decide +kernel
theorem dX8_grainBeside_9 : decode cX8_grainBeside 9 = .ok (.iload_n 1, 1) := by decide +kernel
theorem dX8_grainBeside_10 : decode cX8_grainBeside 10 = .ok (.iload_n 3, 1) := by decide +kernel
theorem dX8_grainBeside_11 : decode cX8_grainBeside 11 = .ok (.invokestatic 69, 3) := by decide +kernel
theorem dX8_grainBeside_14 : decode cX8_grainBeside 14 = .ok (.istore 4, 2) := by decide +kernel
theorem dX8_grainBeside_16 : decode cX8_grainBeside 16 = .ok (.iload 4, 2) := by decide +kernel
theorem dX8_grainBeside_18 : decode cX8_grainBeside 18 = .ok (.ifCond .ge 8, 3) := by decide +kernel
theorem dX8_grainBeside_21 : decode cX8_grainBeside 21 = .ok (.bipush (-4), 2) := by decide +kernel
theorem dX8_grainBeside_23 : decode cX8_grainBeside 23 = .ok (.goto 9, 3) := by decide +kernel
theorem dX8_grainBeside_26 : decode cX8_grainBeside 26 = .ok (.aload_n 0, 1) := by decide +kernel
theorem dX8_grainBeside_27 : decode cX8_grainBeside 27 = .ok (.iload 4, 2) := by decide +kernel
theorem dX8_grainBeside_29 : decode cX8_grainBeside 29 = .ok (.invokevirtual 72, 3) := by decide +kernel
theorem dX8_grainBeside_32 : decode cX8_grainBeside 32 = .ok (.istore 5, 2) := by decide +kernel
theorem dX8_grainBeside_34 : decode cX8_grainBeside 34 = .ok (.iload 5, 2) := by decide +kernel
theorem dX8_grainBeside_36 : decode cX8_grainBeside 36 = .ok (.ifCond .ge 7, 3) := by decide +kernel
theorem dX8_grainBeside_39 : decode cX8_grainBeside 39 = .ok (.iload_n 2, 1) := by decide +kernel
theorem dX8_grainBeside_40 : decode cX8_grainBeside 40 = .ok (.goto 5, 3) := by decide +kernel
theorem dX8_grainBeside_43 : decode cX8_grainBeside 43 = .ok (.iload 5, 2) := by decide +kernel
theorem dX8_grainBeside_45 : decode cX8_grainBeside 45 = .ok (.istore_n 2, 1) := by decide +kernel
theorem dX8_grainBeside_46 : decode cX8_grainBeside 46 = .ok (.iinc 3 (-1), 3) := by decide +kernel
theorem dX8_grainBeside_49 : decode cX8_grainBeside 49 = .ok (.goto (-44), 3) := by decide +kernel
theorem dX8_grainBeside_52 : decode cX8_grainBeside 52 = .ok (.iload_n 2, 1) := by decide +kernel
theorem dX8_grainBeside_53 : decode cX8_grainBeside 53 = .ok (.ireturn, 1) := by decide +kernel
set_option maxRecDepth 20000 in
theorem ggX8_besides_X8_beside : GoodIn wsX8_besides wsX8_beside := goodIn_r _ [4, 5, 6, 3, 7] (by decide +kernel) (by decide +kernel)
set_option maxRecDepth 20000 in
theorem gX8_besides_X8_beside : GoodIn wsX8_besides (va_wsS RX8 69 yX8_beside wsX8_beside) := goodIn_app (goodIn_of _ (by decide +kernel)) ggX8_besides_X8_beside
set_option maxRecDepth 20000 in
theorem ggX8_besides_X8_grainAt : GoodIn wsX8_besides wsX8_grainAt := goodIn_r _ [11, 12, 13, 14, 15, 3, 16, 17, 18, 19, 20, 21, 22, 23, 24, 25, 26, 27, 28, 29, 30, 31, 32, 33, 34, 35, 36, 37] (by decide +kernel) (by decide +kernel)
set_option maxRecDepth 20000 in
theorem gX8_besides_X8_grainAt : GoodIn wsX8_besides (wsV RX8 72 RX8 yX8_grainAt wsX8_grainAt) := goodIn_app (goodIn_of _ (by decide +kernel)) ggX8_besides_X8_grainAt
theorem dX8_besides_0 : decode cX8_besides 0 = .ok (.iconst 0, 1) := by decide +kernel
theorem dX8_besides_1 : decode cX8_besides 1 = .ok (.istore_n 2, 1) := by decide +kernel
theorem dX8_besides_2 : decode cX8_besides 2 = .ok (.iconst 0, 1) := by decide +kernel
theorem dX8_besides_3 : decode cX8_besides 3 = .ok (.istore_n 3, 1) := by decide +kernel
theorem dX8_besides_4 : decode cX8_besides 4 = .ok (.iload_n 3, 1) := by decide +kernel
theorem dX8_besides_5 : decode cX8_besides 5 = .ok (.iconst 4, 1) := by decide +kernel
theorem dX8_besides_6 : decode cX8_besides 6 = .ok (.if_icmp .ge 38, 3) := by decide +kernel
theorem dX8_besides_9 : decode cX8_besides 9 = .ok (.iload_n 1, 1) := by decide +kernel
theorem dX8_besides_10 : decode cX8_besides 10 = .ok (.iload_n 3, 1) := by decide +kernel
theorem dX8_besides_11 : decode cX8_besides 11 = .ok (.invokestatic 69, 3) := by decide +kernel
theorem dX8_besides_14 : decode cX8_besides 14 = .ok (.istore 4, 2) := by decide +kernel
theorem dX8_besides_16 : decode cX8_besides 16 = .ok (.iload_n 2, 1) := by decide +kernel
theorem dX8_besides_17 : decode cX8_besides 17 = .ok (.iload 4, 2) := by decide +kernel
theorem dX8_besides_19 : decode cX8_besides 19 = .ok (.ifCond .lt 16, 3) := by decide +kernel
theorem dX8_besides_22 : decode cX8_besides 22 = .ok (.aload_n 0, 1) := by decide +kernel
theorem dX8_besides_23 : decode cX8_besides 23 = .ok (.iload 4, 2) := by decide +kernel
theorem dX8_besides_25 : decode cX8_besides 25 = .ok (.invokevirtual 72, 3) := by decide +kernel
theorem dX8_besides_28 : decode cX8_besides 28 = .ok (.ifCond .lt 7, 3) := by decide +kernel
theorem dX8_besides_31 : decode cX8_besides 31 = .ok (.iconst 1, 1) := by decide +kernel
theorem dX8_besides_32 : decode cX8_besides 32 = .ok (.goto 4, 3) := by decide +kernel
theorem dX8_besides_35 : decode cX8_besides 35 = .ok (.iconst 0, 1) := by decide +kernel
theorem dX8_besides_36 : decode cX8_besides 36 = .ok (.iadd, 1) := by decide +kernel
theorem dX8_besides_37 : decode cX8_besides 37 = .ok (.istore_n 2, 1) := by decide +kernel
theorem dX8_besides_38 : decode cX8_besides 38 = .ok (.iinc 3 1, 3) := by decide +kernel
theorem dX8_besides_41 : decode cX8_besides 41 = .ok (.goto (-37), 3) := by decide +kernel
theorem dX8_besides_44 : decode cX8_besides 44 = .ok (.iload_n 2, 1) := by decide +kernel
theorem dX8_besides_45 : decode cX8_besides 45 = .ok (.ireturn, 1) := by decide +kernel
theorem dX8_draws_0 : decode cX8_draws 0 = .ok (.aload_n 0, 1) := by decide +kernel
theorem dX8_draws_1 : decode cX8_draws 1 = .ok (.getfield 7, 3) := by decide +kernel
theorem dX8_draws_4 : decode cX8_draws 4 = .ok (.iconst 1, 1) := by decide +kernel
theorem dX8_draws_5 : decode cX8_draws 5 = .ok (.sipush 421, 3) := by decide +kernel
theorem dX8_draws_8 : decode cX8_draws 8 = .ok (.aload_n 0, 1) := by decide +kernel
theorem dX8_draws_9 : decode cX8_draws 9 = .ok (.getfield 7, 3) := by decide +kernel
theorem dX8_draws_12 : decode cX8_draws 12 = .ok (.iconst 1, 1) := by decide +kernel
theorem dX8_draws_13 : decode cX8_draws 13 = .ok (.iaload, 1) := by decide +kernel
theorem dX8_draws_14 : decode cX8_draws 14 = .ok (.imul, 1) := by decide +kernel
theorem dX8_draws_15 : decode cX8_draws 15 = .ok (.sipush 1663, 3) := by decide +kernel
theorem dX8_draws_18 : decode cX8_draws 18 = .ok (.iadd, 1) := by decide +kernel
theorem dX8_draws_19 : decode cX8_draws 19 = .ok (.sipush 10000, 3) := by decide +kernel
theorem dX8_draws_22 : decode cX8_draws 22 = .ok (.irem, 1) := by decide +kernel
theorem dX8_draws_23 : decode cX8_draws 23 = .ok (.iastore, 1) := by decide +kernel
theorem dX8_draws_24 : decode cX8_draws 24 = .ok (.aload_n 0, 1) := by decide +kernel
theorem dX8_draws_25 : decode cX8_draws 25 = .ok (.dup, 1) := by decide +kernel
theorem dX8_draws_26 : decode cX8_draws 26 = .ok (.getfield 75, 3) := by decide +kernel
theorem dX8_draws_29 : decode cX8_draws 29 = .ok (.iconst 1, 1) := by decide +kernel
theorem dX8_draws_30 : decode cX8_draws 30 = .ok (.iadd, 1) := by decide +kernel
theorem dX8_draws_31 : decode cX8_draws 31 = .ok (.putfield 75, 3) := by decide +kernel
theorem dX8_draws_34 : decode cX8_draws 34 = .ok (.aload_n 0, 1) := by decide +kernel
theorem dX8_draws_35 : decode cX8_draws 35 = .ok (.getfield 7, 3) := by decide +kernel
theorem dX8_draws_38 : decode cX8_draws 38 = .ok (.iconst 1, 1) := by decide +kernel
theorem dX8_draws_39 : decode cX8_draws 39 = .ok (.iaload, 1) := by decide +kernel
theorem dX8_draws_40 : decode cX8_draws 40 = .ok (.ireturn, 1) := by decide +kernel
set_option maxRecDepth 20000 in
theorem ggX8_walks_X8_grainBeside : GoodIn wsX8_walks wsX8_grainBeside := goodIn_r _ [9, 10, 11, 8, 12, 13, 14, 15, 16, 17, 18, 19, 4, 20, 21, 22, 23, 32, 33, 34, 35, 36, 37, 38, 39, 40, 41, 42, 43, 44, 45, 46, 47, 48, 49, 50, 51, 52] (by decide +kernel) (by decide +kernel)
set_option maxRecDepth 20000 in
theorem gX8_walks_X8_grainBeside : GoodIn wsX8_walks (wsV RX8 84 RX8 yX8_grainBeside wsX8_grainBeside) := goodIn_app (goodIn_of _ (by decide +kernel)) ggX8_walks_X8_grainBeside
set_option maxRecDepth 20000 in
theorem ggX8_walks_X8_draws : GoodIn wsX8_walks wsX8_draws := goodIn_r _ [27, 4, 3, 32, 33, 34, 35, 36, 37, 38, 39, 40, 41, 42, 43, 44, 45, 46, 47, 48, 49, 50, 51, 52] (by decide +kernel) (by decide +kernel)
set_option maxRecDepth 20000 in
theorem gX8_walks_X8_draws : GoodIn wsX8_walks (wsV RX8 87 RX8 yX8_draws wsX8_draws) := goodIn_app (goodIn_of _ (by decide +kernel)) ggX8_walks_X8_draws
set_option maxRecDepth 20000 in
theorem ggX8_walks_X8_makesStep : GoodIn wsX8_walks wsX8_makesStep := goodIn_r _ [31, 4, 1, 2, 24, 25, 26, 8, 27, 3, 10, 11, 12, 13, 14, 15, 16, 17, 18, 19, 20, 21, 22, 23, 32, 33, 34, 35, 36, 37, 38, 39, 40, 41, 42, 43, 44, 45, 46, 47, 48, 49, 50, 51, 52] (by decide +kernel) (by decide +kernel)
set_option maxRecDepth 20000 in
theorem gX8_walks_X8_makesStep : GoodIn wsX8_walks (wsV RX8 91 RX8 yX8_makesStep wsX8_makesStep) := goodIn_app (goodIn_of _ (by decide +kernel)) ggX8_walks_X8_makesStep
theorem dX8_walks_0 : decode cX8_walks 0 = .ok (.aload_n 0, 1) := by decide +kernel
theorem dX8_walks_1 : decode cX8_walks 1 = .ok (.iload_n 1, 1) := by decide +kernel
theorem dX8_walks_2 : decode cX8_walks 2 = .ok (.putfield 78, 3) := by decide +kernel
theorem dX8_walks_5 : decode cX8_walks 5 = .ok (.aload_n 0, 1) := by decide +kernel
theorem dX8_walks_6 : decode cX8_walks 6 = .ok (.iconst 0, 1) := by decide +kernel
theorem dX8_walks_7 : decode cX8_walks 7 = .ok (.putfield 81, 3) := by decide +kernel
theorem dX8_walks_10 : decode cX8_walks 10 = .ok (.aload_n 0, 1) := by decide +kernel
theorem dX8_walks_11 : decode cX8_walks 11 = .ok (.iconst 0, 1) := by decide +kernel
theorem dX8_walks_12 : decode cX8_walks 12 = .ok (.putfield 75, 3) := by decide +kernel
theorem dX8_walks_15 : decode cX8_walks 15 = .ok (.iconst 1, 1) := by decide +kernel
theorem dX8_walks_16 : decode cX8_walks 16 = .ok (.istore_n 2, 1) := by decide +kernel
theorem dX8_walks_17 : decode cX8_walks 17 = .ok (.iconst 0, 1) := by decide +kernel
theorem dX8_walks_18 : decode cX8_walks 18 = .ok (.istore_n 3, 1) := by decide +kernel
theorem dX8_walks_19 : decode cX8_walks 19 = .ok (.iload_n 2, 1) := by decide +kernel
theorem dX8_walks_20 : decode cX8_walks 20 = .ok (.ifCond .eq 68, 3) := by decide +kernel
theorem dX8_walks_23 : decode cX8_walks 23 = .ok (.aload_n 0, 1) := by decide +kernel
theorem dX8_walks_24 : decode cX8_walks 24 = .ok (.aload_n 0, 1) := by decide +kernel
theorem dX8_walks_25 : decode cX8_walks 25 = .ok (.getfield 78, 3) := by decide +kernel
theorem dX8_walks_28 : decode cX8_walks 28 = .ok (.invokevirtual 84, 3) := by decide +kernel
theorem dX8_walks_31 : decode cX8_walks 31 = .ok (.ifCond .lt 22, 3) := by decide +kernel
theorem dX8_walks_34 : decode cX8_walks 34 = .ok (.aload_n 0, 1) := by decide +kernel
theorem dX8_walks_35 : decode cX8_walks 35 = .ok (.invokevirtual 87, 3) := by decide +kernel
theorem dX8_walks_38 : decode cX8_walks 38 = .ok (.iconst 4, 1) := by decide +kernel
theorem dX8_walks_39 : decode cX8_walks 39 = .ok (.irem, 1) := by decide +kernel
theorem dX8_walks_40 : decode cX8_walks 40 = .ok (.aload_n 0, 1) := by decide +kernel
theorem dX8_walks_41 : decode cX8_walks 41 = .ok (.getfield 7, 3) := by decide +kernel
theorem dX8_walks_44 : decode cX8_walks 44 = .ok (.iconst 2, 1) := by decide +kernel
theorem dX8_walks_45 : decode cX8_walks 45 = .ok (.iaload, 1) := by decide +kernel
theorem dX8_walks_46 : decode cX8_walks 46 = .ok (.if_icmp .ge 7, 3) := by decide +kernel
theorem dX8_walks_49 : decode cX8_walks 49 = .ok (.iconst 1, 1) := by decide +kernel
theorem dX8_walks_50 : decode cX8_walks 50 = .ok (.goto 4, 3) := by decide +kernel
theorem dX8_walks_53 : decode cX8_walks 53 = .ok (.iconst 0, 1) := by decide +kernel
theorem dX8_walks_54 : decode cX8_walks 54 = .ok (.istore_n 3, 1) := by decide +kernel
theorem dX8_walks_55 : decode cX8_walks 55 = .ok (.iload_n 3, 1) := by decide +kernel
theorem dX8_walks_56 : decode cX8_walks 56 = .ok (.ifCond .ne 27, 3) := by decide +kernel
theorem dX8_walks_59 : decode cX8_walks 59 = .ok (.aload_n 0, 1) := by decide +kernel
theorem dX8_walks_60 : decode cX8_walks 60 = .ok (.getfield 81, 3) := by decide +kernel
theorem dX8_walks_63 : decode cX8_walks 63 = .ok (.aload_n 0, 1) := by decide +kernel
theorem dX8_walks_64 : decode cX8_walks 64 = .ok (.getfield 7, 3) := by decide +kernel
theorem dX8_walks_67 : decode cX8_walks 67 = .ok (.iconst 3, 1) := by decide +kernel
theorem dX8_walks_68 : decode cX8_walks 68 = .ok (.iaload, 1) := by decide +kernel
theorem dX8_walks_69 : decode cX8_walks 69 = .ok (.if_icmp .ge 14, 3) := by decide +kernel
theorem dX8_walks_72 : decode cX8_walks 72 = .ok (.aload_n 0, 1) := by decide +kernel
theorem dX8_walks_73 : decode cX8_walks 73 = .ok (.invokevirtual 91, 3) := by decide +kernel
theorem dX8_walks_76 : decode cX8_walks 76 = .ok (.ifCond .eq 7, 3) := by decide +kernel
theorem dX8_walks_79 : decode cX8_walks 79 = .ok (.iconst 1, 1) := by decide +kernel
theorem dX8_walks_80 : decode cX8_walks 80 = .ok (.goto 4, 3) := by decide +kernel
theorem dX8_walks_83 : decode cX8_walks 83 = .ok (.iconst 0, 1) := by decide +kernel
theorem dX8_walks_84 : decode cX8_walks 84 = .ok (.istore_n 2, 1) := by decide +kernel
theorem dX8_walks_85 : decode cX8_walks 85 = .ok (.goto (-66), 3) := by decide +kernel
theorem dX8_walks_88 : decode cX8_walks 88 = .ok (.iload_n 3, 1) := by decide +kernel
theorem dX8_walks_89 : decode cX8_walks 89 = .ok (.ireturn, 1) := by decide +kernel
set_option maxRecDepth 20000 in
theorem ggX8_makesStep_X8_draws : GoodIn wsX8_makesStep wsX8_draws := goodIn_r _ [8, 1, 9, 24, 25, 26, 27, 28, 29, 30, 31, 32, 33, 34, 35, 36, 37, 38, 39, 40, 41, 42, 43, 44] (by decide +kernel) (by decide +kernel)
set_option maxRecDepth 20000 in
theorem gX8_makesStep_X8_draws : GoodIn wsX8_makesStep (wsV RX8 87 RX8 yX8_draws wsX8_draws) := goodIn_app (goodIn_of _ (by decide +kernel)) ggX8_makesStep_X8_draws
set_option maxRecDepth 20000 in
theorem ggX8_makesStep_X8_beside : GoodIn wsX8_makesStep wsX8_beside := goodIn_r _ [12, 13, 14, 7, 15] (by decide +kernel) (by decide +kernel)
set_option maxRecDepth 20000 in
theorem gX8_makesStep_X8_beside : GoodIn wsX8_makesStep (va_wsS RX8 69 yX8_beside wsX8_beside) := goodIn_app (goodIn_of _ (by decide +kernel)) ggX8_makesStep_X8_beside
set_option maxRecDepth 20000 in
theorem ggX8_makesStep_X8_grainAt : GoodIn wsX8_makesStep wsX8_grainAt := goodIn_r _ [19, 1, 20, 21, 22, 7, 23, 24, 25, 26, 27, 28, 29, 30, 31, 32, 33, 34, 35, 36, 37, 38, 39, 40, 41, 42, 43, 44] (by decide +kernel) (by decide +kernel)
set_option maxRecDepth 20000 in
theorem gX8_makesStep_X8_grainAt : GoodIn wsX8_makesStep (wsV RX8 72 RX8 yX8_grainAt wsX8_grainAt) := goodIn_app (goodIn_of _ (by decide +kernel)) ggX8_makesStep_X8_grainAt
theorem dX8_makesStep_0 : decode cX8_makesStep 0 = .ok (.aload_n 0, 1) := by decide +kernel
theorem dX8_makesStep_1 : decode cX8_makesStep 1 = .ok (.invokevirtual 87, 3) := by decide +kernel
theorem dX8_makesStep_4 : decode cX8_makesStep 4 = .ok (.iconst 4, 1) := by decide +kernel
theorem dX8_makesStep_5 : decode cX8_makesStep 5 = .ok (.aload_n 0, 1) := by decide +kernel
theorem dX8_makesStep_6 : decode cX8_makesStep 6 = .ok (.getfield 7, 3) := by decide +kernel
theorem dX8_makesStep_9 : decode cX8_makesStep 9 = .ok (.iconst 4, 1) := by decide +kernel
theorem dX8_makesStep_10 : decode cX8_makesStep 10 = .ok (.iaload, 1) := by decide +kernel
theorem dX8_makesStep_11 : decode cX8_makesStep 11 = .ok (.iadd, 1) := by decide +kernel
theorem dX8_makesStep_12 : decode cX8_makesStep 12 = .ok (.irem, 1) := by decide +kernel
theorem dX8_makesStep_13 : decode cX8_makesStep 13 = .ok (.istore_n 1, 1) := by decide +kernel
theorem dX8_makesStep_14 : decode cX8_makesStep 14 = .ok (.aload_n 0, 1) := by decide +kernel
theorem dX8_makesStep_15 : decode cX8_makesStep 15 = .ok (.getfield 78, 3) := by decide +kernel
theorem dX8_makesStep_18 : decode cX8_makesStep 18 = .ok (.iload_n 1, 1) := by decide +kernel
theorem dX8_makesStep_19 : decode cX8_makesStep 19 = .ok (.iconst 4, 1) := by decide +kernel
theorem dX8_makesStep_20 : decode cX8_makesStep 20 = .ok (.if_icmp .ge 7, 3) := by decide +kernel
theorem dX8_makesStep_23 : decode cX8_makesStep 23 = .ok (.iload_n 1, 1) := by decide +kernel
theorem dX8_makesStep_24 : decode cX8_makesStep 24 = .ok (.goto 9, 3) := by decide +kernel
theorem dX8_makesStep_27 : decode cX8_makesStep 27 = .ok (.aload_n 0, 1) := by decide +kernel
theorem dX8_makesStep_28 : decode cX8_makesStep 28 = .ok (.getfield 7, 3) := by decide +kernel
theorem dX8_makesStep_31 : decode cX8_makesStep 31 = .ok (.iconst 5, 1) := by decide +kernel
theorem dX8_makesStep_32 : decode cX8_makesStep 32 = .ok (.iaload, 1) := by decide +kernel
theorem dX8_makesStep_33 : decode cX8_makesStep 33 = .ok (.invokestatic 69, 3) := by decide +kernel
theorem dX8_makesStep_36 : decode cX8_makesStep 36 = .ok (.istore_n 2, 1) := by decide +kernel
theorem dX8_makesStep_37 : decode cX8_makesStep 37 = .ok (.aload_n 0, 1) := by decide +kernel
theorem dX8_makesStep_38 : decode cX8_makesStep 38 = .ok (.dup, 1) := by decide +kernel
theorem dX8_makesStep_39 : decode cX8_makesStep 39 = .ok (.getfield 81, 3) := by decide +kernel
theorem dX8_makesStep_42 : decode cX8_makesStep 42 = .ok (.iconst 1, 1) := by decide +kernel
theorem dX8_makesStep_43 : decode cX8_makesStep 43 = .ok (.iadd, 1) := by decide +kernel
theorem dX8_makesStep_44 : decode cX8_makesStep 44 = .ok (.putfield 81, 3) := by decide +kernel
theorem dX8_makesStep_47 : decode cX8_makesStep 47 = .ok (.aload_n 0, 1) := by decide +kernel
theorem dX8_makesStep_48 : decode cX8_makesStep 48 = .ok (.iload_n 2, 1) := by decide +kernel
theorem dX8_makesStep_49 : decode cX8_makesStep 49 = .ok (.ifCond .lt 15, 3) := by decide +kernel
theorem dX8_makesStep_52 : decode cX8_makesStep 52 = .ok (.aload_n 0, 1) := by decide +kernel
theorem dX8_makesStep_53 : decode cX8_makesStep 53 = .ok (.iload_n 2, 1) := by decide +kernel
theorem dX8_makesStep_54 : decode cX8_makesStep 54 = .ok (.invokevirtual 72, 3) := by decide +kernel
theorem dX8_makesStep_57 : decode cX8_makesStep 57 = .ok (.ifCond .ge 7, 3) := by decide +kernel
theorem dX8_makesStep_60 : decode cX8_makesStep 60 = .ok (.iload_n 2, 1) := by decide +kernel
theorem dX8_makesStep_61 : decode cX8_makesStep 61 = .ok (.goto 7, 3) := by decide +kernel
theorem dX8_makesStep_64 : decode cX8_makesStep 64 = .ok (.aload_n 0, 1) := by decide +kernel
theorem dX8_makesStep_65 : decode cX8_makesStep 65 = .ok (.getfield 78, 3) := by decide +kernel
theorem dX8_makesStep_68 : decode cX8_makesStep 68 = .ok (.putfield 78, 3) := by decide +kernel
theorem dX8_makesStep_71 : decode cX8_makesStep 71 = .ok (.iload_n 2, 1) := by decide +kernel
theorem dX8_makesStep_72 : decode cX8_makesStep 72 = .ok (.ifCond .lt 7, 3) := by decide +kernel
theorem dX8_makesStep_75 : decode cX8_makesStep 75 = .ok (.iconst 1, 1) := by decide +kernel
theorem dX8_makesStep_76 : decode cX8_makesStep 76 = .ok (.goto 4, 3) := by decide +kernel
theorem dX8_makesStep_79 : decode cX8_makesStep 79 = .ok (.iconst 0, 1) := by decide +kernel
theorem dX8_makesStep_80 : decode cX8_makesStep 80 = .ok (.ireturn, 1) := by decide +kernel
set_option maxRecDepth 20000 in
theorem ggX8_goGrain_X8_rimCell : GoodIn wsX8_goGrain wsX8_rimCell := goodIn_r _ [7] (by decide +kernel) (by decide +kernel)
set_option maxRecDepth 20000 in
theorem gX8_goGrain_X8_rimCell : GoodIn wsX8_goGrain (va_wsS RX8 55 yX8_rimCell wsX8_rimCell) := goodIn_app (goodIn_of _ (by decide +kernel)) ggX8_goGrain_X8_rimCell
set_option maxRecDepth 20000 in
theorem ggX8_goGrain_X8_walks : GoodIn wsX8_goGrain wsX8_walks := goodIn_r _ [11, 3, 2, 12, 1, 13, 14, 15, 6, 16, 17, 18, 19, 20, 21, 22, 23, 24, 25, 26, 27, 28, 29, 30, 31, 32, 33, 34, 35, 36, 37, 38, 43, 44, 45, 46, 47, 48, 49, 50, 51, 52, 53, 54, 55, 56, 57, 58, 59, 60, 61, 62, 63] (by decide +kernel) (by decide +kernel)
set_option maxRecDepth 20000 in
theorem gX8_goGrain_X8_walks : GoodIn wsX8_goGrain (wsV RX8 95 RX8 yX8_walks wsX8_walks) := goodIn_app (goodIn_of _ (by decide +kernel)) ggX8_goGrain_X8_walks
set_option maxRecDepth 20000 in
theorem ggX8_goGrain_X8_grainBeside : GoodIn wsX8_goGrain wsX8_grainBeside := goodIn_r _ [16, 17, 18, 6, 19, 20, 21, 22, 23, 24, 25, 26, 1, 27, 28, 29, 30, 43, 44, 45, 46, 47, 48, 49, 50, 51, 52, 53, 54, 55, 56, 57, 58, 59, 60, 61, 62, 63] (by decide +kernel) (by decide +kernel)
set_option maxRecDepth 20000 in
theorem gX8_goGrain_X8_grainBeside : GoodIn wsX8_goGrain (wsV RX8 84 RX8 yX8_grainBeside wsX8_grainBeside) := goodIn_app (goodIn_of _ (by decide +kernel)) ggX8_goGrain_X8_grainBeside
set_option maxRecDepth 20000 in
theorem ggX8_goGrain_X8_adds : GoodIn wsX8_goGrain wsX8_adds := goodIn_r _ [42, 1, 43, 44, 45, 46, 47, 48, 49, 50, 51, 52, 53, 54, 55, 56, 57, 58, 59, 60, 61, 62, 63] (by decide +kernel) (by decide +kernel)
set_option maxRecDepth 20000 in
theorem gX8_goGrain_X8_adds : GoodIn wsX8_goGrain (wsV RX8 65 RX8 yX8_adds wsX8_adds) := goodIn_app (goodIn_of _ (by decide +kernel)) ggX8_goGrain_X8_adds
theorem dX8_goGrain_0 : decode cX8_goGrain 0 = .ok (.aload_n 0, 1) := by decide +kernel
theorem dX8_goGrain_1 : decode cX8_goGrain 1 = .ok (.iload_n 1, 1) := by decide +kernel
theorem dX8_goGrain_2 : decode cX8_goGrain 2 = .ok (.invokestatic 55, 3) := by decide +kernel
theorem dX8_goGrain_5 : decode cX8_goGrain 5 = .ok (.invokevirtual 95, 3) := by decide +kernel
theorem dX8_goGrain_8 : decode cX8_goGrain 8 = .ok (.istore_n 2, 1) := by decide +kernel
theorem dX8_goGrain_9 : decode cX8_goGrain 9 = .ok (.aload_n 0, 1) := by decide +kernel
theorem dX8_goGrain_10 : decode cX8_goGrain 10 = .ok (.getfield 7, 3) := by decide +kernel
theorem dX8_goGrain_13 : decode cX8_goGrain 13 = .ok (.bipush 6, 2) := by decide +kernel
theorem dX8_goGrain_15 : decode cX8_goGrain 15 = .ok (.dup2, 1) := by decide +kernel
theorem dX8_goGrain_16 : decode cX8_goGrain 16 = .ok (.iaload, 1) := by decide +kernel
theorem dX8_goGrain_17 : decode cX8_goGrain 17 = .ok (.iconst 1, 1) := by decide +kernel
theorem dX8_goGrain_18 : decode cX8_goGrain 18 = .ok (.iadd, 1) := by decide +kernel
theorem dX8_goGrain_19 : decode cX8_goGrain 19 = .ok (.iastore, 1) := by decide +kernel
theorem dX8_goGrain_20 : decode cX8_goGrain 20 = .ok (.aload_n 0, 1) := by decide +kernel
theorem dX8_goGrain_21 : decode cX8_goGrain 21 = .ok (.getfield 7, 3) := by decide +kernel
theorem dX8_goGrain_24 : decode cX8_goGrain 24 = .ok (.bipush 9, 2) := by decide +kernel
theorem dX8_goGrain_26 : decode cX8_goGrain 26 = .ok (.dup2, 1) := by decide +kernel
theorem dX8_goGrain_27 : decode cX8_goGrain 27 = .ok (.iaload, 1) := by decide +kernel
theorem dX8_goGrain_28 : decode cX8_goGrain 28 = .ok (.aload_n 0, 1) := by decide +kernel
theorem dX8_goGrain_29 : decode cX8_goGrain 29 = .ok (.getfield 81, 3) := by decide +kernel
theorem dX8_goGrain_32 : decode cX8_goGrain 32 = .ok (.iadd, 1) := by decide +kernel
theorem dX8_goGrain_33 : decode cX8_goGrain 33 = .ok (.iastore, 1) := by decide +kernel
theorem dX8_goGrain_34 : decode cX8_goGrain 34 = .ok (.iload_n 2, 1) := by decide +kernel
theorem dX8_goGrain_35 : decode cX8_goGrain 35 = .ok (.ifCond .eq 32, 3) := by decide +kernel
theorem dX8_goGrain_38 : decode cX8_goGrain 38 = .ok (.aload_n 0, 1) := by decide +kernel
theorem dX8_goGrain_39 : decode cX8_goGrain 39 = .ok (.aload_n 0, 1) := by decide +kernel
theorem dX8_goGrain_40 : decode cX8_goGrain 40 = .ok (.getfield 78, 3) := by decide +kernel
theorem dX8_goGrain_43 : decode cX8_goGrain 43 = .ok (.aload_n 0, 1) := by decide +kernel
theorem dX8_goGrain_44 : decode cX8_goGrain 44 = .ok (.aload_n 0, 1) := by decide +kernel
theorem dX8_goGrain_45 : decode cX8_goGrain 45 = .ok (.getfield 78, 3) := by decide +kernel
theorem dX8_goGrain_48 : decode cX8_goGrain 48 = .ok (.invokevirtual 84, 3) := by decide +kernel
theorem dX8_goGrain_51 : decode cX8_goGrain 51 = .ok (.aload_n 0, 1) := by decide +kernel
theorem dX8_goGrain_52 : decode cX8_goGrain 52 = .ok (.getfield 81, 3) := by decide +kernel
theorem dX8_goGrain_55 : decode cX8_goGrain 55 = .ok (.invokevirtual 65, 3) := by decide +kernel
theorem dX8_goGrain_58 : decode cX8_goGrain 58 = .ok (.sipush 1000, 3) := by decide +kernel
theorem dX8_goGrain_61 : decode cX8_goGrain 61 = .ok (.aload_n 0, 1) := by decide +kernel
theorem dX8_goGrain_62 : decode cX8_goGrain 62 = .ok (.getfield 78, 3) := by decide +kernel
theorem dX8_goGrain_65 : decode cX8_goGrain 65 = .ok (.iadd, 1) := by decide +kernel
theorem dX8_goGrain_66 : decode cX8_goGrain 66 = .ok (.ireturn, 1) := by decide +kernel
theorem dX8_goGrain_67 : decode cX8_goGrain 67 = .ok (.aload_n 0, 1) := by decide +kernel
theorem dX8_goGrain_68 : decode cX8_goGrain 68 = .ok (.getfield 7, 3) := by decide +kernel
theorem dX8_goGrain_71 : decode cX8_goGrain 71 = .ok (.bipush 7, 2) := by decide +kernel
theorem dX8_goGrain_73 : decode cX8_goGrain 73 = .ok (.dup2, 1) := by decide +kernel
theorem dX8_goGrain_74 : decode cX8_goGrain 74 = .ok (.iaload, 1) := by decide +kernel
theorem dX8_goGrain_75 : decode cX8_goGrain 75 = .ok (.iconst 1, 1) := by decide +kernel
theorem dX8_goGrain_76 : decode cX8_goGrain 76 = .ok (.iadd, 1) := by decide +kernel
theorem dX8_goGrain_77 : decode cX8_goGrain 77 = .ok (.iastore, 1) := by decide +kernel
theorem dX8_goGrain_78 : decode cX8_goGrain 78 = .ok (.aload_n 0, 1) := by decide +kernel
theorem dX8_goGrain_79 : decode cX8_goGrain 79 = .ok (.getfield 81, 3) := by decide +kernel
theorem dX8_goGrain_82 : decode cX8_goGrain 82 = .ok (.ireturn, 1) := by decide +kernel
set_option maxRecDepth 20000 in
theorem ggX8_isBlocked_X8_rimCell : GoodIn wsX8_isBlocked wsX8_rimCell := goodIn_r _ [4] (by decide +kernel) (by decide +kernel)
set_option maxRecDepth 20000 in
theorem gX8_isBlocked_X8_rimCell : GoodIn wsX8_isBlocked (va_wsS RX8 55 yX8_rimCell wsX8_rimCell) := goodIn_app (goodIn_of _ (by decide +kernel)) ggX8_isBlocked_X8_rimCell
set_option maxRecDepth 20000 in
theorem ggX8_isBlocked_X8_grainAt : GoodIn wsX8_isBlocked wsX8_grainAt := goodIn_r _ [8, 9, 10, 11, 12, 3, 13, 14, 15, 16, 17, 18, 19, 20, 21, 22, 23, 24, 25, 26, 27, 28, 29, 30, 31, 32, 33, 34] (by decide +kernel) (by decide +kernel)
set_option maxRecDepth 20000 in
theorem gX8_isBlocked_X8_grainAt : GoodIn wsX8_isBlocked (wsV RX8 72 RX8 yX8_grainAt wsX8_grainAt) := goodIn_app (goodIn_of _ (by decide +kernel)) ggX8_isBlocked_X8_grainAt
theorem dX8_isBlocked_0 : decode cX8_isBlocked 0 = .ok (.aload_n 0, 1) := by decide +kernel
theorem dX8_isBlocked_1 : decode cX8_isBlocked 1 = .ok (.iload_n 1, 1) := by decide +kernel
theorem dX8_isBlocked_2 : decode cX8_isBlocked 2 = .ok (.invokestatic 55, 3) := by decide +kernel
theorem dX8_isBlocked_5 : decode cX8_isBlocked 5 = .ok (.invokevirtual 72, 3) := by decide +kernel
theorem dX8_isBlocked_8 : decode cX8_isBlocked 8 = .ok (.ifCond .lt 7, 3) := by decide +kernel
theorem dX8_isBlocked_11 : decode cX8_isBlocked 11 = .ok (.iconst 1, 1) := by decide +kernel
theorem dX8_isBlocked_12 : decode cX8_isBlocked 12 = .ok (.goto 4, 3) := by decide +kernel
theorem dX8_isBlocked_15 : decode cX8_isBlocked 15 = .ok (.iconst 0, 1) := by decide +kernel
theorem dX8_isBlocked_16 : decode cX8_isBlocked 16 = .ok (.ireturn, 1) := by decide +kernel
set_option maxRecDepth 20000 in
theorem ggX8_goRain_X8_draws : GoodIn wsX8_goRain wsX8_draws := goodIn_r _ [6, 1, 7, 51, 52, 53, 54, 55, 56, 57, 58, 59, 60, 61, 62, 63, 64, 65, 66, 67, 68, 69, 70, 71] (by decide +kernel) (by decide +kernel)
set_option maxRecDepth 20000 in
theorem gX8_goRain_X8_draws : GoodIn wsX8_goRain (wsV RX8 87 RX8 yX8_draws wsX8_draws) := goodIn_app (goodIn_of _ (by decide +kernel)) ggX8_goRain_X8_draws
set_option maxRecDepth 20000 in
theorem ggX8_goRain_X8_isBlocked : GoodIn wsX8_goRain wsX8_isBlocked := goodIn_r _ [11, 12, 13, 5, 14, 15, 16, 17, 18, 1, 19, 20, 21, 22, 51, 52, 53, 54, 55, 56, 57, 58, 59, 60, 61, 62, 63, 64, 65, 66, 67, 68, 69, 70, 71] (by decide +kernel) (by decide +kernel)
set_option maxRecDepth 20000 in
theorem gX8_goRain_X8_isBlocked : GoodIn wsX8_goRain (wsV RX8 99 RX8 yX8_isBlocked wsX8_isBlocked) := goodIn_app (goodIn_of _ (by decide +kernel)) ggX8_goRain_X8_isBlocked
set_option maxRecDepth 20000 in
theorem ggX8_goRain_X8_goGrain : GoodIn wsX8_goRain wsX8_goGrain := goodIn_r _ [26, 1, 27, 28, 12, 13, 5, 14, 29, 30, 31, 32, 7, 33, 34, 35, 36, 37, 38, 39, 40, 41, 42, 15, 16, 17, 18, 19, 20, 21, 22, 2, 3, 4, 6, 43, 44, 45, 46, 47, 48, 49, 50, 51, 52, 53, 54, 55, 56, 57, 58, 59, 60, 61, 62, 63, 64, 65, 66, 67, 68, 69, 70, 71] (by decide +kernel) (by decide +kernel)
set_option maxRecDepth 20000 in
theorem gX8_goRain_X8_goGrain : GoodIn wsX8_goRain (wsV RX8 102 RX8 yX8_goGrain wsX8_goGrain) := goodIn_app (goodIn_of _ (by decide +kernel)) ggX8_goRain_X8_goGrain
theorem dX8_goRain_0 : decode cX8_goRain 0 = .ok (.iconst 0, 1) := by decide +kernel
theorem dX8_goRain_1 : decode cX8_goRain 1 = .ok (.istore_n 2, 1) := by decide +kernel
theorem dX8_goRain_2 : decode cX8_goRain 2 = .ok (.iconst 0, 1) := by decide +kernel
theorem dX8_goRain_3 : decode cX8_goRain 3 = .ok (.istore_n 3, 1) := by decide +kernel
theorem dX8_goRain_4 : decode cX8_goRain 4 = .ok (.iload_n 3, 1) := by decide +kernel
theorem dX8_goRain_5 : decode cX8_goRain 5 = .ok (.iload_n 1, 1) := by decide +kernel
theorem dX8_goRain_6 : decode cX8_goRain 6 = .ok (.if_icmp .ge 72, 3) := by decide +kernel
theorem dX8_goRain_9 : decode cX8_goRain 9 = .ok (.aload_n 0, 1) := by decide +kernel
theorem dX8_goRain_10 : decode cX8_goRain 10 = .ok (.invokevirtual 87, 3) := by decide +kernel
theorem dX8_goRain_13 : decode cX8_goRain 13 = .ok (.bipush 40, 2) := by decide +kernel
theorem dX8_goRain_15 : decode cX8_goRain 15 = .ok (.irem, 1) := by decide +kernel
theorem dX8_goRain_16 : decode cX8_goRain 16 = .ok (.istore 4, 2) := by decide +kernel
theorem dX8_goRain_18 : decode cX8_goRain 18 = .ok (.aload_n 0, 1) := by decide +kernel
theorem dX8_goRain_19 : decode cX8_goRain 19 = .ok (.iload 4, 2) := by decide +kernel
theorem dX8_goRain_21 : decode cX8_goRain 21 = .ok (.invokevirtual 99, 3) := by decide +kernel
theorem dX8_goRain_24 : decode cX8_goRain 24 = .ok (.ifCond .eq 28, 3) := by decide +kernel
theorem dX8_goRain_27 : decode cX8_goRain 27 = .ok (.aload_n 0, 1) := by decide +kernel
theorem dX8_goRain_28 : decode cX8_goRain 28 = .ok (.getfield 7, 3) := by decide +kernel
theorem dX8_goRain_31 : decode cX8_goRain 31 = .ok (.bipush 6, 2) := by decide +kernel
theorem dX8_goRain_33 : decode cX8_goRain 33 = .ok (.dup2, 1) := by decide +kernel
theorem dX8_goRain_34 : decode cX8_goRain 34 = .ok (.iaload, 1) := by decide +kernel
theorem dX8_goRain_35 : decode cX8_goRain 35 = .ok (.iconst 1, 1) := by decide +kernel
theorem dX8_goRain_36 : decode cX8_goRain 36 = .ok (.iadd, 1) := by decide +kernel
theorem dX8_goRain_37 : decode cX8_goRain 37 = .ok (.iastore, 1) := by decide +kernel
theorem dX8_goRain_38 : decode cX8_goRain 38 = .ok (.aload_n 0, 1) := by decide +kernel
theorem dX8_goRain_39 : decode cX8_goRain 39 = .ok (.getfield 7, 3) := by decide +kernel
theorem dX8_goRain_42 : decode cX8_goRain 42 = .ok (.bipush 7, 2) := by decide +kernel
theorem dX8_goRain_44 : decode cX8_goRain 44 = .ok (.dup2, 1) := by decide +kernel
theorem dX8_goRain_45 : decode cX8_goRain 45 = .ok (.iaload, 1) := by decide +kernel
theorem dX8_goRain_46 : decode cX8_goRain 46 = .ok (.iconst 1, 1) := by decide +kernel
theorem dX8_goRain_47 : decode cX8_goRain 47 = .ok (.iadd, 1) := by decide +kernel
theorem dX8_goRain_48 : decode cX8_goRain 48 = .ok (.iastore, 1) := by decide +kernel
theorem dX8_goRain_49 : decode cX8_goRain 49 = .ok (.goto 23, 3) := by decide +kernel
theorem dX8_goRain_52 : decode cX8_goRain 52 = .ok (.iload_n 2, 1) := by decide +kernel
theorem dX8_goRain_53 : decode cX8_goRain 53 = .ok (.aload_n 0, 1) := by decide +kernel
theorem dX8_goRain_54 : decode cX8_goRain 54 = .ok (.iload 4, 2) := by decide +kernel
theorem dX8_goRain_56 : decode cX8_goRain 56 = .ok (.invokevirtual 102, 3) := by decide +kernel
theorem dX8_goRain_59 : decode cX8_goRain 59 = .ok (.sipush 1000, 3) := by decide +kernel
theorem dX8_goRain_62 : decode cX8_goRain 62 = .ok (.if_icmp .lt 7, 3) := by decide +kernel
theorem dX8_goRain_65 : decode cX8_goRain 65 = .ok (.iconst 1, 1) := by decide +kernel
theorem dX8_goRain_66 : decode cX8_goRain 66 = .ok (.goto 4, 3) := by decide +kernel
theorem dX8_goRain_69 : decode cX8_goRain 69 = .ok (.iconst 0, 1) := by decide +kernel
theorem dX8_goRain_70 : decode cX8_goRain 70 = .ok (.iadd, 1) := by decide +kernel
theorem dX8_goRain_71 : decode cX8_goRain 71 = .ok (.istore_n 2, 1) := by decide +kernel
theorem dX8_goRain_72 : decode cX8_goRain 72 = .ok (.iinc 3 1, 3) := by decide +kernel
theorem dX8_goRain_75 : decode cX8_goRain 75 = .ok (.goto (-71), 3) := by decide +kernel
theorem dX8_goRain_78 : decode cX8_goRain 78 = .ok (.iload_n 2, 1) := by decide +kernel
theorem dX8_goRain_79 : decode cX8_goRain 79 = .ok (.ireturn, 1) := by decide +kernel
set_option maxRecDepth 20000 in
theorem ggX8_takesAway_X8_holder : GoodIn wsX8_takesAway wsX8_holder := goodIn_r _ [8, 9, 10, 11, 7, 12, 1, 17, 18, 19, 20, 21, 22, 23, 24, 25, 26, 27, 28, 29, 30, 31, 32, 33, 34, 35, 36, 37] (by decide +kernel) (by decide +kernel)
set_option maxRecDepth 20000 in
theorem gX8_takesAway_X8_holder : GoodIn wsX8_takesAway (wsV RX8 105 RX8 yX8_holder wsX8_holder) := goodIn_app (goodIn_of _ (by decide +kernel)) ggX8_takesAway_X8_holder
set_option maxRecDepth 20000 in
theorem ggX8_takesAway_X8_of : GoodIn wsX8_takesAway wsX8_of := goodIn_r _ [12, 1, 17, 18, 19, 20, 21, 22, 23, 24, 25, 26, 27, 28, 29, 30, 31, 32, 33, 34, 35, 36, 37] (by decide +kernel) (by decide +kernel)
set_option maxRecDepth 20000 in
theorem gX8_takesAway_X8_of : GoodIn wsX8_takesAway (wsV RX8 58 RX8 yX8_of wsX8_of) := goodIn_app (goodIn_of _ (by decide +kernel)) ggX8_takesAway_X8_of
set_option maxRecDepth 20000 in
theorem ggX8_takesAway_X8_adds : GoodIn wsX8_takesAway wsX8_adds := goodIn_r _ [16, 1, 17, 18, 19, 20, 21, 22, 23, 24, 25, 26, 27, 28, 29, 30, 31, 32, 33, 34, 35, 36, 37] (by decide +kernel) (by decide +kernel)
set_option maxRecDepth 20000 in
theorem gX8_takesAway_X8_adds : GoodIn wsX8_takesAway (wsV RX8 65 RX8 yX8_adds wsX8_adds) := goodIn_app (goodIn_of _ (by decide +kernel)) ggX8_takesAway_X8_adds
theorem dX8_takesAway_0 : decode cX8_takesAway 0 = .ok (.iconst 0, 1) := by decide +kernel
theorem dX8_takesAway_1 : decode cX8_takesAway 1 = .ok (.istore_n 1, 1) := by decide +kernel
theorem dX8_takesAway_2 : decode cX8_takesAway 2 = .ok (.aload_n 0, 1) := by decide +kernel
theorem dX8_takesAway_3 : decode cX8_takesAway 3 = .ok (.getfield 7, 3) := by decide +kernel
theorem dX8_takesAway_6 : decode cX8_takesAway 6 = .ok (.iconst 0, 1) := by decide +kernel
theorem dX8_takesAway_7 : decode cX8_takesAway 7 = .ok (.iaload, 1) := by decide +kernel
theorem dX8_takesAway_8 : decode cX8_takesAway 8 = .ok (.istore_n 2, 1) := by decide +kernel
theorem dX8_takesAway_9 : decode cX8_takesAway 9 = .ok (.iconst 0, 1) := by decide +kernel
theorem dX8_takesAway_10 : decode cX8_takesAway 10 = .ok (.istore_n 3, 1) := by decide +kernel
theorem dX8_takesAway_11 : decode cX8_takesAway 11 = .ok (.iload_n 3, 1) := by decide +kernel
theorem dX8_takesAway_12 : decode cX8_takesAway 12 = .ok (.iload_n 2, 1) := by decide +kernel
theorem dX8_takesAway_13 : decode cX8_takesAway 13 = .ok (.if_icmp .ge 85, 3) := by decide +kernel
theorem dX8_takesAway_16 : decode cX8_takesAway 16 = .ok (.aload_n 0, 1) := by decide +kernel
theorem dX8_takesAway_17 : decode cX8_takesAway 17 = .ok (.getfield 29, 3) := by decide +kernel
theorem dX8_takesAway_20 : decode cX8_takesAway 20 = .ok (.iload_n 3, 1) := by decide +kernel
theorem dX8_takesAway_21 : decode cX8_takesAway 21 = .ok (.iload_n 1, 1) := by decide +kernel
theorem dX8_takesAway_22 : decode cX8_takesAway 22 = .ok (.iastore, 1) := by decide +kernel
theorem dX8_takesAway_23 : decode cX8_takesAway 23 = .ok (.aload_n 0, 1) := by decide +kernel
theorem dX8_takesAway_24 : decode cX8_takesAway 24 = .ok (.getfield 25, 3) := by decide +kernel
theorem dX8_takesAway_27 : decode cX8_takesAway 27 = .ok (.iload_n 3, 1) := by decide +kernel
theorem dX8_takesAway_28 : decode cX8_takesAway 28 = .ok (.baload, 1) := by decide +kernel
theorem dX8_takesAway_29 : decode cX8_takesAway 29 = .ok (.ifCond .ne 63, 3) := by decide +kernel
theorem dX8_takesAway_32 : decode cX8_takesAway 32 = .ok (.aload_n 0, 1) := by decide +kernel
theorem dX8_takesAway_33 : decode cX8_takesAway 33 = .ok (.iload_n 3, 1) := by decide +kernel
theorem dX8_takesAway_34 : decode cX8_takesAway 34 = .ok (.invokevirtual 105, 3) := by decide +kernel
theorem dX8_takesAway_37 : decode cX8_takesAway 37 = .ok (.ifCond .ge 7, 3) := by decide +kernel
theorem dX8_takesAway_40 : decode cX8_takesAway 40 = .ok (.iconst (-1), 1) := by decide +kernel
theorem dX8_takesAway_41 : decode cX8_takesAway 41 = .ok (.goto 13, 3) := by decide +kernel
theorem dX8_takesAway_44 : decode cX8_takesAway 44 = .ok (.aload_n 0, 1) := by decide +kernel
theorem dX8_takesAway_45 : decode cX8_takesAway 45 = .ok (.getfield 29, 3) := by decide +kernel
theorem dX8_takesAway_48 : decode cX8_takesAway 48 = .ok (.aload_n 0, 1) := by decide +kernel
theorem dX8_takesAway_49 : decode cX8_takesAway 49 = .ok (.iload_n 3, 1) := by decide +kernel
theorem dX8_takesAway_50 : decode cX8_takesAway 50 = .ok (.invokevirtual 105, 3) := by decide +kernel
theorem dX8_takesAway_53 : decode cX8_takesAway 53 = .ok (.iaload, 1) := by decide +kernel
theorem dX8_takesAway_54 : decode cX8_takesAway 54 = .ok (.istore 4, 2) := by decide +kernel
theorem dX8_takesAway_56 : decode cX8_takesAway 56 = .ok (.aload_n 0, 1) := by decide +kernel
theorem dX8_takesAway_57 : decode cX8_takesAway 57 = .ok (.iload_n 3, 1) := by decide +kernel
theorem dX8_takesAway_58 : decode cX8_takesAway 58 = .ok (.iconst 0, 1) := by decide +kernel
theorem dX8_takesAway_59 : decode cX8_takesAway 59 = .ok (.invokevirtual 58, 3) := by decide +kernel
theorem dX8_takesAway_62 : decode cX8_takesAway 62 = .ok (.istore 5, 2) := by decide +kernel
theorem dX8_takesAway_64 : decode cX8_takesAway 64 = .ok (.aload_n 0, 1) := by decide +kernel
theorem dX8_takesAway_65 : decode cX8_takesAway 65 = .ok (.iload_n 3, 1) := by decide +kernel
theorem dX8_takesAway_66 : decode cX8_takesAway 66 = .ok (.iconst 2, 1) := by decide +kernel
theorem dX8_takesAway_67 : decode cX8_takesAway 67 = .ok (.invokevirtual 58, 3) := by decide +kernel
theorem dX8_takesAway_70 : decode cX8_takesAway 70 = .ok (.istore 6, 2) := by decide +kernel
theorem dX8_takesAway_72 : decode cX8_takesAway 72 = .ok (.aload_n 0, 1) := by decide +kernel
theorem dX8_takesAway_73 : decode cX8_takesAway 73 = .ok (.getfield 7, 3) := by decide +kernel
theorem dX8_takesAway_76 : decode cX8_takesAway 76 = .ok (.iconst 0, 1) := by decide +kernel
theorem dX8_takesAway_77 : decode cX8_takesAway 77 = .ok (.iload_n 1, 1) := by decide +kernel
theorem dX8_takesAway_78 : decode cX8_takesAway 78 = .ok (.iastore, 1) := by decide +kernel
theorem dX8_takesAway_79 : decode cX8_takesAway 79 = .ok (.aload_n 0, 1) := by decide +kernel
theorem dX8_takesAway_80 : decode cX8_takesAway 80 = .ok (.iload 5, 2) := by decide +kernel
theorem dX8_takesAway_82 : decode cX8_takesAway 82 = .ok (.iload 4, 2) := by decide +kernel
theorem dX8_takesAway_84 : decode cX8_takesAway 84 = .ok (.iload 6, 2) := by decide +kernel
theorem dX8_takesAway_86 : decode cX8_takesAway 86 = .ok (.invokevirtual 65, 3) := by decide +kernel
theorem dX8_takesAway_89 : decode cX8_takesAway 89 = .ok (.iinc 1 1, 3) := by decide +kernel
theorem dX8_takesAway_92 : decode cX8_takesAway 92 = .ok (.iinc 3 1, 3) := by decide +kernel
theorem dX8_takesAway_95 : decode cX8_takesAway 95 = .ok (.goto (-84), 3) := by decide +kernel
theorem dX8_takesAway_98 : decode cX8_takesAway 98 = .ok (.aload_n 0, 1) := by decide +kernel
theorem dX8_takesAway_99 : decode cX8_takesAway 99 = .ok (.getfield 7, 3) := by decide +kernel
theorem dX8_takesAway_102 : decode cX8_takesAway 102 = .ok (.iconst 0, 1) := by decide +kernel
theorem dX8_takesAway_103 : decode cX8_takesAway 103 = .ok (.iload_n 1, 1) := by decide +kernel
theorem dX8_takesAway_104 : decode cX8_takesAway 104 = .ok (.iastore, 1) := by decide +kernel
theorem dX8_takesAway_105 : decode cX8_takesAway 105 = .ok (.bipush 10, 2) := by decide +kernel
theorem dX8_takesAway_107 : decode cX8_takesAway 107 = .ok (.iconst 3, 1) := by decide +kernel
theorem dX8_takesAway_108 : decode cX8_takesAway 108 = .ok (.iload_n 1, 1) := by decide +kernel
theorem dX8_takesAway_109 : decode cX8_takesAway 109 = .ok (.imul, 1) := by decide +kernel
theorem dX8_takesAway_110 : decode cX8_takesAway 110 = .ok (.iadd, 1) := by decide +kernel
theorem dX8_takesAway_111 : decode cX8_takesAway 111 = .ok (.istore_n 3, 1) := by decide +kernel
theorem dX8_takesAway_112 : decode cX8_takesAway 112 = .ok (.iload_n 3, 1) := by decide +kernel
theorem dX8_takesAway_113 : decode cX8_takesAway 113 = .ok (.sipush 373, 3) := by decide +kernel
theorem dX8_takesAway_116 : decode cX8_takesAway 116 = .ok (.if_icmp .ge 16, 3) := by decide +kernel
theorem dX8_takesAway_119 : decode cX8_takesAway 119 = .ok (.aload_n 0, 1) := by decide +kernel
theorem dX8_takesAway_120 : decode cX8_takesAway 120 = .ok (.getfield 7, 3) := by decide +kernel
theorem dX8_takesAway_123 : decode cX8_takesAway 123 = .ok (.iload_n 3, 1) := by decide +kernel
theorem dX8_takesAway_124 : decode cX8_takesAway 124 = .ok (.iconst 0, 1) := by decide +kernel
theorem dX8_takesAway_125 : decode cX8_takesAway 125 = .ok (.iastore, 1) := by decide +kernel
theorem dX8_takesAway_126 : decode cX8_takesAway 126 = .ok (.iinc 3 1, 3) := by decide +kernel
theorem dX8_takesAway_129 : decode cX8_takesAway 129 = .ok (.goto (-17), 3) := by decide +kernel
theorem dX8_takesAway_132 : decode cX8_takesAway 132 = .ok (.aload_n 0, 1) := by decide +kernel
theorem dX8_takesAway_133 : decode cX8_takesAway 133 = .ok (.getfield 7, 3) := by decide +kernel
theorem dX8_takesAway_136 : decode cX8_takesAway 136 = .ok (.bipush 8, 2) := by decide +kernel
theorem dX8_takesAway_138 : decode cX8_takesAway 138 = .ok (.dup2, 1) := by decide +kernel
theorem dX8_takesAway_139 : decode cX8_takesAway 139 = .ok (.iaload, 1) := by decide +kernel
theorem dX8_takesAway_140 : decode cX8_takesAway 140 = .ok (.iload_n 2, 1) := by decide +kernel
theorem dX8_takesAway_141 : decode cX8_takesAway 141 = .ok (.iload_n 1, 1) := by decide +kernel
theorem dX8_takesAway_142 : decode cX8_takesAway 142 = .ok (.isub, 1) := by decide +kernel
theorem dX8_takesAway_143 : decode cX8_takesAway 143 = .ok (.iadd, 1) := by decide +kernel
theorem dX8_takesAway_144 : decode cX8_takesAway 144 = .ok (.iastore, 1) := by decide +kernel
theorem dX8_takesAway_145 : decode cX8_takesAway 145 = .ok (.iload_n 2, 1) := by decide +kernel
theorem dX8_takesAway_146 : decode cX8_takesAway 146 = .ok (.iload_n 1, 1) := by decide +kernel
theorem dX8_takesAway_147 : decode cX8_takesAway 147 = .ok (.isub, 1) := by decide +kernel
theorem dX8_takesAway_148 : decode cX8_takesAway 148 = .ok (.ireturn, 1) := by decide +kernel
set_option maxRecDepth 20000 in
theorem ggX8_goBreak_X8_holder : GoodIn wsX8_goBreak wsX8_holder := goodIn_r _ [7, 8, 9, 10, 6, 11, 1, 21, 22, 23, 24, 25, 26, 27, 28, 29, 30, 31, 32, 33, 34, 35, 36, 37, 38, 39, 40, 41] (by decide +kernel) (by decide +kernel)
set_option maxRecDepth 20000 in
theorem gX8_goBreak_X8_holder : GoodIn wsX8_goBreak (wsV RX8 105 RX8 yX8_holder wsX8_holder) := goodIn_app (goodIn_of _ (by decide +kernel)) ggX8_goBreak_X8_holder
set_option maxRecDepth 20000 in
theorem ggX8_goBreak_X8_takesAway : GoodIn wsX8_goBreak wsX8_takesAway := goodIn_r _ [15, 1, 16, 2, 3, 4, 5, 6, 7, 8, 9, 10, 11, 17, 18, 19, 20, 21, 22, 23, 24, 25, 26, 27, 28, 29, 30, 31, 32, 33, 34, 35, 36, 37, 38, 39, 40, 41] (by decide +kernel) (by decide +kernel)
set_option maxRecDepth 20000 in
theorem gX8_goBreak_X8_takesAway : GoodIn wsX8_goBreak (wsV RX8 108 RX8 yX8_takesAway wsX8_takesAway) := goodIn_app (goodIn_of _ (by decide +kernel)) ggX8_goBreak_X8_takesAway
theorem dX8_goBreak_0 : decode cX8_goBreak 0 = .ok (.iconst 0, 1) := by decide +kernel
theorem dX8_goBreak_1 : decode cX8_goBreak 1 = .ok (.istore_n 2, 1) := by decide +kernel
theorem dX8_goBreak_2 : decode cX8_goBreak 2 = .ok (.iload_n 2, 1) := by decide +kernel
theorem dX8_goBreak_3 : decode cX8_goBreak 3 = .ok (.aload_n 0, 1) := by decide +kernel
theorem dX8_goBreak_4 : decode cX8_goBreak 4 = .ok (.getfield 7, 3) := by decide +kernel
theorem dX8_goBreak_7 : decode cX8_goBreak 7 = .ok (.iconst 0, 1) := by decide +kernel
theorem dX8_goBreak_8 : decode cX8_goBreak 8 = .ok (.iaload, 1) := by decide +kernel
theorem dX8_goBreak_9 : decode cX8_goBreak 9 = .ok (.if_icmp .ge 46, 3) := by decide +kernel
theorem dX8_goBreak_12 : decode cX8_goBreak 12 = .ok (.aload_n 0, 1) := by decide +kernel
theorem dX8_goBreak_13 : decode cX8_goBreak 13 = .ok (.getfield 25, 3) := by decide +kernel
theorem dX8_goBreak_16 : decode cX8_goBreak 16 = .ok (.iload_n 2, 1) := by decide +kernel
theorem dX8_goBreak_17 : decode cX8_goBreak 17 = .ok (.iload_n 2, 1) := by decide +kernel
theorem dX8_goBreak_18 : decode cX8_goBreak 18 = .ok (.iload_n 1, 1) := by decide +kernel
theorem dX8_goBreak_19 : decode cX8_goBreak 19 = .ok (.if_icmp .eq 24, 3) := by decide +kernel
theorem dX8_goBreak_22 : decode cX8_goBreak 22 = .ok (.aload_n 0, 1) := by decide +kernel
theorem dX8_goBreak_23 : decode cX8_goBreak 23 = .ok (.iload_n 2, 1) := by decide +kernel
theorem dX8_goBreak_24 : decode cX8_goBreak 24 = .ok (.invokevirtual 105, 3) := by decide +kernel
theorem dX8_goBreak_27 : decode cX8_goBreak 27 = .ok (.ifCond .lt 20, 3) := by decide +kernel
theorem dX8_goBreak_30 : decode cX8_goBreak 30 = .ok (.aload_n 0, 1) := by decide +kernel
theorem dX8_goBreak_31 : decode cX8_goBreak 31 = .ok (.getfield 25, 3) := by decide +kernel
theorem dX8_goBreak_34 : decode cX8_goBreak 34 = .ok (.aload_n 0, 1) := by decide +kernel
theorem dX8_goBreak_35 : decode cX8_goBreak 35 = .ok (.iload_n 2, 1) := by decide +kernel
theorem dX8_goBreak_36 : decode cX8_goBreak 36 = .ok (.invokevirtual 105, 3) := by decide +kernel
theorem dX8_goBreak_39 : decode cX8_goBreak 39 = .ok (.baload, 1) := by decide +kernel
theorem dX8_goBreak_40 : decode cX8_goBreak 40 = .ok (.ifCond .eq 7, 3) := by decide +kernel
theorem dX8_goBreak_43 : decode cX8_goBreak 43 = .ok (.iconst 1, 1) := by decide +kernel
theorem dX8_goBreak_44 : decode cX8_goBreak 44 = .ok (.goto 4, 3) := by decide +kernel
theorem dX8_goBreak_47 : decode cX8_goBreak 47 = .ok (.iconst 0, 1) := by decide +kernel
theorem dX8_goBreak_48 : decode cX8_goBreak 48 = .ok (.bastore, 1) := by decide +kernel
theorem dX8_goBreak_49 : decode cX8_goBreak 49 = .ok (.iinc 2 1, 3) := by decide +kernel
theorem dX8_goBreak_52 : decode cX8_goBreak 52 = .ok (.goto (-50), 3) := by decide +kernel
theorem dX8_goBreak_55 : decode cX8_goBreak 55 = .ok (.aload_n 0, 1) := by decide +kernel
theorem dX8_goBreak_56 : decode cX8_goBreak 56 = .ok (.invokevirtual 108, 3) := by decide +kernel
theorem dX8_goBreak_59 : decode cX8_goBreak 59 = .ok (.ireturn, 1) := by decide +kernel
set_option maxRecDepth 20000 in
theorem ggX8_children_X8_holder : GoodIn wsX8_children wsX8_holder := goodIn_r _ [6, 7, 8, 9, 5, 10, 1, 11, 12, 13, 14, 15, 16, 17, 18, 19, 20, 21, 22, 23, 24, 25, 26, 27, 28, 29, 30, 31] (by decide +kernel) (by decide +kernel)
set_option maxRecDepth 20000 in
theorem gX8_children_X8_holder : GoodIn wsX8_children (wsV RX8 105 RX8 yX8_holder wsX8_holder) := goodIn_app (goodIn_of _ (by decide +kernel)) ggX8_children_X8_holder
theorem dX8_children_0 : decode cX8_children 0 = .ok (.iconst 0, 1) := by decide +kernel
theorem dX8_children_1 : decode cX8_children 1 = .ok (.istore_n 2, 1) := by decide +kernel
theorem dX8_children_2 : decode cX8_children 2 = .ok (.iload_n 1, 1) := by decide +kernel
theorem dX8_children_3 : decode cX8_children 3 = .ok (.iconst 1, 1) := by decide +kernel
theorem dX8_children_4 : decode cX8_children 4 = .ok (.iadd, 1) := by decide +kernel
theorem dX8_children_5 : decode cX8_children 5 = .ok (.istore_n 3, 1) := by decide +kernel
theorem dX8_children_6 : decode cX8_children 6 = .ok (.iload_n 3, 1) := by decide +kernel
theorem dX8_children_7 : decode cX8_children 7 = .ok (.aload_n 0, 1) := by decide +kernel
theorem dX8_children_8 : decode cX8_children 8 = .ok (.getfield 7, 3) := by decide +kernel
theorem dX8_children_11 : decode cX8_children 11 = .ok (.iconst 0, 1) := by decide +kernel
theorem dX8_children_12 : decode cX8_children 12 = .ok (.iaload, 1) := by decide +kernel
theorem dX8_children_13 : decode cX8_children 13 = .ok (.if_icmp .ge 26, 3) := by decide +kernel
theorem dX8_children_16 : decode cX8_children 16 = .ok (.iload_n 2, 1) := by decide +kernel
theorem dX8_children_17 : decode cX8_children 17 = .ok (.aload_n 0, 1) := by decide +kernel
theorem dX8_children_18 : decode cX8_children 18 = .ok (.iload_n 3, 1) := by decide +kernel
theorem dX8_children_19 : decode cX8_children 19 = .ok (.invokevirtual 105, 3) := by decide +kernel
theorem dX8_children_22 : decode cX8_children 22 = .ok (.iload_n 1, 1) := by decide +kernel
theorem dX8_children_23 : decode cX8_children 23 = .ok (.if_icmp .ne 7, 3) := by decide +kernel
theorem dX8_children_26 : decode cX8_children 26 = .ok (.iconst 1, 1) := by decide +kernel
theorem dX8_children_27 : decode cX8_children 27 = .ok (.goto 4, 3) := by decide +kernel
theorem dX8_children_30 : decode cX8_children 30 = .ok (.iconst 0, 1) := by decide +kernel
theorem dX8_children_31 : decode cX8_children 31 = .ok (.iadd, 1) := by decide +kernel
theorem dX8_children_32 : decode cX8_children 32 = .ok (.istore_n 2, 1) := by decide +kernel
theorem dX8_children_33 : decode cX8_children 33 = .ok (.iinc 3 1, 3) := by decide +kernel
theorem dX8_children_36 : decode cX8_children 36 = .ok (.goto (-30), 3) := by decide +kernel
theorem dX8_children_39 : decode cX8_children 39 = .ok (.iload_n 2, 1) := by decide +kernel
theorem dX8_children_40 : decode cX8_children 40 = .ok (.ireturn, 1) := by decide +kernel
set_option maxRecDepth 20000 in
theorem ggX8_goWash_X8_holder : GoodIn wsX8_goWash wsX8_holder := goodIn_r _ [7, 8, 9, 10, 6, 11, 1, 25, 26, 27, 28, 29, 30, 31, 32, 33, 34, 35, 36, 37, 38, 39, 40, 41, 42, 43, 44, 45] (by decide +kernel) (by decide +kernel)
set_option maxRecDepth 20000 in
theorem gX8_goWash_X8_holder : GoodIn wsX8_goWash (wsV RX8 105 RX8 yX8_holder wsX8_holder) := goodIn_app (goodIn_of _ (by decide +kernel)) ggX8_goWash_X8_holder
set_option maxRecDepth 20000 in
theorem ggX8_goWash_X8_children : GoodIn wsX8_goWash wsX8_children := goodIn_r _ [15, 1, 3, 4, 5, 6, 7, 8, 9, 10, 11, 25, 26, 27, 28, 29, 30, 31, 32, 33, 34, 35, 36, 37, 38, 39, 40, 41, 42, 43, 44, 45] (by decide +kernel) (by decide +kernel)
set_option maxRecDepth 20000 in
theorem gX8_goWash_X8_children : GoodIn wsX8_goWash (wsV RX8 111 RX8 yX8_children wsX8_children) := goodIn_app (goodIn_of _ (by decide +kernel)) ggX8_goWash_X8_children
set_option maxRecDepth 20000 in
theorem ggX8_goWash_X8_takesAway : GoodIn wsX8_goWash wsX8_takesAway := goodIn_r _ [19, 1, 20, 2, 3, 4, 5, 6, 7, 8, 9, 10, 11, 21, 22, 23, 24, 25, 26, 27, 28, 29, 30, 31, 32, 33, 34, 35, 36, 37, 38, 39, 40, 41, 42, 43, 44, 45] (by decide +kernel) (by decide +kernel)
set_option maxRecDepth 20000 in
theorem gX8_goWash_X8_takesAway : GoodIn wsX8_goWash (wsV RX8 108 RX8 yX8_takesAway wsX8_takesAway) := goodIn_app (goodIn_of _ (by decide +kernel)) ggX8_goWash_X8_takesAway
theorem dX8_goWash_0 : decode cX8_goWash 0 = .ok (.iconst 0, 1) := by decide +kernel
theorem dX8_goWash_1 : decode cX8_goWash 1 = .ok (.istore_n 1, 1) := by decide +kernel
theorem dX8_goWash_2 : decode cX8_goWash 2 = .ok (.iload_n 1, 1) := by decide +kernel
theorem dX8_goWash_3 : decode cX8_goWash 3 = .ok (.aload_n 0, 1) := by decide +kernel
theorem dX8_goWash_4 : decode cX8_goWash 4 = .ok (.getfield 7, 3) := by decide +kernel
theorem dX8_goWash_7 : decode cX8_goWash 7 = .ok (.iconst 0, 1) := by decide +kernel
theorem dX8_goWash_8 : decode cX8_goWash 8 = .ok (.iaload, 1) := by decide +kernel
theorem dX8_goWash_9 : decode cX8_goWash 9 = .ok (.if_icmp .ge 36, 3) := by decide +kernel
theorem dX8_goWash_12 : decode cX8_goWash 12 = .ok (.aload_n 0, 1) := by decide +kernel
theorem dX8_goWash_13 : decode cX8_goWash 13 = .ok (.getfield 25, 3) := by decide +kernel
theorem dX8_goWash_16 : decode cX8_goWash 16 = .ok (.iload_n 1, 1) := by decide +kernel
theorem dX8_goWash_17 : decode cX8_goWash 17 = .ok (.aload_n 0, 1) := by decide +kernel
theorem dX8_goWash_18 : decode cX8_goWash 18 = .ok (.iload_n 1, 1) := by decide +kernel
theorem dX8_goWash_19 : decode cX8_goWash 19 = .ok (.invokevirtual 105, 3) := by decide +kernel
theorem dX8_goWash_22 : decode cX8_goWash 22 = .ok (.ifCond .lt 15, 3) := by decide +kernel
theorem dX8_goWash_25 : decode cX8_goWash 25 = .ok (.aload_n 0, 1) := by decide +kernel
theorem dX8_goWash_26 : decode cX8_goWash 26 = .ok (.iload_n 1, 1) := by decide +kernel
theorem dX8_goWash_27 : decode cX8_goWash 27 = .ok (.invokevirtual 111, 3) := by decide +kernel
theorem dX8_goWash_30 : decode cX8_goWash 30 = .ok (.ifCond .ne 7, 3) := by decide +kernel
theorem dX8_goWash_33 : decode cX8_goWash 33 = .ok (.iconst 1, 1) := by decide +kernel
theorem dX8_goWash_34 : decode cX8_goWash 34 = .ok (.goto 4, 3) := by decide +kernel
theorem dX8_goWash_37 : decode cX8_goWash 37 = .ok (.iconst 0, 1) := by decide +kernel
theorem dX8_goWash_38 : decode cX8_goWash 38 = .ok (.bastore, 1) := by decide +kernel
theorem dX8_goWash_39 : decode cX8_goWash 39 = .ok (.iinc 1 1, 3) := by decide +kernel
theorem dX8_goWash_42 : decode cX8_goWash 42 = .ok (.goto (-40), 3) := by decide +kernel
theorem dX8_goWash_45 : decode cX8_goWash 45 = .ok (.aload_n 0, 1) := by decide +kernel
theorem dX8_goWash_46 : decode cX8_goWash 46 = .ok (.invokevirtual 108, 3) := by decide +kernel
theorem dX8_goWash_49 : decode cX8_goWash 49 = .ok (.ireturn, 1) := by decide +kernel
set_option maxRecDepth 20000 in
theorem ggX8_errorGo_X8_isRim : GoodIn wsX8_errorGo wsX8_isRim := goodIn_r _ [4, 5, 6, 3, 7] (by decide +kernel) (by decide +kernel)
set_option maxRecDepth 20000 in
theorem gX8_errorGo_X8_isRim : GoodIn wsX8_errorGo (va_wsS RX8 114 yX8_isRim wsX8_isRim) := goodIn_app (goodIn_of _ (by decide +kernel)) ggX8_errorGo_X8_isRim
set_option maxRecDepth 20000 in
theorem ggX8_errorGo_X8_isBlocked : GoodIn wsX8_errorGo wsX8_isBlocked := goodIn_r _ [11, 12, 13, 3, 14, 15, 16, 17, 18, 19, 20, 21, 22, 23, 24, 25, 26, 27, 28, 29, 30, 31, 32, 33, 34, 35, 36, 37, 38, 39, 40, 41, 42, 43, 44] (by decide +kernel) (by decide +kernel)
set_option maxRecDepth 20000 in
theorem gX8_errorGo_X8_isBlocked : GoodIn wsX8_errorGo (wsV RX8 99 RX8 yX8_isBlocked wsX8_isBlocked) := goodIn_app (goodIn_of _ (by decide +kernel)) ggX8_errorGo_X8_isBlocked
theorem dX8_errorGo_0 : decode cX8_errorGo 0 = .ok (.iload_n 1, 1) := by decide +kernel
theorem dX8_errorGo_1 : decode cX8_errorGo 1 = .ok (.invokestatic 114, 3) := by decide +kernel
theorem dX8_errorGo_4 : decode cX8_errorGo 4 = .ok (.ifCond .ne 7, 3) := by decide +kernel
theorem dX8_errorGo_7 : decode cX8_errorGo 7 = .ok (.iconst (-1), 1) := by decide +kernel
theorem dX8_errorGo_8 : decode cX8_errorGo 8 = .ok (.goto 17, 3) := by decide +kernel
theorem dX8_errorGo_11 : decode cX8_errorGo 11 = .ok (.aload_n 0, 1) := by decide +kernel
theorem dX8_errorGo_12 : decode cX8_errorGo 12 = .ok (.iload_n 1, 1) := by decide +kernel
theorem dX8_errorGo_13 : decode cX8_errorGo 13 = .ok (.invokevirtual 99, 3) := by decide +kernel
theorem dX8_errorGo_16 : decode cX8_errorGo 16 = .ok (.ifCond .eq 8, 3) := by decide +kernel
theorem dX8_errorGo_19 : decode cX8_errorGo 19 = .ok (.bipush (-2), 2) := by decide +kernel
theorem dX8_errorGo_21 : decode cX8_errorGo 21 = .ok (.goto 4, 3) := by decide +kernel
theorem dX8_errorGo_24 : decode cX8_errorGo 24 = .ok (.iconst 0, 1) := by decide +kernel
theorem dX8_errorGo_25 : decode cX8_errorGo 25 = .ok (.ireturn, 1) := by decide +kernel
set_option maxRecDepth 20000 in
theorem ggX8_errorBreak_X8_isGrain : GoodIn wsX8_errorBreak wsX8_isGrain := goodIn_r _ [5, 6, 7, 8, 4, 9, 18, 19, 20, 21, 22, 23, 24, 25, 26, 27, 28, 29, 30, 31, 32, 33, 34, 35, 36, 37, 38] (by decide +kernel) (by decide +kernel)
set_option maxRecDepth 20000 in
theorem gX8_errorBreak_X8_isGrain : GoodIn wsX8_errorBreak (wsV RX8 117 RX8 yX8_isGrain wsX8_isGrain) := goodIn_app (goodIn_of _ (by decide +kernel)) ggX8_errorBreak_X8_isGrain
set_option maxRecDepth 20000 in
theorem ggX8_errorBreak_X8_holder : GoodIn wsX8_errorBreak wsX8_holder := goodIn_r _ [13, 14, 15, 16, 4, 17, 6, 18, 19, 20, 21, 22, 23, 24, 25, 26, 27, 28, 29, 30, 31, 32, 33, 34, 35, 36, 37, 38] (by decide +kernel) (by decide +kernel)
set_option maxRecDepth 20000 in
theorem gX8_errorBreak_X8_holder : GoodIn wsX8_errorBreak (wsV RX8 105 RX8 yX8_holder wsX8_holder) := goodIn_app (goodIn_of _ (by decide +kernel)) ggX8_errorBreak_X8_holder
theorem dX8_errorBreak_0 : decode cX8_errorBreak 0 = .ok (.aload_n 0, 1) := by decide +kernel
theorem dX8_errorBreak_1 : decode cX8_errorBreak 1 = .ok (.iload_n 1, 1) := by decide +kernel
theorem dX8_errorBreak_2 : decode cX8_errorBreak 2 = .ok (.invokevirtual 117, 3) := by decide +kernel
theorem dX8_errorBreak_5 : decode cX8_errorBreak 5 = .ok (.ifCond .ne 7, 3) := by decide +kernel
theorem dX8_errorBreak_8 : decode cX8_errorBreak 8 = .ok (.iconst (-1), 1) := by decide +kernel
theorem dX8_errorBreak_9 : decode cX8_errorBreak 9 = .ok (.goto 17, 3) := by decide +kernel
theorem dX8_errorBreak_12 : decode cX8_errorBreak 12 = .ok (.aload_n 0, 1) := by decide +kernel
theorem dX8_errorBreak_13 : decode cX8_errorBreak 13 = .ok (.iload_n 1, 1) := by decide +kernel
theorem dX8_errorBreak_14 : decode cX8_errorBreak 14 = .ok (.invokevirtual 105, 3) := by decide +kernel
theorem dX8_errorBreak_17 : decode cX8_errorBreak 17 = .ok (.ifCond .ge 8, 3) := by decide +kernel
theorem dX8_errorBreak_20 : decode cX8_errorBreak 20 = .ok (.bipush (-2), 2) := by decide +kernel
theorem dX8_errorBreak_22 : decode cX8_errorBreak 22 = .ok (.goto 4, 3) := by decide +kernel
theorem dX8_errorBreak_25 : decode cX8_errorBreak 25 = .ok (.iconst 0, 1) := by decide +kernel
theorem dX8_errorBreak_26 : decode cX8_errorBreak 26 = .ok (.ireturn, 1) := by decide +kernel
set_option maxRecDepth 20000 in
theorem ggX8_begin_X8_in : GoodIn wsX8_begin wsX8_in := goodIn_r _ [5] (by decide +kernel) (by decide +kernel)
set_option maxRecDepth 20000 in
theorem gX8_begin_X8_in : GoodIn wsX8_begin (va_wsS RX8 47 yX8_in wsX8_in) := goodIn_app (goodIn_of _ (by decide +kernel)) ggX8_begin_X8_in
set_option maxRecDepth 20000 in
theorem ggX8_begin_X8_records : GoodIn wsX8_begin wsX8_records := goodIn_r _ [9, 10, 11, 1, 12, 13, 4, 14, 29, 30, 31, 32, 33, 34, 35, 36, 37, 38, 39, 40, 41, 42, 43, 44, 45, 46, 47, 48, 49] (by decide +kernel) (by decide +kernel)
set_option maxRecDepth 20000 in
theorem gX8_begin_X8_records : GoodIn wsX8_begin (wsV RX8 120 RX8 yX8_records wsX8_records) := goodIn_app (goodIn_of _ (by decide +kernel)) ggX8_begin_X8_records
set_option maxRecDepth 20000 in
theorem ggX8_begin_X8_roots : GoodIn wsX8_begin wsX8_roots := goodIn_r _ [18, 1, 19, 20, 4, 21, 22, 23, 24, 25, 26, 27, 28, 29, 30, 31, 32, 33, 34, 35, 36, 37, 38, 39, 40, 41, 42, 43, 44, 45, 46, 47, 48, 49] (by decide +kernel) (by decide +kernel)
set_option maxRecDepth 20000 in
theorem gX8_begin_X8_roots : GoodIn wsX8_begin (wsV RX8 35 RX8 yX8_roots wsX8_roots) := goodIn_app (goodIn_of _ (by decide +kernel)) ggX8_begin_X8_roots
theorem dX8_begin_0 : decode cX8_begin 0 = .ok (.iload_n 1, 1) := by decide +kernel
theorem dX8_begin_1 : decode cX8_begin 1 = .ok (.iconst 0, 1) := by decide +kernel
theorem dX8_begin_2 : decode cX8_begin 2 = .ok (.iconst 2, 1) := by decide +kernel
theorem dX8_begin_3 : decode cX8_begin 3 = .ok (.invokestatic 47, 3) := by decide +kernel
theorem dX8_begin_6 : decode cX8_begin 6 = .ok (.ifCond .ne 5, 3) := by decide +kernel
theorem dX8_begin_9 : decode cX8_begin 9 = .ok (.iconst (-1), 1) := by decide +kernel
theorem dX8_begin_10 : decode cX8_begin 10 = .ok (.ireturn, 1) := by decide +kernel
theorem dX8_begin_11 : decode cX8_begin 11 = .ok (.aload_n 0, 1) := by decide +kernel
theorem dX8_begin_12 : decode cX8_begin 12 = .ok (.invokevirtual 120, 3) := by decide +kernel
theorem dX8_begin_15 : decode cX8_begin 15 = .ok (.bipush 6, 2) := by decide +kernel
theorem dX8_begin_17 : decode cX8_begin 17 = .ok (.istore_n 2, 1) := by decide +kernel
theorem dX8_begin_18 : decode cX8_begin 18 = .ok (.iload_n 2, 1) := by decide +kernel
theorem dX8_begin_19 : decode cX8_begin 19 = .ok (.sipush 373, 3) := by decide +kernel
theorem dX8_begin_22 : decode cX8_begin 22 = .ok (.if_icmp .ge 16, 3) := by decide +kernel
theorem dX8_begin_25 : decode cX8_begin 25 = .ok (.aload_n 0, 1) := by decide +kernel
theorem dX8_begin_26 : decode cX8_begin 26 = .ok (.getfield 7, 3) := by decide +kernel
theorem dX8_begin_29 : decode cX8_begin 29 = .ok (.iload_n 2, 1) := by decide +kernel
theorem dX8_begin_30 : decode cX8_begin 30 = .ok (.iconst 0, 1) := by decide +kernel
theorem dX8_begin_31 : decode cX8_begin 31 = .ok (.iastore, 1) := by decide +kernel
theorem dX8_begin_32 : decode cX8_begin 32 = .ok (.iinc 2 1, 3) := by decide +kernel
theorem dX8_begin_35 : decode cX8_begin 35 = .ok (.goto (-17), 3) := by decide +kernel
theorem dX8_begin_38 : decode cX8_begin 38 = .ok (.aload_n 0, 1) := by decide +kernel
theorem dX8_begin_39 : decode cX8_begin 39 = .ok (.iload_n 1, 1) := by decide +kernel
theorem dX8_begin_40 : decode cX8_begin 40 = .ok (.invokevirtual 35, 3) := by decide +kernel
theorem dX8_begin_43 : decode cX8_begin 43 = .ok (.aload_n 0, 1) := by decide +kernel
theorem dX8_begin_44 : decode cX8_begin 44 = .ok (.getfield 7, 3) := by decide +kernel
theorem dX8_begin_47 : decode cX8_begin 47 = .ok (.iconst 0, 1) := by decide +kernel
theorem dX8_begin_48 : decode cX8_begin 48 = .ok (.iaload, 1) := by decide +kernel
theorem dX8_begin_49 : decode cX8_begin 49 = .ok (.ireturn, 1) := by decide +kernel
set_option maxRecDepth 20000 in
theorem ggX8_lot_X8_in : GoodIn wsX8_lot wsX8_in := goodIn_r _ [5] (by decide +kernel) (by decide +kernel)
set_option maxRecDepth 20000 in
theorem gX8_lot_X8_in : GoodIn wsX8_lot (va_wsS RX8 47 yX8_in wsX8_in) := goodIn_app (goodIn_of _ (by decide +kernel)) ggX8_lot_X8_in
set_option maxRecDepth 20000 in
theorem ggX8_lot_X8_records : GoodIn wsX8_lot wsX8_records := goodIn_r _ [9, 10, 11, 1, 12, 13, 4, 14, 15, 16, 17, 18, 19, 20, 21, 22, 23, 24, 25, 26, 27, 28, 29, 30, 31, 32, 33, 34, 35] (by decide +kernel) (by decide +kernel)
set_option maxRecDepth 20000 in
theorem gX8_lot_X8_records : GoodIn wsX8_lot (wsV RX8 120 RX8 yX8_records wsX8_records) := goodIn_app (goodIn_of _ (by decide +kernel)) ggX8_lot_X8_records
theorem dX8_lot_0 : decode cX8_lot 0 = .ok (.iload_n 1, 1) := by decide +kernel
theorem dX8_lot_1 : decode cX8_lot 1 = .ok (.iconst 0, 1) := by decide +kernel
theorem dX8_lot_2 : decode cX8_lot 2 = .ok (.sipush 9999, 3) := by decide +kernel
theorem dX8_lot_5 : decode cX8_lot 5 = .ok (.invokestatic 47, 3) := by decide +kernel
theorem dX8_lot_8 : decode cX8_lot 8 = .ok (.ifCond .ne 5, 3) := by decide +kernel
theorem dX8_lot_11 : decode cX8_lot 11 = .ok (.iconst (-1), 1) := by decide +kernel
theorem dX8_lot_12 : decode cX8_lot 12 = .ok (.ireturn, 1) := by decide +kernel
theorem dX8_lot_13 : decode cX8_lot 13 = .ok (.aload_n 0, 1) := by decide +kernel
theorem dX8_lot_14 : decode cX8_lot 14 = .ok (.invokevirtual 120, 3) := by decide +kernel
theorem dX8_lot_17 : decode cX8_lot 17 = .ok (.aload_n 0, 1) := by decide +kernel
theorem dX8_lot_18 : decode cX8_lot 18 = .ok (.getfield 7, 3) := by decide +kernel
theorem dX8_lot_21 : decode cX8_lot 21 = .ok (.iconst 1, 1) := by decide +kernel
theorem dX8_lot_22 : decode cX8_lot 22 = .ok (.iaload, 1) := by decide +kernel
theorem dX8_lot_23 : decode cX8_lot 23 = .ok (.istore_n 2, 1) := by decide +kernel
theorem dX8_lot_24 : decode cX8_lot 24 = .ok (.aload_n 0, 1) := by decide +kernel
theorem dX8_lot_25 : decode cX8_lot 25 = .ok (.getfield 7, 3) := by decide +kernel
theorem dX8_lot_28 : decode cX8_lot 28 = .ok (.iconst 1, 1) := by decide +kernel
theorem dX8_lot_29 : decode cX8_lot 29 = .ok (.iload_n 1, 1) := by decide +kernel
theorem dX8_lot_30 : decode cX8_lot 30 = .ok (.iastore, 1) := by decide +kernel
theorem dX8_lot_31 : decode cX8_lot 31 = .ok (.iload_n 2, 1) := by decide +kernel
theorem dX8_lot_32 : decode cX8_lot 32 = .ok (.ireturn, 1) := by decide +kernel
set_option maxRecDepth 20000 in
theorem ggX8_go_X8_errorGo : GoodIn wsX8_go wsX8_errorGo := goodIn_r _ [5, 6, 7, 4, 8, 9, 10, 11, 12, 13, 14, 15, 16, 17, 18, 19, 20, 21, 22, 23, 24, 25, 26, 27, 67, 68, 69, 70, 71, 72, 73, 74, 75, 76, 77, 78, 79, 80, 81, 82, 83, 84, 85, 86, 87] (by decide +kernel) (by decide +kernel)
set_option maxRecDepth 20000 in
theorem gX8_go_X8_errorGo : GoodIn wsX8_go (wsV RX8 123 RX8 yX8_errorGo wsX8_errorGo) := goodIn_app (goodIn_of _ (by decide +kernel)) ggX8_go_X8_errorGo
set_option maxRecDepth 20000 in
theorem ggX8_go_X8_records : GoodIn wsX8_go wsX8_records := goodIn_r _ [31, 32, 33, 23, 34, 35, 4, 36, 67, 68, 69, 70, 71, 72, 73, 74, 75, 76, 77, 78, 79, 80, 81, 82, 83, 84, 85, 86, 87] (by decide +kernel) (by decide +kernel)
set_option maxRecDepth 20000 in
theorem gX8_go_X8_records : GoodIn wsX8_go (wsV RX8 120 RX8 yX8_records wsX8_records) := goodIn_app (goodIn_of _ (by decide +kernel)) ggX8_go_X8_records
set_option maxRecDepth 20000 in
theorem ggX8_go_X8_goGrain : GoodIn wsX8_go wsX8_goGrain := goodIn_r _ [40, 23, 41, 42, 16, 17, 4, 18, 43, 44, 45, 46, 47, 48, 49, 50, 51, 52, 53, 54, 9, 10, 11, 19, 20, 21, 22, 24, 25, 26, 27, 55, 56, 57, 58, 59, 60, 61, 62, 63, 64, 65, 66, 67, 68, 69, 70, 71, 72, 73, 74, 75, 76, 77, 78, 79, 80, 81, 82, 83, 84, 85, 86, 87] (by decide +kernel) (by decide +kernel)
set_option maxRecDepth 20000 in
theorem gX8_go_X8_goGrain : GoodIn wsX8_go (wsV RX8 102 RX8 yX8_goGrain wsX8_goGrain) := goodIn_app (goodIn_of _ (by decide +kernel)) ggX8_go_X8_goGrain
theorem dX8_go_0 : decode cX8_go 0 = .ok (.aload_n 0, 1) := by decide +kernel
theorem dX8_go_1 : decode cX8_go 1 = .ok (.iload_n 1, 1) := by decide +kernel
theorem dX8_go_2 : decode cX8_go 2 = .ok (.invokevirtual 123, 3) := by decide +kernel
theorem dX8_go_5 : decode cX8_go 5 = .ok (.istore_n 2, 1) := by decide +kernel
theorem dX8_go_6 : decode cX8_go 6 = .ok (.iload_n 2, 1) := by decide +kernel
theorem dX8_go_7 : decode cX8_go 7 = .ok (.ifCond .ge 5, 3) := by decide +kernel
theorem dX8_go_10 : decode cX8_go 10 = .ok (.iload_n 2, 1) := by decide +kernel
theorem dX8_go_11 : decode cX8_go 11 = .ok (.ireturn, 1) := by decide +kernel
theorem dX8_go_12 : decode cX8_go 12 = .ok (.aload_n 0, 1) := by decide +kernel
theorem dX8_go_13 : decode cX8_go 13 = .ok (.invokevirtual 120, 3) := by decide +kernel
theorem dX8_go_16 : decode cX8_go 16 = .ok (.aload_n 0, 1) := by decide +kernel
theorem dX8_go_17 : decode cX8_go 17 = .ok (.iload_n 1, 1) := by decide +kernel
theorem dX8_go_18 : decode cX8_go 18 = .ok (.invokevirtual 102, 3) := by decide +kernel
theorem dX8_go_21 : decode cX8_go 21 = .ok (.ireturn, 1) := by decide +kernel
set_option maxRecDepth 20000 in
theorem ggX8_rain_X8_in : GoodIn wsX8_rain wsX8_in := goodIn_r _ [4] (by decide +kernel) (by decide +kernel)
set_option maxRecDepth 20000 in
theorem gX8_rain_X8_in : GoodIn wsX8_rain (va_wsS RX8 47 yX8_in wsX8_in) := goodIn_app (goodIn_of _ (by decide +kernel)) ggX8_rain_X8_in
set_option maxRecDepth 20000 in
theorem ggX8_rain_X8_records : GoodIn wsX8_rain wsX8_records := goodIn_r _ [8, 9, 10, 11, 12, 13, 3, 14, 64, 65, 66, 67, 68, 69, 70, 71, 72, 73, 74, 75, 76, 77, 78, 79, 80, 81, 82, 83, 84] (by decide +kernel) (by decide +kernel)
set_option maxRecDepth 20000 in
theorem gX8_rain_X8_records : GoodIn wsX8_rain (wsV RX8 120 RX8 yX8_records wsX8_records) := goodIn_app (goodIn_of _ (by decide +kernel)) ggX8_rain_X8_records
set_option maxRecDepth 20000 in
theorem ggX8_rain_X8_goRain : GoodIn wsX8_rain wsX8_goRain := goodIn_r _ [18, 11, 19, 20, 21, 3, 22, 23, 24, 25, 26, 27, 28, 29, 30, 31, 32, 33, 34, 35, 36, 37, 38, 39, 40, 41, 42, 43, 44, 45, 46, 47, 48, 49, 50, 51, 52, 53, 54, 55, 1, 2, 4, 56, 57, 58, 59, 60, 61, 62, 63, 64, 65, 66, 67, 68, 69, 70, 71, 72, 73, 74, 75, 76, 77, 78, 79, 80, 81, 82, 83, 84] (by decide +kernel) (by decide +kernel)
set_option maxRecDepth 20000 in
theorem gX8_rain_X8_goRain : GoodIn wsX8_rain (wsV RX8 126 RX8 yX8_goRain wsX8_goRain) := goodIn_app (goodIn_of _ (by decide +kernel)) ggX8_rain_X8_goRain
theorem dX8_rain_0 : decode cX8_rain 0 = .ok (.iload_n 1, 1) := by decide +kernel
theorem dX8_rain_1 : decode cX8_rain 1 = .ok (.iconst 1, 1) := by decide +kernel
theorem dX8_rain_2 : decode cX8_rain 2 = .ok (.bipush 20, 2) := by decide +kernel
theorem dX8_rain_4 : decode cX8_rain 4 = .ok (.invokestatic 47, 3) := by decide +kernel
theorem dX8_rain_7 : decode cX8_rain 7 = .ok (.ifCond .ne 5, 3) := by decide +kernel
theorem dX8_rain_10 : decode cX8_rain 10 = .ok (.iconst (-1), 1) := by decide +kernel
theorem dX8_rain_11 : decode cX8_rain 11 = .ok (.ireturn, 1) := by decide +kernel
theorem dX8_rain_12 : decode cX8_rain 12 = .ok (.aload_n 0, 1) := by decide +kernel
theorem dX8_rain_13 : decode cX8_rain 13 = .ok (.invokevirtual 120, 3) := by decide +kernel
theorem dX8_rain_16 : decode cX8_rain 16 = .ok (.aload_n 0, 1) := by decide +kernel
theorem dX8_rain_17 : decode cX8_rain 17 = .ok (.iload_n 1, 1) := by decide +kernel
theorem dX8_rain_18 : decode cX8_rain 18 = .ok (.invokevirtual 126, 3) := by decide +kernel
theorem dX8_rain_21 : decode cX8_rain 21 = .ok (.ireturn, 1) := by decide +kernel
set_option maxRecDepth 20000 in
theorem ggX8_breakOff_X8_errorBreak : GoodIn wsX8_breakOff wsX8_errorBreak := goodIn_r _ [5, 6, 7, 8, 4, 9, 10, 11, 12, 13, 14, 15, 16, 17, 18, 19, 20, 21, 45, 46, 47, 48, 49, 50, 51, 52, 53, 54, 55, 56, 57, 58, 59, 60, 61, 62, 63, 64, 65] (by decide +kernel) (by decide +kernel)
set_option maxRecDepth 20000 in
theorem gX8_breakOff_X8_errorBreak : GoodIn wsX8_breakOff (wsV RX8 129 RX8 yX8_errorBreak wsX8_errorBreak) := goodIn_app (goodIn_of _ (by decide +kernel)) ggX8_breakOff_X8_errorBreak
set_option maxRecDepth 20000 in
theorem ggX8_breakOff_X8_records : GoodIn wsX8_breakOff wsX8_records := goodIn_r _ [25, 26, 27, 10, 28, 29, 4, 30, 45, 46, 47, 48, 49, 50, 51, 52, 53, 54, 55, 56, 57, 58, 59, 60, 61, 62, 63, 64, 65] (by decide +kernel) (by decide +kernel)
set_option maxRecDepth 20000 in
theorem gX8_breakOff_X8_records : GoodIn wsX8_breakOff (wsV RX8 120 RX8 yX8_records wsX8_records) := goodIn_app (goodIn_of _ (by decide +kernel)) ggX8_breakOff_X8_records
set_option maxRecDepth 20000 in
theorem ggX8_breakOff_X8_goBreak : GoodIn wsX8_breakOff wsX8_goBreak := goodIn_r _ [34, 10, 35, 14, 15, 16, 4, 17, 18, 19, 20, 21, 36, 37, 38, 39, 40, 41, 42, 43, 44, 45, 46, 47, 48, 49, 50, 51, 52, 53, 54, 55, 56, 57, 58, 59, 60, 61, 62, 63, 64, 65] (by decide +kernel) (by decide +kernel)
set_option maxRecDepth 20000 in
theorem gX8_breakOff_X8_goBreak : GoodIn wsX8_breakOff (wsV RX8 132 RX8 yX8_goBreak wsX8_goBreak) := goodIn_app (goodIn_of _ (by decide +kernel)) ggX8_breakOff_X8_goBreak
theorem dX8_breakOff_0 : decode cX8_breakOff 0 = .ok (.aload_n 0, 1) := by decide +kernel
theorem dX8_breakOff_1 : decode cX8_breakOff 1 = .ok (.iload_n 1, 1) := by decide +kernel
theorem dX8_breakOff_2 : decode cX8_breakOff 2 = .ok (.invokevirtual 129, 3) := by decide +kernel
theorem dX8_breakOff_5 : decode cX8_breakOff 5 = .ok (.istore_n 2, 1) := by decide +kernel
theorem dX8_breakOff_6 : decode cX8_breakOff 6 = .ok (.iload_n 2, 1) := by decide +kernel
theorem dX8_breakOff_7 : decode cX8_breakOff 7 = .ok (.ifCond .ge 5, 3) := by decide +kernel
theorem dX8_breakOff_10 : decode cX8_breakOff 10 = .ok (.iload_n 2, 1) := by decide +kernel
theorem dX8_breakOff_11 : decode cX8_breakOff 11 = .ok (.ireturn, 1) := by decide +kernel
theorem dX8_breakOff_12 : decode cX8_breakOff 12 = .ok (.aload_n 0, 1) := by decide +kernel
theorem dX8_breakOff_13 : decode cX8_breakOff 13 = .ok (.invokevirtual 120, 3) := by decide +kernel
theorem dX8_breakOff_16 : decode cX8_breakOff 16 = .ok (.aload_n 0, 1) := by decide +kernel
theorem dX8_breakOff_17 : decode cX8_breakOff 17 = .ok (.iload_n 1, 1) := by decide +kernel
theorem dX8_breakOff_18 : decode cX8_breakOff 18 = .ok (.invokevirtual 132, 3) := by decide +kernel
theorem dX8_breakOff_21 : decode cX8_breakOff 21 = .ok (.ireturn, 1) := by decide +kernel
set_option maxRecDepth 20000 in
theorem ggX8_wash_X8_records : GoodIn wsX8_wash wsX8_records := goodIn_r _ [5, 6, 7, 8, 9, 10, 4, 11, 38, 39, 40, 41, 42, 43, 44, 45, 46, 47, 48, 49, 50, 51, 52, 53, 54, 55, 56, 57, 58] (by decide +kernel) (by decide +kernel)
set_option maxRecDepth 20000 in
theorem gX8_wash_X8_records : GoodIn wsX8_wash (wsV RX8 120 RX8 yX8_records wsX8_records) := goodIn_app (goodIn_of _ (by decide +kernel)) ggX8_wash_X8_records
set_option maxRecDepth 20000 in
theorem ggX8_wash_X8_goWash : GoodIn wsX8_wash wsX8_goWash := goodIn_r _ [15, 8, 16, 17, 18, 19, 4, 20, 21, 22, 23, 24, 25, 26, 27, 28, 29, 30, 31, 32, 33, 34, 35, 36, 37, 38, 39, 40, 41, 42, 43, 44, 45, 46, 47, 48, 49, 50, 51, 52, 53, 54, 55, 56, 57, 58] (by decide +kernel) (by decide +kernel)
set_option maxRecDepth 20000 in
theorem gX8_wash_X8_goWash : GoodIn wsX8_wash (wsV RX8 135 RX8 yX8_goWash wsX8_goWash) := goodIn_app (goodIn_of _ (by decide +kernel)) ggX8_wash_X8_goWash
theorem dX8_wash_0 : decode cX8_wash 0 = .ok (.aload_n 0, 1) := by decide +kernel
theorem dX8_wash_1 : decode cX8_wash 1 = .ok (.invokevirtual 120, 3) := by decide +kernel
theorem dX8_wash_4 : decode cX8_wash 4 = .ok (.aload_n 0, 1) := by decide +kernel
theorem dX8_wash_5 : decode cX8_wash 5 = .ok (.invokevirtual 135, 3) := by decide +kernel
theorem dX8_wash_8 : decode cX8_wash 8 = .ok (.ireturn, 1) := by decide +kernel
theorem dX8_leastOf_0 : decode cX8_leastOf 0 = .ok (.iload_n 0, 1) := by decide +kernel
theorem dX8_leastOf_1 : decode cX8_leastOf 1 = .ok (.ifCond .ne 7, 3) := by decide +kernel
theorem dX8_leastOf_4 : decode cX8_leastOf 4 = .ok (.iconst 1, 1) := by decide +kernel
theorem dX8_leastOf_5 : decode cX8_leastOf 5 = .ok (.goto 14, 3) := by decide +kernel
theorem dX8_leastOf_8 : decode cX8_leastOf 8 = .ok (.iload_n 0, 1) := by decide +kernel
theorem dX8_leastOf_9 : decode cX8_leastOf 9 = .ok (.iconst 1, 1) := by decide +kernel
theorem dX8_leastOf_10 : decode cX8_leastOf 10 = .ok (.if_icmp .ne 8, 3) := by decide +kernel
theorem dX8_leastOf_13 : decode cX8_leastOf 13 = .ok (.bipush 10, 2) := by decide +kernel
theorem dX8_leastOf_15 : decode cX8_leastOf 15 = .ok (.goto 4, 3) := by decide +kernel
theorem dX8_leastOf_18 : decode cX8_leastOf 18 = .ok (.iconst 0, 1) := by decide +kernel
theorem dX8_leastOf_19 : decode cX8_leastOf 19 = .ok (.ireturn, 1) := by decide +kernel
theorem dX8_mostOf_0 : decode cX8_mostOf 0 = .ok (.iload_n 0, 1) := by decide +kernel
theorem dX8_mostOf_1 : decode cX8_mostOf 1 = .ok (.iconst 1, 1) := by decide +kernel
theorem dX8_mostOf_2 : decode cX8_mostOf 2 = .ok (.if_icmp .ne 9, 3) := by decide +kernel
theorem dX8_mostOf_5 : decode cX8_mostOf 5 = .ok (.sipush 200, 3) := by decide +kernel
theorem dX8_mostOf_8 : decode cX8_mostOf 8 = .ok (.goto 13, 3) := by decide +kernel
theorem dX8_mostOf_11 : decode cX8_mostOf 11 = .ok (.iload_n 0, 1) := by decide +kernel
theorem dX8_mostOf_12 : decode cX8_mostOf 12 = .ok (.iconst 3, 1) := by decide +kernel
theorem dX8_mostOf_13 : decode cX8_mostOf 13 = .ok (.if_icmp .ne 7, 3) := by decide +kernel
theorem dX8_mostOf_16 : decode cX8_mostOf 16 = .ok (.iconst 3, 1) := by decide +kernel
theorem dX8_mostOf_17 : decode cX8_mostOf 17 = .ok (.goto 4, 3) := by decide +kernel
theorem dX8_mostOf_20 : decode cX8_mostOf 20 = .ok (.iconst 4, 1) := by decide +kernel
theorem dX8_mostOf_21 : decode cX8_mostOf 21 = .ok (.ireturn, 1) := by decide +kernel
set_option maxRecDepth 20000 in
theorem ggX8_set_X8_in : GoodIn wsX8_set wsX8_in := goodIn_r _ [5] (by decide +kernel) (by decide +kernel)
set_option maxRecDepth 20000 in
theorem gX8_set_X8_in : GoodIn wsX8_set (va_wsS RX8 47 yX8_in wsX8_in) := goodIn_app (goodIn_of _ (by decide +kernel)) ggX8_set_X8_in
set_option maxRecDepth 20000 in
theorem ggX8_set_X8_leastOf : GoodIn wsX8_set wsX8_leastOf := goodIn_r _ [8] (by decide +kernel) (by decide +kernel)
set_option maxRecDepth 20000 in
theorem gX8_set_X8_leastOf : GoodIn wsX8_set (va_wsS RX8 138 yX8_leastOf wsX8_leastOf) := goodIn_app (goodIn_of _ (by decide +kernel)) ggX8_set_X8_leastOf
set_option maxRecDepth 20000 in
theorem ggX8_set_X8_mostOf : GoodIn wsX8_set wsX8_mostOf := goodIn_r _ [11] (by decide +kernel) (by decide +kernel)
set_option maxRecDepth 20000 in
theorem gX8_set_X8_mostOf : GoodIn wsX8_set (va_wsS RX8 141 yX8_mostOf wsX8_mostOf) := goodIn_app (goodIn_of _ (by decide +kernel)) ggX8_set_X8_mostOf
set_option maxRecDepth 20000 in
theorem ggX8_set_X8_records : GoodIn wsX8_set wsX8_records := goodIn_r _ [15, 16, 17, 1, 18, 19, 4, 20, 21, 22, 23, 24, 25, 26, 27, 28, 29, 30, 31, 32, 33, 34, 35, 36, 37, 38, 39, 40, 41] (by decide +kernel) (by decide +kernel)
set_option maxRecDepth 20000 in
theorem gX8_set_X8_records : GoodIn wsX8_set (wsV RX8 120 RX8 yX8_records wsX8_records) := goodIn_app (goodIn_of _ (by decide +kernel)) ggX8_set_X8_records
theorem dX8_set_0 : decode cX8_set 0 = .ok (.iload_n 1, 1) := by decide +kernel
theorem dX8_set_1 : decode cX8_set 1 = .ok (.iconst 0, 1) := by decide +kernel
theorem dX8_set_2 : decode cX8_set 2 = .ok (.iconst 3, 1) := by decide +kernel
theorem dX8_set_3 : decode cX8_set 3 = .ok (.invokestatic 47, 3) := by decide +kernel
theorem dX8_set_6 : decode cX8_set 6 = .ok (.ifCond .eq 18, 3) := by decide +kernel
theorem dX8_set_9 : decode cX8_set 9 = .ok (.iload_n 2, 1) := by decide +kernel
theorem dX8_set_10 : decode cX8_set 10 = .ok (.iload_n 1, 1) := by decide +kernel
theorem dX8_set_11 : decode cX8_set 11 = .ok (.invokestatic 138, 3) := by decide +kernel
theorem dX8_set_14 : decode cX8_set 14 = .ok (.iload_n 1, 1) := by decide +kernel
theorem dX8_set_15 : decode cX8_set 15 = .ok (.invokestatic 141, 3) := by decide +kernel
theorem dX8_set_18 : decode cX8_set 18 = .ok (.invokestatic 47, 3) := by decide +kernel
theorem dX8_set_21 : decode cX8_set 21 = .ok (.ifCond .ne 5, 3) := by decide +kernel
theorem dX8_set_24 : decode cX8_set 24 = .ok (.iconst (-1), 1) := by decide +kernel
theorem dX8_set_25 : decode cX8_set 25 = .ok (.ireturn, 1) := by decide +kernel
theorem dX8_set_26 : decode cX8_set 26 = .ok (.aload_n 0, 1) := by decide +kernel
theorem dX8_set_27 : decode cX8_set 27 = .ok (.invokevirtual 120, 3) := by decide +kernel
theorem dX8_set_30 : decode cX8_set 30 = .ok (.aload_n 0, 1) := by decide +kernel
theorem dX8_set_31 : decode cX8_set 31 = .ok (.getfield 7, 3) := by decide +kernel
theorem dX8_set_34 : decode cX8_set 34 = .ok (.iconst 2, 1) := by decide +kernel
theorem dX8_set_35 : decode cX8_set 35 = .ok (.iload_n 1, 1) := by decide +kernel
theorem dX8_set_36 : decode cX8_set 36 = .ok (.iadd, 1) := by decide +kernel
theorem dX8_set_37 : decode cX8_set 37 = .ok (.iaload, 1) := by decide +kernel
theorem dX8_set_38 : decode cX8_set 38 = .ok (.istore_n 3, 1) := by decide +kernel
theorem dX8_set_39 : decode cX8_set 39 = .ok (.aload_n 0, 1) := by decide +kernel
theorem dX8_set_40 : decode cX8_set 40 = .ok (.getfield 7, 3) := by decide +kernel
theorem dX8_set_43 : decode cX8_set 43 = .ok (.iconst 2, 1) := by decide +kernel
theorem dX8_set_44 : decode cX8_set 44 = .ok (.iload_n 1, 1) := by decide +kernel
theorem dX8_set_45 : decode cX8_set 45 = .ok (.iadd, 1) := by decide +kernel
theorem dX8_set_46 : decode cX8_set 46 = .ok (.iload_n 2, 1) := by decide +kernel
theorem dX8_set_47 : decode cX8_set 47 = .ok (.iastore, 1) := by decide +kernel
theorem dX8_set_48 : decode cX8_set 48 = .ok (.iload_n 3, 1) := by decide +kernel
theorem dX8_set_49 : decode cX8_set 49 = .ok (.ireturn, 1) := by decide +kernel
set_option maxRecDepth 20000 in
theorem ggX8_append_X8_in : GoodIn wsX8_append wsX8_in := goodIn_r _ [6] (by decide +kernel) (by decide +kernel)
set_option maxRecDepth 20000 in
theorem gX8_append_X8_in : GoodIn wsX8_append (va_wsS RX8 47 yX8_in wsX8_in) := goodIn_app (goodIn_of _ (by decide +kernel)) ggX8_append_X8_in
theorem dX8_append_0 : decode cX8_append 0 = .ok (.iload_n 1, 1) := by decide +kernel
theorem dX8_append_1 : decode cX8_append 1 = .ok (.bipush 33, 2) := by decide +kernel
theorem dX8_append_3 : decode cX8_append 3 = .ok (.bipush 126, 2) := by decide +kernel
theorem dX8_append_5 : decode cX8_append 5 = .ok (.invokestatic 47, 3) := by decide +kernel
theorem dX8_append_8 : decode cX8_append 8 = .ok (.ifCond .ne 5, 3) := by decide +kernel
theorem dX8_append_11 : decode cX8_append 11 = .ok (.iconst (-1), 1) := by decide +kernel
theorem dX8_append_12 : decode cX8_append 12 = .ok (.ireturn, 1) := by decide +kernel
theorem dX8_append_13 : decode cX8_append 13 = .ok (.aload_n 0, 1) := by decide +kernel
theorem dX8_append_14 : decode cX8_append 14 = .ok (.getfield 144, 3) := by decide +kernel
theorem dX8_append_17 : decode cX8_append 17 = .ok (.bipush 60, 2) := by decide +kernel
theorem dX8_append_19 : decode cX8_append 19 = .ok (.if_icmp .ne 6, 3) := by decide +kernel
theorem dX8_append_22 : decode cX8_append 22 = .ok (.bipush (-3), 2) := by decide +kernel
theorem dX8_append_24 : decode cX8_append 24 = .ok (.ireturn, 1) := by decide +kernel
theorem dX8_append_25 : decode cX8_append 25 = .ok (.aload_n 0, 1) := by decide +kernel
theorem dX8_append_26 : decode cX8_append 26 = .ok (.getfield 22, 3) := by decide +kernel
theorem dX8_append_29 : decode cX8_append 29 = .ok (.aload_n 0, 1) := by decide +kernel
theorem dX8_append_30 : decode cX8_append 30 = .ok (.getfield 144, 3) := by decide +kernel
theorem dX8_append_33 : decode cX8_append 33 = .ok (.iload_n 1, 1) := by decide +kernel
theorem dX8_append_34 : decode cX8_append 34 = .ok (.iastore, 1) := by decide +kernel
theorem dX8_append_35 : decode cX8_append 35 = .ok (.aload_n 0, 1) := by decide +kernel
theorem dX8_append_36 : decode cX8_append 36 = .ok (.dup, 1) := by decide +kernel
theorem dX8_append_37 : decode cX8_append 37 = .ok (.getfield 144, 3) := by decide +kernel
theorem dX8_append_40 : decode cX8_append 40 = .ok (.iconst 1, 1) := by decide +kernel
theorem dX8_append_41 : decode cX8_append 41 = .ok (.iadd, 1) := by decide +kernel
theorem dX8_append_42 : decode cX8_append 42 = .ok (.putfield 144, 3) := by decide +kernel
theorem dX8_append_45 : decode cX8_append 45 = .ok (.aload_n 0, 1) := by decide +kernel
theorem dX8_append_46 : decode cX8_append 46 = .ok (.getfield 144, 3) := by decide +kernel
theorem dX8_append_49 : decode cX8_append 49 = .ok (.ireturn, 1) := by decide +kernel
end
section
theorem dX8_clear_0 : decode cX8_clear 0 = .ok (.aload_n 0, 1) := by decide +kernel
theorem dX8_clear_1 : decode cX8_clear 1 = .ok (.getfield 144, 3) := by decide +kernel
theorem dX8_clear_4 : decode cX8_clear 4 = .ok (.istore_n 1, 1) := by decide +kernel
theorem dX8_clear_5 : decode cX8_clear 5 = .ok (.aload_n 0, 1) := by decide +kernel
theorem dX8_clear_6 : decode cX8_clear 6 = .ok (.iconst 0, 1) := by decide +kernel
theorem dX8_clear_7 : decode cX8_clear 7 = .ok (.putfield 144, 3) := by decide +kernel
theorem dX8_clear_10 : decode cX8_clear 10 = .ok (.iload_n 1, 1) := by decide +kernel
theorem dX8_clear_11 : decode cX8_clear 11 = .ok (.ireturn, 1) := by decide +kernel
theorem dX8_here_0 : decode cX8_here 0 = .ok (.aload_n 0, 1) := by decide +kernel
theorem dX8_here_1 : decode cX8_here 1 = .ok (.getfield 147, 3) := by decide +kernel
theorem dX8_here_4 : decode cX8_here 4 = .ok (.aload_n 0, 1) := by decide +kernel
theorem dX8_here_5 : decode cX8_here 5 = .ok (.getfield 144, 3) := by decide +kernel
theorem dX8_here_8 : decode cX8_here 8 = .ok (.if_icmp .ge 15, 3) := by decide +kernel
theorem dX8_here_11 : decode cX8_here 11 = .ok (.aload_n 0, 1) := by decide +kernel
theorem dX8_here_12 : decode cX8_here 12 = .ok (.getfield 22, 3) := by decide +kernel
theorem dX8_here_15 : decode cX8_here 15 = .ok (.aload_n 0, 1) := by decide +kernel
theorem dX8_here_16 : decode cX8_here 16 = .ok (.getfield 147, 3) := by decide +kernel
theorem dX8_here_19 : decode cX8_here 19 = .ok (.iaload, 1) := by decide +kernel
theorem dX8_here_20 : decode cX8_here 20 = .ok (.goto 4, 3) := by decide +kernel
theorem dX8_here_23 : decode cX8_here 23 = .ok (.iconst 0, 1) := by decide +kernel
theorem dX8_here_24 : decode cX8_here 24 = .ok (.ireturn, 1) := by decide +kernel
theorem dX8_takes_0 : decode cX8_takes 0 = .ok (.aload_n 0, 1) := by decide +kernel
theorem dX8_takes_1 : decode cX8_takes 1 = .ok (.aload_n 0, 1) := by decide +kernel
theorem dX8_takes_2 : decode cX8_takes 2 = .ok (.getfield 150, 3) := by decide +kernel
theorem dX8_takes_5 : decode cX8_takes 5 = .ok (.ifCond .eq 11, 3) := by decide +kernel
theorem dX8_takes_8 : decode cX8_takes 8 = .ok (.iload_n 1, 1) := by decide +kernel
theorem dX8_takes_9 : decode cX8_takes 9 = .ok (.ifCond .eq 7, 3) := by decide +kernel
theorem dX8_takes_12 : decode cX8_takes 12 = .ok (.iconst 1, 1) := by decide +kernel
theorem dX8_takes_13 : decode cX8_takes 13 = .ok (.goto 4, 3) := by decide +kernel
theorem dX8_takes_16 : decode cX8_takes 16 = .ok (.iconst 0, 1) := by decide +kernel
theorem dX8_takes_17 : decode cX8_takes 17 = .ok (.putfield 150, 3) := by decide +kernel
theorem dX8_takes_20 : decode cX8_takes 20 = .ok (.aload_n 0, 1) := by decide +kernel
theorem dX8_takes_21 : decode cX8_takes 21 = .ok (.dup, 1) := by decide +kernel
theorem dX8_takes_22 : decode cX8_takes 22 = .ok (.getfield 147, 3) := by decide +kernel
theorem dX8_takes_25 : decode cX8_takes 25 = .ok (.aload_n 0, 1) := by decide +kernel
theorem dX8_takes_26 : decode cX8_takes 26 = .ok (.getfield 150, 3) := by decide +kernel
theorem dX8_takes_29 : decode cX8_takes 29 = .ok (.ifCond .eq 7, 3) := by decide +kernel
theorem dX8_takes_32 : decode cX8_takes 32 = .ok (.iconst 1, 1) := by decide +kernel
theorem dX8_takes_33 : decode cX8_takes 33 = .ok (.goto 4, 3) := by decide +kernel
theorem dX8_takes_36 : decode cX8_takes 36 = .ok (.iconst 0, 1) := by decide +kernel
theorem dX8_takes_37 : decode cX8_takes 37 = .ok (.iadd, 1) := by decide +kernel
theorem dX8_takes_38 : decode cX8_takes 38 = .ok (.putfield 147, 3) := by decide +kernel
theorem dX8_takes_41 : decode cX8_takes 41 = .ok (.return_, 1) := by decide +kernel
set_option maxRecDepth 20000 in
theorem ggX8_takesNumber_X8_here : GoodIn wsX8_takesNumber wsX8_here := goodIn_r _ [8, 3, 9, 10, 18, 19, 20, 21, 22, 23, 24, 25, 26, 27, 28, 29, 30, 31, 32, 33, 34, 35, 36, 37, 38] (by decide +kernel) (by decide +kernel)
set_option maxRecDepth 20000 in
theorem gX8_takesNumber_X8_here : GoodIn wsX8_takesNumber (wsV RX8 154 RX8 yX8_here wsX8_here) := goodIn_app (goodIn_of _ (by decide +kernel)) ggX8_takesNumber_X8_here
set_option maxRecDepth 20000 in
theorem ggX8_takesNumber_X8_in : GoodIn wsX8_takesNumber wsX8_in := goodIn_r _ [13] (by decide +kernel) (by decide +kernel)
set_option maxRecDepth 20000 in
theorem gX8_takesNumber_X8_in : GoodIn wsX8_takesNumber (va_wsS RX8 47 yX8_in wsX8_in) := goodIn_app (goodIn_of _ (by decide +kernel)) ggX8_takesNumber_X8_in
set_option maxRecDepth 20000 in
theorem ggX8_takesNumber_X8_takes : GoodIn wsX8_takesNumber wsX8_takes := goodIn_r _ [17, 2, 3, 18, 19, 20, 21, 22, 23, 24, 25, 26, 27, 28, 29, 30, 31, 32, 33, 34, 35, 36, 37, 38] (by decide +kernel) (by decide +kernel)
set_option maxRecDepth 20000 in
theorem gX8_takesNumber_X8_takes : GoodIn wsX8_takesNumber (wsV RX8 160 RX8 yX8_takes wsX8_takes) := goodIn_app (goodIn_of _ (by decide +kernel)) ggX8_takesNumber_X8_takes
theorem dX8_takesNumber_0 : decode cX8_takesNumber 0 = .ok (.aload_n 0, 1) := by decide +kernel
theorem dX8_takesNumber_1 : decode cX8_takesNumber 1 = .ok (.aload_n 0, 1) := by decide +kernel
theorem dX8_takesNumber_2 : decode cX8_takesNumber 2 = .ok (.invokevirtual 154, 3) := by decide +kernel
theorem dX8_takesNumber_5 : decode cX8_takesNumber 5 = .ok (.bipush 48, 2) := by decide +kernel
theorem dX8_takesNumber_7 : decode cX8_takesNumber 7 = .ok (.isub, 1) := by decide +kernel
theorem dX8_takesNumber_8 : decode cX8_takesNumber 8 = .ok (.putfield 157, 3) := by decide +kernel
theorem dX8_takesNumber_11 : decode cX8_takesNumber 11 = .ok (.aload_n 0, 1) := by decide +kernel
theorem dX8_takesNumber_12 : decode cX8_takesNumber 12 = .ok (.aload_n 0, 1) := by decide +kernel
theorem dX8_takesNumber_13 : decode cX8_takesNumber 13 = .ok (.invokevirtual 154, 3) := by decide +kernel
theorem dX8_takesNumber_16 : decode cX8_takesNumber 16 = .ok (.bipush 48, 2) := by decide +kernel
theorem dX8_takesNumber_18 : decode cX8_takesNumber 18 = .ok (.bipush 57, 2) := by decide +kernel
theorem dX8_takesNumber_20 : decode cX8_takesNumber 20 = .ok (.invokestatic 47, 3) := by decide +kernel
theorem dX8_takesNumber_23 : decode cX8_takesNumber 23 = .ok (.invokevirtual 160, 3) := by decide +kernel
theorem dX8_takesNumber_26 : decode cX8_takesNumber 26 = .ok (.aload_n 0, 1) := by decide +kernel
theorem dX8_takesNumber_27 : decode cX8_takesNumber 27 = .ok (.getfield 150, 3) := by decide +kernel
theorem dX8_takesNumber_30 : decode cX8_takesNumber 30 = .ok (.ifCond .eq 75, 3) := by decide +kernel
theorem dX8_takesNumber_33 : decode cX8_takesNumber 33 = .ok (.aload_n 0, 1) := by decide +kernel
theorem dX8_takesNumber_34 : decode cX8_takesNumber 34 = .ok (.getfield 157, 3) := by decide +kernel
theorem dX8_takesNumber_37 : decode cX8_takesNumber 37 = .ok (.ifCond .le 68, 3) := by decide +kernel
theorem dX8_takesNumber_40 : decode cX8_takesNumber 40 = .ok (.aload_n 0, 1) := by decide +kernel
theorem dX8_takesNumber_41 : decode cX8_takesNumber 41 = .ok (.invokevirtual 154, 3) := by decide +kernel
theorem dX8_takesNumber_44 : decode cX8_takesNumber 44 = .ok (.bipush 48, 2) := by decide +kernel
theorem dX8_takesNumber_46 : decode cX8_takesNumber 46 = .ok (.bipush 57, 2) := by decide +kernel
theorem dX8_takesNumber_48 : decode cX8_takesNumber 48 = .ok (.invokestatic 47, 3) := by decide +kernel
theorem dX8_takesNumber_51 : decode cX8_takesNumber 51 = .ok (.ifCond .eq 54, 3) := by decide +kernel
theorem dX8_takesNumber_54 : decode cX8_takesNumber 54 = .ok (.bipush 10, 2) := by decide +kernel
theorem dX8_takesNumber_56 : decode cX8_takesNumber 56 = .ok (.aload_n 0, 1) := by decide +kernel
theorem dX8_takesNumber_57 : decode cX8_takesNumber 57 = .ok (.getfield 157, 3) := by decide +kernel
theorem dX8_takesNumber_60 : decode cX8_takesNumber 60 = .ok (.imul, 1) := by decide +kernel
theorem dX8_takesNumber_61 : decode cX8_takesNumber 61 = .ok (.aload_n 0, 1) := by decide +kernel
theorem dX8_takesNumber_62 : decode cX8_takesNumber 62 = .ok (.invokevirtual 154, 3) := by decide +kernel
theorem dX8_takesNumber_65 : decode cX8_takesNumber 65 = .ok (.iadd, 1) := by decide +kernel
theorem dX8_takesNumber_66 : decode cX8_takesNumber 66 = .ok (.bipush 48, 2) := by decide +kernel
theorem dX8_takesNumber_68 : decode cX8_takesNumber 68 = .ok (.isub, 1) := by decide +kernel
theorem dX8_takesNumber_69 : decode cX8_takesNumber 69 = .ok (.iload_n 1, 1) := by decide +kernel
theorem dX8_takesNumber_70 : decode cX8_takesNumber 70 = .ok (.if_icmp .gt 35, 3) := by decide +kernel
theorem dX8_takesNumber_73 : decode cX8_takesNumber 73 = .ok (.aload_n 0, 1) := by decide +kernel
theorem dX8_takesNumber_74 : decode cX8_takesNumber 74 = .ok (.bipush 10, 2) := by decide +kernel
theorem dX8_takesNumber_76 : decode cX8_takesNumber 76 = .ok (.aload_n 0, 1) := by decide +kernel
theorem dX8_takesNumber_77 : decode cX8_takesNumber 77 = .ok (.getfield 157, 3) := by decide +kernel
theorem dX8_takesNumber_80 : decode cX8_takesNumber 80 = .ok (.imul, 1) := by decide +kernel
theorem dX8_takesNumber_81 : decode cX8_takesNumber 81 = .ok (.aload_n 0, 1) := by decide +kernel
theorem dX8_takesNumber_82 : decode cX8_takesNumber 82 = .ok (.invokevirtual 154, 3) := by decide +kernel
theorem dX8_takesNumber_85 : decode cX8_takesNumber 85 = .ok (.iadd, 1) := by decide +kernel
theorem dX8_takesNumber_86 : decode cX8_takesNumber 86 = .ok (.bipush 48, 2) := by decide +kernel
theorem dX8_takesNumber_88 : decode cX8_takesNumber 88 = .ok (.isub, 1) := by decide +kernel
theorem dX8_takesNumber_89 : decode cX8_takesNumber 89 = .ok (.putfield 157, 3) := by decide +kernel
theorem dX8_takesNumber_92 : decode cX8_takesNumber 92 = .ok (.aload_n 0, 1) := by decide +kernel
theorem dX8_takesNumber_93 : decode cX8_takesNumber 93 = .ok (.dup, 1) := by decide +kernel
theorem dX8_takesNumber_94 : decode cX8_takesNumber 94 = .ok (.getfield 147, 3) := by decide +kernel
theorem dX8_takesNumber_97 : decode cX8_takesNumber 97 = .ok (.iconst 1, 1) := by decide +kernel
theorem dX8_takesNumber_98 : decode cX8_takesNumber 98 = .ok (.iadd, 1) := by decide +kernel
theorem dX8_takesNumber_99 : decode cX8_takesNumber 99 = .ok (.putfield 147, 3) := by decide +kernel
theorem dX8_takesNumber_102 : decode cX8_takesNumber 102 = .ok (.goto (-76), 3) := by decide +kernel
theorem dX8_takesNumber_105 : decode cX8_takesNumber 105 = .ok (.return_, 1) := by decide +kernel
set_option maxRecDepth 20000 in
theorem ggX8_takesDeed_X8_here : GoodIn wsX8_takesDeed wsX8_here := goodIn_r _ [6, 7, 8, 9, 23, 24, 25, 26, 27, 28, 29, 30, 31, 32, 33, 34, 35, 36, 37, 38, 39, 40, 41, 42, 43] (by decide +kernel) (by decide +kernel)
set_option maxRecDepth 20000 in
theorem gX8_takesDeed_X8_here : GoodIn wsX8_takesDeed (wsV RX8 154 RX8 yX8_here wsX8_here) := goodIn_app (goodIn_of _ (by decide +kernel)) ggX8_takesDeed_X8_here
set_option maxRecDepth 20000 in
theorem ggX8_takesDeed_X8_takes : GoodIn wsX8_takesDeed wsX8_takes := goodIn_r _ [13, 14, 7, 23, 24, 25, 26, 27, 28, 29, 30, 31, 32, 33, 34, 35, 36, 37, 38, 39, 40, 41, 42, 43] (by decide +kernel) (by decide +kernel)
set_option maxRecDepth 20000 in
theorem gX8_takesDeed_X8_takes : GoodIn wsX8_takesDeed (wsV RX8 160 RX8 yX8_takes wsX8_takes) := goodIn_app (goodIn_of _ (by decide +kernel)) ggX8_takesDeed_X8_takes
set_option maxRecDepth 20000 in
theorem ggX8_takesDeed_X8_takesNumber : GoodIn wsX8_takesDeed wsX8_takesNumber := goodIn_r _ [18, 19, 14, 7, 2, 3, 4, 5, 6, 8, 9, 20, 21, 22, 10, 11, 12, 13, 23, 24, 25, 26, 27, 28, 29, 30, 31, 32, 33, 34, 35, 36, 37, 38, 39, 40, 41, 42, 43] (by decide +kernel) (by decide +kernel)
set_option maxRecDepth 20000 in
theorem gX8_takesDeed_X8_takesNumber : GoodIn wsX8_takesDeed (wsV RX8 167 RX8 yX8_takesNumber wsX8_takesNumber) := goodIn_app (goodIn_of _ (by decide +kernel)) ggX8_takesDeed_X8_takesNumber
theorem dX8_takesDeed_0 : decode cX8_takesDeed 0 = .ok (.aload_n 0, 1) := by decide +kernel
theorem dX8_takesDeed_1 : decode cX8_takesDeed 1 = .ok (.aload_n 0, 1) := by decide +kernel
theorem dX8_takesDeed_2 : decode cX8_takesDeed 2 = .ok (.invokevirtual 154, 3) := by decide +kernel
theorem dX8_takesDeed_5 : decode cX8_takesDeed 5 = .ok (.putfield 164, 3) := by decide +kernel
theorem dX8_takesDeed_8 : decode cX8_takesDeed 8 = .ok (.aload_n 0, 1) := by decide +kernel
theorem dX8_takesDeed_9 : decode cX8_takesDeed 9 = .ok (.aload_n 0, 1) := by decide +kernel
theorem dX8_takesDeed_10 : decode cX8_takesDeed 10 = .ok (.getfield 164, 3) := by decide +kernel
theorem dX8_takesDeed_13 : decode cX8_takesDeed 13 = .ok (.bipush 103, 2) := by decide +kernel
theorem dX8_takesDeed_15 : decode cX8_takesDeed 15 = .ok (.if_icmp .eq 21, 3) := by decide +kernel
theorem dX8_takesDeed_18 : decode cX8_takesDeed 18 = .ok (.aload_n 0, 1) := by decide +kernel
theorem dX8_takesDeed_19 : decode cX8_takesDeed 19 = .ok (.getfield 164, 3) := by decide +kernel
theorem dX8_takesDeed_22 : decode cX8_takesDeed 22 = .ok (.bipush 98, 2) := by decide +kernel
theorem dX8_takesDeed_24 : decode cX8_takesDeed 24 = .ok (.if_icmp .eq 12, 3) := by decide +kernel
theorem dX8_takesDeed_27 : decode cX8_takesDeed 27 = .ok (.aload_n 0, 1) := by decide +kernel
theorem dX8_takesDeed_28 : decode cX8_takesDeed 28 = .ok (.getfield 164, 3) := by decide +kernel
theorem dX8_takesDeed_31 : decode cX8_takesDeed 31 = .ok (.bipush 119, 2) := by decide +kernel
theorem dX8_takesDeed_33 : decode cX8_takesDeed 33 = .ok (.if_icmp .ne 7, 3) := by decide +kernel
theorem dX8_takesDeed_36 : decode cX8_takesDeed 36 = .ok (.iconst 1, 1) := by decide +kernel
theorem dX8_takesDeed_37 : decode cX8_takesDeed 37 = .ok (.goto 4, 3) := by decide +kernel
theorem dX8_takesDeed_40 : decode cX8_takesDeed 40 = .ok (.iconst 0, 1) := by decide +kernel
theorem dX8_takesDeed_41 : decode cX8_takesDeed 41 = .ok (.invokevirtual 160, 3) := by decide +kernel
theorem dX8_takesDeed_44 : decode cX8_takesDeed 44 = .ok (.aload_n 0, 1) := by decide +kernel
theorem dX8_takesDeed_45 : decode cX8_takesDeed 45 = .ok (.getfield 164, 3) := by decide +kernel
theorem dX8_takesDeed_48 : decode cX8_takesDeed 48 = .ok (.bipush 119, 2) := by decide +kernel
theorem dX8_takesDeed_50 : decode cX8_takesDeed 50 = .ok (.if_icmp .eq 23, 3) := by decide +kernel
theorem dX8_takesDeed_53 : decode cX8_takesDeed 53 = .ok (.aload_n 0, 1) := by decide +kernel
theorem dX8_takesDeed_54 : decode cX8_takesDeed 54 = .ok (.aload_n 0, 1) := by decide +kernel
theorem dX8_takesDeed_55 : decode cX8_takesDeed 55 = .ok (.getfield 164, 3) := by decide +kernel
theorem dX8_takesDeed_58 : decode cX8_takesDeed 58 = .ok (.bipush 103, 2) := by decide +kernel
theorem dX8_takesDeed_60 : decode cX8_takesDeed 60 = .ok (.if_icmp .ne 8, 3) := by decide +kernel
theorem dX8_takesDeed_63 : decode cX8_takesDeed 63 = .ok (.bipush 39, 2) := by decide +kernel
theorem dX8_takesDeed_65 : decode cX8_takesDeed 65 = .ok (.goto 5, 3) := by decide +kernel
theorem dX8_takesDeed_68 : decode cX8_takesDeed 68 = .ok (.bipush 120, 2) := by decide +kernel
theorem dX8_takesDeed_70 : decode cX8_takesDeed 70 = .ok (.invokevirtual 167, 3) := by decide +kernel
theorem dX8_takesDeed_73 : decode cX8_takesDeed 73 = .ok (.return_, 1) := by decide +kernel
set_option maxRecDepth 20000 in
theorem ggX8_isText_X8_takesDeed : GoodIn wsX8_isText wsX8_takesDeed := goodIn_r _ [8, 9, 10, 11, 12, 7, 13, 1, 3, 14, 15, 16, 17, 18, 2, 19, 20, 21, 22, 23, 24, 25, 26, 27, 28, 29, 30, 31, 32, 33, 34, 35, 36, 37, 38, 39, 40, 41, 42, 43, 44, 45, 46, 47] (by decide +kernel) (by decide +kernel)
set_option maxRecDepth 20000 in
theorem gX8_isText_X8_takesDeed : GoodIn wsX8_isText (wsV RX8 170 RX8 yX8_takesDeed wsX8_takesDeed) := goodIn_app (goodIn_of _ (by decide +kernel)) ggX8_isText_X8_takesDeed
set_option maxRecDepth 20000 in
theorem ggX8_isText_X8_here : GoodIn wsX8_isText wsX8_here := goodIn_r _ [13, 1, 3, 14, 27, 28, 29, 30, 31, 32, 33, 34, 35, 36, 37, 38, 39, 40, 41, 42, 43, 44, 45, 46, 47] (by decide +kernel) (by decide +kernel)
set_option maxRecDepth 20000 in
theorem gX8_isText_X8_here : GoodIn wsX8_isText (wsV RX8 154 RX8 yX8_here wsX8_here) := goodIn_app (goodIn_of _ (by decide +kernel)) ggX8_isText_X8_here
set_option maxRecDepth 20000 in
theorem ggX8_isText_X8_takes : GoodIn wsX8_isText wsX8_takes := goodIn_r _ [18, 2, 1, 27, 28, 29, 30, 31, 32, 33, 34, 35, 36, 37, 38, 39, 40, 41, 42, 43, 44, 45, 46, 47] (by decide +kernel) (by decide +kernel)
set_option maxRecDepth 20000 in
theorem gX8_isText_X8_takes : GoodIn wsX8_isText (wsV RX8 160 RX8 yX8_takes wsX8_takes) := goodIn_app (goodIn_of _ (by decide +kernel)) ggX8_isText_X8_takes
theorem dX8_isText_0 : decode cX8_isText 0 = .ok (.aload_n 0, 1) := by decide +kernel
theorem dX8_isText_1 : decode cX8_isText 1 = .ok (.iconst 0, 1) := by decide +kernel
theorem dX8_isText_2 : decode cX8_isText 2 = .ok (.putfield 147, 3) := by decide +kernel
theorem dX8_isText_5 : decode cX8_isText 5 = .ok (.aload_n 0, 1) := by decide +kernel
theorem dX8_isText_6 : decode cX8_isText 6 = .ok (.iconst 1, 1) := by decide +kernel
theorem dX8_isText_7 : decode cX8_isText 7 = .ok (.putfield 150, 3) := by decide +kernel
theorem dX8_isText_10 : decode cX8_isText 10 = .ok (.aload_n 0, 1) := by decide +kernel
theorem dX8_isText_11 : decode cX8_isText 11 = .ok (.invokevirtual 170, 3) := by decide +kernel
theorem dX8_isText_14 : decode cX8_isText 14 = .ok (.aload_n 0, 1) := by decide +kernel
theorem dX8_isText_15 : decode cX8_isText 15 = .ok (.getfield 150, 3) := by decide +kernel
theorem dX8_isText_18 : decode cX8_isText 18 = .ok (.ifCond .eq 46, 3) := by decide +kernel
theorem dX8_isText_21 : decode cX8_isText 21 = .ok (.aload_n 0, 1) := by decide +kernel
theorem dX8_isText_22 : decode cX8_isText 22 = .ok (.getfield 147, 3) := by decide +kernel
theorem dX8_isText_25 : decode cX8_isText 25 = .ok (.aload_n 0, 1) := by decide +kernel
theorem dX8_isText_26 : decode cX8_isText 26 = .ok (.getfield 144, 3) := by decide +kernel
theorem dX8_isText_29 : decode cX8_isText 29 = .ok (.if_icmp .ge 35, 3) := by decide +kernel
theorem dX8_isText_32 : decode cX8_isText 32 = .ok (.aload_n 0, 1) := by decide +kernel
theorem dX8_isText_33 : decode cX8_isText 33 = .ok (.aload_n 0, 1) := by decide +kernel
theorem dX8_isText_34 : decode cX8_isText 34 = .ok (.invokevirtual 154, 3) := by decide +kernel
theorem dX8_isText_37 : decode cX8_isText 37 = .ok (.bipush 59, 2) := by decide +kernel
theorem dX8_isText_39 : decode cX8_isText 39 = .ok (.if_icmp .ne 7, 3) := by decide +kernel
theorem dX8_isText_42 : decode cX8_isText 42 = .ok (.iconst 1, 1) := by decide +kernel
theorem dX8_isText_43 : decode cX8_isText 43 = .ok (.goto 4, 3) := by decide +kernel
theorem dX8_isText_46 : decode cX8_isText 46 = .ok (.iconst 0, 1) := by decide +kernel
theorem dX8_isText_47 : decode cX8_isText 47 = .ok (.invokevirtual 160, 3) := by decide +kernel
theorem dX8_isText_50 : decode cX8_isText 50 = .ok (.aload_n 0, 1) := by decide +kernel
theorem dX8_isText_51 : decode cX8_isText 51 = .ok (.getfield 150, 3) := by decide +kernel
theorem dX8_isText_54 : decode cX8_isText 54 = .ok (.ifCond .eq (-40), 3) := by decide +kernel
theorem dX8_isText_57 : decode cX8_isText 57 = .ok (.aload_n 0, 1) := by decide +kernel
theorem dX8_isText_58 : decode cX8_isText 58 = .ok (.invokevirtual 170, 3) := by decide +kernel
theorem dX8_isText_61 : decode cX8_isText 61 = .ok (.goto (-47), 3) := by decide +kernel
theorem dX8_isText_64 : decode cX8_isText 64 = .ok (.aload_n 0, 1) := by decide +kernel
theorem dX8_isText_65 : decode cX8_isText 65 = .ok (.getfield 150, 3) := by decide +kernel
theorem dX8_isText_68 : decode cX8_isText 68 = .ok (.ireturn, 1) := by decide +kernel
set_option maxRecDepth 20000 in
theorem ggX8_fault_X8_isText : GoodIn wsX8_fault wsX8_isText := goodIn_r _ [6, 1, 7, 8, 9, 10, 11, 5, 12, 13, 14, 15, 16, 17, 18, 19, 20, 21, 22, 23, 24, 25, 26, 27, 28, 29, 30, 31, 32, 33, 34, 35, 36, 37, 38, 39, 40, 41, 42, 43, 44, 45, 46, 47, 48, 49, 50, 51] (by decide +kernel) (by decide +kernel)
set_option maxRecDepth 20000 in
theorem gX8_fault_X8_isText : GoodIn wsX8_fault (wsV RX8 173 RX8 yX8_isText wsX8_isText) := goodIn_app (goodIn_of _ (by decide +kernel)) ggX8_fault_X8_isText
theorem dX8_fault_0 : decode cX8_fault 0 = .ok (.aload_n 0, 1) := by decide +kernel
theorem dX8_fault_1 : decode cX8_fault 1 = .ok (.invokevirtual 173, 3) := by decide +kernel
theorem dX8_fault_4 : decode cX8_fault 4 = .ok (.ifCond .eq 8, 3) := by decide +kernel
theorem dX8_fault_7 : decode cX8_fault 7 = .ok (.bipush (-4), 2) := by decide +kernel
theorem dX8_fault_9 : decode cX8_fault 9 = .ok (.goto 7, 3) := by decide +kernel
theorem dX8_fault_12 : decode cX8_fault 12 = .ok (.aload_n 0, 1) := by decide +kernel
theorem dX8_fault_13 : decode cX8_fault 13 = .ok (.getfield 147, 3) := by decide +kernel
theorem dX8_fault_16 : decode cX8_fault 16 = .ok (.ireturn, 1) := by decide +kernel
set_option maxRecDepth 20000 in
theorem ggX8_doesDeed_X8_errorGo : GoodIn wsX8_doesDeed wsX8_errorGo := goodIn_r _ [7, 8, 9, 6, 10, 11, 12, 13, 14, 15, 16, 17, 18, 19, 20, 21, 22, 23, 24, 25, 26, 27, 28, 29, 90, 91, 92, 93, 94, 95, 96, 97, 98, 99, 100, 101, 102, 103, 104, 105, 106, 107, 108, 109, 110] (by decide +kernel) (by decide +kernel)
set_option maxRecDepth 20000 in
theorem gX8_doesDeed_X8_errorGo : GoodIn wsX8_doesDeed (wsV RX8 123 RX8 yX8_errorGo wsX8_errorGo) := goodIn_app (goodIn_of _ (by decide +kernel)) ggX8_doesDeed_X8_errorGo
set_option maxRecDepth 20000 in
theorem ggX8_doesDeed_X8_errorBreak : GoodIn wsX8_doesDeed wsX8_errorBreak := goodIn_r _ [33, 34, 35, 36, 6, 37, 25, 11, 12, 13, 38, 39, 40, 41, 26, 27, 28, 29, 90, 91, 92, 93, 94, 95, 96, 97, 98, 99, 100, 101, 102, 103, 104, 105, 106, 107, 108, 109, 110] (by decide +kernel) (by decide +kernel)
set_option maxRecDepth 20000 in
theorem gX8_doesDeed_X8_errorBreak : GoodIn wsX8_doesDeed (wsV RX8 129 RX8 yX8_errorBreak wsX8_errorBreak) := goodIn_app (goodIn_of _ (by decide +kernel)) ggX8_doesDeed_X8_errorBreak
set_option maxRecDepth 20000 in
theorem ggX8_doesDeed_X8_goGrain : GoodIn wsX8_doesDeed wsX8_goGrain := goodIn_r _ [45, 25, 46, 47, 18, 19, 6, 20, 48, 49, 50, 51, 52, 53, 54, 55, 56, 57, 58, 59, 11, 12, 13, 21, 22, 23, 24, 26, 27, 28, 29, 60, 61, 62, 63, 64, 65, 66, 67, 68, 69, 70, 71, 90, 91, 92, 93, 94, 95, 96, 97, 98, 99, 100, 101, 102, 103, 104, 105, 106, 107, 108, 109, 110] (by decide +kernel) (by decide +kernel)
set_option maxRecDepth 20000 in
theorem gX8_doesDeed_X8_goGrain : GoodIn wsX8_doesDeed (wsV RX8 102 RX8 yX8_goGrain wsX8_goGrain) := goodIn_app (goodIn_of _ (by decide +kernel)) ggX8_doesDeed_X8_goGrain
set_option maxRecDepth 20000 in
theorem ggX8_doesDeed_X8_goBreak : GoodIn wsX8_doesDeed wsX8_goBreak := goodIn_r _ [75, 25, 76, 38, 39, 40, 6, 41, 26, 27, 28, 29, 77, 78, 79, 80, 81, 68, 69, 70, 71, 90, 91, 92, 93, 94, 95, 96, 97, 98, 99, 100, 101, 102, 103, 104, 105, 106, 107, 108, 109, 110] (by decide +kernel) (by decide +kernel)
set_option maxRecDepth 20000 in
theorem gX8_doesDeed_X8_goBreak : GoodIn wsX8_doesDeed (wsV RX8 132 RX8 yX8_goBreak wsX8_goBreak) := goodIn_app (goodIn_of _ (by decide +kernel)) ggX8_doesDeed_X8_goBreak
set_option maxRecDepth 20000 in
theorem ggX8_doesDeed_X8_goWash : GoodIn wsX8_doesDeed wsX8_goWash := goodIn_r _ [85, 25, 76, 38, 39, 40, 6, 41, 26, 27, 28, 29, 86, 87, 88, 89, 77, 78, 79, 80, 81, 68, 69, 70, 71, 90, 91, 92, 93, 94, 95, 96, 97, 98, 99, 100, 101, 102, 103, 104, 105, 106, 107, 108, 109, 110] (by decide +kernel) (by decide +kernel)
set_option maxRecDepth 20000 in
theorem gX8_doesDeed_X8_goWash : GoodIn wsX8_doesDeed (wsV RX8 135 RX8 yX8_goWash wsX8_goWash) := goodIn_app (goodIn_of _ (by decide +kernel)) ggX8_doesDeed_X8_goWash
theorem dX8_doesDeed_0 : decode cX8_doesDeed 0 = .ok (.aload_n 0, 1) := by decide +kernel
theorem dX8_doesDeed_1 : decode cX8_doesDeed 1 = .ok (.getfield 164, 3) := by decide +kernel
theorem dX8_doesDeed_4 : decode cX8_doesDeed 4 = .ok (.bipush 103, 2) := by decide +kernel
theorem dX8_doesDeed_6 : decode cX8_doesDeed 6 = .ok (.if_icmp .ne 14, 3) := by decide +kernel
theorem dX8_doesDeed_9 : decode cX8_doesDeed 9 = .ok (.aload_n 0, 1) := by decide +kernel
theorem dX8_doesDeed_10 : decode cX8_doesDeed 10 = .ok (.aload_n 0, 1) := by decide +kernel
theorem dX8_doesDeed_11 : decode cX8_doesDeed 11 = .ok (.getfield 157, 3) := by decide +kernel
theorem dX8_doesDeed_14 : decode cX8_doesDeed 14 = .ok (.invokevirtual 123, 3) := by decide +kernel
theorem dX8_doesDeed_17 : decode cX8_doesDeed 17 = .ok (.goto 24, 3) := by decide +kernel
theorem dX8_doesDeed_20 : decode cX8_doesDeed 20 = .ok (.aload_n 0, 1) := by decide +kernel
theorem dX8_doesDeed_21 : decode cX8_doesDeed 21 = .ok (.getfield 164, 3) := by decide +kernel
theorem dX8_doesDeed_24 : decode cX8_doesDeed 24 = .ok (.bipush 98, 2) := by decide +kernel
theorem dX8_doesDeed_26 : decode cX8_doesDeed 26 = .ok (.if_icmp .ne 14, 3) := by decide +kernel
theorem dX8_doesDeed_29 : decode cX8_doesDeed 29 = .ok (.aload_n 0, 1) := by decide +kernel
theorem dX8_doesDeed_30 : decode cX8_doesDeed 30 = .ok (.aload_n 0, 1) := by decide +kernel
theorem dX8_doesDeed_31 : decode cX8_doesDeed 31 = .ok (.getfield 157, 3) := by decide +kernel
theorem dX8_doesDeed_34 : decode cX8_doesDeed 34 = .ok (.invokevirtual 129, 3) := by decide +kernel
theorem dX8_doesDeed_37 : decode cX8_doesDeed 37 = .ok (.goto 4, 3) := by decide +kernel
theorem dX8_doesDeed_40 : decode cX8_doesDeed 40 = .ok (.iconst 0, 1) := by decide +kernel
theorem dX8_doesDeed_41 : decode cX8_doesDeed 41 = .ok (.istore_n 1, 1) := by decide +kernel
theorem dX8_doesDeed_42 : decode cX8_doesDeed 42 = .ok (.iload_n 1, 1) := by decide +kernel
theorem dX8_doesDeed_43 : decode cX8_doesDeed 43 = .ok (.ifCond .ge 5, 3) := by decide +kernel
theorem dX8_doesDeed_46 : decode cX8_doesDeed 46 = .ok (.iload_n 1, 1) := by decide +kernel
theorem dX8_doesDeed_47 : decode cX8_doesDeed 47 = .ok (.ireturn, 1) := by decide +kernel
theorem dX8_doesDeed_48 : decode cX8_doesDeed 48 = .ok (.aload_n 0, 1) := by decide +kernel
theorem dX8_doesDeed_49 : decode cX8_doesDeed 49 = .ok (.getfield 164, 3) := by decide +kernel
theorem dX8_doesDeed_52 : decode cX8_doesDeed 52 = .ok (.bipush 103, 2) := by decide +kernel
theorem dX8_doesDeed_54 : decode cX8_doesDeed 54 = .ok (.if_icmp .ne 14, 3) := by decide +kernel
theorem dX8_doesDeed_57 : decode cX8_doesDeed 57 = .ok (.aload_n 0, 1) := by decide +kernel
theorem dX8_doesDeed_58 : decode cX8_doesDeed 58 = .ok (.aload_n 0, 1) := by decide +kernel
theorem dX8_doesDeed_59 : decode cX8_doesDeed 59 = .ok (.getfield 157, 3) := by decide +kernel
theorem dX8_doesDeed_62 : decode cX8_doesDeed 62 = .ok (.invokevirtual 102, 3) := by decide +kernel
theorem dX8_doesDeed_65 : decode cX8_doesDeed 65 = .ok (.goto 27, 3) := by decide +kernel
theorem dX8_doesDeed_68 : decode cX8_doesDeed 68 = .ok (.aload_n 0, 1) := by decide +kernel
theorem dX8_doesDeed_69 : decode cX8_doesDeed 69 = .ok (.getfield 164, 3) := by decide +kernel
theorem dX8_doesDeed_72 : decode cX8_doesDeed 72 = .ok (.bipush 98, 2) := by decide +kernel
theorem dX8_doesDeed_74 : decode cX8_doesDeed 74 = .ok (.if_icmp .ne 14, 3) := by decide +kernel
theorem dX8_doesDeed_77 : decode cX8_doesDeed 77 = .ok (.aload_n 0, 1) := by decide +kernel
theorem dX8_doesDeed_78 : decode cX8_doesDeed 78 = .ok (.aload_n 0, 1) := by decide +kernel
theorem dX8_doesDeed_79 : decode cX8_doesDeed 79 = .ok (.getfield 157, 3) := by decide +kernel
theorem dX8_doesDeed_82 : decode cX8_doesDeed 82 = .ok (.invokevirtual 132, 3) := by decide +kernel
theorem dX8_doesDeed_85 : decode cX8_doesDeed 85 = .ok (.goto 7, 3) := by decide +kernel
theorem dX8_doesDeed_88 : decode cX8_doesDeed 88 = .ok (.aload_n 0, 1) := by decide +kernel
theorem dX8_doesDeed_89 : decode cX8_doesDeed 89 = .ok (.invokevirtual 135, 3) := by decide +kernel
theorem dX8_doesDeed_92 : decode cX8_doesDeed 92 = .ok (.istore_n 2, 1) := by decide +kernel
theorem dX8_doesDeed_93 : decode cX8_doesDeed 93 = .ok (.iconst 0, 1) := by decide +kernel
theorem dX8_doesDeed_94 : decode cX8_doesDeed 94 = .ok (.ireturn, 1) := by decide +kernel
set_option maxRecDepth 20000 in
theorem ggX8_carryOut_X8_isText : GoodIn wsX8_carryOut wsX8_isText := goodIn_r _ [10, 1, 11, 3, 12, 13, 14, 9, 15, 16, 17, 18, 19, 20, 21, 22, 23, 24, 25, 26, 27, 28, 29, 30, 31, 32, 33, 130, 131, 132, 133, 134, 135, 136, 137, 138, 139, 140, 141, 142, 143, 144, 145, 146, 147, 148, 149, 150] (by decide +kernel) (by decide +kernel)
set_option maxRecDepth 20000 in
theorem gX8_carryOut_X8_isText : GoodIn wsX8_carryOut (wsV RX8 173 RX8 yX8_isText wsX8_isText) := goodIn_app (goodIn_of _ (by decide +kernel)) ggX8_carryOut_X8_isText
set_option maxRecDepth 20000 in
theorem ggX8_carryOut_X8_records : GoodIn wsX8_carryOut wsX8_records := goodIn_r _ [37, 38, 39, 40, 41, 42, 9, 43, 130, 131, 132, 133, 134, 135, 136, 137, 138, 139, 140, 141, 142, 143, 144, 145, 146, 147, 148, 149, 150] (by decide +kernel) (by decide +kernel)
set_option maxRecDepth 20000 in
theorem gX8_carryOut_X8_records : GoodIn wsX8_carryOut (wsV RX8 120 RX8 yX8_records wsX8_records) := goodIn_app (goodIn_of _ (by decide +kernel)) ggX8_carryOut_X8_records
set_option maxRecDepth 20000 in
theorem ggX8_carryOut_X8_takesDeed : GoodIn wsX8_carryOut wsX8_takesDeed := goodIn_r _ [15, 16, 17, 18, 19, 9, 20, 1, 3, 21, 22, 23, 24, 25, 11, 26, 27, 28, 29, 30, 31, 32, 33, 130, 131, 132, 133, 134, 135, 136, 137, 138, 139, 140, 141, 142, 143, 144, 145, 146, 147, 148, 149, 150] (by decide +kernel) (by decide +kernel)
set_option maxRecDepth 20000 in
theorem gX8_carryOut_X8_takesDeed : GoodIn wsX8_carryOut (wsV RX8 170 RX8 yX8_takesDeed wsX8_takesDeed) := goodIn_app (goodIn_of _ (by decide +kernel)) ggX8_carryOut_X8_takesDeed
set_option maxRecDepth 20000 in
theorem ggX8_carryOut_X8_doesDeed : GoodIn wsX8_carryOut wsX8_doesDeed := goodIn_r _ [47, 16, 30, 48, 49, 50, 9, 51, 52, 53, 54, 31, 32, 33, 55, 56, 57, 58, 59, 60, 61, 62, 63, 64, 65, 40, 66, 67, 68, 69, 70, 71, 72, 73, 74, 75, 76, 77, 78, 79, 80, 81, 82, 83, 84, 85, 86, 87, 88, 89, 90, 91, 92, 93, 94, 95, 96, 97, 98, 99, 100, 101, 102, 103, 104, 105, 106, 107, 108, 109, 110, 111, 112, 113, 114, 115, 116, 117, 118, 119, 120, 121, 122, 123, 124, 125, 126, 127, 128, 129, 130, 131, 132, 133, 134, 135, 136, 137, 138, 139, 140, 141, 142, 143, 144, 145, 146, 147, 148, 149, 150] (by decide +kernel) (by decide +kernel)
set_option maxRecDepth 20000 in
theorem gX8_carryOut_X8_doesDeed : GoodIn wsX8_carryOut (wsV RX8 185 RX8 yX8_doesDeed wsX8_doesDeed) := goodIn_app (goodIn_of _ (by decide +kernel)) ggX8_carryOut_X8_doesDeed
theorem dX8_carryOut_0 : decode cX8_carryOut 0 = .ok (.aload_n 0, 1) := by decide +kernel
theorem dX8_carryOut_1 : decode cX8_carryOut 1 = .ok (.invokevirtual 173, 3) := by decide +kernel
theorem dX8_carryOut_4 : decode cX8_carryOut 4 = .ok (.ifCond .ne 6, 3) := by decide +kernel
theorem dX8_carryOut_7 : decode cX8_carryOut 7 = .ok (.bipush (-2), 2) := by decide +kernel
theorem dX8_carryOut_9 : decode cX8_carryOut 9 = .ok (.ireturn, 1) := by decide +kernel
theorem dX8_carryOut_10 : decode cX8_carryOut 10 = .ok (.aload_n 0, 1) := by decide +kernel
theorem dX8_carryOut_11 : decode cX8_carryOut 11 = .ok (.invokevirtual 120, 3) := by decide +kernel
theorem dX8_carryOut_14 : decode cX8_carryOut 14 = .ok (.aload_n 0, 1) := by decide +kernel
theorem dX8_carryOut_15 : decode cX8_carryOut 15 = .ok (.iconst 0, 1) := by decide +kernel
theorem dX8_carryOut_16 : decode cX8_carryOut 16 = .ok (.putfield 147, 3) := by decide +kernel
theorem dX8_carryOut_19 : decode cX8_carryOut 19 = .ok (.aload_n 0, 1) := by decide +kernel
theorem dX8_carryOut_20 : decode cX8_carryOut 20 = .ok (.iconst 0, 1) := by decide +kernel
theorem dX8_carryOut_21 : decode cX8_carryOut 21 = .ok (.putfield 176, 3) := by decide +kernel
theorem dX8_carryOut_24 : decode cX8_carryOut 24 = .ok (.iconst 0, 1) := by decide +kernel
theorem dX8_carryOut_25 : decode cX8_carryOut 25 = .ok (.istore_n 1, 1) := by decide +kernel
theorem dX8_carryOut_26 : decode cX8_carryOut 26 = .ok (.aload_n 0, 1) := by decide +kernel
theorem dX8_carryOut_27 : decode cX8_carryOut 27 = .ok (.getfield 176, 3) := by decide +kernel
theorem dX8_carryOut_30 : decode cX8_carryOut 30 = .ok (.ifCond .ne 67, 3) := by decide +kernel
theorem dX8_carryOut_33 : decode cX8_carryOut 33 = .ok (.aload_n 0, 1) := by decide +kernel
theorem dX8_carryOut_34 : decode cX8_carryOut 34 = .ok (.getfield 147, 3) := by decide +kernel
theorem dX8_carryOut_37 : decode cX8_carryOut 37 = .ok (.aload_n 0, 1) := by decide +kernel
theorem dX8_carryOut_38 : decode cX8_carryOut 38 = .ok (.getfield 144, 3) := by decide +kernel
theorem dX8_carryOut_41 : decode cX8_carryOut 41 = .ok (.if_icmp .ge 56, 3) := by decide +kernel
theorem dX8_carryOut_44 : decode cX8_carryOut 44 = .ok (.aload_n 0, 1) := by decide +kernel
theorem dX8_carryOut_45 : decode cX8_carryOut 45 = .ok (.aload_n 0, 1) := by decide +kernel
theorem dX8_carryOut_46 : decode cX8_carryOut 46 = .ok (.getfield 147, 3) := by decide +kernel
theorem dX8_carryOut_49 : decode cX8_carryOut 49 = .ok (.putfield 179, 3) := by decide +kernel
theorem dX8_carryOut_52 : decode cX8_carryOut 52 = .ok (.aload_n 0, 1) := by decide +kernel
theorem dX8_carryOut_53 : decode cX8_carryOut 53 = .ok (.iload_n 1, 1) := by decide +kernel
theorem dX8_carryOut_54 : decode cX8_carryOut 54 = .ok (.putfield 182, 3) := by decide +kernel
theorem dX8_carryOut_57 : decode cX8_carryOut 57 = .ok (.aload_n 0, 1) := by decide +kernel
theorem dX8_carryOut_58 : decode cX8_carryOut 58 = .ok (.invokevirtual 170, 3) := by decide +kernel
theorem dX8_carryOut_61 : decode cX8_carryOut 61 = .ok (.aload_n 0, 1) := by decide +kernel
theorem dX8_carryOut_62 : decode cX8_carryOut 62 = .ok (.dup, 1) := by decide +kernel
theorem dX8_carryOut_63 : decode cX8_carryOut 63 = .ok (.getfield 147, 3) := by decide +kernel
theorem dX8_carryOut_66 : decode cX8_carryOut 66 = .ok (.iconst 1, 1) := by decide +kernel
theorem dX8_carryOut_67 : decode cX8_carryOut 67 = .ok (.iadd, 1) := by decide +kernel
theorem dX8_carryOut_68 : decode cX8_carryOut 68 = .ok (.putfield 147, 3) := by decide +kernel
theorem dX8_carryOut_71 : decode cX8_carryOut 71 = .ok (.aload_n 0, 1) := by decide +kernel
theorem dX8_carryOut_72 : decode cX8_carryOut 72 = .ok (.aload_n 0, 1) := by decide +kernel
theorem dX8_carryOut_73 : decode cX8_carryOut 73 = .ok (.invokevirtual 185, 3) := by decide +kernel
theorem dX8_carryOut_76 : decode cX8_carryOut 76 = .ok (.putfield 176, 3) := by decide +kernel
theorem dX8_carryOut_79 : decode cX8_carryOut 79 = .ok (.iload_n 1, 1) := by decide +kernel
theorem dX8_carryOut_80 : decode cX8_carryOut 80 = .ok (.aload_n 0, 1) := by decide +kernel
theorem dX8_carryOut_81 : decode cX8_carryOut 81 = .ok (.getfield 176, 3) := by decide +kernel
theorem dX8_carryOut_84 : decode cX8_carryOut 84 = .ok (.ifCond .ne 7, 3) := by decide +kernel
theorem dX8_carryOut_87 : decode cX8_carryOut 87 = .ok (.iconst 1, 1) := by decide +kernel
theorem dX8_carryOut_88 : decode cX8_carryOut 88 = .ok (.goto 4, 3) := by decide +kernel
theorem dX8_carryOut_91 : decode cX8_carryOut 91 = .ok (.iconst 0, 1) := by decide +kernel
theorem dX8_carryOut_92 : decode cX8_carryOut 92 = .ok (.iadd, 1) := by decide +kernel
theorem dX8_carryOut_93 : decode cX8_carryOut 93 = .ok (.istore_n 1, 1) := by decide +kernel
theorem dX8_carryOut_94 : decode cX8_carryOut 94 = .ok (.goto (-68), 3) := by decide +kernel
theorem dX8_carryOut_97 : decode cX8_carryOut 97 = .ok (.aload_n 0, 1) := by decide +kernel
theorem dX8_carryOut_98 : decode cX8_carryOut 98 = .ok (.iconst 0, 1) := by decide +kernel
theorem dX8_carryOut_99 : decode cX8_carryOut 99 = .ok (.putfield 144, 3) := by decide +kernel
theorem dX8_carryOut_102 : decode cX8_carryOut 102 = .ok (.iload_n 1, 1) := by decide +kernel
theorem dX8_carryOut_103 : decode cX8_carryOut 103 = .ok (.ireturn, 1) := by decide +kernel
set_option maxRecDepth 20000 in
theorem ggX8_why_X8_in : GoodIn wsX8_why wsX8_in := goodIn_r _ [7] (by decide +kernel) (by decide +kernel)
set_option maxRecDepth 20000 in
theorem gX8_why_X8_in : GoodIn wsX8_why (va_wsS RX8 47 yX8_in wsX8_in) := goodIn_app (goodIn_of _ (by decide +kernel)) ggX8_why_X8_in
theorem dX8_why_0 : decode cX8_why 0 = .ok (.iload_n 1, 1) := by decide +kernel
theorem dX8_why_1 : decode cX8_why 1 = .ok (.iconst 0, 1) := by decide +kernel
theorem dX8_why_2 : decode cX8_why 2 = .ok (.iconst 2, 1) := by decide +kernel
theorem dX8_why_3 : decode cX8_why 3 = .ok (.invokestatic 47, 3) := by decide +kernel
theorem dX8_why_6 : decode cX8_why 6 = .ok (.ifCond .ne 5, 3) := by decide +kernel
theorem dX8_why_9 : decode cX8_why 9 = .ok (.iconst (-1), 1) := by decide +kernel
theorem dX8_why_10 : decode cX8_why 10 = .ok (.ireturn, 1) := by decide +kernel
theorem dX8_why_11 : decode cX8_why 11 = .ok (.aload_n 0, 1) := by decide +kernel
theorem dX8_why_12 : decode cX8_why 12 = .ok (.getfield 176, 3) := by decide +kernel
theorem dX8_why_15 : decode cX8_why 15 = .ok (.ifCond .ne 8, 3) := by decide +kernel
theorem dX8_why_18 : decode cX8_why 18 = .ok (.bipush (-4), 2) := by decide +kernel
theorem dX8_why_20 : decode cX8_why 20 = .ok (.goto 30, 3) := by decide +kernel
theorem dX8_why_23 : decode cX8_why 23 = .ok (.iload_n 1, 1) := by decide +kernel
theorem dX8_why_24 : decode cX8_why 24 = .ok (.ifCond .ne 10, 3) := by decide +kernel
theorem dX8_why_27 : decode cX8_why 27 = .ok (.aload_n 0, 1) := by decide +kernel
theorem dX8_why_28 : decode cX8_why 28 = .ok (.getfield 176, 3) := by decide +kernel
theorem dX8_why_31 : decode cX8_why 31 = .ok (.goto 19, 3) := by decide +kernel
theorem dX8_why_34 : decode cX8_why 34 = .ok (.iload_n 1, 1) := by decide +kernel
theorem dX8_why_35 : decode cX8_why 35 = .ok (.iconst 1, 1) := by decide +kernel
theorem dX8_why_36 : decode cX8_why 36 = .ok (.if_icmp .ne 10, 3) := by decide +kernel
theorem dX8_why_39 : decode cX8_why 39 = .ok (.aload_n 0, 1) := by decide +kernel
theorem dX8_why_40 : decode cX8_why 40 = .ok (.getfield 182, 3) := by decide +kernel
theorem dX8_why_43 : decode cX8_why 43 = .ok (.goto 7, 3) := by decide +kernel
theorem dX8_why_46 : decode cX8_why 46 = .ok (.aload_n 0, 1) := by decide +kernel
theorem dX8_why_47 : decode cX8_why 47 = .ok (.getfield 179, 3) := by decide +kernel
theorem dX8_why_50 : decode cX8_why 50 = .ok (.ireturn, 1) := by decide +kernel
set_option maxRecDepth 20000 in
theorem ggX8_cell_X8_isCell : GoodIn wsX8_cell wsX8_isCell := goodIn_r _ [4, 5, 6, 3, 7] (by decide +kernel) (by decide +kernel)
set_option maxRecDepth 20000 in
theorem gX8_cell_X8_isCell : GoodIn wsX8_cell (va_wsS RX8 188 yX8_isCell wsX8_isCell) := goodIn_app (goodIn_of _ (by decide +kernel)) ggX8_cell_X8_isCell
set_option maxRecDepth 20000 in
theorem ggX8_cell_X8_grainAt : GoodIn wsX8_cell wsX8_grainAt := goodIn_r _ [11, 12, 13, 14, 15, 3, 16, 36, 37, 38, 39, 40, 41, 42, 43, 44, 45, 46, 47, 48, 49, 50, 51, 52, 53, 54, 55, 56] (by decide +kernel) (by decide +kernel)
set_option maxRecDepth 20000 in
theorem gX8_cell_X8_grainAt : GoodIn wsX8_cell (wsV RX8 72 RX8 yX8_grainAt wsX8_grainAt) := goodIn_app (goodIn_of _ (by decide +kernel)) ggX8_cell_X8_grainAt
set_option maxRecDepth 20000 in
theorem ggX8_cell_X8_ringOf : GoodIn wsX8_cell wsX8_ringOf := goodIn_r _ [19, 20, 21, 3, 22] (by decide +kernel) (by decide +kernel)
set_option maxRecDepth 20000 in
theorem gX8_cell_X8_ringOf : GoodIn wsX8_cell (va_wsS RX8 62 yX8_ringOf wsX8_ringOf) := goodIn_app (goodIn_of _ (by decide +kernel)) ggX8_cell_X8_ringOf
set_option maxRecDepth 20000 in
theorem ggX8_cell_X8_besides : GoodIn wsX8_cell wsX8_besides := goodIn_r _ [26, 27, 28, 3, 29, 5, 6, 7, 8, 9, 10, 11, 12, 13, 14, 15, 16, 36, 37, 38, 39, 40, 41, 42, 43, 44, 45, 46, 47, 48, 49, 50, 51, 52, 53, 54, 55, 56] (by decide +kernel) (by decide +kernel)
set_option maxRecDepth 20000 in
theorem gX8_cell_X8_besides : GoodIn wsX8_cell (wsV RX8 191 RX8 yX8_besides wsX8_besides) := goodIn_app (goodIn_of _ (by decide +kernel)) ggX8_cell_X8_besides
set_option maxRecDepth 20000 in
theorem ggX8_cell_X8_rimOf : GoodIn wsX8_cell wsX8_rimOf := goodIn_r _ [32, 33, 34, 3, 35] (by decide +kernel) (by decide +kernel)
set_option maxRecDepth 20000 in
theorem gX8_cell_X8_rimOf : GoodIn wsX8_cell (va_wsS RX8 194 yX8_rimOf wsX8_rimOf) := goodIn_app (goodIn_of _ (by decide +kernel)) ggX8_cell_X8_rimOf
theorem dX8_cell_0 : decode cX8_cell 0 = .ok (.iload_n 1, 1) := by decide +kernel
theorem dX8_cell_1 : decode cX8_cell 1 = .ok (.invokestatic 188, 3) := by decide +kernel
theorem dX8_cell_4 : decode cX8_cell 4 = .ok (.ifCond .ne 5, 3) := by decide +kernel
theorem dX8_cell_7 : decode cX8_cell 7 = .ok (.iconst (-1), 1) := by decide +kernel
theorem dX8_cell_8 : decode cX8_cell 8 = .ok (.ireturn, 1) := by decide +kernel
theorem dX8_cell_9 : decode cX8_cell 9 = .ok (.iload_n 2, 1) := by decide +kernel
theorem dX8_cell_10 : decode cX8_cell 10 = .ok (.tableswitch 52 0 3 #[30, 36, 41, 47], 30) := by decide +kernel
theorem dX8_cell_40 : decode cX8_cell 40 = .ok (.aload_n 0, 1) := by decide +kernel
theorem dX8_cell_41 : decode cX8_cell 41 = .ok (.iload_n 1, 1) := by decide +kernel
theorem dX8_cell_42 : decode cX8_cell 42 = .ok (.invokevirtual 72, 3) := by decide +kernel
theorem dX8_cell_45 : decode cX8_cell 45 = .ok (.ireturn, 1) := by decide +kernel
theorem dX8_cell_46 : decode cX8_cell 46 = .ok (.iload_n 1, 1) := by decide +kernel
theorem dX8_cell_47 : decode cX8_cell 47 = .ok (.invokestatic 62, 3) := by decide +kernel
theorem dX8_cell_50 : decode cX8_cell 50 = .ok (.ireturn, 1) := by decide +kernel
theorem dX8_cell_51 : decode cX8_cell 51 = .ok (.aload_n 0, 1) := by decide +kernel
theorem dX8_cell_52 : decode cX8_cell 52 = .ok (.iload_n 1, 1) := by decide +kernel
theorem dX8_cell_53 : decode cX8_cell 53 = .ok (.invokevirtual 191, 3) := by decide +kernel
theorem dX8_cell_56 : decode cX8_cell 56 = .ok (.ireturn, 1) := by decide +kernel
theorem dX8_cell_57 : decode cX8_cell 57 = .ok (.iload_n 1, 1) := by decide +kernel
theorem dX8_cell_58 : decode cX8_cell 58 = .ok (.invokestatic 194, 3) := by decide +kernel
theorem dX8_cell_61 : decode cX8_cell 61 = .ok (.ireturn, 1) := by decide +kernel
theorem dX8_cell_62 : decode cX8_cell 62 = .ok (.iconst (-1), 1) := by decide +kernel
theorem dX8_cell_63 : decode cX8_cell 63 = .ok (.ireturn, 1) := by decide +kernel
set_option maxRecDepth 20000 in
theorem ggX8_depthOf_X8_holder : GoodIn wsX8_depthOf wsX8_holder := goodIn_r _ [5, 6, 7, 8, 4, 9, 10, 11, 12, 13, 14, 15, 16, 17, 18, 19, 20, 21, 22, 23, 24, 25, 26, 27, 28, 29, 30, 31] (by decide +kernel) (by decide +kernel)
set_option maxRecDepth 20000 in
theorem gX8_depthOf_X8_holder : GoodIn wsX8_depthOf (wsV RX8 105 RX8 yX8_holder wsX8_holder) := goodIn_app (goodIn_of _ (by decide +kernel)) ggX8_depthOf_X8_holder
theorem dX8_depthOf_0 : decode cX8_depthOf 0 = .ok (.iconst 0, 1) := by decide +kernel
theorem dX8_depthOf_1 : decode cX8_depthOf 1 = .ok (.istore_n 2, 1) := by decide +kernel
theorem dX8_depthOf_2 : decode cX8_depthOf 2 = .ok (.aload_n 0, 1) := by decide +kernel
theorem dX8_depthOf_3 : decode cX8_depthOf 3 = .ok (.iload_n 1, 1) := by decide +kernel
theorem dX8_depthOf_4 : decode cX8_depthOf 4 = .ok (.invokevirtual 105, 3) := by decide +kernel
theorem dX8_depthOf_7 : decode cX8_depthOf 7 = .ok (.istore_n 3, 1) := by decide +kernel
theorem dX8_depthOf_8 : decode cX8_depthOf 8 = .ok (.iload_n 3, 1) := by decide +kernel
theorem dX8_depthOf_9 : decode cX8_depthOf 9 = .ok (.ifCond .lt 15, 3) := by decide +kernel
theorem dX8_depthOf_12 : decode cX8_depthOf 12 = .ok (.iinc 2 1, 3) := by decide +kernel
theorem dX8_depthOf_15 : decode cX8_depthOf 15 = .ok (.aload_n 0, 1) := by decide +kernel
theorem dX8_depthOf_16 : decode cX8_depthOf 16 = .ok (.iload_n 3, 1) := by decide +kernel
theorem dX8_depthOf_17 : decode cX8_depthOf 17 = .ok (.invokevirtual 105, 3) := by decide +kernel
theorem dX8_depthOf_20 : decode cX8_depthOf 20 = .ok (.istore_n 3, 1) := by decide +kernel
theorem dX8_depthOf_21 : decode cX8_depthOf 21 = .ok (.goto (-13), 3) := by decide +kernel
theorem dX8_depthOf_24 : decode cX8_depthOf 24 = .ok (.iload_n 2, 1) := by decide +kernel
theorem dX8_depthOf_25 : decode cX8_depthOf 25 = .ok (.ireturn, 1) := by decide +kernel
set_option maxRecDepth 20000 in
theorem ggX8_rootOf_X8_holder : GoodIn wsX8_rootOf wsX8_holder := goodIn_r _ [5, 6, 7, 8, 4, 9, 10, 11, 12, 13, 14, 15, 16, 17, 18, 19, 20, 21, 22, 23, 24, 25, 26, 27, 28, 29, 30, 31] (by decide +kernel) (by decide +kernel)
set_option maxRecDepth 20000 in
theorem gX8_rootOf_X8_holder : GoodIn wsX8_rootOf (wsV RX8 105 RX8 yX8_holder wsX8_holder) := goodIn_app (goodIn_of _ (by decide +kernel)) ggX8_rootOf_X8_holder
theorem dX8_rootOf_0 : decode cX8_rootOf 0 = .ok (.iload_n 1, 1) := by decide +kernel
theorem dX8_rootOf_1 : decode cX8_rootOf 1 = .ok (.istore_n 2, 1) := by decide +kernel
theorem dX8_rootOf_2 : decode cX8_rootOf 2 = .ok (.aload_n 0, 1) := by decide +kernel
theorem dX8_rootOf_3 : decode cX8_rootOf 3 = .ok (.iload_n 2, 1) := by decide +kernel
theorem dX8_rootOf_4 : decode cX8_rootOf 4 = .ok (.invokevirtual 105, 3) := by decide +kernel
theorem dX8_rootOf_7 : decode cX8_rootOf 7 = .ok (.ifCond .lt 12, 3) := by decide +kernel
theorem dX8_rootOf_10 : decode cX8_rootOf 10 = .ok (.aload_n 0, 1) := by decide +kernel
theorem dX8_rootOf_11 : decode cX8_rootOf 11 = .ok (.iload_n 2, 1) := by decide +kernel
theorem dX8_rootOf_12 : decode cX8_rootOf 12 = .ok (.invokevirtual 105, 3) := by decide +kernel
theorem dX8_rootOf_15 : decode cX8_rootOf 15 = .ok (.istore_n 2, 1) := by decide +kernel
theorem dX8_rootOf_16 : decode cX8_rootOf 16 = .ok (.goto (-14), 3) := by decide +kernel
theorem dX8_rootOf_19 : decode cX8_rootOf 19 = .ok (.iload_n 2, 1) := by decide +kernel
theorem dX8_rootOf_20 : decode cX8_rootOf 20 = .ok (.ireturn, 1) := by decide +kernel
set_option maxRecDepth 20000 in
theorem ggX8_isIn_X8_holder : GoodIn wsX8_isIn wsX8_holder := goodIn_r _ [5, 6, 7, 8, 4, 9, 10, 11, 12, 13, 14, 15, 16, 17, 18, 19, 20, 21, 22, 23, 24, 25, 26, 27, 28, 29, 30, 31] (by decide +kernel) (by decide +kernel)
set_option maxRecDepth 20000 in
theorem gX8_isIn_X8_holder : GoodIn wsX8_isIn (wsV RX8 105 RX8 yX8_holder wsX8_holder) := goodIn_app (goodIn_of _ (by decide +kernel)) ggX8_isIn_X8_holder
theorem dX8_isIn_0 : decode cX8_isIn 0 = .ok (.iload_n 1, 1) := by decide +kernel
theorem dX8_isIn_1 : decode cX8_isIn 1 = .ok (.istore_n 3, 1) := by decide +kernel
theorem dX8_isIn_2 : decode cX8_isIn 2 = .ok (.iload_n 3, 1) := by decide +kernel
theorem dX8_isIn_3 : decode cX8_isIn 3 = .ok (.iload_n 2, 1) := by decide +kernel
theorem dX8_isIn_4 : decode cX8_isIn 4 = .ok (.if_icmp .le 12, 3) := by decide +kernel
theorem dX8_isIn_7 : decode cX8_isIn 7 = .ok (.aload_n 0, 1) := by decide +kernel
theorem dX8_isIn_8 : decode cX8_isIn 8 = .ok (.iload_n 3, 1) := by decide +kernel
theorem dX8_isIn_9 : decode cX8_isIn 9 = .ok (.invokevirtual 105, 3) := by decide +kernel
theorem dX8_isIn_12 : decode cX8_isIn 12 = .ok (.istore_n 3, 1) := by decide +kernel
theorem dX8_isIn_13 : decode cX8_isIn 13 = .ok (.goto (-11), 3) := by decide +kernel
theorem dX8_isIn_16 : decode cX8_isIn 16 = .ok (.iload_n 3, 1) := by decide +kernel
theorem dX8_isIn_17 : decode cX8_isIn 17 = .ok (.iload_n 2, 1) := by decide +kernel
theorem dX8_isIn_18 : decode cX8_isIn 18 = .ok (.if_icmp .ne 7, 3) := by decide +kernel
theorem dX8_isIn_21 : decode cX8_isIn 21 = .ok (.iconst 1, 1) := by decide +kernel
theorem dX8_isIn_22 : decode cX8_isIn 22 = .ok (.goto 4, 3) := by decide +kernel
theorem dX8_isIn_25 : decode cX8_isIn 25 = .ok (.iconst 0, 1) := by decide +kernel
theorem dX8_isIn_26 : decode cX8_isIn 26 = .ok (.ireturn, 1) := by decide +kernel
set_option maxRecDepth 20000 in
theorem ggX8_treeOf_X8_isIn : GoodIn wsX8_treeOf wsX8_isIn := goodIn_r _ [6, 7, 8, 9, 5, 10, 11, 12, 13, 14, 1, 15, 16, 17, 18, 19, 20, 21, 22, 23, 24, 25, 26, 27, 28, 29, 30, 31, 32, 33, 34, 35] (by decide +kernel) (by decide +kernel)
set_option maxRecDepth 20000 in
theorem gX8_treeOf_X8_isIn : GoodIn wsX8_treeOf (wsV RX8 197 RX8 yX8_isIn wsX8_isIn) := goodIn_app (goodIn_of _ (by decide +kernel)) ggX8_treeOf_X8_isIn
theorem dX8_treeOf_0 : decode cX8_treeOf 0 = .ok (.iconst 0, 1) := by decide +kernel
theorem dX8_treeOf_1 : decode cX8_treeOf 1 = .ok (.istore_n 2, 1) := by decide +kernel
theorem dX8_treeOf_2 : decode cX8_treeOf 2 = .ok (.iload_n 1, 1) := by decide +kernel
theorem dX8_treeOf_3 : decode cX8_treeOf 3 = .ok (.istore_n 3, 1) := by decide +kernel
theorem dX8_treeOf_4 : decode cX8_treeOf 4 = .ok (.iload_n 3, 1) := by decide +kernel
theorem dX8_treeOf_5 : decode cX8_treeOf 5 = .ok (.aload_n 0, 1) := by decide +kernel
theorem dX8_treeOf_6 : decode cX8_treeOf 6 = .ok (.getfield 7, 3) := by decide +kernel
theorem dX8_treeOf_9 : decode cX8_treeOf 9 = .ok (.iconst 0, 1) := by decide +kernel
theorem dX8_treeOf_10 : decode cX8_treeOf 10 = .ok (.iaload, 1) := by decide +kernel
theorem dX8_treeOf_11 : decode cX8_treeOf 11 = .ok (.if_icmp .ge 26, 3) := by decide +kernel
theorem dX8_treeOf_14 : decode cX8_treeOf 14 = .ok (.iload_n 2, 1) := by decide +kernel
theorem dX8_treeOf_15 : decode cX8_treeOf 15 = .ok (.aload_n 0, 1) := by decide +kernel
theorem dX8_treeOf_16 : decode cX8_treeOf 16 = .ok (.iload_n 3, 1) := by decide +kernel
theorem dX8_treeOf_17 : decode cX8_treeOf 17 = .ok (.iload_n 1, 1) := by decide +kernel
theorem dX8_treeOf_18 : decode cX8_treeOf 18 = .ok (.invokevirtual 197, 3) := by decide +kernel
theorem dX8_treeOf_21 : decode cX8_treeOf 21 = .ok (.ifCond .eq 7, 3) := by decide +kernel
theorem dX8_treeOf_24 : decode cX8_treeOf 24 = .ok (.iconst 1, 1) := by decide +kernel
theorem dX8_treeOf_25 : decode cX8_treeOf 25 = .ok (.goto 4, 3) := by decide +kernel
theorem dX8_treeOf_28 : decode cX8_treeOf 28 = .ok (.iconst 0, 1) := by decide +kernel
theorem dX8_treeOf_29 : decode cX8_treeOf 29 = .ok (.iadd, 1) := by decide +kernel
theorem dX8_treeOf_30 : decode cX8_treeOf 30 = .ok (.istore_n 2, 1) := by decide +kernel
theorem dX8_treeOf_31 : decode cX8_treeOf 31 = .ok (.iinc 3 1, 3) := by decide +kernel
theorem dX8_treeOf_34 : decode cX8_treeOf 34 = .ok (.goto (-30), 3) := by decide +kernel
theorem dX8_treeOf_37 : decode cX8_treeOf 37 = .ok (.iload_n 2, 1) := by decide +kernel
theorem dX8_treeOf_38 : decode cX8_treeOf 38 = .ok (.ireturn, 1) := by decide +kernel
set_option maxRecDepth 20000 in
theorem ggX8_highOf_X8_isIn : GoodIn wsX8_highOf wsX8_isIn := goodIn_r _ [6, 7, 8, 9, 5, 10, 11, 12, 13, 14, 1, 19, 20, 21, 22, 23, 24, 25, 26, 27, 28, 29, 30, 31, 32, 33, 34, 35, 36, 37, 38, 39] (by decide +kernel) (by decide +kernel)
set_option maxRecDepth 20000 in
theorem gX8_highOf_X8_isIn : GoodIn wsX8_highOf (wsV RX8 197 RX8 yX8_isIn wsX8_isIn) := goodIn_app (goodIn_of _ (by decide +kernel)) ggX8_highOf_X8_isIn
set_option maxRecDepth 20000 in
theorem ggX8_highOf_X8_depthOf : GoodIn wsX8_highOf wsX8_depthOf := goodIn_r _ [18, 7, 8, 9, 5, 10, 11, 12, 13, 14, 1, 19, 20, 21, 22, 23, 24, 25, 26, 27, 28, 29, 30, 31, 32, 33, 34, 35, 36, 37, 38, 39] (by decide +kernel) (by decide +kernel)
set_option maxRecDepth 20000 in
theorem gX8_highOf_X8_depthOf : GoodIn wsX8_highOf (wsV RX8 201 RX8 yX8_depthOf wsX8_depthOf) := goodIn_app (goodIn_of _ (by decide +kernel)) ggX8_highOf_X8_depthOf
theorem dX8_highOf_0 : decode cX8_highOf 0 = .ok (.iconst 0, 1) := by decide +kernel
theorem dX8_highOf_1 : decode cX8_highOf 1 = .ok (.istore_n 2, 1) := by decide +kernel
theorem dX8_highOf_2 : decode cX8_highOf 2 = .ok (.iload_n 1, 1) := by decide +kernel
theorem dX8_highOf_3 : decode cX8_highOf 3 = .ok (.istore_n 3, 1) := by decide +kernel
theorem dX8_highOf_4 : decode cX8_highOf 4 = .ok (.iload_n 3, 1) := by decide +kernel
theorem dX8_highOf_5 : decode cX8_highOf 5 = .ok (.aload_n 0, 1) := by decide +kernel
theorem dX8_highOf_6 : decode cX8_highOf 6 = .ok (.getfield 7, 3) := by decide +kernel
theorem dX8_highOf_9 : decode cX8_highOf 9 = .ok (.iconst 0, 1) := by decide +kernel
theorem dX8_highOf_10 : decode cX8_highOf 10 = .ok (.iaload, 1) := by decide +kernel
theorem dX8_highOf_11 : decode cX8_highOf 11 = .ok (.if_icmp .ge 48, 3) := by decide +kernel
theorem dX8_highOf_14 : decode cX8_highOf 14 = .ok (.aload_n 0, 1) := by decide +kernel
theorem dX8_highOf_15 : decode cX8_highOf 15 = .ok (.iload_n 3, 1) := by decide +kernel
theorem dX8_highOf_16 : decode cX8_highOf 16 = .ok (.iload_n 1, 1) := by decide +kernel
theorem dX8_highOf_17 : decode cX8_highOf 17 = .ok (.invokevirtual 197, 3) := by decide +kernel
theorem dX8_highOf_20 : decode cX8_highOf 20 = .ok (.ifCond .eq 17, 3) := by decide +kernel
theorem dX8_highOf_23 : decode cX8_highOf 23 = .ok (.aload_n 0, 1) := by decide +kernel
theorem dX8_highOf_24 : decode cX8_highOf 24 = .ok (.iload_n 3, 1) := by decide +kernel
theorem dX8_highOf_25 : decode cX8_highOf 25 = .ok (.invokevirtual 201, 3) := by decide +kernel
theorem dX8_highOf_28 : decode cX8_highOf 28 = .ok (.aload_n 0, 1) := by decide +kernel
theorem dX8_highOf_29 : decode cX8_highOf 29 = .ok (.iload_n 1, 1) := by decide +kernel
theorem dX8_highOf_30 : decode cX8_highOf 30 = .ok (.invokevirtual 201, 3) := by decide +kernel
theorem dX8_highOf_33 : decode cX8_highOf 33 = .ok (.isub, 1) := by decide +kernel
theorem dX8_highOf_34 : decode cX8_highOf 34 = .ok (.goto 4, 3) := by decide +kernel
theorem dX8_highOf_37 : decode cX8_highOf 37 = .ok (.iconst 0, 1) := by decide +kernel
theorem dX8_highOf_38 : decode cX8_highOf 38 = .ok (.istore 4, 2) := by decide +kernel
theorem dX8_highOf_40 : decode cX8_highOf 40 = .ok (.iload 4, 2) := by decide +kernel
theorem dX8_highOf_42 : decode cX8_highOf 42 = .ok (.iload_n 2, 1) := by decide +kernel
theorem dX8_highOf_43 : decode cX8_highOf 43 = .ok (.if_icmp .le 8, 3) := by decide +kernel
theorem dX8_highOf_46 : decode cX8_highOf 46 = .ok (.iload 4, 2) := by decide +kernel
theorem dX8_highOf_48 : decode cX8_highOf 48 = .ok (.goto 4, 3) := by decide +kernel
theorem dX8_highOf_51 : decode cX8_highOf 51 = .ok (.iload_n 2, 1) := by decide +kernel
theorem dX8_highOf_52 : decode cX8_highOf 52 = .ok (.istore_n 2, 1) := by decide +kernel
theorem dX8_highOf_53 : decode cX8_highOf 53 = .ok (.iinc 3 1, 3) := by decide +kernel
theorem dX8_highOf_56 : decode cX8_highOf 56 = .ok (.goto (-52), 3) := by decide +kernel
theorem dX8_highOf_59 : decode cX8_highOf 59 = .ok (.iload_n 2, 1) := by decide +kernel
theorem dX8_highOf_60 : decode cX8_highOf 60 = .ok (.ireturn, 1) := by decide +kernel
theorem dX8_lookingFrom_0 : decode cX8_lookingFrom 0 = .ok (.iload_n 0, 1) := by decide +kernel
theorem dX8_lookingFrom_1 : decode cX8_lookingFrom 1 = .ok (.bipush 11, 2) := by decide +kernel
theorem dX8_lookingFrom_3 : decode cX8_lookingFrom 3 = .ok (.if_icmp .ge 7, 3) := by decide +kernel
theorem dX8_lookingFrom_6 : decode cX8_lookingFrom 6 = .ok (.iconst 2, 1) := by decide +kernel
theorem dX8_lookingFrom_7 : decode cX8_lookingFrom 7 = .ok (.goto 24, 3) := by decide +kernel
theorem dX8_lookingFrom_10 : decode cX8_lookingFrom 10 = .ok (.iload_n 0, 1) := by decide +kernel
theorem dX8_lookingFrom_11 : decode cX8_lookingFrom 11 = .ok (.bipush 20, 2) := by decide +kernel
theorem dX8_lookingFrom_13 : decode cX8_lookingFrom 13 = .ok (.if_icmp .ge 7, 3) := by decide +kernel
theorem dX8_lookingFrom_16 : decode cX8_lookingFrom 16 = .ok (.iconst 3, 1) := by decide +kernel
theorem dX8_lookingFrom_17 : decode cX8_lookingFrom 17 = .ok (.goto 14, 3) := by decide +kernel
theorem dX8_lookingFrom_20 : decode cX8_lookingFrom 20 = .ok (.iload_n 0, 1) := by decide +kernel
theorem dX8_lookingFrom_21 : decode cX8_lookingFrom 21 = .ok (.bipush 31, 2) := by decide +kernel
theorem dX8_lookingFrom_23 : decode cX8_lookingFrom 23 = .ok (.if_icmp .ge 7, 3) := by decide +kernel
theorem dX8_lookingFrom_26 : decode cX8_lookingFrom 26 = .ok (.iconst 0, 1) := by decide +kernel
theorem dX8_lookingFrom_27 : decode cX8_lookingFrom 27 = .ok (.goto 4, 3) := by decide +kernel
theorem dX8_lookingFrom_30 : decode cX8_lookingFrom 30 = .ok (.iconst 1, 1) := by decide +kernel
theorem dX8_lookingFrom_31 : decode cX8_lookingFrom 31 = .ok (.ireturn, 1) := by decide +kernel
set_option maxRecDepth 20000 in
theorem ggX8_screening_X8_rimCell : GoodIn wsX8_screening wsX8_rimCell := goodIn_r _ [4] (by decide +kernel) (by decide +kernel)
set_option maxRecDepth 20000 in
theorem gX8_screening_X8_rimCell : GoodIn wsX8_screening (va_wsS RX8 55 yX8_rimCell wsX8_rimCell) := goodIn_app (goodIn_of _ (by decide +kernel)) ggX8_screening_X8_rimCell
set_option maxRecDepth 20000 in
theorem ggX8_screening_X8_grainAt : GoodIn wsX8_screening wsX8_grainAt := goodIn_r _ [8, 9, 10, 11, 12, 3, 13, 23, 24, 25, 26, 27, 28, 29, 30, 31, 32, 33, 34, 35, 36, 37, 38, 39, 40, 41, 42, 43] (by decide +kernel) (by decide +kernel)
set_option maxRecDepth 20000 in
theorem gX8_screening_X8_grainAt : GoodIn wsX8_screening (wsV RX8 72 RX8 yX8_grainAt wsX8_grainAt) := goodIn_app (goodIn_of _ (by decide +kernel)) ggX8_screening_X8_grainAt
set_option maxRecDepth 20000 in
theorem ggX8_screening_X8_lookingFrom : GoodIn wsX8_screening wsX8_lookingFrom := goodIn_r _ [16] (by decide +kernel) (by decide +kernel)
set_option maxRecDepth 20000 in
theorem gX8_screening_X8_lookingFrom : GoodIn wsX8_screening (va_wsS RX8 204 yX8_lookingFrom wsX8_lookingFrom) := goodIn_app (goodIn_of _ (by decide +kernel)) ggX8_screening_X8_lookingFrom
set_option maxRecDepth 20000 in
theorem ggX8_screening_X8_beside : GoodIn wsX8_screening wsX8_beside := goodIn_r _ [19, 20, 21, 3, 22] (by decide +kernel) (by decide +kernel)
set_option maxRecDepth 20000 in
theorem gX8_screening_X8_beside : GoodIn wsX8_screening (va_wsS RX8 69 yX8_beside wsX8_beside) := goodIn_app (goodIn_of _ (by decide +kernel)) ggX8_screening_X8_beside
theorem dX8_screening_0 : decode cX8_screening 0 = .ok (.iload_n 1, 1) := by decide +kernel
theorem dX8_screening_1 : decode cX8_screening 1 = .ok (.invokestatic 55, 3) := by decide +kernel
theorem dX8_screening_4 : decode cX8_screening 4 = .ok (.istore_n 2, 1) := by decide +kernel
theorem dX8_screening_5 : decode cX8_screening 5 = .ok (.iload_n 2, 1) := by decide +kernel
theorem dX8_screening_6 : decode cX8_screening 6 = .ok (.ifCond .lt 23, 3) := by decide +kernel
theorem dX8_screening_9 : decode cX8_screening 9 = .ok (.aload_n 0, 1) := by decide +kernel
theorem dX8_screening_10 : decode cX8_screening 10 = .ok (.iload_n 2, 1) := by decide +kernel
theorem dX8_screening_11 : decode cX8_screening 11 = .ok (.invokevirtual 72, 3) := by decide +kernel
theorem dX8_screening_14 : decode cX8_screening 14 = .ok (.ifCond .ge 15, 3) := by decide +kernel
theorem dX8_screening_17 : decode cX8_screening 17 = .ok (.iload_n 2, 1) := by decide +kernel
theorem dX8_screening_18 : decode cX8_screening 18 = .ok (.iload_n 1, 1) := by decide +kernel
theorem dX8_screening_19 : decode cX8_screening 19 = .ok (.invokestatic 204, 3) := by decide +kernel
theorem dX8_screening_22 : decode cX8_screening 22 = .ok (.invokestatic 69, 3) := by decide +kernel
theorem dX8_screening_25 : decode cX8_screening 25 = .ok (.istore_n 2, 1) := by decide +kernel
theorem dX8_screening_26 : decode cX8_screening 26 = .ok (.goto (-21), 3) := by decide +kernel
theorem dX8_screening_29 : decode cX8_screening 29 = .ok (.iload_n 2, 1) := by decide +kernel
theorem dX8_screening_30 : decode cX8_screening 30 = .ok (.ifCond .ge 8, 3) := by decide +kernel
theorem dX8_screening_33 : decode cX8_screening 33 = .ok (.bipush (-4), 2) := by decide +kernel
theorem dX8_screening_35 : decode cX8_screening 35 = .ok (.goto 8, 3) := by decide +kernel
theorem dX8_screening_38 : decode cX8_screening 38 = .ok (.aload_n 0, 1) := by decide +kernel
theorem dX8_screening_39 : decode cX8_screening 39 = .ok (.iload_n 2, 1) := by decide +kernel
theorem dX8_screening_40 : decode cX8_screening 40 = .ok (.invokevirtual 72, 3) := by decide +kernel
theorem dX8_screening_43 : decode cX8_screening 43 = .ok (.ireturn, 1) := by decide +kernel
set_option maxRecDepth 20000 in
theorem ggX8_catchOf_X8_screening : GoodIn wsX8_catchOf wsX8_screening := goodIn_r _ [5, 6, 7, 4, 8, 9, 10, 11, 12, 13, 14, 15, 16, 17, 18, 19, 20, 21, 22, 23, 24, 25, 26, 27, 28, 29, 30, 31, 32, 33, 34, 35, 36, 37, 38, 39, 40, 41, 42, 43, 44, 45, 46, 47] (by decide +kernel) (by decide +kernel)
set_option maxRecDepth 20000 in
theorem gX8_catchOf_X8_screening : GoodIn wsX8_catchOf (wsV RX8 207 RX8 yX8_screening wsX8_screening) := goodIn_app (goodIn_of _ (by decide +kernel)) ggX8_catchOf_X8_screening
theorem dX8_catchOf_0 : decode cX8_catchOf 0 = .ok (.iconst 0, 1) := by decide +kernel
theorem dX8_catchOf_1 : decode cX8_catchOf 1 = .ok (.istore_n 2, 1) := by decide +kernel
theorem dX8_catchOf_2 : decode cX8_catchOf 2 = .ok (.iconst 0, 1) := by decide +kernel
theorem dX8_catchOf_3 : decode cX8_catchOf 3 = .ok (.istore_n 3, 1) := by decide +kernel
theorem dX8_catchOf_4 : decode cX8_catchOf 4 = .ok (.iload_n 3, 1) := by decide +kernel
theorem dX8_catchOf_5 : decode cX8_catchOf 5 = .ok (.bipush 40, 2) := by decide +kernel
theorem dX8_catchOf_7 : decode cX8_catchOf 7 = .ok (.if_icmp .ge 26, 3) := by decide +kernel
theorem dX8_catchOf_10 : decode cX8_catchOf 10 = .ok (.iload_n 2, 1) := by decide +kernel
theorem dX8_catchOf_11 : decode cX8_catchOf 11 = .ok (.aload_n 0, 1) := by decide +kernel
theorem dX8_catchOf_12 : decode cX8_catchOf 12 = .ok (.iload_n 3, 1) := by decide +kernel
theorem dX8_catchOf_13 : decode cX8_catchOf 13 = .ok (.invokevirtual 207, 3) := by decide +kernel
theorem dX8_catchOf_16 : decode cX8_catchOf 16 = .ok (.iload_n 1, 1) := by decide +kernel
theorem dX8_catchOf_17 : decode cX8_catchOf 17 = .ok (.if_icmp .ne 7, 3) := by decide +kernel
theorem dX8_catchOf_20 : decode cX8_catchOf 20 = .ok (.iconst 1, 1) := by decide +kernel
theorem dX8_catchOf_21 : decode cX8_catchOf 21 = .ok (.goto 4, 3) := by decide +kernel
theorem dX8_catchOf_24 : decode cX8_catchOf 24 = .ok (.iconst 0, 1) := by decide +kernel
theorem dX8_catchOf_25 : decode cX8_catchOf 25 = .ok (.iadd, 1) := by decide +kernel
theorem dX8_catchOf_26 : decode cX8_catchOf 26 = .ok (.istore_n 2, 1) := by decide +kernel
theorem dX8_catchOf_27 : decode cX8_catchOf 27 = .ok (.iinc 3 1, 3) := by decide +kernel
theorem dX8_catchOf_30 : decode cX8_catchOf 30 = .ok (.goto (-26), 3) := by decide +kernel
theorem dX8_catchOf_33 : decode cX8_catchOf 33 = .ok (.iload_n 2, 1) := by decide +kernel
theorem dX8_catchOf_34 : decode cX8_catchOf 34 = .ok (.ireturn, 1) := by decide +kernel
set_option maxRecDepth 20000 in
theorem ggX8_grain_X8_isGrain : GoodIn wsX8_grain wsX8_isGrain := goodIn_r _ [5, 6, 7, 8, 4, 9, 63, 64, 65, 66, 67, 68, 69, 70, 71, 72, 73, 74, 75, 76, 77, 78, 79, 80, 81, 82, 83] (by decide +kernel) (by decide +kernel)
set_option maxRecDepth 20000 in
theorem gX8_grain_X8_isGrain : GoodIn wsX8_grain (wsV RX8 117 RX8 yX8_isGrain wsX8_isGrain) := goodIn_app (goodIn_of _ (by decide +kernel)) ggX8_grain_X8_isGrain
set_option maxRecDepth 20000 in
theorem ggX8_grain_X8_of : GoodIn wsX8_grain wsX8_of := goodIn_r _ [13, 6, 63, 64, 65, 66, 67, 68, 69, 70, 71, 72, 73, 74, 75, 76, 77, 78, 79, 80, 81, 82, 83] (by decide +kernel) (by decide +kernel)
set_option maxRecDepth 20000 in
theorem gX8_grain_X8_of : GoodIn wsX8_grain (wsV RX8 58 RX8 yX8_of wsX8_of) := goodIn_app (goodIn_of _ (by decide +kernel)) ggX8_grain_X8_of
set_option maxRecDepth 20000 in
theorem ggX8_grain_X8_holder : GoodIn wsX8_grain wsX8_holder := goodIn_r _ [17, 10, 11, 12, 4, 13, 6, 63, 64, 65, 66, 67, 68, 69, 70, 71, 72, 73, 74, 75, 76, 77, 78, 79, 80, 81, 82, 83] (by decide +kernel) (by decide +kernel)
set_option maxRecDepth 20000 in
theorem gX8_grain_X8_holder : GoodIn wsX8_grain (wsV RX8 105 RX8 yX8_holder wsX8_holder) := goodIn_app (goodIn_of _ (by decide +kernel)) ggX8_grain_X8_holder
set_option maxRecDepth 20000 in
theorem ggX8_grain_X8_depthOf : GoodIn wsX8_grain wsX8_depthOf := goodIn_r _ [21, 14, 15, 16, 4, 17, 10, 11, 12, 13, 6, 63, 64, 65, 66, 67, 68, 69, 70, 71, 72, 73, 74, 75, 76, 77, 78, 79, 80, 81, 82, 83] (by decide +kernel) (by decide +kernel)
set_option maxRecDepth 20000 in
theorem gX8_grain_X8_depthOf : GoodIn wsX8_grain (wsV RX8 201 RX8 yX8_depthOf wsX8_depthOf) := goodIn_app (goodIn_of _ (by decide +kernel)) ggX8_grain_X8_depthOf
set_option maxRecDepth 20000 in
theorem ggX8_grain_X8_children : GoodIn wsX8_grain wsX8_children := goodIn_r _ [25, 6, 14, 15, 16, 4, 17, 10, 11, 12, 13, 63, 64, 65, 66, 67, 68, 69, 70, 71, 72, 73, 74, 75, 76, 77, 78, 79, 80, 81, 82, 83] (by decide +kernel) (by decide +kernel)
set_option maxRecDepth 20000 in
theorem gX8_grain_X8_children : GoodIn wsX8_grain (wsV RX8 111 RX8 yX8_children wsX8_children) := goodIn_app (goodIn_of _ (by decide +kernel)) ggX8_grain_X8_children
set_option maxRecDepth 20000 in
theorem ggX8_grain_X8_treeOf : GoodIn wsX8_grain wsX8_treeOf := goodIn_r _ [29, 6, 30, 31, 32, 4, 33, 14, 15, 16, 17, 10, 11, 12, 13, 63, 64, 65, 66, 67, 68, 69, 70, 71, 72, 73, 74, 75, 76, 77, 78, 79, 80, 81, 82, 83] (by decide +kernel) (by decide +kernel)
set_option maxRecDepth 20000 in
theorem gX8_grain_X8_treeOf : GoodIn wsX8_grain (wsV RX8 210 RX8 yX8_treeOf wsX8_treeOf) := goodIn_app (goodIn_of _ (by decide +kernel)) ggX8_grain_X8_treeOf
set_option maxRecDepth 20000 in
theorem ggX8_grain_X8_highOf : GoodIn wsX8_grain wsX8_highOf := goodIn_r _ [37, 6, 30, 31, 32, 4, 33, 14, 15, 16, 17, 10, 11, 12, 13, 18, 19, 20, 21, 63, 64, 65, 66, 67, 68, 69, 70, 71, 72, 73, 74, 75, 76, 77, 78, 79, 80, 81, 82, 83] (by decide +kernel) (by decide +kernel)
set_option maxRecDepth 20000 in
theorem gX8_grain_X8_highOf : GoodIn wsX8_grain (wsV RX8 213 RX8 yX8_highOf wsX8_highOf) := goodIn_app (goodIn_of _ (by decide +kernel)) ggX8_grain_X8_highOf
set_option maxRecDepth 20000 in
theorem ggX8_grain_X8_catchOf : GoodIn wsX8_grain wsX8_catchOf := goodIn_r _ [41, 42, 43, 44, 4, 45, 46, 47, 48, 49, 50, 51, 52, 6, 10, 11, 12, 13, 53, 54, 55, 56, 57, 58, 7, 8, 9, 63, 64, 65, 66, 67, 68, 69, 70, 71, 72, 73, 74, 75, 76, 77, 78, 79, 80, 81, 82, 83] (by decide +kernel) (by decide +kernel)
set_option maxRecDepth 20000 in
theorem gX8_grain_X8_catchOf : GoodIn wsX8_grain (wsV RX8 216 RX8 yX8_catchOf wsX8_catchOf) := goodIn_app (goodIn_of _ (by decide +kernel)) ggX8_grain_X8_catchOf
set_option maxRecDepth 20000 in
theorem ggX8_grain_X8_rootOf : GoodIn wsX8_grain wsX8_rootOf := goodIn_r _ [62, 14, 15, 16, 4, 17, 10, 11, 12, 13, 6, 63, 64, 65, 66, 67, 68, 69, 70, 71, 72, 73, 74, 75, 76, 77, 78, 79, 80, 81, 82, 83] (by decide +kernel) (by decide +kernel)
set_option maxRecDepth 20000 in
theorem gX8_grain_X8_rootOf : GoodIn wsX8_grain (wsV RX8 219 RX8 yX8_rootOf wsX8_rootOf) := goodIn_app (goodIn_of _ (by decide +kernel)) ggX8_grain_X8_rootOf
theorem dX8_grain_0 : decode cX8_grain 0 = .ok (.aload_n 0, 1) := by decide +kernel
theorem dX8_grain_1 : decode cX8_grain 1 = .ok (.iload_n 1, 1) := by decide +kernel
theorem dX8_grain_2 : decode cX8_grain 2 = .ok (.invokevirtual 117, 3) := by decide +kernel
theorem dX8_grain_5 : decode cX8_grain 5 = .ok (.ifCond .ne 5, 3) := by decide +kernel
theorem dX8_grain_8 : decode cX8_grain 8 = .ok (.iconst (-1), 1) := by decide +kernel
theorem dX8_grain_9 : decode cX8_grain 9 = .ok (.ireturn, 1) := by decide +kernel
theorem dX8_grain_10 : decode cX8_grain 10 = .ok (.iload_n 2, 1) := by decide +kernel
theorem dX8_grain_11 : decode cX8_grain 11 = .ok (.tableswitch 118 0 8 #[49, 56, 75, 81, 87, 93, 99, 105, 111], 49) := by decide +kernel
theorem dX8_grain_60 : decode cX8_grain 60 = .ok (.aload_n 0, 1) := by decide +kernel
theorem dX8_grain_61 : decode cX8_grain 61 = .ok (.iload_n 1, 1) := by decide +kernel
theorem dX8_grain_62 : decode cX8_grain 62 = .ok (.iconst 0, 1) := by decide +kernel
theorem dX8_grain_63 : decode cX8_grain 63 = .ok (.invokevirtual 58, 3) := by decide +kernel
theorem dX8_grain_66 : decode cX8_grain 66 = .ok (.ireturn, 1) := by decide +kernel
theorem dX8_grain_67 : decode cX8_grain 67 = .ok (.aload_n 0, 1) := by decide +kernel
theorem dX8_grain_68 : decode cX8_grain 68 = .ok (.iload_n 1, 1) := by decide +kernel
theorem dX8_grain_69 : decode cX8_grain 69 = .ok (.invokevirtual 105, 3) := by decide +kernel
theorem dX8_grain_72 : decode cX8_grain 72 = .ok (.ifCond .ge 8, 3) := by decide +kernel
theorem dX8_grain_75 : decode cX8_grain 75 = .ok (.bipush (-4), 2) := by decide +kernel
theorem dX8_grain_77 : decode cX8_grain 77 = .ok (.goto 8, 3) := by decide +kernel
theorem dX8_grain_80 : decode cX8_grain 80 = .ok (.aload_n 0, 1) := by decide +kernel
theorem dX8_grain_81 : decode cX8_grain 81 = .ok (.iload_n 1, 1) := by decide +kernel
theorem dX8_grain_82 : decode cX8_grain 82 = .ok (.invokevirtual 105, 3) := by decide +kernel
theorem dX8_grain_85 : decode cX8_grain 85 = .ok (.ireturn, 1) := by decide +kernel
theorem dX8_grain_86 : decode cX8_grain 86 = .ok (.aload_n 0, 1) := by decide +kernel
theorem dX8_grain_87 : decode cX8_grain 87 = .ok (.iload_n 1, 1) := by decide +kernel
theorem dX8_grain_88 : decode cX8_grain 88 = .ok (.invokevirtual 201, 3) := by decide +kernel
theorem dX8_grain_91 : decode cX8_grain 91 = .ok (.ireturn, 1) := by decide +kernel
theorem dX8_grain_92 : decode cX8_grain 92 = .ok (.aload_n 0, 1) := by decide +kernel
theorem dX8_grain_93 : decode cX8_grain 93 = .ok (.iload_n 1, 1) := by decide +kernel
theorem dX8_grain_94 : decode cX8_grain 94 = .ok (.invokevirtual 111, 3) := by decide +kernel
theorem dX8_grain_97 : decode cX8_grain 97 = .ok (.ireturn, 1) := by decide +kernel
theorem dX8_grain_98 : decode cX8_grain 98 = .ok (.aload_n 0, 1) := by decide +kernel
theorem dX8_grain_99 : decode cX8_grain 99 = .ok (.iload_n 1, 1) := by decide +kernel
theorem dX8_grain_100 : decode cX8_grain 100 = .ok (.invokevirtual 210, 3) := by decide +kernel
theorem dX8_grain_103 : decode cX8_grain 103 = .ok (.ireturn, 1) := by decide +kernel
theorem dX8_grain_104 : decode cX8_grain 104 = .ok (.aload_n 0, 1) := by decide +kernel
theorem dX8_grain_105 : decode cX8_grain 105 = .ok (.iload_n 1, 1) := by decide +kernel
theorem dX8_grain_106 : decode cX8_grain 106 = .ok (.invokevirtual 213, 3) := by decide +kernel
theorem dX8_grain_109 : decode cX8_grain 109 = .ok (.ireturn, 1) := by decide +kernel
theorem dX8_grain_110 : decode cX8_grain 110 = .ok (.aload_n 0, 1) := by decide +kernel
theorem dX8_grain_111 : decode cX8_grain 111 = .ok (.iload_n 1, 1) := by decide +kernel
theorem dX8_grain_112 : decode cX8_grain 112 = .ok (.invokevirtual 216, 3) := by decide +kernel
theorem dX8_grain_115 : decode cX8_grain 115 = .ok (.ireturn, 1) := by decide +kernel
theorem dX8_grain_116 : decode cX8_grain 116 = .ok (.aload_n 0, 1) := by decide +kernel
theorem dX8_grain_117 : decode cX8_grain 117 = .ok (.iload_n 1, 1) := by decide +kernel
theorem dX8_grain_118 : decode cX8_grain 118 = .ok (.invokevirtual 219, 3) := by decide +kernel
theorem dX8_grain_121 : decode cX8_grain 121 = .ok (.ireturn, 1) := by decide +kernel
theorem dX8_grain_122 : decode cX8_grain 122 = .ok (.aload_n 0, 1) := by decide +kernel
theorem dX8_grain_123 : decode cX8_grain 123 = .ok (.iload_n 1, 1) := by decide +kernel
theorem dX8_grain_124 : decode cX8_grain 124 = .ok (.iconst 2, 1) := by decide +kernel
theorem dX8_grain_125 : decode cX8_grain 125 = .ok (.invokevirtual 58, 3) := by decide +kernel
theorem dX8_grain_128 : decode cX8_grain 128 = .ok (.ireturn, 1) := by decide +kernel
theorem dX8_grain_129 : decode cX8_grain 129 = .ok (.iconst (-1), 1) := by decide +kernel
theorem dX8_grain_130 : decode cX8_grain 130 = .ok (.ireturn, 1) := by decide +kernel
set_option maxRecDepth 20000 in
theorem ggX8_screens_X8_isRim : GoodIn wsX8_screens wsX8_isRim := goodIn_r _ [4, 5, 6, 3, 7] (by decide +kernel) (by decide +kernel)
set_option maxRecDepth 20000 in
theorem gX8_screens_X8_isRim : GoodIn wsX8_screens (va_wsS RX8 114 yX8_isRim wsX8_isRim) := goodIn_app (goodIn_of _ (by decide +kernel)) ggX8_screens_X8_isRim
set_option maxRecDepth 20000 in
theorem ggX8_screens_X8_screening : GoodIn wsX8_screens wsX8_screening := goodIn_r _ [11, 12, 13, 3, 14, 15, 16, 17, 18, 19, 20, 21, 22, 23, 24, 25, 26, 27, 28, 29, 5, 6, 7, 30, 31, 32, 33, 34, 35, 36, 37, 38, 39, 40, 41, 42, 43, 44, 45, 46, 47, 48, 49, 50] (by decide +kernel) (by decide +kernel)
set_option maxRecDepth 20000 in
theorem gX8_screens_X8_screening : GoodIn wsX8_screens (wsV RX8 207 RX8 yX8_screening wsX8_screening) := goodIn_app (goodIn_of _ (by decide +kernel)) ggX8_screens_X8_screening
theorem dX8_screens_0 : decode cX8_screens 0 = .ok (.iload_n 1, 1) := by decide +kernel
theorem dX8_screens_1 : decode cX8_screens 1 = .ok (.invokestatic 114, 3) := by decide +kernel
theorem dX8_screens_4 : decode cX8_screens 4 = .ok (.ifCond .eq 11, 3) := by decide +kernel
theorem dX8_screens_7 : decode cX8_screens 7 = .ok (.aload_n 0, 1) := by decide +kernel
theorem dX8_screens_8 : decode cX8_screens 8 = .ok (.iload_n 1, 1) := by decide +kernel
theorem dX8_screens_9 : decode cX8_screens 9 = .ok (.invokevirtual 207, 3) := by decide +kernel
theorem dX8_screens_12 : decode cX8_screens 12 = .ok (.goto 4, 3) := by decide +kernel
theorem dX8_screens_15 : decode cX8_screens 15 = .ok (.iconst (-1), 1) := by decide +kernel
theorem dX8_screens_16 : decode cX8_screens 16 = .ok (.ireturn, 1) := by decide +kernel
set_option maxRecDepth 20000 in
theorem ggX8_ring_X8_in : GoodIn wsX8_ring wsX8_in := goodIn_r _ [5] (by decide +kernel) (by decide +kernel)
set_option maxRecDepth 20000 in
theorem gX8_ring_X8_in : GoodIn wsX8_ring (va_wsS RX8 47 yX8_in wsX8_in) := goodIn_app (goodIn_of _ (by decide +kernel)) ggX8_ring_X8_in
set_option maxRecDepth 20000 in
theorem ggX8_ring_X8_of : GoodIn wsX8_ring wsX8_of := goodIn_r _ [9, 1, 16, 17, 18, 19, 20, 21, 22, 23, 24, 25, 26, 27, 28, 29, 30, 31, 32, 33, 34, 35, 36] (by decide +kernel) (by decide +kernel)
set_option maxRecDepth 20000 in
theorem gX8_ring_X8_of : GoodIn wsX8_ring (wsV RX8 58 RX8 yX8_of wsX8_of) := goodIn_app (goodIn_of _ (by decide +kernel)) ggX8_ring_X8_of
set_option maxRecDepth 20000 in
theorem ggX8_ring_X8_ringOf : GoodIn wsX8_ring wsX8_ringOf := goodIn_r _ [12, 13, 14, 4, 15] (by decide +kernel) (by decide +kernel)
set_option maxRecDepth 20000 in
theorem gX8_ring_X8_ringOf : GoodIn wsX8_ring (va_wsS RX8 62 yX8_ringOf wsX8_ringOf) := goodIn_app (goodIn_of _ (by decide +kernel)) ggX8_ring_X8_ringOf
theorem dX8_ring_0 : decode cX8_ring 0 = .ok (.iload_n 1, 1) := by decide +kernel
theorem dX8_ring_1 : decode cX8_ring 1 = .ok (.iconst 0, 1) := by decide +kernel
theorem dX8_ring_2 : decode cX8_ring 2 = .ok (.iconst 5, 1) := by decide +kernel
theorem dX8_ring_3 : decode cX8_ring 3 = .ok (.invokestatic 47, 3) := by decide +kernel
theorem dX8_ring_6 : decode cX8_ring 6 = .ok (.ifCond .ne 5, 3) := by decide +kernel
theorem dX8_ring_9 : decode cX8_ring 9 = .ok (.iconst (-1), 1) := by decide +kernel
theorem dX8_ring_10 : decode cX8_ring 10 = .ok (.ireturn, 1) := by decide +kernel
theorem dX8_ring_11 : decode cX8_ring 11 = .ok (.iconst 0, 1) := by decide +kernel
theorem dX8_ring_12 : decode cX8_ring 12 = .ok (.istore_n 2, 1) := by decide +kernel
theorem dX8_ring_13 : decode cX8_ring 13 = .ok (.iconst 0, 1) := by decide +kernel
theorem dX8_ring_14 : decode cX8_ring 14 = .ok (.istore_n 3, 1) := by decide +kernel
theorem dX8_ring_15 : decode cX8_ring 15 = .ok (.iload_n 3, 1) := by decide +kernel
theorem dX8_ring_16 : decode cX8_ring 16 = .ok (.aload_n 0, 1) := by decide +kernel
theorem dX8_ring_17 : decode cX8_ring 17 = .ok (.getfield 7, 3) := by decide +kernel
theorem dX8_ring_20 : decode cX8_ring 20 = .ok (.iconst 0, 1) := by decide +kernel
theorem dX8_ring_21 : decode cX8_ring 21 = .ok (.iaload, 1) := by decide +kernel
theorem dX8_ring_22 : decode cX8_ring 22 = .ok (.if_icmp .ge 30, 3) := by decide +kernel
theorem dX8_ring_25 : decode cX8_ring 25 = .ok (.iload_n 2, 1) := by decide +kernel
theorem dX8_ring_26 : decode cX8_ring 26 = .ok (.aload_n 0, 1) := by decide +kernel
theorem dX8_ring_27 : decode cX8_ring 27 = .ok (.iload_n 3, 1) := by decide +kernel
theorem dX8_ring_28 : decode cX8_ring 28 = .ok (.iconst 0, 1) := by decide +kernel
theorem dX8_ring_29 : decode cX8_ring 29 = .ok (.invokevirtual 58, 3) := by decide +kernel
theorem dX8_ring_32 : decode cX8_ring 32 = .ok (.invokestatic 62, 3) := by decide +kernel
theorem dX8_ring_35 : decode cX8_ring 35 = .ok (.iload_n 1, 1) := by decide +kernel
theorem dX8_ring_36 : decode cX8_ring 36 = .ok (.if_icmp .ne 7, 3) := by decide +kernel
theorem dX8_ring_39 : decode cX8_ring 39 = .ok (.iconst 1, 1) := by decide +kernel
theorem dX8_ring_40 : decode cX8_ring 40 = .ok (.goto 4, 3) := by decide +kernel
theorem dX8_ring_43 : decode cX8_ring 43 = .ok (.iconst 0, 1) := by decide +kernel
theorem dX8_ring_44 : decode cX8_ring 44 = .ok (.iadd, 1) := by decide +kernel
theorem dX8_ring_45 : decode cX8_ring 45 = .ok (.istore_n 2, 1) := by decide +kernel
theorem dX8_ring_46 : decode cX8_ring 46 = .ok (.iinc 3 1, 3) := by decide +kernel
theorem dX8_ring_49 : decode cX8_ring 49 = .ok (.goto (-34), 3) := by decide +kernel
theorem dX8_ring_52 : decode cX8_ring 52 = .ok (.iload_n 2, 1) := by decide +kernel
theorem dX8_ring_53 : decode cX8_ring 53 = .ok (.ireturn, 1) := by decide +kernel
set_option maxRecDepth 20000 in
theorem ggX8_apart_X8_isGrain : GoodIn wsX8_apart wsX8_isGrain := goodIn_r _ [5, 6, 7, 8, 4, 9, 18, 19, 20, 21, 22, 23, 24, 25, 26, 27, 28, 29, 30, 31, 32, 33, 34, 35, 36, 37, 38] (by decide +kernel) (by decide +kernel)
set_option maxRecDepth 20000 in
theorem gX8_apart_X8_isGrain : GoodIn wsX8_apart (wsV RX8 117 RX8 yX8_isGrain wsX8_isGrain) := goodIn_app (goodIn_of _ (by decide +kernel)) ggX8_apart_X8_isGrain
set_option maxRecDepth 20000 in
theorem ggX8_apart_X8_holder : GoodIn wsX8_apart wsX8_holder := goodIn_r _ [13, 14, 15, 16, 4, 17, 6, 18, 19, 20, 21, 22, 23, 24, 25, 26, 27, 28, 29, 30, 31, 32, 33, 34, 35, 36, 37, 38] (by decide +kernel) (by decide +kernel)
set_option maxRecDepth 20000 in
theorem gX8_apart_X8_holder : GoodIn wsX8_apart (wsV RX8 105 RX8 yX8_holder wsX8_holder) := goodIn_app (goodIn_of _ (by decide +kernel)) ggX8_apart_X8_holder
theorem dX8_apart_0 : decode cX8_apart 0 = .ok (.aload_n 0, 1) := by decide +kernel
theorem dX8_apart_1 : decode cX8_apart 1 = .ok (.iload_n 1, 1) := by decide +kernel
theorem dX8_apart_2 : decode cX8_apart 2 = .ok (.invokevirtual 117, 3) := by decide +kernel
theorem dX8_apart_5 : decode cX8_apart 5 = .ok (.ifCond .eq 11, 3) := by decide +kernel
theorem dX8_apart_8 : decode cX8_apart 8 = .ok (.aload_n 0, 1) := by decide +kernel
theorem dX8_apart_9 : decode cX8_apart 9 = .ok (.iload_n 2, 1) := by decide +kernel
theorem dX8_apart_10 : decode cX8_apart 10 = .ok (.invokevirtual 117, 3) := by decide +kernel
theorem dX8_apart_13 : decode cX8_apart 13 = .ok (.ifCond .ne 5, 3) := by decide +kernel
theorem dX8_apart_16 : decode cX8_apart 16 = .ok (.iconst (-1), 1) := by decide +kernel
theorem dX8_apart_17 : decode cX8_apart 17 = .ok (.ireturn, 1) := by decide +kernel
theorem dX8_apart_18 : decode cX8_apart 18 = .ok (.iload_n 1, 1) := by decide +kernel
theorem dX8_apart_19 : decode cX8_apart 19 = .ok (.istore_n 3, 1) := by decide +kernel
theorem dX8_apart_20 : decode cX8_apart 20 = .ok (.iload_n 2, 1) := by decide +kernel
theorem dX8_apart_21 : decode cX8_apart 21 = .ok (.istore 4, 2) := by decide +kernel
theorem dX8_apart_23 : decode cX8_apart 23 = .ok (.iconst 0, 1) := by decide +kernel
theorem dX8_apart_24 : decode cX8_apart 24 = .ok (.istore 5, 2) := by decide +kernel
theorem dX8_apart_26 : decode cX8_apart 26 = .ok (.iload_n 3, 1) := by decide +kernel
theorem dX8_apart_27 : decode cX8_apart 27 = .ok (.iload 4, 2) := by decide +kernel
theorem dX8_apart_29 : decode cX8_apart 29 = .ok (.if_icmp .eq 41, 3) := by decide +kernel
theorem dX8_apart_32 : decode cX8_apart 32 = .ok (.iload_n 3, 1) := by decide +kernel
theorem dX8_apart_33 : decode cX8_apart 33 = .ok (.ifCond .lt 37, 3) := by decide +kernel
theorem dX8_apart_36 : decode cX8_apart 36 = .ok (.iload 4, 2) := by decide +kernel
theorem dX8_apart_38 : decode cX8_apart 38 = .ok (.ifCond .lt 32, 3) := by decide +kernel
theorem dX8_apart_41 : decode cX8_apart 41 = .ok (.iinc 5 1, 3) := by decide +kernel
theorem dX8_apart_44 : decode cX8_apart 44 = .ok (.iload_n 3, 1) := by decide +kernel
theorem dX8_apart_45 : decode cX8_apart 45 = .ok (.iload 4, 2) := by decide +kernel
theorem dX8_apart_47 : decode cX8_apart 47 = .ok (.if_icmp .le 12, 3) := by decide +kernel
theorem dX8_apart_50 : decode cX8_apart 50 = .ok (.aload_n 0, 1) := by decide +kernel
theorem dX8_apart_51 : decode cX8_apart 51 = .ok (.iload_n 3, 1) := by decide +kernel
theorem dX8_apart_52 : decode cX8_apart 52 = .ok (.invokevirtual 105, 3) := by decide +kernel
theorem dX8_apart_55 : decode cX8_apart 55 = .ok (.istore_n 3, 1) := by decide +kernel
theorem dX8_apart_56 : decode cX8_apart 56 = .ok (.goto (-30), 3) := by decide +kernel
theorem dX8_apart_59 : decode cX8_apart 59 = .ok (.aload_n 0, 1) := by decide +kernel
theorem dX8_apart_60 : decode cX8_apart 60 = .ok (.iload 4, 2) := by decide +kernel
theorem dX8_apart_62 : decode cX8_apart 62 = .ok (.invokevirtual 105, 3) := by decide +kernel
theorem dX8_apart_65 : decode cX8_apart 65 = .ok (.istore 4, 2) := by decide +kernel
theorem dX8_apart_67 : decode cX8_apart 67 = .ok (.goto (-41), 3) := by decide +kernel
theorem dX8_apart_70 : decode cX8_apart 70 = .ok (.iload_n 3, 1) := by decide +kernel
theorem dX8_apart_71 : decode cX8_apart 71 = .ok (.iload 4, 2) := by decide +kernel
theorem dX8_apart_73 : decode cX8_apart 73 = .ok (.if_icmp .ne 8, 3) := by decide +kernel
theorem dX8_apart_76 : decode cX8_apart 76 = .ok (.iload 5, 2) := by decide +kernel
theorem dX8_apart_78 : decode cX8_apart 78 = .ok (.goto 5, 3) := by decide +kernel
theorem dX8_apart_81 : decode cX8_apart 81 = .ok (.bipush (-4), 2) := by decide +kernel
theorem dX8_apart_83 : decode cX8_apart 83 = .ok (.ireturn, 1) := by decide +kernel
set_option maxRecDepth 20000 in
theorem ggX8_longest_X8_in : GoodIn wsX8_longest wsX8_in := goodIn_r _ [6] (by decide +kernel) (by decide +kernel)
set_option maxRecDepth 20000 in
theorem gX8_longest_X8_in : GoodIn wsX8_longest (va_wsS RX8 47 yX8_in wsX8_in) := goodIn_app (goodIn_of _ (by decide +kernel)) ggX8_longest_X8_in
set_option maxRecDepth 20000 in
theorem ggX8_longest_X8_holder : GoodIn wsX8_longest wsX8_holder := goodIn_r _ [10, 11, 12, 13, 5, 14, 1, 15, 16, 17, 18, 19, 20, 21, 22, 23, 24, 25, 26, 27, 28, 29, 30, 31, 32, 33, 34, 35] (by decide +kernel) (by decide +kernel)
set_option maxRecDepth 20000 in
theorem gX8_longest_X8_holder : GoodIn wsX8_longest (wsV RX8 105 RX8 yX8_holder wsX8_holder) := goodIn_app (goodIn_of _ (by decide +kernel)) ggX8_longest_X8_holder
theorem dX8_longest_0 : decode cX8_longest 0 = .ok (.iload_n 1, 1) := by decide +kernel
theorem dX8_longest_1 : decode cX8_longest 1 = .ok (.iconst 0, 1) := by decide +kernel
theorem dX8_longest_2 : decode cX8_longest 2 = .ok (.iconst 1, 1) := by decide +kernel
theorem dX8_longest_3 : decode cX8_longest 3 = .ok (.invokestatic 47, 3) := by decide +kernel
theorem dX8_longest_6 : decode cX8_longest 6 = .ok (.ifCond .ne 5, 3) := by decide +kernel
theorem dX8_longest_9 : decode cX8_longest 9 = .ok (.iconst (-1), 1) := by decide +kernel
theorem dX8_longest_10 : decode cX8_longest 10 = .ok (.ireturn, 1) := by decide +kernel
theorem dX8_longest_11 : decode cX8_longest 11 = .ok (.iconst 0, 1) := by decide +kernel
theorem dX8_longest_12 : decode cX8_longest 12 = .ok (.istore_n 2, 1) := by decide +kernel
theorem dX8_longest_13 : decode cX8_longest 13 = .ok (.iconst 0, 1) := by decide +kernel
theorem dX8_longest_14 : decode cX8_longest 14 = .ok (.istore_n 3, 1) := by decide +kernel
theorem dX8_longest_15 : decode cX8_longest 15 = .ok (.iload_n 3, 1) := by decide +kernel
theorem dX8_longest_16 : decode cX8_longest 16 = .ok (.aload_n 0, 1) := by decide +kernel
theorem dX8_longest_17 : decode cX8_longest 17 = .ok (.getfield 7, 3) := by decide +kernel
theorem dX8_longest_20 : decode cX8_longest 20 = .ok (.iconst 0, 1) := by decide +kernel
theorem dX8_longest_21 : decode cX8_longest 21 = .ok (.iaload, 1) := by decide +kernel
theorem dX8_longest_22 : decode cX8_longest 22 = .ok (.if_icmp .ge 16, 3) := by decide +kernel
theorem dX8_longest_25 : decode cX8_longest 25 = .ok (.aload_n 0, 1) := by decide +kernel
theorem dX8_longest_26 : decode cX8_longest 26 = .ok (.getfield 32, 3) := by decide +kernel
theorem dX8_longest_29 : decode cX8_longest 29 = .ok (.iload_n 3, 1) := by decide +kernel
theorem dX8_longest_30 : decode cX8_longest 30 = .ok (.iconst 0, 1) := by decide +kernel
theorem dX8_longest_31 : decode cX8_longest 31 = .ok (.iastore, 1) := by decide +kernel
theorem dX8_longest_32 : decode cX8_longest 32 = .ok (.iinc 3 1, 3) := by decide +kernel
theorem dX8_longest_35 : decode cX8_longest 35 = .ok (.goto (-20), 3) := by decide +kernel
theorem dX8_longest_38 : decode cX8_longest 38 = .ok (.aload_n 0, 1) := by decide +kernel
theorem dX8_longest_39 : decode cX8_longest 39 = .ok (.getfield 7, 3) := by decide +kernel
theorem dX8_longest_42 : decode cX8_longest 42 = .ok (.iconst 0, 1) := by decide +kernel
theorem dX8_longest_43 : decode cX8_longest 43 = .ok (.iaload, 1) := by decide +kernel
theorem dX8_longest_44 : decode cX8_longest 44 = .ok (.iconst 1, 1) := by decide +kernel
theorem dX8_longest_45 : decode cX8_longest 45 = .ok (.isub, 1) := by decide +kernel
theorem dX8_longest_46 : decode cX8_longest 46 = .ok (.istore_n 3, 1) := by decide +kernel
theorem dX8_longest_47 : decode cX8_longest 47 = .ok (.iload_n 3, 1) := by decide +kernel
theorem dX8_longest_48 : decode cX8_longest 48 = .ok (.ifCond .lt 86, 3) := by decide +kernel
theorem dX8_longest_51 : decode cX8_longest 51 = .ok (.aload_n 0, 1) := by decide +kernel
theorem dX8_longest_52 : decode cX8_longest 52 = .ok (.iload_n 3, 1) := by decide +kernel
theorem dX8_longest_53 : decode cX8_longest 53 = .ok (.invokevirtual 105, 3) := by decide +kernel
theorem dX8_longest_56 : decode cX8_longest 56 = .ok (.istore 4, 2) := by decide +kernel
theorem dX8_longest_58 : decode cX8_longest 58 = .ok (.aload_n 0, 1) := by decide +kernel
theorem dX8_longest_59 : decode cX8_longest 59 = .ok (.getfield 32, 3) := by decide +kernel
theorem dX8_longest_62 : decode cX8_longest 62 = .ok (.iload_n 3, 1) := by decide +kernel
theorem dX8_longest_63 : decode cX8_longest 63 = .ok (.iaload, 1) := by decide +kernel
theorem dX8_longest_64 : decode cX8_longest 64 = .ok (.iconst 1, 1) := by decide +kernel
theorem dX8_longest_65 : decode cX8_longest 65 = .ok (.iadd, 1) := by decide +kernel
theorem dX8_longest_66 : decode cX8_longest 66 = .ok (.istore 5, 2) := by decide +kernel
theorem dX8_longest_68 : decode cX8_longest 68 = .ok (.iload 4, 2) := by decide +kernel
theorem dX8_longest_70 : decode cX8_longest 70 = .ok (.ifCond .lt 30, 3) := by decide +kernel
theorem dX8_longest_73 : decode cX8_longest 73 = .ok (.aload_n 0, 1) := by decide +kernel
theorem dX8_longest_74 : decode cX8_longest 74 = .ok (.getfield 32, 3) := by decide +kernel
theorem dX8_longest_77 : decode cX8_longest 77 = .ok (.iload 4, 2) := by decide +kernel
theorem dX8_longest_79 : decode cX8_longest 79 = .ok (.iaload, 1) := by decide +kernel
theorem dX8_longest_80 : decode cX8_longest 80 = .ok (.iload 5, 2) := by decide +kernel
theorem dX8_longest_82 : decode cX8_longest 82 = .ok (.iadd, 1) := by decide +kernel
theorem dX8_longest_83 : decode cX8_longest 83 = .ok (.iload_n 2, 1) := by decide +kernel
theorem dX8_longest_84 : decode cX8_longest 84 = .ok (.if_icmp .le 16, 3) := by decide +kernel
theorem dX8_longest_87 : decode cX8_longest 87 = .ok (.aload_n 0, 1) := by decide +kernel
theorem dX8_longest_88 : decode cX8_longest 88 = .ok (.getfield 32, 3) := by decide +kernel
theorem dX8_longest_91 : decode cX8_longest 91 = .ok (.iload 4, 2) := by decide +kernel
theorem dX8_longest_93 : decode cX8_longest 93 = .ok (.iaload, 1) := by decide +kernel
theorem dX8_longest_94 : decode cX8_longest 94 = .ok (.iload 5, 2) := by decide +kernel
theorem dX8_longest_96 : decode cX8_longest 96 = .ok (.iadd, 1) := by decide +kernel
theorem dX8_longest_97 : decode cX8_longest 97 = .ok (.goto 4, 3) := by decide +kernel
theorem dX8_longest_100 : decode cX8_longest 100 = .ok (.iload_n 2, 1) := by decide +kernel
theorem dX8_longest_101 : decode cX8_longest 101 = .ok (.istore_n 2, 1) := by decide +kernel
theorem dX8_longest_102 : decode cX8_longest 102 = .ok (.iload 4, 2) := by decide +kernel
theorem dX8_longest_104 : decode cX8_longest 104 = .ok (.ifCond .lt 24, 3) := by decide +kernel
theorem dX8_longest_107 : decode cX8_longest 107 = .ok (.iload 5, 2) := by decide +kernel
theorem dX8_longest_109 : decode cX8_longest 109 = .ok (.aload_n 0, 1) := by decide +kernel
theorem dX8_longest_110 : decode cX8_longest 110 = .ok (.getfield 32, 3) := by decide +kernel
theorem dX8_longest_113 : decode cX8_longest 113 = .ok (.iload 4, 2) := by decide +kernel
theorem dX8_longest_115 : decode cX8_longest 115 = .ok (.iaload, 1) := by decide +kernel
theorem dX8_longest_116 : decode cX8_longest 116 = .ok (.if_icmp .le 12, 3) := by decide +kernel
theorem dX8_longest_119 : decode cX8_longest 119 = .ok (.aload_n 0, 1) := by decide +kernel
theorem dX8_longest_120 : decode cX8_longest 120 = .ok (.getfield 32, 3) := by decide +kernel
theorem dX8_longest_123 : decode cX8_longest 123 = .ok (.iload 4, 2) := by decide +kernel
theorem dX8_longest_125 : decode cX8_longest 125 = .ok (.iload 5, 2) := by decide +kernel
theorem dX8_longest_127 : decode cX8_longest 127 = .ok (.iastore, 1) := by decide +kernel
theorem dX8_longest_128 : decode cX8_longest 128 = .ok (.iinc 3 (-1), 3) := by decide +kernel
theorem dX8_longest_131 : decode cX8_longest 131 = .ok (.goto (-84), 3) := by decide +kernel
theorem dX8_longest_134 : decode cX8_longest 134 = .ok (.iload_n 2, 1) := by decide +kernel
theorem dX8_longest_135 : decode cX8_longest 135 = .ok (.ireturn, 1) := by decide +kernel
set_option maxRecDepth 20000 in
theorem ggX8_reachOf_X8_of : GoodIn wsX8_reachOf wsX8_of := goodIn_r _ [6, 1, 13, 14, 15, 16, 17, 18, 19, 20, 21, 22, 23, 24, 25, 26, 27, 28, 29, 30, 31, 32, 33] (by decide +kernel) (by decide +kernel)
set_option maxRecDepth 20000 in
theorem gX8_reachOf_X8_of : GoodIn wsX8_reachOf (wsV RX8 58 RX8 yX8_of wsX8_of) := goodIn_app (goodIn_of _ (by decide +kernel)) ggX8_reachOf_X8_of
set_option maxRecDepth 20000 in
theorem ggX8_reachOf_X8_ringOf : GoodIn wsX8_reachOf wsX8_ringOf := goodIn_r _ [9, 10, 11, 5, 12] (by decide +kernel) (by decide +kernel)
set_option maxRecDepth 20000 in
theorem gX8_reachOf_X8_ringOf : GoodIn wsX8_reachOf (va_wsS RX8 62 yX8_ringOf wsX8_ringOf) := goodIn_app (goodIn_of _ (by decide +kernel)) ggX8_reachOf_X8_ringOf
theorem dX8_reachOf_0 : decode cX8_reachOf 0 = .ok (.iconst 0, 1) := by decide +kernel
theorem dX8_reachOf_1 : decode cX8_reachOf 1 = .ok (.istore_n 1, 1) := by decide +kernel
theorem dX8_reachOf_2 : decode cX8_reachOf 2 = .ok (.iconst 0, 1) := by decide +kernel
theorem dX8_reachOf_3 : decode cX8_reachOf 3 = .ok (.istore_n 2, 1) := by decide +kernel
theorem dX8_reachOf_4 : decode cX8_reachOf 4 = .ok (.iload_n 2, 1) := by decide +kernel
theorem dX8_reachOf_5 : decode cX8_reachOf 5 = .ok (.aload_n 0, 1) := by decide +kernel
theorem dX8_reachOf_6 : decode cX8_reachOf 6 = .ok (.getfield 7, 3) := by decide +kernel
theorem dX8_reachOf_9 : decode cX8_reachOf 9 = .ok (.iconst 0, 1) := by decide +kernel
theorem dX8_reachOf_10 : decode cX8_reachOf 10 = .ok (.iaload, 1) := by decide +kernel
theorem dX8_reachOf_11 : decode cX8_reachOf 11 = .ok (.if_icmp .ge 36, 3) := by decide +kernel
theorem dX8_reachOf_14 : decode cX8_reachOf 14 = .ok (.aload_n 0, 1) := by decide +kernel
theorem dX8_reachOf_15 : decode cX8_reachOf 15 = .ok (.iload_n 2, 1) := by decide +kernel
theorem dX8_reachOf_16 : decode cX8_reachOf 16 = .ok (.iconst 0, 1) := by decide +kernel
theorem dX8_reachOf_17 : decode cX8_reachOf 17 = .ok (.invokevirtual 58, 3) := by decide +kernel
theorem dX8_reachOf_20 : decode cX8_reachOf 20 = .ok (.invokestatic 62, 3) := by decide +kernel
theorem dX8_reachOf_23 : decode cX8_reachOf 23 = .ok (.iload_n 1, 1) := by decide +kernel
theorem dX8_reachOf_24 : decode cX8_reachOf 24 = .ok (.if_icmp .le 15, 3) := by decide +kernel
theorem dX8_reachOf_27 : decode cX8_reachOf 27 = .ok (.aload_n 0, 1) := by decide +kernel
theorem dX8_reachOf_28 : decode cX8_reachOf 28 = .ok (.iload_n 2, 1) := by decide +kernel
theorem dX8_reachOf_29 : decode cX8_reachOf 29 = .ok (.iconst 0, 1) := by decide +kernel
theorem dX8_reachOf_30 : decode cX8_reachOf 30 = .ok (.invokevirtual 58, 3) := by decide +kernel
theorem dX8_reachOf_33 : decode cX8_reachOf 33 = .ok (.invokestatic 62, 3) := by decide +kernel
theorem dX8_reachOf_36 : decode cX8_reachOf 36 = .ok (.goto 4, 3) := by decide +kernel
theorem dX8_reachOf_39 : decode cX8_reachOf 39 = .ok (.iload_n 1, 1) := by decide +kernel
theorem dX8_reachOf_40 : decode cX8_reachOf 40 = .ok (.istore_n 1, 1) := by decide +kernel
theorem dX8_reachOf_41 : decode cX8_reachOf 41 = .ok (.iinc 2 1, 3) := by decide +kernel
theorem dX8_reachOf_44 : decode cX8_reachOf 44 = .ok (.goto (-40), 3) := by decide +kernel
theorem dX8_reachOf_47 : decode cX8_reachOf 47 = .ok (.iload_n 1, 1) := by decide +kernel
theorem dX8_reachOf_48 : decode cX8_reachOf 48 = .ok (.ireturn, 1) := by decide +kernel
set_option maxRecDepth 20000 in
theorem ggX8_deepest_X8_depthOf : GoodIn wsX8_deepest wsX8_depthOf := goodIn_r _ [6, 7, 8, 9, 5, 10, 11, 12, 13, 14, 1, 15, 16, 17, 18, 19, 20, 21, 22, 23, 24, 25, 26, 27, 28, 29, 30, 31, 32, 33, 34, 35] (by decide +kernel) (by decide +kernel)
set_option maxRecDepth 20000 in
theorem gX8_deepest_X8_depthOf : GoodIn wsX8_deepest (wsV RX8 201 RX8 yX8_depthOf wsX8_depthOf) := goodIn_app (goodIn_of _ (by decide +kernel)) ggX8_deepest_X8_depthOf
theorem dX8_deepest_0 : decode cX8_deepest 0 = .ok (.iconst 0, 1) := by decide +kernel
theorem dX8_deepest_1 : decode cX8_deepest 1 = .ok (.istore_n 1, 1) := by decide +kernel
theorem dX8_deepest_2 : decode cX8_deepest 2 = .ok (.iconst 0, 1) := by decide +kernel
theorem dX8_deepest_3 : decode cX8_deepest 3 = .ok (.istore_n 2, 1) := by decide +kernel
theorem dX8_deepest_4 : decode cX8_deepest 4 = .ok (.iload_n 2, 1) := by decide +kernel
theorem dX8_deepest_5 : decode cX8_deepest 5 = .ok (.aload_n 0, 1) := by decide +kernel
theorem dX8_deepest_6 : decode cX8_deepest 6 = .ok (.getfield 7, 3) := by decide +kernel
theorem dX8_deepest_9 : decode cX8_deepest 9 = .ok (.iconst 0, 1) := by decide +kernel
theorem dX8_deepest_10 : decode cX8_deepest 10 = .ok (.iaload, 1) := by decide +kernel
theorem dX8_deepest_11 : decode cX8_deepest 11 = .ok (.if_icmp .ge 28, 3) := by decide +kernel
theorem dX8_deepest_14 : decode cX8_deepest 14 = .ok (.aload_n 0, 1) := by decide +kernel
theorem dX8_deepest_15 : decode cX8_deepest 15 = .ok (.iload_n 2, 1) := by decide +kernel
theorem dX8_deepest_16 : decode cX8_deepest 16 = .ok (.invokevirtual 201, 3) := by decide +kernel
theorem dX8_deepest_19 : decode cX8_deepest 19 = .ok (.iload_n 1, 1) := by decide +kernel
theorem dX8_deepest_20 : decode cX8_deepest 20 = .ok (.if_icmp .le 11, 3) := by decide +kernel
theorem dX8_deepest_23 : decode cX8_deepest 23 = .ok (.aload_n 0, 1) := by decide +kernel
theorem dX8_deepest_24 : decode cX8_deepest 24 = .ok (.iload_n 2, 1) := by decide +kernel
theorem dX8_deepest_25 : decode cX8_deepest 25 = .ok (.invokevirtual 201, 3) := by decide +kernel
theorem dX8_deepest_28 : decode cX8_deepest 28 = .ok (.goto 4, 3) := by decide +kernel
theorem dX8_deepest_31 : decode cX8_deepest 31 = .ok (.iload_n 1, 1) := by decide +kernel
theorem dX8_deepest_32 : decode cX8_deepest 32 = .ok (.istore_n 1, 1) := by decide +kernel
theorem dX8_deepest_33 : decode cX8_deepest 33 = .ok (.iinc 2 1, 3) := by decide +kernel
theorem dX8_deepest_36 : decode cX8_deepest 36 = .ok (.goto (-32), 3) := by decide +kernel
theorem dX8_deepest_39 : decode cX8_deepest 39 = .ok (.iload_n 1, 1) := by decide +kernel
theorem dX8_deepest_40 : decode cX8_deepest 40 = .ok (.ireturn, 1) := by decide +kernel
set_option maxRecDepth 20000 in
theorem ggX8_ofKind_X8_holder : GoodIn wsX8_ofKind wsX8_holder := goodIn_r _ [6, 7, 8, 9, 5, 10, 1, 15, 16, 17, 18, 19, 20, 21, 22, 23, 24, 25, 26, 27, 28, 29, 30, 31, 32, 33, 34, 35] (by decide +kernel) (by decide +kernel)
set_option maxRecDepth 20000 in
theorem gX8_ofKind_X8_holder : GoodIn wsX8_ofKind (wsV RX8 105 RX8 yX8_holder wsX8_holder) := goodIn_app (goodIn_of _ (by decide +kernel)) ggX8_ofKind_X8_holder
set_option maxRecDepth 20000 in
theorem ggX8_ofKind_X8_children : GoodIn wsX8_ofKind wsX8_children := goodIn_r _ [14, 1, 2, 3, 4, 5, 6, 7, 8, 9, 10, 15, 16, 17, 18, 19, 20, 21, 22, 23, 24, 25, 26, 27, 28, 29, 30, 31, 32, 33, 34, 35] (by decide +kernel) (by decide +kernel)
set_option maxRecDepth 20000 in
theorem gX8_ofKind_X8_children : GoodIn wsX8_ofKind (wsV RX8 111 RX8 yX8_children wsX8_children) := goodIn_app (goodIn_of _ (by decide +kernel)) ggX8_ofKind_X8_children
theorem dX8_ofKind_0 : decode cX8_ofKind 0 = .ok (.iconst 0, 1) := by decide +kernel
theorem dX8_ofKind_1 : decode cX8_ofKind 1 = .ok (.istore_n 2, 1) := by decide +kernel
theorem dX8_ofKind_2 : decode cX8_ofKind 2 = .ok (.iconst 0, 1) := by decide +kernel
theorem dX8_ofKind_3 : decode cX8_ofKind 3 = .ok (.istore_n 3, 1) := by decide +kernel
theorem dX8_ofKind_4 : decode cX8_ofKind 4 = .ok (.iload_n 3, 1) := by decide +kernel
theorem dX8_ofKind_5 : decode cX8_ofKind 5 = .ok (.aload_n 0, 1) := by decide +kernel
theorem dX8_ofKind_6 : decode cX8_ofKind 6 = .ok (.getfield 7, 3) := by decide +kernel
theorem dX8_ofKind_9 : decode cX8_ofKind 9 = .ok (.iconst 0, 1) := by decide +kernel
theorem dX8_ofKind_10 : decode cX8_ofKind 10 = .ok (.iaload, 1) := by decide +kernel
theorem dX8_ofKind_11 : decode cX8_ofKind 11 = .ok (.if_icmp .ge 80, 3) := by decide +kernel
theorem dX8_ofKind_14 : decode cX8_ofKind 14 = .ok (.iload_n 1, 1) := by decide +kernel
theorem dX8_ofKind_15 : decode cX8_ofKind 15 = .ok (.iconst 1, 1) := by decide +kernel
theorem dX8_ofKind_16 : decode cX8_ofKind 16 = .ok (.if_icmp .ne 19, 3) := by decide +kernel
theorem dX8_ofKind_19 : decode cX8_ofKind 19 = .ok (.aload_n 0, 1) := by decide +kernel
theorem dX8_ofKind_20 : decode cX8_ofKind 20 = .ok (.iload_n 3, 1) := by decide +kernel
theorem dX8_ofKind_21 : decode cX8_ofKind 21 = .ok (.invokevirtual 105, 3) := by decide +kernel
theorem dX8_ofKind_24 : decode cX8_ofKind 24 = .ok (.ifCond .ge 7, 3) := by decide +kernel
theorem dX8_ofKind_27 : decode cX8_ofKind 27 = .ok (.iconst 1, 1) := by decide +kernel
theorem dX8_ofKind_28 : decode cX8_ofKind 28 = .ok (.goto 42, 3) := by decide +kernel
theorem dX8_ofKind_31 : decode cX8_ofKind 31 = .ok (.iconst 0, 1) := by decide +kernel
theorem dX8_ofKind_32 : decode cX8_ofKind 32 = .ok (.goto 38, 3) := by decide +kernel
theorem dX8_ofKind_35 : decode cX8_ofKind 35 = .ok (.iload_n 1, 1) := by decide +kernel
theorem dX8_ofKind_36 : decode cX8_ofKind 36 = .ok (.iconst 2, 1) := by decide +kernel
theorem dX8_ofKind_37 : decode cX8_ofKind 37 = .ok (.if_icmp .ne 19, 3) := by decide +kernel
theorem dX8_ofKind_40 : decode cX8_ofKind 40 = .ok (.aload_n 0, 1) := by decide +kernel
theorem dX8_ofKind_41 : decode cX8_ofKind 41 = .ok (.iload_n 3, 1) := by decide +kernel
theorem dX8_ofKind_42 : decode cX8_ofKind 42 = .ok (.invokevirtual 111, 3) := by decide +kernel
theorem dX8_ofKind_45 : decode cX8_ofKind 45 = .ok (.ifCond .ne 7, 3) := by decide +kernel
theorem dX8_ofKind_48 : decode cX8_ofKind 48 = .ok (.iconst 1, 1) := by decide +kernel
theorem dX8_ofKind_49 : decode cX8_ofKind 49 = .ok (.goto 21, 3) := by decide +kernel
theorem dX8_ofKind_52 : decode cX8_ofKind 52 = .ok (.iconst 0, 1) := by decide +kernel
theorem dX8_ofKind_53 : decode cX8_ofKind 53 = .ok (.goto 17, 3) := by decide +kernel
theorem dX8_ofKind_56 : decode cX8_ofKind 56 = .ok (.aload_n 0, 1) := by decide +kernel
theorem dX8_ofKind_57 : decode cX8_ofKind 57 = .ok (.iload_n 3, 1) := by decide +kernel
theorem dX8_ofKind_58 : decode cX8_ofKind 58 = .ok (.invokevirtual 111, 3) := by decide +kernel
theorem dX8_ofKind_61 : decode cX8_ofKind 61 = .ok (.iconst 1, 1) := by decide +kernel
theorem dX8_ofKind_62 : decode cX8_ofKind 62 = .ok (.if_icmp .le 7, 3) := by decide +kernel
theorem dX8_ofKind_65 : decode cX8_ofKind 65 = .ok (.iconst 1, 1) := by decide +kernel
theorem dX8_ofKind_66 : decode cX8_ofKind 66 = .ok (.goto 4, 3) := by decide +kernel
theorem dX8_ofKind_69 : decode cX8_ofKind 69 = .ok (.iconst 0, 1) := by decide +kernel
theorem dX8_ofKind_70 : decode cX8_ofKind 70 = .ok (.istore 4, 2) := by decide +kernel
theorem dX8_ofKind_72 : decode cX8_ofKind 72 = .ok (.iload_n 2, 1) := by decide +kernel
theorem dX8_ofKind_73 : decode cX8_ofKind 73 = .ok (.iload 4, 2) := by decide +kernel
theorem dX8_ofKind_75 : decode cX8_ofKind 75 = .ok (.ifCond .eq 7, 3) := by decide +kernel
theorem dX8_ofKind_78 : decode cX8_ofKind 78 = .ok (.iconst 1, 1) := by decide +kernel
theorem dX8_ofKind_79 : decode cX8_ofKind 79 = .ok (.goto 4, 3) := by decide +kernel
theorem dX8_ofKind_82 : decode cX8_ofKind 82 = .ok (.iconst 0, 1) := by decide +kernel
theorem dX8_ofKind_83 : decode cX8_ofKind 83 = .ok (.iadd, 1) := by decide +kernel
theorem dX8_ofKind_84 : decode cX8_ofKind 84 = .ok (.istore_n 2, 1) := by decide +kernel
theorem dX8_ofKind_85 : decode cX8_ofKind 85 = .ok (.iinc 3 1, 3) := by decide +kernel
theorem dX8_ofKind_88 : decode cX8_ofKind 88 = .ok (.goto (-84), 3) := by decide +kernel
theorem dX8_ofKind_91 : decode cX8_ofKind 91 = .ok (.iload_n 2, 1) := by decide +kernel
theorem dX8_ofKind_92 : decode cX8_ofKind 92 = .ok (.ireturn, 1) := by decide +kernel
set_option maxRecDepth 20000 in
theorem ggX8_shore_X8_grainAt : GoodIn wsX8_shore wsX8_grainAt := goodIn_r _ [5, 6, 7, 8, 9, 4, 10, 21, 22, 23, 24, 25, 26, 27, 28, 29, 30, 31, 32, 33, 34, 35, 36, 37, 38, 39, 40, 41] (by decide +kernel) (by decide +kernel)
set_option maxRecDepth 20000 in
theorem gX8_shore_X8_grainAt : GoodIn wsX8_shore (wsV RX8 72 RX8 yX8_grainAt wsX8_grainAt) := goodIn_app (goodIn_of _ (by decide +kernel)) ggX8_shore_X8_grainAt
set_option maxRecDepth 20000 in
theorem ggX8_shore_X8_besides : GoodIn wsX8_shore wsX8_besides := goodIn_r _ [14, 15, 16, 4, 17, 18, 19, 20, 1, 2, 3, 5, 6, 7, 8, 9, 10, 21, 22, 23, 24, 25, 26, 27, 28, 29, 30, 31, 32, 33, 34, 35, 36, 37, 38, 39, 40, 41] (by decide +kernel) (by decide +kernel)
set_option maxRecDepth 20000 in
theorem gX8_shore_X8_besides : GoodIn wsX8_shore (wsV RX8 191 RX8 yX8_besides wsX8_besides) := goodIn_app (goodIn_of _ (by decide +kernel)) ggX8_shore_X8_besides
theorem dX8_shore_0 : decode cX8_shore 0 = .ok (.iconst 0, 1) := by decide +kernel
theorem dX8_shore_1 : decode cX8_shore 1 = .ok (.istore_n 1, 1) := by decide +kernel
theorem dX8_shore_2 : decode cX8_shore 2 = .ok (.iconst 0, 1) := by decide +kernel
theorem dX8_shore_3 : decode cX8_shore 3 = .ok (.istore_n 2, 1) := by decide +kernel
theorem dX8_shore_4 : decode cX8_shore 4 = .ok (.iload_n 2, 1) := by decide +kernel
theorem dX8_shore_5 : decode cX8_shore 5 = .ok (.bipush 121, 2) := by decide +kernel
theorem dX8_shore_7 : decode cX8_shore 7 = .ok (.if_icmp .ge 33, 3) := by decide +kernel
theorem dX8_shore_10 : decode cX8_shore 10 = .ok (.iload_n 1, 1) := by decide +kernel
theorem dX8_shore_11 : decode cX8_shore 11 = .ok (.aload_n 0, 1) := by decide +kernel
theorem dX8_shore_12 : decode cX8_shore 12 = .ok (.iload_n 2, 1) := by decide +kernel
theorem dX8_shore_13 : decode cX8_shore 13 = .ok (.invokevirtual 72, 3) := by decide +kernel
theorem dX8_shore_16 : decode cX8_shore 16 = .ok (.ifCond .ge 15, 3) := by decide +kernel
theorem dX8_shore_19 : decode cX8_shore 19 = .ok (.aload_n 0, 1) := by decide +kernel
theorem dX8_shore_20 : decode cX8_shore 20 = .ok (.iload_n 2, 1) := by decide +kernel
theorem dX8_shore_21 : decode cX8_shore 21 = .ok (.invokevirtual 191, 3) := by decide +kernel
theorem dX8_shore_24 : decode cX8_shore 24 = .ok (.ifCond .le 7, 3) := by decide +kernel
theorem dX8_shore_27 : decode cX8_shore 27 = .ok (.iconst 1, 1) := by decide +kernel
theorem dX8_shore_28 : decode cX8_shore 28 = .ok (.goto 4, 3) := by decide +kernel
theorem dX8_shore_31 : decode cX8_shore 31 = .ok (.iconst 0, 1) := by decide +kernel
theorem dX8_shore_32 : decode cX8_shore 32 = .ok (.iadd, 1) := by decide +kernel
theorem dX8_shore_33 : decode cX8_shore 33 = .ok (.istore_n 1, 1) := by decide +kernel
theorem dX8_shore_34 : decode cX8_shore 34 = .ok (.iinc 2 1, 3) := by decide +kernel
theorem dX8_shore_37 : decode cX8_shore 37 = .ok (.goto (-33), 3) := by decide +kernel
theorem dX8_shore_40 : decode cX8_shore 40 = .ok (.iload_n 1, 1) := by decide +kernel
theorem dX8_shore_41 : decode cX8_shore 41 = .ok (.ireturn, 1) := by decide +kernel
set_option maxRecDepth 20000 in
theorem ggX8_bestCatch_X8_catchOf : GoodIn wsX8_bestCatch wsX8_catchOf := goodIn_r _ [6, 7, 8, 9, 5, 10, 11, 12, 13, 14, 15, 16, 17, 1, 18, 19, 20, 21, 22, 23, 24, 25, 26, 27, 28, 29, 30, 31, 32, 33, 34, 35, 36, 37, 38, 39, 40, 41, 42, 43, 44, 45, 46, 47, 48, 49, 50, 51] (by decide +kernel) (by decide +kernel)
set_option maxRecDepth 20000 in
theorem gX8_bestCatch_X8_catchOf : GoodIn wsX8_bestCatch (wsV RX8 216 RX8 yX8_catchOf wsX8_catchOf) := goodIn_app (goodIn_of _ (by decide +kernel)) ggX8_bestCatch_X8_catchOf
theorem dX8_bestCatch_0 : decode cX8_bestCatch 0 = .ok (.iconst 0, 1) := by decide +kernel
theorem dX8_bestCatch_1 : decode cX8_bestCatch 1 = .ok (.istore_n 1, 1) := by decide +kernel
theorem dX8_bestCatch_2 : decode cX8_bestCatch 2 = .ok (.iconst 1, 1) := by decide +kernel
theorem dX8_bestCatch_3 : decode cX8_bestCatch 3 = .ok (.istore_n 2, 1) := by decide +kernel
theorem dX8_bestCatch_4 : decode cX8_bestCatch 4 = .ok (.iload_n 2, 1) := by decide +kernel
theorem dX8_bestCatch_5 : decode cX8_bestCatch 5 = .ok (.aload_n 0, 1) := by decide +kernel
theorem dX8_bestCatch_6 : decode cX8_bestCatch 6 = .ok (.getfield 7, 3) := by decide +kernel
theorem dX8_bestCatch_9 : decode cX8_bestCatch 9 = .ok (.iconst 0, 1) := by decide +kernel
theorem dX8_bestCatch_10 : decode cX8_bestCatch 10 = .ok (.iaload, 1) := by decide +kernel
theorem dX8_bestCatch_11 : decode cX8_bestCatch 11 = .ok (.if_icmp .ge 28, 3) := by decide +kernel
theorem dX8_bestCatch_14 : decode cX8_bestCatch 14 = .ok (.aload_n 0, 1) := by decide +kernel
theorem dX8_bestCatch_15 : decode cX8_bestCatch 15 = .ok (.iload_n 2, 1) := by decide +kernel
theorem dX8_bestCatch_16 : decode cX8_bestCatch 16 = .ok (.invokevirtual 216, 3) := by decide +kernel
theorem dX8_bestCatch_19 : decode cX8_bestCatch 19 = .ok (.aload_n 0, 1) := by decide +kernel
theorem dX8_bestCatch_20 : decode cX8_bestCatch 20 = .ok (.iload_n 1, 1) := by decide +kernel
theorem dX8_bestCatch_21 : decode cX8_bestCatch 21 = .ok (.invokevirtual 216, 3) := by decide +kernel
theorem dX8_bestCatch_24 : decode cX8_bestCatch 24 = .ok (.if_icmp .le 7, 3) := by decide +kernel
theorem dX8_bestCatch_27 : decode cX8_bestCatch 27 = .ok (.iload_n 2, 1) := by decide +kernel
theorem dX8_bestCatch_28 : decode cX8_bestCatch 28 = .ok (.goto 4, 3) := by decide +kernel
theorem dX8_bestCatch_31 : decode cX8_bestCatch 31 = .ok (.iload_n 1, 1) := by decide +kernel
theorem dX8_bestCatch_32 : decode cX8_bestCatch 32 = .ok (.istore_n 1, 1) := by decide +kernel
theorem dX8_bestCatch_33 : decode cX8_bestCatch 33 = .ok (.iinc 2 1, 3) := by decide +kernel
theorem dX8_bestCatch_36 : decode cX8_bestCatch 36 = .ok (.goto (-32), 3) := by decide +kernel
theorem dX8_bestCatch_39 : decode cX8_bestCatch 39 = .ok (.iload_n 1, 1) := by decide +kernel
theorem dX8_bestCatch_40 : decode cX8_bestCatch 40 = .ok (.ireturn, 1) := by decide +kernel
set_option maxRecDepth 20000 in
theorem ggX8_count_X8_ofKind : GoodIn wsX8_count wsX8_ofKind := goodIn_r _ [8, 1, 9, 10, 11, 7, 12, 13, 14, 15, 16, 17, 18, 19, 20, 75, 76, 77, 78, 79, 80, 81, 82, 83, 84, 85, 86, 87, 88, 89, 90, 91, 92, 93, 94, 95] (by decide +kernel) (by decide +kernel)
set_option maxRecDepth 20000 in
theorem gX8_count_X8_ofKind : GoodIn wsX8_count (wsV RX8 222 RX8 yX8_ofKind wsX8_ofKind) := goodIn_app (goodIn_of _ (by decide +kernel)) ggX8_count_X8_ofKind
set_option maxRecDepth 20000 in
theorem ggX8_count_X8_deepest : GoodIn wsX8_count wsX8_deepest := goodIn_r _ [24, 1, 25, 26, 27, 7, 28, 9, 10, 11, 12, 13, 14, 15, 16, 75, 76, 77, 78, 79, 80, 81, 82, 83, 84, 85, 86, 87, 88, 89, 90, 91, 92, 93, 94, 95] (by decide +kernel) (by decide +kernel)
set_option maxRecDepth 20000 in
theorem gX8_count_X8_deepest : GoodIn wsX8_count (wsV RX8 225 RX8 yX8_deepest wsX8_deepest) := goodIn_app (goodIn_of _ (by decide +kernel)) ggX8_count_X8_deepest
set_option maxRecDepth 20000 in
theorem ggX8_count_X8_reachOf : GoodIn wsX8_count wsX8_reachOf := goodIn_r _ [32, 1, 13, 14, 15, 7, 16, 33, 34, 35, 36, 37, 38, 75, 76, 77, 78, 79, 80, 81, 82, 83, 84, 85, 86, 87, 88, 89, 90, 91, 92, 93, 94, 95] (by decide +kernel) (by decide +kernel)
set_option maxRecDepth 20000 in
theorem gX8_count_X8_reachOf : GoodIn wsX8_count (wsV RX8 228 RX8 yX8_reachOf wsX8_reachOf) := goodIn_app (goodIn_of _ (by decide +kernel)) ggX8_count_X8_reachOf
set_option maxRecDepth 20000 in
theorem ggX8_count_X8_shore : GoodIn wsX8_count wsX8_shore := goodIn_r _ [42, 43, 44, 45, 7, 46, 1, 13, 14, 15, 16, 47, 48, 49, 50, 51, 52, 53, 54, 55, 56, 75, 76, 77, 78, 79, 80, 81, 82, 83, 84, 85, 86, 87, 88, 89, 90, 91, 92, 93, 94, 95] (by decide +kernel) (by decide +kernel)
set_option maxRecDepth 20000 in
theorem gX8_count_X8_shore : GoodIn wsX8_count (wsV RX8 231 RX8 yX8_shore wsX8_shore) := goodIn_app (goodIn_of _ (by decide +kernel)) ggX8_count_X8_shore
set_option maxRecDepth 20000 in
theorem ggX8_count_X8_bestCatch : GoodIn wsX8_count wsX8_bestCatch := goodIn_r _ [60, 1, 61, 62, 63, 7, 64, 65, 66, 67, 68, 69, 70, 71, 43, 44, 45, 46, 13, 14, 15, 16, 72, 73, 74, 51, 52, 53, 54, 55, 56, 75, 76, 77, 78, 79, 80, 81, 82, 83, 84, 85, 86, 87, 88, 89, 90, 91, 92, 93, 94, 95] (by decide +kernel) (by decide +kernel)
set_option maxRecDepth 20000 in
theorem gX8_count_X8_bestCatch : GoodIn wsX8_count (wsV RX8 234 RX8 yX8_bestCatch wsX8_bestCatch) := goodIn_app (goodIn_of _ (by decide +kernel)) ggX8_count_X8_bestCatch
set_option maxRecDepth 20000 in
theorem ggX8_count_X8_catchOf : GoodIn wsX8_count wsX8_catchOf := goodIn_r _ [64, 65, 66, 67, 7, 68, 69, 70, 71, 43, 44, 45, 46, 1, 13, 14, 15, 16, 72, 73, 74, 51, 52, 53, 54, 55, 56, 75, 76, 77, 78, 79, 80, 81, 82, 83, 84, 85, 86, 87, 88, 89, 90, 91, 92, 93, 94, 95] (by decide +kernel) (by decide +kernel)
set_option maxRecDepth 20000 in
theorem gX8_count_X8_catchOf : GoodIn wsX8_count (wsV RX8 216 RX8 yX8_catchOf wsX8_catchOf) := goodIn_app (goodIn_of _ (by decide +kernel)) ggX8_count_X8_catchOf
theorem dX8_count_0 : decode cX8_count 0 = .ok (.iload_n 1, 1) := by decide +kernel
theorem dX8_count_1 : decode cX8_count 1 = .ok (.tableswitch 179 0 19 #[95, 102, 102, 102, 108, 113, 118, 123, 123, 123, 123, 136, 145, 150, 150, 150, 150, 162, 169, 174], 95) := by decide +kernel
theorem dX8_count_96 : decode cX8_count 96 = .ok (.aload_n 0, 1) := by decide +kernel
theorem dX8_count_97 : decode cX8_count 97 = .ok (.getfield 7, 3) := by decide +kernel
theorem dX8_count_100 : decode cX8_count 100 = .ok (.iconst 0, 1) := by decide +kernel
theorem dX8_count_101 : decode cX8_count 101 = .ok (.iaload, 1) := by decide +kernel
theorem dX8_count_102 : decode cX8_count 102 = .ok (.ireturn, 1) := by decide +kernel
theorem dX8_count_103 : decode cX8_count 103 = .ok (.aload_n 0, 1) := by decide +kernel
theorem dX8_count_104 : decode cX8_count 104 = .ok (.iload_n 1, 1) := by decide +kernel
theorem dX8_count_105 : decode cX8_count 105 = .ok (.invokevirtual 222, 3) := by decide +kernel
theorem dX8_count_108 : decode cX8_count 108 = .ok (.ireturn, 1) := by decide +kernel
theorem dX8_count_109 : decode cX8_count 109 = .ok (.aload_n 0, 1) := by decide +kernel
theorem dX8_count_110 : decode cX8_count 110 = .ok (.invokevirtual 225, 3) := by decide +kernel
theorem dX8_count_113 : decode cX8_count 113 = .ok (.ireturn, 1) := by decide +kernel
theorem dX8_count_114 : decode cX8_count 114 = .ok (.aload_n 0, 1) := by decide +kernel
theorem dX8_count_115 : decode cX8_count 115 = .ok (.invokevirtual 228, 3) := by decide +kernel
theorem dX8_count_118 : decode cX8_count 118 = .ok (.ireturn, 1) := by decide +kernel
theorem dX8_count_119 : decode cX8_count 119 = .ok (.aload_n 0, 1) := by decide +kernel
theorem dX8_count_120 : decode cX8_count 120 = .ok (.invokevirtual 231, 3) := by decide +kernel
theorem dX8_count_123 : decode cX8_count 123 = .ok (.ireturn, 1) := by decide +kernel
theorem dX8_count_124 : decode cX8_count 124 = .ok (.aload_n 0, 1) := by decide +kernel
theorem dX8_count_125 : decode cX8_count 125 = .ok (.getfield 7, 3) := by decide +kernel
theorem dX8_count_128 : decode cX8_count 128 = .ok (.bipush 6, 2) := by decide +kernel
theorem dX8_count_130 : decode cX8_count 130 = .ok (.iload_n 1, 1) := by decide +kernel
theorem dX8_count_131 : decode cX8_count 131 = .ok (.iadd, 1) := by decide +kernel
theorem dX8_count_132 : decode cX8_count 132 = .ok (.bipush 7, 2) := by decide +kernel
theorem dX8_count_134 : decode cX8_count 134 = .ok (.isub, 1) := by decide +kernel
theorem dX8_count_135 : decode cX8_count 135 = .ok (.iaload, 1) := by decide +kernel
theorem dX8_count_136 : decode cX8_count 136 = .ok (.ireturn, 1) := by decide +kernel
theorem dX8_count_137 : decode cX8_count 137 = .ok (.aload_n 0, 1) := by decide +kernel
theorem dX8_count_138 : decode cX8_count 138 = .ok (.aload_n 0, 1) := by decide +kernel
theorem dX8_count_139 : decode cX8_count 139 = .ok (.invokevirtual 234, 3) := by decide +kernel
theorem dX8_count_142 : decode cX8_count 142 = .ok (.invokevirtual 216, 3) := by decide +kernel
theorem dX8_count_145 : decode cX8_count 145 = .ok (.ireturn, 1) := by decide +kernel
theorem dX8_count_146 : decode cX8_count 146 = .ok (.aload_n 0, 1) := by decide +kernel
theorem dX8_count_147 : decode cX8_count 147 = .ok (.invokevirtual 234, 3) := by decide +kernel
theorem dX8_count_150 : decode cX8_count 150 = .ok (.ireturn, 1) := by decide +kernel
theorem dX8_count_151 : decode cX8_count 151 = .ok (.aload_n 0, 1) := by decide +kernel
theorem dX8_count_152 : decode cX8_count 152 = .ok (.getfield 7, 3) := by decide +kernel
theorem dX8_count_155 : decode cX8_count 155 = .ok (.iconst 2, 1) := by decide +kernel
theorem dX8_count_156 : decode cX8_count 156 = .ok (.iload_n 1, 1) := by decide +kernel
theorem dX8_count_157 : decode cX8_count 157 = .ok (.iadd, 1) := by decide +kernel
theorem dX8_count_158 : decode cX8_count 158 = .ok (.bipush 13, 2) := by decide +kernel
theorem dX8_count_160 : decode cX8_count 160 = .ok (.isub, 1) := by decide +kernel
theorem dX8_count_161 : decode cX8_count 161 = .ok (.iaload, 1) := by decide +kernel
theorem dX8_count_162 : decode cX8_count 162 = .ok (.ireturn, 1) := by decide +kernel
theorem dX8_count_163 : decode cX8_count 163 = .ok (.aload_n 0, 1) := by decide +kernel
theorem dX8_count_164 : decode cX8_count 164 = .ok (.getfield 7, 3) := by decide +kernel
theorem dX8_count_167 : decode cX8_count 167 = .ok (.iconst 1, 1) := by decide +kernel
theorem dX8_count_168 : decode cX8_count 168 = .ok (.iaload, 1) := by decide +kernel
theorem dX8_count_169 : decode cX8_count 169 = .ok (.ireturn, 1) := by decide +kernel
theorem dX8_count_170 : decode cX8_count 170 = .ok (.aload_n 0, 1) := by decide +kernel
theorem dX8_count_171 : decode cX8_count 171 = .ok (.getfield 144, 3) := by decide +kernel
theorem dX8_count_174 : decode cX8_count 174 = .ok (.ireturn, 1) := by decide +kernel
theorem dX8_count_175 : decode cX8_count 175 = .ok (.aload_n 0, 1) := by decide +kernel
theorem dX8_count_176 : decode cX8_count 176 = .ok (.getfield 39, 3) := by decide +kernel
theorem dX8_count_179 : decode cX8_count 179 = .ok (.ireturn, 1) := by decide +kernel
theorem dX8_count_180 : decode cX8_count 180 = .ok (.iconst (-1), 1) := by decide +kernel
theorem dX8_count_181 : decode cX8_count 181 = .ok (.ireturn, 1) := by decide +kernel
set_option maxRecDepth 20000 in
theorem ggX8_density_X8_reachOf : GoodIn wsX8_density wsX8_reachOf := goodIn_r _ [6, 1, 7, 8, 9, 5, 10, 11, 12, 13, 14, 15, 16, 17, 18, 19, 20, 21, 22, 23, 24, 25, 26, 27, 28, 29, 30, 31, 32, 33, 34, 35, 36, 37] (by decide +kernel) (by decide +kernel)
set_option maxRecDepth 20000 in
theorem gX8_density_X8_reachOf : GoodIn wsX8_density (wsV RX8 228 RX8 yX8_reachOf wsX8_reachOf) := goodIn_app (goodIn_of _ (by decide +kernel)) ggX8_density_X8_reachOf
theorem dX8_density_0 : decode cX8_density 0 = .ok (.iconst 2, 1) := by decide +kernel
theorem dX8_density_1 : decode cX8_density 1 = .ok (.aload_n 0, 1) := by decide +kernel
theorem dX8_density_2 : decode cX8_density 2 = .ok (.invokevirtual 228, 3) := by decide +kernel
theorem dX8_density_5 : decode cX8_density 5 = .ok (.imul, 1) := by decide +kernel
theorem dX8_density_6 : decode cX8_density 6 = .ok (.iconst 1, 1) := by decide +kernel
theorem dX8_density_7 : decode cX8_density 7 = .ok (.iadd, 1) := by decide +kernel
theorem dX8_density_8 : decode cX8_density 8 = .ok (.istore_n 1, 1) := by decide +kernel
theorem dX8_density_9 : decode cX8_density 9 = .ok (.aload_n 0, 1) := by decide +kernel
theorem dX8_density_10 : decode cX8_density 10 = .ok (.getfield 7, 3) := by decide +kernel
theorem dX8_density_13 : decode cX8_density 13 = .ok (.iconst 0, 1) := by decide +kernel
theorem dX8_density_14 : decode cX8_density 14 = .ok (.iaload, 1) := by decide +kernel
theorem dX8_density_15 : decode cX8_density 15 = .ok (.i2d, 1) := by decide +kernel
theorem dX8_density_16 : decode cX8_density 16 = .ok (.iload_n 1, 1) := by decide +kernel
theorem dX8_density_17 : decode cX8_density 17 = .ok (.iload_n 1, 1) := by decide +kernel
theorem dX8_density_18 : decode cX8_density 18 = .ok (.imul, 1) := by decide +kernel
theorem dX8_density_19 : decode cX8_density 19 = .ok (.i2d, 1) := by decide +kernel
theorem dX8_density_20 : decode cX8_density 20 = .ok (.ddiv, 1) := by decide +kernel
theorem dX8_density_21 : decode cX8_density 21 = .ok (.dreturn, 1) := by decide +kernel
set_option maxRecDepth 20000 in
theorem ggX8_ifGone_X8_isRim : GoodIn wsX8_ifGone wsX8_isRim := goodIn_r _ [8, 9, 10, 7, 11] (by decide +kernel) (by decide +kernel)
set_option maxRecDepth 20000 in
theorem gX8_ifGone_X8_isRim : GoodIn wsX8_ifGone (va_wsS RX8 114 yX8_isRim wsX8_isRim) := goodIn_app (goodIn_of _ (by decide +kernel)) ggX8_ifGone_X8_isRim
set_option maxRecDepth 20000 in
theorem ggX8_ifGone_X8_in : GoodIn wsX8_ifGone wsX8_in := goodIn_r _ [11] (by decide +kernel) (by decide +kernel)
set_option maxRecDepth 20000 in
theorem gX8_ifGone_X8_in : GoodIn wsX8_ifGone (va_wsS RX8 47 yX8_in wsX8_in) := goodIn_app (goodIn_of _ (by decide +kernel)) ggX8_ifGone_X8_in
set_option maxRecDepth 20000 in
theorem ggX8_ifGone_X8_isBlocked : GoodIn wsX8_ifGone wsX8_isBlocked := goodIn_r _ [15, 16, 17, 7, 18, 19, 20, 21, 22, 1, 23, 24, 25, 26, 46, 47, 48, 49, 50, 51, 52, 53, 54, 55, 56, 57, 58, 59, 60, 61, 62, 63, 64, 65, 66] (by decide +kernel) (by decide +kernel)
set_option maxRecDepth 20000 in
theorem gX8_ifGone_X8_isBlocked : GoodIn wsX8_ifGone (wsV RX8 99 RX8 yX8_isBlocked wsX8_isBlocked) := goodIn_app (goodIn_of _ (by decide +kernel)) ggX8_ifGone_X8_isBlocked
set_option maxRecDepth 20000 in
theorem ggX8_ifGone_X8_rimCell : GoodIn wsX8_ifGone wsX8_rimCell := goodIn_r _ [18] (by decide +kernel) (by decide +kernel)
set_option maxRecDepth 20000 in
theorem gX8_ifGone_X8_rimCell : GoodIn wsX8_ifGone (va_wsS RX8 55 yX8_rimCell wsX8_rimCell) := goodIn_app (goodIn_of _ (by decide +kernel)) ggX8_ifGone_X8_rimCell
set_option maxRecDepth 20000 in
theorem ggX8_ifGone_X8_walks : GoodIn wsX8_ifGone wsX8_walks := goodIn_r _ [30, 2, 4, 3, 1, 31, 32, 33, 7, 34, 35, 36, 37, 9, 10, 11, 19, 20, 21, 22, 23, 24, 25, 26, 38, 39, 40, 41, 42, 43, 44, 45, 46, 47, 48, 49, 50, 51, 52, 53, 54, 55, 56, 57, 58, 59, 60, 61, 62, 63, 64, 65, 66] (by decide +kernel) (by decide +kernel)
set_option maxRecDepth 20000 in
theorem gX8_ifGone_X8_walks : GoodIn wsX8_ifGone (wsV RX8 95 RX8 yX8_walks wsX8_walks) := goodIn_app (goodIn_of _ (by decide +kernel)) ggX8_ifGone_X8_walks
theorem dX8_ifGone_0 : decode cX8_ifGone 0 = .ok (.iload_n 1, 1) := by decide +kernel
theorem dX8_ifGone_1 : decode cX8_ifGone 1 = .ok (.invokestatic 114, 3) := by decide +kernel
theorem dX8_ifGone_4 : decode cX8_ifGone 4 = .ok (.ifCond .eq 12, 3) := by decide +kernel
theorem dX8_ifGone_7 : decode cX8_ifGone 7 = .ok (.iload_n 2, 1) := by decide +kernel
theorem dX8_ifGone_8 : decode cX8_ifGone 8 = .ok (.iconst 0, 1) := by decide +kernel
theorem dX8_ifGone_9 : decode cX8_ifGone 9 = .ok (.iconst 2, 1) := by decide +kernel
theorem dX8_ifGone_10 : decode cX8_ifGone 10 = .ok (.invokestatic 47, 3) := by decide +kernel
theorem dX8_ifGone_13 : decode cX8_ifGone 13 = .ok (.ifCond .ne 5, 3) := by decide +kernel
theorem dX8_ifGone_16 : decode cX8_ifGone 16 = .ok (.iconst (-1), 1) := by decide +kernel
theorem dX8_ifGone_17 : decode cX8_ifGone 17 = .ok (.ireturn, 1) := by decide +kernel
theorem dX8_ifGone_18 : decode cX8_ifGone 18 = .ok (.aload_n 0, 1) := by decide +kernel
theorem dX8_ifGone_19 : decode cX8_ifGone 19 = .ok (.iload_n 1, 1) := by decide +kernel
theorem dX8_ifGone_20 : decode cX8_ifGone 20 = .ok (.invokevirtual 99, 3) := by decide +kernel
theorem dX8_ifGone_23 : decode cX8_ifGone 23 = .ok (.ifCond .eq 6, 3) := by decide +kernel
theorem dX8_ifGone_26 : decode cX8_ifGone 26 = .ok (.bipush (-2), 2) := by decide +kernel
theorem dX8_ifGone_28 : decode cX8_ifGone 28 = .ok (.ireturn, 1) := by decide +kernel
theorem dX8_ifGone_29 : decode cX8_ifGone 29 = .ok (.aload_n 0, 1) := by decide +kernel
theorem dX8_ifGone_30 : decode cX8_ifGone 30 = .ok (.getfield 7, 3) := by decide +kernel
theorem dX8_ifGone_33 : decode cX8_ifGone 33 = .ok (.iconst 1, 1) := by decide +kernel
theorem dX8_ifGone_34 : decode cX8_ifGone 34 = .ok (.iaload, 1) := by decide +kernel
theorem dX8_ifGone_35 : decode cX8_ifGone 35 = .ok (.istore_n 3, 1) := by decide +kernel
theorem dX8_ifGone_36 : decode cX8_ifGone 36 = .ok (.aload_n 0, 1) := by decide +kernel
theorem dX8_ifGone_37 : decode cX8_ifGone 37 = .ok (.iload_n 1, 1) := by decide +kernel
theorem dX8_ifGone_38 : decode cX8_ifGone 38 = .ok (.invokestatic 55, 3) := by decide +kernel
theorem dX8_ifGone_41 : decode cX8_ifGone 41 = .ok (.invokevirtual 95, 3) := by decide +kernel
theorem dX8_ifGone_44 : decode cX8_ifGone 44 = .ok (.istore 4, 2) := by decide +kernel
theorem dX8_ifGone_46 : decode cX8_ifGone 46 = .ok (.aload_n 0, 1) := by decide +kernel
theorem dX8_ifGone_47 : decode cX8_ifGone 47 = .ok (.getfield 7, 3) := by decide +kernel
theorem dX8_ifGone_50 : decode cX8_ifGone 50 = .ok (.iconst 1, 1) := by decide +kernel
theorem dX8_ifGone_51 : decode cX8_ifGone 51 = .ok (.iload_n 3, 1) := by decide +kernel
theorem dX8_ifGone_52 : decode cX8_ifGone 52 = .ok (.iastore, 1) := by decide +kernel
theorem dX8_ifGone_53 : decode cX8_ifGone 53 = .ok (.iload_n 2, 1) := by decide +kernel
theorem dX8_ifGone_54 : decode cX8_ifGone 54 = .ok (.iconst 1, 1) := by decide +kernel
theorem dX8_ifGone_55 : decode cX8_ifGone 55 = .ok (.if_icmp .ne 10, 3) := by decide +kernel
theorem dX8_ifGone_58 : decode cX8_ifGone 58 = .ok (.aload_n 0, 1) := by decide +kernel
theorem dX8_ifGone_59 : decode cX8_ifGone 59 = .ok (.getfield 78, 3) := by decide +kernel
theorem dX8_ifGone_62 : decode cX8_ifGone 62 = .ok (.goto 35, 3) := by decide +kernel
theorem dX8_ifGone_65 : decode cX8_ifGone 65 = .ok (.iload_n 2, 1) := by decide +kernel
theorem dX8_ifGone_66 : decode cX8_ifGone 66 = .ok (.iconst 2, 1) := by decide +kernel
theorem dX8_ifGone_67 : decode cX8_ifGone 67 = .ok (.if_icmp .ne 10, 3) := by decide +kernel
theorem dX8_ifGone_70 : decode cX8_ifGone 70 = .ok (.aload_n 0, 1) := by decide +kernel
theorem dX8_ifGone_71 : decode cX8_ifGone 71 = .ok (.getfield 75, 3) := by decide +kernel
theorem dX8_ifGone_74 : decode cX8_ifGone 74 = .ok (.goto 23, 3) := by decide +kernel
theorem dX8_ifGone_77 : decode cX8_ifGone 77 = .ok (.iload 4, 2) := by decide +kernel
theorem dX8_ifGone_79 : decode cX8_ifGone 79 = .ok (.ifCond .eq 14, 3) := by decide +kernel
theorem dX8_ifGone_82 : decode cX8_ifGone 82 = .ok (.sipush 1000, 3) := by decide +kernel
theorem dX8_ifGone_85 : decode cX8_ifGone 85 = .ok (.aload_n 0, 1) := by decide +kernel
theorem dX8_ifGone_86 : decode cX8_ifGone 86 = .ok (.getfield 78, 3) := by decide +kernel
theorem dX8_ifGone_89 : decode cX8_ifGone 89 = .ok (.iadd, 1) := by decide +kernel
theorem dX8_ifGone_90 : decode cX8_ifGone 90 = .ok (.goto 7, 3) := by decide +kernel
theorem dX8_ifGone_93 : decode cX8_ifGone 93 = .ok (.aload_n 0, 1) := by decide +kernel
theorem dX8_ifGone_94 : decode cX8_ifGone 94 = .ok (.getfield 81, 3) := by decide +kernel
theorem dX8_ifGone_97 : decode cX8_ifGone 97 = .ok (.ireturn, 1) := by decide +kernel
set_option maxRecDepth 20000 in
theorem ggX8_unscreened_X8_screening : GoodIn wsX8_unscreened wsX8_screening := goodIn_r _ [5, 6, 7, 4, 8, 9, 10, 11, 12, 13, 14, 15, 16, 17, 18, 19, 20, 21, 22, 23, 24, 25, 26, 27, 28, 29, 30, 31, 32, 33, 34, 35, 36, 37, 38, 39, 40, 41, 42, 43, 44, 45, 46, 47] (by decide +kernel) (by decide +kernel)
set_option maxRecDepth 20000 in
theorem gX8_unscreened_X8_screening : GoodIn wsX8_unscreened (wsV RX8 207 RX8 yX8_screening wsX8_screening) := goodIn_app (goodIn_of _ (by decide +kernel)) ggX8_unscreened_X8_screening
theorem dX8_unscreened_0 : decode cX8_unscreened 0 = .ok (.iconst 0, 1) := by decide +kernel
theorem dX8_unscreened_1 : decode cX8_unscreened 1 = .ok (.istore_n 1, 1) := by decide +kernel
theorem dX8_unscreened_2 : decode cX8_unscreened 2 = .ok (.iconst 0, 1) := by decide +kernel
theorem dX8_unscreened_3 : decode cX8_unscreened 3 = .ok (.istore_n 2, 1) := by decide +kernel
theorem dX8_unscreened_4 : decode cX8_unscreened 4 = .ok (.iload_n 2, 1) := by decide +kernel
theorem dX8_unscreened_5 : decode cX8_unscreened 5 = .ok (.bipush 40, 2) := by decide +kernel
theorem dX8_unscreened_7 : decode cX8_unscreened 7 = .ok (.if_icmp .ge 25, 3) := by decide +kernel
theorem dX8_unscreened_10 : decode cX8_unscreened 10 = .ok (.iload_n 1, 1) := by decide +kernel
theorem dX8_unscreened_11 : decode cX8_unscreened 11 = .ok (.aload_n 0, 1) := by decide +kernel
theorem dX8_unscreened_12 : decode cX8_unscreened 12 = .ok (.iload_n 2, 1) := by decide +kernel
theorem dX8_unscreened_13 : decode cX8_unscreened 13 = .ok (.invokevirtual 207, 3) := by decide +kernel
theorem dX8_unscreened_16 : decode cX8_unscreened 16 = .ok (.ifCond .ge 7, 3) := by decide +kernel
theorem dX8_unscreened_19 : decode cX8_unscreened 19 = .ok (.iconst 1, 1) := by decide +kernel
theorem dX8_unscreened_20 : decode cX8_unscreened 20 = .ok (.goto 4, 3) := by decide +kernel
theorem dX8_unscreened_23 : decode cX8_unscreened 23 = .ok (.iconst 0, 1) := by decide +kernel
theorem dX8_unscreened_24 : decode cX8_unscreened 24 = .ok (.iadd, 1) := by decide +kernel
theorem dX8_unscreened_25 : decode cX8_unscreened 25 = .ok (.istore_n 1, 1) := by decide +kernel
theorem dX8_unscreened_26 : decode cX8_unscreened 26 = .ok (.iinc 2 1, 3) := by decide +kernel
theorem dX8_unscreened_29 : decode cX8_unscreened 29 = .ok (.goto (-25), 3) := by decide +kernel
theorem dX8_unscreened_32 : decode cX8_unscreened 32 = .ok (.iload_n 1, 1) := by decide +kernel
theorem dX8_unscreened_33 : decode cX8_unscreened 33 = .ok (.ireturn, 1) := by decide +kernel
set_option maxRecDepth 20000 in
theorem ggX8_ifBroken_X8_isGrain : GoodIn wsX8_ifBroken wsX8_isGrain := goodIn_r _ [7, 1, 8, 9, 6, 10, 75, 76, 77, 78, 79, 80, 81, 82, 83, 84, 85, 86, 87, 88, 89, 90, 91, 92, 93, 94, 95] (by decide +kernel) (by decide +kernel)
set_option maxRecDepth 20000 in
theorem gX8_ifBroken_X8_isGrain : GoodIn wsX8_ifBroken (wsV RX8 117 RX8 yX8_isGrain wsX8_isGrain) := goodIn_app (goodIn_of _ (by decide +kernel)) ggX8_ifBroken_X8_isGrain
set_option maxRecDepth 20000 in
theorem ggX8_ifBroken_X8_in : GoodIn wsX8_ifBroken wsX8_in := goodIn_r _ [10] (by decide +kernel) (by decide +kernel)
set_option maxRecDepth 20000 in
theorem gX8_ifBroken_X8_in : GoodIn wsX8_ifBroken (va_wsS RX8 47 yX8_in wsX8_in) := goodIn_app (goodIn_of _ (by decide +kernel)) ggX8_ifBroken_X8_in
set_option maxRecDepth 20000 in
theorem ggX8_ifBroken_X8_holder : GoodIn wsX8_ifBroken wsX8_holder := goodIn_r _ [14, 15, 16, 17, 6, 18, 1, 75, 76, 77, 78, 79, 80, 81, 82, 83, 84, 85, 86, 87, 88, 89, 90, 91, 92, 93, 94, 95] (by decide +kernel) (by decide +kernel)
set_option maxRecDepth 20000 in
theorem gX8_ifBroken_X8_holder : GoodIn wsX8_ifBroken (wsV RX8 105 RX8 yX8_holder wsX8_holder) := goodIn_app (goodIn_of _ (by decide +kernel)) ggX8_ifBroken_X8_holder
set_option maxRecDepth 20000 in
theorem ggX8_ifBroken_X8_copies : GoodIn wsX8_ifBroken wsX8_copies := goodIn_r _ [21] (by decide +kernel) (by decide +kernel)
set_option maxRecDepth 20000 in
theorem gX8_ifBroken_X8_copies : GoodIn wsX8_ifBroken (va_wsS RX8 43 yX8_copies wsX8_copies) := goodIn_app (goodIn_of _ (by decide +kernel)) ggX8_ifBroken_X8_copies
set_option maxRecDepth 20000 in
theorem ggX8_ifBroken_X8_goBreak : GoodIn wsX8_ifBroken wsX8_goBreak := goodIn_r _ [25, 1, 26, 11, 12, 13, 6, 14, 15, 16, 17, 18, 27, 28, 29, 30, 31, 32, 33, 34, 35, 75, 76, 77, 78, 79, 80, 81, 82, 83, 84, 85, 86, 87, 88, 89, 90, 91, 92, 93, 94, 95] (by decide +kernel) (by decide +kernel)
set_option maxRecDepth 20000 in
theorem gX8_ifBroken_X8_goBreak : GoodIn wsX8_ifBroken (wsV RX8 132 RX8 yX8_goBreak wsX8_goBreak) := goodIn_app (goodIn_of _ (by decide +kernel)) ggX8_ifBroken_X8_goBreak
set_option maxRecDepth 20000 in
theorem ggX8_ifBroken_X8_reachOf : GoodIn wsX8_ifBroken wsX8_reachOf := goodIn_r _ [39, 1, 15, 16, 17, 6, 18, 40, 41, 42, 43, 44, 45, 75, 76, 77, 78, 79, 80, 81, 82, 83, 84, 85, 86, 87, 88, 89, 90, 91, 92, 93, 94, 95] (by decide +kernel) (by decide +kernel)
set_option maxRecDepth 20000 in
theorem gX8_ifBroken_X8_reachOf : GoodIn wsX8_ifBroken (wsV RX8 228 RX8 yX8_reachOf wsX8_reachOf) := goodIn_app (goodIn_of _ (by decide +kernel)) ggX8_ifBroken_X8_reachOf
set_option maxRecDepth 20000 in
theorem ggX8_ifBroken_X8_deepest : GoodIn wsX8_ifBroken wsX8_deepest := goodIn_r _ [49, 1, 50, 51, 52, 6, 53, 11, 12, 13, 14, 15, 16, 17, 18, 75, 76, 77, 78, 79, 80, 81, 82, 83, 84, 85, 86, 87, 88, 89, 90, 91, 92, 93, 94, 95] (by decide +kernel) (by decide +kernel)
set_option maxRecDepth 20000 in
theorem gX8_ifBroken_X8_deepest : GoodIn wsX8_ifBroken (wsV RX8 225 RX8 yX8_deepest wsX8_deepest) := goodIn_app (goodIn_of _ (by decide +kernel)) ggX8_ifBroken_X8_deepest
set_option maxRecDepth 20000 in
theorem ggX8_ifBroken_X8_unscreened : GoodIn wsX8_ifBroken wsX8_unscreened := goodIn_r _ [57, 58, 59, 60, 6, 61, 62, 63, 64, 65, 66, 67, 68, 1, 15, 16, 17, 18, 69, 70, 71, 72, 73, 74, 8, 9, 10, 75, 76, 77, 78, 79, 80, 81, 82, 83, 84, 85, 86, 87, 88, 89, 90, 91, 92, 93, 94, 95] (by decide +kernel) (by decide +kernel)
set_option maxRecDepth 20000 in
theorem gX8_ifBroken_X8_unscreened : GoodIn wsX8_ifBroken (wsV RX8 237 RX8 yX8_unscreened wsX8_unscreened) := goodIn_app (goodIn_of _ (by decide +kernel)) ggX8_ifBroken_X8_unscreened
theorem dX8_ifBroken_0 : decode cX8_ifBroken 0 = .ok (.aload_n 0, 1) := by decide +kernel
theorem dX8_ifBroken_1 : decode cX8_ifBroken 1 = .ok (.iload_n 1, 1) := by decide +kernel
theorem dX8_ifBroken_2 : decode cX8_ifBroken 2 = .ok (.invokevirtual 117, 3) := by decide +kernel
theorem dX8_ifBroken_5 : decode cX8_ifBroken 5 = .ok (.ifCond .eq 12, 3) := by decide +kernel
theorem dX8_ifBroken_8 : decode cX8_ifBroken 8 = .ok (.iload_n 2, 1) := by decide +kernel
theorem dX8_ifBroken_9 : decode cX8_ifBroken 9 = .ok (.iconst 0, 1) := by decide +kernel
theorem dX8_ifBroken_10 : decode cX8_ifBroken 10 = .ok (.iconst 3, 1) := by decide +kernel
theorem dX8_ifBroken_11 : decode cX8_ifBroken 11 = .ok (.invokestatic 47, 3) := by decide +kernel
theorem dX8_ifBroken_14 : decode cX8_ifBroken 14 = .ok (.ifCond .ne 5, 3) := by decide +kernel
theorem dX8_ifBroken_17 : decode cX8_ifBroken 17 = .ok (.iconst (-1), 1) := by decide +kernel
theorem dX8_ifBroken_18 : decode cX8_ifBroken 18 = .ok (.ireturn, 1) := by decide +kernel
theorem dX8_ifBroken_19 : decode cX8_ifBroken 19 = .ok (.aload_n 0, 1) := by decide +kernel
theorem dX8_ifBroken_20 : decode cX8_ifBroken 20 = .ok (.iload_n 1, 1) := by decide +kernel
theorem dX8_ifBroken_21 : decode cX8_ifBroken 21 = .ok (.invokevirtual 105, 3) := by decide +kernel
theorem dX8_ifBroken_24 : decode cX8_ifBroken 24 = .ok (.ifCond .ge 6, 3) := by decide +kernel
theorem dX8_ifBroken_27 : decode cX8_ifBroken 27 = .ok (.bipush (-2), 2) := by decide +kernel
theorem dX8_ifBroken_29 : decode cX8_ifBroken 29 = .ok (.ireturn, 1) := by decide +kernel
theorem dX8_ifBroken_30 : decode cX8_ifBroken 30 = .ok (.aload_n 0, 1) := by decide +kernel
theorem dX8_ifBroken_31 : decode cX8_ifBroken 31 = .ok (.getfield 7, 3) := by decide +kernel
theorem dX8_ifBroken_34 : decode cX8_ifBroken 34 = .ok (.iconst 0, 1) := by decide +kernel
theorem dX8_ifBroken_35 : decode cX8_ifBroken 35 = .ok (.aload_n 0, 1) := by decide +kernel
theorem dX8_ifBroken_36 : decode cX8_ifBroken 36 = .ok (.getfield 13, 3) := by decide +kernel
theorem dX8_ifBroken_39 : decode cX8_ifBroken 39 = .ok (.iconst 0, 1) := by decide +kernel
theorem dX8_ifBroken_40 : decode cX8_ifBroken 40 = .ok (.invokestatic 43, 3) := by decide +kernel
theorem dX8_ifBroken_43 : decode cX8_ifBroken 43 = .ok (.aload_n 0, 1) := by decide +kernel
theorem dX8_ifBroken_44 : decode cX8_ifBroken 44 = .ok (.iload_n 1, 1) := by decide +kernel
theorem dX8_ifBroken_45 : decode cX8_ifBroken 45 = .ok (.invokevirtual 132, 3) := by decide +kernel
theorem dX8_ifBroken_48 : decode cX8_ifBroken 48 = .ok (.istore_n 3, 1) := by decide +kernel
theorem dX8_ifBroken_49 : decode cX8_ifBroken 49 = .ok (.iload_n 2, 1) := by decide +kernel
theorem dX8_ifBroken_50 : decode cX8_ifBroken 50 = .ok (.ifCond .ne 12, 3) := by decide +kernel
theorem dX8_ifBroken_53 : decode cX8_ifBroken 53 = .ok (.aload_n 0, 1) := by decide +kernel
theorem dX8_ifBroken_54 : decode cX8_ifBroken 54 = .ok (.getfield 7, 3) := by decide +kernel
theorem dX8_ifBroken_57 : decode cX8_ifBroken 57 = .ok (.iconst 0, 1) := by decide +kernel
theorem dX8_ifBroken_58 : decode cX8_ifBroken 58 = .ok (.iaload, 1) := by decide +kernel
theorem dX8_ifBroken_59 : decode cX8_ifBroken 59 = .ok (.goto 31, 3) := by decide +kernel
theorem dX8_ifBroken_62 : decode cX8_ifBroken 62 = .ok (.iload_n 2, 1) := by decide +kernel
theorem dX8_ifBroken_63 : decode cX8_ifBroken 63 = .ok (.iconst 1, 1) := by decide +kernel
theorem dX8_ifBroken_64 : decode cX8_ifBroken 64 = .ok (.if_icmp .ne 10, 3) := by decide +kernel
theorem dX8_ifBroken_67 : decode cX8_ifBroken 67 = .ok (.aload_n 0, 1) := by decide +kernel
theorem dX8_ifBroken_68 : decode cX8_ifBroken 68 = .ok (.invokevirtual 228, 3) := by decide +kernel
theorem dX8_ifBroken_71 : decode cX8_ifBroken 71 = .ok (.goto 19, 3) := by decide +kernel
theorem dX8_ifBroken_74 : decode cX8_ifBroken 74 = .ok (.iload_n 2, 1) := by decide +kernel
theorem dX8_ifBroken_75 : decode cX8_ifBroken 75 = .ok (.iconst 2, 1) := by decide +kernel
theorem dX8_ifBroken_76 : decode cX8_ifBroken 76 = .ok (.if_icmp .ne 10, 3) := by decide +kernel
theorem dX8_ifBroken_79 : decode cX8_ifBroken 79 = .ok (.aload_n 0, 1) := by decide +kernel
theorem dX8_ifBroken_80 : decode cX8_ifBroken 80 = .ok (.invokevirtual 225, 3) := by decide +kernel
theorem dX8_ifBroken_83 : decode cX8_ifBroken 83 = .ok (.goto 7, 3) := by decide +kernel
theorem dX8_ifBroken_86 : decode cX8_ifBroken 86 = .ok (.aload_n 0, 1) := by decide +kernel
theorem dX8_ifBroken_87 : decode cX8_ifBroken 87 = .ok (.invokevirtual 237, 3) := by decide +kernel
theorem dX8_ifBroken_90 : decode cX8_ifBroken 90 = .ok (.istore 4, 2) := by decide +kernel
theorem dX8_ifBroken_92 : decode cX8_ifBroken 92 = .ok (.aload_n 0, 1) := by decide +kernel
theorem dX8_ifBroken_93 : decode cX8_ifBroken 93 = .ok (.getfield 13, 3) := by decide +kernel
theorem dX8_ifBroken_96 : decode cX8_ifBroken 96 = .ok (.iconst 0, 1) := by decide +kernel
theorem dX8_ifBroken_97 : decode cX8_ifBroken 97 = .ok (.aload_n 0, 1) := by decide +kernel
theorem dX8_ifBroken_98 : decode cX8_ifBroken 98 = .ok (.getfield 7, 3) := by decide +kernel
theorem dX8_ifBroken_101 : decode cX8_ifBroken 101 = .ok (.iconst 0, 1) := by decide +kernel
theorem dX8_ifBroken_102 : decode cX8_ifBroken 102 = .ok (.invokestatic 43, 3) := by decide +kernel
theorem dX8_ifBroken_105 : decode cX8_ifBroken 105 = .ok (.iload 4, 2) := by decide +kernel
theorem dX8_ifBroken_107 : decode cX8_ifBroken 107 = .ok (.ireturn, 1) := by decide +kernel
set_option maxRecDepth 20000 in
theorem ggX8_undo_X8_copies : GoodIn wsX8_undo wsX8_copies := goodIn_r _ [7] (by decide +kernel) (by decide +kernel)
set_option maxRecDepth 20000 in
theorem gX8_undo_X8_copies : GoodIn wsX8_undo (va_wsS RX8 43 yX8_copies wsX8_copies) := goodIn_app (goodIn_of _ (by decide +kernel)) ggX8_undo_X8_copies
theorem dX8_undo_0 : decode cX8_undo 0 = .ok (.aload_n 0, 1) := by decide +kernel
theorem dX8_undo_1 : decode cX8_undo 1 = .ok (.getfield 39, 3) := by decide +kernel
theorem dX8_undo_4 : decode cX8_undo 4 = .ok (.ifCond .ne 6, 3) := by decide +kernel
theorem dX8_undo_7 : decode cX8_undo 7 = .ok (.bipush (-2), 2) := by decide +kernel
theorem dX8_undo_9 : decode cX8_undo 9 = .ok (.ireturn, 1) := by decide +kernel
theorem dX8_undo_10 : decode cX8_undo 10 = .ok (.aload_n 0, 1) := by decide +kernel
theorem dX8_undo_11 : decode cX8_undo 11 = .ok (.dup, 1) := by decide +kernel
theorem dX8_undo_12 : decode cX8_undo 12 = .ok (.getfield 39, 3) := by decide +kernel
theorem dX8_undo_15 : decode cX8_undo 15 = .ok (.iconst 1, 1) := by decide +kernel
theorem dX8_undo_16 : decode cX8_undo 16 = .ok (.isub, 1) := by decide +kernel
theorem dX8_undo_17 : decode cX8_undo 17 = .ok (.putfield 39, 3) := by decide +kernel
theorem dX8_undo_20 : decode cX8_undo 20 = .ok (.aload_n 0, 1) := by decide +kernel
theorem dX8_undo_21 : decode cX8_undo 21 = .ok (.getfield 16, 3) := by decide +kernel
theorem dX8_undo_24 : decode cX8_undo 24 = .ok (.sipush 373, 3) := by decide +kernel
theorem dX8_undo_27 : decode cX8_undo 27 = .ok (.aload_n 0, 1) := by decide +kernel
theorem dX8_undo_28 : decode cX8_undo 28 = .ok (.getfield 39, 3) := by decide +kernel
theorem dX8_undo_31 : decode cX8_undo 31 = .ok (.imul, 1) := by decide +kernel
theorem dX8_undo_32 : decode cX8_undo 32 = .ok (.aload_n 0, 1) := by decide +kernel
theorem dX8_undo_33 : decode cX8_undo 33 = .ok (.getfield 7, 3) := by decide +kernel
theorem dX8_undo_36 : decode cX8_undo 36 = .ok (.iconst 0, 1) := by decide +kernel
theorem dX8_undo_37 : decode cX8_undo 37 = .ok (.invokestatic 43, 3) := by decide +kernel
theorem dX8_undo_40 : decode cX8_undo 40 = .ok (.aload_n 0, 1) := by decide +kernel
theorem dX8_undo_41 : decode cX8_undo 41 = .ok (.getfield 39, 3) := by decide +kernel
theorem dX8_undo_44 : decode cX8_undo 44 = .ok (.ireturn, 1) := by decide +kernel
set_option maxRecDepth 20000 in
theorem ggX8_save_X8_copies : GoodIn wsX8_save wsX8_copies := goodIn_r _ [7] (by decide +kernel) (by decide +kernel)
set_option maxRecDepth 20000 in
theorem gX8_save_X8_copies : GoodIn wsX8_save (va_wsS RX8 43 yX8_copies wsX8_copies) := goodIn_app (goodIn_of _ (by decide +kernel)) ggX8_save_X8_copies
theorem dX8_save_0 : decode cX8_save 0 = .ok (.aload_n 0, 1) := by decide +kernel
theorem dX8_save_1 : decode cX8_save 1 = .ok (.getfield 7, 3) := by decide +kernel
theorem dX8_save_4 : decode cX8_save 4 = .ok (.iconst 0, 1) := by decide +kernel
theorem dX8_save_5 : decode cX8_save 5 = .ok (.aload_n 0, 1) := by decide +kernel
theorem dX8_save_6 : decode cX8_save 6 = .ok (.getfield 19, 3) := by decide +kernel
theorem dX8_save_9 : decode cX8_save 9 = .ok (.iconst 0, 1) := by decide +kernel
theorem dX8_save_10 : decode cX8_save 10 = .ok (.invokestatic 43, 3) := by decide +kernel
theorem dX8_save_13 : decode cX8_save 13 = .ok (.aload_n 0, 1) := by decide +kernel
theorem dX8_save_14 : decode cX8_save 14 = .ok (.iconst 1, 1) := by decide +kernel
theorem dX8_save_15 : decode cX8_save 15 = .ok (.putfield 240, 3) := by decide +kernel
theorem dX8_save_18 : decode cX8_save 18 = .ok (.aload_n 0, 1) := by decide +kernel
theorem dX8_save_19 : decode cX8_save 19 = .ok (.getfield 7, 3) := by decide +kernel
theorem dX8_save_22 : decode cX8_save 22 = .ok (.iconst 0, 1) := by decide +kernel
theorem dX8_save_23 : decode cX8_save 23 = .ok (.iaload, 1) := by decide +kernel
theorem dX8_save_24 : decode cX8_save 24 = .ok (.ireturn, 1) := by decide +kernel
set_option maxRecDepth 20000 in
theorem ggX8_restore_X8_records : GoodIn wsX8_restore wsX8_records := goodIn_r _ [8, 9, 10, 3, 11, 12, 7, 13, 14, 15, 16, 17, 18, 19, 20, 21, 22, 23, 24, 25, 26, 27, 28, 29, 30, 31, 32, 33, 34] (by decide +kernel) (by decide +kernel)
set_option maxRecDepth 20000 in
theorem gX8_restore_X8_records : GoodIn wsX8_restore (wsV RX8 120 RX8 yX8_records wsX8_records) := goodIn_app (goodIn_of _ (by decide +kernel)) ggX8_restore_X8_records
set_option maxRecDepth 20000 in
theorem ggX8_restore_X8_copies : GoodIn wsX8_restore wsX8_copies := goodIn_r _ [13] (by decide +kernel) (by decide +kernel)
set_option maxRecDepth 20000 in
theorem gX8_restore_X8_copies : GoodIn wsX8_restore (va_wsS RX8 43 yX8_copies wsX8_copies) := goodIn_app (goodIn_of _ (by decide +kernel)) ggX8_restore_X8_copies
theorem dX8_restore_0 : decode cX8_restore 0 = .ok (.aload_n 0, 1) := by decide +kernel
theorem dX8_restore_1 : decode cX8_restore 1 = .ok (.getfield 240, 3) := by decide +kernel
theorem dX8_restore_4 : decode cX8_restore 4 = .ok (.ifCond .ne 6, 3) := by decide +kernel
theorem dX8_restore_7 : decode cX8_restore 7 = .ok (.bipush (-2), 2) := by decide +kernel
theorem dX8_restore_9 : decode cX8_restore 9 = .ok (.ireturn, 1) := by decide +kernel
theorem dX8_restore_10 : decode cX8_restore 10 = .ok (.aload_n 0, 1) := by decide +kernel
theorem dX8_restore_11 : decode cX8_restore 11 = .ok (.invokevirtual 120, 3) := by decide +kernel
theorem dX8_restore_14 : decode cX8_restore 14 = .ok (.aload_n 0, 1) := by decide +kernel
theorem dX8_restore_15 : decode cX8_restore 15 = .ok (.getfield 19, 3) := by decide +kernel
theorem dX8_restore_18 : decode cX8_restore 18 = .ok (.iconst 0, 1) := by decide +kernel
theorem dX8_restore_19 : decode cX8_restore 19 = .ok (.aload_n 0, 1) := by decide +kernel
theorem dX8_restore_20 : decode cX8_restore 20 = .ok (.getfield 7, 3) := by decide +kernel
theorem dX8_restore_23 : decode cX8_restore 23 = .ok (.iconst 0, 1) := by decide +kernel
theorem dX8_restore_24 : decode cX8_restore 24 = .ok (.invokestatic 43, 3) := by decide +kernel
theorem dX8_restore_27 : decode cX8_restore 27 = .ok (.aload_n 0, 1) := by decide +kernel
theorem dX8_restore_28 : decode cX8_restore 28 = .ok (.getfield 7, 3) := by decide +kernel
theorem dX8_restore_31 : decode cX8_restore 31 = .ok (.iconst 0, 1) := by decide +kernel
theorem dX8_restore_32 : decode cX8_restore 32 = .ok (.iaload, 1) := by decide +kernel
theorem dX8_restore_33 : decode cX8_restore 33 = .ok (.ireturn, 1) := by decide +kernel
theorem dJ9_abs_0f7a4_0 : decode cJ9_abs_0f7a4 0 = .ok (.iload_n 0, 1) := by decide +kernel
theorem dJ9_abs_0f7a4_1 : decode cJ9_abs_0f7a4 1 = .ok (.ifCond .ge 8, 3) := by decide +kernel
theorem dJ9_abs_0f7a4_4 : decode cJ9_abs_0f7a4 4 = .ok (.iload_n 0, 1) := by decide +kernel
theorem dJ9_abs_0f7a4_5 : decode cJ9_abs_0f7a4 5 = .ok (.ineg, 1) := by decide +kernel
theorem dJ9_abs_0f7a4_6 : decode cJ9_abs_0f7a4 6 = .ok (.goto 4, 3) := by decide +kernel
theorem dJ9_abs_0f7a4_9 : decode cJ9_abs_0f7a4 9 = .ok (.iload_n 0, 1) := by decide +kernel
theorem dJ9_abs_0f7a4_10 : decode cJ9_abs_0f7a4 10 = .ok (.ireturn, 1) := by decide +kernel
theorem dJ9_max_7cf53_0 : decode cJ9_max_7cf53 0 = .ok (.iload_n 0, 1) := by decide +kernel
theorem dJ9_max_7cf53_1 : decode cJ9_max_7cf53 1 = .ok (.iload_n 1, 1) := by decide +kernel
theorem dJ9_max_7cf53_2 : decode cJ9_max_7cf53 2 = .ok (.if_icmp .lt 7, 3) := by decide +kernel
theorem dJ9_max_7cf53_5 : decode cJ9_max_7cf53 5 = .ok (.iload_n 0, 1) := by decide +kernel
theorem dJ9_max_7cf53_6 : decode cJ9_max_7cf53 6 = .ok (.goto 4, 3) := by decide +kernel
theorem dJ9_max_7cf53_9 : decode cJ9_max_7cf53 9 = .ok (.iload_n 1, 1) := by decide +kernel
theorem dJ9_max_7cf53_10 : decode cJ9_max_7cf53 10 = .ok (.ireturn, 1) := by decide +kernel
end
section
theorem dJ9_min_7cf53_0 : decode cJ9_min_7cf53 0 = .ok (.iload_n 0, 1) := by decide +kernel
theorem dJ9_min_7cf53_1 : decode cJ9_min_7cf53 1 = .ok (.iload_n 1, 1) := by decide +kernel
theorem dJ9_min_7cf53_2 : decode cJ9_min_7cf53 2 = .ok (.if_icmp .gt 7, 3) := by decide +kernel
theorem dJ9_min_7cf53_5 : decode cJ9_min_7cf53 5 = .ok (.iload_n 0, 1) := by decide +kernel
theorem dJ9_min_7cf53_6 : decode cJ9_min_7cf53 6 = .ok (.goto 4, 3) := by decide +kernel
theorem dJ9_min_7cf53_9 : decode cJ9_min_7cf53 9 = .ok (.iload_n 1, 1) := by decide +kernel
theorem dJ9_min_7cf53_10 : decode cJ9_min_7cf53 10 = .ok (.ireturn, 1) := by decide +kernel
set_option maxRecDepth 20000 in
theorem ggL_law_X7_init : GoodIn wsL_law wsX7_init := goodIn_r _ [8, 9, 10, 11, 12, 13, 14, 15, 16, 17, 18, 19, 20, 21, 22, 23, 24, 25, 26, 27, 28, 29, 30, 31, 32, 33, 34, 35, 36, 37, 38, 39, 40, 41, 42, 43, 44, 45, 46, 47, 48, 49, 50, 51, 52, 53, 54, 55, 56, 57, 58, 59, 60, 61, 62, 63, 64, 65, 66, 67, 68, 69, 70, 71, 72, 73, 74, 75, 76, 77, 78, 79, 80, 81, 82, 83, 84, 85, 86, 87, 88, 89, 90, 91, 92, 93, 94, 95, 96, 97, 98, 99, 100, 101, 102, 103, 104, 105, 106, 107, 108, 109, 110, 111, 112, 113, 114, 115, 116, 117, 118, 119, 120, 121, 122, 123, 839, 840, 841, 842, 843, 844, 845, 846, 847, 848, 849, 804, 805, 806, 807, 808, 809, 810, 811, 812, 813, 814, 815, 816, 817, 850, 851, 852, 853, 854, 855, 856, 857, 858, 859, 860, 861, 862, 863, 864, 865, 866, 867, 868, 869, 870, 871, 872] (by decide +kernel) (by decide +kernel)
set_option maxRecDepth 20000 in
theorem gL_law_X7_init : GoodIn wsL_law (wsX7_init) := ggL_law_X7_init
set_option maxRecDepth 20000 in
theorem ggL_law_X8_init : GoodIn wsL_law wsX8_init := goodIn_r _ [126, 127, 10, 11, 47, 128, 129, 130, 131, 132, 70, 133, 134, 135, 136, 137, 138, 5, 139, 140, 141, 142, 143, 144, 145, 146, 147, 148, 149, 818, 819, 820, 821, 822, 823, 824, 825, 826, 827, 828, 829, 830, 831, 832, 833, 834, 835, 836, 837, 838] (by decide +kernel) (by decide +kernel)
set_option maxRecDepth 20000 in
theorem gL_law_X8_init : GoodIn wsL_law (wsX8_init) := ggL_law_X8_init
set_option maxRecDepth 20000 in
theorem ggL_law_X7_begin : GoodIn wsL_law wsX7_begin := goodIn_r _ [153, 15, 154, 155, 156, 2, 157, 39, 18, 158, 159, 160, 161, 162, 163, 164, 14, 165, 48, 166, 167, 168, 169, 49, 50, 51, 52, 53, 54, 55, 56, 57, 58, 99, 100, 101, 102, 103, 104, 105, 106, 107, 108, 109, 110, 111, 112, 113, 114, 115, 116, 117, 118, 119, 120, 121, 122, 123, 804, 805, 806, 807, 808, 809, 810, 811, 812, 813, 814, 815, 816, 817, 839, 840, 841, 842, 843, 844, 845, 846, 847, 848, 849] (by decide +kernel) (by decide +kernel)
set_option maxRecDepth 20000 in
theorem gL_law_X7_begin : GoodIn wsL_law (wsV RL 13 RX7 yX7_begin wsX7_begin) := goodIn_app (goodIn_of _ (by decide +kernel)) ggL_law_X7_begin
set_option maxRecDepth 20000 in
theorem ggL_law_X8_begin : GoodIn wsL_law wsX8_begin := goodIn_r _ [173, 128, 174, 175, 5, 176, 177, 178, 179, 180, 181, 130, 182, 183, 184, 136, 137, 138, 139, 140, 141, 142, 143, 144, 145, 146, 147, 148, 149, 818, 819, 820, 821, 822, 823, 824, 825, 826, 827, 828, 829, 830, 831, 832, 833, 834, 835, 836, 837, 838] (by decide +kernel) (by decide +kernel)
set_option maxRecDepth 20000 in
theorem gL_law_X8_begin : GoodIn wsL_law (wsV RL 17 RX8 yX8_begin wsX8_begin) := goodIn_app (goodIn_of _ (by decide +kernel)) ggL_law_X8_begin
set_option maxRecDepth 20000 in
theorem ggL_law_X7_lot : GoodIn wsL_law wsX7_lot := goodIn_r _ [188, 15, 154, 155, 156, 2, 157, 39, 18, 158, 159, 160, 161, 162, 163, 164, 14, 165, 48, 166, 167, 168, 169, 49, 50, 51, 52, 53, 54, 55, 56, 57, 58, 804, 805, 806, 807, 808, 809, 810, 811, 812, 813, 814, 815, 816, 817, 839, 840, 841, 842, 843, 844, 845, 846, 847, 848, 849] (by decide +kernel) (by decide +kernel)
set_option maxRecDepth 20000 in
theorem gL_law_X7_lot : GoodIn wsL_law (wsV RL 18 RX7 yX7_lot wsX7_lot) := goodIn_app (goodIn_of _ (by decide +kernel)) ggL_law_X7_lot
set_option maxRecDepth 20000 in
theorem ggL_law_X8_lot : GoodIn wsL_law wsX8_lot := goodIn_r _ [192, 128, 174, 175, 5, 176, 177, 178, 179, 180, 181, 130, 182, 183, 184, 818, 819, 820, 821, 822, 823, 824, 825, 826, 827, 828, 829, 830, 831, 832, 833, 834, 835, 836, 837, 838] (by decide +kernel) (by decide +kernel)
set_option maxRecDepth 20000 in
theorem gL_law_X8_lot : GoodIn wsL_law (wsV RL 21 RX8 yX8_lot wsX8_lot) := goodIn_app (goodIn_of _ (by decide +kernel)) ggL_law_X8_lot
set_option maxRecDepth 20000 in
theorem ggL_law_X7_go : GoodIn wsL_law wsX7_go := goodIn_r _ [196, 15, 197, 198, 199, 14, 200, 201, 202, 108, 203, 204, 205, 206, 207, 208, 209, 210, 51, 154, 155, 156, 2, 157, 39, 18, 158, 159, 160, 161, 162, 163, 164, 165, 48, 166, 167, 168, 169, 49, 50, 52, 53, 54, 55, 56, 57, 58, 211, 212, 213, 214, 22, 215, 216, 217, 218, 21, 219, 62, 63, 64, 65, 66, 220, 221, 222, 223, 224, 225, 226, 227, 228, 229, 230, 231, 232, 233, 234, 235, 236, 237, 238, 239, 240, 241, 242, 243, 244, 245, 246, 247, 248, 249, 250, 251, 252, 253, 254, 117, 118, 119, 120, 121, 122, 123, 255, 256, 257, 258, 259, 804, 805, 806, 807, 808, 809, 810, 811, 812, 813, 814, 815, 816, 817, 839, 840, 841, 842, 843, 844, 845, 846, 847, 848, 849, 850, 851, 852, 853, 854] (by decide +kernel) (by decide +kernel)
set_option maxRecDepth 20000 in
theorem gL_law_X7_go : GoodIn wsL_law (wsV RL 22 RX7 yX7_go wsX7_go) := goodIn_app (goodIn_of _ (by decide +kernel)) ggL_law_X7_go
set_option maxRecDepth 20000 in
theorem ggL_law_X8_go : GoodIn wsL_law wsX8_go := goodIn_r _ [263, 264, 265, 266, 5, 267, 268, 269, 270, 174, 175, 176, 271, 272, 273, 274, 275, 276, 277, 278, 279, 280, 281, 128, 282, 283, 284, 285, 177, 178, 179, 180, 181, 130, 182, 183, 184, 286, 287, 288, 289, 290, 291, 292, 293, 294, 295, 296, 297, 298, 299, 300, 301, 302, 303, 304, 305, 306, 307, 308, 309, 310, 311, 146, 147, 148, 149, 818, 819, 820, 821, 822, 823, 824, 825, 826, 827, 828, 829, 830, 831, 832, 833, 834, 835, 836, 837, 838] (by decide +kernel) (by decide +kernel)
set_option maxRecDepth 20000 in
theorem gL_law_X8_go : GoodIn wsL_law (wsV RL 25 RX8 yX8_go wsX8_go) := goodIn_app (goodIn_of _ (by decide +kernel)) ggL_law_X8_go
set_option maxRecDepth 20000 in
theorem ggL_law_X7_rain : GoodIn wsL_law wsX7_rain := goodIn_r _ [315, 154, 155, 156, 2, 157, 39, 18, 15, 158, 159, 160, 161, 162, 163, 164, 14, 165, 48, 166, 167, 168, 169, 49, 50, 51, 52, 53, 54, 55, 56, 57, 58, 316, 317, 318, 319, 22, 320, 239, 240, 197, 198, 199, 200, 201, 202, 108, 203, 204, 205, 206, 207, 208, 209, 210, 321, 322, 323, 324, 211, 212, 213, 214, 215, 216, 217, 218, 21, 219, 62, 63, 64, 65, 66, 220, 221, 222, 223, 224, 225, 226, 227, 228, 229, 230, 231, 232, 233, 234, 235, 236, 237, 238, 241, 242, 243, 244, 245, 246, 247, 248, 249, 250, 251, 252, 253, 254, 117, 118, 119, 120, 121, 122, 123, 255, 256, 257, 258, 259, 325, 804, 805, 806, 807, 808, 809, 810, 811, 812, 813, 814, 815, 816, 817, 839, 840, 841, 842, 843, 844, 845, 846, 847, 848, 849, 850, 851, 852, 853, 854] (by decide +kernel) (by decide +kernel)
set_option maxRecDepth 20000 in
theorem gL_law_X7_rain : GoodIn wsL_law (wsV RL 26 RX7 yX7_rain wsX7_rain) := goodIn_app (goodIn_of _ (by decide +kernel)) ggL_law_X7_rain
set_option maxRecDepth 20000 in
theorem ggL_law_X8_rain : GoodIn wsL_law wsX8_rain := goodIn_r _ [329, 174, 175, 5, 176, 177, 178, 179, 180, 181, 130, 128, 182, 183, 184, 330, 331, 332, 333, 304, 305, 306, 307, 296, 271, 272, 273, 274, 275, 276, 277, 278, 279, 280, 281, 282, 283, 284, 285, 286, 287, 288, 289, 290, 291, 292, 293, 294, 295, 297, 298, 299, 300, 301, 302, 303, 308, 309, 310, 311, 146, 147, 148, 149, 818, 819, 820, 821, 822, 823, 824, 825, 826, 827, 828, 829, 830, 831, 832, 833, 834, 835, 836, 837, 838] (by decide +kernel) (by decide +kernel)
set_option maxRecDepth 20000 in
theorem gL_law_X8_rain : GoodIn wsL_law (wsV RL 29 RX8 yX8_rain wsX8_rain) := goodIn_app (goodIn_of _ (by decide +kernel)) ggL_law_X8_rain
set_option maxRecDepth 20000 in
theorem ggL_law_X7_breakOff : GoodIn wsL_law wsX7_breakOff := goodIn_r _ [337, 15, 26, 338, 339, 340, 14, 341, 342, 343, 344, 345, 53, 346, 347, 348, 349, 49, 154, 155, 156, 2, 157, 39, 18, 158, 159, 160, 161, 162, 163, 164, 165, 48, 166, 167, 168, 169, 50, 51, 52, 54, 55, 56, 57, 58, 350, 351, 352, 25, 353, 71, 72, 354, 355, 356, 357, 358, 804, 805, 806, 807, 808, 809, 810, 811, 812, 813, 814, 815, 816, 817, 839, 840, 841, 842, 843, 844, 845, 846, 847, 848, 849, 855, 856] (by decide +kernel) (by decide +kernel)
set_option maxRecDepth 20000 in
theorem gL_law_X7_breakOff : GoodIn wsL_law (wsV RL 30 RX7 yX7_breakOff wsX7_breakOff) := goodIn_app (goodIn_of _ (by decide +kernel)) ggL_law_X7_breakOff
set_option maxRecDepth 20000 in
theorem ggL_law_X8_breakOff : GoodIn wsL_law wsX8_breakOff := goodIn_r _ [362, 363, 364, 365, 5, 366, 367, 368, 369, 370, 128, 174, 175, 176, 371, 372, 373, 374, 282, 283, 284, 285, 177, 178, 179, 180, 181, 130, 182, 183, 184, 375, 376, 377, 378, 133, 379, 380, 381, 382, 134, 146, 147, 148, 149, 818, 819, 820, 821, 822, 823, 824, 825, 826, 827, 828, 829, 830, 831, 832, 833, 834, 835, 836, 837, 838] (by decide +kernel) (by decide +kernel)
set_option maxRecDepth 20000 in
theorem gL_law_X8_breakOff : GoodIn wsL_law (wsV RL 33 RX8 yX8_breakOff wsX8_breakOff) := goodIn_app (goodIn_of _ (by decide +kernel)) ggL_law_X8_breakOff
set_option maxRecDepth 20000 in
theorem ggL_law_X7_wash : GoodIn wsL_law wsX7_wash := goodIn_r _ [386, 26, 15, 154, 155, 156, 2, 157, 39, 18, 158, 159, 160, 161, 162, 163, 164, 14, 165, 48, 166, 167, 168, 169, 49, 50, 51, 52, 53, 54, 55, 56, 57, 58, 387, 388, 389, 25, 390, 71, 72, 354, 347, 348, 349, 342, 343, 344, 345, 355, 356, 357, 358, 804, 805, 806, 807, 808, 809, 810, 811, 812, 813, 814, 815, 816, 817, 839, 840, 841, 842, 843, 844, 845, 846, 847, 848, 849, 855, 856] (by decide +kernel) (by decide +kernel)
set_option maxRecDepth 20000 in
theorem gL_law_X7_wash : GoodIn wsL_law (wsV RL 34 RX7 yX7_wash wsX7_wash) := goodIn_app (goodIn_of _ (by decide +kernel)) ggL_law_X7_wash
set_option maxRecDepth 20000 in
theorem ggL_law_X8_wash : GoodIn wsL_law wsX8_wash := goodIn_r _ [394, 177, 178, 179, 5, 180, 181, 130, 128, 182, 183, 184, 395, 396, 397, 398, 133, 371, 372, 373, 374, 282, 283, 284, 285, 399, 400, 401, 402, 379, 380, 381, 382, 134, 146, 147, 148, 149, 818, 819, 820, 821, 822, 823, 824, 825, 826, 827, 828, 829, 830, 831, 832, 833, 834, 835, 836, 837, 838] (by decide +kernel) (by decide +kernel)
set_option maxRecDepth 20000 in
theorem gL_law_X8_wash : GoodIn wsL_law (wsV RL 38 RX8 yX8_wash wsX8_wash) := goodIn_app (goodIn_of _ (by decide +kernel)) ggL_law_X8_wash
set_option maxRecDepth 20000 in
theorem ggL_law_X7_set : GoodIn wsL_law wsX7_set := goodIn_r _ [406, 15, 407, 408, 2, 409, 154, 155, 156, 157, 39, 18, 158, 159, 160, 161, 162, 163, 164, 14, 165, 48, 166, 167, 168, 169, 49, 50, 51, 52, 53, 54, 55, 56, 57, 58, 410, 411, 412, 413, 414, 221, 222, 223, 804, 805, 806, 807, 808, 809, 810, 811, 812, 813, 814, 815, 816, 817, 839, 840, 841, 842, 843, 844, 845, 846, 847, 848, 849] (by decide +kernel) (by decide +kernel)
set_option maxRecDepth 20000 in
theorem gL_law_X7_set : GoodIn wsL_law (wsV RL 39 RX7 yX7_set wsX7_set) := goodIn_app (goodIn_of _ (by decide +kernel)) ggL_law_X7_set
set_option maxRecDepth 20000 in
theorem ggL_law_X8_set : GoodIn wsL_law wsX8_set := goodIn_r _ [418, 128, 174, 175, 5, 176, 419, 420, 421, 422, 423, 424, 177, 178, 179, 180, 181, 130, 182, 183, 184, 818, 819, 820, 821, 822, 823, 824, 825, 826, 827, 828, 829, 830, 831, 832, 833, 834, 835, 836, 837, 838] (by decide +kernel) (by decide +kernel)
set_option maxRecDepth 20000 in
theorem gL_law_X8_set : GoodIn wsL_law (wsV RL 43 RX8 yX8_set wsX8_set) := goodIn_app (goodIn_of _ (by decide +kernel)) ggL_law_X8_set
set_option maxRecDepth 20000 in
theorem ggL_law_X7_append : GoodIn wsL_law wsX7_append := goodIn_r _ [428, 38, 429, 430, 431, 37, 432, 94, 93, 804, 805, 806, 807, 808, 809, 810, 811, 812, 813, 814, 815, 816, 817, 867, 868, 869, 870, 871, 872] (by decide +kernel) (by decide +kernel)
set_option maxRecDepth 20000 in
theorem gL_law_X7_append : GoodIn wsL_law (wsV RL 44 RX7 yX7_append wsX7_append) := goodIn_app (goodIn_of _ (by decide +kernel)) ggL_law_X7_append
set_option maxRecDepth 20000 in
theorem ggL_law_X8_append : GoodIn wsL_law wsX8_append := goodIn_r _ [436, 437, 132, 174, 175, 5, 176, 818, 819, 820, 821, 822, 823, 824, 825, 826, 827, 828, 829, 830, 831, 832, 833, 834, 835, 836, 837, 838] (by decide +kernel) (by decide +kernel)
set_option maxRecDepth 20000 in
theorem gL_law_X8_append : GoodIn wsL_law (wsV RL 47 RX8 yX8_append wsX8_append) := goodIn_app (goodIn_of _ (by decide +kernel)) ggL_law_X8_append
set_option maxRecDepth 20000 in
theorem ggL_law_X7_clear : GoodIn wsL_law wsX7_clear := goodIn_r _ [441, 38, 442, 443, 444, 37, 445, 94, 804, 805, 806, 807, 808, 809, 810, 811, 812, 813, 814, 815, 816, 817, 867, 868, 869, 870, 871, 872] (by decide +kernel) (by decide +kernel)
set_option maxRecDepth 20000 in
theorem gL_law_X7_clear : GoodIn wsL_law (wsV RL 48 RX7 yX7_clear wsX7_clear) := goodIn_app (goodIn_of _ (by decide +kernel)) ggL_law_X7_clear
set_option maxRecDepth 20000 in
theorem ggL_law_X8_clear : GoodIn wsL_law wsX8_clear := goodIn_r _ [449, 437, 818, 819, 820, 821, 822, 823, 824, 825, 826, 827, 828, 829, 830, 831, 832, 833, 834, 835, 836, 837, 838] (by decide +kernel) (by decide +kernel)
set_option maxRecDepth 20000 in
theorem gL_law_X8_clear : GoodIn wsL_law (wsV RL 51 RX8 yX8_clear wsX8_clear) := goodIn_app (goodIn_of _ (by decide +kernel)) ggL_law_X8_clear
set_option maxRecDepth 20000 in
theorem ggL_law_X7_fault : GoodIn wsL_law wsX7_fault := goodIn_r _ [453, 38, 454, 455, 456, 37, 457, 94, 93, 458, 459, 460, 461, 462, 463, 464, 465, 466, 804, 805, 806, 807, 808, 809, 810, 811, 812, 813, 814, 815, 816, 817, 867, 868, 869, 870, 871, 872] (by decide +kernel) (by decide +kernel)
set_option maxRecDepth 20000 in
theorem gL_law_X7_fault : GoodIn wsL_law (wsV RL 52 RX7 yX7_fault wsX7_fault) := goodIn_app (goodIn_of _ (by decide +kernel)) ggL_law_X7_fault
set_option maxRecDepth 20000 in
theorem ggL_law_X8_fault : GoodIn wsL_law wsX8_fault := goodIn_r _ [470, 471, 472, 473, 474, 5, 475, 476, 437, 477, 478, 479, 480, 481, 482, 483, 484, 485, 132, 486, 487, 488, 489, 490, 491, 492, 493, 494, 174, 175, 176, 818, 819, 820, 821, 822, 823, 824, 825, 826, 827, 828, 829, 830, 831, 832, 833, 834, 835, 836, 837, 838] (by decide +kernel) (by decide +kernel)
set_option maxRecDepth 20000 in
theorem gL_law_X8_fault : GoodIn wsL_law (wsV RL 55 RX8 yX8_fault wsX8_fault) := goodIn_app (goodIn_of _ (by decide +kernel)) ggL_law_X8_fault
set_option maxRecDepth 20000 in
theorem ggL_law_X7_carryOut : GoodIn wsL_law wsX7_carryOut := goodIn_r _ [498, 38, 41, 42, 43, 454, 455, 456, 37, 457, 94, 93, 458, 459, 460, 461, 462, 463, 464, 465, 466, 154, 155, 156, 2, 157, 39, 18, 15, 158, 159, 160, 161, 162, 163, 164, 14, 165, 48, 166, 167, 168, 169, 49, 50, 51, 52, 53, 54, 55, 56, 57, 58, 499, 500, 501, 502, 95, 503, 504, 505, 506, 96, 97, 98, 507, 508, 509, 510, 26, 387, 388, 389, 25, 390, 71, 72, 354, 347, 348, 349, 342, 343, 344, 345, 355, 356, 357, 358, 197, 198, 199, 200, 201, 202, 108, 203, 204, 205, 206, 207, 208, 209, 210, 338, 339, 340, 341, 346, 211, 212, 213, 214, 22, 215, 216, 217, 218, 21, 219, 62, 63, 64, 65, 66, 220, 221, 222, 223, 224, 225, 226, 227, 228, 229, 230, 231, 232, 233, 234, 235, 236, 237, 238, 239, 240, 241, 242, 243, 244, 245, 246, 247, 248, 249, 250, 251, 252, 253, 254, 117, 118, 119, 120, 121, 122, 123, 255, 256, 257, 258, 259, 350, 351, 352, 353, 442, 443, 444, 445, 804, 805, 806, 807, 808, 809, 810, 811, 812, 813, 814, 815, 816, 817, 867, 868, 869, 870, 871, 872, 839, 840, 841, 842, 843, 844, 845, 846, 847, 848, 849, 855, 856, 850, 851, 852, 853, 854] (by decide +kernel) (by decide +kernel)
set_option maxRecDepth 20000 in
theorem gL_law_X7_carryOut : GoodIn wsL_law (wsV RL 56 RX7 yX7_carryOut wsX7_carryOut) := goodIn_app (goodIn_of _ (by decide +kernel)) ggL_law_X7_carryOut
set_option maxRecDepth 20000 in
theorem ggL_law_X8_carryOut : GoodIn wsL_law wsX8_carryOut := goodIn_r _ [514, 471, 515, 437, 516, 517, 472, 473, 474, 5, 475, 476, 477, 478, 479, 480, 481, 482, 483, 484, 485, 132, 486, 487, 488, 489, 490, 491, 492, 493, 494, 174, 175, 176, 177, 178, 179, 180, 181, 130, 128, 182, 183, 184, 518, 519, 520, 521, 264, 265, 266, 267, 268, 269, 270, 271, 272, 273, 274, 275, 276, 277, 278, 279, 280, 281, 282, 283, 284, 285, 363, 364, 365, 366, 367, 368, 369, 370, 371, 372, 373, 374, 286, 287, 288, 289, 290, 291, 292, 293, 294, 295, 296, 297, 298, 299, 300, 301, 302, 303, 304, 305, 306, 307, 308, 309, 310, 311, 146, 147, 148, 149, 375, 376, 377, 378, 133, 379, 380, 381, 382, 134, 395, 396, 397, 398, 399, 400, 401, 402, 818, 819, 820, 821, 822, 823, 824, 825, 826, 827, 828, 829, 830, 831, 832, 833, 834, 835, 836, 837, 838] (by decide +kernel) (by decide +kernel)
set_option maxRecDepth 20000 in
theorem gL_law_X8_carryOut : GoodIn wsL_law (wsV RL 59 RX8 yX8_carryOut wsX8_carryOut) := goodIn_app (goodIn_of _ (by decide +kernel)) ggL_law_X8_carryOut
set_option maxRecDepth 20000 in
theorem ggL_law_X7_why : GoodIn wsL_law wsX7_why := goodIn_r _ [525, 41, 42, 43, 804, 805, 806, 807, 808, 809, 810, 811, 812, 813, 814, 815, 816, 817] (by decide +kernel) (by decide +kernel)
set_option maxRecDepth 20000 in
theorem gL_law_X7_why : GoodIn wsL_law (wsV RL 60 RX7 yX7_why wsX7_why) := goodIn_app (goodIn_of _ (by decide +kernel)) ggL_law_X7_why
set_option maxRecDepth 20000 in
theorem ggL_law_X8_why : GoodIn wsL_law wsX8_why := goodIn_r _ [529, 515, 517, 516, 174, 175, 5, 176, 818, 819, 820, 821, 822, 823, 824, 825, 826, 827, 828, 829, 830, 831, 832, 833, 834, 835, 836, 837, 838] (by decide +kernel) (by decide +kernel)
set_option maxRecDepth 20000 in
theorem gL_law_X8_why : GoodIn wsL_law (wsV RL 63 RX8 yX8_why wsX8_why) := goodIn_app (goodIn_of _ (by decide +kernel)) ggL_law_X8_why
set_option maxRecDepth 20000 in
theorem ggL_law_X7_cell : GoodIn wsL_law wsX7_cell := goodIn_r _ [533, 15, 534, 122, 108, 123, 535, 208, 209, 14, 210, 51, 536, 107, 109, 110, 111, 112, 113, 114, 115, 116, 537, 538, 539, 540, 232, 233, 234, 207, 541, 542, 543, 804, 805, 806, 807, 808, 809, 810, 811, 812, 813, 814, 815, 816, 817, 839, 840, 841, 842, 843, 844, 845, 846, 847, 848, 849] (by decide +kernel) (by decide +kernel)
set_option maxRecDepth 20000 in
theorem gL_law_X7_cell : GoodIn wsL_law (wsV RL 64 RX7 yX7_cell wsX7_cell) := goodIn_app (goodIn_of _ (by decide +kernel)) ggL_law_X7_cell
set_option maxRecDepth 20000 in
theorem ggL_law_X8_cell : GoodIn wsL_law wsX8_cell := goodIn_r _ [547, 548, 549, 5, 550, 174, 175, 176, 278, 279, 280, 281, 128, 282, 283, 284, 285, 140, 141, 142, 143, 144, 145, 551, 552, 553, 554, 301, 302, 303, 555, 556, 557, 275, 276, 277, 818, 819, 820, 821, 822, 823, 824, 825, 826, 827, 828, 829, 830, 831, 832, 833, 834, 835, 836, 837, 838] (by decide +kernel) (by decide +kernel)
set_option maxRecDepth 20000 in
theorem gL_law_X8_cell : GoodIn wsL_law (wsV RL 67 RX8 yX8_cell wsX8_cell) := goodIn_app (goodIn_of _ (by decide +kernel)) ggL_law_X8_cell
set_option maxRecDepth 20000 in
theorem ggL_law_X7_grain : GoodIn wsL_law wsX7_grain := goodIn_r _ [561, 15, 30, 562, 343, 344, 14, 345, 53, 563, 564, 565, 29, 566, 82, 567, 347, 348, 349, 49, 342, 568, 569, 570, 571, 76, 77, 78, 79, 80, 81, 572, 573, 574, 575, 576, 577, 578, 579, 48, 580, 581, 582, 583, 2, 584, 34, 585, 586, 587, 33, 588, 87, 88, 86, 589, 590, 591, 592, 205, 108, 206, 593, 594, 595, 596, 208, 209, 210, 51, 597, 233, 234, 598, 599, 600, 601, 50, 804, 805, 806, 807, 808, 809, 810, 811, 812, 813, 814, 815, 816, 817, 857, 858, 859, 860, 861, 862, 863, 839, 840, 841, 842, 843, 844, 845, 846, 847, 848, 849, 864, 865, 866] (by decide +kernel) (by decide +kernel)
set_option maxRecDepth 20000 in
theorem gL_law_X7_grain : GoodIn wsL_law (wsV RL 68 RX7 yX7_grain wsX7_grain) := goodIn_app (goodIn_of _ (by decide +kernel)) ggL_law_X7_grain
set_option maxRecDepth 20000 in
theorem ggL_law_X8_grain : GoodIn wsL_law wsX8_grain := goodIn_r _ [605, 367, 368, 369, 5, 370, 128, 174, 175, 176, 282, 283, 284, 285, 371, 372, 373, 374, 606, 607, 608, 609, 399, 400, 401, 402, 610, 611, 612, 613, 614, 615, 616, 617, 618, 619, 620, 621, 622, 623, 624, 625, 626, 627, 628, 629, 275, 276, 277, 278, 279, 280, 281, 630, 631, 632, 301, 302, 303, 633, 634, 635, 636, 818, 819, 820, 821, 822, 823, 824, 825, 826, 827, 828, 829, 830, 831, 832, 833, 834, 835, 836, 837, 838] (by decide +kernel) (by decide +kernel)
set_option maxRecDepth 20000 in
theorem gL_law_X8_grain : GoodIn wsL_law (wsV RL 71 RX8 yX8_grain wsX8_grain) := goodIn_app (goodIn_of _ (by decide +kernel)) ggL_law_X8_grain
set_option maxRecDepth 20000 in
theorem ggL_law_X7_screens : GoodIn wsL_law wsX7_screens := goodIn_r _ [640, 15, 641, 202, 108, 203, 642, 590, 33, 591, 592, 205, 206, 593, 594, 595, 596, 208, 209, 14, 210, 51, 597, 233, 234, 804, 805, 806, 807, 808, 809, 810, 811, 812, 813, 814, 815, 816, 817, 839, 840, 841, 842, 843, 844, 845, 846, 847, 848, 849] (by decide +kernel) (by decide +kernel)
set_option maxRecDepth 20000 in
theorem gL_law_X7_screens : GoodIn wsL_law (wsV RL 72 RX7 yX7_screens wsX7_screens) := goodIn_app (goodIn_of _ (by decide +kernel)) ggL_law_X7_screens
set_option maxRecDepth 20000 in
theorem ggL_law_X8_screens : GoodIn wsL_law wsX8_screens := goodIn_r _ [646, 268, 269, 5, 270, 174, 175, 176, 626, 627, 628, 629, 275, 276, 277, 278, 279, 280, 281, 128, 282, 283, 284, 285, 630, 631, 632, 301, 302, 303, 818, 819, 820, 821, 822, 823, 824, 825, 826, 827, 828, 829, 830, 831, 832, 833, 834, 835, 836, 837, 838] (by decide +kernel) (by decide +kernel)
set_option maxRecDepth 20000 in
theorem gL_law_X8_screens : GoodIn wsL_law (wsV RL 75 RX8 yX8_screens wsX8_screens) := goodIn_app (goodIn_of _ (by decide +kernel)) ggL_law_X8_screens
set_option maxRecDepth 20000 in
theorem ggL_law_X7_ring : GoodIn wsL_law wsX7_ring := goodIn_r _ [650, 15, 576, 577, 578, 14, 579, 48, 342, 343, 344, 345, 53, 536, 107, 108, 109, 110, 111, 112, 113, 114, 115, 116, 804, 805, 806, 807, 808, 809, 810, 811, 812, 813, 814, 815, 816, 817, 839, 840, 841, 842, 843, 844, 845, 846, 847, 848, 849] (by decide +kernel) (by decide +kernel)
set_option maxRecDepth 20000 in
theorem gL_law_X7_ring : GoodIn wsL_law (wsV RL 76 RX7 yX7_ring wsX7_ring) := goodIn_app (goodIn_of _ (by decide +kernel)) ggL_law_X7_ring
set_option maxRecDepth 20000 in
theorem ggL_law_X8_ring : GoodIn wsL_law wsX8_ring := goodIn_r _ [654, 128, 174, 175, 5, 176, 282, 283, 284, 285, 140, 141, 142, 143, 144, 145, 818, 819, 820, 821, 822, 823, 824, 825, 826, 827, 828, 829, 830, 831, 832, 833, 834, 835, 836, 837, 838] (by decide +kernel) (by decide +kernel)
set_option maxRecDepth 20000 in
theorem gL_law_X8_ring : GoodIn wsL_law (wsV RL 79 RX8 yX8_ring wsX8_ring) := goodIn_app (goodIn_of _ (by decide +kernel)) ggL_law_X8_ring
set_option maxRecDepth 20000 in
theorem ggL_law_X7_apart : GoodIn wsL_law wsX7_apart := goodIn_r _ [658, 15, 562, 343, 344, 14, 345, 53, 659, 660, 661, 662, 663, 115, 112, 116, 664, 665, 666, 346, 347, 348, 349, 49, 342, 804, 805, 806, 807, 808, 809, 810, 811, 812, 813, 814, 815, 816, 817, 839, 840, 841, 842, 843, 844, 845, 846, 847, 848, 849] (by decide +kernel) (by decide +kernel)
set_option maxRecDepth 20000 in
theorem gL_law_X7_apart : GoodIn wsL_law (wsV RL 80 RX7 yX7_apart wsX7_apart) := goodIn_app (goodIn_of _ (by decide +kernel)) ggL_law_X7_apart
set_option maxRecDepth 20000 in
theorem ggL_law_X8_apart : GoodIn wsL_law wsX8_apart := goodIn_r _ [670, 367, 368, 369, 5, 370, 128, 174, 175, 176, 371, 372, 373, 374, 282, 283, 284, 285, 818, 819, 820, 821, 822, 823, 824, 825, 826, 827, 828, 829, 830, 831, 832, 833, 834, 835, 836, 837, 838] (by decide +kernel) (by decide +kernel)
set_option maxRecDepth 20000 in
theorem gL_law_X8_apart : GoodIn wsL_law (wsV RL 83 RX8 yX8_apart wsX8_apart) := goodIn_app (goodIn_of _ (by decide +kernel)) ggL_law_X8_apart
set_option maxRecDepth 20000 in
theorem ggL_law_X7_longest : GoodIn wsL_law wsX7_longest := goodIn_r _ [674, 15, 30, 675, 676, 677, 14, 678, 53, 663, 115, 112, 116, 679, 660, 661, 662, 664, 665, 666, 346, 347, 348, 349, 49, 342, 343, 344, 345, 563, 564, 565, 29, 566, 82, 567, 568, 569, 570, 571, 76, 77, 78, 79, 80, 81, 572, 573, 574, 575, 680, 681, 682, 683, 684, 804, 805, 806, 807, 808, 809, 810, 811, 812, 813, 814, 815, 816, 817, 839, 840, 841, 842, 843, 844, 845, 846, 847, 848, 849, 857, 858, 859, 860, 861, 862, 863] (by decide +kernel) (by decide +kernel)
set_option maxRecDepth 20000 in
theorem gL_law_X7_longest : GoodIn wsL_law (wsV RL 84 RX7 yX7_longest wsX7_longest) := goodIn_app (goodIn_of _ (by decide +kernel)) ggL_law_X7_longest
set_option maxRecDepth 20000 in
theorem ggL_law_X8_longest : GoodIn wsL_law wsX8_longest := goodIn_r _ [688, 128, 135, 174, 175, 5, 176, 371, 372, 373, 374, 282, 283, 284, 285, 818, 819, 820, 821, 822, 823, 824, 825, 826, 827, 828, 829, 830, 831, 832, 833, 834, 835, 836, 837, 838] (by decide +kernel) (by decide +kernel)
set_option maxRecDepth 20000 in
theorem gL_law_X8_longest : GoodIn wsL_law (wsV RL 87 RX8 yX8_longest wsX8_longest) := goodIn_app (goodIn_of _ (by decide +kernel)) ggL_law_X8_longest
set_option maxRecDepth 20000 in
theorem ggL_law_X7_count : GoodIn wsL_law wsX7_count := goodIn_r _ [692, 15, 38, 39, 693, 694, 695, 14, 696, 53, 48, 663, 115, 112, 116, 106, 107, 108, 109, 110, 111, 113, 114, 697, 698, 699, 700, 207, 208, 209, 210, 51, 701, 229, 230, 231, 232, 233, 234, 702, 703, 704, 2, 705, 34, 585, 586, 587, 33, 588, 87, 88, 86, 589, 590, 591, 592, 205, 206, 593, 594, 595, 596, 597, 706, 707, 708, 709, 581, 582, 583, 584, 710, 221, 222, 223, 52, 711, 712, 713, 714, 30, 563, 564, 565, 29, 566, 82, 567, 347, 348, 349, 49, 342, 343, 344, 345, 568, 569, 570, 571, 76, 77, 78, 79, 80, 81, 572, 573, 574, 575, 715, 716, 717, 718, 719, 720, 721, 722, 723, 724, 725, 726, 684, 804, 805, 806, 807, 808, 809, 810, 811, 812, 813, 814, 815, 816, 817, 839, 840, 841, 842, 843, 844, 845, 846, 847, 848, 849, 867, 868, 869, 870, 871, 872, 864, 865, 866, 857, 858, 859, 860, 861, 862, 863] (by decide +kernel) (by decide +kernel)
set_option maxRecDepth 20000 in
theorem gL_law_X7_count : GoodIn wsL_law (wsV RL 88 RX7 yX7_count wsX7_count) := goodIn_app (goodIn_of _ (by decide +kernel)) ggL_law_X7_count
set_option maxRecDepth 20000 in
theorem ggL_law_X8_count : GoodIn wsL_law wsX8_count := goodIn_r _ [730, 128, 437, 181, 731, 732, 733, 5, 734, 371, 372, 373, 374, 282, 283, 284, 285, 399, 400, 401, 402, 735, 736, 737, 738, 606, 607, 608, 609, 739, 740, 741, 742, 140, 141, 142, 143, 144, 145, 743, 744, 745, 746, 278, 279, 280, 281, 551, 552, 553, 554, 301, 302, 303, 174, 175, 176, 747, 748, 749, 750, 622, 623, 624, 625, 626, 627, 628, 629, 275, 276, 277, 630, 631, 632, 818, 819, 820, 821, 822, 823, 824, 825, 826, 827, 828, 829, 830, 831, 832, 833, 834, 835, 836, 837, 838] (by decide +kernel) (by decide +kernel)
set_option maxRecDepth 20000 in
theorem gL_law_X8_count : GoodIn wsL_law (wsV RL 91 RX8 yX8_count wsX8_count) := goodIn_app (goodIn_of _ (by decide +kernel)) ggL_law_X8_count
set_option maxRecDepth 20000 in
theorem ggL_law_X7_density : GoodIn wsL_law wsX7_density := goodIn_r _ [754, 15, 693, 694, 695, 14, 696, 53, 48, 663, 115, 112, 116, 106, 107, 108, 109, 110, 111, 113, 114, 804, 805, 806, 807, 808, 809, 810, 811, 812, 813, 814, 815, 816, 817, 839, 840, 841, 842, 843, 844, 845, 846, 847, 848, 849] (by decide +kernel) (by decide +kernel)
set_option maxRecDepth 20000 in
theorem gL_law_X7_density : GoodIn wsL_law (wsV RL 92 RX7 yX7_density wsX7_density) := goodIn_app (goodIn_of _ (by decide +kernel)) ggL_law_X7_density
set_option maxRecDepth 20000 in
theorem ggL_law_X8_density : GoodIn wsL_law wsX8_density := goodIn_r _ [758, 128, 739, 740, 741, 5, 742, 282, 283, 284, 285, 140, 141, 142, 143, 144, 145, 818, 819, 820, 821, 822, 823, 824, 825, 826, 827, 828, 829, 830, 831, 832, 833, 834, 835, 836, 837, 838] (by decide +kernel) (by decide +kernel)
set_option maxRecDepth 20000 in
theorem gL_law_X8_density : GoodIn wsL_law (wsV RL 96 RX8 yX8_density wsX8_density) := goodIn_app (goodIn_of _ (by decide +kernel)) ggL_law_X8_density
set_option maxRecDepth 20000 in
theorem ggL_law_X7_ifGone : GoodIn wsL_law wsX7_ifGone := goodIn_r _ [762, 15, 22, 197, 198, 199, 14, 200, 201, 202, 108, 203, 204, 205, 206, 207, 208, 209, 210, 51, 215, 216, 217, 218, 21, 219, 62, 63, 64, 65, 66, 220, 221, 222, 223, 52, 224, 225, 226, 227, 228, 229, 230, 231, 232, 233, 234, 235, 236, 237, 238, 239, 2, 240, 241, 242, 243, 244, 245, 246, 255, 256, 257, 258, 259, 252, 253, 254, 804, 805, 806, 807, 808, 809, 810, 811, 812, 813, 814, 815, 816, 817, 850, 851, 852, 853, 854, 839, 840, 841, 842, 843, 844, 845, 846, 847, 848, 849] (by decide +kernel) (by decide +kernel)
set_option maxRecDepth 20000 in
theorem gL_law_X7_ifGone : GoodIn wsL_law (wsV RL 97 RX7 yX7_ifGone wsX7_ifGone) := goodIn_app (goodIn_of _ (by decide +kernel)) ggL_law_X7_ifGone
set_option maxRecDepth 20000 in
theorem ggL_law_X8_ifGone : GoodIn wsL_law wsX8_ifGone := goodIn_r _ [766, 128, 291, 296, 290, 268, 269, 5, 270, 174, 175, 176, 271, 272, 273, 274, 275, 276, 277, 278, 279, 280, 281, 282, 283, 284, 285, 292, 293, 294, 295, 297, 298, 299, 300, 301, 302, 303, 304, 305, 306, 307, 308, 309, 310, 311, 818, 819, 820, 821, 822, 823, 824, 825, 826, 827, 828, 829, 830, 831, 832, 833, 834, 835, 836, 837, 838] (by decide +kernel) (by decide +kernel)
set_option maxRecDepth 20000 in
theorem gL_law_X8_ifGone : GoodIn wsL_law (wsV RL 100 RX8 yX8_ifGone wsX8_ifGone) := goodIn_app (goodIn_of _ (by decide +kernel)) ggL_law_X8_ifGone
set_option maxRecDepth 20000 in
theorem ggL_law_X7_ifBroken : GoodIn wsL_law wsX7_ifBroken := goodIn_r _ [770, 15, 17, 26, 30, 34, 338, 339, 340, 14, 341, 342, 343, 344, 345, 53, 346, 347, 348, 349, 49, 162, 163, 164, 165, 48, 166, 167, 168, 169, 50, 51, 52, 54, 55, 56, 57, 58, 350, 351, 352, 25, 353, 71, 72, 354, 355, 356, 357, 358, 693, 694, 695, 696, 663, 115, 112, 116, 106, 107, 108, 109, 110, 111, 113, 114, 563, 564, 565, 29, 566, 82, 567, 568, 569, 570, 571, 76, 77, 78, 79, 80, 81, 572, 573, 574, 575, 723, 724, 725, 726, 684, 585, 586, 587, 33, 588, 87, 88, 86, 589, 590, 591, 592, 205, 206, 593, 594, 595, 596, 208, 209, 210, 597, 233, 234, 804, 805, 806, 807, 808, 809, 810, 811, 812, 813, 814, 815, 816, 817, 839, 840, 841, 842, 843, 844, 845, 846, 847, 848, 849, 864, 865, 866, 855, 856, 857, 858, 859, 860, 861, 862, 863] (by decide +kernel) (by decide +kernel)
set_option maxRecDepth 20000 in
theorem gL_law_X7_ifBroken : GoodIn wsL_law (wsV RL 101 RX7 yX7_ifBroken wsX7_ifBroken) := goodIn_app (goodIn_of _ (by decide +kernel)) ggL_law_X7_ifBroken
set_option maxRecDepth 20000 in
theorem ggL_law_X8_ifBroken : GoodIn wsL_law wsX8_ifBroken := goodIn_r _ [774, 128, 129, 367, 368, 369, 5, 370, 174, 175, 176, 371, 372, 373, 374, 282, 283, 284, 285, 182, 183, 184, 375, 376, 377, 378, 133, 379, 380, 381, 382, 134, 146, 147, 148, 149, 739, 740, 741, 742, 140, 141, 142, 143, 144, 145, 735, 736, 737, 738, 606, 607, 608, 609, 775, 776, 777, 778, 626, 627, 628, 629, 275, 276, 277, 278, 279, 280, 281, 630, 631, 632, 301, 302, 303, 818, 819, 820, 821, 822, 823, 824, 825, 826, 827, 828, 829, 830, 831, 832, 833, 834, 835, 836, 837, 838] (by decide +kernel) (by decide +kernel)
set_option maxRecDepth 20000 in
theorem gL_law_X8_ifBroken : GoodIn wsL_law (wsV RL 104 RX8 yX8_ifBroken wsX8_ifBroken) := goodIn_app (goodIn_of _ (by decide +kernel)) ggL_law_X8_ifBroken
set_option maxRecDepth 20000 in
theorem ggL_law_X7_undo : GoodIn wsL_law wsX7_undo := goodIn_r _ [782, 39, 15, 18, 162, 163, 164, 14, 165, 48, 166, 167, 168, 169, 49, 50, 51, 52, 53, 54, 55, 56, 57, 58, 804, 805, 806, 807, 808, 809, 810, 811, 812, 813, 814, 815, 816, 817, 839, 840, 841, 842, 843, 844, 845, 846, 847, 848, 849] (by decide +kernel) (by decide +kernel)
set_option maxRecDepth 20000 in
theorem gL_law_X7_undo : GoodIn wsL_law (wsV RL 105 RX7 yX7_undo wsX7_undo) := goodIn_app (goodIn_of _ (by decide +kernel)) ggL_law_X7_undo
set_option maxRecDepth 20000 in
theorem ggL_law_X8_undo : GoodIn wsL_law wsX8_undo := goodIn_r _ [786, 181, 130, 128, 182, 183, 5, 184, 818, 819, 820, 821, 822, 823, 824, 825, 826, 827, 828, 829, 830, 831, 832, 833, 834, 835, 836, 837, 838] (by decide +kernel) (by decide +kernel)
set_option maxRecDepth 20000 in
theorem gL_law_X8_undo : GoodIn wsL_law (wsV RL 108 RX8 yX8_undo wsX8_undo) := goodIn_app (goodIn_of _ (by decide +kernel)) ggL_law_X8_undo
set_option maxRecDepth 20000 in
theorem ggL_law_X7_save : GoodIn wsL_law wsX7_save := goodIn_r _ [790, 16, 15, 40, 162, 163, 164, 14, 165, 48, 166, 167, 168, 169, 49, 50, 51, 52, 53, 54, 55, 56, 57, 58, 804, 805, 806, 807, 808, 809, 810, 811, 812, 813, 814, 815, 816, 817, 839, 840, 841, 842, 843, 844, 845, 846, 847, 848, 849] (by decide +kernel) (by decide +kernel)
set_option maxRecDepth 20000 in
theorem gL_law_X7_save : GoodIn wsL_law (wsV RL 109 RX7 yX7_save wsX7_save) := goodIn_app (goodIn_of _ (by decide +kernel)) ggL_law_X7_save
set_option maxRecDepth 20000 in
theorem ggL_law_X8_save : GoodIn wsL_law wsX8_save := goodIn_r _ [794, 128, 131, 795, 182, 183, 5, 184, 818, 819, 820, 821, 822, 823, 824, 825, 826, 827, 828, 829, 830, 831, 832, 833, 834, 835, 836, 837, 838] (by decide +kernel) (by decide +kernel)
set_option maxRecDepth 20000 in
theorem gL_law_X8_save : GoodIn wsL_law (wsV RL 112 RX8 yX8_save wsX8_save) := goodIn_app (goodIn_of _ (by decide +kernel)) ggL_law_X8_save
set_option maxRecDepth 20000 in
theorem ggL_law_X7_restore : GoodIn wsL_law wsX7_restore := goodIn_r _ [799, 40, 15, 16, 154, 155, 156, 2, 157, 39, 18, 158, 159, 160, 161, 162, 163, 164, 14, 165, 48, 166, 167, 168, 169, 49, 50, 51, 52, 53, 54, 55, 56, 57, 58, 804, 805, 806, 807, 808, 809, 810, 811, 812, 813, 814, 815, 816, 817, 839, 840, 841, 842, 843, 844, 845, 846, 847, 848, 849] (by decide +kernel) (by decide +kernel)
set_option maxRecDepth 20000 in
theorem gL_law_X7_restore : GoodIn wsL_law (wsV RL 113 RX7 yX7_restore wsX7_restore) := goodIn_app (goodIn_of _ (by decide +kernel)) ggL_law_X7_restore
set_option maxRecDepth 20000 in
theorem ggL_law_X8_restore : GoodIn wsL_law wsX8_restore := goodIn_r _ [803, 795, 131, 128, 177, 178, 179, 5, 180, 181, 130, 182, 183, 184, 818, 819, 820, 821, 822, 823, 824, 825, 826, 827, 828, 829, 830, 831, 832, 833, 834, 835, 836, 837, 838] (by decide +kernel) (by decide +kernel)
set_option maxRecDepth 20000 in
theorem gL_law_X8_restore : GoodIn wsL_law (wsV RL 116 RX8 yX8_restore wsX8_restore) := goodIn_app (goodIn_of _ (by decide +kernel)) ggL_law_X8_restore
theorem dL_law_0 : decode cL_law 0 = .ok (.new 7, 3) := by decide +kernel
theorem dL_law_3 : decode cL_law 3 = .ok (.dup, 1) := by decide +kernel
theorem dL_law_4 : decode cL_law 4 = .ok (.invokespecial 9, 3) := by decide +kernel
theorem dL_law_7 : decode cL_law 7 = .ok (.astore_n 1, 1) := by decide +kernel
theorem dL_law_8 : decode cL_law 8 = .ok (.new 10, 3) := by decide +kernel
theorem dL_law_11 : decode cL_law 11 = .ok (.dup, 1) := by decide +kernel
theorem dL_law_12 : decode cL_law 12 = .ok (.invokespecial 12, 3) := by decide +kernel
theorem dL_law_15 : decode cL_law 15 = .ok (.astore_n 2, 1) := by decide +kernel
theorem dL_law_16 : decode cL_law 16 = .ok (.iconst 0, 1) := by decide +kernel
theorem dL_law_17 : decode cL_law 17 = .ok (.istore_n 3, 1) := by decide +kernel
theorem dL_law_18 : decode cL_law 18 = .ok (.iload_n 3, 1) := by decide +kernel
theorem dL_law_19 : decode cL_law 19 = .ok (.aload_n 0, 1) := by decide +kernel
theorem dL_law_20 : decode cL_law 20 = .ok (.arraylength, 1) := by decide +kernel
theorem dL_law_21 : decode cL_law 21 = .ok (.iconst 3, 1) := by decide +kernel
theorem dL_law_22 : decode cL_law 22 = .ok (.isub, 1) := by decide +kernel
theorem dL_law_23 : decode cL_law 23 = .ok (.if_icmp .gt 714, 3) := by decide +kernel
theorem dL_law_26 : decode cL_law 26 = .ok (.aload_n 0, 1) := by decide +kernel
theorem dL_law_27 : decode cL_law 27 = .ok (.iload_n 3, 1) := by decide +kernel
theorem dL_law_28 : decode cL_law 28 = .ok (.iaload, 1) := by decide +kernel
theorem dL_law_29 : decode cL_law 29 = .ok (.bipush 31, 2) := by decide +kernel
theorem dL_law_31 : decode cL_law 31 = .ok (.iand, 1) := by decide +kernel
theorem dL_law_32 : decode cL_law 32 = .ok (.tableswitch 699 0 24 #[116, 139, 162, 185, 208, 231, 244, 277, 300, 313, 326, 339, 362, 395, 428, 451, 474, 507, 530, 553, 594, 627, 660, 673, 686], 116) := by decide +kernel
theorem dL_law_148 : decode cL_law 148 = .ok (.aload_n 1, 1) := by decide +kernel
theorem dL_law_149 : decode cL_law 149 = .ok (.aload_n 0, 1) := by decide +kernel
theorem dL_law_150 : decode cL_law 150 = .ok (.iload_n 3, 1) := by decide +kernel
theorem dL_law_151 : decode cL_law 151 = .ok (.iconst 1, 1) := by decide +kernel
theorem dL_law_152 : decode cL_law 152 = .ok (.iadd, 1) := by decide +kernel
theorem dL_law_153 : decode cL_law 153 = .ok (.iaload, 1) := by decide +kernel
theorem dL_law_154 : decode cL_law 154 = .ok (.invokevirtual 13, 3) := by decide +kernel
theorem dL_law_157 : decode cL_law 157 = .ok (.aload_n 2, 1) := by decide +kernel
theorem dL_law_158 : decode cL_law 158 = .ok (.aload_n 0, 1) := by decide +kernel
theorem dL_law_159 : decode cL_law 159 = .ok (.iload_n 3, 1) := by decide +kernel
theorem dL_law_160 : decode cL_law 160 = .ok (.iconst 1, 1) := by decide +kernel
theorem dL_law_161 : decode cL_law 161 = .ok (.iadd, 1) := by decide +kernel
theorem dL_law_162 : decode cL_law 162 = .ok (.iaload, 1) := by decide +kernel
theorem dL_law_163 : decode cL_law 163 = .ok (.invokevirtual 17, 3) := by decide +kernel
theorem dL_law_166 : decode cL_law 166 = .ok (.if_icmp .eq 565, 3) := by decide +kernel
theorem dL_law_169 : decode cL_law 169 = .ok (.iconst 0, 1) := by decide +kernel
theorem dL_law_170 : decode cL_law 170 = .ok (.ireturn, 1) := by decide +kernel
theorem dL_law_171 : decode cL_law 171 = .ok (.aload_n 1, 1) := by decide +kernel
theorem dL_law_172 : decode cL_law 172 = .ok (.aload_n 0, 1) := by decide +kernel
theorem dL_law_173 : decode cL_law 173 = .ok (.iload_n 3, 1) := by decide +kernel
theorem dL_law_174 : decode cL_law 174 = .ok (.iconst 1, 1) := by decide +kernel
theorem dL_law_175 : decode cL_law 175 = .ok (.iadd, 1) := by decide +kernel
theorem dL_law_176 : decode cL_law 176 = .ok (.iaload, 1) := by decide +kernel
theorem dL_law_177 : decode cL_law 177 = .ok (.invokevirtual 18, 3) := by decide +kernel
theorem dL_law_180 : decode cL_law 180 = .ok (.aload_n 2, 1) := by decide +kernel
theorem dL_law_181 : decode cL_law 181 = .ok (.aload_n 0, 1) := by decide +kernel
theorem dL_law_182 : decode cL_law 182 = .ok (.iload_n 3, 1) := by decide +kernel
theorem dL_law_183 : decode cL_law 183 = .ok (.iconst 1, 1) := by decide +kernel
theorem dL_law_184 : decode cL_law 184 = .ok (.iadd, 1) := by decide +kernel
theorem dL_law_185 : decode cL_law 185 = .ok (.iaload, 1) := by decide +kernel
theorem dL_law_186 : decode cL_law 186 = .ok (.invokevirtual 21, 3) := by decide +kernel
theorem dL_law_189 : decode cL_law 189 = .ok (.if_icmp .eq 542, 3) := by decide +kernel
theorem dL_law_192 : decode cL_law 192 = .ok (.iconst 0, 1) := by decide +kernel
theorem dL_law_193 : decode cL_law 193 = .ok (.ireturn, 1) := by decide +kernel
theorem dL_law_194 : decode cL_law 194 = .ok (.aload_n 1, 1) := by decide +kernel
theorem dL_law_195 : decode cL_law 195 = .ok (.aload_n 0, 1) := by decide +kernel
theorem dL_law_196 : decode cL_law 196 = .ok (.iload_n 3, 1) := by decide +kernel
theorem dL_law_197 : decode cL_law 197 = .ok (.iconst 1, 1) := by decide +kernel
theorem dL_law_198 : decode cL_law 198 = .ok (.iadd, 1) := by decide +kernel
theorem dL_law_199 : decode cL_law 199 = .ok (.iaload, 1) := by decide +kernel
theorem dL_law_200 : decode cL_law 200 = .ok (.invokevirtual 22, 3) := by decide +kernel
theorem dL_law_203 : decode cL_law 203 = .ok (.aload_n 2, 1) := by decide +kernel
theorem dL_law_204 : decode cL_law 204 = .ok (.aload_n 0, 1) := by decide +kernel
theorem dL_law_205 : decode cL_law 205 = .ok (.iload_n 3, 1) := by decide +kernel
theorem dL_law_206 : decode cL_law 206 = .ok (.iconst 1, 1) := by decide +kernel
theorem dL_law_207 : decode cL_law 207 = .ok (.iadd, 1) := by decide +kernel
theorem dL_law_208 : decode cL_law 208 = .ok (.iaload, 1) := by decide +kernel
theorem dL_law_209 : decode cL_law 209 = .ok (.invokevirtual 25, 3) := by decide +kernel
theorem dL_law_212 : decode cL_law 212 = .ok (.if_icmp .eq 519, 3) := by decide +kernel
theorem dL_law_215 : decode cL_law 215 = .ok (.iconst 0, 1) := by decide +kernel
theorem dL_law_216 : decode cL_law 216 = .ok (.ireturn, 1) := by decide +kernel
theorem dL_law_217 : decode cL_law 217 = .ok (.aload_n 1, 1) := by decide +kernel
theorem dL_law_218 : decode cL_law 218 = .ok (.aload_n 0, 1) := by decide +kernel
theorem dL_law_219 : decode cL_law 219 = .ok (.iload_n 3, 1) := by decide +kernel
theorem dL_law_220 : decode cL_law 220 = .ok (.iconst 1, 1) := by decide +kernel
theorem dL_law_221 : decode cL_law 221 = .ok (.iadd, 1) := by decide +kernel
theorem dL_law_222 : decode cL_law 222 = .ok (.iaload, 1) := by decide +kernel
theorem dL_law_223 : decode cL_law 223 = .ok (.invokevirtual 26, 3) := by decide +kernel
theorem dL_law_226 : decode cL_law 226 = .ok (.aload_n 2, 1) := by decide +kernel
theorem dL_law_227 : decode cL_law 227 = .ok (.aload_n 0, 1) := by decide +kernel
theorem dL_law_228 : decode cL_law 228 = .ok (.iload_n 3, 1) := by decide +kernel
theorem dL_law_229 : decode cL_law 229 = .ok (.iconst 1, 1) := by decide +kernel
theorem dL_law_230 : decode cL_law 230 = .ok (.iadd, 1) := by decide +kernel
theorem dL_law_231 : decode cL_law 231 = .ok (.iaload, 1) := by decide +kernel
theorem dL_law_232 : decode cL_law 232 = .ok (.invokevirtual 29, 3) := by decide +kernel
theorem dL_law_235 : decode cL_law 235 = .ok (.if_icmp .eq 496, 3) := by decide +kernel
theorem dL_law_238 : decode cL_law 238 = .ok (.iconst 0, 1) := by decide +kernel
theorem dL_law_239 : decode cL_law 239 = .ok (.ireturn, 1) := by decide +kernel
theorem dL_law_240 : decode cL_law 240 = .ok (.aload_n 1, 1) := by decide +kernel
theorem dL_law_241 : decode cL_law 241 = .ok (.aload_n 0, 1) := by decide +kernel
theorem dL_law_242 : decode cL_law 242 = .ok (.iload_n 3, 1) := by decide +kernel
theorem dL_law_243 : decode cL_law 243 = .ok (.iconst 1, 1) := by decide +kernel
theorem dL_law_244 : decode cL_law 244 = .ok (.iadd, 1) := by decide +kernel
theorem dL_law_245 : decode cL_law 245 = .ok (.iaload, 1) := by decide +kernel
theorem dL_law_246 : decode cL_law 246 = .ok (.invokevirtual 30, 3) := by decide +kernel
theorem dL_law_249 : decode cL_law 249 = .ok (.aload_n 2, 1) := by decide +kernel
theorem dL_law_250 : decode cL_law 250 = .ok (.aload_n 0, 1) := by decide +kernel
theorem dL_law_251 : decode cL_law 251 = .ok (.iload_n 3, 1) := by decide +kernel
theorem dL_law_252 : decode cL_law 252 = .ok (.iconst 1, 1) := by decide +kernel
theorem dL_law_253 : decode cL_law 253 = .ok (.iadd, 1) := by decide +kernel
theorem dL_law_254 : decode cL_law 254 = .ok (.iaload, 1) := by decide +kernel
theorem dL_law_255 : decode cL_law 255 = .ok (.invokevirtual 33, 3) := by decide +kernel
theorem dL_law_258 : decode cL_law 258 = .ok (.if_icmp .eq 473, 3) := by decide +kernel
theorem dL_law_261 : decode cL_law 261 = .ok (.iconst 0, 1) := by decide +kernel
theorem dL_law_262 : decode cL_law 262 = .ok (.ireturn, 1) := by decide +kernel
theorem dL_law_263 : decode cL_law 263 = .ok (.aload_n 1, 1) := by decide +kernel
theorem dL_law_264 : decode cL_law 264 = .ok (.invokevirtual 34, 3) := by decide +kernel
theorem dL_law_267 : decode cL_law 267 = .ok (.aload_n 2, 1) := by decide +kernel
theorem dL_law_268 : decode cL_law 268 = .ok (.invokevirtual 38, 3) := by decide +kernel
theorem dL_law_271 : decode cL_law 271 = .ok (.if_icmp .eq 460, 3) := by decide +kernel
theorem dL_law_274 : decode cL_law 274 = .ok (.iconst 0, 1) := by decide +kernel
theorem dL_law_275 : decode cL_law 275 = .ok (.ireturn, 1) := by decide +kernel
theorem dL_law_276 : decode cL_law 276 = .ok (.aload_n 1, 1) := by decide +kernel
theorem dL_law_277 : decode cL_law 277 = .ok (.aload_n 0, 1) := by decide +kernel
theorem dL_law_278 : decode cL_law 278 = .ok (.iload_n 3, 1) := by decide +kernel
theorem dL_law_279 : decode cL_law 279 = .ok (.iconst 1, 1) := by decide +kernel
theorem dL_law_280 : decode cL_law 280 = .ok (.iadd, 1) := by decide +kernel
theorem dL_law_281 : decode cL_law 281 = .ok (.iaload, 1) := by decide +kernel
theorem dL_law_282 : decode cL_law 282 = .ok (.aload_n 0, 1) := by decide +kernel
theorem dL_law_283 : decode cL_law 283 = .ok (.iload_n 3, 1) := by decide +kernel
theorem dL_law_284 : decode cL_law 284 = .ok (.iconst 2, 1) := by decide +kernel
theorem dL_law_285 : decode cL_law 285 = .ok (.iadd, 1) := by decide +kernel
theorem dL_law_286 : decode cL_law 286 = .ok (.iaload, 1) := by decide +kernel
theorem dL_law_287 : decode cL_law 287 = .ok (.invokevirtual 39, 3) := by decide +kernel
theorem dL_law_290 : decode cL_law 290 = .ok (.aload_n 2, 1) := by decide +kernel
theorem dL_law_291 : decode cL_law 291 = .ok (.aload_n 0, 1) := by decide +kernel
theorem dL_law_292 : decode cL_law 292 = .ok (.iload_n 3, 1) := by decide +kernel
theorem dL_law_293 : decode cL_law 293 = .ok (.iconst 1, 1) := by decide +kernel
theorem dL_law_294 : decode cL_law 294 = .ok (.iadd, 1) := by decide +kernel
theorem dL_law_295 : decode cL_law 295 = .ok (.iaload, 1) := by decide +kernel
theorem dL_law_296 : decode cL_law 296 = .ok (.aload_n 0, 1) := by decide +kernel
theorem dL_law_297 : decode cL_law 297 = .ok (.iload_n 3, 1) := by decide +kernel
theorem dL_law_298 : decode cL_law 298 = .ok (.iconst 2, 1) := by decide +kernel
theorem dL_law_299 : decode cL_law 299 = .ok (.iadd, 1) := by decide +kernel
theorem dL_law_300 : decode cL_law 300 = .ok (.iaload, 1) := by decide +kernel
theorem dL_law_301 : decode cL_law 301 = .ok (.invokevirtual 43, 3) := by decide +kernel
theorem dL_law_304 : decode cL_law 304 = .ok (.if_icmp .eq 427, 3) := by decide +kernel
theorem dL_law_307 : decode cL_law 307 = .ok (.iconst 0, 1) := by decide +kernel
theorem dL_law_308 : decode cL_law 308 = .ok (.ireturn, 1) := by decide +kernel
theorem dL_law_309 : decode cL_law 309 = .ok (.aload_n 1, 1) := by decide +kernel
theorem dL_law_310 : decode cL_law 310 = .ok (.aload_n 0, 1) := by decide +kernel
theorem dL_law_311 : decode cL_law 311 = .ok (.iload_n 3, 1) := by decide +kernel
theorem dL_law_312 : decode cL_law 312 = .ok (.iconst 1, 1) := by decide +kernel
theorem dL_law_313 : decode cL_law 313 = .ok (.iadd, 1) := by decide +kernel
theorem dL_law_314 : decode cL_law 314 = .ok (.iaload, 1) := by decide +kernel
theorem dL_law_315 : decode cL_law 315 = .ok (.invokevirtual 44, 3) := by decide +kernel
theorem dL_law_318 : decode cL_law 318 = .ok (.aload_n 2, 1) := by decide +kernel
theorem dL_law_319 : decode cL_law 319 = .ok (.aload_n 0, 1) := by decide +kernel
theorem dL_law_320 : decode cL_law 320 = .ok (.iload_n 3, 1) := by decide +kernel
theorem dL_law_321 : decode cL_law 321 = .ok (.iconst 1, 1) := by decide +kernel
theorem dL_law_322 : decode cL_law 322 = .ok (.iadd, 1) := by decide +kernel
theorem dL_law_323 : decode cL_law 323 = .ok (.iaload, 1) := by decide +kernel
theorem dL_law_324 : decode cL_law 324 = .ok (.invokevirtual 47, 3) := by decide +kernel
theorem dL_law_327 : decode cL_law 327 = .ok (.if_icmp .eq 404, 3) := by decide +kernel
theorem dL_law_330 : decode cL_law 330 = .ok (.iconst 0, 1) := by decide +kernel
theorem dL_law_331 : decode cL_law 331 = .ok (.ireturn, 1) := by decide +kernel
theorem dL_law_332 : decode cL_law 332 = .ok (.aload_n 1, 1) := by decide +kernel
theorem dL_law_333 : decode cL_law 333 = .ok (.invokevirtual 48, 3) := by decide +kernel
theorem dL_law_336 : decode cL_law 336 = .ok (.aload_n 2, 1) := by decide +kernel
theorem dL_law_337 : decode cL_law 337 = .ok (.invokevirtual 51, 3) := by decide +kernel
theorem dL_law_340 : decode cL_law 340 = .ok (.if_icmp .eq 391, 3) := by decide +kernel
theorem dL_law_343 : decode cL_law 343 = .ok (.iconst 0, 1) := by decide +kernel
theorem dL_law_344 : decode cL_law 344 = .ok (.ireturn, 1) := by decide +kernel
theorem dL_law_345 : decode cL_law 345 = .ok (.aload_n 1, 1) := by decide +kernel
theorem dL_law_346 : decode cL_law 346 = .ok (.invokevirtual 52, 3) := by decide +kernel
theorem dL_law_349 : decode cL_law 349 = .ok (.aload_n 2, 1) := by decide +kernel
theorem dL_law_350 : decode cL_law 350 = .ok (.invokevirtual 55, 3) := by decide +kernel
theorem dL_law_353 : decode cL_law 353 = .ok (.if_icmp .eq 378, 3) := by decide +kernel
theorem dL_law_356 : decode cL_law 356 = .ok (.iconst 0, 1) := by decide +kernel
theorem dL_law_357 : decode cL_law 357 = .ok (.ireturn, 1) := by decide +kernel
theorem dL_law_358 : decode cL_law 358 = .ok (.aload_n 1, 1) := by decide +kernel
theorem dL_law_359 : decode cL_law 359 = .ok (.invokevirtual 56, 3) := by decide +kernel
theorem dL_law_362 : decode cL_law 362 = .ok (.aload_n 2, 1) := by decide +kernel
theorem dL_law_363 : decode cL_law 363 = .ok (.invokevirtual 59, 3) := by decide +kernel
theorem dL_law_366 : decode cL_law 366 = .ok (.if_icmp .eq 365, 3) := by decide +kernel
theorem dL_law_369 : decode cL_law 369 = .ok (.iconst 0, 1) := by decide +kernel
theorem dL_law_370 : decode cL_law 370 = .ok (.ireturn, 1) := by decide +kernel
theorem dL_law_371 : decode cL_law 371 = .ok (.aload_n 1, 1) := by decide +kernel
theorem dL_law_372 : decode cL_law 372 = .ok (.aload_n 0, 1) := by decide +kernel
theorem dL_law_373 : decode cL_law 373 = .ok (.iload_n 3, 1) := by decide +kernel
theorem dL_law_374 : decode cL_law 374 = .ok (.iconst 1, 1) := by decide +kernel
theorem dL_law_375 : decode cL_law 375 = .ok (.iadd, 1) := by decide +kernel
theorem dL_law_376 : decode cL_law 376 = .ok (.iaload, 1) := by decide +kernel
theorem dL_law_377 : decode cL_law 377 = .ok (.invokevirtual 60, 3) := by decide +kernel
theorem dL_law_380 : decode cL_law 380 = .ok (.aload_n 2, 1) := by decide +kernel
theorem dL_law_381 : decode cL_law 381 = .ok (.aload_n 0, 1) := by decide +kernel
theorem dL_law_382 : decode cL_law 382 = .ok (.iload_n 3, 1) := by decide +kernel
theorem dL_law_383 : decode cL_law 383 = .ok (.iconst 1, 1) := by decide +kernel
theorem dL_law_384 : decode cL_law 384 = .ok (.iadd, 1) := by decide +kernel
theorem dL_law_385 : decode cL_law 385 = .ok (.iaload, 1) := by decide +kernel
theorem dL_law_386 : decode cL_law 386 = .ok (.invokevirtual 63, 3) := by decide +kernel
theorem dL_law_389 : decode cL_law 389 = .ok (.if_icmp .eq 342, 3) := by decide +kernel
theorem dL_law_392 : decode cL_law 392 = .ok (.iconst 0, 1) := by decide +kernel
theorem dL_law_393 : decode cL_law 393 = .ok (.ireturn, 1) := by decide +kernel
theorem dL_law_394 : decode cL_law 394 = .ok (.aload_n 1, 1) := by decide +kernel
theorem dL_law_395 : decode cL_law 395 = .ok (.aload_n 0, 1) := by decide +kernel
theorem dL_law_396 : decode cL_law 396 = .ok (.iload_n 3, 1) := by decide +kernel
theorem dL_law_397 : decode cL_law 397 = .ok (.iconst 1, 1) := by decide +kernel
theorem dL_law_398 : decode cL_law 398 = .ok (.iadd, 1) := by decide +kernel
theorem dL_law_399 : decode cL_law 399 = .ok (.iaload, 1) := by decide +kernel
theorem dL_law_400 : decode cL_law 400 = .ok (.aload_n 0, 1) := by decide +kernel
theorem dL_law_401 : decode cL_law 401 = .ok (.iload_n 3, 1) := by decide +kernel
theorem dL_law_402 : decode cL_law 402 = .ok (.iconst 2, 1) := by decide +kernel
theorem dL_law_403 : decode cL_law 403 = .ok (.iadd, 1) := by decide +kernel
theorem dL_law_404 : decode cL_law 404 = .ok (.iaload, 1) := by decide +kernel
theorem dL_law_405 : decode cL_law 405 = .ok (.invokevirtual 64, 3) := by decide +kernel
theorem dL_law_408 : decode cL_law 408 = .ok (.aload_n 2, 1) := by decide +kernel
theorem dL_law_409 : decode cL_law 409 = .ok (.aload_n 0, 1) := by decide +kernel
theorem dL_law_410 : decode cL_law 410 = .ok (.iload_n 3, 1) := by decide +kernel
theorem dL_law_411 : decode cL_law 411 = .ok (.iconst 1, 1) := by decide +kernel
theorem dL_law_412 : decode cL_law 412 = .ok (.iadd, 1) := by decide +kernel
theorem dL_law_413 : decode cL_law 413 = .ok (.iaload, 1) := by decide +kernel
theorem dL_law_414 : decode cL_law 414 = .ok (.aload_n 0, 1) := by decide +kernel
theorem dL_law_415 : decode cL_law 415 = .ok (.iload_n 3, 1) := by decide +kernel
theorem dL_law_416 : decode cL_law 416 = .ok (.iconst 2, 1) := by decide +kernel
theorem dL_law_417 : decode cL_law 417 = .ok (.iadd, 1) := by decide +kernel
theorem dL_law_418 : decode cL_law 418 = .ok (.iaload, 1) := by decide +kernel
theorem dL_law_419 : decode cL_law 419 = .ok (.invokevirtual 67, 3) := by decide +kernel
theorem dL_law_422 : decode cL_law 422 = .ok (.if_icmp .eq 309, 3) := by decide +kernel
theorem dL_law_425 : decode cL_law 425 = .ok (.iconst 0, 1) := by decide +kernel
theorem dL_law_426 : decode cL_law 426 = .ok (.ireturn, 1) := by decide +kernel
theorem dL_law_427 : decode cL_law 427 = .ok (.aload_n 1, 1) := by decide +kernel
theorem dL_law_428 : decode cL_law 428 = .ok (.aload_n 0, 1) := by decide +kernel
theorem dL_law_429 : decode cL_law 429 = .ok (.iload_n 3, 1) := by decide +kernel
theorem dL_law_430 : decode cL_law 430 = .ok (.iconst 1, 1) := by decide +kernel
theorem dL_law_431 : decode cL_law 431 = .ok (.iadd, 1) := by decide +kernel
theorem dL_law_432 : decode cL_law 432 = .ok (.iaload, 1) := by decide +kernel
theorem dL_law_433 : decode cL_law 433 = .ok (.aload_n 0, 1) := by decide +kernel
theorem dL_law_434 : decode cL_law 434 = .ok (.iload_n 3, 1) := by decide +kernel
theorem dL_law_435 : decode cL_law 435 = .ok (.iconst 2, 1) := by decide +kernel
theorem dL_law_436 : decode cL_law 436 = .ok (.iadd, 1) := by decide +kernel
theorem dL_law_437 : decode cL_law 437 = .ok (.iaload, 1) := by decide +kernel
theorem dL_law_438 : decode cL_law 438 = .ok (.invokevirtual 68, 3) := by decide +kernel
theorem dL_law_441 : decode cL_law 441 = .ok (.aload_n 2, 1) := by decide +kernel
theorem dL_law_442 : decode cL_law 442 = .ok (.aload_n 0, 1) := by decide +kernel
theorem dL_law_443 : decode cL_law 443 = .ok (.iload_n 3, 1) := by decide +kernel
theorem dL_law_444 : decode cL_law 444 = .ok (.iconst 1, 1) := by decide +kernel
theorem dL_law_445 : decode cL_law 445 = .ok (.iadd, 1) := by decide +kernel
theorem dL_law_446 : decode cL_law 446 = .ok (.iaload, 1) := by decide +kernel
theorem dL_law_447 : decode cL_law 447 = .ok (.aload_n 0, 1) := by decide +kernel
theorem dL_law_448 : decode cL_law 448 = .ok (.iload_n 3, 1) := by decide +kernel
theorem dL_law_449 : decode cL_law 449 = .ok (.iconst 2, 1) := by decide +kernel
theorem dL_law_450 : decode cL_law 450 = .ok (.iadd, 1) := by decide +kernel
theorem dL_law_451 : decode cL_law 451 = .ok (.iaload, 1) := by decide +kernel
theorem dL_law_452 : decode cL_law 452 = .ok (.invokevirtual 71, 3) := by decide +kernel
theorem dL_law_455 : decode cL_law 455 = .ok (.if_icmp .eq 276, 3) := by decide +kernel
theorem dL_law_458 : decode cL_law 458 = .ok (.iconst 0, 1) := by decide +kernel
theorem dL_law_459 : decode cL_law 459 = .ok (.ireturn, 1) := by decide +kernel
theorem dL_law_460 : decode cL_law 460 = .ok (.aload_n 1, 1) := by decide +kernel
theorem dL_law_461 : decode cL_law 461 = .ok (.aload_n 0, 1) := by decide +kernel
theorem dL_law_462 : decode cL_law 462 = .ok (.iload_n 3, 1) := by decide +kernel
theorem dL_law_463 : decode cL_law 463 = .ok (.iconst 1, 1) := by decide +kernel
theorem dL_law_464 : decode cL_law 464 = .ok (.iadd, 1) := by decide +kernel
theorem dL_law_465 : decode cL_law 465 = .ok (.iaload, 1) := by decide +kernel
theorem dL_law_466 : decode cL_law 466 = .ok (.invokevirtual 72, 3) := by decide +kernel
theorem dL_law_469 : decode cL_law 469 = .ok (.aload_n 2, 1) := by decide +kernel
theorem dL_law_470 : decode cL_law 470 = .ok (.aload_n 0, 1) := by decide +kernel
theorem dL_law_471 : decode cL_law 471 = .ok (.iload_n 3, 1) := by decide +kernel
theorem dL_law_472 : decode cL_law 472 = .ok (.iconst 1, 1) := by decide +kernel
theorem dL_law_473 : decode cL_law 473 = .ok (.iadd, 1) := by decide +kernel
theorem dL_law_474 : decode cL_law 474 = .ok (.iaload, 1) := by decide +kernel
theorem dL_law_475 : decode cL_law 475 = .ok (.invokevirtual 75, 3) := by decide +kernel
theorem dL_law_478 : decode cL_law 478 = .ok (.if_icmp .eq 253, 3) := by decide +kernel
theorem dL_law_481 : decode cL_law 481 = .ok (.iconst 0, 1) := by decide +kernel
theorem dL_law_482 : decode cL_law 482 = .ok (.ireturn, 1) := by decide +kernel
theorem dL_law_483 : decode cL_law 483 = .ok (.aload_n 1, 1) := by decide +kernel
theorem dL_law_484 : decode cL_law 484 = .ok (.aload_n 0, 1) := by decide +kernel
theorem dL_law_485 : decode cL_law 485 = .ok (.iload_n 3, 1) := by decide +kernel
theorem dL_law_486 : decode cL_law 486 = .ok (.iconst 1, 1) := by decide +kernel
theorem dL_law_487 : decode cL_law 487 = .ok (.iadd, 1) := by decide +kernel
theorem dL_law_488 : decode cL_law 488 = .ok (.iaload, 1) := by decide +kernel
theorem dL_law_489 : decode cL_law 489 = .ok (.invokevirtual 76, 3) := by decide +kernel
theorem dL_law_492 : decode cL_law 492 = .ok (.aload_n 2, 1) := by decide +kernel
theorem dL_law_493 : decode cL_law 493 = .ok (.aload_n 0, 1) := by decide +kernel
theorem dL_law_494 : decode cL_law 494 = .ok (.iload_n 3, 1) := by decide +kernel
theorem dL_law_495 : decode cL_law 495 = .ok (.iconst 1, 1) := by decide +kernel
theorem dL_law_496 : decode cL_law 496 = .ok (.iadd, 1) := by decide +kernel
theorem dL_law_497 : decode cL_law 497 = .ok (.iaload, 1) := by decide +kernel
theorem dL_law_498 : decode cL_law 498 = .ok (.invokevirtual 79, 3) := by decide +kernel
theorem dL_law_501 : decode cL_law 501 = .ok (.if_icmp .eq 230, 3) := by decide +kernel
theorem dL_law_504 : decode cL_law 504 = .ok (.iconst 0, 1) := by decide +kernel
theorem dL_law_505 : decode cL_law 505 = .ok (.ireturn, 1) := by decide +kernel
theorem dL_law_506 : decode cL_law 506 = .ok (.aload_n 1, 1) := by decide +kernel
theorem dL_law_507 : decode cL_law 507 = .ok (.aload_n 0, 1) := by decide +kernel
theorem dL_law_508 : decode cL_law 508 = .ok (.iload_n 3, 1) := by decide +kernel
theorem dL_law_509 : decode cL_law 509 = .ok (.iconst 1, 1) := by decide +kernel
theorem dL_law_510 : decode cL_law 510 = .ok (.iadd, 1) := by decide +kernel
theorem dL_law_511 : decode cL_law 511 = .ok (.iaload, 1) := by decide +kernel
theorem dL_law_512 : decode cL_law 512 = .ok (.aload_n 0, 1) := by decide +kernel
theorem dL_law_513 : decode cL_law 513 = .ok (.iload_n 3, 1) := by decide +kernel
theorem dL_law_514 : decode cL_law 514 = .ok (.iconst 2, 1) := by decide +kernel
theorem dL_law_515 : decode cL_law 515 = .ok (.iadd, 1) := by decide +kernel
theorem dL_law_516 : decode cL_law 516 = .ok (.iaload, 1) := by decide +kernel
theorem dL_law_517 : decode cL_law 517 = .ok (.invokevirtual 80, 3) := by decide +kernel
theorem dL_law_520 : decode cL_law 520 = .ok (.aload_n 2, 1) := by decide +kernel
theorem dL_law_521 : decode cL_law 521 = .ok (.aload_n 0, 1) := by decide +kernel
theorem dL_law_522 : decode cL_law 522 = .ok (.iload_n 3, 1) := by decide +kernel
theorem dL_law_523 : decode cL_law 523 = .ok (.iconst 1, 1) := by decide +kernel
theorem dL_law_524 : decode cL_law 524 = .ok (.iadd, 1) := by decide +kernel
theorem dL_law_525 : decode cL_law 525 = .ok (.iaload, 1) := by decide +kernel
theorem dL_law_526 : decode cL_law 526 = .ok (.aload_n 0, 1) := by decide +kernel
theorem dL_law_527 : decode cL_law 527 = .ok (.iload_n 3, 1) := by decide +kernel
theorem dL_law_528 : decode cL_law 528 = .ok (.iconst 2, 1) := by decide +kernel
theorem dL_law_529 : decode cL_law 529 = .ok (.iadd, 1) := by decide +kernel
theorem dL_law_530 : decode cL_law 530 = .ok (.iaload, 1) := by decide +kernel
theorem dL_law_531 : decode cL_law 531 = .ok (.invokevirtual 83, 3) := by decide +kernel
theorem dL_law_534 : decode cL_law 534 = .ok (.if_icmp .eq 197, 3) := by decide +kernel
theorem dL_law_537 : decode cL_law 537 = .ok (.iconst 0, 1) := by decide +kernel
theorem dL_law_538 : decode cL_law 538 = .ok (.ireturn, 1) := by decide +kernel
theorem dL_law_539 : decode cL_law 539 = .ok (.aload_n 1, 1) := by decide +kernel
theorem dL_law_540 : decode cL_law 540 = .ok (.aload_n 0, 1) := by decide +kernel
theorem dL_law_541 : decode cL_law 541 = .ok (.iload_n 3, 1) := by decide +kernel
theorem dL_law_542 : decode cL_law 542 = .ok (.iconst 1, 1) := by decide +kernel
theorem dL_law_543 : decode cL_law 543 = .ok (.iadd, 1) := by decide +kernel
theorem dL_law_544 : decode cL_law 544 = .ok (.iaload, 1) := by decide +kernel
theorem dL_law_545 : decode cL_law 545 = .ok (.invokevirtual 84, 3) := by decide +kernel
theorem dL_law_548 : decode cL_law 548 = .ok (.aload_n 2, 1) := by decide +kernel
theorem dL_law_549 : decode cL_law 549 = .ok (.aload_n 0, 1) := by decide +kernel
theorem dL_law_550 : decode cL_law 550 = .ok (.iload_n 3, 1) := by decide +kernel
theorem dL_law_551 : decode cL_law 551 = .ok (.iconst 1, 1) := by decide +kernel
theorem dL_law_552 : decode cL_law 552 = .ok (.iadd, 1) := by decide +kernel
theorem dL_law_553 : decode cL_law 553 = .ok (.iaload, 1) := by decide +kernel
theorem dL_law_554 : decode cL_law 554 = .ok (.invokevirtual 87, 3) := by decide +kernel
theorem dL_law_557 : decode cL_law 557 = .ok (.if_icmp .eq 174, 3) := by decide +kernel
theorem dL_law_560 : decode cL_law 560 = .ok (.iconst 0, 1) := by decide +kernel
theorem dL_law_561 : decode cL_law 561 = .ok (.ireturn, 1) := by decide +kernel
theorem dL_law_562 : decode cL_law 562 = .ok (.aload_n 1, 1) := by decide +kernel
theorem dL_law_563 : decode cL_law 563 = .ok (.aload_n 0, 1) := by decide +kernel
theorem dL_law_564 : decode cL_law 564 = .ok (.iload_n 3, 1) := by decide +kernel
theorem dL_law_565 : decode cL_law 565 = .ok (.iconst 1, 1) := by decide +kernel
theorem dL_law_566 : decode cL_law 566 = .ok (.iadd, 1) := by decide +kernel
theorem dL_law_567 : decode cL_law 567 = .ok (.iaload, 1) := by decide +kernel
theorem dL_law_568 : decode cL_law 568 = .ok (.invokevirtual 88, 3) := by decide +kernel
theorem dL_law_571 : decode cL_law 571 = .ok (.aload_n 2, 1) := by decide +kernel
theorem dL_law_572 : decode cL_law 572 = .ok (.aload_n 0, 1) := by decide +kernel
theorem dL_law_573 : decode cL_law 573 = .ok (.iload_n 3, 1) := by decide +kernel
theorem dL_law_574 : decode cL_law 574 = .ok (.iconst 1, 1) := by decide +kernel
theorem dL_law_575 : decode cL_law 575 = .ok (.iadd, 1) := by decide +kernel
theorem dL_law_576 : decode cL_law 576 = .ok (.iaload, 1) := by decide +kernel
theorem dL_law_577 : decode cL_law 577 = .ok (.invokevirtual 91, 3) := by decide +kernel
theorem dL_law_580 : decode cL_law 580 = .ok (.if_icmp .eq 151, 3) := by decide +kernel
theorem dL_law_583 : decode cL_law 583 = .ok (.iconst 0, 1) := by decide +kernel
theorem dL_law_584 : decode cL_law 584 = .ok (.ireturn, 1) := by decide +kernel
theorem dL_law_585 : decode cL_law 585 = .ok (.aload_n 1, 1) := by decide +kernel
theorem dL_law_586 : decode cL_law 586 = .ok (.invokevirtual 92, 3) := by decide +kernel
theorem dL_law_589 : decode cL_law 589 = .ok (.dstore 4, 2) := by decide +kernel
theorem dL_law_591 : decode cL_law 591 = .ok (.aload_n 2, 1) := by decide +kernel
theorem dL_law_592 : decode cL_law 592 = .ok (.invokevirtual 96, 3) := by decide +kernel
theorem dL_law_595 : decode cL_law 595 = .ok (.dstore 6, 2) := by decide +kernel
theorem dL_law_597 : decode cL_law 597 = .ok (.dload 4, 2) := by decide +kernel
theorem dL_law_599 : decode cL_law 599 = .ok (.dload 6, 2) := by decide +kernel
theorem dL_law_601 : decode cL_law 601 = .ok (.dcmp .l, 1) := by decide +kernel
theorem dL_law_602 : decode cL_law 602 = .ok (.ifCond .eq 21, 3) := by decide +kernel
theorem dL_law_605 : decode cL_law 605 = .ok (.dload 4, 2) := by decide +kernel
theorem dL_law_607 : decode cL_law 607 = .ok (.dload 4, 2) := by decide +kernel
theorem dL_law_609 : decode cL_law 609 = .ok (.dcmp .l, 1) := by decide +kernel
theorem dL_law_610 : decode cL_law 610 = .ok (.ifCond .eq 11, 3) := by decide +kernel
theorem dL_law_613 : decode cL_law 613 = .ok (.dload 6, 2) := by decide +kernel
theorem dL_law_615 : decode cL_law 615 = .ok (.dload 6, 2) := by decide +kernel
theorem dL_law_617 : decode cL_law 617 = .ok (.dcmp .l, 1) := by decide +kernel
theorem dL_law_618 : decode cL_law 618 = .ok (.ifCond .ne 5, 3) := by decide +kernel
theorem dL_law_621 : decode cL_law 621 = .ok (.iconst 0, 1) := by decide +kernel
theorem dL_law_622 : decode cL_law 622 = .ok (.ireturn, 1) := by decide +kernel
theorem dL_law_623 : decode cL_law 623 = .ok (.goto 108, 3) := by decide +kernel
theorem dL_law_626 : decode cL_law 626 = .ok (.aload_n 1, 1) := by decide +kernel
theorem dL_law_627 : decode cL_law 627 = .ok (.aload_n 0, 1) := by decide +kernel
theorem dL_law_628 : decode cL_law 628 = .ok (.iload_n 3, 1) := by decide +kernel
theorem dL_law_629 : decode cL_law 629 = .ok (.iconst 1, 1) := by decide +kernel
theorem dL_law_630 : decode cL_law 630 = .ok (.iadd, 1) := by decide +kernel
theorem dL_law_631 : decode cL_law 631 = .ok (.iaload, 1) := by decide +kernel
theorem dL_law_632 : decode cL_law 632 = .ok (.aload_n 0, 1) := by decide +kernel
theorem dL_law_633 : decode cL_law 633 = .ok (.iload_n 3, 1) := by decide +kernel
theorem dL_law_634 : decode cL_law 634 = .ok (.iconst 2, 1) := by decide +kernel
theorem dL_law_635 : decode cL_law 635 = .ok (.iadd, 1) := by decide +kernel
theorem dL_law_636 : decode cL_law 636 = .ok (.iaload, 1) := by decide +kernel
theorem dL_law_637 : decode cL_law 637 = .ok (.invokevirtual 97, 3) := by decide +kernel
theorem dL_law_640 : decode cL_law 640 = .ok (.aload_n 2, 1) := by decide +kernel
theorem dL_law_641 : decode cL_law 641 = .ok (.aload_n 0, 1) := by decide +kernel
theorem dL_law_642 : decode cL_law 642 = .ok (.iload_n 3, 1) := by decide +kernel
theorem dL_law_643 : decode cL_law 643 = .ok (.iconst 1, 1) := by decide +kernel
theorem dL_law_644 : decode cL_law 644 = .ok (.iadd, 1) := by decide +kernel
theorem dL_law_645 : decode cL_law 645 = .ok (.iaload, 1) := by decide +kernel
theorem dL_law_646 : decode cL_law 646 = .ok (.aload_n 0, 1) := by decide +kernel
theorem dL_law_647 : decode cL_law 647 = .ok (.iload_n 3, 1) := by decide +kernel
theorem dL_law_648 : decode cL_law 648 = .ok (.iconst 2, 1) := by decide +kernel
theorem dL_law_649 : decode cL_law 649 = .ok (.iadd, 1) := by decide +kernel
theorem dL_law_650 : decode cL_law 650 = .ok (.iaload, 1) := by decide +kernel
theorem dL_law_651 : decode cL_law 651 = .ok (.invokevirtual 100, 3) := by decide +kernel
theorem dL_law_654 : decode cL_law 654 = .ok (.if_icmp .eq 77, 3) := by decide +kernel
theorem dL_law_657 : decode cL_law 657 = .ok (.iconst 0, 1) := by decide +kernel
theorem dL_law_658 : decode cL_law 658 = .ok (.ireturn, 1) := by decide +kernel
theorem dL_law_659 : decode cL_law 659 = .ok (.aload_n 1, 1) := by decide +kernel
theorem dL_law_660 : decode cL_law 660 = .ok (.aload_n 0, 1) := by decide +kernel
theorem dL_law_661 : decode cL_law 661 = .ok (.iload_n 3, 1) := by decide +kernel
theorem dL_law_662 : decode cL_law 662 = .ok (.iconst 1, 1) := by decide +kernel
theorem dL_law_663 : decode cL_law 663 = .ok (.iadd, 1) := by decide +kernel
theorem dL_law_664 : decode cL_law 664 = .ok (.iaload, 1) := by decide +kernel
theorem dL_law_665 : decode cL_law 665 = .ok (.aload_n 0, 1) := by decide +kernel
theorem dL_law_666 : decode cL_law 666 = .ok (.iload_n 3, 1) := by decide +kernel
theorem dL_law_667 : decode cL_law 667 = .ok (.iconst 2, 1) := by decide +kernel
theorem dL_law_668 : decode cL_law 668 = .ok (.iadd, 1) := by decide +kernel
theorem dL_law_669 : decode cL_law 669 = .ok (.iaload, 1) := by decide +kernel
theorem dL_law_670 : decode cL_law 670 = .ok (.invokevirtual 101, 3) := by decide +kernel
theorem dL_law_673 : decode cL_law 673 = .ok (.aload_n 2, 1) := by decide +kernel
theorem dL_law_674 : decode cL_law 674 = .ok (.aload_n 0, 1) := by decide +kernel
theorem dL_law_675 : decode cL_law 675 = .ok (.iload_n 3, 1) := by decide +kernel
theorem dL_law_676 : decode cL_law 676 = .ok (.iconst 1, 1) := by decide +kernel
theorem dL_law_677 : decode cL_law 677 = .ok (.iadd, 1) := by decide +kernel
theorem dL_law_678 : decode cL_law 678 = .ok (.iaload, 1) := by decide +kernel
theorem dL_law_679 : decode cL_law 679 = .ok (.aload_n 0, 1) := by decide +kernel
theorem dL_law_680 : decode cL_law 680 = .ok (.iload_n 3, 1) := by decide +kernel
theorem dL_law_681 : decode cL_law 681 = .ok (.iconst 2, 1) := by decide +kernel
theorem dL_law_682 : decode cL_law 682 = .ok (.iadd, 1) := by decide +kernel
theorem dL_law_683 : decode cL_law 683 = .ok (.iaload, 1) := by decide +kernel
theorem dL_law_684 : decode cL_law 684 = .ok (.invokevirtual 104, 3) := by decide +kernel
theorem dL_law_687 : decode cL_law 687 = .ok (.if_icmp .eq 44, 3) := by decide +kernel
theorem dL_law_690 : decode cL_law 690 = .ok (.iconst 0, 1) := by decide +kernel
theorem dL_law_691 : decode cL_law 691 = .ok (.ireturn, 1) := by decide +kernel
theorem dL_law_692 : decode cL_law 692 = .ok (.aload_n 1, 1) := by decide +kernel
theorem dL_law_693 : decode cL_law 693 = .ok (.invokevirtual 105, 3) := by decide +kernel
theorem dL_law_696 : decode cL_law 696 = .ok (.aload_n 2, 1) := by decide +kernel
theorem dL_law_697 : decode cL_law 697 = .ok (.invokevirtual 108, 3) := by decide +kernel
theorem dL_law_700 : decode cL_law 700 = .ok (.if_icmp .eq 31, 3) := by decide +kernel
theorem dL_law_703 : decode cL_law 703 = .ok (.iconst 0, 1) := by decide +kernel
theorem dL_law_704 : decode cL_law 704 = .ok (.ireturn, 1) := by decide +kernel
theorem dL_law_705 : decode cL_law 705 = .ok (.aload_n 1, 1) := by decide +kernel
theorem dL_law_706 : decode cL_law 706 = .ok (.invokevirtual 109, 3) := by decide +kernel
theorem dL_law_709 : decode cL_law 709 = .ok (.aload_n 2, 1) := by decide +kernel
theorem dL_law_710 : decode cL_law 710 = .ok (.invokevirtual 112, 3) := by decide +kernel
theorem dL_law_713 : decode cL_law 713 = .ok (.if_icmp .eq 18, 3) := by decide +kernel
theorem dL_law_716 : decode cL_law 716 = .ok (.iconst 0, 1) := by decide +kernel
theorem dL_law_717 : decode cL_law 717 = .ok (.ireturn, 1) := by decide +kernel
theorem dL_law_718 : decode cL_law 718 = .ok (.aload_n 1, 1) := by decide +kernel
theorem dL_law_719 : decode cL_law 719 = .ok (.invokevirtual 113, 3) := by decide +kernel
theorem dL_law_722 : decode cL_law 722 = .ok (.aload_n 2, 1) := by decide +kernel
theorem dL_law_723 : decode cL_law 723 = .ok (.invokevirtual 116, 3) := by decide +kernel
theorem dL_law_726 : decode cL_law 726 = .ok (.if_icmp .eq 5, 3) := by decide +kernel
theorem dL_law_729 : decode cL_law 729 = .ok (.iconst 0, 1) := by decide +kernel
theorem dL_law_730 : decode cL_law 730 = .ok (.ireturn, 1) := by decide +kernel
theorem dL_law_731 : decode cL_law 731 = .ok (.iinc 3 3, 3) := by decide +kernel
theorem dL_law_734 : decode cL_law 734 = .ok (.goto (-716), 3) := by decide +kernel
theorem dL_law_737 : decode cL_law 737 = .ok (.iconst 1, 1) := by decide +kernel
theorem dL_law_738 : decode cL_law 738 = .ok (.ireturn, 1) := by decide +kernel
end
section
theorem zz_try : (1:Nat) + 1 = 2 := rfl
end
