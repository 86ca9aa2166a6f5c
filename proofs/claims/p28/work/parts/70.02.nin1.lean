set_option maxRecDepth 20000 in
theorem wsL_law_r13_in : GoodIn lw_tbl wsL_law_r13 := goodIn_p wsL_law_r13 [482, 486, 489, 495, 500] (by decide +kernel) (by decide +kernel)
set_option maxRecDepth 20000 in
theorem wsL_law_r14_in : GoodIn lw_tbl wsL_law_r14 := goodIn_p wsL_law_r14 [505, 508, 512, 518, 522, 526] (by decide +kernel) (by decide +kernel)
set_option maxRecDepth 20000 in
theorem wsL_law_r15_in : GoodIn lw_tbl wsL_law_r15 := goodIn_p wsL_law_r15 [532, 536, 384, 540] (by decide +kernel) (by decide +kernel)
set_option maxRecDepth 20000 in
theorem wsL_law_r16_in : GoodIn lw_tbl wsL_law_r16 := goodIn_p wsL_law_r16 [546, 550, 380, 395, 399] (by decide +kernel) (by decide +kernel)
set_option maxRecDepth 20000 in
theorem acts_at : lw_tbl[554]? = some (Cond.code yL_acts cL_acts 10 (some .boolean)) := by rfl
theorem acts_code_in : GoodIn lw_tbl [Cond.code yL_acts cL_acts 10 (some .boolean)] := fun w hw => by
  obtain rfl := List.mem_singleton.mp hw
  exact ⟨List.mem_of_getElem? acts_at, Or.inl rfl⟩
def wsA17 : List Cond := [Cond.code yX7_dropOldest cX7_dropOldest 3 none, Cond.methodLink RL 118 yX7_save, Cond.instanceMethod yX7_save, Cond.selects RX7 yX7_save yX7_save, Cond.code yX7_save cX7_save 1 (some .int), Cond.methodLink RL 64 yL_look, Cond.static yL_look, Cond.code yL_look cL_look 4 (some .long), Cond.constantLong RL 9 (379), Cond.constantLong RL 11 (31), Cond.methodLink RL 121 yL_lot, Cond.static yL_lot, Cond.code yL_lot cL_lot 2 (some .int), Cond.constant RL 7 (-1310661267), Cond.methodLink RL 124 yL_acts, Cond.static yL_acts]
def wsB17 : List Cond := [Cond.methodLink RL 80 yX7_go, Cond.instanceMethod yX7_go, Cond.selects RX7 yX7_go yX7_go, Cond.code yX7_go cX7_go 3 (some .int), Cond.methodLink RX7 91 yX7_letWalk, Cond.instanceMethod yX7_letWalk, Cond.selects RX7 yX7_letWalk yX7_letWalk]
set_option maxRecDepth 20000 in
theorem wsA17_in : GoodIn lw_tbl wsA17 := goodIn_p wsA17 [403, 391, 414, 406] (by decide +kernel) (by decide +kernel)
set_option maxRecDepth 20000 in
theorem wsB17_in : GoodIn lw_tbl wsB17 := goodIn_p wsB17 [558] (by decide +kernel) (by decide +kernel)
theorem wsL_law_r17_in : GoodIn lw_tbl wsL_law_r17 := show GoodIn lw_tbl (wsA17 ++ ([Cond.code yL_acts cL_acts 10 (some .boolean)] ++ wsB17)) from goodIn_app wsA17_in (goodIn_app acts_code_in wsB17_in)
set_option maxRecDepth 20000 in
theorem wsL_law_r18_in : GoodIn lw_tbl wsL_law_r18 := goodIn_p wsL_law_r18 [562, 566, 571, 575, 580, 585] (by decide +kernel) (by decide +kernel)
set_option maxRecDepth 20000 in
theorem wsL_law_r19_in : GoodIn lw_tbl wsL_law_r19 := goodIn_p wsL_law_r19 [589, 593, 597, 601, 604, 608] (by decide +kernel) (by decide +kernel)
set_option maxRecDepth 20000 in
theorem wsL_law_r20_in : GoodIn lw_tbl wsL_law_r20 := goodIn_p wsL_law_r20 [612, 616, 619, 623, 627, 631] (by decide +kernel) (by decide +kernel)
set_option maxRecDepth 20000 in
theorem wsL_law_r21_in : GoodIn lw_tbl wsL_law_r21 := goodIn_p wsL_law_r21 [635, 638, 642, 646, 649, 652, 655] (by decide +kernel) (by decide +kernel)
set_option maxRecDepth 20000 in
theorem wsL_law_r22_in : GoodIn lw_tbl wsL_law_r22 := goodIn_p wsL_law_r22 [659, 663, 667, 671, 675] (by decide +kernel) (by decide +kernel)
set_option maxRecDepth 20000 in
theorem wsX70_lawin : GoodIn lw_tbl wsX70 := goodIn_p wsX70 [] (by decide +kernel) (by decide +kernel)
set_option maxRecDepth 20000 in
theorem wsX40_lawin : GoodIn lw_tbl wsX40 := goodIn_p wsX40 [] (by decide +kernel) (by decide +kernel)
