theorem TB_r {ws : List Cond} (ps : List Nat) (hp : ws = ps.filterMap (fun i => lw_tbl[i]?)) (hg : ws.all goodWord = true) : ∀ w ∈ ws, w ∈ TB := by
  intro w hw
  have h1 := List.all_eq_true.mp hg w hw
  rw [hp] at hw
  obtain ⟨i, -, hi⟩ := List.mem_filterMap.mp hw
  exact TB_mem hi h1
theorem inbX0 : ∀ w ∈ u_ws RX0 TX0 4, w ∈ TB := TB_r [165, 167, 169, 171] (by decide +kernel) (by decide +kernel)
theorem inbX1 : ∀ w ∈ u_ws RX1 TX1 19, w ∈ TB := TB_r [247, 249, 251, 253, 255, 257, 259, 261, 263, 265, 267, 269, 271, 273, 275, 277, 279, 281, 283] (by decide +kernel) (by decide +kernel)
theorem inbX2 : ∀ w ∈ u_ws RX2 TX2 6, w ∈ TB := TB_r [133, 135, 137, 139, 141, 143] (by decide +kernel) (by decide +kernel)
theorem inbX3 : ∀ w ∈ u_ws RX3 TX3 4, w ∈ TB := TB_r [182, 184, 186, 188] (by decide +kernel) (by decide +kernel)
theorem inbX4 : ∀ w ∈ u_ws RX4 TX4 4, w ∈ TB := TB_r [208, 210, 212, 214] (by decide +kernel) (by decide +kernel)
theorem inbX5 : ∀ w ∈ u_ws RX5 TX5 9, w ∈ TB := TB_r [296, 298, 300, 302, 304, 306, 308, 310, 312] (by decide +kernel) (by decide +kernel)
theorem inbX6 : ∀ w ∈ u_ws RX6 TX6 26, w ∈ TB := TB_r [901, 903, 905, 907, 909, 911, 913, 915, 917, 919, 921, 923, 925, 927, 929, 931, 933, 935, 937, 939, 941, 943, 945, 947, 949, 951] (by decide +kernel) (by decide +kernel)
abbrev mX5_init : MD := (RX5, yX5_init, cX5_init, 2, none, [])
theorem cmX5_init : CM mX5_init := ⟨by decide +kernel, rfl, rfl, by decide, (TB_mem (i := 92) (by decide +kernel) (by decide +kernel)), (TB_mem (i := 71) (by decide +kernel) (by decide +kernel)), by decide +kernel, by decide +kernel⟩
abbrev mX3_init : MD := (RX3, yX3_init, cX3_init, 1, none, [])
theorem cmX3_init : CM mX3_init := ⟨by decide +kernel, rfl, rfl, by decide, (TB_mem (i := 100) (by decide +kernel) (by decide +kernel)), (TB_mem (i := 72) (by decide +kernel) (by decide +kernel)), by decide +kernel, by decide +kernel⟩
abbrev mX2_init : MD := (RX2, yX2_init, cX2_init, 1, none, [])
theorem cmX2_init : CM mX2_init := ⟨by decide +kernel, rfl, rfl, by decide, (TB_mem (i := 106) (by decide +kernel) (by decide +kernel)), (TB_mem (i := 73) (by decide +kernel) (by decide +kernel)), by decide +kernel, by decide +kernel⟩
abbrev mX0_init : MD := (RX0, yX0_init, cX0_init, 1, none, [])
theorem cmX0_init : CM mX0_init := ⟨by decide +kernel, rfl, rfl, by decide, (TB_mem (i := 151) (by decide +kernel) (by decide +kernel)), (TB_mem (i := 74) (by decide +kernel) (by decide +kernel)), by decide +kernel, by decide +kernel⟩
abbrev mX4_init : MD := (RX4, yX4_init, cX4_init, 1, none, [])
theorem cmX4_init : CM mX4_init := ⟨by decide +kernel, rfl, rfl, by decide, (TB_mem (i := 198) (by decide +kernel) (by decide +kernel)), (TB_mem (i := 75) (by decide +kernel) (by decide +kernel)), by decide +kernel, by decide +kernel⟩
abbrev mX1_init : MD := (RX1, yX1_init, cX1_init, 1, none, [])
theorem cmX1_init : CM mX1_init := ⟨by decide +kernel, rfl, rfl, by decide, (TB_mem (i := 223) (by decide +kernel) (by decide +kernel)), (TB_mem (i := 76) (by decide +kernel) (by decide +kernel)), by decide +kernel, by decide +kernel⟩
abbrev mX5_jobs : MD := (RX5, yX5_jobs, cX5_jobs, 1, (some .int), [])
theorem cmX5_jobs : CM mX5_jobs := ⟨by decide +kernel, rfl, rfl, by decide, (TB_mem (i := 318) (by decide +kernel) (by decide +kernel)), (TB_mem (i := 71) (by decide +kernel) (by decide +kernel)), by decide +kernel, by decide +kernel⟩
abbrev mX5_setMode : MD := (RX5, yX5_setMode, cX5_setMode, 4, (some .int), [])
theorem cmX5_setMode : CM mX5_setMode := ⟨by decide +kernel, rfl, rfl, by decide, (TB_mem (i := 322) (by decide +kernel) (by decide +kernel)), (TB_mem (i := 71) (by decide +kernel) (by decide +kernel)), by decide +kernel, by decide +kernel⟩
abbrev mX5_saveState : MD := (RX5, yX5_saveState, cX5_saveState, 3, none, [])
theorem cmX5_saveState : CM mX5_saveState := ⟨by decide +kernel, rfl, rfl, by decide, (TB_mem (i := 326) (by decide +kernel) (by decide +kernel)), (TB_mem (i := 71) (by decide +kernel) (by decide +kernel)), by decide +kernel, by decide +kernel⟩
abbrev mX3_takeFrom : MD := (RX3, yX3_takeFrom, cX3_takeFrom, 2, none, [])
theorem cmX3_takeFrom : CM mX3_takeFrom := ⟨by decide +kernel, rfl, rfl, by decide, (TB_mem (i := 330) (by decide +kernel) (by decide +kernel)), (TB_mem (i := 72) (by decide +kernel) (by decide +kernel)), by decide +kernel, by decide +kernel⟩
abbrev mX2_takeFrom : MD := (RX2, yX2_takeFrom, cX2_takeFrom, 3, none, [])
theorem cmX2_takeFrom : CM mX2_takeFrom := ⟨by decide +kernel, rfl, rfl, by decide, (TB_mem (i := 334) (by decide +kernel) (by decide +kernel)), (TB_mem (i := 73) (by decide +kernel) (by decide +kernel)), by decide +kernel, by decide +kernel⟩
abbrev mX0_takeFrom : MD := (RX0, yX0_takeFrom, cX0_takeFrom, 2, none, [])
theorem cmX0_takeFrom : CM mX0_takeFrom := ⟨by decide +kernel, rfl, rfl, by decide, (TB_mem (i := 341) (by decide +kernel) (by decide +kernel)), (TB_mem (i := 74) (by decide +kernel) (by decide +kernel)), by decide +kernel, by decide +kernel⟩
abbrev mX5_clearText : MD := (RX5, yX5_clearText, cX5_clearText, 2, (some .int), [])
theorem cmX5_clearText : CM mX5_clearText := ⟨by decide +kernel, rfl, rfl, by decide, (TB_mem (i := 346) (by decide +kernel) (by decide +kernel)), (TB_mem (i := 71) (by decide +kernel) (by decide +kernel)), by decide +kernel, by decide +kernel⟩
abbrev mX5_parse : MD := (RX5, yX5_parse, cX5_parse, 2, (some .int), [])
theorem cmX5_parse : CM mX5_parse := ⟨by decide +kernel, rfl, rfl, by decide, (TB_mem (i := 350) (by decide +kernel) (by decide +kernel)), (TB_mem (i := 71) (by decide +kernel) (by decide +kernel)), by decide +kernel, by decide +kernel⟩
abbrev mX5_readText : MD := (RX5, yX5_readText, cX5_readText, 5, (some .int), [])
theorem cmX5_readText : CM mX5_readText := ⟨by decide +kernel, rfl, rfl, by decide, (TB_mem (i := 354) (by decide +kernel) (by decide +kernel)), (TB_mem (i := 71) (by decide +kernel) (by decide +kernel)), by decide +kernel, by decide +kernel⟩
abbrev mX0_makeEmpty : MD := (RX0, yX0_makeEmpty, cX0_makeEmpty, 1, none, [])
theorem cmX0_makeEmpty : CM mX0_makeEmpty := ⟨by decide +kernel, rfl, rfl, by decide, (TB_mem (i := 358) (by decide +kernel) (by decide +kernel)), (TB_mem (i := 74) (by decide +kernel) (by decide +kernel)), by decide +kernel, by decide +kernel⟩
abbrev mX5_isJob : MD := (RX5, yX5_isJob, cX5_isJob, 2, (some .boolean), [])
theorem cmX5_isJob : CM mX5_isJob := ⟨by decide +kernel, rfl, rfl, by decide, (TB_mem (i := 362) (by decide +kernel) (by decide +kernel)), (TB_mem (i := 71) (by decide +kernel) (by decide +kernel)), by decide +kernel, by decide +kernel⟩
abbrev mX5_fitsDraft : MD := (RX5, yX5_fitsDraft, cX5_fitsDraft, 3, (some .boolean), [])
theorem cmX5_fitsDraft : CM mX5_fitsDraft := ⟨by decide +kernel, rfl, rfl, by decide, (TB_mem (i := 366) (by decide +kernel) (by decide +kernel)), (TB_mem (i := 71) (by decide +kernel) (by decide +kernel)), by decide +kernel, by decide +kernel⟩
abbrev mX0_addLast : MD := (RX0, yX0_addLast, cX0_addLast, 3, none, [])
theorem cmX0_addLast : CM mX0_addLast := ⟨by decide +kernel, rfl, rfl, by decide, (TB_mem (i := 370) (by decide +kernel) (by decide +kernel)), (TB_mem (i := 74) (by decide +kernel) (by decide +kernel)), by decide +kernel, by decide +kernel⟩
abbrev mX5_keepBest : MD := (RX5, yX5_keepBest, cX5_keepBest, 3, (some .long), [])
theorem cmX5_keepBest : CM mX5_keepBest := ⟨by decide +kernel, rfl, rfl, by decide, (TB_mem (i := 375) (by decide +kernel) (by decide +kernel)), (TB_mem (i := 71) (by decide +kernel) (by decide +kernel)), by decide +kernel, by decide +kernel⟩
abbrev mX5_presentBest : MD := (RX5, yX5_presentBest, cX5_presentBest, 1, (some .long), [])
theorem cmX5_presentBest : CM mX5_presentBest := ⟨by decide +kernel, rfl, rfl, by decide, (TB_mem (i := 379) (by decide +kernel) (by decide +kernel)), (TB_mem (i := 71) (by decide +kernel) (by decide +kernel)), by decide +kernel, by decide +kernel⟩
abbrev mX5_leastCost : MD := (RX5, yX5_leastCost, cX5_leastCost, 6, (some .long), [])
theorem cmX5_leastCost : CM mX5_leastCost := ⟨by decide +kernel, rfl, rfl, by decide, (TB_mem (i := 383) (by decide +kernel) (by decide +kernel)), (TB_mem (i := 71) (by decide +kernel) (by decide +kernel)), by decide +kernel, by decide +kernel⟩
abbrev mX5_costOfRule : MD := (RX5, yX5_costOfRule, cX5_costOfRule, 4, (some .long), [])
theorem cmX5_costOfRule : CM mX5_costOfRule := ⟨by decide +kernel, rfl, rfl, by decide, (TB_mem (i := 387) (by decide +kernel) (by decide +kernel)), (TB_mem (i := 71) (by decide +kernel) (by decide +kernel)), by decide +kernel, by decide +kernel⟩
abbrev mX2_orderByRule : MD := (RX2, yX2_orderByRule, cX2_orderByRule, 5, none, [])
theorem cmX2_orderByRule : CM mX2_orderByRule := ⟨by decide +kernel, rfl, rfl, by decide, (TB_mem (i := 391) (by decide +kernel) (by decide +kernel)), (TB_mem (i := 73) (by decide +kernel) (by decide +kernel)), by decide +kernel, by decide +kernel⟩
abbrev mX2_compareByRule : MD := (RX2, yX2_compareByRule, cX2_compareByRule, 4, (some .int), [])
theorem cmX2_compareByRule : CM mX2_compareByRule := ⟨by decide +kernel, rfl, rfl, by decide, (TB_mem (i := 395) (by decide +kernel) (by decide +kernel)), (TB_mem (i := 73) (by decide +kernel) (by decide +kernel)), by decide +kernel, by decide +kernel⟩
abbrev mJ6_compare_7cf53 : MD := (RJ6, yJ6_compare_7cf53, cJ6_compare_7cf53, 2, (some .int), [])
theorem cmJ6_compare_7cf53 : CM mJ6_compare_7cf53 := ⟨by decide +kernel, rfl, rfl, by decide, (TB_mem (i := 398) (by decide +kernel) (by decide +kernel)), (TB_mem (i := 85) (by decide +kernel) (by decide +kernel)), by decide +kernel, by decide +kernel⟩
abbrev mX2_compareByFamily : MD := (RX2, yX2_compareByFamily, cX2_compareByFamily, 7, (some .int), [])
theorem cmX2_compareByFamily : CM mX2_compareByFamily := ⟨by decide +kernel, rfl, rfl, by decide, (TB_mem (i := 402) (by decide +kernel) (by decide +kernel)), (TB_mem (i := 73) (by decide +kernel) (by decide +kernel)), by decide +kernel, by decide +kernel⟩
abbrev mX2_dueOfFamily : MD := (RX2, yX2_dueOfFamily, cX2_dueOfFamily, 4, (some .int), [])
theorem cmX2_dueOfFamily : CM mX2_dueOfFamily := ⟨by decide +kernel, rfl, rfl, by decide, (TB_mem (i := 406) (by decide +kernel) (by decide +kernel)), (TB_mem (i := 73) (by decide +kernel) (by decide +kernel)), by decide +kernel, by decide +kernel⟩
abbrev mX0_dropJobFromOrder : MD := (RX0, yX0_dropJobFromOrder, cX0_dropJobFromOrder, 4, none, [])
theorem cmX0_dropJobFromOrder : CM mX0_dropJobFromOrder := ⟨by decide +kernel, rfl, rfl, by decide, (TB_mem (i := 412) (by decide +kernel) (by decide +kernel)), (TB_mem (i := 74) (by decide +kernel) (by decide +kernel)), by decide +kernel, by decide +kernel⟩
abbrev mX0_putAt : MD := (RX0, yX0_putAt, cX0_putAt, 4, none, [])
theorem cmX0_putAt : CM mX0_putAt := ⟨by decide +kernel, rfl, rfl, by decide, (TB_mem (i := 416) (by decide +kernel) (by decide +kernel)), (TB_mem (i := 74) (by decide +kernel) (by decide +kernel)), by decide +kernel, by decide +kernel⟩
abbrev mX0_groupByFamily : MD := (RX0, yX0_groupByFamily, cX0_groupByFamily, 4, none, [])
theorem cmX0_groupByFamily : CM mX0_groupByFamily := ⟨by decide +kernel, rfl, rfl, by decide, (TB_mem (i := 420) (by decide +kernel) (by decide +kernel)), (TB_mem (i := 74) (by decide +kernel) (by decide +kernel)), by decide +kernel, by decide +kernel⟩
abbrev mX4_follow : MD := (RX4, yX4_follow, cX4_follow, 5, (some .long), [])
theorem cmX4_follow : CM mX4_follow := ⟨by decide +kernel, rfl, rfl, by decide, (TB_mem (i := 424) (by decide +kernel) (by decide +kernel)), (TB_mem (i := 75) (by decide +kernel) (by decide +kernel)), by decide +kernel, by decide +kernel⟩
abbrev mJ7_fill_53178 : MD := (RJ7, yJ7_fill_53178, cJ7_fill_53178, 4, none, [])
theorem cmJ7_fill_53178 : CM mJ7_fill_53178 := ⟨by decide +kernel, rfl, rfl, by decide, (TB_mem (i := 427) (by decide +kernel) (by decide +kernel)), (TB_mem (i := 86) (by decide +kernel) (by decide +kernel)), by decide +kernel, by decide +kernel⟩
abbrev mX4_followBatch : MD := (RX4, yX4_followBatch, cX4_followBatch, 14, (some .int), [])
theorem cmX4_followBatch : CM mX4_followBatch := ⟨by decide +kernel, rfl, rfl, by decide, (TB_mem (i := 431) (by decide +kernel) (by decide +kernel)), (TB_mem (i := 75) (by decide +kernel) (by decide +kernel)), by decide +kernel, by decide +kernel⟩
abbrev mX0_beginOf : MD := (RX0, yX0_beginOf, cX0_beginOf, 2, (some .int), [])
theorem cmX0_beginOf : CM mX0_beginOf := ⟨by decide +kernel, rfl, rfl, by decide, (TB_mem (i := 435) (by decide +kernel) (by decide +kernel)), (TB_mem (i := 74) (by decide +kernel) (by decide +kernel)), by decide +kernel, by decide +kernel⟩
abbrev mX4_readyTime : MD := (RX4, yX4_readyTime, cX4_readyTime, 6, (some .int), [])
theorem cmX4_readyTime : CM mX4_readyTime := ⟨by decide +kernel, rfl, rfl, by decide, (TB_mem (i := 438) (by decide +kernel) (by decide +kernel)), (TB_mem (i := 75) (by decide +kernel) (by decide +kernel)), by decide +kernel, by decide +kernel⟩
abbrev mJ9_max_7cf53 : MD := (RJ9, yJ9_max_7cf53, cJ9_max_7cf53, 2, (some .int), [])
abbrev mX4_followJob : MD := (RX4, yX4_followJob, cX4_followJob, 5, none, [])
theorem cmX4_followJob : CM mX4_followJob := ⟨by decide +kernel, rfl, rfl, by decide, (TB_mem (i := 445) (by decide +kernel) (by decide +kernel)), (TB_mem (i := 75) (by decide +kernel) (by decide +kernel)), by decide +kernel, by decide +kernel⟩
abbrev mX4_complete : MD := (RX4, yX4_complete, cX4_complete, 3, none, [])
theorem cmX4_complete : CM mX4_complete := ⟨by decide +kernel, rfl, rfl, by decide, (TB_mem (i := 449) (by decide +kernel) (by decide +kernel)), (TB_mem (i := 75) (by decide +kernel) (by decide +kernel)), by decide +kernel, by decide +kernel⟩
abbrev mX4_costOf : MD := (RX4, yX4_costOf, cX4_costOf, 7, (some .long), [])
theorem cmX4_costOf : CM mX4_costOf := ⟨by decide +kernel, rfl, rfl, by decide, (TB_mem (i := 453) (by decide +kernel) (by decide +kernel)), (TB_mem (i := 75) (by decide +kernel) (by decide +kernel)), by decide +kernel, by decide +kernel⟩
abbrev mX2_startingSum : MD := (RX2, yX2_startingSum, cX2_startingSum, 1, (some .long), [])
theorem cmX2_startingSum : CM mX2_startingSum := ⟨by decide +kernel, rfl, rfl, by decide, (TB_mem (i := 457) (by decide +kernel) (by decide +kernel)), (TB_mem (i := 73) (by decide +kernel) (by decide +kernel)), by decide +kernel, by decide +kernel⟩
abbrev mX2_penaltyOf : MD := (RX2, yX2_penaltyOf, cX2_penaltyOf, 6, (some .long), [])
theorem cmX2_penaltyOf : CM mX2_penaltyOf := ⟨by decide +kernel, rfl, rfl, by decide, (TB_mem (i := 462) (by decide +kernel) (by decide +kernel)), (TB_mem (i := 73) (by decide +kernel) (by decide +kernel)), by decide +kernel, by decide +kernel⟩
abbrev mX2_joined : MD := (RX2, yX2_joined, cX2_joined, 5, (some .long), [])
theorem cmX2_joined : CM mX2_joined := ⟨by decide +kernel, rfl, rfl, by decide, (TB_mem (i := 466) (by decide +kernel) (by decide +kernel)), (TB_mem (i := 73) (by decide +kernel) (by decide +kernel)), by decide +kernel, by decide +kernel⟩
abbrev mJ9_max_f86c9 : MD := (RJ9, yJ9_max_f86c9, cJ9_max_f86c9, 4, (some .long), [])
abbrev mJ9_min_f86c9 : MD := (RJ9, yJ9_min_f86c9, cJ9_min_f86c9, 4, (some .long), [])
abbrev mX1_run : MD := (RX1, yX1_run, cX1_run, 7, (some .long), [])
theorem cmX1_run : CM mX1_run := ⟨by decide +kernel, rfl, rfl, by decide, (TB_mem (i := 477) (by decide +kernel) (by decide +kernel)), (TB_mem (i := 76) (by decide +kernel) (by decide +kernel)), by decide +kernel, by decide +kernel⟩
abbrev mX1_fillGaps : MD := (RX1, yX1_fillGaps, cX1_fillGaps, 4, none, [])
theorem cmX1_fillGaps : CM mX1_fillGaps := ⟨by decide +kernel, rfl, rfl, by decide, (TB_mem (i := 482) (by decide +kernel) (by decide +kernel)), (TB_mem (i := 76) (by decide +kernel) (by decide +kernel)), by decide +kernel, by decide +kernel⟩
abbrev mJ9_min_7cf53 : MD := (RJ9, yJ9_min_7cf53, cJ9_min_7cf53, 2, (some .int), [])
abbrev mX1_fillSets : MD := (RX1, yX1_fillSets, cX1_fillSets, 5, none, [])
theorem cmX1_fillSets : CM mX1_fillSets := ⟨by decide +kernel, rfl, rfl, by decide, (TB_mem (i := 490) (by decide +kernel) (by decide +kernel)), (TB_mem (i := 76) (by decide +kernel) (by decide +kernel)), by decide +kernel, by decide +kernel⟩
abbrev mX1_describeSet : MD := (RX1, yX1_describeSet, cX1_describeSet, 4, none, [])
theorem cmX1_describeSet : CM mX1_describeSet := ⟨by decide +kernel, rfl, rfl, by decide, (TB_mem (i := 494) (by decide +kernel) (by decide +kernel)), (TB_mem (i := 76) (by decide +kernel) (by decide +kernel)), by decide +kernel, by decide +kernel⟩
abbrev mX1_extend : MD := (RX1, yX1_extend, cX1_extend, 14, none, [])
theorem cmX1_extend : CM mX1_extend := ⟨by decide +kernel, rfl, rfl, by decide, (TB_mem (i := 501) (by decide +kernel) (by decide +kernel)), (TB_mem (i := 76) (by decide +kernel) (by decide +kernel)), by decide +kernel, by decide +kernel⟩
abbrev mX1_canBeFirst : MD := (RX1, yX1_canBeFirst, cX1_canBeFirst, 2, (some .boolean), [])
theorem cmX1_canBeFirst : CM mX1_canBeFirst := ⟨by decide +kernel, rfl, rfl, by decide, (TB_mem (i := 505) (by decide +kernel) (by decide +kernel)), (TB_mem (i := 76) (by decide +kernel) (by decide +kernel)), by decide +kernel, by decide +kernel⟩
abbrev mX1_endOf : MD := (RX1, yX1_endOf, cX1_endOf, 6, (some .int), [])
theorem cmX1_endOf : CM mX1_endOf := ⟨by decide +kernel, rfl, rfl, by decide, (TB_mem (i := 509) (by decide +kernel) (by decide +kernel)), (TB_mem (i := 76) (by decide +kernel) (by decide +kernel)), by decide +kernel, by decide +kernel⟩
abbrev mX1_sumWith : MD := (RX1, yX1_sumWith, cX1_sumWith, 8, (some .long), [])
theorem cmX1_sumWith : CM mX1_sumWith := ⟨by decide +kernel, rfl, rfl, by decide, (TB_mem (i := 513) (by decide +kernel) (by decide +kernel)), (TB_mem (i := 76) (by decide +kernel) (by decide +kernel)), by decide +kernel, by decide +kernel⟩
abbrev mX1_isOutdone : MD := (RX1, yX1_isOutdone, cX1_isOutdone, 10, (some .boolean), [])
theorem cmX1_isOutdone : CM mX1_isOutdone := ⟨by decide +kernel, rfl, rfl, by decide, (TB_mem (i := 519) (by decide +kernel) (by decide +kernel)), (TB_mem (i := 76) (by decide +kernel) (by decide +kernel)), by decide +kernel, by decide +kernel⟩
abbrev mX1_boundApart : MD := (RX1, yX1_boundApart, cX1_boundApart, 12, (some .long), [])
theorem cmX1_boundApart : CM mX1_boundApart := ⟨by decide +kernel, rfl, rfl, by decide, (TB_mem (i := 523) (by decide +kernel) (by decide +kernel)), (TB_mem (i := 76) (by decide +kernel) (by decide +kernel)), by decide +kernel, by decide +kernel⟩
abbrev mX1_boundInLine : MD := (RX1, yX1_boundInLine, cX1_boundInLine, 7, (some .long), [])
theorem cmX1_boundInLine : CM mX1_boundInLine := ⟨by decide +kernel, rfl, rfl, by decide, (TB_mem (i := 527) (by decide +kernel) (by decide +kernel)), (TB_mem (i := 76) (by decide +kernel) (by decide +kernel)), by decide +kernel, by decide +kernel⟩
abbrev mX1_nextGap : MD := (RX1, yX1_nextGap, cX1_nextGap, 5, (some .int), [])
theorem cmX1_nextGap : CM mX1_nextGap := ⟨by decide +kernel, rfl, rfl, by decide, (TB_mem (i := 531) (by decide +kernel) (by decide +kernel)), (TB_mem (i := 76) (by decide +kernel) (by decide +kernel)), by decide +kernel, by decide +kernel⟩
abbrev mX1_greatestInLine : MD := (RX1, yX1_greatestInLine, cX1_greatestInLine, 10, (some .long), [])
theorem cmX1_greatestInLine : CM mX1_greatestInLine := ⟨by decide +kernel, rfl, rfl, by decide, (TB_mem (i := 535) (by decide +kernel) (by decide +kernel)), (TB_mem (i := 76) (by decide +kernel) (by decide +kernel)), by decide +kernel, by decide +kernel⟩
abbrev mX1_sumInLine : MD := (RX1, yX1_sumInLine, cX1_sumInLine, 12, (some .long), [])
theorem cmX1_sumInLine : CM mX1_sumInLine := ⟨by decide +kernel, rfl, rfl, by decide, (TB_mem (i := 540) (by decide +kernel) (by decide +kernel)), (TB_mem (i := 76) (by decide +kernel) (by decide +kernel)), by decide +kernel, by decide +kernel⟩
abbrev mX1_remember : MD := (RX1, yX1_remember, cX1_remember, 11, none, [])
theorem cmX1_remember : CM mX1_remember := ⟨by decide +kernel, rfl, rfl, by decide, (TB_mem (i := 544) (by decide +kernel) (by decide +kernel)), (TB_mem (i := 76) (by decide +kernel) (by decide +kernel)), by decide +kernel, by decide +kernel⟩
abbrev mX1_writePlan : MD := (RX1, yX1_writePlan, cX1_writePlan, 5, none, [])
theorem cmX1_writePlan : CM mX1_writePlan := ⟨by decide +kernel, rfl, rfl, by decide, (TB_mem (i := 548) (by decide +kernel) (by decide +kernel)), (TB_mem (i := 76) (by decide +kernel) (by decide +kernel)), by decide +kernel, by decide +kernel⟩
abbrev mX5_batches : MD := (RX5, yX5_batches, cX5_batches, 1, (some .int), [])
theorem cmX5_batches : CM mX5_batches := ⟨by decide +kernel, rfl, rfl, by decide, (TB_mem (i := 555) (by decide +kernel) (by decide +kernel)), (TB_mem (i := 71) (by decide +kernel) (by decide +kernel)), by decide +kernel, by decide +kernel⟩
abbrev mX5_cost : MD := (RX5, yX5_cost, cX5_cost, 1, (some .long), [])
theorem cmX5_cost : CM mX5_cost := ⟨by decide +kernel, rfl, rfl, by decide, (TB_mem (i := 559) (by decide +kernel) (by decide +kernel)), (TB_mem (i := 71) (by decide +kernel) (by decide +kernel)), by decide +kernel, by decide +kernel⟩
abbrev mX5_bestCost : MD := (RX5, yX5_bestCost, cX5_bestCost, 1, (some .long), [])
theorem cmX5_bestCost : CM mX5_bestCost := ⟨by decide +kernel, rfl, rfl, by decide, (TB_mem (i := 563) (by decide +kernel) (by decide +kernel)), (TB_mem (i := 71) (by decide +kernel) (by decide +kernel)), by decide +kernel, by decide +kernel⟩
abbrev mX5_setupPrice : MD := (RX5, yX5_setupPrice, cX5_setupPrice, 3, (some .long), [])
theorem cmX5_setupPrice : CM mX5_setupPrice := ⟨by decide +kernel, rfl, rfl, by decide, (TB_mem (i := 567) (by decide +kernel) (by decide +kernel)), (TB_mem (i := 71) (by decide +kernel) (by decide +kernel)), by decide +kernel, by decide +kernel⟩
abbrev mX2_dropSetups : MD := (RX2, yX2_dropSetups, cX2_dropSetups, 3, none, [])
theorem cmX2_dropSetups : CM mX2_dropSetups := ⟨by decide +kernel, rfl, rfl, by decide, (TB_mem (i := 572) (by decide +kernel) (by decide +kernel)), (TB_mem (i := 73) (by decide +kernel) (by decide +kernel)), by decide +kernel, by decide +kernel⟩
abbrev mX5_digest : MD := (RX5, yX5_digest, cX5_digest, 7, (some .long), [])
theorem cmX5_digest : CM mX5_digest := ⟨by decide +kernel, rfl, rfl, by decide, (TB_mem (i := 576) (by decide +kernel) (by decide +kernel)), (TB_mem (i := 71) (by decide +kernel) (by decide +kernel)), by decide +kernel, by decide +kernel⟩
abbrev mX5_mixed : MD := (RX5, yX5_mixed, cX5_mixed, 4, (some .long), [])
theorem cmX5_mixed : CM mX5_mixed := ⟨by decide +kernel, rfl, rfl, by decide, (TB_mem (i := 580) (by decide +kernel) (by decide +kernel)), (TB_mem (i := 71) (by decide +kernel) (by decide +kernel)), by decide +kernel, by decide +kernel⟩
abbrev mX2_mixInto : MD := (RX2, yX2_mixInto, cX2_mixInto, 7, (some .long), [])
theorem cmX2_mixInto : CM mX2_mixInto := ⟨by decide +kernel, rfl, rfl, by decide, (TB_mem (i := 585) (by decide +kernel) (by decide +kernel)), (TB_mem (i := 73) (by decide +kernel) (by decide +kernel)), by decide +kernel, by decide +kernel⟩
abbrev mL_addJob : MD := (RL, yL_addJob, cL_addJob, 8, (some .int), [(0, 16, 19, 13), (0, 16, 23, 15)])
abbrev mX5_addJob : MD := (RX5, yX5_addJob, cX5_addJob, 7, (some .int), [])
theorem cmX5_addJob : CM mX5_addJob := ⟨by decide +kernel, rfl, rfl, by decide, (TB_mem (i := 596) (by decide +kernel) (by decide +kernel)), (TB_mem (i := 71) (by decide +kernel) (by decide +kernel)), by decide +kernel, by decide +kernel⟩
abbrev mX5_isValue : MD := (RX5, yX5_isValue, cX5_isValue, 2, (some .boolean), [])
theorem cmX5_isValue : CM mX5_isValue := ⟨by decide +kernel, rfl, rfl, by decide, (TB_mem (i := 599) (by decide +kernel) (by decide +kernel)), (TB_mem (i := 71) (by decide +kernel) (by decide +kernel)), by decide +kernel, by decide +kernel⟩
abbrev mL_removeJob : MD := (RL, yL_removeJob, cL_removeJob, 4, (some .int), [(0, 9, 12, 21)])
abbrev mX5_removeJob : MD := (RX5, yX5_removeJob, cX5_removeJob, 2, (some .int), [])
theorem cmX5_removeJob : CM mX5_removeJob := ⟨by decide +kernel, rfl, rfl, by decide, (TB_mem (i := 694) (by decide +kernel) (by decide +kernel)), (TB_mem (i := 71) (by decide +kernel) (by decide +kernel)), by decide +kernel, by decide +kernel⟩
abbrev mX2_dropJob : MD := (RX2, yX2_dropJob, cX2_dropJob, 4, none, [])
theorem cmX2_dropJob : CM mX2_dropJob := ⟨by decide +kernel, rfl, rfl, by decide, (TB_mem (i := 714) (by decide +kernel) (by decide +kernel)), (TB_mem (i := 73) (by decide +kernel) (by decide +kernel)), by decide +kernel, by decide +kernel⟩
abbrev mX0_dropJob : MD := (RX0, yX0_dropJob, cX0_dropJob, 9, none, [])
theorem cmX0_dropJob : CM mX0_dropJob := ⟨by decide +kernel, rfl, rfl, by decide, (TB_mem (i := 718) (by decide +kernel) (by decide +kernel)), (TB_mem (i := 74) (by decide +kernel) (by decide +kernel)), by decide +kernel, by decide +kernel⟩
abbrev mL_setJob : MD := (RL, yL_setJob, cL_setJob, 6, (some .int), [(0, 12, 15, 21), (0, 12, 19, 13)])
abbrev mX5_setJob : MD := (RX5, yX5_setJob, cX5_setJob, 5, (some .int), [])
theorem cmX5_setJob : CM mX5_setJob := ⟨by decide +kernel, rfl, rfl, by decide, (TB_mem (i := 725) (by decide +kernel) (by decide +kernel)), (TB_mem (i := 71) (by decide +kernel) (by decide +kernel)), by decide +kernel, by decide +kernel⟩
abbrev mL_job : MD := (RL, yL_job, cL_job, 5, (some .int), [(0, 10, 13, 21), (0, 10, 17, 13)])
abbrev mX5_job : MD := (RX5, yX5_job, cX5_job, 3, (some .int), [])
theorem cmX5_job : CM mX5_job := ⟨by decide +kernel, rfl, rfl, by decide, (TB_mem (i := 733) (by decide +kernel) (by decide +kernel)), (TB_mem (i := 71) (by decide +kernel) (by decide +kernel)), by decide +kernel, by decide +kernel⟩
abbrev mL_setSetup : MD := (RL, yL_setSetup, cL_setSetup, 6, (some .int), [(0, 12, 15, 21), (0, 12, 19, 13)])
abbrev mX5_setSetup : MD := (RX5, yX5_setSetup, cX5_setSetup, 5, (some .int), [])
theorem cmX5_setSetup : CM mX5_setSetup := ⟨by decide +kernel, rfl, rfl, by decide, (TB_mem (i := 741) (by decide +kernel) (by decide +kernel)), (TB_mem (i := 71) (by decide +kernel) (by decide +kernel)), by decide +kernel, by decide +kernel⟩
abbrev mL_setObjective : MD := (RL, yL_setObjective, cL_setObjective, 4, (some .int), [(0, 9, 12, 13)])
abbrev mX5_setObjective : MD := (RX5, yX5_setObjective, cX5_setObjective, 3, (some .int), [])
theorem cmX5_setObjective : CM mX5_setObjective := ⟨by decide +kernel, rfl, rfl, by decide, (TB_mem (i := 750) (by decide +kernel) (by decide +kernel)), (TB_mem (i := 71) (by decide +kernel) (by decide +kernel)), by decide +kernel, by decide +kernel⟩
abbrev mL_append : MD := (RL, yL_append, cL_append, 4, (some .int), [(0, 9, 12, 13), (0, 9, 15, 15)])
abbrev mX5_append : MD := (RX5, yX5_append, cX5_append, 2, (some .int), [])
theorem cmX5_append : CM mX5_append := ⟨by decide +kernel, rfl, rfl, by decide, (TB_mem (i := 758) (by decide +kernel) (by decide +kernel)), (TB_mem (i := 71) (by decide +kernel) (by decide +kernel)), by decide +kernel, by decide +kernel⟩
abbrev mL_keepRule : MD := (RL, yL_keepRule, cL_keepRule, 4, (some .int), [(0, 8, 11, 13)])
abbrev mX5_keepRule : MD := (RX5, yX5_keepRule, cX5_keepRule, 4, (some .long), [])
theorem cmX5_keepRule : CM mX5_keepRule := ⟨by decide +kernel, rfl, rfl, by decide, (TB_mem (i := 767) (by decide +kernel) (by decide +kernel)), (TB_mem (i := 71) (by decide +kernel) (by decide +kernel)), by decide +kernel, by decide +kernel⟩
abbrev mL_improve : MD := (RL, yL_improve, cL_improve, 4, (some .int), [(0, 9, 12, 13)])
abbrev mX5_improve : MD := (RX5, yX5_improve, cX5_improve, 3, (some .int), [])
theorem cmX5_improve : CM mX5_improve := ⟨by decide +kernel, rfl, rfl, by decide, (TB_mem (i := 775) (by decide +kernel) (by decide +kernel)), (TB_mem (i := 71) (by decide +kernel) (by decide +kernel)), by decide +kernel, by decide +kernel⟩
abbrev mX5_makeStep : MD := (RX5, yX5_makeStep, cX5_makeStep, 5, (some .boolean), [])
theorem cmX5_makeStep : CM mX5_makeStep := ⟨by decide +kernel, rfl, rfl, by decide, (TB_mem (i := 780) (by decide +kernel) (by decide +kernel)), (TB_mem (i := 71) (by decide +kernel) (by decide +kernel)), by decide +kernel, by decide +kernel⟩
abbrev mX5_tryMove : MD := (RX5, yX5_tryMove, cX5_tryMove, 5, (some .boolean), [])
theorem cmX5_tryMove : CM mX5_tryMove := ⟨by decide +kernel, rfl, rfl, by decide, (TB_mem (i := 784) (by decide +kernel) (by decide +kernel)), (TB_mem (i := 71) (by decide +kernel) (by decide +kernel)), by decide +kernel, by decide +kernel⟩
abbrev mX0_takeMoved : MD := (RX0, yX0_takeMoved, cX0_takeMoved, 5, none, [])
theorem cmX0_takeMoved : CM mX0_takeMoved := ⟨by decide +kernel, rfl, rfl, by decide, (TB_mem (i := 788) (by decide +kernel) (by decide +kernel)), (TB_mem (i := 74) (by decide +kernel) (by decide +kernel)), by decide +kernel, by decide +kernel⟩
abbrev mL_batch : MD := (RL, yL_batch, cL_batch, 5, (some .int), [(0, 10, 13, 21), (0, 10, 17, 13)])
abbrev mX5_batch : MD := (RX5, yX5_batch, cX5_batch, 3, (some .int), [])
theorem cmX5_batch : CM mX5_batch := ⟨by decide +kernel, rfl, rfl, by decide, (TB_mem (i := 797) (by decide +kernel) (by decide +kernel)), (TB_mem (i := 71) (by decide +kernel) (by decide +kernel)), by decide +kernel, by decide +kernel⟩
abbrev mL_jobAt : MD := (RL, yL_jobAt, cL_jobAt, 5, (some .int), [(0, 10, 13, 21)])
abbrev mX5_jobAt : MD := (RX5, yX5_jobAt, cX5_jobAt, 3, (some .int), [])
theorem cmX5_jobAt : CM mX5_jobAt := ⟨by decide +kernel, rfl, rfl, by decide, (TB_mem (i := 805) (by decide +kernel) (by decide +kernel)), (TB_mem (i := 71) (by decide +kernel) (by decide +kernel)), by decide +kernel, by decide +kernel⟩
abbrev mX0_lengthOf : MD := (RX0, yX0_lengthOf, cX0_lengthOf, 2, (some .int), [])
theorem cmX0_lengthOf : CM mX0_lengthOf := ⟨by decide +kernel, rfl, rfl, by decide, (TB_mem (i := 809) (by decide +kernel) (by decide +kernel)), (TB_mem (i := 74) (by decide +kernel) (by decide +kernel)), by decide +kernel, by decide +kernel⟩
abbrev mL_planned : MD := (RL, yL_planned, cL_planned, 5, (some .int), [(0, 10, 13, 21), (0, 10, 17, 13)])
abbrev mX5_planned : MD := (RX5, yX5_planned, cX5_planned, 3, (some .int), [])
theorem cmX5_planned : CM mX5_planned := ⟨by decide +kernel, rfl, rfl, by decide, (TB_mem (i := 818) (by decide +kernel) (by decide +kernel)), (TB_mem (i := 71) (by decide +kernel) (by decide +kernel)), by decide +kernel, by decide +kernel⟩
abbrev mL_total : MD := (RL, yL_total, cL_total, 4, (some .int), [(0, 9, 12, 13)])
abbrev mX5_total : MD := (RX5, yX5_total, cX5_total, 2, (some .int), [])
theorem cmX5_total : CM mX5_total := ⟨by decide +kernel, rfl, rfl, by decide, (TB_mem (i := 825) (by decide +kernel) (by decide +kernel)), (TB_mem (i := 71) (by decide +kernel) (by decide +kernel)), by decide +kernel, by decide +kernel⟩
abbrev mL_ruleCost : MD := (RL, yL_ruleCost, cL_ruleCost, 4, (some .int), [(0, 8, 11, 13)])
abbrev mX5_ruleCost : MD := (RX5, yX5_ruleCost, cX5_ruleCost, 2, (some .long), [])
theorem cmX5_ruleCost : CM mX5_ruleCost := ⟨by decide +kernel, rfl, rfl, by decide, (TB_mem (i := 832) (by decide +kernel) (by decide +kernel)), (TB_mem (i := 71) (by decide +kernel) (by decide +kernel)), by decide +kernel, by decide +kernel⟩
abbrev mL_bestWithout : MD := (RL, yL_bestWithout, cL_bestWithout, 4, (some .int), [(0, 8, 11, 21)])
abbrev mX5_bestWithout : MD := (RX5, yX5_bestWithout, cX5_bestWithout, 2, (some .long), [])
theorem cmX5_bestWithout : CM mX5_bestWithout := ⟨by decide +kernel, rfl, rfl, by decide, (TB_mem (i := 839) (by decide +kernel) (by decide +kernel)), (TB_mem (i := 71) (by decide +kernel) (by decide +kernel)), by decide +kernel, by decide +kernel⟩
abbrev mL_bestWithFirst : MD := (RL, yL_bestWithFirst, cL_bestWithFirst, 4, (some .int), [(0, 8, 11, 21)])
abbrev mX5_bestWithFirst : MD := (RX5, yX5_bestWithFirst, cX5_bestWithFirst, 2, (some .long), [])
theorem cmX5_bestWithFirst : CM mX5_bestWithFirst := ⟨by decide +kernel, rfl, rfl, by decide, (TB_mem (i := 846) (by decide +kernel) (by decide +kernel)), (TB_mem (i := 71) (by decide +kernel) (by decide +kernel)), by decide +kernel, by decide +kernel⟩
abbrev mL_latestRelease : MD := (RL, yL_latestRelease, cL_latestRelease, 4, (some .int), [(0, 9, 12, 21)])
abbrev mX5_latestRelease : MD := (RX5, yX5_latestRelease, cX5_latestRelease, 7, (some .int), [])
theorem cmX5_latestRelease : CM mX5_latestRelease := ⟨by decide +kernel, rfl, rfl, by decide, (TB_mem (i := 853) (by decide +kernel) (by decide +kernel)), (TB_mem (i := 71) (by decide +kernel) (by decide +kernel)), by decide +kernel, by decide +kernel⟩
abbrev mX5_latestInDraft : MD := (RX5, yX5_latestInDraft, cX5_latestInDraft, 10, (some .int), [])
theorem cmX5_latestInDraft : CM mX5_latestInDraft := ⟨by decide +kernel, rfl, rfl, by decide, (TB_mem (i := 858) (by decide +kernel) (by decide +kernel)), (TB_mem (i := 71) (by decide +kernel) (by decide +kernel)), by decide +kernel, by decide +kernel⟩
abbrev mL_undo : MD := (RL, yL_undo, cL_undo, 3, (some .int), [(0, 8, 11, 15)])
abbrev mX5_undo : MD := (RX5, yX5_undo, cX5_undo, 1, (some .int), [])
theorem cmX5_undo : CM mX5_undo := ⟨by decide +kernel, rfl, rfl, by decide, (TB_mem (i := 865) (by decide +kernel) (by decide +kernel)), (TB_mem (i := 71) (by decide +kernel) (by decide +kernel)), by decide +kernel, by decide +kernel⟩
abbrev mX6_init : MD := (RX6, yX6_init, cX6_init, 2, none, [])
theorem cmX6_init : CM mX6_init := ⟨by decide +kernel, rfl, rfl, by decide, (TB_mem (i := 871) (by decide +kernel) (by decide +kernel)), (TB_mem (i := 77) (by decide +kernel) (by decide +kernel)), by decide +kernel, by decide +kernel⟩
abbrev mX6_thrown : MD := (RX6, yX6_thrown, cX6_thrown, 1, (some .int), [])
theorem cmX6_thrown : CM mX6_thrown := ⟨by decide +kernel, rfl, rfl, by decide, (TB_mem (i := 957) (by decide +kernel) (by decide +kernel)), (TB_mem (i := 77) (by decide +kernel) (by decide +kernel)), by decide +kernel, by decide +kernel⟩
abbrev mX6_addJob : MD := (RX6, yX6_addJob, cX6_addJob, 8, (some .int), [])
theorem cmX6_addJob : CM mX6_addJob := ⟨by decide +kernel, rfl, rfl, by decide, (TB_mem (i := 961) (by decide +kernel) (by decide +kernel)), (TB_mem (i := 77) (by decide +kernel) (by decide +kernel)), by decide +kernel, by decide +kernel⟩
abbrev mX6_isValue : MD := (RX6, yX6_isValue, cX6_isValue, 2, (some .boolean), [])
theorem cmX6_isValue : CM mX6_isValue := ⟨by decide +kernel, rfl, rfl, by decide, (TB_mem (i := 964) (by decide +kernel) (by decide +kernel)), (TB_mem (i := 77) (by decide +kernel) (by decide +kernel)), by decide +kernel, by decide +kernel⟩
abbrev mX6_in : MD := (RX6, yX6_in, cX6_in, 6, (some .boolean), [])
theorem cmX6_in : CM mX6_in := ⟨by decide +kernel, rfl, rfl, by decide, (TB_mem (i := 968) (by decide +kernel) (by decide +kernel)), (TB_mem (i := 77) (by decide +kernel) (by decide +kernel)), by decide +kernel, by decide +kernel⟩
abbrev mX6_goes : MD := (RX6, yX6_goes, cX6_goes, 3, (some .boolean), [])
theorem cmX6_goes : CM mX6_goes := ⟨by decide +kernel, rfl, rfl, by decide, (TB_mem (i := 976) (by decide +kernel) (by decide +kernel)), (TB_mem (i := 77) (by decide +kernel) (by decide +kernel)), by decide +kernel, by decide +kernel⟩
abbrev mX6_save : MD := (RX6, yX6_save, cX6_save, 2, none, [])
theorem cmX6_save : CM mX6_save := ⟨by decide +kernel, rfl, rfl, by decide, (TB_mem (i := 980) (by decide +kernel) (by decide +kernel)), (TB_mem (i := 77) (by decide +kernel) (by decide +kernel)), by decide +kernel, by decide +kernel⟩
abbrev mX6_removeJob : MD := (RX6, yX6_removeJob, cX6_removeJob, 6, (some .int), [])
theorem cmX6_removeJob : CM mX6_removeJob := ⟨by decide +kernel, rfl, rfl, by decide, (TB_mem (i := 984) (by decide +kernel) (by decide +kernel)), (TB_mem (i := 77) (by decide +kernel) (by decide +kernel)), by decide +kernel, by decide +kernel⟩
abbrev mX6_isJob : MD := (RX6, yX6_isJob, cX6_isJob, 2, (some .boolean), [])
theorem cmX6_isJob : CM mX6_isJob := ⟨by decide +kernel, rfl, rfl, by decide, (TB_mem (i := 988) (by decide +kernel) (by decide +kernel)), (TB_mem (i := 77) (by decide +kernel) (by decide +kernel)), by decide +kernel, by decide +kernel⟩
abbrev mX6_setJob : MD := (RX6, yX6_setJob, cX6_setJob, 5, (some .int), [])
theorem cmX6_setJob : CM mX6_setJob := ⟨by decide +kernel, rfl, rfl, by decide, (TB_mem (i := 992) (by decide +kernel) (by decide +kernel)), (TB_mem (i := 77) (by decide +kernel) (by decide +kernel)), by decide +kernel, by decide +kernel⟩
abbrev mX6_of : MD := (RX6, yX6_of, cX6_of, 3, (some .int), [])
theorem cmX6_of : CM mX6_of := ⟨by decide +kernel, rfl, rfl, by decide, (TB_mem (i := 997) (by decide +kernel) (by decide +kernel)), (TB_mem (i := 77) (by decide +kernel) (by decide +kernel)), by decide +kernel, by decide +kernel⟩
abbrev mX6_job : MD := (RX6, yX6_job, cX6_job, 3, (some .int), [])
theorem cmX6_job : CM mX6_job := ⟨by decide +kernel, rfl, rfl, by decide, (TB_mem (i := 1001) (by decide +kernel) (by decide +kernel)), (TB_mem (i := 77) (by decide +kernel) (by decide +kernel)), by decide +kernel, by decide +kernel⟩
abbrev mX6_jobs : MD := (RX6, yX6_jobs, cX6_jobs, 1, (some .int), [])
theorem cmX6_jobs : CM mX6_jobs := ⟨by decide +kernel, rfl, rfl, by decide, (TB_mem (i := 1005) (by decide +kernel) (by decide +kernel)), (TB_mem (i := 77) (by decide +kernel) (by decide +kernel)), by decide +kernel, by decide +kernel⟩
abbrev mX6_setSetup : MD := (RX6, yX6_setSetup, cX6_setSetup, 6, (some .int), [])
theorem cmX6_setSetup : CM mX6_setSetup := ⟨by decide +kernel, rfl, rfl, by decide, (TB_mem (i := 1009) (by decide +kernel) (by decide +kernel)), (TB_mem (i := 77) (by decide +kernel) (by decide +kernel)), by decide +kernel, by decide +kernel⟩
abbrev mX6_setMode : MD := (RX6, yX6_setMode, cX6_setMode, 4, (some .int), [])
theorem cmX6_setMode : CM mX6_setMode := ⟨by decide +kernel, rfl, rfl, by decide, (TB_mem (i := 1015) (by decide +kernel) (by decide +kernel)), (TB_mem (i := 77) (by decide +kernel) (by decide +kernel)), by decide +kernel, by decide +kernel⟩
abbrev mX6_setObjective : MD := (RX6, yX6_setObjective, cX6_setObjective, 3, (some .int), [])
theorem cmX6_setObjective : CM mX6_setObjective := ⟨by decide +kernel, rfl, rfl, by decide, (TB_mem (i := 1019) (by decide +kernel) (by decide +kernel)), (TB_mem (i := 77) (by decide +kernel) (by decide +kernel)), by decide +kernel, by decide +kernel⟩
abbrev mX6_append : MD := (RX6, yX6_append, cX6_append, 2, (some .int), [])
theorem cmX6_append : CM mX6_append := ⟨by decide +kernel, rfl, rfl, by decide, (TB_mem (i := 1024) (by decide +kernel) (by decide +kernel)), (TB_mem (i := 77) (by decide +kernel) (by decide +kernel)), by decide +kernel, by decide +kernel⟩
abbrev mX6_clearText : MD := (RX6, yX6_clearText, cX6_clearText, 2, (some .int), [])
theorem cmX6_clearText : CM mX6_clearText := ⟨by decide +kernel, rfl, rfl, by decide, (TB_mem (i := 1029) (by decide +kernel) (by decide +kernel)), (TB_mem (i := 77) (by decide +kernel) (by decide +kernel)), by decide +kernel, by decide +kernel⟩
abbrev mX6_parse : MD := (RX6, yX6_parse, cX6_parse, 3, (some .int), [])
theorem cmX6_parse : CM mX6_parse := ⟨by decide +kernel, rfl, rfl, by decide, (TB_mem (i := 1033) (by decide +kernel) (by decide +kernel)), (TB_mem (i := 77) (by decide +kernel) (by decide +kernel)), by decide +kernel, by decide +kernel⟩
abbrev mX6_reads : MD := (RX6, yX6_reads, cX6_reads, 7, (some .int), [])
theorem cmX6_reads : CM mX6_reads := ⟨by decide +kernel, rfl, rfl, by decide, (TB_mem (i := 1037) (by decide +kernel) (by decide +kernel)), (TB_mem (i := 77) (by decide +kernel) (by decide +kernel)), by decide +kernel, by decide +kernel⟩
abbrev mX6_has : MD := (RX6, yX6_has, cX6_has, 2, (some .boolean), [])
theorem cmX6_has : CM mX6_has := ⟨by decide +kernel, rfl, rfl, by decide, (TB_mem (i := 1040) (by decide +kernel) (by decide +kernel)), (TB_mem (i := 77) (by decide +kernel) (by decide +kernel)), by decide +kernel, by decide +kernel⟩
abbrev mX6_keepsIt : MD := (RX6, yX6_keepsIt, cX6_keepsIt, 2, none, [])
theorem cmX6_keepsIt : CM mX6_keepsIt := ⟨by decide +kernel, rfl, rfl, by decide, (TB_mem (i := 1044) (by decide +kernel) (by decide +kernel)), (TB_mem (i := 77) (by decide +kernel) (by decide +kernel)), by decide +kernel, by decide +kernel⟩
abbrev mX6_runs : MD := (RX6, yX6_runs, cX6_runs, 6, (some .int), [])
theorem cmX6_runs : CM mX6_runs := ⟨by decide +kernel, rfl, rfl, by decide, (TB_mem (i := 1048) (by decide +kernel) (by decide +kernel)), (TB_mem (i := 77) (by decide +kernel) (by decide +kernel)), by decide +kernel, by decide +kernel⟩
abbrev mX6_costOfNothing : MD := (RX6, yX6_costOfNothing, cX6_costOfNothing, 1, (some .int), [])
theorem cmX6_costOfNothing : CM mX6_costOfNothing := ⟨by decide +kernel, rfl, rfl, by decide, (TB_mem (i := 1052) (by decide +kernel) (by decide +kernel)), (TB_mem (i := 77) (by decide +kernel) (by decide +kernel)), by decide +kernel, by decide +kernel⟩
abbrev mX6_isSum : MD := (RX6, yX6_isSum, cX6_isSum, 1, (some .boolean), [])
theorem cmX6_isSum : CM mX6_isSum := ⟨by decide +kernel, rfl, rfl, by decide, (TB_mem (i := 1056) (by decide +kernel) (by decide +kernel)), (TB_mem (i := 77) (by decide +kernel) (by decide +kernel)), by decide +kernel, by decide +kernel⟩
abbrev mX6_endOfBatch : MD := (RX6, yX6_endOfBatch, cX6_endOfBatch, 3, (some .int), [])
theorem cmX6_endOfBatch : CM mX6_endOfBatch := ⟨by decide +kernel, rfl, rfl, by decide, (TB_mem (i := 1061) (by decide +kernel) (by decide +kernel)), (TB_mem (i := 77) (by decide +kernel) (by decide +kernel)), by decide +kernel, by decide +kernel⟩
abbrev mX6_runsBatch : MD := (RX6, yX6_runsBatch, cX6_runsBatch, 9, (some .int), [])
theorem cmX6_runsBatch : CM mX6_runsBatch := ⟨by decide +kernel, rfl, rfl, by decide, (TB_mem (i := 1065) (by decide +kernel) (by decide +kernel)), (TB_mem (i := 77) (by decide +kernel) (by decide +kernel)), by decide +kernel, by decide +kernel⟩
abbrev mX6_later : MD := (RX6, yX6_later, cX6_later, 2, (some .int), [])
theorem cmX6_later : CM mX6_later := ⟨by decide +kernel, rfl, rfl, by decide, (TB_mem (i := 1068) (by decide +kernel) (by decide +kernel)), (TB_mem (i := 77) (by decide +kernel) (by decide +kernel)), by decide +kernel, by decide +kernel⟩
abbrev mX6_setup : MD := (RX6, yX6_setup, cX6_setup, 3, (some .int), [])
theorem cmX6_setup : CM mX6_setup := ⟨by decide +kernel, rfl, rfl, by decide, (TB_mem (i := 1072) (by decide +kernel) (by decide +kernel)), (TB_mem (i := 77) (by decide +kernel) (by decide +kernel)), by decide +kernel, by decide +kernel⟩
abbrev mX6_costOf : MD := (RX6, yX6_costOf, cX6_costOf, 6, (some .int), [])
theorem cmX6_costOf : CM mX6_costOf := ⟨by decide +kernel, rfl, rfl, by decide, (TB_mem (i := 1076) (by decide +kernel) (by decide +kernel)), (TB_mem (i := 77) (by decide +kernel) (by decide +kernel)), by decide +kernel, by decide +kernel⟩
abbrev mX6_with : MD := (RX6, yX6_with, cX6_with, 3, (some .int), [])
theorem cmX6_with : CM mX6_with := ⟨by decide +kernel, rfl, rfl, by decide, (TB_mem (i := 1080) (by decide +kernel) (by decide +kernel)), (TB_mem (i := 77) (by decide +kernel) (by decide +kernel)), by decide +kernel, by decide +kernel⟩
abbrev mX6_keepRule : MD := (RX6, yX6_keepRule, cX6_keepRule, 3, (some .long), [])
theorem cmX6_keepRule : CM mX6_keepRule := ⟨by decide +kernel, rfl, rfl, by decide, (TB_mem (i := 1084) (by decide +kernel) (by decide +kernel)), (TB_mem (i := 77) (by decide +kernel) (by decide +kernel)), by decide +kernel, by decide +kernel⟩
abbrev mX6_ruled : MD := (RX6, yX6_ruled, cX6_ruled, 5, (some .int), [])
theorem cmX6_ruled : CM mX6_ruled := ⟨by decide +kernel, rfl, rfl, by decide, (TB_mem (i := 1088) (by decide +kernel) (by decide +kernel)), (TB_mem (i := 77) (by decide +kernel) (by decide +kernel)), by decide +kernel, by decide +kernel⟩
abbrev mX6_isAhead : MD := (RX6, yX6_isAhead, cX6_isAhead, 5, (some .boolean), [])
theorem cmX6_isAhead : CM mX6_isAhead := ⟨by decide +kernel, rfl, rfl, by decide, (TB_mem (i := 1092) (by decide +kernel) (by decide +kernel)), (TB_mem (i := 77) (by decide +kernel) (by decide +kernel)), by decide +kernel, by decide +kernel⟩
abbrev mX6_familyDue : MD := (RX6, yX6_familyDue, cX6_familyDue, 4, (some .int), [])
theorem cmX6_familyDue : CM mX6_familyDue := ⟨by decide +kernel, rfl, rfl, by decide, (TB_mem (i := 1096) (by decide +kernel) (by decide +kernel)), (TB_mem (i := 77) (by decide +kernel) (by decide +kernel)), by decide +kernel, by decide +kernel⟩
abbrev mX6_opensByFamilies : MD := (RX6, yX6_opensByFamilies, cX6_opensByFamilies, 2, none, [])
theorem cmX6_opensByFamilies : CM mX6_opensByFamilies := ⟨by decide +kernel, rfl, rfl, by decide, (TB_mem (i := 1100) (by decide +kernel) (by decide +kernel)), (TB_mem (i := 77) (by decide +kernel) (by decide +kernel)), by decide +kernel, by decide +kernel⟩
abbrev mX6_ruleCost : MD := (RX6, yX6_ruleCost, cX6_ruleCost, 2, (some .long), [])
theorem cmX6_ruleCost : CM mX6_ruleCost := ⟨by decide +kernel, rfl, rfl, by decide, (TB_mem (i := 1104) (by decide +kernel) (by decide +kernel)), (TB_mem (i := 77) (by decide +kernel) (by decide +kernel)), by decide +kernel, by decide +kernel⟩
abbrev mX6_improve : MD := (RX6, yX6_improve, cX6_improve, 3, (some .int), [])
theorem cmX6_improve : CM mX6_improve := ⟨by decide +kernel, rfl, rfl, by decide, (TB_mem (i := 1108) (by decide +kernel) (by decide +kernel)), (TB_mem (i := 77) (by decide +kernel) (by decide +kernel)), by decide +kernel, by decide +kernel⟩
abbrev mX6_improves : MD := (RX6, yX6_improves, cX6_improves, 5, (some .boolean), [])
theorem cmX6_improves : CM mX6_improves := ⟨by decide +kernel, rfl, rfl, by decide, (TB_mem (i := 1112) (by decide +kernel) (by decide +kernel)), (TB_mem (i := 77) (by decide +kernel) (by decide +kernel)), by decide +kernel, by decide +kernel⟩
abbrev mX6_takesKept : MD := (RX6, yX6_takesKept, cX6_takesKept, 2, none, [])
theorem cmX6_takesKept : CM mX6_takesKept := ⟨by decide +kernel, rfl, rfl, by decide, (TB_mem (i := 1116) (by decide +kernel) (by decide +kernel)), (TB_mem (i := 77) (by decide +kernel) (by decide +kernel)), by decide +kernel, by decide +kernel⟩
abbrev mX6_laysMoved : MD := (RX6, yX6_laysMoved, cX6_laysMoved, 5, none, [])
theorem cmX6_laysMoved : CM mX6_laysMoved := ⟨by decide +kernel, rfl, rfl, by decide, (TB_mem (i := 1120) (by decide +kernel) (by decide +kernel)), (TB_mem (i := 77) (by decide +kernel) (by decide +kernel)), by decide +kernel, by decide +kernel⟩
abbrev mX6_batches : MD := (RX6, yX6_batches, cX6_batches, 2, (some .int), [])
theorem cmX6_batches : CM mX6_batches := ⟨by decide +kernel, rfl, rfl, by decide, (TB_mem (i := 1124) (by decide +kernel) (by decide +kernel)), (TB_mem (i := 77) (by decide +kernel) (by decide +kernel)), by decide +kernel, by decide +kernel⟩
abbrev mX6_runsKept : MD := (RX6, yX6_runsKept, cX6_runsKept, 1, (some .int), [])
theorem cmX6_runsKept : CM mX6_runsKept := ⟨by decide +kernel, rfl, rfl, by decide, (TB_mem (i := 1128) (by decide +kernel) (by decide +kernel)), (TB_mem (i := 77) (by decide +kernel) (by decide +kernel)), by decide +kernel, by decide +kernel⟩
abbrev mX6_batch : MD := (RX6, yX6_batch, cX6_batch, 4, (some .int), [])
theorem cmX6_batch : CM mX6_batch := ⟨by decide +kernel, rfl, rfl, by decide, (TB_mem (i := 1132) (by decide +kernel) (by decide +kernel)), (TB_mem (i := 77) (by decide +kernel) (by decide +kernel)), by decide +kernel, by decide +kernel⟩
abbrev mX6_batchValue : MD := (RX6, yX6_batchValue, cX6_batchValue, 5, (some .int), [])
theorem cmX6_batchValue : CM mX6_batchValue := ⟨by decide +kernel, rfl, rfl, by decide, (TB_mem (i := 1136) (by decide +kernel) (by decide +kernel)), (TB_mem (i := 77) (by decide +kernel) (by decide +kernel)), by decide +kernel, by decide +kernel⟩
abbrev mX6_firstOf : MD := (RX6, yX6_firstOf, cX6_firstOf, 3, (some .int), [])
theorem cmX6_firstOf : CM mX6_firstOf := ⟨by decide +kernel, rfl, rfl, by decide, (TB_mem (i := 1140) (by decide +kernel) (by decide +kernel)), (TB_mem (i := 77) (by decide +kernel) (by decide +kernel)), by decide +kernel, by decide +kernel⟩
abbrev mX6_jobAt : MD := (RX6, yX6_jobAt, cX6_jobAt, 5, (some .int), [])
theorem cmX6_jobAt : CM mX6_jobAt := ⟨by decide +kernel, rfl, rfl, by decide, (TB_mem (i := 1144) (by decide +kernel) (by decide +kernel)), (TB_mem (i := 77) (by decide +kernel) (by decide +kernel)), by decide +kernel, by decide +kernel⟩
abbrev mX6_planned : MD := (RX6, yX6_planned, cX6_planned, 6, (some .int), [])
theorem cmX6_planned : CM mX6_planned := ⟨by decide +kernel, rfl, rfl, by decide, (TB_mem (i := 1148) (by decide +kernel) (by decide +kernel)), (TB_mem (i := 77) (by decide +kernel) (by decide +kernel)), by decide +kernel, by decide +kernel⟩
abbrev mX6_cost : MD := (RX6, yX6_cost, cX6_cost, 1, (some .long), [])
theorem cmX6_cost : CM mX6_cost := ⟨by decide +kernel, rfl, rfl, by decide, (TB_mem (i := 1152) (by decide +kernel) (by decide +kernel)), (TB_mem (i := 77) (by decide +kernel) (by decide +kernel)), by decide +kernel, by decide +kernel⟩
abbrev mX6_total : MD := (RX6, yX6_total, cX6_total, 6, (some .int), [])
theorem cmX6_total : CM mX6_total := ⟨by decide +kernel, rfl, rfl, by decide, (TB_mem (i := 1156) (by decide +kernel) (by decide +kernel)), (TB_mem (i := 77) (by decide +kernel) (by decide +kernel)), by decide +kernel, by decide +kernel⟩
abbrev mX6_keepBest : MD := (RX6, yX6_keepBest, cX6_keepBest, 2, (some .long), [])
theorem cmX6_keepBest : CM mX6_keepBest := ⟨by decide +kernel, rfl, rfl, by decide, (TB_mem (i := 1161) (by decide +kernel) (by decide +kernel)), (TB_mem (i := 77) (by decide +kernel) (by decide +kernel)), by decide +kernel, by decide +kernel⟩
abbrev mX6_best : MD := (RX6, yX6_best, cX6_best, 1, (some .int), [])
theorem cmX6_best : CM mX6_best := ⟨by decide +kernel, rfl, rfl, by decide, (TB_mem (i := 1165) (by decide +kernel) (by decide +kernel)), (TB_mem (i := 77) (by decide +kernel) (by decide +kernel)), by decide +kernel, by decide +kernel⟩
abbrev mX6_searched : MD := (RX6, yX6_searched, cX6_searched, 8, (some .int), [])
theorem cmX6_searched : CM mX6_searched := ⟨by decide +kernel, rfl, rfl, by decide, (TB_mem (i := 1169) (by decide +kernel) (by decide +kernel)), (TB_mem (i := 77) (by decide +kernel) (by decide +kernel)), by decide +kernel, by decide +kernel⟩
abbrev mX6_clears : MD := (RX6, yX6_clears, cX6_clears, 3, none, [])
theorem cmX6_clears : CM mX6_clears := ⟨by decide +kernel, rfl, rfl, by decide, (TB_mem (i := 1173) (by decide +kernel) (by decide +kernel)), (TB_mem (i := 77) (by decide +kernel) (by decide +kernel)), by decide +kernel, by decide +kernel⟩
abbrev mX6_laysSets : MD := (RX6, yX6_laysSets, cX6_laysSets, 4, none, [])
theorem cmX6_laysSets : CM mX6_laysSets := ⟨by decide +kernel, rfl, rfl, by decide, (TB_mem (i := 1177) (by decide +kernel) (by decide +kernel)), (TB_mem (i := 77) (by decide +kernel) (by decide +kernel)), by decide +kernel, by decide +kernel⟩
abbrev mX6_goesOn : MD := (RX6, yX6_goesOn, cX6_goesOn, 8, none, [])
theorem cmX6_goesOn : CM mX6_goesOn := ⟨by decide +kernel, rfl, rfl, by decide, (TB_mem (i := 1181) (by decide +kernel) (by decide +kernel)), (TB_mem (i := 77) (by decide +kernel) (by decide +kernel)), by decide +kernel, by decide +kernel⟩
abbrev mX6_takesJob : MD := (RX6, yX6_takesJob, cX6_takesJob, 6, none, [])
theorem cmX6_takesJob : CM mX6_takesJob := ⟨by decide +kernel, rfl, rfl, by decide, (TB_mem (i := 1185) (by decide +kernel) (by decide +kernel)), (TB_mem (i := 77) (by decide +kernel) (by decide +kernel)), by decide +kernel, by decide +kernel⟩
abbrev mX6_reaches : MD := (RX6, yX6_reaches, cX6_reaches, 7, none, [])
theorem cmX6_reaches : CM mX6_reaches := ⟨by decide +kernel, rfl, rfl, by decide, (TB_mem (i := 1189) (by decide +kernel) (by decide +kernel)), (TB_mem (i := 77) (by decide +kernel) (by decide +kernel)), by decide +kernel, by decide +kernel⟩
abbrev mX6_takesSet : MD := (RX6, yX6_takesSet, cX6_takesSet, 6, none, [])
theorem cmX6_takesSet : CM mX6_takesSet := ⟨by decide +kernel, rfl, rfl, by decide, (TB_mem (i := 1193) (by decide +kernel) (by decide +kernel)), (TB_mem (i := 77) (by decide +kernel) (by decide +kernel)), by decide +kernel, by decide +kernel⟩
abbrev mX6_laysBest : MD := (RX6, yX6_laysBest, cX6_laysBest, 10, none, [])
theorem cmX6_laysBest : CM mX6_laysBest := ⟨by decide +kernel, rfl, rfl, by decide, (TB_mem (i := 1197) (by decide +kernel) (by decide +kernel)), (TB_mem (i := 77) (by decide +kernel) (by decide +kernel)), by decide +kernel, by decide +kernel⟩
abbrev mX6_laysRests : MD := (RX6, yX6_laysRests, cX6_laysRests, 4, none, [])
theorem cmX6_laysRests : CM mX6_laysRests := ⟨by decide +kernel, rfl, rfl, by decide, (TB_mem (i := 1201) (by decide +kernel) (by decide +kernel)), (TB_mem (i := 77) (by decide +kernel) (by decide +kernel)), by decide +kernel, by decide +kernel⟩
abbrev mX6_rest : MD := (RX6, yX6_rest, cX6_rest, 11, (some .int), [])
theorem cmX6_rest : CM mX6_rest := ⟨by decide +kernel, rfl, rfl, by decide, (TB_mem (i := 1205) (by decide +kernel) (by decide +kernel)), (TB_mem (i := 77) (by decide +kernel) (by decide +kernel)), by decide +kernel, by decide +kernel⟩
abbrev mX6_takes : MD := (RX6, yX6_takes, cX6_takes, 5, none, [])
theorem cmX6_takes : CM mX6_takes := ⟨by decide +kernel, rfl, rfl, by decide, (TB_mem (i := 1209) (by decide +kernel) (by decide +kernel)), (TB_mem (i := 77) (by decide +kernel) (by decide +kernel)), by decide +kernel, by decide +kernel⟩
abbrev mX6_leftOver : MD := (RX6, yX6_leftOver, cX6_leftOver, 4, (some .int), [])
theorem cmX6_leftOver : CM mX6_leftOver := ⟨by decide +kernel, rfl, rfl, by decide, (TB_mem (i := 1213) (by decide +kernel) (by decide +kernel)), (TB_mem (i := 77) (by decide +kernel) (by decide +kernel)), by decide +kernel, by decide +kernel⟩
abbrev mX6_comes : MD := (RX6, yX6_comes, cX6_comes, 8, (some .boolean), [])
theorem cmX6_comes : CM mX6_comes := ⟨by decide +kernel, rfl, rfl, by decide, (TB_mem (i := 1217) (by decide +kernel) (by decide +kernel)), (TB_mem (i := 77) (by decide +kernel) (by decide +kernel)), by decide +kernel, by decide +kernel⟩
abbrev mX6_bestCost : MD := (RX6, yX6_bestCost, cX6_bestCost, 1, (some .long), [])
theorem cmX6_bestCost : CM mX6_bestCost := ⟨by decide +kernel, rfl, rfl, by decide, (TB_mem (i := 1221) (by decide +kernel) (by decide +kernel)), (TB_mem (i := 77) (by decide +kernel) (by decide +kernel)), by decide +kernel, by decide +kernel⟩
abbrev mX6_bestWithout : MD := (RX6, yX6_bestWithout, cX6_bestWithout, 2, (some .long), [])
theorem cmX6_bestWithout : CM mX6_bestWithout := ⟨by decide +kernel, rfl, rfl, by decide, (TB_mem (i := 1225) (by decide +kernel) (by decide +kernel)), (TB_mem (i := 77) (by decide +kernel) (by decide +kernel)), by decide +kernel, by decide +kernel⟩
abbrev mX6_bestWithFirst : MD := (RX6, yX6_bestWithFirst, cX6_bestWithFirst, 2, (some .long), [])
theorem cmX6_bestWithFirst : CM mX6_bestWithFirst := ⟨by decide +kernel, rfl, rfl, by decide, (TB_mem (i := 1229) (by decide +kernel) (by decide +kernel)), (TB_mem (i := 77) (by decide +kernel) (by decide +kernel)), by decide +kernel, by decide +kernel⟩
abbrev mX6_latestRelease : MD := (RX6, yX6_latestRelease, cX6_latestRelease, 7, (some .int), [])
theorem cmX6_latestRelease : CM mX6_latestRelease := ⟨by decide +kernel, rfl, rfl, by decide, (TB_mem (i := 1233) (by decide +kernel) (by decide +kernel)), (TB_mem (i := 77) (by decide +kernel) (by decide +kernel)), by decide +kernel, by decide +kernel⟩
abbrev mX6_setupPrice : MD := (RX6, yX6_setupPrice, cX6_setupPrice, 4, (some .long), [])
theorem cmX6_setupPrice : CM mX6_setupPrice := ⟨by decide +kernel, rfl, rfl, by decide, (TB_mem (i := 1237) (by decide +kernel) (by decide +kernel)), (TB_mem (i := 77) (by decide +kernel) (by decide +kernel)), by decide +kernel, by decide +kernel⟩
abbrev mX6_undo : MD := (RX6, yX6_undo, cX6_undo, 2, (some .int), [])
theorem cmX6_undo : CM mX6_undo := ⟨by decide +kernel, rfl, rfl, by decide, (TB_mem (i := 1241) (by decide +kernel) (by decide +kernel)), (TB_mem (i := 77) (by decide +kernel) (by decide +kernel)), by decide +kernel, by decide +kernel⟩
abbrev mX6_digest : MD := (RX6, yX6_digest, cX6_digest, 6, (some .long), [])
theorem cmX6_digest : CM mX6_digest := ⟨by decide +kernel, rfl, rfl, by decide, (TB_mem (i := 1245) (by decide +kernel) (by decide +kernel)), (TB_mem (i := 77) (by decide +kernel) (by decide +kernel)), by decide +kernel, by decide +kernel⟩
abbrev mX6_sums : MD := (RX6, yX6_sums, cX6_sums, 8, (some .long), [])
theorem cmX6_sums : CM mX6_sums := ⟨by decide +kernel, rfl, rfl, by decide, (TB_mem (i := 1250) (by decide +kernel) (by decide +kernel)), (TB_mem (i := 77) (by decide +kernel) (by decide +kernel)), by decide +kernel, by decide +kernel⟩
theorem jo_RX5_1 : JOk RX5 1 := ⟨(TB_mem (i := 93) (by decide +kernel) (by decide +kernel)), (TB_mem (i := 94) (by decide +kernel) (by decide +kernel)), (TB_mem (i := 95) (by decide +kernel) (by decide +kernel))⟩
theorem nw_RX5_7 : NWk RX5 7 3 [vN, vN, vI 0, vJ 0] := ⟨_, _, _, tyX3, rfl, rfl, inbX3, (TB_mem (i := 96) (by decide +kernel) (by decide +kernel)), (TB_mem (i := 97) (by decide +kernel) (by decide +kernel)), (TB_mem (i := 72) (by decide +kernel) (by decide +kernel)), tyX3_ok, fun B j hj => by rcases (show j = 0 ∨ j = 1 ∨ j = 2 ∨ j = 3 by omega) with rfl | rfl | rfl | rfl <;> rfl⟩
theorem ci_RX5_9 : CINk RX5 9 mX3_init := ⟨cmX3_init, by decide +kernel, ⟨"BatchMachine", TN_mem (i := 98) (by decide +kernel) (by decide +kernel)⟩, (TB_mem (i := 99) (by decide +kernel) (by decide +kernel)), rfl, rfl⟩
theorem fp_RX5_10 : FPk RX5 10 5 0 true (.object "BatchMachine$State") := ⟨_, _, _, tyX5, rfl, by decide, inbX5, (TB_mem (i := 287) (by decide +kernel) (by decide +kernel)), tyX5_ok, nmX5, rfl, by decide +kernel, fun _ => rfl⟩
theorem kl_RX5_7 : Cond.classLink RX5 7 "BatchMachine$State" ∈ TB := (TB_mem (i := 96) (by decide +kernel) (by decide +kernel))
theorem fp_RX5_16 : FPk RX5 16 5 1 true (.array (.object "BatchMachine$State")) := ⟨_, _, _, tyX5, rfl, by decide, inbX5, (TB_mem (i := 288) (by decide +kernel) (by decide +kernel)), tyX5_ok, nmX5, rfl, by decide +kernel, fun _ => rfl⟩
theorem fl_RX5_16 : FLk RX5 16 5 1 := ⟨_, _, _, rfl, by decide, inbX5, (TB_mem (i := 288) (by decide +kernel) (by decide +kernel))⟩
theorem fp_RX5_20 : FPk RX5 20 5 3 true (.array .int) := ⟨_, _, _, tyX5, rfl, by decide, inbX5, (TB_mem (i := 290) (by decide +kernel) (by decide +kernel)), tyX5_ok, nmX5, rfl, by decide +kernel, fun _ => rfl⟩
theorem nw_RX5_24 : NWk RX5 24 0 [vI 0, vI 0, vN, vN] := ⟨_, _, _, tyX0, rfl, rfl, inbX0, (TB_mem (i := 192) (by decide +kernel) (by decide +kernel)), (TB_mem (i := 148) (by decide +kernel) (by decide +kernel)), (TB_mem (i := 74) (by decide +kernel) (by decide +kernel)), tyX0_ok, fun B j hj => by rcases (show j = 0 ∨ j = 1 ∨ j = 2 ∨ j = 3 by omega) with rfl | rfl | rfl | rfl <;> rfl⟩
theorem ci_RX5_26 : CINk RX5 26 mX0_init := ⟨cmX0_init, by decide +kernel, ⟨"BatchMachine", TN_mem (i := 193) (by decide +kernel) (by decide +kernel)⟩, (TB_mem (i := 150) (by decide +kernel) (by decide +kernel)), rfl, rfl⟩
theorem fp_RX5_27 : FPk RX5 27 5 5 true (.object "BatchMachine$Plan") := ⟨_, _, _, tyX5, rfl, by decide, inbX5, (TB_mem (i := 292) (by decide +kernel) (by decide +kernel)), tyX5_ok, nmX5, rfl, by decide +kernel, fun _ => rfl⟩
theorem nw_RX5_31 : NWk RX5 31 4 [vN, vN, vN, vI 0] := ⟨_, _, _, tyX4, rfl, rfl, inbX4, (TB_mem (i := 194) (by decide +kernel) (by decide +kernel)), (TB_mem (i := 195) (by decide +kernel) (by decide +kernel)), (TB_mem (i := 75) (by decide +kernel) (by decide +kernel)), tyX4_ok, fun B j hj => by rcases (show j = 0 ∨ j = 1 ∨ j = 2 ∨ j = 3 by omega) with rfl | rfl | rfl | rfl <;> rfl⟩
theorem ci_RX5_33 : CINk RX5 33 mX4_init := ⟨cmX4_init, by decide +kernel, ⟨"BatchMachine", TN_mem (i := 196) (by decide +kernel) (by decide +kernel)⟩, (TB_mem (i := 197) (by decide +kernel) (by decide +kernel)), rfl, rfl⟩
theorem fp_RX5_34 : FPk RX5 34 5 6 true (.object "BatchMachine$Timing") := ⟨_, _, _, tyX5, rfl, by decide, inbX5, (TB_mem (i := 293) (by decide +kernel) (by decide +kernel)), tyX5_ok, nmX5, rfl, by decide +kernel, fun _ => rfl⟩
theorem nw_RX5_38 : NWk RX5 38 2 [vI 0, vN, vN, vI 0, vI 0, vI 0] := ⟨_, _, _, tyX2, rfl, rfl, inbX2, (TB_mem (i := 217) (by decide +kernel) (by decide +kernel)), (TB_mem (i := 103) (by decide +kernel) (by decide +kernel)), (TB_mem (i := 73) (by decide +kernel) (by decide +kernel)), tyX2_ok, fun B j hj => by rcases (show j = 0 ∨ j = 1 ∨ j = 2 ∨ j = 3 ∨ j = 4 ∨ j = 5 by omega) with rfl | rfl | rfl | rfl | rfl | rfl <;> rfl⟩
theorem ci_RX5_40 : CINk RX5 40 mX2_init := ⟨cmX2_init, by decide +kernel, ⟨"BatchMachine", TN_mem (i := 218) (by decide +kernel) (by decide +kernel)⟩, (TB_mem (i := 105) (by decide +kernel) (by decide +kernel)), rfl, rfl⟩
theorem fp_RX5_41 : FPk RX5 41 5 7 true (.object "BatchMachine$Shop") := ⟨_, _, _, tyX5, rfl, by decide, inbX5, (TB_mem (i := 294) (by decide +kernel) (by decide +kernel)), tyX5_ok, nmX5, rfl, by decide +kernel, fun _ => rfl⟩
theorem nw_RX5_45 : NWk RX5 45 1 [vN, vI 0, vI 0, vJ 0, vJ 0, vI 0, vN, vN, vN, vN, vN, vN, vN, vN, vN, vI 0, vN, vN, vN] := ⟨_, _, _, tyX1, rfl, rfl, inbX1, (TB_mem (i := 219) (by decide +kernel) (by decide +kernel)), (TB_mem (i := 220) (by decide +kernel) (by decide +kernel)), (TB_mem (i := 76) (by decide +kernel) (by decide +kernel)), tyX1_ok, fun B j hj => by rcases (show j = 0 ∨ j = 1 ∨ j = 2 ∨ j = 3 ∨ j = 4 ∨ j = 5 ∨ j = 6 ∨ j = 7 ∨ j = 8 ∨ j = 9 ∨ j = 10 ∨ j = 11 ∨ j = 12 ∨ j = 13 ∨ j = 14 ∨ j = 15 ∨ j = 16 ∨ j = 17 ∨ j = 18 by omega) with rfl | rfl | rfl | rfl | rfl | rfl | rfl | rfl | rfl | rfl | rfl | rfl | rfl | rfl | rfl | rfl | rfl | rfl | rfl <;> rfl⟩
theorem ci_RX5_47 : CINk RX5 47 mX1_init := ⟨cmX1_init, by decide +kernel, ⟨"BatchMachine", TN_mem (i := 221) (by decide +kernel) (by decide +kernel)⟩, (TB_mem (i := 222) (by decide +kernel) (by decide +kernel)), rfl, rfl⟩
theorem fp_RX5_48 : FPk RX5 48 5 8 true (.object "BatchMachine$Search") := ⟨_, _, _, tyX5, rfl, by decide, inbX5, (TB_mem (i := 295) (by decide +kernel) (by decide +kernel)), tyX5_ok, nmX5, rfl, by decide +kernel, fun _ => rfl⟩
theorem jo_RX3_1 : JOk RX3 1 := ⟨(TB_mem (i := 101) (by decide +kernel) (by decide +kernel)), (TB_mem (i := 94) (by decide +kernel) (by decide +kernel)), (TB_mem (i := 95) (by decide +kernel) (by decide +kernel))⟩
theorem nw_RX3_7 : NWk RX3 7 2 [vI 0, vN, vN, vI 0, vI 0, vI 0] := ⟨_, _, _, tyX2, rfl, rfl, inbX2, (TB_mem (i := 102) (by decide +kernel) (by decide +kernel)), (TB_mem (i := 103) (by decide +kernel) (by decide +kernel)), (TB_mem (i := 73) (by decide +kernel) (by decide +kernel)), tyX2_ok, fun B j hj => by rcases (show j = 0 ∨ j = 1 ∨ j = 2 ∨ j = 3 ∨ j = 4 ∨ j = 5 by omega) with rfl | rfl | rfl | rfl | rfl | rfl <;> rfl⟩
theorem ci_RX3_9 : CINk RX3 9 mX2_init := ⟨cmX2_init, by decide +kernel, ⟨"BatchMachine", TN_mem (i := 104) (by decide +kernel) (by decide +kernel)⟩, (TB_mem (i := 105) (by decide +kernel) (by decide +kernel)), rfl, rfl⟩
theorem fp_RX3_10 : FPk RX3 10 3 0 true (.object "BatchMachine$Shop") := ⟨_, _, _, tyX3, rfl, by decide, inbX3, (TB_mem (i := 174) (by decide +kernel) (by decide +kernel)), tyX3_ok, nmX3, rfl, by decide +kernel, fun _ => rfl⟩
theorem nw_RX3_16 : NWk RX3 16 0 [vI 0, vI 0, vN, vN] := ⟨_, _, _, tyX0, rfl, rfl, inbX0, (TB_mem (i := 147) (by decide +kernel) (by decide +kernel)), (TB_mem (i := 148) (by decide +kernel) (by decide +kernel)), (TB_mem (i := 74) (by decide +kernel) (by decide +kernel)), tyX0_ok, fun B j hj => by rcases (show j = 0 ∨ j = 1 ∨ j = 2 ∨ j = 3 by omega) with rfl | rfl | rfl | rfl <;> rfl⟩
theorem ci_RX3_18 : CINk RX3 18 mX0_init := ⟨cmX0_init, by decide +kernel, ⟨"BatchMachine", TN_mem (i := 149) (by decide +kernel) (by decide +kernel)⟩, (TB_mem (i := 150) (by decide +kernel) (by decide +kernel)), rfl, rfl⟩
theorem fp_RX3_19 : FPk RX3 19 3 1 true (.object "BatchMachine$Plan") := ⟨_, _, _, tyX3, rfl, by decide, inbX3, (TB_mem (i := 176) (by decide +kernel) (by decide +kernel)), tyX3_ok, nmX3, rfl, by decide +kernel, fun _ => rfl⟩
theorem jo_RX2_3 : JOk RX2 3 := ⟨(TB_mem (i := 107) (by decide +kernel) (by decide +kernel)), (TB_mem (i := 94) (by decide +kernel) (by decide +kernel)), (TB_mem (i := 95) (by decide +kernel) (by decide +kernel))⟩
theorem kl_RX2_9 : Cond.classLink RX2 9 "[[I" ∈ TB := (TB_mem (i := 108) (by decide +kernel) (by decide +kernel))
theorem fp_RX2_11 : FPk RX2 11 2 1 true (.array (.array .int)) := ⟨_, _, _, tyX2, rfl, by decide, inbX2, (TB_mem (i := 113) (by decide +kernel) (by decide +kernel)), tyX2_ok, nmX2, rfl, by decide +kernel, fun _ => rfl⟩
theorem fp_RX2_16 : FPk RX2 16 2 2 true (.array (.array .int)) := ⟨_, _, _, tyX2, rfl, by decide, inbX2, (TB_mem (i := 118) (by decide +kernel) (by decide +kernel)), tyX2_ok, nmX2, rfl, by decide +kernel, fun _ => rfl⟩
theorem fp_RX2_19 : FPk RX2 19 2 4 false .boolean := ⟨_, _, _, tyX2, rfl, by decide, inbX2, (TB_mem (i := 126) (by decide +kernel) (by decide +kernel)), tyX2_ok, nmX2, rfl, by decide +kernel, fun h => by cases h⟩
theorem fp_RX2_23 : FPk RX2 23 2 5 false .int := ⟨_, _, _, tyX2, rfl, by decide, inbX2, (TB_mem (i := 130) (by decide +kernel) (by decide +kernel)), tyX2_ok, nmX2, rfl, by decide +kernel, fun h => by cases h⟩
theorem jo_RX0_3 : JOk RX0 3 := ⟨(TB_mem (i := 152) (by decide +kernel) (by decide +kernel)), (TB_mem (i := 94) (by decide +kernel) (by decide +kernel)), (TB_mem (i := 95) (by decide +kernel) (by decide +kernel))⟩
theorem fp_RX0_9 : FPk RX0 9 0 2 true (.array .int) := ⟨_, _, _, tyX0, rfl, by decide, inbX0, (TB_mem (i := 159) (by decide +kernel) (by decide +kernel)), tyX0_ok, nmX0, rfl, by decide +kernel, fun _ => rfl⟩
theorem fp_RX0_15 : FPk RX0 15 0 3 true (.array .int) := ⟨_, _, _, tyX0, rfl, by decide, inbX0, (TB_mem (i := 162) (by decide +kernel) (by decide +kernel)), tyX0_ok, nmX0, rfl, by decide +kernel, fun _ => rfl⟩
theorem jo_RX4_3 : JOk RX4 3 := ⟨(TB_mem (i := 199) (by decide +kernel) (by decide +kernel)), (TB_mem (i := 94) (by decide +kernel) (by decide +kernel)), (TB_mem (i := 95) (by decide +kernel) (by decide +kernel))⟩
theorem kl_RX4_11 : Cond.classLink RX4 11 "[[I" ∈ TB := (TB_mem (i := 200) (by decide +kernel) (by decide +kernel))
theorem fp_RX4_13 : FPk RX4 13 4 0 true (.array (.array .int)) := ⟨_, _, _, tyX4, rfl, by decide, inbX4, (TB_mem (i := 201) (by decide +kernel) (by decide +kernel)), tyX4_ok, nmX4, rfl, by decide +kernel, fun _ => rfl⟩
theorem fp_RX4_16 : FPk RX4 16 4 1 true (.array (.array .int)) := ⟨_, _, _, tyX4, rfl, by decide, inbX4, (TB_mem (i := 203) (by decide +kernel) (by decide +kernel)), tyX4_ok, nmX4, rfl, by decide +kernel, fun _ => rfl⟩
theorem fp_RX4_19 : FPk RX4 19 4 2 true (.array .int) := ⟨_, _, _, tyX4, rfl, by decide, inbX4, (TB_mem (i := 205) (by decide +kernel) (by decide +kernel)), tyX4_ok, nmX4, rfl, by decide +kernel, fun _ => rfl⟩
theorem jo_RX1_3 : JOk RX1 3 := ⟨(TB_mem (i := 224) (by decide +kernel) (by decide +kernel)), (TB_mem (i := 94) (by decide +kernel) (by decide +kernel)), (TB_mem (i := 95) (by decide +kernel) (by decide +kernel))⟩
theorem nw_RX1_9 : NWk RX1 9 2 [vI 0, vN, vN, vI 0, vI 0, vI 0] := ⟨_, _, _, tyX2, rfl, rfl, inbX2, (TB_mem (i := 225) (by decide +kernel) (by decide +kernel)), (TB_mem (i := 103) (by decide +kernel) (by decide +kernel)), (TB_mem (i := 73) (by decide +kernel) (by decide +kernel)), tyX2_ok, fun B j hj => by rcases (show j = 0 ∨ j = 1 ∨ j = 2 ∨ j = 3 ∨ j = 4 ∨ j = 5 by omega) with rfl | rfl | rfl | rfl | rfl | rfl <;> rfl⟩
theorem ci_RX1_11 : CINk RX1 11 mX2_init := ⟨cmX2_init, by decide +kernel, ⟨"BatchMachine", TN_mem (i := 226) (by decide +kernel) (by decide +kernel)⟩, (TB_mem (i := 105) (by decide +kernel) (by decide +kernel)), rfl, rfl⟩
theorem fp_RX1_12 : FPk RX1 12 1 0 true (.object "BatchMachine$Shop") := ⟨_, _, _, tyX1, rfl, by decide, inbX1, (TB_mem (i := 228) (by decide +kernel) (by decide +kernel)), tyX1_ok, nmX1, rfl, by decide +kernel, fun _ => rfl⟩
theorem fp_RX1_18 : FPk RX1 18 1 6 true (.array .int) := ⟨_, _, _, tyX1, rfl, by decide, inbX1, (TB_mem (i := 234) (by decide +kernel) (by decide +kernel)), tyX1_ok, nmX1, rfl, by decide +kernel, fun _ => rfl⟩
theorem fp_RX1_22 : FPk RX1 22 1 7 true (.array .int) := ⟨_, _, _, tyX1, rfl, by decide, inbX1, (TB_mem (i := 235) (by decide +kernel) (by decide +kernel)), tyX1_ok, nmX1, rfl, by decide +kernel, fun _ => rfl⟩
theorem fp_RX1_25 : FPk RX1 25 1 8 true (.array .int) := ⟨_, _, _, tyX1, rfl, by decide, inbX1, (TB_mem (i := 236) (by decide +kernel) (by decide +kernel)), tyX1_ok, nmX1, rfl, by decide +kernel, fun _ => rfl⟩
theorem fp_RX1_28 : FPk RX1 28 1 9 true (.array .int) := ⟨_, _, _, tyX1, rfl, by decide, inbX1, (TB_mem (i := 237) (by decide +kernel) (by decide +kernel)), tyX1_ok, nmX1, rfl, by decide +kernel, fun _ => rfl⟩
theorem kl_RX1_31 : Cond.classLink RX1 31 "[[I" ∈ TB := (TB_mem (i := 227) (by decide +kernel) (by decide +kernel))
theorem fp_RX1_33 : FPk RX1 33 1 10 true (.array (.array .int)) := ⟨_, _, _, tyX1, rfl, by decide, inbX1, (TB_mem (i := 238) (by decide +kernel) (by decide +kernel)), tyX1_ok, nmX1, rfl, by decide +kernel, fun _ => rfl⟩
theorem fp_RX1_36 : FPk RX1 36 1 11 true (.array .int) := ⟨_, _, _, tyX1, rfl, by decide, inbX1, (TB_mem (i := 239) (by decide +kernel) (by decide +kernel)), tyX1_ok, nmX1, rfl, by decide +kernel, fun _ => rfl⟩
theorem fp_RX1_39 : FPk RX1 39 1 12 true (.array .int) := ⟨_, _, _, tyX1, rfl, by decide, inbX1, (TB_mem (i := 240) (by decide +kernel) (by decide +kernel)), tyX1_ok, nmX1, rfl, by decide +kernel, fun _ => rfl⟩
theorem fp_RX1_42 : FPk RX1 42 1 13 true (.array .int) := ⟨_, _, _, tyX1, rfl, by decide, inbX1, (TB_mem (i := 241) (by decide +kernel) (by decide +kernel)), tyX1_ok, nmX1, rfl, by decide +kernel, fun _ => rfl⟩
theorem fp_RX1_45 : FPk RX1 45 1 14 true (.array .int) := ⟨_, _, _, tyX1, rfl, by decide, inbX1, (TB_mem (i := 242) (by decide +kernel) (by decide +kernel)), tyX1_ok, nmX1, rfl, by decide +kernel, fun _ => rfl⟩
theorem fp_RX1_48 : FPk RX1 48 1 16 true (.array .int) := ⟨_, _, _, tyX1, rfl, by decide, inbX1, (TB_mem (i := 244) (by decide +kernel) (by decide +kernel)), tyX1_ok, nmX1, rfl, by decide +kernel, fun _ => rfl⟩
theorem fp_RX1_51 : FPk RX1 51 1 17 true (.array .int) := ⟨_, _, _, tyX1, rfl, by decide, inbX1, (TB_mem (i := 245) (by decide +kernel) (by decide +kernel)), tyX1_ok, nmX1, rfl, by decide +kernel, fun _ => rfl⟩
theorem fp_RX1_54 : FPk RX1 54 1 18 true (.array .long) := ⟨_, _, _, tyX1, rfl, by decide, inbX1, (TB_mem (i := 246) (by decide +kernel) (by decide +kernel)), tyX1_ok, nmX1, rfl, by decide +kernel, fun _ => rfl⟩
theorem fl_RX5_10 : FLk RX5 10 5 0 := ⟨_, _, _, rfl, by decide, inbX5, (TB_mem (i := 287) (by decide +kernel) (by decide +kernel))⟩
theorem fl_RX5_63 : FLk RX5 63 3 0 := ⟨_, _, _, rfl, by decide, inbX3, (TB_mem (i := 175) (by decide +kernel) (by decide +kernel))⟩
theorem fl_RX5_66 : FLk RX5 66 2 0 := ⟨_, _, _, rfl, by decide, inbX2, (TB_mem (i := 112) (by decide +kernel) (by decide +kernel))⟩
theorem cv_RX5_75 : CVk RX5 75 mX5_saveState 0 := ⟨cmX5_saveState, by decide +kernel, (TB_mem (i := 323) (by decide +kernel) (by decide +kernel)), (TB_mem (i := 325) (by decide +kernel) (by decide +kernel)), (TB_mem (i := 0) (by decide +kernel) (by decide +kernel))⟩
theorem fl_RX5_117 : FLk RX5 117 2 3 := ⟨_, _, _, rfl, by decide, inbX2, (TB_mem (i := 125) (by decide +kernel) (by decide +kernel))⟩
theorem fl_RX5_120 : FLk RX5 120 2 4 := ⟨_, _, _, rfl, by decide, inbX2, (TB_mem (i := 128) (by decide +kernel) (by decide +kernel))⟩
theorem fp_RX5_117 : FPk RX5 117 2 3 false .boolean := ⟨_, _, _, tyX2, rfl, by decide, inbX2, (TB_mem (i := 125) (by decide +kernel) (by decide +kernel)), tyX2_ok, nmX2, rfl, by decide +kernel, fun h => by cases h⟩
theorem fp_RX5_120 : FPk RX5 120 2 4 false .boolean := ⟨_, _, _, tyX2, rfl, by decide, inbX2, (TB_mem (i := 128) (by decide +kernel) (by decide +kernel)), tyX2_ok, nmX2, rfl, by decide +kernel, fun h => by cases h⟩
theorem fp_RX5_82 : FPk RX5 82 3 2 false .boolean := ⟨_, _, _, tyX3, rfl, by decide, inbX3, (TB_mem (i := 179) (by decide +kernel) (by decide +kernel)), tyX3_ok, nmX3, rfl, by decide +kernel, fun h => by cases h⟩
theorem fl_RX5_216 : FLk RX5 216 5 2 := ⟨_, _, _, rfl, by decide, inbX5, (TB_mem (i := 289) (by decide +kernel) (by decide +kernel))⟩
theorem fp_RX5_216 : FPk RX5 216 5 2 false .int := ⟨_, _, _, tyX5, rfl, by decide, inbX5, (TB_mem (i := 289) (by decide +kernel) (by decide +kernel)), tyX5_ok, nmX5, rfl, by decide +kernel, fun h => by cases h⟩
theorem cv_RX5_221 : CVk RX5 221 mX3_takeFrom 1 := ⟨cmX3_takeFrom, by decide +kernel, (TB_mem (i := 327) (by decide +kernel) (by decide +kernel)), (TB_mem (i := 328) (by decide +kernel) (by decide +kernel)), (TB_mem (i := 329) (by decide +kernel) (by decide +kernel))⟩
theorem fl_RX3_10 : FLk RX3 10 3 0 := ⟨_, _, _, rfl, by decide, inbX3, (TB_mem (i := 174) (by decide +kernel) (by decide +kernel))⟩
theorem cv_RX3_23 : CVk RX3 23 mX2_takeFrom 1 := ⟨cmX2_takeFrom, by decide +kernel, (TB_mem (i := 331) (by decide +kernel) (by decide +kernel)), (TB_mem (i := 332) (by decide +kernel) (by decide +kernel)), (TB_mem (i := 333) (by decide +kernel) (by decide +kernel))⟩
theorem fl_RX3_19 : FLk RX3 19 3 1 := ⟨_, _, _, rfl, by decide, inbX3, (TB_mem (i := 176) (by decide +kernel) (by decide +kernel))⟩
theorem cv_RX3_27 : CVk RX3 27 mX0_takeFrom 1 := ⟨cmX0_takeFrom, by decide +kernel, (TB_mem (i := 338) (by decide +kernel) (by decide +kernel)), (TB_mem (i := 339) (by decide +kernel) (by decide +kernel)), (TB_mem (i := 340) (by decide +kernel) (by decide +kernel))⟩
theorem fl_RX3_30 : FLk RX3 30 3 2 := ⟨_, _, _, rfl, by decide, inbX3, (TB_mem (i := 178) (by decide +kernel) (by decide +kernel))⟩
theorem fp_RX3_30 : FPk RX3 30 3 2 false .boolean := ⟨_, _, _, tyX3, rfl, by decide, inbX3, (TB_mem (i := 178) (by decide +kernel) (by decide +kernel)), tyX3_ok, nmX3, rfl, by decide +kernel, fun h => by cases h⟩
theorem fl_RX3_34 : FLk RX3 34 3 3 := ⟨_, _, _, rfl, by decide, inbX3, (TB_mem (i := 180) (by decide +kernel) (by decide +kernel))⟩
theorem fp_RX3_34 : FPk RX3 34 3 3 false .long := ⟨_, _, _, tyX3, rfl, by decide, inbX3, (TB_mem (i := 180) (by decide +kernel) (by decide +kernel)), tyX3_ok, nmX3, rfl, by decide +kernel, fun h => by cases h⟩
theorem fl_RX2_27 : FLk RX2 27 2 0 := ⟨_, _, _, rfl, by decide, inbX2, (TB_mem (i := 110) (by decide +kernel) (by decide +kernel))⟩
theorem fp_RX2_27 : FPk RX2 27 2 0 false .int := ⟨_, _, _, tyX2, rfl, by decide, inbX2, (TB_mem (i := 110) (by decide +kernel) (by decide +kernel)), tyX2_ok, nmX2, rfl, by decide +kernel, fun h => by cases h⟩
theorem fl_RX2_11 : FLk RX2 11 2 1 := ⟨_, _, _, rfl, by decide, inbX2, (TB_mem (i := 113) (by decide +kernel) (by decide +kernel))⟩
theorem jc_RX2_30 : JCk RX2 30 := ⟨(TB_mem (i := 335) (by decide +kernel) (by decide +kernel)), (TB_mem (i := 337) (by decide +kernel) (by decide +kernel)), (TB_mem (i := 336) (by decide +kernel) (by decide +kernel)), (TB_mem (i := 83) (by decide +kernel) (by decide +kernel))⟩
theorem fl_RX2_16 : FLk RX2 16 2 2 := ⟨_, _, _, rfl, by decide, inbX2, (TB_mem (i := 118) (by decide +kernel) (by decide +kernel))⟩
theorem fl_RX2_36 : FLk RX2 36 2 3 := ⟨_, _, _, rfl, by decide, inbX2, (TB_mem (i := 122) (by decide +kernel) (by decide +kernel))⟩
theorem fp_RX2_36 : FPk RX2 36 2 3 false .boolean := ⟨_, _, _, tyX2, rfl, by decide, inbX2, (TB_mem (i := 122) (by decide +kernel) (by decide +kernel)), tyX2_ok, nmX2, rfl, by decide +kernel, fun h => by cases h⟩
theorem fl_RX2_19 : FLk RX2 19 2 4 := ⟨_, _, _, rfl, by decide, inbX2, (TB_mem (i := 126) (by decide +kernel) (by decide +kernel))⟩
theorem fl_RX2_23 : FLk RX2 23 2 5 := ⟨_, _, _, rfl, by decide, inbX2, (TB_mem (i := 130) (by decide +kernel) (by decide +kernel))⟩
theorem fl_RX0_18 : FLk RX0 18 0 0 := ⟨_, _, _, rfl, by decide, inbX0, (TB_mem (i := 153) (by decide +kernel) (by decide +kernel))⟩
theorem fp_RX0_18 : FPk RX0 18 0 0 false .int := ⟨_, _, _, tyX0, rfl, by decide, inbX0, (TB_mem (i := 153) (by decide +kernel) (by decide +kernel)), tyX0_ok, nmX0, rfl, by decide +kernel, fun h => by cases h⟩
theorem fl_RX0_22 : FLk RX0 22 0 1 := ⟨_, _, _, rfl, by decide, inbX0, (TB_mem (i := 156) (by decide +kernel) (by decide +kernel))⟩
theorem fp_RX0_22 : FPk RX0 22 0 1 false .int := ⟨_, _, _, tyX0, rfl, by decide, inbX0, (TB_mem (i := 156) (by decide +kernel) (by decide +kernel)), tyX0_ok, nmX0, rfl, by decide +kernel, fun h => by cases h⟩
theorem fl_RX0_9 : FLk RX0 9 0 2 := ⟨_, _, _, rfl, by decide, inbX0, (TB_mem (i := 159) (by decide +kernel) (by decide +kernel))⟩
theorem jc_RX0_25 : JCk RX0 25 := ⟨(TB_mem (i := 342) (by decide +kernel) (by decide +kernel)), (TB_mem (i := 337) (by decide +kernel) (by decide +kernel)), (TB_mem (i := 336) (by decide +kernel) (by decide +kernel)), (TB_mem (i := 83) (by decide +kernel) (by decide +kernel))⟩
theorem fl_RX0_15 : FLk RX0 15 0 3 := ⟨_, _, _, rfl, by decide, inbX0, (TB_mem (i := 162) (by decide +kernel) (by decide +kernel))⟩
theorem fl_RX5_130 : FLk RX5 130 5 4 := ⟨_, _, _, rfl, by decide, inbX5, (TB_mem (i := 291) (by decide +kernel) (by decide +kernel))⟩
theorem fp_RX5_130 : FPk RX5 130 5 4 false .int := ⟨_, _, _, tyX5, rfl, by decide, inbX5, (TB_mem (i := 291) (by decide +kernel) (by decide +kernel)), tyX5_ok, nmX5, rfl, by decide +kernel, fun h => by cases h⟩
theorem cv_RX5_135 : CVk RX5 135 mX5_readText 0 := ⟨cmX5_readText, by decide +kernel, (TB_mem (i := 351) (by decide +kernel) (by decide +kernel)), (TB_mem (i := 353) (by decide +kernel) (by decide +kernel)), (TB_mem (i := 1) (by decide +kernel) (by decide +kernel))⟩
theorem fl_RX5_99 : FLk RX5 99 3 1 := ⟨_, _, _, rfl, by decide, inbX3, (TB_mem (i := 177) (by decide +kernel) (by decide +kernel))⟩
theorem fl_RX5_27 : FLk RX5 27 5 5 := ⟨_, _, _, rfl, by decide, inbX5, (TB_mem (i := 292) (by decide +kernel) (by decide +kernel))⟩
theorem cv_RX5_139 : CVk RX5 139 mX0_takeFrom 1 := ⟨cmX0_takeFrom, by decide +kernel, (TB_mem (i := 371) (by decide +kernel) (by decide +kernel)), (TB_mem (i := 339) (by decide +kernel) (by decide +kernel)), (TB_mem (i := 340) (by decide +kernel) (by decide +kernel))⟩
theorem fl_RX5_143 : FLk RX5 143 0 1 := ⟨_, _, _, rfl, by decide, inbX0, (TB_mem (i := 158) (by decide +kernel) (by decide +kernel))⟩
theorem cv_RX5_105 : CVk RX5 105 mX0_makeEmpty 0 := ⟨cmX0_makeEmpty, by decide +kernel, (TB_mem (i := 355) (by decide +kernel) (by decide +kernel)), (TB_mem (i := 356) (by decide +kernel) (by decide +kernel)), (TB_mem (i := 357) (by decide +kernel) (by decide +kernel))⟩
theorem fl_RX5_20 : FLk RX5 20 5 3 := ⟨_, _, _, rfl, by decide, inbX5, (TB_mem (i := 290) (by decide +kernel) (by decide +kernel))⟩
theorem cv_RX5_86 : CVk RX5 86 mX5_isJob 1 := ⟨cmX5_isJob, by decide +kernel, (TB_mem (i := 359) (by decide +kernel) (by decide +kernel)), (TB_mem (i := 361) (by decide +kernel) (by decide +kernel)), (TB_mem (i := 2) (by decide +kernel) (by decide +kernel))⟩
theorem cv_RX5_245 : CVk RX5 245 mX5_fitsDraft 1 := ⟨cmX5_fitsDraft, by decide +kernel, (TB_mem (i := 363) (by decide +kernel) (by decide +kernel)), (TB_mem (i := 365) (by decide +kernel) (by decide +kernel)), (TB_mem (i := 3) (by decide +kernel) (by decide +kernel))⟩
theorem cv_RX5_248 : CVk RX5 248 mX0_addLast 2 := ⟨cmX0_addLast, by decide +kernel, (TB_mem (i := 367) (by decide +kernel) (by decide +kernel)), (TB_mem (i := 368) (by decide +kernel) (by decide +kernel)), (TB_mem (i := 369) (by decide +kernel) (by decide +kernel))⟩
theorem fl_RX5_78 : FLk RX5 78 2 1 := ⟨_, _, _, rfl, by decide, inbX2, (TB_mem (i := 114) (by decide +kernel) (by decide +kernel))⟩
theorem fl_RX5_252 : FLk RX5 252 0 0 := ⟨_, _, _, rfl, by decide, inbX0, (TB_mem (i := 155) (by decide +kernel) (by decide +kernel))⟩
theorem fl_RX5_184 : FLk RX5 184 0 2 := ⟨_, _, _, rfl, by decide, inbX0, (TB_mem (i := 161) (by decide +kernel) (by decide +kernel))⟩
theorem cv_RX5_152 : CVk RX5 152 mX5_presentBest 0 := ⟨cmX5_presentBest, by decide +kernel, (TB_mem (i := 376) (by decide +kernel) (by decide +kernel)), (TB_mem (i := 378) (by decide +kernel) (by decide +kernel)), (TB_mem (i := 4) (by decide +kernel) (by decide +kernel))⟩
theorem fl_RX5_48 : FLk RX5 48 5 8 := ⟨_, _, _, rfl, by decide, inbX5, (TB_mem (i := 295) (by decide +kernel) (by decide +kernel))⟩
theorem cv_RX5_156 : CVk RX5 156 mX1_run 4 := ⟨cmX1_run, by decide +kernel, (TB_mem (i := 474) (by decide +kernel) (by decide +kernel)), (TB_mem (i := 475) (by decide +kernel) (by decide +kernel)), (TB_mem (i := 476) (by decide +kernel) (by decide +kernel))⟩
theorem cv_RX5_160 : CVk RX5 160 mX1_writePlan 1 := ⟨cmX1_writePlan, by decide +kernel, (TB_mem (i := 545) (by decide +kernel) (by decide +kernel)), (TB_mem (i := 546) (by decide +kernel) (by decide +kernel)), (TB_mem (i := 547) (by decide +kernel) (by decide +kernel))⟩
theorem fl_RX5_82 : FLk RX5 82 3 2 := ⟨_, _, _, rfl, by decide, inbX3, (TB_mem (i := 179) (by decide +kernel) (by decide +kernel))⟩
theorem cv_RX5_199 : CVk RX5 199 mX5_leastCost 2 := ⟨cmX5_leastCost, by decide +kernel, (TB_mem (i := 380) (by decide +kernel) (by decide +kernel)), (TB_mem (i := 382) (by decide +kernel) (by decide +kernel)), (TB_mem (i := 5) (by decide +kernel) (by decide +kernel))⟩
theorem fp_RX5_269 : FPk RX5 269 3 3 false .long := ⟨_, _, _, tyX3, rfl, by decide, inbX3, (TB_mem (i := 181) (by decide +kernel) (by decide +kernel)), tyX3_ok, nmX3, rfl, by decide +kernel, fun h => by cases h⟩
theorem fl_RX5_269 : FLk RX5 269 3 3 := ⟨_, _, _, rfl, by decide, inbX3, (TB_mem (i := 181) (by decide +kernel) (by decide +kernel))⟩
theorem cv_RX5_148 : CVk RX5 148 mX5_costOfRule 3 := ⟨cmX5_costOfRule, by decide +kernel, (TB_mem (i := 384) (by decide +kernel) (by decide +kernel)), (TB_mem (i := 386) (by decide +kernel) (by decide +kernel)), (TB_mem (i := 6) (by decide +kernel) (by decide +kernel))⟩
theorem jk_RX5_273 : JKk RX5 273 Lib.MathLoose.min_long.x "java/lang/Math" Lib.MathLoose.min_long.code 4 (some .long) := ⟨(TB_mem (i := 470) (by decide +kernel) (by decide +kernel)), (TB_mem (i := 471) (by decide +kernel) (by decide +kernel)), (TB_mem (i := 87) (by decide +kernel) (by decide +kernel)), (TB_mem (i := 472) (by decide +kernel) (by decide +kernel))⟩
theorem kc_RX5_275 : Cond.constantLong RX5 275 (-1000000000000) ∈ TB := (TB_mem (i := 473) (by decide +kernel) (by decide +kernel))
theorem fp_RX5_252 : FPk RX5 252 0 0 false .int := ⟨_, _, _, tyX0, rfl, by decide, inbX0, (TB_mem (i := 155) (by decide +kernel) (by decide +kernel)), tyX0_ok, nmX0, rfl, by decide +kernel, fun h => by cases h⟩
theorem cv_RX5_255 : CVk RX5 255 mX2_orderByRule 2 := ⟨cmX2_orderByRule, by decide +kernel, (TB_mem (i := 388) (by decide +kernel) (by decide +kernel)), (TB_mem (i := 389) (by decide +kernel) (by decide +kernel)), (TB_mem (i := 390) (by decide +kernel) (by decide +kernel))⟩
theorem cv_RX5_259 : CVk RX5 259 mX0_dropJobFromOrder 1 := ⟨cmX0_dropJobFromOrder, by decide +kernel, (TB_mem (i := 409) (by decide +kernel) (by decide +kernel)), (TB_mem (i := 410) (by decide +kernel) (by decide +kernel)), (TB_mem (i := 411) (by decide +kernel) (by decide +kernel))⟩
theorem cv_RX5_262 : CVk RX5 262 mX0_putAt 2 := ⟨cmX0_putAt, by decide +kernel, (TB_mem (i := 413) (by decide +kernel) (by decide +kernel)), (TB_mem (i := 414) (by decide +kernel) (by decide +kernel)), (TB_mem (i := 415) (by decide +kernel) (by decide +kernel))⟩
theorem cv_RX5_266 : CVk RX5 266 mX0_groupByFamily 1 := ⟨cmX0_groupByFamily, by decide +kernel, (TB_mem (i := 417) (by decide +kernel) (by decide +kernel)), (TB_mem (i := 418) (by decide +kernel) (by decide +kernel)), (TB_mem (i := 419) (by decide +kernel) (by decide +kernel))⟩
theorem fl_RX5_34 : FLk RX5 34 5 6 := ⟨_, _, _, rfl, by decide, inbX5, (TB_mem (i := 293) (by decide +kernel) (by decide +kernel))⟩
theorem cv_RX5_171 : CVk RX5 171 mX4_follow 2 := ⟨cmX4_follow, by decide +kernel, (TB_mem (i := 421) (by decide +kernel) (by decide +kernel)), (TB_mem (i := 422) (by decide +kernel) (by decide +kernel)), (TB_mem (i := 423) (by decide +kernel) (by decide +kernel))⟩
theorem cv_RX2_47 : CVk RX2 47 mX2_compareByRule 3 := ⟨cmX2_compareByRule, by decide +kernel, (TB_mem (i := 392) (by decide +kernel) (by decide +kernel)), (TB_mem (i := 394) (by decide +kernel) (by decide +kernel)), (TB_mem (i := 7) (by decide +kernel) (by decide +kernel))⟩
theorem cs_RX2_51 : CSk RX2 51 mJ6_compare_7cf53 2 := ⟨cmJ6_compare_7cf53, by decide +kernel, (TB_mem (i := 396) (by decide +kernel) (by decide +kernel)), (TB_mem (i := 397) (by decide +kernel) (by decide +kernel))⟩
theorem cv_RX2_57 : CVk RX2 57 mX2_compareByFamily 2 := ⟨cmX2_compareByFamily, by decide +kernel, (TB_mem (i := 399) (by decide +kernel) (by decide +kernel)), (TB_mem (i := 401) (by decide +kernel) (by decide +kernel)), (TB_mem (i := 8) (by decide +kernel) (by decide +kernel))⟩
theorem cv_RX2_60 : CVk RX2 60 mX2_dueOfFamily 1 := ⟨cmX2_dueOfFamily, by decide +kernel, (TB_mem (i := 403) (by decide +kernel) (by decide +kernel)), (TB_mem (i := 405) (by decide +kernel) (by decide +kernel)), (TB_mem (i := 9) (by decide +kernel) (by decide +kernel))⟩
theorem gs_RX2_64 : ∃ host, Cond.fieldLinkNest RX2 64 "BatchMachine" "GREATEST_VALUE" "[I" host ∈ TN := ⟨"BatchMachine", TN_mem (i := 407) (by decide +kernel) (by decide +kernel)⟩
theorem fl_RX0_42 : FLk RX0 42 2 1 := ⟨_, _, _, rfl, by decide, inbX2, (TB_mem (i := 117) (by decide +kernel) (by decide +kernel))⟩
theorem fl_RX4_16 : FLk RX4 16 4 1 := ⟨_, _, _, rfl, by decide, inbX4, (TB_mem (i := 203) (by decide +kernel) (by decide +kernel))⟩
theorem cs_RX4_23 : CSk RX4 23 mJ7_fill_53178 2 := ⟨cmJ7_fill_53178, by decide +kernel, (TB_mem (i := 425) (by decide +kernel) (by decide +kernel)), (TB_mem (i := 426) (by decide +kernel) (by decide +kernel))⟩
theorem fl_RX4_19 : FLk RX4 19 4 2 := ⟨_, _, _, rfl, by decide, inbX4, (TB_mem (i := 205) (by decide +kernel) (by decide +kernel))⟩
theorem fp_RX4_29 : FPk RX4 29 4 3 false .int := ⟨_, _, _, tyX4, rfl, by decide, inbX4, (TB_mem (i := 207) (by decide +kernel) (by decide +kernel)), tyX4_ok, nmX4, rfl, by decide +kernel, fun h => by cases h⟩
theorem fl_RX4_33 : FLk RX4 33 0 1 := ⟨_, _, _, rfl, by decide, inbX0, (TB_mem (i := 157) (by decide +kernel) (by decide +kernel))⟩
theorem cv_RX4_38 : CVk RX4 38 mX4_followBatch 4 := ⟨cmX4_followBatch, by decide +kernel, (TB_mem (i := 428) (by decide +kernel) (by decide +kernel)), (TB_mem (i := 430) (by decide +kernel) (by decide +kernel)), (TB_mem (i := 10) (by decide +kernel) (by decide +kernel))⟩
theorem fl_RX4_29 : FLk RX4 29 4 3 := ⟨_, _, _, rfl, by decide, inbX4, (TB_mem (i := 207) (by decide +kernel) (by decide +kernel))⟩
theorem cv_RX4_42 : CVk RX4 42 mX4_costOf 2 := ⟨cmX4_costOf, by decide +kernel, (TB_mem (i := 450) (by decide +kernel) (by decide +kernel)), (TB_mem (i := 452) (by decide +kernel) (by decide +kernel)), (TB_mem (i := 13) (by decide +kernel) (by decide +kernel))⟩
theorem cv_RX4_46 : CVk RX4 46 mX0_beginOf 1 := ⟨cmX0_beginOf, by decide +kernel, (TB_mem (i := 432) (by decide +kernel) (by decide +kernel)), (TB_mem (i := 433) (by decide +kernel) (by decide +kernel)), (TB_mem (i := 434) (by decide +kernel) (by decide +kernel))⟩
theorem fl_RX4_50 : FLk RX4 50 0 3 := ⟨_, _, _, rfl, by decide, inbX0, (TB_mem (i := 163) (by decide +kernel) (by decide +kernel))⟩
theorem fl_RX4_53 : FLk RX4 53 2 1 := ⟨_, _, _, rfl, by decide, inbX2, (TB_mem (i := 115) (by decide +kernel) (by decide +kernel))⟩
theorem fl_RX4_58 : FLk RX4 58 0 2 := ⟨_, _, _, rfl, by decide, inbX0, (TB_mem (i := 160) (by decide +kernel) (by decide +kernel))⟩
theorem cs_RX4_61 : CSk RX4 61 mX4_readyTime 4 := ⟨cmX4_readyTime, by decide +kernel, (TB_mem (i := 436) (by decide +kernel) (by decide +kernel)), (TB_mem (i := 437) (by decide +kernel) (by decide +kernel))⟩
theorem fl_RX4_64 : FLk RX4 64 2 2 := ⟨_, _, _, rfl, by decide, inbX2, (TB_mem (i := 119) (by decide +kernel) (by decide +kernel))⟩
theorem fl_RX4_67 : FLk RX4 67 2 4 := ⟨_, _, _, rfl, by decide, inbX2, (TB_mem (i := 127) (by decide +kernel) (by decide +kernel))⟩
theorem jk_RX4_71 : JKk RX4 71 Lib.Math.max.name "java/lang/Math" Lib.Math.max.code 2 (some .int) := ⟨(TB_mem (i := 439) (by decide +kernel) (by decide +kernel)), (TB_mem (i := 440) (by decide +kernel) (by decide +kernel)), (TB_mem (i := 87) (by decide +kernel) (by decide +kernel)), (TB_mem (i := 441) (by decide +kernel) (by decide +kernel))⟩
theorem cv_RX4_77 : CVk RX4 77 mX4_followJob 3 := ⟨cmX4_followJob, by decide +kernel, (TB_mem (i := 442) (by decide +kernel) (by decide +kernel)), (TB_mem (i := 444) (by decide +kernel) (by decide +kernel)), (TB_mem (i := 11) (by decide +kernel) (by decide +kernel))⟩
theorem cv_RX4_81 : CVk RX4 81 mX4_complete 2 := ⟨cmX4_complete, by decide +kernel, (TB_mem (i := 446) (by decide +kernel) (by decide +kernel)), (TB_mem (i := 448) (by decide +kernel) (by decide +kernel)), (TB_mem (i := 12) (by decide +kernel) (by decide +kernel))⟩
theorem fl_RX4_13 : FLk RX4 13 4 0 := ⟨_, _, _, rfl, by decide, inbX4, (TB_mem (i := 201) (by decide +kernel) (by decide +kernel))⟩
theorem fl_RX4_85 : FLk RX4 85 2 3 := ⟨_, _, _, rfl, by decide, inbX2, (TB_mem (i := 124) (by decide +kernel) (by decide +kernel))⟩
theorem fl_RX4_88 : FLk RX4 88 0 0 := ⟨_, _, _, rfl, by decide, inbX0, (TB_mem (i := 154) (by decide +kernel) (by decide +kernel))⟩
theorem cv_RX4_91 : CVk RX4 91 mX2_startingSum 0 := ⟨cmX2_startingSum, by decide +kernel, (TB_mem (i := 454) (by decide +kernel) (by decide +kernel)), (TB_mem (i := 455) (by decide +kernel) (by decide +kernel)), (TB_mem (i := 456) (by decide +kernel) (by decide +kernel))⟩
theorem cv_RX4_95 : CVk RX4 95 mX2_penaltyOf 2 := ⟨cmX2_penaltyOf, by decide +kernel, (TB_mem (i := 459) (by decide +kernel) (by decide +kernel)), (TB_mem (i := 460) (by decide +kernel) (by decide +kernel)), (TB_mem (i := 461) (by decide +kernel) (by decide +kernel))⟩
theorem cv_RX4_99 : CVk RX4 99 mX2_joined 2 := ⟨cmX2_joined, by decide +kernel, (TB_mem (i := 463) (by decide +kernel) (by decide +kernel)), (TB_mem (i := 464) (by decide +kernel) (by decide +kernel)), (TB_mem (i := 465) (by decide +kernel) (by decide +kernel))⟩
theorem kc_RX2_39 : Cond.constantLong RX2 39 (-1000000000000) ∈ TB := (TB_mem (i := 458) (by decide +kernel) (by decide +kernel))
theorem jk_RX2_41 : JKk RX2 41 Lib.MathLoose.max_long.x "java/lang/Math" Lib.MathLoose.max_long.code 4 (some .long) := ⟨(TB_mem (i := 467) (by decide +kernel) (by decide +kernel)), (TB_mem (i := 468) (by decide +kernel) (by decide +kernel)), (TB_mem (i := 87) (by decide +kernel) (by decide +kernel)), (TB_mem (i := 469) (by decide +kernel) (by decide +kernel))⟩
theorem fl_RX1_12 : FLk RX1 12 1 0 := ⟨_, _, _, rfl, by decide, inbX1, (TB_mem (i := 228) (by decide +kernel) (by decide +kernel))⟩
theorem cv_RX1_58 : CVk RX1 58 mX2_takeFrom 1 := ⟨cmX2_takeFrom, by decide +kernel, (TB_mem (i := 478) (by decide +kernel) (by decide +kernel)), (TB_mem (i := 332) (by decide +kernel) (by decide +kernel)), (TB_mem (i := 333) (by decide +kernel) (by decide +kernel))⟩
theorem fp_RX1_62 : FPk RX1 62 1 2 false .int := ⟨_, _, _, tyX1, rfl, by decide, inbX1, (TB_mem (i := 230) (by decide +kernel) (by decide +kernel)), tyX1_ok, nmX1, rfl, by decide +kernel, fun h => by cases h⟩
theorem fp_RX1_66 : FPk RX1 66 1 3 false .long := ⟨_, _, _, tyX1, rfl, by decide, inbX1, (TB_mem (i := 231) (by decide +kernel) (by decide +kernel)), tyX1_ok, nmX1, rfl, by decide +kernel, fun h => by cases h⟩
theorem fp_RX1_70 : FPk RX1 70 1 4 false .long := ⟨_, _, _, tyX1, rfl, by decide, inbX1, (TB_mem (i := 232) (by decide +kernel) (by decide +kernel)), tyX1_ok, nmX1, rfl, by decide +kernel, fun h => by cases h⟩
theorem fp_RX1_73 : FPk RX1 73 1 15 false .int := ⟨_, _, _, tyX1, rfl, by decide, inbX1, (TB_mem (i := 243) (by decide +kernel) (by decide +kernel)), tyX1_ok, nmX1, rfl, by decide +kernel, fun h => by cases h⟩
theorem fl_RX1_76 : FLk RX1 76 2 0 := ⟨_, _, _, rfl, by decide, inbX2, (TB_mem (i := 111) (by decide +kernel) (by decide +kernel))⟩
theorem fp_RX1_79 : FPk RX1 79 1 1 false .int := ⟨_, _, _, tyX1, rfl, by decide, inbX1, (TB_mem (i := 229) (by decide +kernel) (by decide +kernel)), tyX1_ok, nmX1, rfl, by decide +kernel, fun h => by cases h⟩
theorem cv_RX1_82 : CVk RX1 82 mX1_fillGaps 0 := ⟨cmX1_fillGaps, by decide +kernel, (TB_mem (i := 479) (by decide +kernel) (by decide +kernel)), (TB_mem (i := 481) (by decide +kernel) (by decide +kernel)), (TB_mem (i := 14) (by decide +kernel) (by decide +kernel))⟩
theorem cv_RX1_85 : CVk RX1 85 mX1_fillSets 0 := ⟨cmX1_fillSets, by decide +kernel, (TB_mem (i := 487) (by decide +kernel) (by decide +kernel)), (TB_mem (i := 489) (by decide +kernel) (by decide +kernel)), (TB_mem (i := 15) (by decide +kernel) (by decide +kernel))⟩
theorem fl_RX1_88 : FLk RX1 88 2 5 := ⟨_, _, _, rfl, by decide, inbX2, (TB_mem (i := 131) (by decide +kernel) (by decide +kernel))⟩
theorem fl_RX1_39 : FLk RX1 39 1 12 := ⟨_, _, _, rfl, by decide, inbX1, (TB_mem (i := 240) (by decide +kernel) (by decide +kernel))⟩
theorem cv_RX1_91 : CVk RX1 91 mX2_orderByRule 2 := ⟨cmX2_orderByRule, by decide +kernel, (TB_mem (i := 496) (by decide +kernel) (by decide +kernel)), (TB_mem (i := 389) (by decide +kernel) (by decide +kernel)), (TB_mem (i := 390) (by decide +kernel) (by decide +kernel))⟩
theorem fl_RX1_48 : FLk RX1 48 1 16 := ⟨_, _, _, rfl, by decide, inbX1, (TB_mem (i := 244) (by decide +kernel) (by decide +kernel))⟩
theorem cs_RX1_95 : CSk RX1 95 mJ7_fill_53178 2 := ⟨cmJ7_fill_53178, by decide +kernel, (TB_mem (i := 497) (by decide +kernel) (by decide +kernel)), (TB_mem (i := 426) (by decide +kernel) (by decide +kernel))⟩
theorem cv_RX1_101 : CVk RX1 101 mX2_startingSum 0 := ⟨cmX2_startingSum, by decide +kernel, (TB_mem (i := 498) (by decide +kernel) (by decide +kernel)), (TB_mem (i := 455) (by decide +kernel) (by decide +kernel)), (TB_mem (i := 456) (by decide +kernel) (by decide +kernel))⟩
theorem cs_RX1_105 : CSk RX1 105 mX1_extend 6 := ⟨cmX1_extend, by decide +kernel, (TB_mem (i := 499) (by decide +kernel) (by decide +kernel)), (TB_mem (i := 500) (by decide +kernel) (by decide +kernel))⟩
theorem fl_RX1_66 : FLk RX1 66 1 3 := ⟨_, _, _, rfl, by decide, inbX1, (TB_mem (i := 231) (by decide +kernel) (by decide +kernel))⟩
theorem fl_RX1_125 : FLk RX1 125 2 2 := ⟨_, _, _, rfl, by decide, inbX2, (TB_mem (i := 120) (by decide +kernel) (by decide +kernel))⟩
theorem fl_RX1_33 : FLk RX1 33 1 10 := ⟨_, _, _, rfl, by decide, inbX1, (TB_mem (i := 238) (by decide +kernel) (by decide +kernel))⟩
theorem jc_RX1_128 : JCk RX1 128 := ⟨(TB_mem (i := 483) (by decide +kernel) (by decide +kernel)), (TB_mem (i := 337) (by decide +kernel) (by decide +kernel)), (TB_mem (i := 336) (by decide +kernel) (by decide +kernel)), (TB_mem (i := 83) (by decide +kernel) (by decide +kernel))⟩
theorem fl_RX1_36 : FLk RX1 36 1 11 := ⟨_, _, _, rfl, by decide, inbX1, (TB_mem (i := 239) (by decide +kernel) (by decide +kernel))⟩
theorem fl_RX1_118 : FLk RX1 118 2 3 := ⟨_, _, _, rfl, by decide, inbX2, (TB_mem (i := 123) (by decide +kernel) (by decide +kernel))⟩
theorem fl_RX1_134 : FLk RX1 134 2 1 := ⟨_, _, _, rfl, by decide, inbX2, (TB_mem (i := 116) (by decide +kernel) (by decide +kernel))⟩
theorem jk_RX1_137 : JKk RX1 137 Lib.Math.min.name "java/lang/Math" Lib.Math.min.code 2 (some .int) := ⟨(TB_mem (i := 484) (by decide +kernel) (by decide +kernel)), (TB_mem (i := 485) (by decide +kernel) (by decide +kernel)), (TB_mem (i := 87) (by decide +kernel) (by decide +kernel)), (TB_mem (i := 486) (by decide +kernel) (by decide +kernel))⟩
theorem fp_RX1_143 : FPk RX1 143 1 5 false .int := ⟨_, _, _, tyX1, rfl, by decide, inbX1, (TB_mem (i := 233) (by decide +kernel) (by decide +kernel)), tyX1_ok, nmX1, rfl, by decide +kernel, fun h => by cases h⟩
theorem cv_RX1_146 : CVk RX1 146 mX1_describeSet 2 := ⟨cmX1_describeSet, by decide +kernel, (TB_mem (i := 491) (by decide +kernel) (by decide +kernel)), (TB_mem (i := 493) (by decide +kernel) (by decide +kernel)), (TB_mem (i := 16) (by decide +kernel) (by decide +kernel))⟩
theorem fl_RX1_22 : FLk RX1 22 1 7 := ⟨_, _, _, rfl, by decide, inbX1, (TB_mem (i := 235) (by decide +kernel) (by decide +kernel))⟩
theorem fl_RX1_18 : FLk RX1 18 1 6 := ⟨_, _, _, rfl, by decide, inbX1, (TB_mem (i := 234) (by decide +kernel) (by decide +kernel))⟩
theorem fl_RX1_143 : FLk RX1 143 1 5 := ⟨_, _, _, rfl, by decide, inbX1, (TB_mem (i := 233) (by decide +kernel) (by decide +kernel))⟩
theorem fl_RX1_25 : FLk RX1 25 1 8 := ⟨_, _, _, rfl, by decide, inbX1, (TB_mem (i := 236) (by decide +kernel) (by decide +kernel))⟩
theorem fl_RX1_28 : FLk RX1 28 1 9 := ⟨_, _, _, rfl, by decide, inbX1, (TB_mem (i := 237) (by decide +kernel) (by decide +kernel))⟩
theorem jk_RX1_150 : JKk RX1 150 Lib.Math.max.name "java/lang/Math" Lib.Math.max.code 2 (some .int) := ⟨(TB_mem (i := 495) (by decide +kernel) (by decide +kernel)), (TB_mem (i := 440) (by decide +kernel) (by decide +kernel)), (TB_mem (i := 87) (by decide +kernel) (by decide +kernel)), (TB_mem (i := 441) (by decide +kernel) (by decide +kernel))⟩
theorem fl_RX1_79 : FLk RX1 79 1 1 := ⟨_, _, _, rfl, by decide, inbX1, (TB_mem (i := 229) (by decide +kernel) (by decide +kernel))⟩
theorem fl_RX1_42 : FLk RX1 42 1 13 := ⟨_, _, _, rfl, by decide, inbX1, (TB_mem (i := 241) (by decide +kernel) (by decide +kernel))⟩
theorem fl_RX1_45 : FLk RX1 45 1 14 := ⟨_, _, _, rfl, by decide, inbX1, (TB_mem (i := 242) (by decide +kernel) (by decide +kernel))⟩
theorem fl_RX1_70 : FLk RX1 70 1 4 := ⟨_, _, _, rfl, by decide, inbX1, (TB_mem (i := 232) (by decide +kernel) (by decide +kernel))⟩
theorem cv_RX1_153 : CVk RX1 153 mX1_canBeFirst 1 := ⟨cmX1_canBeFirst, by decide +kernel, (TB_mem (i := 502) (by decide +kernel) (by decide +kernel)), (TB_mem (i := 504) (by decide +kernel) (by decide +kernel)), (TB_mem (i := 17) (by decide +kernel) (by decide +kernel))⟩
theorem cv_RX1_157 : CVk RX1 157 mX1_endOf 3 := ⟨cmX1_endOf, by decide +kernel, (TB_mem (i := 506) (by decide +kernel) (by decide +kernel)), (TB_mem (i := 508) (by decide +kernel) (by decide +kernel)), (TB_mem (i := 18) (by decide +kernel) (by decide +kernel))⟩
theorem cv_RX1_161 : CVk RX1 161 mX1_sumWith 3 := ⟨cmX1_sumWith, by decide +kernel, (TB_mem (i := 510) (by decide +kernel) (by decide +kernel)), (TB_mem (i := 512) (by decide +kernel) (by decide +kernel)), (TB_mem (i := 19) (by decide +kernel) (by decide +kernel))⟩
theorem cv_RX1_165 : CVk RX1 165 mX1_isOutdone 4 := ⟨cmX1_isOutdone, by decide +kernel, (TB_mem (i := 516) (by decide +kernel) (by decide +kernel)), (TB_mem (i := 518) (by decide +kernel) (by decide +kernel)), (TB_mem (i := 20) (by decide +kernel) (by decide +kernel))⟩
theorem cv_RX1_169 : CVk RX1 169 mX1_boundApart 4 := ⟨cmX1_boundApart, by decide +kernel, (TB_mem (i := 520) (by decide +kernel) (by decide +kernel)), (TB_mem (i := 522) (by decide +kernel) (by decide +kernel)), (TB_mem (i := 21) (by decide +kernel) (by decide +kernel))⟩
theorem cv_RX1_173 : CVk RX1 173 mX1_boundInLine 4 := ⟨cmX1_boundInLine, by decide +kernel, (TB_mem (i := 524) (by decide +kernel) (by decide +kernel)), (TB_mem (i := 526) (by decide +kernel) (by decide +kernel)), (TB_mem (i := 22) (by decide +kernel) (by decide +kernel))⟩
theorem cv_RX1_176 : CVk RX1 176 mX1_remember 4 := ⟨cmX1_remember, by decide +kernel, (TB_mem (i := 541) (by decide +kernel) (by decide +kernel)), (TB_mem (i := 543) (by decide +kernel) (by decide +kernel)), (TB_mem (i := 26) (by decide +kernel) (by decide +kernel))⟩
theorem fl_RX1_62 : FLk RX1 62 1 2 := ⟨_, _, _, rfl, by decide, inbX1, (TB_mem (i := 230) (by decide +kernel) (by decide +kernel))⟩
theorem fl_RX1_180 : FLk RX1 180 2 4 := ⟨_, _, _, rfl, by decide, inbX2, (TB_mem (i := 129) (by decide +kernel) (by decide +kernel))⟩
theorem cv_RX1_183 : CVk RX1 183 mX2_penaltyOf 2 := ⟨cmX2_penaltyOf, by decide +kernel, (TB_mem (i := 514) (by decide +kernel) (by decide +kernel)), (TB_mem (i := 460) (by decide +kernel) (by decide +kernel)), (TB_mem (i := 461) (by decide +kernel) (by decide +kernel))⟩
theorem cv_RX1_187 : CVk RX1 187 mX2_joined 2 := ⟨cmX2_joined, by decide +kernel, (TB_mem (i := 515) (by decide +kernel) (by decide +kernel)), (TB_mem (i := 464) (by decide +kernel) (by decide +kernel)), (TB_mem (i := 465) (by decide +kernel) (by decide +kernel))⟩
theorem fl_RX1_51 : FLk RX1 51 1 17 := ⟨_, _, _, rfl, by decide, inbX1, (TB_mem (i := 245) (by decide +kernel) (by decide +kernel))⟩
theorem fl_RX1_54 : FLk RX1 54 1 18 := ⟨_, _, _, rfl, by decide, inbX1, (TB_mem (i := 246) (by decide +kernel) (by decide +kernel))⟩
theorem cv_RX1_191 : CVk RX1 191 mX1_nextGap 2 := ⟨cmX1_nextGap, by decide +kernel, (TB_mem (i := 528) (by decide +kernel) (by decide +kernel)), (TB_mem (i := 530) (by decide +kernel) (by decide +kernel)), (TB_mem (i := 23) (by decide +kernel) (by decide +kernel))⟩
theorem cv_RX1_194 : CVk RX1 194 mX1_greatestInLine 3 := ⟨cmX1_greatestInLine, by decide +kernel, (TB_mem (i := 532) (by decide +kernel) (by decide +kernel)), (TB_mem (i := 534) (by decide +kernel) (by decide +kernel)), (TB_mem (i := 24) (by decide +kernel) (by decide +kernel))⟩
theorem cv_RX1_197 : CVk RX1 197 mX1_sumInLine 2 := ⟨cmX1_sumInLine, by decide +kernel, (TB_mem (i := 537) (by decide +kernel) (by decide +kernel)), (TB_mem (i := 539) (by decide +kernel) (by decide +kernel)), (TB_mem (i := 25) (by decide +kernel) (by decide +kernel))⟩
theorem jk_RX1_200 : JKk RX1 200 Lib.MathLoose.max_long.x "java/lang/Math" Lib.MathLoose.max_long.code 4 (some .long) := ⟨(TB_mem (i := 536) (by decide +kernel) (by decide +kernel)), (TB_mem (i := 468) (by decide +kernel) (by decide +kernel)), (TB_mem (i := 87) (by decide +kernel) (by decide +kernel)), (TB_mem (i := 469) (by decide +kernel) (by decide +kernel))⟩
theorem cv_RX1_109 : CVk RX1 109 mX0_makeEmpty 0 := ⟨cmX0_makeEmpty, by decide +kernel, (TB_mem (i := 549) (by decide +kernel) (by decide +kernel)), (TB_mem (i := 356) (by decide +kernel) (by decide +kernel)), (TB_mem (i := 357) (by decide +kernel) (by decide +kernel))⟩
theorem fl_RX1_73 : FLk RX1 73 1 15 := ⟨_, _, _, rfl, by decide, inbX1, (TB_mem (i := 243) (by decide +kernel) (by decide +kernel))⟩
theorem cv_RX1_114 : CVk RX1 114 mX0_addLast 2 := ⟨cmX0_addLast, by decide +kernel, (TB_mem (i := 550) (by decide +kernel) (by decide +kernel)), (TB_mem (i := 368) (by decide +kernel) (by decide +kernel)), (TB_mem (i := 369) (by decide +kernel) (by decide +kernel))⟩
theorem cv_RX1_122 : CVk RX1 122 mX0_groupByFamily 1 := ⟨cmX0_groupByFamily, by decide +kernel, (TB_mem (i := 551) (by decide +kernel) (by decide +kernel)), (TB_mem (i := 418) (by decide +kernel) (by decide +kernel)), (TB_mem (i := 419) (by decide +kernel) (by decide +kernel))⟩
theorem fl_RX5_41 : FLk RX5 41 5 7 := ⟨_, _, _, rfl, by decide, inbX5, (TB_mem (i := 294) (by decide +kernel) (by decide +kernel))⟩
theorem cv_RX5_196 : CVk RX5 196 mX2_takeFrom 1 := ⟨cmX2_takeFrom, by decide +kernel, (TB_mem (i := 568) (by decide +kernel) (by decide +kernel)), (TB_mem (i := 332) (by decide +kernel) (by decide +kernel)), (TB_mem (i := 333) (by decide +kernel) (by decide +kernel))⟩
theorem cv_RX5_213 : CVk RX5 213 mX2_dropSetups 0 := ⟨cmX2_dropSetups, by decide +kernel, (TB_mem (i := 569) (by decide +kernel) (by decide +kernel)), (TB_mem (i := 570) (by decide +kernel) (by decide +kernel)), (TB_mem (i := 571) (by decide +kernel) (by decide +kernel))⟩
theorem kc_RX5_224 : Cond.constantLong RX5 224 2887 ∈ TB := (TB_mem (i := 577) (by decide +kernel) (by decide +kernel))
theorem cs_RX5_226 : CSk RX5 226 mX5_mixed 2 := ⟨cmX5_mixed, by decide +kernel, (TB_mem (i := 578) (by decide +kernel) (by decide +kernel)), (TB_mem (i := 579) (by decide +kernel) (by decide +kernel))⟩
theorem cv_RX5_230 : CVk RX5 230 mX2_mixInto 1 := ⟨cmX2_mixInto, by decide +kernel, (TB_mem (i := 582) (by decide +kernel) (by decide +kernel)), (TB_mem (i := 583) (by decide +kernel) (by decide +kernel)), (TB_mem (i := 584) (by decide +kernel) (by decide +kernel))⟩
theorem fl_RX5_175 : FLk RX5 175 4 0 := ⟨_, _, _, rfl, by decide, inbX4, (TB_mem (i := 202) (by decide +kernel) (by decide +kernel))⟩
theorem cv_RX5_187 : CVk RX5 187 mX0_beginOf 1 := ⟨cmX0_beginOf, by decide +kernel, (TB_mem (i := 587) (by decide +kernel) (by decide +kernel)), (TB_mem (i := 433) (by decide +kernel) (by decide +kernel)), (TB_mem (i := 434) (by decide +kernel) (by decide +kernel))⟩
theorem fl_RX5_234 : FLk RX5 234 0 3 := ⟨_, _, _, rfl, by decide, inbX0, (TB_mem (i := 164) (by decide +kernel) (by decide +kernel))⟩
theorem kc_RX5_237 : Cond.constantLong RX5 237 31 ∈ TB := (TB_mem (i := 581) (by decide +kernel) (by decide +kernel))
theorem cs_RX2_68 : CSNk RX2 68 mX5_mixed 2 := ⟨cmX5_mixed, by decide +kernel, ⟨"BatchMachine", TN_mem (i := 586) (by decide +kernel) (by decide +kernel)⟩, (TB_mem (i := 579) (by decide +kernel) (by decide +kernel))⟩
theorem cv_RL_7 : CVk RL 7 mX5_addJob 5 := ⟨cmX5_addJob, by decide +kernel, (TB_mem (i := 593) (by decide +kernel) (by decide +kernel)), (TB_mem (i := 594) (by decide +kernel) (by decide +kernel)), (TB_mem (i := 595) (by decide +kernel) (by decide +kernel))⟩
theorem cs_RX5_52 : CSk RX5 52 mX5_isValue 2 := ⟨cmX5_isValue, by decide +kernel, (TB_mem (i := 597) (by decide +kernel) (by decide +kernel)), (TB_mem (i := 598) (by decide +kernel) (by decide +kernel))⟩
theorem fp_RX5_66 : FPk RX5 66 2 0 false .int := ⟨_, _, _, tyX2, rfl, by decide, inbX2, (TB_mem (i := 112) (by decide +kernel) (by decide +kernel)), tyX2_ok, nmX2, rfl, by decide +kernel, fun h => by cases h⟩
theorem gs_RX5_239 : Cond.fieldLink RX5 239 "BatchMachine" "LEAST_VALUE" "[I" ∈ TB := (TB_mem (i := 600) (by decide +kernel) (by decide +kernel))
theorem gs_RX5_242 : Cond.fieldLink RX5 242 "BatchMachine" "GREATEST_VALUE" "[I" ∈ TB := (TB_mem (i := 602) (by decide +kernel) (by decide +kernel))
theorem cv_RL_17 : CVk RL 17 mX5_removeJob 1 := ⟨cmX5_removeJob, by decide +kernel, (TB_mem (i := 691) (by decide +kernel) (by decide +kernel)), (TB_mem (i := 692) (by decide +kernel) (by decide +kernel)), (TB_mem (i := 693) (by decide +kernel) (by decide +kernel))⟩
theorem cv_RX5_95 : CVk RX5 95 mX2_dropJob 1 := ⟨cmX2_dropJob, by decide +kernel, (TB_mem (i := 711) (by decide +kernel) (by decide +kernel)), (TB_mem (i := 712) (by decide +kernel) (by decide +kernel)), (TB_mem (i := 713) (by decide +kernel) (by decide +kernel))⟩
theorem cv_RX5_102 : CVk RX5 102 mX0_dropJob 1 := ⟨cmX0_dropJob, by decide +kernel, (TB_mem (i := 715) (by decide +kernel) (by decide +kernel)), (TB_mem (i := 716) (by decide +kernel) (by decide +kernel)), (TB_mem (i := 717) (by decide +kernel) (by decide +kernel))⟩
theorem cv_RL_23 : CVk RL 23 mX5_setJob 3 := ⟨cmX5_setJob, by decide +kernel, (TB_mem (i := 722) (by decide +kernel) (by decide +kernel)), (TB_mem (i := 723) (by decide +kernel) (by decide +kernel)), (TB_mem (i := 724) (by decide +kernel) (by decide +kernel))⟩
theorem cv_RL_27 : CVk RL 27 mX5_job 2 := ⟨cmX5_job, by decide +kernel, (TB_mem (i := 730) (by decide +kernel) (by decide +kernel)), (TB_mem (i := 731) (by decide +kernel) (by decide +kernel)), (TB_mem (i := 732) (by decide +kernel) (by decide +kernel))⟩
theorem cv_RL_31 : CVk RL 31 mX5_setSetup 3 := ⟨cmX5_setSetup, by decide +kernel, (TB_mem (i := 738) (by decide +kernel) (by decide +kernel)), (TB_mem (i := 739) (by decide +kernel) (by decide +kernel)), (TB_mem (i := 740) (by decide +kernel) (by decide +kernel))⟩
theorem fl_RX5_114 : FLk RX5 114 2 2 := ⟨_, _, _, rfl, by decide, inbX2, (TB_mem (i := 121) (by decide +kernel) (by decide +kernel))⟩
theorem cv_RL_34 : CVk RL 34 mX5_setObjective 1 := ⟨cmX5_setObjective, by decide +kernel, (TB_mem (i := 747) (by decide +kernel) (by decide +kernel)), (TB_mem (i := 748) (by decide +kernel) (by decide +kernel)), (TB_mem (i := 749) (by decide +kernel) (by decide +kernel))⟩
theorem fl_RX5_125 : FLk RX5 125 2 5 := ⟨_, _, _, rfl, by decide, inbX2, (TB_mem (i := 132) (by decide +kernel) (by decide +kernel))⟩
theorem fp_RX5_125 : FPk RX5 125 2 5 false .int := ⟨_, _, _, tyX2, rfl, by decide, inbX2, (TB_mem (i := 132) (by decide +kernel) (by decide +kernel)), tyX2_ok, nmX2, rfl, by decide +kernel, fun h => by cases h⟩
theorem cv_RL_37 : CVk RL 37 mX5_append 1 := ⟨cmX5_append, by decide +kernel, (TB_mem (i := 755) (by decide +kernel) (by decide +kernel)), (TB_mem (i := 756) (by decide +kernel) (by decide +kernel)), (TB_mem (i := 757) (by decide +kernel) (by decide +kernel))⟩
theorem cv_RL_40 : CVk RL 40 mX5_keepRule 1 := ⟨cmX5_keepRule, by decide +kernel, (TB_mem (i := 764) (by decide +kernel) (by decide +kernel)), (TB_mem (i := 765) (by decide +kernel) (by decide +kernel)), (TB_mem (i := 766) (by decide +kernel) (by decide +kernel))⟩
theorem cv_RL_44 : CVk RL 44 mX5_improve 1 := ⟨cmX5_improve, by decide +kernel, (TB_mem (i := 772) (by decide +kernel) (by decide +kernel)), (TB_mem (i := 773) (by decide +kernel) (by decide +kernel)), (TB_mem (i := 774) (by decide +kernel) (by decide +kernel))⟩
theorem cv_RX5_165 : CVk RX5 165 mX5_makeStep 0 := ⟨cmX5_makeStep, by decide +kernel, (TB_mem (i := 777) (by decide +kernel) (by decide +kernel)), (TB_mem (i := 779) (by decide +kernel) (by decide +kernel)), (TB_mem (i := 28) (by decide +kernel) (by decide +kernel))⟩
theorem cv_RX5_277 : CVk RX5 277 mX5_tryMove 3 := ⟨cmX5_tryMove, by decide +kernel, (TB_mem (i := 781) (by decide +kernel) (by decide +kernel)), (TB_mem (i := 783) (by decide +kernel) (by decide +kernel)), (TB_mem (i := 29) (by decide +kernel) (by decide +kernel))⟩
theorem cv_RX5_281 : CVk RX5 281 mX0_takeMoved 3 := ⟨cmX0_takeMoved, by decide +kernel, (TB_mem (i := 785) (by decide +kernel) (by decide +kernel)), (TB_mem (i := 786) (by decide +kernel) (by decide +kernel)), (TB_mem (i := 787) (by decide +kernel) (by decide +kernel))⟩
theorem cv_RX0_35 : CVk RX0 35 mX0_makeEmpty 0 := ⟨cmX0_makeEmpty, by decide +kernel, (TB_mem (i := 789) (by decide +kernel) (by decide +kernel)), (TB_mem (i := 356) (by decide +kernel) (by decide +kernel)), (TB_mem (i := 357) (by decide +kernel) (by decide +kernel))⟩
theorem cv_RX0_38 : CVk RX0 38 mX0_putAt 2 := ⟨cmX0_putAt, by decide +kernel, (TB_mem (i := 790) (by decide +kernel) (by decide +kernel)), (TB_mem (i := 414) (by decide +kernel) (by decide +kernel)), (TB_mem (i := 415) (by decide +kernel) (by decide +kernel))⟩
theorem cv_RL_47 : CVk RL 47 mX5_batch 2 := ⟨cmX5_batch, by decide +kernel, (TB_mem (i := 794) (by decide +kernel) (by decide +kernel)), (TB_mem (i := 795) (by decide +kernel) (by decide +kernel)), (TB_mem (i := 796) (by decide +kernel) (by decide +kernel))⟩
theorem cv_RL_50 : CVk RL 50 mX5_jobAt 2 := ⟨cmX5_jobAt, by decide +kernel, (TB_mem (i := 802) (by decide +kernel) (by decide +kernel)), (TB_mem (i := 803) (by decide +kernel) (by decide +kernel)), (TB_mem (i := 804) (by decide +kernel) (by decide +kernel))⟩
theorem cv_RX5_178 : CVk RX5 178 mX0_lengthOf 1 := ⟨cmX0_lengthOf, by decide +kernel, (TB_mem (i := 806) (by decide +kernel) (by decide +kernel)), (TB_mem (i := 807) (by decide +kernel) (by decide +kernel)), (TB_mem (i := 808) (by decide +kernel) (by decide +kernel))⟩
theorem cv_RX0_31 : CVk RX0 31 mX0_beginOf 1 := ⟨cmX0_beginOf, by decide +kernel, (TB_mem (i := 810) (by decide +kernel) (by decide +kernel)), (TB_mem (i := 433) (by decide +kernel) (by decide +kernel)), (TB_mem (i := 434) (by decide +kernel) (by decide +kernel))⟩
theorem cv_RL_53 : CVk RL 53 mX5_planned 2 := ⟨cmX5_planned, by decide +kernel, (TB_mem (i := 815) (by decide +kernel) (by decide +kernel)), (TB_mem (i := 816) (by decide +kernel) (by decide +kernel)), (TB_mem (i := 817) (by decide +kernel) (by decide +kernel))⟩
theorem fl_RX5_190 : FLk RX5 190 4 1 := ⟨_, _, _, rfl, by decide, inbX4, (TB_mem (i := 204) (by decide +kernel) (by decide +kernel))⟩
theorem cv_RL_56 : CVk RL 56 mX5_total 1 := ⟨cmX5_total, by decide +kernel, (TB_mem (i := 822) (by decide +kernel) (by decide +kernel)), (TB_mem (i := 823) (by decide +kernel) (by decide +kernel)), (TB_mem (i := 824) (by decide +kernel) (by decide +kernel))⟩
theorem fl_RX5_193 : FLk RX5 193 4 2 := ⟨_, _, _, rfl, by decide, inbX4, (TB_mem (i := 206) (by decide +kernel) (by decide +kernel))⟩
theorem cv_RL_59 : CVk RL 59 mX5_ruleCost 1 := ⟨cmX5_ruleCost, by decide +kernel, (TB_mem (i := 829) (by decide +kernel) (by decide +kernel)), (TB_mem (i := 830) (by decide +kernel) (by decide +kernel)), (TB_mem (i := 831) (by decide +kernel) (by decide +kernel))⟩
theorem cv_RL_62 : CVk RL 62 mX5_bestWithout 1 := ⟨cmX5_bestWithout, by decide +kernel, (TB_mem (i := 836) (by decide +kernel) (by decide +kernel)), (TB_mem (i := 837) (by decide +kernel) (by decide +kernel)), (TB_mem (i := 838) (by decide +kernel) (by decide +kernel))⟩
theorem cv_RL_65 : CVk RL 65 mX5_bestWithFirst 1 := ⟨cmX5_bestWithFirst, by decide +kernel, (TB_mem (i := 843) (by decide +kernel) (by decide +kernel)), (TB_mem (i := 844) (by decide +kernel) (by decide +kernel)), (TB_mem (i := 845) (by decide +kernel) (by decide +kernel))⟩
theorem cv_RL_68 : CVk RL 68 mX5_latestRelease 1 := ⟨cmX5_latestRelease, by decide +kernel, (TB_mem (i := 850) (by decide +kernel) (by decide +kernel)), (TB_mem (i := 851) (by decide +kernel) (by decide +kernel)), (TB_mem (i := 852) (by decide +kernel) (by decide +kernel))⟩
theorem jk_RX5_203 : JKk RX5 203 Lib.Math.min.name "java/lang/Math" Lib.Math.min.code 2 (some .int) := ⟨(TB_mem (i := 854) (by decide +kernel) (by decide +kernel)), (TB_mem (i := 485) (by decide +kernel) (by decide +kernel)), (TB_mem (i := 87) (by decide +kernel) (by decide +kernel)), (TB_mem (i := 486) (by decide +kernel) (by decide +kernel))⟩
theorem cv_RX5_209 : CVk RX5 209 mX5_latestInDraft 4 := ⟨cmX5_latestInDraft, by decide +kernel, (TB_mem (i := 855) (by decide +kernel) (by decide +kernel)), (TB_mem (i := 857) (by decide +kernel) (by decide +kernel)), (TB_mem (i := 30) (by decide +kernel) (by decide +kernel))⟩
theorem cv_RL_71 : CVk RL 71 mX5_undo 0 := ⟨cmX5_undo, by decide +kernel, (TB_mem (i := 862) (by decide +kernel) (by decide +kernel)), (TB_mem (i := 863) (by decide +kernel) (by decide +kernel)), (TB_mem (i := 864) (by decide +kernel) (by decide +kernel))⟩
theorem jo_RX6_1 : JOk RX6 1 := ⟨(TB_mem (i := 872) (by decide +kernel) (by decide +kernel)), (TB_mem (i := 94) (by decide +kernel) (by decide +kernel)), (TB_mem (i := 95) (by decide +kernel) (by decide +kernel))⟩
theorem fp_RX6_7 : FPk RX6 7 6 0 true (.array .int) := ⟨_, _, _, tyX6, rfl, by decide, inbX6, (TB_mem (i := 875) (by decide +kernel) (by decide +kernel)), tyX6_ok, nmX6, rfl, by decide +kernel, fun _ => rfl⟩
theorem fp_RX6_13 : FPk RX6 13 6 1 true (.array .int) := ⟨_, _, _, tyX6, rfl, by decide, inbX6, (TB_mem (i := 876) (by decide +kernel) (by decide +kernel)), tyX6_ok, nmX6, rfl, by decide +kernel, fun _ => rfl⟩
theorem fp_RX6_16 : FPk RX6 16 6 4 true (.array .int) := ⟨_, _, _, tyX6, rfl, by decide, inbX6, (TB_mem (i := 879) (by decide +kernel) (by decide +kernel)), tyX6_ok, nmX6, rfl, by decide +kernel, fun _ => rfl⟩
theorem fp_RX6_19 : FPk RX6 19 6 5 true (.array .int) := ⟨_, _, _, tyX6, rfl, by decide, inbX6, (TB_mem (i := 880) (by decide +kernel) (by decide +kernel)), tyX6_ok, nmX6, rfl, by decide +kernel, fun _ => rfl⟩
theorem fp_RX6_22 : FPk RX6 22 6 7 true (.array .int) := ⟨_, _, _, tyX6, rfl, by decide, inbX6, (TB_mem (i := 882) (by decide +kernel) (by decide +kernel)), tyX6_ok, nmX6, rfl, by decide +kernel, fun _ => rfl⟩
theorem fp_RX6_25 : FPk RX6 25 6 8 true (.array .int) := ⟨_, _, _, tyX6, rfl, by decide, inbX6, (TB_mem (i := 883) (by decide +kernel) (by decide +kernel)), tyX6_ok, nmX6, rfl, by decide +kernel, fun _ => rfl⟩
theorem fp_RX6_28 : FPk RX6 28 6 9 true (.array .int) := ⟨_, _, _, tyX6, rfl, by decide, inbX6, (TB_mem (i := 884) (by decide +kernel) (by decide +kernel)), tyX6_ok, nmX6, rfl, by decide +kernel, fun _ => rfl⟩
theorem fp_RX6_31 : FPk RX6 31 6 10 true (.array .int) := ⟨_, _, _, tyX6, rfl, by decide, inbX6, (TB_mem (i := 885) (by decide +kernel) (by decide +kernel)), tyX6_ok, nmX6, rfl, by decide +kernel, fun _ => rfl⟩
theorem fp_RX6_34 : FPk RX6 34 6 11 true (.array .int) := ⟨_, _, _, tyX6, rfl, by decide, inbX6, (TB_mem (i := 886) (by decide +kernel) (by decide +kernel)), tyX6_ok, nmX6, rfl, by decide +kernel, fun _ => rfl⟩
theorem fp_RX6_37 : FPk RX6 37 6 13 true (.array .int) := ⟨_, _, _, tyX6, rfl, by decide, inbX6, (TB_mem (i := 888) (by decide +kernel) (by decide +kernel)), tyX6_ok, nmX6, rfl, by decide +kernel, fun _ => rfl⟩
theorem fp_RX6_40 : FPk RX6 40 6 15 true (.array .int) := ⟨_, _, _, tyX6, rfl, by decide, inbX6, (TB_mem (i := 890) (by decide +kernel) (by decide +kernel)), tyX6_ok, nmX6, rfl, by decide +kernel, fun _ => rfl⟩
theorem kc_RX6_43 : Cond.constant RX6 43 1228800 ∈ TB := (TB_mem (i := 873) (by decide +kernel) (by decide +kernel))
theorem fp_RX6_44 : FPk RX6 44 6 16 true (.array .int) := ⟨_, _, _, tyX6, rfl, by decide, inbX6, (TB_mem (i := 891) (by decide +kernel) (by decide +kernel)), tyX6_ok, nmX6, rfl, by decide +kernel, fun _ => rfl⟩
theorem fp_RX6_47 : FPk RX6 47 6 17 true (.array .int) := ⟨_, _, _, tyX6, rfl, by decide, inbX6, (TB_mem (i := 892) (by decide +kernel) (by decide +kernel)), tyX6_ok, nmX6, rfl, by decide +kernel, fun _ => rfl⟩
theorem fp_RX6_50 : FPk RX6 50 6 18 true (.array .int) := ⟨_, _, _, tyX6, rfl, by decide, inbX6, (TB_mem (i := 893) (by decide +kernel) (by decide +kernel)), tyX6_ok, nmX6, rfl, by decide +kernel, fun _ => rfl⟩
theorem fp_RX6_53 : FPk RX6 53 6 22 true (.array .int) := ⟨_, _, _, tyX6, rfl, by decide, inbX6, (TB_mem (i := 897) (by decide +kernel) (by decide +kernel)), tyX6_ok, nmX6, rfl, by decide +kernel, fun _ => rfl⟩
theorem fp_RX6_56 : FPk RX6 56 6 23 true (.array .int) := ⟨_, _, _, tyX6, rfl, by decide, inbX6, (TB_mem (i := 898) (by decide +kernel) (by decide +kernel)), tyX6_ok, nmX6, rfl, by decide +kernel, fun _ => rfl⟩
theorem fp_RX6_59 : FPk RX6 59 6 24 true (.array .int) := ⟨_, _, _, tyX6, rfl, by decide, inbX6, (TB_mem (i := 899) (by decide +kernel) (by decide +kernel)), tyX6_ok, nmX6, rfl, by decide +kernel, fun _ => rfl⟩
theorem fp_RX6_62 : FPk RX6 62 6 25 true (.array .int) := ⟨_, _, _, tyX6, rfl, by decide, inbX6, (TB_mem (i := 900) (by decide +kernel) (by decide +kernel)), tyX6_ok, nmX6, rfl, by decide +kernel, fun _ => rfl⟩
theorem fl_RX6_7 : FLk RX6 7 6 0 := ⟨_, _, _, rfl, by decide, inbX6, (TB_mem (i := 875) (by decide +kernel) (by decide +kernel))⟩
theorem fl_RX6_44 : FLk RX6 44 6 16 := ⟨_, _, _, rfl, by decide, inbX6, (TB_mem (i := 891) (by decide +kernel) (by decide +kernel))⟩
theorem kc_RX6_65 : Cond.constant RX6 65 2000000000 ∈ TB := (TB_mem (i := 874) (by decide +kernel) (by decide +kernel))
theorem fl_RX6_47 : FLk RX6 47 6 17 := ⟨_, _, _, rfl, by decide, inbX6, (TB_mem (i := 892) (by decide +kernel) (by decide +kernel))⟩
theorem fl_RX6_50 : FLk RX6 50 6 18 := ⟨_, _, _, rfl, by decide, inbX6, (TB_mem (i := 893) (by decide +kernel) (by decide +kernel))⟩
theorem fl_RX6_66 : FLk RX6 66 6 3 := ⟨_, _, _, rfl, by decide, inbX6, (TB_mem (i := 878) (by decide +kernel) (by decide +kernel))⟩
theorem cs_RX6_87 : CSk RX6 87 mX6_isValue 2 := ⟨cmX6_isValue, by decide +kernel, (TB_mem (i := 962) (by decide +kernel) (by decide +kernel)), (TB_mem (i := 963) (by decide +kernel) (by decide +kernel))⟩
theorem cv_RX6_91 : CVk RX6 91 mX6_goes 2 := ⟨cmX6_goes, by decide +kernel, (TB_mem (i := 973) (by decide +kernel) (by decide +kernel)), (TB_mem (i := 975) (by decide +kernel) (by decide +kernel)), (TB_mem (i := 31) (by decide +kernel) (by decide +kernel))⟩
theorem cv_RX6_95 : CVk RX6 95 mX6_save 0 := ⟨cmX6_save, by decide +kernel, (TB_mem (i := 977) (by decide +kernel) (by decide +kernel)), (TB_mem (i := 979) (by decide +kernel) (by decide +kernel)), (TB_mem (i := 32) (by decide +kernel) (by decide +kernel))⟩
theorem kc_RX6_77 : Cond.constantLong RX6 77 3 ∈ TB := (TB_mem (i := 965) (by decide +kernel) (by decide +kernel))
theorem cs_RX6_73 : CSk RX6 73 mX6_in 3 := ⟨cmX6_in, by decide +kernel, (TB_mem (i := 966) (by decide +kernel) (by decide +kernel)), (TB_mem (i := 967) (by decide +kernel) (by decide +kernel))⟩
theorem kc_RX6_79 : Cond.constantLong RX6 79 50 ∈ TB := (TB_mem (i := 969) (by decide +kernel) (by decide +kernel))
theorem kc_RX6_81 : Cond.constantLong RX6 81 300 ∈ TB := (TB_mem (i := 970) (by decide +kernel) (by decide +kernel))
theorem kc_RX6_83 : Cond.constantLong RX6 83 500 ∈ TB := (TB_mem (i := 971) (by decide +kernel) (by decide +kernel))
theorem kc_RX6_85 : Cond.constantLong RX6 85 9 ∈ TB := (TB_mem (i := 972) (by decide +kernel) (by decide +kernel))
theorem fp_RX6_66 : FPk RX6 66 6 3 false .int := ⟨_, _, _, tyX6, rfl, by decide, inbX6, (TB_mem (i := 878) (by decide +kernel) (by decide +kernel)), tyX6_ok, nmX6, rfl, by decide +kernel, fun h => by cases h⟩
theorem fl_RX6_70 : FLk RX6 70 6 2 := ⟨_, _, _, rfl, by decide, inbX6, (TB_mem (i := 877) (by decide +kernel) (by decide +kernel))⟩
theorem fl_RX6_13 : FLk RX6 13 6 1 := ⟨_, _, _, rfl, by decide, inbX6, (TB_mem (i := 876) (by decide +kernel) (by decide +kernel))⟩
theorem fp_RX6_70 : FPk RX6 70 6 2 false .int := ⟨_, _, _, tyX6, rfl, by decide, inbX6, (TB_mem (i := 877) (by decide +kernel) (by decide +kernel)), tyX6_ok, nmX6, rfl, by decide +kernel, fun h => by cases h⟩
theorem cv_RX6_98 : CVk RX6 98 mX6_isJob 1 := ⟨cmX6_isJob, by decide +kernel, (TB_mem (i := 985) (by decide +kernel) (by decide +kernel)), (TB_mem (i := 987) (by decide +kernel) (by decide +kernel)), (TB_mem (i := 33) (by decide +kernel) (by decide +kernel))⟩
theorem kc_RX6_102 : Cond.constantLong RX6 102 4 ∈ TB := (TB_mem (i := 993) (by decide +kernel) (by decide +kernel))
theorem cv_RX6_104 : CVk RX6 104 mX6_of 2 := ⟨cmX6_of, by decide +kernel, (TB_mem (i := 994) (by decide +kernel) (by decide +kernel)), (TB_mem (i := 996) (by decide +kernel) (by decide +kernel)), (TB_mem (i := 34) (by decide +kernel) (by decide +kernel))⟩
theorem kc_RX6_108 : Cond.constantLong RX6 108 (-1) ∈ TB := (TB_mem (i := 1010) (by decide +kernel) (by decide +kernel))
theorem kc_RX6_110 : Cond.constantLong RX6 110 60 ∈ TB := (TB_mem (i := 1011) (by decide +kernel) (by decide +kernel))
theorem kc_RX6_112 : Cond.constantLong RX6 112 5 ∈ TB := (TB_mem (i := 1020) (by decide +kernel) (by decide +kernel))
theorem kc_RX6_149 : Cond.constantLong RX6 149 127 ∈ TB := (TB_mem (i := 1025) (by decide +kernel) (by decide +kernel))
theorem fl_RX6_151 : FLk RX6 151 6 14 := ⟨_, _, _, rfl, by decide, inbX6, (TB_mem (i := 889) (by decide +kernel) (by decide +kernel))⟩
theorem fl_RX6_37 : FLk RX6 37 6 13 := ⟨_, _, _, rfl, by decide, inbX6, (TB_mem (i := 888) (by decide +kernel) (by decide +kernel))⟩
theorem fp_RX6_151 : FPk RX6 151 6 14 false .int := ⟨_, _, _, tyX6, rfl, by decide, inbX6, (TB_mem (i := 889) (by decide +kernel) (by decide +kernel)), tyX6_ok, nmX6, rfl, by decide +kernel, fun h => by cases h⟩
theorem cv_RX6_157 : CVk RX6 157 mX6_reads 0 := ⟨cmX6_reads, by decide +kernel, (TB_mem (i := 1034) (by decide +kernel) (by decide +kernel)), (TB_mem (i := 1036) (by decide +kernel) (by decide +kernel)), (TB_mem (i := 35) (by decide +kernel) (by decide +kernel))⟩
theorem cv_RX6_160 : CVk RX6 160 mX6_keepsIt 0 := ⟨cmX6_keepsIt, by decide +kernel, (TB_mem (i := 1041) (by decide +kernel) (by decide +kernel)), (TB_mem (i := 1043) (by decide +kernel) (by decide +kernel)), (TB_mem (i := 36) (by decide +kernel) (by decide +kernel))⟩
theorem cv_RX6_163 : CVk RX6 163 mX6_runs 0 := ⟨cmX6_runs, by decide +kernel, (TB_mem (i := 1045) (by decide +kernel) (by decide +kernel)), (TB_mem (i := 1047) (by decide +kernel) (by decide +kernel)), (TB_mem (i := 37) (by decide +kernel) (by decide +kernel))⟩
theorem fl_RX6_126 : FLk RX6 126 6 12 := ⟨_, _, _, rfl, by decide, inbX6, (TB_mem (i := 887) (by decide +kernel) (by decide +kernel))⟩
theorem fp_RX6_119 : FPk RX6 119 6 6 false .int := ⟨_, _, _, tyX6, rfl, by decide, inbX6, (TB_mem (i := 881) (by decide +kernel) (by decide +kernel)), tyX6_ok, nmX6, rfl, by decide +kernel, fun h => by cases h⟩
theorem cs_RX6_154 : CSk RX6 154 mX6_has 2 := ⟨cmX6_has, by decide +kernel, (TB_mem (i := 1038) (by decide +kernel) (by decide +kernel)), (TB_mem (i := 1039) (by decide +kernel) (by decide +kernel))⟩
theorem fl_RX6_16 : FLk RX6 16 6 4 := ⟨_, _, _, rfl, by decide, inbX6, (TB_mem (i := 879) (by decide +kernel) (by decide +kernel))⟩
theorem fl_RX6_119 : FLk RX6 119 6 6 := ⟨_, _, _, rfl, by decide, inbX6, (TB_mem (i := 881) (by decide +kernel) (by decide +kernel))⟩
theorem fl_RX6_19 : FLk RX6 19 6 5 := ⟨_, _, _, rfl, by decide, inbX6, (TB_mem (i := 880) (by decide +kernel) (by decide +kernel))⟩
theorem cv_RX6_122 : CVk RX6 122 mX6_costOfNothing 0 := ⟨cmX6_costOfNothing, by decide +kernel, (TB_mem (i := 1049) (by decide +kernel) (by decide +kernel)), (TB_mem (i := 1051) (by decide +kernel) (by decide +kernel)), (TB_mem (i := 38) (by decide +kernel) (by decide +kernel))⟩
theorem fp_RX6_126 : FPk RX6 126 6 12 false .int := ⟨_, _, _, tyX6, rfl, by decide, inbX6, (TB_mem (i := 887) (by decide +kernel) (by decide +kernel)), tyX6_ok, nmX6, rfl, by decide +kernel, fun h => by cases h⟩
theorem cv_RX6_129 : CVk RX6 129 mX6_endOfBatch 1 := ⟨cmX6_endOfBatch, by decide +kernel, (TB_mem (i := 1058) (by decide +kernel) (by decide +kernel)), (TB_mem (i := 1060) (by decide +kernel) (by decide +kernel)), (TB_mem (i := 40) (by decide +kernel) (by decide +kernel))⟩
theorem cv_RX6_133 : CVk RX6 133 mX6_runsBatch 4 := ⟨cmX6_runsBatch, by decide +kernel, (TB_mem (i := 1062) (by decide +kernel) (by decide +kernel)), (TB_mem (i := 1064) (by decide +kernel) (by decide +kernel)), (TB_mem (i := 41) (by decide +kernel) (by decide +kernel))⟩
theorem fl_RX6_25 : FLk RX6 25 6 8 := ⟨_, _, _, rfl, by decide, inbX6, (TB_mem (i := 883) (by decide +kernel) (by decide +kernel))⟩
theorem cv_RX6_137 : CVk RX6 137 mX6_costOf 2 := ⟨cmX6_costOf, by decide +kernel, (TB_mem (i := 1073) (by decide +kernel) (by decide +kernel)), (TB_mem (i := 1075) (by decide +kernel) (by decide +kernel)), (TB_mem (i := 43) (by decide +kernel) (by decide +kernel))⟩
theorem cv_RX6_140 : CVk RX6 140 mX6_with 2 := ⟨cmX6_with, by decide +kernel, (TB_mem (i := 1077) (by decide +kernel) (by decide +kernel)), (TB_mem (i := 1079) (by decide +kernel) (by decide +kernel)), (TB_mem (i := 44) (by decide +kernel) (by decide +kernel))⟩
theorem cv_RX6_114 : CVk RX6 114 mX6_isSum 0 := ⟨cmX6_isSum, by decide +kernel, (TB_mem (i := 1053) (by decide +kernel) (by decide +kernel)), (TB_mem (i := 1055) (by decide +kernel) (by decide +kernel)), (TB_mem (i := 39) (by decide +kernel) (by decide +kernel))⟩
theorem kc_RX6_118 : Cond.constant RX6 118 (-1000000) ∈ TB := (TB_mem (i := 1057) (by decide +kernel) (by decide +kernel))
theorem cs_RX6_143 : CSk RX6 143 mX6_later 2 := ⟨cmX6_later, by decide +kernel, (TB_mem (i := 1066) (by decide +kernel) (by decide +kernel)), (TB_mem (i := 1067) (by decide +kernel) (by decide +kernel))⟩
theorem fl_RX6_31 : FLk RX6 31 6 10 := ⟨_, _, _, rfl, by decide, inbX6, (TB_mem (i := 885) (by decide +kernel) (by decide +kernel))⟩
theorem fl_RX6_34 : FLk RX6 34 6 11 := ⟨_, _, _, rfl, by decide, inbX6, (TB_mem (i := 886) (by decide +kernel) (by decide +kernel))⟩
theorem cv_RX6_146 : CVk RX6 146 mX6_setup 2 := ⟨cmX6_setup, by decide +kernel, (TB_mem (i := 1069) (by decide +kernel) (by decide +kernel)), (TB_mem (i := 1071) (by decide +kernel) (by decide +kernel)), (TB_mem (i := 42) (by decide +kernel) (by decide +kernel))⟩
theorem fl_RX6_22 : FLk RX6 22 6 7 := ⟨_, _, _, rfl, by decide, inbX6, (TB_mem (i := 882) (by decide +kernel) (by decide +kernel))⟩
theorem fl_RX6_28 : FLk RX6 28 6 9 := ⟨_, _, _, rfl, by decide, inbX6, (TB_mem (i := 884) (by decide +kernel) (by decide +kernel))⟩
theorem cv_RX6_176 : CVk RX6 176 mX6_ruled 1 := ⟨cmX6_ruled, by decide +kernel, (TB_mem (i := 1085) (by decide +kernel) (by decide +kernel)), (TB_mem (i := 1087) (by decide +kernel) (by decide +kernel)), (TB_mem (i := 45) (by decide +kernel) (by decide +kernel))⟩
theorem cv_RX6_169 : CVk RX6 169 mX6_isAhead 3 := ⟨cmX6_isAhead, by decide +kernel, (TB_mem (i := 1089) (by decide +kernel) (by decide +kernel)), (TB_mem (i := 1091) (by decide +kernel) (by decide +kernel)), (TB_mem (i := 46) (by decide +kernel) (by decide +kernel))⟩
theorem cv_RX6_173 : CVk RX6 173 mX6_opensByFamilies 0 := ⟨cmX6_opensByFamilies, by decide +kernel, (TB_mem (i := 1097) (by decide +kernel) (by decide +kernel)), (TB_mem (i := 1099) (by decide +kernel) (by decide +kernel)), (TB_mem (i := 48) (by decide +kernel) (by decide +kernel))⟩
theorem cv_RX6_166 : CVk RX6 166 mX6_familyDue 1 := ⟨cmX6_familyDue, by decide +kernel, (TB_mem (i := 1093) (by decide +kernel) (by decide +kernel)), (TB_mem (i := 1095) (by decide +kernel) (by decide +kernel)), (TB_mem (i := 47) (by decide +kernel) (by decide +kernel))⟩
theorem cv_RX6_186 : CVk RX6 186 mX6_improves 0 := ⟨cmX6_improves, by decide +kernel, (TB_mem (i := 1109) (by decide +kernel) (by decide +kernel)), (TB_mem (i := 1111) (by decide +kernel) (by decide +kernel)), (TB_mem (i := 49) (by decide +kernel) (by decide +kernel))⟩
theorem cv_RX6_179 : CVk RX6 179 mX6_takesKept 0 := ⟨cmX6_takesKept, by decide +kernel, (TB_mem (i := 1113) (by decide +kernel) (by decide +kernel)), (TB_mem (i := 1115) (by decide +kernel) (by decide +kernel)), (TB_mem (i := 50) (by decide +kernel) (by decide +kernel))⟩
theorem fl_RX6_40 : FLk RX6 40 6 15 := ⟨_, _, _, rfl, by decide, inbX6, (TB_mem (i := 890) (by decide +kernel) (by decide +kernel))⟩
theorem cv_RX6_182 : CVk RX6 182 mX6_laysMoved 2 := ⟨cmX6_laysMoved, by decide +kernel, (TB_mem (i := 1117) (by decide +kernel) (by decide +kernel)), (TB_mem (i := 1119) (by decide +kernel) (by decide +kernel)), (TB_mem (i := 51) (by decide +kernel) (by decide +kernel))⟩
theorem cv_RX6_189 : CVk RX6 189 mX6_runsKept 0 := ⟨cmX6_runsKept, by decide +kernel, (TB_mem (i := 1125) (by decide +kernel) (by decide +kernel)), (TB_mem (i := 1127) (by decide +kernel) (by decide +kernel)), (TB_mem (i := 52) (by decide +kernel) (by decide +kernel))⟩
theorem cv_RX6_195 : CVk RX6 195 mX6_batchValue 2 := ⟨cmX6_batchValue, by decide +kernel, (TB_mem (i := 1133) (by decide +kernel) (by decide +kernel)), (TB_mem (i := 1135) (by decide +kernel) (by decide +kernel)), (TB_mem (i := 53) (by decide +kernel) (by decide +kernel))⟩
theorem cv_RX6_192 : CVk RX6 192 mX6_firstOf 1 := ⟨cmX6_firstOf, by decide +kernel, (TB_mem (i := 1137) (by decide +kernel) (by decide +kernel)), (TB_mem (i := 1139) (by decide +kernel) (by decide +kernel)), (TB_mem (i := 54) (by decide +kernel) (by decide +kernel))⟩
theorem kc_RX6_198 : Cond.constantLong RX6 198 2 ∈ TB := (TB_mem (i := 1157) (by decide +kernel) (by decide +kernel))
theorem cv_RX6_250 : CVk RX6 250 mX6_best 0 := ⟨cmX6_best, by decide +kernel, (TB_mem (i := 1162) (by decide +kernel) (by decide +kernel)), (TB_mem (i := 1164) (by decide +kernel) (by decide +kernel)), (TB_mem (i := 55) (by decide +kernel) (by decide +kernel))⟩
theorem cv_RX6_253 : CVk RX6 253 mX6_laysBest 1 := ⟨cmX6_laysBest, by decide +kernel, (TB_mem (i := 1194) (by decide +kernel) (by decide +kernel)), (TB_mem (i := 1196) (by decide +kernel) (by decide +kernel)), (TB_mem (i := 63) (by decide +kernel) (by decide +kernel))⟩
theorem cv_RX6_230 : CVk RX6 230 mX6_searched 2 := ⟨cmX6_searched, by decide +kernel, (TB_mem (i := 1166) (by decide +kernel) (by decide +kernel)), (TB_mem (i := 1168) (by decide +kernel) (by decide +kernel)), (TB_mem (i := 56) (by decide +kernel) (by decide +kernel))⟩
theorem cv_RX6_220 : CVk RX6 220 mX6_clears 0 := ⟨cmX6_clears, by decide +kernel, (TB_mem (i := 1170) (by decide +kernel) (by decide +kernel)), (TB_mem (i := 1172) (by decide +kernel) (by decide +kernel)), (TB_mem (i := 57) (by decide +kernel) (by decide +kernel))⟩
theorem cv_RX6_223 : CVk RX6 223 mX6_laysSets 0 := ⟨cmX6_laysSets, by decide +kernel, (TB_mem (i := 1174) (by decide +kernel) (by decide +kernel)), (TB_mem (i := 1176) (by decide +kernel) (by decide +kernel)), (TB_mem (i := 58) (by decide +kernel) (by decide +kernel))⟩
theorem cv_RX6_226 : CVk RX6 226 mX6_goesOn 5 := ⟨cmX6_goesOn, by decide +kernel, (TB_mem (i := 1178) (by decide +kernel) (by decide +kernel)), (TB_mem (i := 1180) (by decide +kernel) (by decide +kernel)), (TB_mem (i := 59) (by decide +kernel) (by decide +kernel))⟩
theorem fl_RX6_53 : FLk RX6 53 6 22 := ⟨_, _, _, rfl, by decide, inbX6, (TB_mem (i := 897) (by decide +kernel) (by decide +kernel))⟩
theorem fl_RX6_56 : FLk RX6 56 6 23 := ⟨_, _, _, rfl, by decide, inbX6, (TB_mem (i := 898) (by decide +kernel) (by decide +kernel))⟩
theorem fl_RX6_59 : FLk RX6 59 6 24 := ⟨_, _, _, rfl, by decide, inbX6, (TB_mem (i := 899) (by decide +kernel) (by decide +kernel))⟩
theorem cv_RX6_209 : CVk RX6 209 mX6_takesJob 3 := ⟨cmX6_takesJob, by decide +kernel, (TB_mem (i := 1182) (by decide +kernel) (by decide +kernel)), (TB_mem (i := 1184) (by decide +kernel) (by decide +kernel)), (TB_mem (i := 60) (by decide +kernel) (by decide +kernel))⟩
theorem fl_RX6_200 : FLk RX6 200 6 19 := ⟨_, _, _, rfl, by decide, inbX6, (TB_mem (i := 894) (by decide +kernel) (by decide +kernel))⟩
theorem fl_RX6_203 : FLk RX6 203 6 20 := ⟨_, _, _, rfl, by decide, inbX6, (TB_mem (i := 895) (by decide +kernel) (by decide +kernel))⟩
theorem fl_RX6_206 : FLk RX6 206 6 21 := ⟨_, _, _, rfl, by decide, inbX6, (TB_mem (i := 896) (by decide +kernel) (by decide +kernel))⟩
theorem cv_RX6_213 : CVk RX6 213 mX6_reaches 4 := ⟨cmX6_reaches, by decide +kernel, (TB_mem (i := 1186) (by decide +kernel) (by decide +kernel)), (TB_mem (i := 1188) (by decide +kernel) (by decide +kernel)), (TB_mem (i := 61) (by decide +kernel) (by decide +kernel))⟩
theorem cv_RX6_217 : CVk RX6 217 mX6_takesSet 3 := ⟨cmX6_takesSet, by decide +kernel, (TB_mem (i := 1190) (by decide +kernel) (by decide +kernel)), (TB_mem (i := 1192) (by decide +kernel) (by decide +kernel)), (TB_mem (i := 62) (by decide +kernel) (by decide +kernel))⟩
theorem fp_RX6_200 : FPk RX6 200 6 19 false .int := ⟨_, _, _, tyX6, rfl, by decide, inbX6, (TB_mem (i := 894) (by decide +kernel) (by decide +kernel)), tyX6_ok, nmX6, rfl, by decide +kernel, fun h => by cases h⟩
theorem fp_RX6_203 : FPk RX6 203 6 20 false .int := ⟨_, _, _, tyX6, rfl, by decide, inbX6, (TB_mem (i := 895) (by decide +kernel) (by decide +kernel)), tyX6_ok, nmX6, rfl, by decide +kernel, fun h => by cases h⟩
theorem fp_RX6_206 : FPk RX6 206 6 21 false .int := ⟨_, _, _, tyX6, rfl, by decide, inbX6, (TB_mem (i := 896) (by decide +kernel) (by decide +kernel)), tyX6_ok, nmX6, rfl, by decide +kernel, fun h => by cases h⟩
theorem cv_RX6_243 : CVk RX6 243 mX6_laysRests 0 := ⟨cmX6_laysRests, by decide +kernel, (TB_mem (i := 1198) (by decide +kernel) (by decide +kernel)), (TB_mem (i := 1200) (by decide +kernel) (by decide +kernel)), (TB_mem (i := 64) (by decide +kernel) (by decide +kernel))⟩
theorem cv_RX6_246 : CVk RX6 246 mX6_comes 6 := ⟨cmX6_comes, by decide +kernel, (TB_mem (i := 1214) (by decide +kernel) (by decide +kernel)), (TB_mem (i := 1216) (by decide +kernel) (by decide +kernel)), (TB_mem (i := 68) (by decide +kernel) (by decide +kernel))⟩
theorem cv_RX6_240 : CVk RX6 240 mX6_rest 3 := ⟨cmX6_rest, by decide +kernel, (TB_mem (i := 1202) (by decide +kernel) (by decide +kernel)), (TB_mem (i := 1204) (by decide +kernel) (by decide +kernel)), (TB_mem (i := 65) (by decide +kernel) (by decide +kernel))⟩
theorem cv_RX6_233 : CVk RX6 233 mX6_takes 3 := ⟨cmX6_takes, by decide +kernel, (TB_mem (i := 1206) (by decide +kernel) (by decide +kernel)), (TB_mem (i := 1208) (by decide +kernel) (by decide +kernel)), (TB_mem (i := 66) (by decide +kernel) (by decide +kernel))⟩
theorem cv_RX6_236 : CVk RX6 236 mX6_leftOver 3 := ⟨cmX6_leftOver, by decide +kernel, (TB_mem (i := 1210) (by decide +kernel) (by decide +kernel)), (TB_mem (i := 1212) (by decide +kernel) (by decide +kernel)), (TB_mem (i := 67) (by decide +kernel) (by decide +kernel))⟩
theorem fl_RX6_62 : FLk RX6 62 6 25 := ⟨_, _, _, rfl, by decide, inbX6, (TB_mem (i := 900) (by decide +kernel) (by decide +kernel))⟩
theorem kc_RX6_259 : Cond.constantLong RX6 259 89497 ∈ TB := (TB_mem (i := 1246) (by decide +kernel) (by decide +kernel))
theorem cv_RX6_261 : CVk RX6 261 mX6_sums 3 := ⟨cmX6_sums, by decide +kernel, (TB_mem (i := 1247) (by decide +kernel) (by decide +kernel)), (TB_mem (i := 1249) (by decide +kernel) (by decide +kernel)), (TB_mem (i := 69) (by decide +kernel) (by decide +kernel))⟩
theorem kc_RX6_257 : Cond.constantLong RX6 257 31 ∈ TB := (TB_mem (i := 1251) (by decide +kernel) (by decide +kernel))
theorem ka_int : Cond.arrayClass .int ∈ TB := (TB_mem (i := 146) (by decide +kernel) (by decide +kernel))
theorem ka_long : Cond.arrayClass .long ∈ TB := (TB_mem (i := 286) (by decide +kernel) (by decide +kernel))
theorem ka_byte : Cond.arrayClass .byte ∈ TB := (TB_mem (i := 670) (by decide +kernel) (by decide +kernel))
