/-! printed by wip/gencode.py: listings -/
def sg_L_parse_0 : pp_Seg := [(.aload_n 2, .inl (0, 0, [])), (.iconst 0, .inr (.inr (.int 0, 0))), (.aload_n 0, .inl (0, 0, [])), (.iload_n 1, .inl (0, 0, [])), (.invokevirtual 7, .inr (.inl (mi_X8_parse, 8, 575, [0, 0]))), (.i2l, .inl (0, 0, [])), (.lastore, .inl (0, 0, [])), (.goto 6, .inl (15, 0, []))]
theorem sk_L_parse_0 : pp_chk mi_L_parse 12 0 (pp_cnt mi_L_parse 0) sg_L_parse_0 = true := by decide +kernel
def sg_L_parse_12 : pp_Seg := [(.astore_n 3, .inl (0, 0, [])), (.iconst 1, .inr (.inr (.int 1, 0))), (.ireturn, .inl (0, 0, []))]
theorem sk_L_parse_12 : pp_chk mi_L_parse 15 12 (pp_cnt mi_L_parse 12) sg_L_parse_12 = true := by decide +kernel
def sg_L_parse_15 : pp_Seg := [(.iconst 0, .inr (.inr (.int 0, 0))), (.ireturn, .inl (0, 0, []))]
theorem sk_L_parse_15 : pp_chk mi_L_parse 17 15 (pp_cnt mi_L_parse 15) sg_L_parse_15 = true := by decide +kernel
def sg_L_size_0 : pp_Seg := [(.aload_n 2, .inl (0, 0, [])), (.iconst 0, .inr (.inr (.int 0, 0))), (.aload_n 0, .inl (0, 0, [])), (.iload_n 1, .inl (0, 0, [])), (.invokevirtual 15, .inr (.inl (mi_X8_size, 8, 829, [0, 0]))), (.i2l, .inl (0, 0, [])), (.lastore, .inl (0, 0, [])), (.goto 6, .inl (15, 0, []))]
theorem sk_L_size_0 : pp_chk mi_L_size 12 0 (pp_cnt mi_L_size 0) sg_L_size_0 = true := by decide +kernel
def sg_L_size_12 : pp_Seg := [(.astore_n 3, .inl (0, 0, [])), (.iconst 1, .inr (.inr (.int 1, 0))), (.ireturn, .inl (0, 0, []))]
theorem sk_L_size_12 : pp_chk mi_L_size 15 12 (pp_cnt mi_L_size 12) sg_L_size_12 = true := by decide +kernel
def sg_L_size_15 : pp_Seg := [(.iconst 0, .inr (.inr (.int 0, 0))), (.ireturn, .inl (0, 0, []))]
theorem sk_L_size_15 : pp_chk mi_L_size 17 15 (pp_cnt mi_L_size 15) sg_L_size_15 = true := by decide +kernel
def sg_L_decision_0 : pp_Seg := [(.aload_n 3, .inl (0, 0, [])), (.iconst 0, .inr (.inr (.int 0, 0))), (.aload_n 0, .inl (0, 0, [])), (.iload_n 1, .inl (0, 0, [])), (.iload_n 2, .inl (0, 0, [])), (.invokevirtual 18, .inr (.inl (mi_X8_decision, 8, 838, [0, 0, 0]))), (.i2l, .inl (0, 0, [])), (.lastore, .inl (0, 0, [])), (.goto 7, .inl (17, 0, []))]
theorem sk_L_decision_0 : pp_chk mi_L_decision 13 0 (pp_cnt mi_L_decision 0) sg_L_decision_0 = true := by decide +kernel
def sg_L_decision_13 : pp_Seg := [(.astore 4, .inl (0, 0, [])), (.iconst 1, .inr (.inr (.int 1, 0))), (.ireturn, .inl (0, 0, []))]
theorem sk_L_decision_13 : pp_chk mi_L_decision 17 13 (pp_cnt mi_L_decision 13) sg_L_decision_13 = true := by decide +kernel
def sg_L_decision_17 : pp_Seg := [(.iconst 0, .inr (.inr (.int 0, 0))), (.ireturn, .inl (0, 0, []))]
theorem sk_L_decision_17 : pp_chk mi_L_decision 19 17 (pp_cnt mi_L_decision 17) sg_L_decision_17 = true := by decide +kernel
def sg_L_voters_0 : pp_Seg := [(.aload 4, .inl (0, 0, [])), (.iconst 0, .inr (.inr (.int 0, 0))), (.aload_n 0, .inl (0, 0, [])), (.iload_n 1, .inl (0, 0, [])), (.iload_n 2, .inl (0, 0, [])), (.iload_n 3, .inl (0, 0, [])), (.invokevirtual 24, .inr (.inl (mi_X8_voters, 8, 871, [0, 0, 0, 0]))), (.i2l, .inl (0, 0, [])), (.lastore, .inl (0, 0, [])), (.goto 7, .inl (19, 0, []))]
theorem sk_L_voters_0 : pp_chk mi_L_voters 15 0 (pp_cnt mi_L_voters 0) sg_L_voters_0 = true := by decide +kernel
def sg_L_voters_15 : pp_Seg := [(.astore 5, .inl (0, 0, [])), (.iconst 1, .inr (.inr (.int 1, 0))), (.ireturn, .inl (0, 0, []))]
theorem sk_L_voters_15 : pp_chk mi_L_voters 19 15 (pp_cnt mi_L_voters 15) sg_L_voters_15 = true := by decide +kernel
def sg_L_voters_19 : pp_Seg := [(.iconst 0, .inr (.inr (.int 0, 0))), (.ireturn, .inl (0, 0, []))]
theorem sk_L_voters_19 : pp_chk mi_L_voters 21 19 (pp_cnt mi_L_voters 19) sg_L_voters_19 = true := by decide +kernel
def sg_L_votesNeeded_0 : pp_Seg := [(.aload_n 3, .inl (0, 0, [])), (.iconst 0, .inr (.inr (.int 0, 0))), (.aload_n 0, .inl (0, 0, [])), (.iload_n 1, .inl (0, 0, [])), (.iload_n 2, .inl (0, 0, [])), (.invokevirtual 28, .inr (.inl (mi_X8_votesNeeded, 8, 879, [0, 0, 0]))), (.i2l, .inl (0, 0, [])), (.lastore, .inl (0, 0, [])), (.goto 7, .inl (17, 0, []))]
theorem sk_L_votesNeeded_0 : pp_chk mi_L_votesNeeded 13 0 (pp_cnt mi_L_votesNeeded 0) sg_L_votesNeeded_0 = true := by decide +kernel
def sg_L_votesNeeded_13 : pp_Seg := [(.astore 4, .inl (0, 0, [])), (.iconst 1, .inr (.inr (.int 1, 0))), (.ireturn, .inl (0, 0, []))]
theorem sk_L_votesNeeded_13 : pp_chk mi_L_votesNeeded 17 13 (pp_cnt mi_L_votesNeeded 13) sg_L_votesNeeded_13 = true := by decide +kernel
def sg_L_votesNeeded_17 : pp_Seg := [(.iconst 0, .inr (.inr (.int 0, 0))), (.ireturn, .inl (0, 0, []))]
theorem sk_L_votesNeeded_17 : pp_chk mi_L_votesNeeded 19 17 (pp_cnt mi_L_votesNeeded 17) sg_L_votesNeeded_17 = true := by decide +kernel
def sg_L_counts_0 : pp_Seg := [(.aload_n 3, .inl (0, 0, [])), (.iconst 0, .inr (.inr (.int 0, 0))), (.aload_n 0, .inl (0, 0, [])), (.iload_n 1, .inl (0, 0, [])), (.iload_n 2, .inl (0, 0, [])), (.invokevirtual 31, .inr (.inl (mi_X8_counts, 8, 890, [0, 0, 0]))), (.ifCond .eq 7, .inl (15, 0, [])), (.lconst 1, .inr (.inr (.long 1, 0))), (.goto 4, .inl (16, 0, []))]
theorem sk_L_counts_0 : pp_chk mi_L_counts 15 0 (pp_cnt mi_L_counts 0) sg_L_counts_0 = true := by decide +kernel
def sg_L_counts_15 : pp_Seg := [(.lconst 0, .inr (.inr (.long 0, 0)))]
theorem sk_L_counts_15 : pp_chk mi_L_counts 16 15 (pp_cnt mi_L_counts 15) sg_L_counts_15 = true := by decide +kernel
def sg_L_counts_16 : pp_Seg := [(.lastore, .inl (0, 0, [])), (.goto 7, .inl (24, 0, []))]
theorem sk_L_counts_16 : pp_chk mi_L_counts 20 16 (pp_cnt mi_L_counts 16) sg_L_counts_16 = true := by decide +kernel
def sg_L_counts_20 : pp_Seg := [(.astore 4, .inl (0, 0, [])), (.iconst 1, .inr (.inr (.int 1, 0))), (.ireturn, .inl (0, 0, []))]
theorem sk_L_counts_20 : pp_chk mi_L_counts 24 20 (pp_cnt mi_L_counts 20) sg_L_counts_20 = true := by decide +kernel
def sg_L_counts_24 : pp_Seg := [(.iconst 0, .inr (.inr (.int 0, 0))), (.ireturn, .inl (0, 0, []))]
theorem sk_L_counts_24 : pp_chk mi_L_counts 26 24 (pp_cnt mi_L_counts 24) sg_L_counts_24 = true := by decide +kernel
def sg_L_firstToExpire_0 : pp_Seg := [(.aload_n 2, .inl (0, 0, [])), (.iconst 0, .inr (.inr (.int 0, 0))), (.aload_n 0, .inl (0, 0, [])), (.iload_n 1, .inl (0, 0, [])), (.invokevirtual 35, .inr (.inl (mi_X8_firstToExpire, 8, 898, [0, 0]))), (.i2l, .inl (0, 0, [])), (.lastore, .inl (0, 0, [])), (.goto 6, .inl (15, 0, []))]
theorem sk_L_firstToExpire_0 : pp_chk mi_L_firstToExpire 12 0 (pp_cnt mi_L_firstToExpire 0) sg_L_firstToExpire_0 = true := by decide +kernel
def sg_L_firstToExpire_12 : pp_Seg := [(.astore_n 3, .inl (0, 0, [])), (.iconst 1, .inr (.inr (.int 1, 0))), (.ireturn, .inl (0, 0, []))]
theorem sk_L_firstToExpire_12 : pp_chk mi_L_firstToExpire 15 12 (pp_cnt mi_L_firstToExpire 12) sg_L_firstToExpire_12 = true := by decide +kernel
def sg_L_firstToExpire_15 : pp_Seg := [(.iconst 0, .inr (.inr (.int 0, 0))), (.ireturn, .inl (0, 0, []))]
theorem sk_L_firstToExpire_15 : pp_chk mi_L_firstToExpire 17 15 (pp_cnt mi_L_firstToExpire 15) sg_L_firstToExpire_15 = true := by decide +kernel
def sg_L_weight_0 : pp_Seg := [(.aload_n 2, .inl (0, 0, [])), (.iconst 0, .inr (.inr (.int 0, 0))), (.aload_n 0, .inl (0, 0, [])), (.iload_n 1, .inl (0, 0, [])), (.invokevirtual 38, .inr (.inl (mi_X8_weight, 8, 911, [0, 0]))), (.i2l, .inl (0, 0, [])), (.lastore, .inl (0, 0, [])), (.goto 6, .inl (15, 0, []))]
theorem sk_L_weight_0 : pp_chk mi_L_weight 12 0 (pp_cnt mi_L_weight 0) sg_L_weight_0 = true := by decide +kernel
def sg_L_weight_12 : pp_Seg := [(.astore_n 3, .inl (0, 0, [])), (.iconst 1, .inr (.inr (.int 1, 0))), (.ireturn, .inl (0, 0, []))]
theorem sk_L_weight_12 : pp_chk mi_L_weight 15 12 (pp_cnt mi_L_weight 12) sg_L_weight_12 = true := by decide +kernel
def sg_L_weight_15 : pp_Seg := [(.iconst 0, .inr (.inr (.int 0, 0))), (.ireturn, .inl (0, 0, []))]
theorem sk_L_weight_15 : pp_chk mi_L_weight 17 15 (pp_cnt mi_L_weight 15) sg_L_weight_15 = true := by decide +kernel
def sg_L_weightAfter_0 : pp_Seg := [(.aload_n 3, .inl (0, 0, [])), (.iconst 0, .inr (.inr (.int 0, 0))), (.aload_n 0, .inl (0, 0, [])), (.iload_n 1, .inl (0, 0, [])), (.iload_n 2, .inl (0, 0, [])), (.invokevirtual 41, .inr (.inl (mi_X8_weightAfter, 8, 918, [0, 0, 0]))), (.i2l, .inl (0, 0, [])), (.lastore, .inl (0, 0, [])), (.goto 11, .inl (21, 0, []))]
theorem sk_L_weightAfter_0 : pp_chk mi_L_weightAfter 13 0 (pp_cnt mi_L_weightAfter 0) sg_L_weightAfter_0 = true := by decide +kernel
def sg_L_weightAfter_13 : pp_Seg := [(.astore 4, .inl (0, 0, [])), (.iconst 1, .inr (.inr (.int 1, 0))), (.ireturn, .inl (0, 0, []))]
theorem sk_L_weightAfter_13 : pp_chk mi_L_weightAfter 17 13 (pp_cnt mi_L_weightAfter 13) sg_L_weightAfter_13 = true := by decide +kernel
def sg_L_weightAfter_17 : pp_Seg := [(.astore 4, .inl (0, 0, [])), (.iconst 2, .inr (.inr (.int 2, 0))), (.ireturn, .inl (0, 0, []))]
theorem sk_L_weightAfter_17 : pp_chk mi_L_weightAfter 21 17 (pp_cnt mi_L_weightAfter 17) sg_L_weightAfter_17 = true := by decide +kernel
def sg_L_weightAfter_21 : pp_Seg := [(.iconst 0, .inr (.inr (.int 0, 0))), (.ireturn, .inl (0, 0, []))]
theorem sk_L_weightAfter_21 : pp_chk mi_L_weightAfter 23 21 (pp_cnt mi_L_weightAfter 21) sg_L_weightAfter_21 = true := by decide +kernel
def sg_L_shareOf_0 : pp_Seg := [(.aload_n 3, .inl (0, 0, [])), (.iconst 0, .inr (.inr (.int 0, 0))), (.aload_n 0, .inl (0, 0, [])), (.iload_n 1, .inl (0, 0, [])), (.iload_n 2, .inl (0, 0, [])), (.invokevirtual 44, .inr (.inl (mi_X8_shareOf, 8, 926, [0, 0, 0]))), (.i2l, .inl (0, 0, [])), (.lastore, .inl (0, 0, [])), (.goto 11, .inl (21, 0, []))]
theorem sk_L_shareOf_0 : pp_chk mi_L_shareOf 13 0 (pp_cnt mi_L_shareOf 0) sg_L_shareOf_0 = true := by decide +kernel
def sg_L_shareOf_13 : pp_Seg := [(.astore 4, .inl (0, 0, [])), (.iconst 1, .inr (.inr (.int 1, 0))), (.ireturn, .inl (0, 0, []))]
theorem sk_L_shareOf_13 : pp_chk mi_L_shareOf 17 13 (pp_cnt mi_L_shareOf 13) sg_L_shareOf_13 = true := by decide +kernel
def sg_L_shareOf_17 : pp_Seg := [(.astore 4, .inl (0, 0, [])), (.iconst 2, .inr (.inr (.int 2, 0))), (.ireturn, .inl (0, 0, []))]
theorem sk_L_shareOf_17 : pp_chk mi_L_shareOf 21 17 (pp_cnt mi_L_shareOf 17) sg_L_shareOf_17 = true := by decide +kernel
def sg_L_shareOf_21 : pp_Seg := [(.iconst 0, .inr (.inr (.int 0, 0))), (.ireturn, .inl (0, 0, []))]
theorem sk_L_shareOf_21 : pp_chk mi_L_shareOf 23 21 (pp_cnt mi_L_shareOf 21) sg_L_shareOf_21 = true := by decide +kernel
def sg_L_power_0 : pp_Seg := [(.aload_n 2, .inl (0, 0, [])), (.iconst 0, .inr (.inr (.int 0, 0))), (.aload_n 0, .inl (0, 0, [])), (.iload_n 1, .inl (0, 0, [])), (.invokevirtual 47, .inr (.inl (mi_X8_power, 8, 960, [0, 0]))), (.i2l, .inl (0, 0, [])), (.lastore, .inl (0, 0, [])), (.goto 6, .inl (15, 0, []))]
theorem sk_L_power_0 : pp_chk mi_L_power 12 0 (pp_cnt mi_L_power 0) sg_L_power_0 = true := by decide +kernel
def sg_L_power_12 : pp_Seg := [(.astore_n 3, .inl (0, 0, [])), (.iconst 1, .inr (.inr (.int 1, 0))), (.ireturn, .inl (0, 0, []))]
theorem sk_L_power_12 : pp_chk mi_L_power 15 12 (pp_cnt mi_L_power 12) sg_L_power_12 = true := by decide +kernel
def sg_L_power_15 : pp_Seg := [(.iconst 0, .inr (.inr (.int 0, 0))), (.ireturn, .inl (0, 0, []))]
theorem sk_L_power_15 : pp_chk mi_L_power 17 15 (pp_cnt mi_L_power 15) sg_L_power_15 = true := by decide +kernel
def sg_L_owed_0 : pp_Seg := [(.aload_n 2, .inl (0, 0, [])), (.iconst 0, .inr (.inr (.int 0, 0))), (.aload_n 0, .inl (0, 0, [])), (.iload_n 1, .inl (0, 0, [])), (.invokevirtual 50, .inr (.inl (mi_X8_owed, 8, 967, [0, 0]))), (.lastore, .inl (0, 0, [])), (.goto 6, .inl (14, 0, []))]
theorem sk_L_owed_0 : pp_chk mi_L_owed 11 0 (pp_cnt mi_L_owed 0) sg_L_owed_0 = true := by decide +kernel
def sg_L_owed_11 : pp_Seg := [(.astore_n 3, .inl (0, 0, [])), (.iconst 1, .inr (.inr (.int 1, 0))), (.ireturn, .inl (0, 0, []))]
theorem sk_L_owed_11 : pp_chk mi_L_owed 14 11 (pp_cnt mi_L_owed 11) sg_L_owed_11 = true := by decide +kernel
def sg_L_owed_14 : pp_Seg := [(.iconst 0, .inr (.inr (.int 0, 0))), (.ireturn, .inl (0, 0, []))]
theorem sk_L_owed_14 : pp_chk mi_L_owed 16 14 (pp_cnt mi_L_owed 14) sg_L_owed_14 = true := by decide +kernel
def sg_L_reported_0 : pp_Seg := [(.aload_n 3, .inl (0, 0, [])), (.iconst 0, .inr (.inr (.int 0, 0))), (.aload_n 0, .inl (0, 0, [])), (.iload_n 1, .inl (0, 0, [])), (.iload_n 2, .inl (0, 0, [])), (.invokevirtual 54, .inr (.inl (mi_X8_reported, 8, 979, [0, 0, 0]))), (.i2l, .inl (0, 0, [])), (.lastore, .inl (0, 0, [])), (.goto 7, .inl (17, 0, []))]
theorem sk_L_reported_0 : pp_chk mi_L_reported 13 0 (pp_cnt mi_L_reported 0) sg_L_reported_0 = true := by decide +kernel
def sg_L_reported_13 : pp_Seg := [(.astore 4, .inl (0, 0, [])), (.iconst 1, .inr (.inr (.int 1, 0))), (.ireturn, .inl (0, 0, []))]
theorem sk_L_reported_13 : pp_chk mi_L_reported 17 13 (pp_cnt mi_L_reported 13) sg_L_reported_13 = true := by decide +kernel
def sg_L_reported_17 : pp_Seg := [(.iconst 0, .inr (.inr (.int 0, 0))), (.ireturn, .inl (0, 0, []))]
theorem sk_L_reported_17 : pp_chk mi_L_reported 19 17 (pp_cnt mi_L_reported 17) sg_L_reported_17 = true := by decide +kernel
def sg_L_account_0 : pp_Seg := [(.aload_n 2, .inl (0, 0, [])), (.iconst 0, .inr (.inr (.int 0, 0))), (.aload_n 0, .inl (0, 0, [])), (.iload_n 1, .inl (0, 0, [])), (.invokevirtual 57, .inr (.inl (mi_X8_account, 8, 986, [0, 0]))), (.lastore, .inl (0, 0, [])), (.goto 6, .inl (14, 0, []))]
theorem sk_L_account_0 : pp_chk mi_L_account 11 0 (pp_cnt mi_L_account 0) sg_L_account_0 = true := by decide +kernel
def sg_L_account_11 : pp_Seg := [(.astore_n 3, .inl (0, 0, [])), (.iconst 1, .inr (.inr (.int 1, 0))), (.ireturn, .inl (0, 0, []))]
theorem sk_L_account_11 : pp_chk mi_L_account 14 11 (pp_cnt mi_L_account 11) sg_L_account_11 = true := by decide +kernel
def sg_L_account_14 : pp_Seg := [(.iconst 0, .inr (.inr (.int 0, 0))), (.ireturn, .inl (0, 0, []))]
theorem sk_L_account_14 : pp_chk mi_L_account 16 14 (pp_cnt mi_L_account 14) sg_L_account_14 = true := by decide +kernel
def sg_L_latestShare_0 : pp_Seg := [(.aload_n 2, .inl (0, 0, [])), (.iconst 0, .inr (.inr (.int 0, 0))), (.aload_n 0, .inl (0, 0, [])), (.iload_n 1, .inl (0, 0, [])), (.invokevirtual 60, .inr (.inl (mi_X8_latestShare, 8, 993, [0, 0]))), (.lastore, .inl (0, 0, [])), (.goto 6, .inl (14, 0, []))]
theorem sk_L_latestShare_0 : pp_chk mi_L_latestShare 11 0 (pp_cnt mi_L_latestShare 0) sg_L_latestShare_0 = true := by decide +kernel
def sg_L_latestShare_11 : pp_Seg := [(.astore_n 3, .inl (0, 0, [])), (.iconst 1, .inr (.inr (.int 1, 0))), (.ireturn, .inl (0, 0, []))]
theorem sk_L_latestShare_11 : pp_chk mi_L_latestShare 14 11 (pp_cnt mi_L_latestShare 11) sg_L_latestShare_11 = true := by decide +kernel
def sg_L_latestShare_14 : pp_Seg := [(.iconst 0, .inr (.inr (.int 0, 0))), (.ireturn, .inl (0, 0, []))]
theorem sk_L_latestShare_14 : pp_chk mi_L_latestShare 16 14 (pp_cnt mi_L_latestShare 14) sg_L_latestShare_14 = true := by decide +kernel
def sg_L_total_0 : pp_Seg := [(.aload_n 2, .inl (0, 0, [])), (.iconst 0, .inr (.inr (.int 0, 0))), (.aload_n 0, .inl (0, 0, [])), (.iload_n 1, .inl (0, 0, [])), (.invokevirtual 63, .inr (.inl (mi_X8_total, 8, 1000, [0, 0]))), (.lastore, .inl (0, 0, [])), (.goto 6, .inl (14, 0, []))]
theorem sk_L_total_0 : pp_chk mi_L_total 11 0 (pp_cnt mi_L_total 0) sg_L_total_0 = true := by decide +kernel
def sg_L_total_11 : pp_Seg := [(.astore_n 3, .inl (0, 0, [])), (.iconst 1, .inr (.inr (.int 1, 0))), (.ireturn, .inl (0, 0, []))]
theorem sk_L_total_11 : pp_chk mi_L_total 14 11 (pp_cnt mi_L_total 11) sg_L_total_11 = true := by decide +kernel
def sg_L_total_14 : pp_Seg := [(.iconst 0, .inr (.inr (.int 0, 0))), (.ireturn, .inl (0, 0, []))]
theorem sk_L_total_14 : pp_chk mi_L_total 16 14 (pp_cnt mi_L_total 14) sg_L_total_14 = true := by decide +kernel
def sg_L_advance_0 : pp_Seg := [(.aload_n 2, .inl (0, 0, [])), (.iconst 0, .inr (.inr (.int 0, 0))), (.aload_n 0, .inl (0, 0, [])), (.iload_n 1, .inl (0, 0, [])), (.invokevirtual 66, .inr (.inl (mi_X8_advance, 8, 1008, [0, 0]))), (.i2l, .inl (0, 0, [])), (.lastore, .inl (0, 0, [])), (.goto 9, .inl (18, 0, []))]
theorem sk_L_advance_0 : pp_chk mi_L_advance 12 0 (pp_cnt mi_L_advance 0) sg_L_advance_0 = true := by decide +kernel
def sg_L_advance_12 : pp_Seg := [(.astore_n 3, .inl (0, 0, [])), (.iconst 1, .inr (.inr (.int 1, 0))), (.ireturn, .inl (0, 0, []))]
theorem sk_L_advance_12 : pp_chk mi_L_advance 15 12 (pp_cnt mi_L_advance 12) sg_L_advance_12 = true := by decide +kernel
def sg_L_advance_15 : pp_Seg := [(.astore_n 3, .inl (0, 0, [])), (.iconst 2, .inr (.inr (.int 2, 0))), (.ireturn, .inl (0, 0, []))]
theorem sk_L_advance_15 : pp_chk mi_L_advance 18 15 (pp_cnt mi_L_advance 15) sg_L_advance_15 = true := by decide +kernel
def sg_L_advance_18 : pp_Seg := [(.iconst 0, .inr (.inr (.int 0, 0))), (.ireturn, .inl (0, 0, []))]
theorem sk_L_advance_18 : pp_chk mi_L_advance 20 18 (pp_cnt mi_L_advance 18) sg_L_advance_18 = true := by decide +kernel
def sg_L_join_0 : pp_Seg := [(.aload_n 1, .inl (0, 0, [])), (.iconst 0, .inr (.inr (.int 0, 0))), (.aload_n 0, .inl (0, 0, [])), (.invokevirtual 71, .inr (.inl (mi_X8_join, 8, 1037, [0]))), (.i2l, .inl (0, 0, [])), (.lastore, .inl (0, 0, [])), (.goto 6, .inl (14, 0, []))]
theorem sk_L_join_0 : pp_chk mi_L_join 11 0 (pp_cnt mi_L_join 0) sg_L_join_0 = true := by decide +kernel
def sg_L_join_11 : pp_Seg := [(.astore_n 2, .inl (0, 0, [])), (.iconst 1, .inr (.inr (.int 1, 0))), (.ireturn, .inl (0, 0, []))]
theorem sk_L_join_11 : pp_chk mi_L_join 14 11 (pp_cnt mi_L_join 11) sg_L_join_11 = true := by decide +kernel
def sg_L_join_14 : pp_Seg := [(.iconst 0, .inr (.inr (.int 0, 0))), (.ireturn, .inl (0, 0, []))]
theorem sk_L_join_14 : pp_chk mi_L_join 16 14 (pp_cnt mi_L_join 14) sg_L_join_14 = true := by decide +kernel
def sg_L_declare_0 : pp_Seg := [(.aload_n 3, .inl (0, 0, [])), (.iconst 0, .inr (.inr (.int 0, 0))), (.aload_n 0, .inl (0, 0, [])), (.iload_n 1, .inl (0, 0, [])), (.iload_n 2, .inl (0, 0, [])), (.invokevirtual 75, .inr (.inl (mi_X8_declare, 8, 1046, [0, 0, 0]))), (.i2l, .inl (0, 0, [])), (.lastore, .inl (0, 0, [])), (.goto 15, .inl (25, 0, []))]
theorem sk_L_declare_0 : pp_chk mi_L_declare 13 0 (pp_cnt mi_L_declare 0) sg_L_declare_0 = true := by decide +kernel
def sg_L_declare_13 : pp_Seg := [(.astore 4, .inl (0, 0, [])), (.iconst 1, .inr (.inr (.int 1, 0))), (.ireturn, .inl (0, 0, []))]
theorem sk_L_declare_13 : pp_chk mi_L_declare 17 13 (pp_cnt mi_L_declare 13) sg_L_declare_13 = true := by decide +kernel
def sg_L_declare_17 : pp_Seg := [(.astore 4, .inl (0, 0, [])), (.iconst 2, .inr (.inr (.int 2, 0))), (.ireturn, .inl (0, 0, []))]
theorem sk_L_declare_17 : pp_chk mi_L_declare 21 17 (pp_cnt mi_L_declare 17) sg_L_declare_17 = true := by decide +kernel
def sg_L_declare_21 : pp_Seg := [(.astore 4, .inl (0, 0, [])), (.iconst 3, .inr (.inr (.int 3, 0))), (.ireturn, .inl (0, 0, []))]
theorem sk_L_declare_21 : pp_chk mi_L_declare 25 21 (pp_cnt mi_L_declare 21) sg_L_declare_21 = true := by decide +kernel
def sg_L_declare_25 : pp_Seg := [(.iconst 0, .inr (.inr (.int 0, 0))), (.ireturn, .inl (0, 0, []))]
theorem sk_L_declare_25 : pp_chk mi_L_declare 27 25 (pp_cnt mi_L_declare 25) sg_L_declare_25 = true := by decide +kernel
def sg_L_vote_0 : pp_Seg := [(.aload 5, .inl (0, 0, [])), (.iconst 0, .inr (.inr (.int 0, 0))), (.aload_n 0, .inl (0, 0, [])), (.iload_n 1, .inl (0, 0, [])), (.iload_n 2, .inl (0, 0, [])), (.iload_n 3, .inl (0, 0, [])), (.iload 4, .inl (0, 0, [])), (.invokevirtual 78, .inr (.inl (mi_X8_vote, 8, 1056, [0, 0, 0, 0, 0]))), (.i2l, .inl (0, 0, [])), (.lastore, .inl (0, 0, [])), (.goto 11, .inl (25, 0, []))]
theorem sk_L_vote_0 : pp_chk mi_L_vote 17 0 (pp_cnt mi_L_vote 0) sg_L_vote_0 = true := by decide +kernel
def sg_L_vote_17 : pp_Seg := [(.astore 6, .inl (0, 0, [])), (.iconst 1, .inr (.inr (.int 1, 0))), (.ireturn, .inl (0, 0, []))]
theorem sk_L_vote_17 : pp_chk mi_L_vote 21 17 (pp_cnt mi_L_vote 17) sg_L_vote_17 = true := by decide +kernel
def sg_L_vote_21 : pp_Seg := [(.astore 6, .inl (0, 0, [])), (.iconst 2, .inr (.inr (.int 2, 0))), (.ireturn, .inl (0, 0, []))]
theorem sk_L_vote_21 : pp_chk mi_L_vote 25 21 (pp_cnt mi_L_vote 21) sg_L_vote_21 = true := by decide +kernel
def sg_L_vote_25 : pp_Seg := [(.iconst 0, .inr (.inr (.int 0, 0))), (.ireturn, .inl (0, 0, []))]
theorem sk_L_vote_25 : pp_chk mi_L_vote 27 25 (pp_cnt mi_L_vote 25) sg_L_vote_25 = true := by decide +kernel
def sg_L_reopen_0 : pp_Seg := [(.aload_n 3, .inl (0, 0, [])), (.iconst 0, .inr (.inr (.int 0, 0))), (.aload_n 0, .inl (0, 0, [])), (.iload_n 1, .inl (0, 0, [])), (.iload_n 2, .inl (0, 0, [])), (.invokevirtual 82, .inr (.inl (mi_X8_reopen, 8, 1066, [0, 0, 0]))), (.i2l, .inl (0, 0, [])), (.lastore, .inl (0, 0, [])), (.goto 11, .inl (21, 0, []))]
theorem sk_L_reopen_0 : pp_chk mi_L_reopen 13 0 (pp_cnt mi_L_reopen 0) sg_L_reopen_0 = true := by decide +kernel
def sg_L_reopen_13 : pp_Seg := [(.astore 4, .inl (0, 0, [])), (.iconst 1, .inr (.inr (.int 1, 0))), (.ireturn, .inl (0, 0, []))]
theorem sk_L_reopen_13 : pp_chk mi_L_reopen 17 13 (pp_cnt mi_L_reopen 13) sg_L_reopen_13 = true := by decide +kernel
def sg_L_reopen_17 : pp_Seg := [(.astore 4, .inl (0, 0, [])), (.iconst 2, .inr (.inr (.int 2, 0))), (.ireturn, .inl (0, 0, []))]
theorem sk_L_reopen_17 : pp_chk mi_L_reopen 21 17 (pp_cnt mi_L_reopen 17) sg_L_reopen_17 = true := by decide +kernel
def sg_L_reopen_21 : pp_Seg := [(.iconst 0, .inr (.inr (.int 0, 0))), (.ireturn, .inl (0, 0, []))]
theorem sk_L_reopen_21 : pp_chk mi_L_reopen 23 21 (pp_cnt mi_L_reopen 21) sg_L_reopen_21 = true := by decide +kernel
def sg_L_report_0 : pp_Seg := [(.aload 4, .inl (0, 0, [])), (.iconst 0, .inr (.inr (.int 0, 0))), (.aload_n 0, .inl (0, 0, [])), (.iload_n 1, .inl (0, 0, [])), (.iload_n 2, .inl (0, 0, [])), (.iload_n 3, .inl (0, 0, [])), (.invokevirtual 85, .inr (.inl (mi_X8_report, 8, 1074, [0, 0, 0, 0]))), (.i2l, .inl (0, 0, [])), (.lastore, .inl (0, 0, [])), (.goto 15, .inl (27, 0, []))]
theorem sk_L_report_0 : pp_chk mi_L_report 15 0 (pp_cnt mi_L_report 0) sg_L_report_0 = true := by decide +kernel
def sg_L_report_15 : pp_Seg := [(.astore 5, .inl (0, 0, [])), (.iconst 1, .inr (.inr (.int 1, 0))), (.ireturn, .inl (0, 0, []))]
theorem sk_L_report_15 : pp_chk mi_L_report 19 15 (pp_cnt mi_L_report 15) sg_L_report_15 = true := by decide +kernel
def sg_L_report_19 : pp_Seg := [(.astore 5, .inl (0, 0, [])), (.iconst 2, .inr (.inr (.int 2, 0))), (.ireturn, .inl (0, 0, []))]
theorem sk_L_report_19 : pp_chk mi_L_report 23 19 (pp_cnt mi_L_report 19) sg_L_report_19 = true := by decide +kernel
def sg_L_report_23 : pp_Seg := [(.astore 5, .inl (0, 0, [])), (.iconst 3, .inr (.inr (.int 3, 0))), (.ireturn, .inl (0, 0, []))]
theorem sk_L_report_23 : pp_chk mi_L_report 27 23 (pp_cnt mi_L_report 23) sg_L_report_23 = true := by decide +kernel
def sg_L_report_27 : pp_Seg := [(.iconst 0, .inr (.inr (.int 0, 0))), (.ireturn, .inl (0, 0, []))]
theorem sk_L_report_27 : pp_chk mi_L_report 29 27 (pp_cnt mi_L_report 27) sg_L_report_27 = true := by decide +kernel
def sg_L_grantBack_0 : pp_Seg := [(.aload_n 2, .inl (0, 0, [])), (.iconst 0, .inr (.inr (.int 0, 0))), (.aload_n 0, .inl (0, 0, [])), (.iload_n 1, .inl (0, 0, [])), (.invokevirtual 89, .inr (.inl (mi_X8_grantBack, 8, 1088, [0, 0]))), (.i2l, .inl (0, 0, [])), (.lastore, .inl (0, 0, [])), (.goto 9, .inl (18, 0, []))]
theorem sk_L_grantBack_0 : pp_chk mi_L_grantBack 12 0 (pp_cnt mi_L_grantBack 0) sg_L_grantBack_0 = true := by decide +kernel
def sg_L_grantBack_12 : pp_Seg := [(.astore_n 3, .inl (0, 0, [])), (.iconst 1, .inr (.inr (.int 1, 0))), (.ireturn, .inl (0, 0, []))]
theorem sk_L_grantBack_12 : pp_chk mi_L_grantBack 15 12 (pp_cnt mi_L_grantBack 12) sg_L_grantBack_12 = true := by decide +kernel
def sg_L_grantBack_15 : pp_Seg := [(.astore_n 3, .inl (0, 0, [])), (.iconst 2, .inr (.inr (.int 2, 0))), (.ireturn, .inl (0, 0, []))]
theorem sk_L_grantBack_15 : pp_chk mi_L_grantBack 18 15 (pp_cnt mi_L_grantBack 15) sg_L_grantBack_15 = true := by decide +kernel
def sg_L_grantBack_18 : pp_Seg := [(.iconst 0, .inr (.inr (.int 0, 0))), (.ireturn, .inl (0, 0, []))]
theorem sk_L_grantBack_18 : pp_chk mi_L_grantBack 20 18 (pp_cnt mi_L_grantBack 18) sg_L_grantBack_18 = true := by decide +kernel
def sg_L_pay_0 : pp_Seg := [(.aload_n 3, .inl (0, 0, [])), (.iconst 0, .inr (.inr (.int 0, 0))), (.aload_n 0, .inl (0, 0, [])), (.iload_n 1, .inl (0, 0, [])), (.iload_n 2, .inl (0, 0, [])), (.invokevirtual 92, .inr (.inl (mi_X8_pay, 8, 1100, [0, 0, 0]))), (.lastore, .inl (0, 0, [])), (.goto 11, .inl (20, 0, []))]
theorem sk_L_pay_0 : pp_chk mi_L_pay 12 0 (pp_cnt mi_L_pay 0) sg_L_pay_0 = true := by decide +kernel
def sg_L_pay_12 : pp_Seg := [(.astore 4, .inl (0, 0, [])), (.iconst 1, .inr (.inr (.int 1, 0))), (.ireturn, .inl (0, 0, []))]
theorem sk_L_pay_12 : pp_chk mi_L_pay 16 12 (pp_cnt mi_L_pay 12) sg_L_pay_12 = true := by decide +kernel
def sg_L_pay_16 : pp_Seg := [(.astore 4, .inl (0, 0, [])), (.iconst 2, .inr (.inr (.int 2, 0))), (.ireturn, .inl (0, 0, []))]
theorem sk_L_pay_16 : pp_chk mi_L_pay 20 16 (pp_cnt mi_L_pay 16) sg_L_pay_16 = true := by decide +kernel
def sg_L_pay_20 : pp_Seg := [(.iconst 0, .inr (.inr (.int 0, 0))), (.ireturn, .inl (0, 0, []))]
theorem sk_L_pay_20 : pp_chk mi_L_pay 22 20 (pp_cnt mi_L_pay 20) sg_L_pay_20 = true := by decide +kernel
def sg_L_audit_0 : pp_Seg := [(.aload 4, .inl (0, 0, [])), (.iconst 0, .inr (.inr (.int 0, 0))), (.aload_n 0, .inl (0, 0, [])), (.iload_n 1, .inl (0, 0, [])), (.iload_n 2, .inl (0, 0, [])), (.iload_n 3, .inl (0, 0, [])), (.invokevirtual 96, .inr (.inl (mi_X8_audit, 8, 1107, [0, 0, 0, 0]))), (.lastore, .inl (0, 0, [])), (.goto 11, .inl (22, 0, []))]
theorem sk_L_audit_0 : pp_chk mi_L_audit 14 0 (pp_cnt mi_L_audit 0) sg_L_audit_0 = true := by decide +kernel
def sg_L_audit_14 : pp_Seg := [(.astore 5, .inl (0, 0, [])), (.iconst 1, .inr (.inr (.int 1, 0))), (.ireturn, .inl (0, 0, []))]
theorem sk_L_audit_14 : pp_chk mi_L_audit 18 14 (pp_cnt mi_L_audit 14) sg_L_audit_14 = true := by decide +kernel
def sg_L_audit_18 : pp_Seg := [(.astore 5, .inl (0, 0, [])), (.iconst 2, .inr (.inr (.int 2, 0))), (.ireturn, .inl (0, 0, []))]
theorem sk_L_audit_18 : pp_chk mi_L_audit 22 18 (pp_cnt mi_L_audit 18) sg_L_audit_18 = true := by decide +kernel
def sg_L_audit_22 : pp_Seg := [(.iconst 0, .inr (.inr (.int 0, 0))), (.ireturn, .inl (0, 0, []))]
theorem sk_L_audit_22 : pp_chk mi_L_audit 24 22 (pp_cnt mi_L_audit 22) sg_L_audit_22 = true := by decide +kernel
def sg_L_close_0 : pp_Seg := [(.aload_n 1, .inl (0, 0, [])), (.iconst 0, .inr (.inr (.int 0, 0))), (.aload_n 0, .inl (0, 0, [])), (.invokevirtual 100, .inr (.inl (mi_X8_close, 8, 1115, [0]))), (.lastore, .inl (0, 0, [])), (.goto 6, .inl (13, 0, []))]
theorem sk_L_close_0 : pp_chk mi_L_close 10 0 (pp_cnt mi_L_close 0) sg_L_close_0 = true := by decide +kernel
def sg_L_close_10 : pp_Seg := [(.astore_n 2, .inl (0, 0, [])), (.iconst 1, .inr (.inr (.int 1, 0))), (.ireturn, .inl (0, 0, []))]
theorem sk_L_close_10 : pp_chk mi_L_close 13 10 (pp_cnt mi_L_close 10) sg_L_close_10 = true := by decide +kernel
def sg_L_close_13 : pp_Seg := [(.iconst 0, .inr (.inr (.int 0, 0))), (.ireturn, .inl (0, 0, []))]
theorem sk_L_close_13 : pp_chk mi_L_close 15 13 (pp_cnt mi_L_close 13) sg_L_close_13 = true := by decide +kernel
def sg_L_payOut_0 : pp_Seg := [(.aload_n 2, .inl (0, 0, [])), (.iconst 0, .inr (.inr (.int 0, 0))), (.aload_n 0, .inl (0, 0, [])), (.iload_n 1, .inl (0, 0, [])), (.invokevirtual 104, .inr (.inl (mi_X8_payOut, 8, 1134, [0, 0]))), (.lastore, .inl (0, 0, [])), (.goto 9, .inl (17, 0, []))]
theorem sk_L_payOut_0 : pp_chk mi_L_payOut 11 0 (pp_cnt mi_L_payOut 0) sg_L_payOut_0 = true := by decide +kernel
def sg_L_payOut_11 : pp_Seg := [(.astore_n 3, .inl (0, 0, [])), (.iconst 1, .inr (.inr (.int 1, 0))), (.ireturn, .inl (0, 0, []))]
theorem sk_L_payOut_11 : pp_chk mi_L_payOut 14 11 (pp_cnt mi_L_payOut 11) sg_L_payOut_11 = true := by decide +kernel
def sg_L_payOut_14 : pp_Seg := [(.astore_n 3, .inl (0, 0, [])), (.iconst 2, .inr (.inr (.int 2, 0))), (.ireturn, .inl (0, 0, []))]
theorem sk_L_payOut_14 : pp_chk mi_L_payOut 17 14 (pp_cnt mi_L_payOut 14) sg_L_payOut_14 = true := by decide +kernel
def sg_L_payOut_17 : pp_Seg := [(.iconst 0, .inr (.inr (.int 0, 0))), (.ireturn, .inl (0, 0, []))]
theorem sk_L_payOut_17 : pp_chk mi_L_payOut 19 17 (pp_cnt mi_L_payOut 17) sg_L_payOut_17 = true := by decide +kernel
def sg_L_saveSnapshot_0 : pp_Seg := [(.aload_n 2, .inl (0, 0, [])), (.iconst 0, .inr (.inr (.int 0, 0))), (.aload_n 0, .inl (0, 0, [])), (.iload_n 1, .inl (0, 0, [])), (.invokevirtual 107, .inr (.inl (mi_X8_saveSnapshot, 8, 1142, [0, 0]))), (.ifCond .eq 7, .inl (14, 0, [])), (.lconst 1, .inr (.inr (.long 1, 0))), (.goto 4, .inl (15, 0, []))]
theorem sk_L_saveSnapshot_0 : pp_chk mi_L_saveSnapshot 14 0 (pp_cnt mi_L_saveSnapshot 0) sg_L_saveSnapshot_0 = true := by decide +kernel
def sg_L_saveSnapshot_14 : pp_Seg := [(.lconst 0, .inr (.inr (.long 0, 0)))]
theorem sk_L_saveSnapshot_14 : pp_chk mi_L_saveSnapshot 15 14 (pp_cnt mi_L_saveSnapshot 14) sg_L_saveSnapshot_14 = true := by decide +kernel
def sg_L_saveSnapshot_15 : pp_Seg := [(.lastore, .inl (0, 0, [])), (.goto 6, .inl (22, 0, []))]
theorem sk_L_saveSnapshot_15 : pp_chk mi_L_saveSnapshot 19 15 (pp_cnt mi_L_saveSnapshot 15) sg_L_saveSnapshot_15 = true := by decide +kernel
def sg_L_saveSnapshot_19 : pp_Seg := [(.astore_n 3, .inl (0, 0, [])), (.iconst 1, .inr (.inr (.int 1, 0))), (.ireturn, .inl (0, 0, []))]
theorem sk_L_saveSnapshot_19 : pp_chk mi_L_saveSnapshot 22 19 (pp_cnt mi_L_saveSnapshot 19) sg_L_saveSnapshot_19 = true := by decide +kernel
def sg_L_saveSnapshot_22 : pp_Seg := [(.iconst 0, .inr (.inr (.int 0, 0))), (.ireturn, .inl (0, 0, []))]
theorem sk_L_saveSnapshot_22 : pp_chk mi_L_saveSnapshot 24 22 (pp_cnt mi_L_saveSnapshot 22) sg_L_saveSnapshot_22 = true := by decide +kernel
def sg_L_restoreSnapshot_0 : pp_Seg := [(.aload_n 2, .inl (0, 0, [])), (.iconst 0, .inr (.inr (.int 0, 0))), (.aload_n 0, .inl (0, 0, [])), (.iload_n 1, .inl (0, 0, [])), (.invokevirtual 111, .inr (.inl (mi_X8_restoreSnapshot, 8, 1154, [0, 0]))), (.i2l, .inl (0, 0, [])), (.lastore, .inl (0, 0, [])), (.goto 9, .inl (18, 0, []))]
theorem sk_L_restoreSnapshot_0 : pp_chk mi_L_restoreSnapshot 12 0 (pp_cnt mi_L_restoreSnapshot 0) sg_L_restoreSnapshot_0 = true := by decide +kernel
def sg_L_restoreSnapshot_12 : pp_Seg := [(.astore_n 3, .inl (0, 0, [])), (.iconst 1, .inr (.inr (.int 1, 0))), (.ireturn, .inl (0, 0, []))]
theorem sk_L_restoreSnapshot_12 : pp_chk mi_L_restoreSnapshot 15 12 (pp_cnt mi_L_restoreSnapshot 12) sg_L_restoreSnapshot_12 = true := by decide +kernel
def sg_L_restoreSnapshot_15 : pp_Seg := [(.astore_n 3, .inl (0, 0, [])), (.iconst 2, .inr (.inr (.int 2, 0))), (.ireturn, .inl (0, 0, []))]
theorem sk_L_restoreSnapshot_15 : pp_chk mi_L_restoreSnapshot 18 15 (pp_cnt mi_L_restoreSnapshot 15) sg_L_restoreSnapshot_15 = true := by decide +kernel
def sg_L_restoreSnapshot_18 : pp_Seg := [(.iconst 0, .inr (.inr (.int 0, 0))), (.ireturn, .inl (0, 0, []))]
theorem sk_L_restoreSnapshot_18 : pp_chk mi_L_restoreSnapshot 20 18 (pp_cnt mi_L_restoreSnapshot 18) sg_L_restoreSnapshot_18 = true := by decide +kernel
