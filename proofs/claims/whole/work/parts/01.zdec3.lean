theorem dX8_hold_39 : decode cX8_hold 39 = .ok (.return_, 1) := by decide +kernel
theorem dX8_holdsFailure_0 : decode cX8_holdsFailure 0 = .ok (.aload_n 0, 1) := by decide +kernel
theorem dX8_holdsFailure_1 : decode cX8_holdsFailure 1 = .ok (.getfield 28, 3) := by decide +kernel
theorem dX8_holdsFailure_4 : decode cX8_holdsFailure 4 = .ok (.aload_n 0, 1) := by decide +kernel
theorem dX8_holdsFailure_5 : decode cX8_holdsFailure 5 = .ok (.getfield 41, 3) := by decide +kernel
theorem dX8_holdsFailure_8 : decode cX8_holdsFailure 8 = .ok (.iaload, 1) := by decide +kernel
theorem dX8_holdsFailure_9 : decode cX8_holdsFailure 9 = .ok (.ifCond .eq 7, 3) := by decide +kernel
theorem dX8_holdsFailure_12 : decode cX8_holdsFailure 12 = .ok (.iconst 1, 1) := by decide +kernel
theorem dX8_holdsFailure_13 : decode cX8_holdsFailure 13 = .ok (.goto 4, 3) := by decide +kernel
theorem dX8_holdsFailure_16 : decode cX8_holdsFailure 16 = .ok (.iconst 0, 1) := by decide +kernel
theorem dX8_holdsFailure_17 : decode cX8_holdsFailure 17 = .ok (.ireturn, 1) := by decide +kernel
theorem dX8_letGo_0 : decode cX8_letGo 0 = .ok (.aload_n 1, 1) := by decide +kernel
theorem dX8_letGo_1 : decode cX8_letGo 1 = .ok (.aload_n 0, 1) := by decide +kernel
theorem dX8_letGo_2 : decode cX8_letGo 2 = .ok (.getfield 28, 3) := by decide +kernel
theorem dX8_letGo_5 : decode cX8_letGo 5 = .ok (.aload_n 0, 1) := by decide +kernel
theorem dX8_letGo_6 : decode cX8_letGo 6 = .ok (.getfield 41, 3) := by decide +kernel
theorem dX8_letGo_9 : decode cX8_letGo 9 = .ok (.iaload, 1) := by decide +kernel
theorem dX8_letGo_10 : decode cX8_letGo 10 = .ok (.aload_n 0, 1) := by decide +kernel
theorem dX8_letGo_11 : decode cX8_letGo 11 = .ok (.getfield 31, 3) := by decide +kernel
theorem dX8_letGo_14 : decode cX8_letGo 14 = .ok (.aload_n 0, 1) := by decide +kernel
theorem dX8_letGo_15 : decode cX8_letGo 15 = .ok (.getfield 41, 3) := by decide +kernel
theorem dX8_letGo_18 : decode cX8_letGo 18 = .ok (.iaload, 1) := by decide +kernel
theorem dX8_letGo_19 : decode cX8_letGo 19 = .ok (.aload_n 0, 1) := by decide +kernel
theorem dX8_letGo_20 : decode cX8_letGo 20 = .ok (.getfield 34, 3) := by decide +kernel
theorem dX8_letGo_23 : decode cX8_letGo 23 = .ok (.aload_n 0, 1) := by decide +kernel
theorem dX8_letGo_24 : decode cX8_letGo 24 = .ok (.getfield 41, 3) := by decide +kernel
theorem dX8_letGo_27 : decode cX8_letGo 27 = .ok (.iaload, 1) := by decide +kernel
theorem dX8_letGo_28 : decode cX8_letGo 28 = .ok (.invokevirtual 59, 3) := by decide +kernel
theorem dX8_letGo_31 : decode cX8_letGo 31 = .ok (.return_, 1) := by decide +kernel
theorem dX9_of_0 : decode cX9_of 0 = .ok (.iload_n 0, 1) := by decide +kernel
theorem dX9_of_1 : decode cX9_of 1 = .ok (.i2l, 1) := by decide +kernel
theorem dX9_of_2 : decode cX9_of 2 = .ok (.bipush 32, 2) := by decide +kernel
theorem dX9_of_4 : decode cX9_of 4 = .ok (.lshl, 1) := by decide +kernel
theorem dX9_of_5 : decode cX9_of 5 = .ok (.iload_n 1, 1) := by decide +kernel
theorem dX9_of_6 : decode cX9_of 6 = .ok (.i2l, 1) := by decide +kernel
theorem dX9_of_7 : decode cX9_of 7 = .ok (.ldc2_w 7, 3) := by decide +kernel
theorem dX9_of_10 : decode cX9_of 10 = .ok (.land, 1) := by decide +kernel
theorem dX9_of_11 : decode cX9_of 11 = .ok (.lor, 1) := by decide +kernel
theorem dX9_of_12 : decode cX9_of 12 = .ok (.lreturn, 1) := by decide +kernel
theorem dX9_whole_0 : decode cX9_whole 0 = .ok (.iload_n 0, 1) := by decide +kernel
theorem dX9_whole_1 : decode cX9_whole 1 = .ok (.i2l, 1) := by decide +kernel
theorem dX9_whole_2 : decode cX9_whole 2 = .ok (.ldc2_w 7, 3) := by decide +kernel
theorem dX9_whole_5 : decode cX9_whole 5 = .ok (.land, 1) := by decide +kernel
theorem dX9_whole_6 : decode cX9_whole 6 = .ok (.lreturn, 1) := by decide +kernel
theorem dX9_truth_0 : decode cX9_truth 0 = .ok (.iload_n 0, 1) := by decide +kernel
theorem dX9_truth_1 : decode cX9_truth 1 = .ok (.ifCond .eq 7, 3) := by decide +kernel
theorem dX9_truth_4 : decode cX9_truth 4 = .ok (.lconst 1, 1) := by decide +kernel
theorem dX9_truth_5 : decode cX9_truth 5 = .ok (.goto 4, 3) := by decide +kernel
theorem dX9_truth_8 : decode cX9_truth 8 = .ok (.lconst 0, 1) := by decide +kernel
theorem dX9_truth_9 : decode cX9_truth 9 = .ok (.lreturn, 1) := by decide +kernel
theorem dX9_sort_0 : decode cX9_sort 0 = .ok (.lload_n 0, 1) := by decide +kernel
theorem dX9_sort_1 : decode cX9_sort 1 = .ok (.bipush 32, 2) := by decide +kernel
theorem dX9_sort_3 : decode cX9_sort 3 = .ok (.lshr, 1) := by decide +kernel
theorem dX9_sort_4 : decode cX9_sort 4 = .ok (.l2i, 1) := by decide +kernel
theorem dX9_sort_5 : decode cX9_sort 5 = .ok (.ireturn, 1) := by decide +kernel
theorem dX9_number_0 : decode cX9_number 0 = .ok (.lload_n 0, 1) := by decide +kernel
theorem dX9_number_1 : decode cX9_number 1 = .ok (.l2i, 1) := by decide +kernel
theorem dX9_number_2 : decode cX9_number 2 = .ok (.ireturn, 1) := by decide +kernel
theorem dX9_isRow_0 : decode cX9_isRow 0 = .ok (.lload_n 0, 1) := by decide +kernel
theorem dX9_isRow_1 : decode cX9_isRow 1 = .ok (.invokestatic 9, 3) := by decide +kernel
theorem dX9_isRow_4 : decode cX9_isRow 4 = .ok (.istore_n 2, 1) := by decide +kernel
theorem dX9_isRow_5 : decode cX9_isRow 5 = .ok (.iload_n 2, 1) := by decide +kernel
theorem dX9_isRow_6 : decode cX9_isRow 6 = .ok (.iconst 2, 1) := by decide +kernel
theorem dX9_isRow_7 : decode cX9_isRow 7 = .ok (.if_icmp .eq 13, 3) := by decide +kernel
theorem dX9_isRow_10 : decode cX9_isRow 10 = .ok (.iload_n 2, 1) := by decide +kernel
theorem dX9_isRow_11 : decode cX9_isRow 11 = .ok (.iconst 3, 1) := by decide +kernel
theorem dX9_isRow_12 : decode cX9_isRow 12 = .ok (.if_icmp .eq 8, 3) := by decide +kernel
theorem dX9_isRow_15 : decode cX9_isRow 15 = .ok (.iload_n 2, 1) := by decide +kernel
theorem dX9_isRow_16 : decode cX9_isRow 16 = .ok (.iconst 4, 1) := by decide +kernel
theorem dX9_isRow_17 : decode cX9_isRow 17 = .ok (.if_icmp .ne 7, 3) := by decide +kernel
theorem dX9_isRow_20 : decode cX9_isRow 20 = .ok (.iconst 1, 1) := by decide +kernel
theorem dX9_isRow_21 : decode cX9_isRow 21 = .ok (.goto 4, 3) := by decide +kernel
theorem dX9_isRow_24 : decode cX9_isRow 24 = .ok (.iconst 0, 1) := by decide +kernel
theorem dX9_isRow_25 : decode cX9_isRow 25 = .ok (.ireturn, 1) := by decide +kernel
theorem dX9_isRowForLinks_0 : decode cX9_isRowForLinks 0 = .ok (.lload_n 0, 1) := by decide +kernel
theorem dX9_isRowForLinks_1 : decode cX9_isRowForLinks 1 = .ok (.invokestatic 9, 3) := by decide +kernel
theorem dX9_isRowForLinks_4 : decode cX9_isRowForLinks 4 = .ok (.istore_n 2, 1) := by decide +kernel
theorem dX9_isRowForLinks_5 : decode cX9_isRowForLinks 5 = .ok (.iload_n 2, 1) := by decide +kernel
theorem dX9_isRowForLinks_6 : decode cX9_isRowForLinks 6 = .ok (.iconst 3, 1) := by decide +kernel
theorem dX9_isRowForLinks_7 : decode cX9_isRowForLinks 7 = .ok (.if_icmp .eq 8, 3) := by decide +kernel
theorem dX9_isRowForLinks_10 : decode cX9_isRowForLinks 10 = .ok (.iload_n 2, 1) := by decide +kernel
theorem dX9_isRowForLinks_11 : decode cX9_isRowForLinks 11 = .ok (.iconst 4, 1) := by decide +kernel
theorem dX9_isRowForLinks_12 : decode cX9_isRowForLinks 12 = .ok (.if_icmp .ne 7, 3) := by decide +kernel
theorem dX9_isRowForLinks_15 : decode cX9_isRowForLinks 15 = .ok (.iconst 1, 1) := by decide +kernel
theorem dX9_isRowForLinks_16 : decode cX9_isRowForLinks 16 = .ok (.goto 4, 3) := by decide +kernel
theorem dX9_isRowForLinks_19 : decode cX9_isRowForLinks 19 = .ok (.iconst 0, 1) := by decide +kernel
theorem dX9_isRowForLinks_20 : decode cX9_isRowForLinks 20 = .ok (.ireturn, 1) := by decide +kernel
theorem dX9_isLink_0 : decode cX9_isLink 0 = .ok (.lload_n 0, 1) := by decide +kernel
theorem dX9_isLink_1 : decode cX9_isLink 1 = .ok (.invokestatic 9, 3) := by decide +kernel
theorem dX9_isLink_4 : decode cX9_isLink 4 = .ok (.istore_n 2, 1) := by decide +kernel
theorem dX9_isLink_5 : decode cX9_isLink 5 = .ok (.iload_n 2, 1) := by decide +kernel
theorem dX9_isLink_6 : decode cX9_isLink 6 = .ok (.iconst 5, 1) := by decide +kernel
theorem dX9_isLink_7 : decode cX9_isLink 7 = .ok (.if_icmp .eq 9, 3) := by decide +kernel
theorem dX9_isLink_10 : decode cX9_isLink 10 = .ok (.iload_n 2, 1) := by decide +kernel
theorem dX9_isLink_11 : decode cX9_isLink 11 = .ok (.bipush 6, 2) := by decide +kernel
theorem dX9_isLink_13 : decode cX9_isLink 13 = .ok (.if_icmp .ne 7, 3) := by decide +kernel
theorem dX9_isLink_16 : decode cX9_isLink 16 = .ok (.iconst 1, 1) := by decide +kernel
theorem dX9_isLink_17 : decode cX9_isLink 17 = .ok (.goto 4, 3) := by decide +kernel
theorem dX9_isLink_20 : decode cX9_isLink 20 = .ok (.iconst 0, 1) := by decide +kernel
theorem dX9_isLink_21 : decode cX9_isLink 21 = .ok (.ireturn, 1) := by decide +kernel
theorem dX9_isLinkOrNothing_0 : decode cX9_isLinkOrNothing 0 = .ok (.lload_n 0, 1) := by decide +kernel
theorem dX9_isLinkOrNothing_1 : decode cX9_isLinkOrNothing 1 = .ok (.invokestatic 9, 3) := by decide +kernel
theorem dX9_isLinkOrNothing_4 : decode cX9_isLinkOrNothing 4 = .ok (.istore_n 2, 1) := by decide +kernel
theorem dX9_isLinkOrNothing_5 : decode cX9_isLinkOrNothing 5 = .ok (.iload_n 2, 1) := by decide +kernel
theorem dX9_isLinkOrNothing_6 : decode cX9_isLinkOrNothing 6 = .ok (.iconst 5, 1) := by decide +kernel
theorem dX9_isLinkOrNothing_7 : decode cX9_isLinkOrNothing 7 = .ok (.if_icmp .eq 14, 3) := by decide +kernel
theorem dX9_isLinkOrNothing_10 : decode cX9_isLinkOrNothing 10 = .ok (.iload_n 2, 1) := by decide +kernel
theorem dX9_isLinkOrNothing_11 : decode cX9_isLinkOrNothing 11 = .ok (.bipush 6, 2) := by decide +kernel
theorem dX9_isLinkOrNothing_13 : decode cX9_isLinkOrNothing 13 = .ok (.if_icmp .eq 8, 3) := by decide +kernel
theorem dX9_isLinkOrNothing_16 : decode cX9_isLinkOrNothing 16 = .ok (.iload_n 2, 1) := by decide +kernel
theorem dX9_isLinkOrNothing_17 : decode cX9_isLinkOrNothing 17 = .ok (.iconst 1, 1) := by decide +kernel
theorem dX9_isLinkOrNothing_18 : decode cX9_isLinkOrNothing 18 = .ok (.if_icmp .ne 7, 3) := by decide +kernel
theorem dX9_isLinkOrNothing_21 : decode cX9_isLinkOrNothing 21 = .ok (.iconst 1, 1) := by decide +kernel
theorem dX9_isLinkOrNothing_22 : decode cX9_isLinkOrNothing 22 = .ok (.goto 4, 3) := by decide +kernel
theorem dX9_isLinkOrNothing_25 : decode cX9_isLinkOrNothing 25 = .ok (.iconst 0, 1) := by decide +kernel
theorem dX9_isLinkOrNothing_26 : decode cX9_isLinkOrNothing 26 = .ok (.ireturn, 1) := by decide +kernel
theorem dX9_isStrange_0 : decode cX9_isStrange 0 = .ok (.lload_n 0, 1) := by decide +kernel
theorem dX9_isStrange_1 : decode cX9_isStrange 1 = .ok (.invokestatic 9, 3) := by decide +kernel
theorem dX9_isStrange_4 : decode cX9_isStrange 4 = .ok (.iconst 4, 1) := by decide +kernel
theorem dX9_isStrange_5 : decode cX9_isStrange 5 = .ok (.if_icmp .ne 15, 3) := by decide +kernel
theorem dX9_isStrange_8 : decode cX9_isStrange 8 = .ok (.lload_n 2, 1) := by decide +kernel
theorem dX9_isStrange_9 : decode cX9_isStrange 9 = .ok (.invokestatic 9, 3) := by decide +kernel
theorem dX9_isStrange_12 : decode cX9_isStrange 12 = .ok (.iconst 5, 1) := by decide +kernel
theorem dX9_isStrange_13 : decode cX9_isStrange 13 = .ok (.if_icmp .ne 7, 3) := by decide +kernel
theorem dX9_isStrange_16 : decode cX9_isStrange 16 = .ok (.iconst 1, 1) := by decide +kernel
theorem dX9_isStrange_17 : decode cX9_isStrange 17 = .ok (.goto 4, 3) := by decide +kernel
theorem dX9_isStrange_20 : decode cX9_isStrange 20 = .ok (.iconst 0, 1) := by decide +kernel
theorem dX9_isStrange_21 : decode cX9_isStrange 21 = .ok (.ireturn, 1) := by decide +kernel
theorem dX10_init_0 : decode cX10_init 0 = .ok (.aload_n 0, 1) := by decide +kernel
theorem dX10_init_1 : decode cX10_init 1 = .ok (.invokespecial 1, 3) := by decide +kernel
theorem dX10_init_4 : decode cX10_init 4 = .ok (.aload_n 0, 1) := by decide +kernel
theorem dX10_init_5 : decode cX10_init 5 = .ok (.new 7, 3) := by decide +kernel
theorem dX10_init_8 : decode cX10_init 8 = .ok (.dup, 1) := by decide +kernel
theorem dX10_init_9 : decode cX10_init 9 = .ok (.invokespecial 9, 3) := by decide +kernel
theorem dX10_init_12 : decode cX10_init 12 = .ok (.putfield 10, 3) := by decide +kernel
theorem dX10_init_15 : decode cX10_init 15 = .ok (.aload_n 0, 1) := by decide +kernel
theorem dX10_init_16 : decode cX10_init 16 = .ok (.new 16, 3) := by decide +kernel
theorem dX10_init_19 : decode cX10_init 19 = .ok (.dup, 1) := by decide +kernel
theorem dX10_init_20 : decode cX10_init 20 = .ok (.aload_n 0, 1) := by decide +kernel
theorem dX10_init_21 : decode cX10_init 21 = .ok (.getfield 10, 3) := by decide +kernel
theorem dX10_init_24 : decode cX10_init 24 = .ok (.invokespecial 18, 3) := by decide +kernel
theorem dX10_init_27 : decode cX10_init 27 = .ok (.putfield 21, 3) := by decide +kernel
theorem dX10_init_30 : decode cX10_init 30 = .ok (.aload_n 0, 1) := by decide +kernel
theorem dX10_init_31 : decode cX10_init 31 = .ok (.iconst 0, 1) := by decide +kernel
theorem dX10_init_32 : decode cX10_init 32 = .ok (.putfield 25, 3) := by decide +kernel
theorem dX10_init_35 : decode cX10_init 35 = .ok (.return_, 1) := by decide +kernel
theorem dX10_act_0 : decode cX10_act 0 = .ok (.aload_n 0, 1) := by decide +kernel
theorem dX10_act_1 : decode cX10_act 1 = .ok (.getfield 10, 3) := by decide +kernel
theorem dX10_act_4 : decode cX10_act 4 = .ok (.iload_n 1, 1) := by decide +kernel
theorem dX10_act_5 : decode cX10_act 5 = .ok (.iload_n 2, 1) := by decide +kernel
theorem dX10_act_6 : decode cX10_act 6 = .ok (.iload_n 3, 1) := by decide +kernel
theorem dX10_act_7 : decode cX10_act 7 = .ok (.iload 4, 2) := by decide +kernel
theorem dX10_act_9 : decode cX10_act 9 = .ok (.invokevirtual 29, 3) := by decide +kernel
theorem dX10_act_12 : decode cX10_act 12 = .ok (.istore 5, 2) := by decide +kernel
theorem dX10_act_14 : decode cX10_act 14 = .ok (.iload 5, 2) := by decide +kernel
theorem dX10_act_16 : decode cX10_act 16 = .ok (.ifCond .eq 8, 3) := by decide +kernel
theorem dX10_act_19 : decode cX10_act 19 = .ok (.iload 5, 2) := by decide +kernel
theorem dX10_act_21 : decode cX10_act 21 = .ok (.goto 15, 3) := by decide +kernel
theorem dX10_act_24 : decode cX10_act 24 = .ok (.aload_n 0, 1) := by decide +kernel
theorem dX10_act_25 : decode cX10_act 25 = .ok (.getfield 10, 3) := by decide +kernel
theorem dX10_act_28 : decode cX10_act 28 = .ok (.iload_n 1, 1) := by decide +kernel
theorem dX10_act_29 : decode cX10_act 29 = .ok (.iload_n 2, 1) := by decide +kernel
theorem dX10_act_30 : decode cX10_act 30 = .ok (.iload_n 3, 1) := by decide +kernel
theorem dX10_act_31 : decode cX10_act 31 = .ok (.iload 4, 2) := by decide +kernel
theorem dX10_act_33 : decode cX10_act 33 = .ok (.invokevirtual 33, 3) := by decide +kernel
theorem dX10_act_36 : decode cX10_act 36 = .ok (.ireturn, 1) := by decide +kernel
theorem dX10_told_0 : decode cX10_told 0 = .ok (.aload_n 0, 1) := by decide +kernel
theorem dX10_told_1 : decode cX10_told 1 = .ok (.getfield 10, 3) := by decide +kernel
theorem dX10_told_4 : decode cX10_told 4 = .ok (.iload_n 1, 1) := by decide +kernel
theorem dX10_told_5 : decode cX10_told 5 = .ok (.invokevirtual 36, 3) := by decide +kernel
theorem dX10_told_8 : decode cX10_told 8 = .ok (.ifCond .ne 6, 3) := by decide +kernel
theorem dX10_told_11 : decode cX10_told 11 = .ok (.bipush (-101), 2) := by decide +kernel
theorem dX10_told_13 : decode cX10_told 13 = .ok (.ireturn, 1) := by decide +kernel
theorem dX10_told_14 : decode cX10_told 14 = .ok (.iload_n 2, 1) := by decide +kernel
theorem dX10_told_15 : decode cX10_told 15 = .ok (.ifCond .lt 8, 3) := by decide +kernel
theorem dX10_told_18 : decode cX10_told 18 = .ok (.iload_n 2, 1) := by decide +kernel
theorem dX10_told_19 : decode cX10_told 19 = .ok (.iconst 3, 1) := by decide +kernel
theorem dX10_told_20 : decode cX10_told 20 = .ok (.if_icmp .le 8, 3) := by decide +kernel
theorem dX10_told_23 : decode cX10_told 23 = .ok (.bipush (-102), 2) := by decide +kernel
theorem dX10_told_25 : decode cX10_told 25 = .ok (.goto 12, 3) := by decide +kernel
theorem dX10_told_28 : decode cX10_told 28 = .ok (.aload_n 0, 1) := by decide +kernel
theorem dX10_told_29 : decode cX10_told 29 = .ok (.getfield 10, 3) := by decide +kernel
theorem dX10_told_32 : decode cX10_told 32 = .ok (.iload_n 1, 1) := by decide +kernel
theorem dX10_told_33 : decode cX10_told 33 = .ok (.iload_n 2, 1) := by decide +kernel
theorem dX10_told_34 : decode cX10_told 34 = .ok (.invokevirtual 40, 3) := by decide +kernel
theorem dX10_told_37 : decode cX10_told 37 = .ok (.ireturn, 1) := by decide +kernel
theorem dX10_run_0 : decode cX10_run 0 = .ok (.aload_n 0, 1) := by decide +kernel
theorem dX10_run_1 : decode cX10_run 1 = .ok (.getfield 10, 3) := by decide +kernel
theorem dX10_run_4 : decode cX10_run 4 = .ok (.iload_n 1, 1) := by decide +kernel
theorem dX10_run_5 : decode cX10_run 5 = .ok (.invokevirtual 36, 3) := by decide +kernel
theorem dX10_run_8 : decode cX10_run 8 = .ok (.ifCond .ne 6, 3) := by decide +kernel
theorem dX10_run_11 : decode cX10_run 11 = .ok (.bipush (-101), 2) := by decide +kernel
theorem dX10_run_13 : decode cX10_run 13 = .ok (.ireturn, 1) := by decide +kernel
theorem dX10_run_14 : decode cX10_run 14 = .ok (.iload_n 2, 1) := by decide +kernel
theorem dX10_run_15 : decode cX10_run 15 = .ok (.iconst 1, 1) := by decide +kernel
theorem dX10_run_16 : decode cX10_run 16 = .ok (.if_icmp .lt 10, 3) := by decide +kernel
theorem dX10_run_19 : decode cX10_run 19 = .ok (.iload_n 2, 1) := by decide +kernel
theorem dX10_run_20 : decode cX10_run 20 = .ok (.sipush 200, 3) := by decide +kernel
theorem dX10_run_23 : decode cX10_run 23 = .ok (.if_icmp .le 6, 3) := by decide +kernel
theorem dX10_run_26 : decode cX10_run 26 = .ok (.bipush (-102), 2) := by decide +kernel
theorem dX10_run_28 : decode cX10_run 28 = .ok (.ireturn, 1) := by decide +kernel
theorem dX10_run_29 : decode cX10_run 29 = .ok (.aload_n 0, 1) := by decide +kernel
theorem dX10_run_30 : decode cX10_run 30 = .ok (.getfield 25, 3) := by decide +kernel
theorem dX10_run_33 : decode cX10_run 33 = .ok (.sipush 400, 3) := by decide +kernel
theorem dX10_run_36 : decode cX10_run 36 = .ok (.if_icmp .lt 6, 3) := by decide +kernel
theorem dX10_run_39 : decode cX10_run 39 = .ok (.bipush (-104), 2) := by decide +kernel
theorem dX10_run_41 : decode cX10_run 41 = .ok (.ireturn, 1) := by decide +kernel
theorem dX10_run_42 : decode cX10_run 42 = .ok (.aload_n 0, 1) := by decide +kernel
theorem dX10_run_43 : decode cX10_run 43 = .ok (.dup, 1) := by decide +kernel
theorem dX10_run_44 : decode cX10_run 44 = .ok (.getfield 25, 3) := by decide +kernel
theorem dX10_run_47 : decode cX10_run 47 = .ok (.iconst 1, 1) := by decide +kernel
theorem dX10_run_48 : decode cX10_run 48 = .ok (.iadd, 1) := by decide +kernel
theorem dX10_run_49 : decode cX10_run 49 = .ok (.putfield 25, 3) := by decide +kernel
theorem dX10_run_52 : decode cX10_run 52 = .ok (.aload_n 0, 1) := by decide +kernel
theorem dX10_run_53 : decode cX10_run 53 = .ok (.getfield 21, 3) := by decide +kernel
theorem dX10_run_56 : decode cX10_run 56 = .ok (.iload_n 1, 1) := by decide +kernel
theorem dX10_run_57 : decode cX10_run 57 = .ok (.iload_n 2, 1) := by decide +kernel
theorem dX10_run_58 : decode cX10_run 58 = .ok (.invokevirtual 44, 3) := by decide +kernel
theorem dX10_run_61 : decode cX10_run 61 = .ok (.aload_n 0, 1) := by decide +kernel
theorem dX10_run_62 : decode cX10_run 62 = .ok (.getfield 21, 3) := by decide +kernel
theorem dX10_run_65 : decode cX10_run 65 = .ok (.getfield 48, 3) := by decide +kernel
theorem dX10_run_68 : decode cX10_run 68 = .ok (.astore_n 3, 1) := by decide +kernel
theorem dX10_run_69 : decode cX10_run 69 = .ok (.aload_n 3, 1) := by decide +kernel
theorem dX10_run_70 : decode cX10_run 70 = .ok (.getfield 52, 3) := by decide +kernel
theorem dX10_run_73 : decode cX10_run 73 = .ok (.ifCond .ne 13, 3) := by decide +kernel
theorem dX10_run_76 : decode cX10_run 76 = .ok (.aload_n 3, 1) := by decide +kernel
theorem dX10_run_77 : decode cX10_run 77 = .ok (.getfield 57, 3) := by decide +kernel
theorem dX10_run_80 : decode cX10_run 80 = .ok (.invokestatic 61, 3) := by decide +kernel
theorem dX10_run_83 : decode cX10_run 83 = .ok (.goto 10, 3) := by decide +kernel
theorem dX10_run_86 : decode cX10_run 86 = .ok (.bipush (-10), 2) := by decide +kernel
theorem dX10_run_88 : decode cX10_run 88 = .ok (.aload_n 3, 1) := by decide +kernel
theorem dX10_run_89 : decode cX10_run 89 = .ok (.getfield 52, 3) := by decide +kernel
theorem dX10_run_92 : decode cX10_run 92 = .ok (.isub, 1) := by decide +kernel
theorem dX10_run_93 : decode cX10_run 93 = .ok (.ireturn, 1) := by decide +kernel
theorem dX10_ended_0 : decode cX10_ended 0 = .ok (.aload_n 0, 1) := by decide +kernel
theorem dX10_ended_1 : decode cX10_ended 1 = .ok (.getfield 21, 3) := by decide +kernel
theorem dX10_ended_4 : decode cX10_ended 4 = .ok (.getfield 48, 3) := by decide +kernel
theorem dX10_ended_7 : decode cX10_ended 7 = .ok (.astore_n 2, 1) := by decide +kernel
theorem dX10_ended_8 : decode cX10_ended 8 = .ok (.iload_n 1, 1) := by decide +kernel
theorem dX10_ended_9 : decode cX10_ended 9 = .ok (.tableswitch 60 0 4 #[35, 40, 45, 50, 55], 35) := by decide +kernel
theorem dX10_ended_44 : decode cX10_ended 44 = .ok (.aload_n 2, 1) := by decide +kernel
theorem dX10_ended_45 : decode cX10_ended 45 = .ok (.getfield 52, 3) := by decide +kernel
theorem dX10_ended_48 : decode cX10_ended 48 = .ok (.ireturn, 1) := by decide +kernel
theorem dX10_ended_49 : decode cX10_ended 49 = .ok (.aload_n 2, 1) := by decide +kernel
theorem dX10_ended_50 : decode cX10_ended 50 = .ok (.getfield 67, 3) := by decide +kernel
theorem dX10_ended_53 : decode cX10_ended 53 = .ok (.ireturn, 1) := by decide +kernel
theorem dX10_ended_54 : decode cX10_ended 54 = .ok (.aload_n 2, 1) := by decide +kernel
theorem dX10_ended_55 : decode cX10_ended 55 = .ok (.getfield 70, 3) := by decide +kernel
theorem dX10_ended_58 : decode cX10_ended 58 = .ok (.ireturn, 1) := by decide +kernel
theorem dX10_ended_59 : decode cX10_ended 59 = .ok (.aload_n 2, 1) := by decide +kernel
theorem dX10_ended_60 : decode cX10_ended 60 = .ok (.getfield 73, 3) := by decide +kernel
theorem dX10_ended_63 : decode cX10_ended 63 = .ok (.ireturn, 1) := by decide +kernel
theorem dX10_ended_64 : decode cX10_ended 64 = .ok (.aload_n 2, 1) := by decide +kernel
theorem dX10_ended_65 : decode cX10_ended 65 = .ok (.getfield 76, 3) := by decide +kernel
theorem dX10_ended_68 : decode cX10_ended 68 = .ok (.ireturn, 1) := by decide +kernel
theorem dX10_ended_69 : decode cX10_ended 69 = .ok (.bipush (-102), 2) := by decide +kernel
theorem dX10_ended_71 : decode cX10_ended 71 = .ok (.ireturn, 1) := by decide +kernel
theorem dX10_gave_0 : decode cX10_gave 0 = .ok (.aload_n 0, 1) := by decide +kernel
theorem dX10_gave_1 : decode cX10_gave 1 = .ok (.getfield 21, 3) := by decide +kernel
theorem dX10_gave_4 : decode cX10_gave 4 = .ok (.getfield 79, 3) := by decide +kernel
theorem dX10_gave_7 : decode cX10_gave 7 = .ok (.aload_n 0, 1) := by decide +kernel
theorem dX10_gave_8 : decode cX10_gave 8 = .ok (.getfield 21, 3) := by decide +kernel
theorem dX10_gave_11 : decode cX10_gave 11 = .ok (.getfield 48, 3) := by decide +kernel
theorem dX10_gave_14 : decode cX10_gave 14 = .ok (.getfield 57, 3) := by decide +kernel
theorem dX10_gave_17 : decode cX10_gave 17 = .ok (.invokevirtual 83, 3) := by decide +kernel
theorem dX10_gave_20 : decode cX10_gave 20 = .ok (.ireturn, 1) := by decide +kernel
theorem dX10_place_0 : decode cX10_place 0 = .ok (.aload_n 0, 1) := by decide +kernel
theorem dX10_place_1 : decode cX10_place 1 = .ok (.getfield 21, 3) := by decide +kernel
theorem dX10_place_4 : decode cX10_place 4 = .ok (.getfield 48, 3) := by decide +kernel
theorem dX10_place_7 : decode cX10_place 7 = .ok (.getfield 57, 3) := by decide +kernel
theorem dX10_place_10 : decode cX10_place 10 = .ok (.lstore_n 2, 1) := by decide +kernel
theorem dX10_place_11 : decode cX10_place 11 = .ok (.lload_n 2, 1) := by decide +kernel
theorem dX10_place_12 : decode cX10_place 12 = .ok (.invokestatic 88, 3) := by decide +kernel
theorem dX10_place_15 : decode cX10_place 15 = .ok (.ifCond .ne 5, 3) := by decide +kernel
theorem dX10_place_18 : decode cX10_place 18 = .ok (.iconst 0, 1) := by decide +kernel
theorem dX10_place_19 : decode cX10_place 19 = .ok (.ireturn, 1) := by decide +kernel
theorem dX10_place_20 : decode cX10_place 20 = .ok (.iload_n 1, 1) := by decide +kernel
theorem dX10_place_21 : decode cX10_place 21 = .ok (.ifCond .lt 18, 3) := by decide +kernel
theorem dX10_place_24 : decode cX10_place 24 = .ok (.iload_n 1, 1) := by decide +kernel
theorem dX10_place_25 : decode cX10_place 25 = .ok (.aload_n 0, 1) := by decide +kernel
theorem dX10_place_26 : decode cX10_place 26 = .ok (.getfield 21, 3) := by decide +kernel
theorem dX10_place_29 : decode cX10_place 29 = .ok (.getfield 79, 3) := by decide +kernel
theorem dX10_place_32 : decode cX10_place 32 = .ok (.lload_n 2, 1) := by decide +kernel
theorem dX10_place_33 : decode cX10_place 33 = .ok (.invokevirtual 92, 3) := by decide +kernel
theorem dX10_place_36 : decode cX10_place 36 = .ok (.if_icmp .lt 13, 3) := by decide +kernel
theorem dX10_place_39 : decode cX10_place 39 = .ok (.new 95, 3) := by decide +kernel
theorem dX10_place_42 : decode cX10_place 42 = .ok (.dup, 1) := by decide +kernel
theorem dX10_place_43 : decode cX10_place 43 = .ok (.ldc 97, 2) := by decide +kernel
theorem dX10_place_45 : decode cX10_place 45 = .ok (.invokespecial 99, 3) := by decide +kernel
theorem dX10_place_48 : decode cX10_place 48 = .ok (.athrow, 1) := by decide +kernel
theorem dX10_place_49 : decode cX10_place 49 = .ok (.aload_n 0, 1) := by decide +kernel
theorem dX10_place_50 : decode cX10_place 50 = .ok (.getfield 21, 3) := by decide +kernel
theorem dX10_place_53 : decode cX10_place 53 = .ok (.getfield 79, 3) := by decide +kernel
theorem dX10_place_56 : decode cX10_place 56 = .ok (.lload_n 2, 1) := by decide +kernel
theorem dX10_place_57 : decode cX10_place 57 = .ok (.iload_n 1, 1) := by decide +kernel
theorem dX10_place_58 : decode cX10_place 58 = .ok (.invokestatic 102, 3) := by decide +kernel
theorem dX10_place_61 : decode cX10_place 61 = .ok (.invokevirtual 106, 3) := by decide +kernel
theorem dX10_place_64 : decode cX10_place 64 = .ok (.lstore 4, 2) := by decide +kernel
theorem dX10_place_66 : decode cX10_place 66 = .ok (.lload 4, 2) := by decide +kernel
theorem dX10_place_68 : decode cX10_place 68 = .ok (.invokestatic 61, 3) := by decide +kernel
theorem dX10_place_71 : decode cX10_place 71 = .ok (.lookupswitch 43 #[(0, 33), (5, 39), (6, 41)], 33) := by decide +kernel
theorem dX10_place_104 : decode cX10_place 104 = .ok (.lload 4, 2) := by decide +kernel
theorem dX10_place_106 : decode cX10_place 106 = .ok (.invokestatic 110, 3) := by decide +kernel
theorem dX10_place_109 : decode cX10_place 109 = .ok (.ireturn, 1) := by decide +kernel
theorem dX10_place_110 : decode cX10_place 110 = .ok (.iconst 1, 1) := by decide +kernel
theorem dX10_place_111 : decode cX10_place 111 = .ok (.ireturn, 1) := by decide +kernel
theorem dX10_place_112 : decode cX10_place 112 = .ok (.iconst 2, 1) := by decide +kernel
theorem dX10_place_113 : decode cX10_place 113 = .ok (.ireturn, 1) := by decide +kernel
theorem dX10_place_114 : decode cX10_place 114 = .ok (.iconst 0, 1) := by decide +kernel
theorem dX10_place_115 : decode cX10_place 115 = .ok (.ireturn, 1) := by decide +kernel
theorem dX10_box_0 : decode cX10_box 0 = .ok (.iload_n 1, 1) := by decide +kernel
theorem dX10_box_1 : decode cX10_box 1 = .ok (.invokestatic 113, 3) := by decide +kernel
theorem dX10_box_4 : decode cX10_box 4 = .ok (.ifCond .eq 20, 3) := by decide +kernel
theorem dX10_box_7 : decode cX10_box 7 = .ok (.aload_n 0, 1) := by decide +kernel
theorem dX10_box_8 : decode cX10_box 8 = .ok (.getfield 21, 3) := by decide +kernel
theorem dX10_box_11 : decode cX10_box 11 = .ok (.getfield 79, 3) := by decide +kernel
theorem dX10_box_14 : decode cX10_box 14 = .ok (.iload_n 1, 1) := by decide +kernel
theorem dX10_box_15 : decode cX10_box 15 = .ok (.invokevirtual 106, 3) := by decide +kernel
theorem dX10_box_18 : decode cX10_box 18 = .ok (.invokestatic 61, 3) := by decide +kernel
theorem dX10_box_21 : decode cX10_box 21 = .ok (.goto 5, 3) := by decide +kernel
theorem dX10_box_24 : decode cX10_box 24 = .ok (.bipush (-102), 2) := by decide +kernel
theorem dX10_box_26 : decode cX10_box 26 = .ok (.ireturn, 1) := by decide +kernel
theorem dX10_boxed_0 : decode cX10_boxed 0 = .ok (.iload_n 1, 1) := by decide +kernel
theorem dX10_boxed_1 : decode cX10_boxed 1 = .ok (.invokestatic 113, 3) := by decide +kernel
theorem dX10_boxed_4 : decode cX10_boxed 4 = .ok (.ifCond .eq 27, 3) := by decide +kernel
theorem dX10_boxed_7 : decode cX10_boxed 7 = .ok (.aload_n 0, 1) := by decide +kernel
theorem dX10_boxed_8 : decode cX10_boxed 8 = .ok (.getfield 21, 3) := by decide +kernel
theorem dX10_boxed_11 : decode cX10_boxed 11 = .ok (.getfield 79, 3) := by decide +kernel
theorem dX10_boxed_14 : decode cX10_boxed 14 = .ok (.aload_n 0, 1) := by decide +kernel
theorem dX10_boxed_15 : decode cX10_boxed 15 = .ok (.getfield 21, 3) := by decide +kernel
theorem dX10_boxed_18 : decode cX10_boxed 18 = .ok (.getfield 79, 3) := by decide +kernel
theorem dX10_boxed_21 : decode cX10_boxed 21 = .ok (.iload_n 1, 1) := by decide +kernel
theorem dX10_boxed_22 : decode cX10_boxed 22 = .ok (.invokevirtual 106, 3) := by decide +kernel
theorem dX10_boxed_25 : decode cX10_boxed 25 = .ok (.invokevirtual 83, 3) := by decide +kernel
theorem dX10_boxed_28 : decode cX10_boxed 28 = .ok (.goto 4, 3) := by decide +kernel
theorem dX10_boxed_31 : decode cX10_boxed 31 = .ok (.iconst 0, 1) := by decide +kernel
theorem dX10_boxed_32 : decode cX10_boxed 32 = .ok (.ireturn, 1) := by decide +kernel
theorem dX10_same_0 : decode cX10_same 0 = .ok (.iload_n 1, 1) := by decide +kernel
theorem dX10_same_1 : decode cX10_same 1 = .ok (.invokestatic 113, 3) := by decide +kernel
theorem dX10_same_4 : decode cX10_same 4 = .ok (.ifCond .eq 10, 3) := by decide +kernel
theorem dX10_same_7 : decode cX10_same 7 = .ok (.iload_n 2, 1) := by decide +kernel
theorem dX10_same_8 : decode cX10_same 8 = .ok (.invokestatic 113, 3) := by decide +kernel
theorem dX10_same_11 : decode cX10_same 11 = .ok (.ifCond .ne 6, 3) := by decide +kernel
theorem dX10_same_14 : decode cX10_same 14 = .ok (.bipush (-102), 2) := by decide +kernel
theorem dX10_same_16 : decode cX10_same 16 = .ok (.ireturn, 1) := by decide +kernel
theorem dX10_same_17 : decode cX10_same 17 = .ok (.aload_n 0, 1) := by decide +kernel
theorem dX10_same_18 : decode cX10_same 18 = .ok (.getfield 21, 3) := by decide +kernel
theorem dX10_same_21 : decode cX10_same 21 = .ok (.getfield 79, 3) := by decide +kernel
theorem dX10_same_24 : decode cX10_same 24 = .ok (.iload_n 1, 1) := by decide +kernel
theorem dX10_same_25 : decode cX10_same 25 = .ok (.invokevirtual 106, 3) := by decide +kernel
theorem dX10_same_28 : decode cX10_same 28 = .ok (.aload_n 0, 1) := by decide +kernel
theorem dX10_same_29 : decode cX10_same 29 = .ok (.getfield 21, 3) := by decide +kernel
theorem dX10_same_32 : decode cX10_same 32 = .ok (.getfield 79, 3) := by decide +kernel
theorem dX10_same_35 : decode cX10_same 35 = .ok (.iload_n 2, 1) := by decide +kernel
theorem dX10_same_36 : decode cX10_same 36 = .ok (.invokevirtual 106, 3) := by decide +kernel
theorem dX10_same_39 : decode cX10_same 39 = .ok (.lcmp, 1) := by decide +kernel
theorem dX10_same_40 : decode cX10_same 40 = .ok (.ifCond .ne 7, 3) := by decide +kernel
theorem dX10_same_43 : decode cX10_same 43 = .ok (.iconst 1, 1) := by decide +kernel
theorem dX10_same_44 : decode cX10_same 44 = .ok (.goto 4, 3) := by decide +kernel
theorem dX10_same_47 : decode cX10_same 47 = .ok (.iconst 0, 1) := by decide +kernel
theorem dX10_same_48 : decode cX10_same 48 = .ok (.ireturn, 1) := by decide +kernel
theorem dX10_out_0 : decode cX10_out 0 = .ok (.iload_n 1, 1) := by decide +kernel
theorem dX10_out_1 : decode cX10_out 1 = .ok (.ifCond .lt 14, 3) := by decide +kernel
theorem dX10_out_4 : decode cX10_out 4 = .ok (.iload_n 1, 1) := by decide +kernel
theorem dX10_out_5 : decode cX10_out 5 = .ok (.aload_n 0, 1) := by decide +kernel
theorem dX10_out_6 : decode cX10_out 6 = .ok (.getfield 21, 3) := by decide +kernel
theorem dX10_out_9 : decode cX10_out 9 = .ok (.getfield 116, 3) := by decide +kernel
theorem dX10_out_12 : decode cX10_out 12 = .ok (.if_icmp .lt 8, 3) := by decide +kernel
theorem dX10_out_15 : decode cX10_out 15 = .ok (.bipush (-102), 2) := by decide +kernel
theorem dX10_out_17 : decode cX10_out 17 = .ok (.goto 12, 3) := by decide +kernel
theorem dX10_out_20 : decode cX10_out 20 = .ok (.aload_n 0, 1) := by decide +kernel
theorem dX10_out_21 : decode cX10_out 21 = .ok (.getfield 21, 3) := by decide +kernel
theorem dX10_out_24 : decode cX10_out 24 = .ok (.getfield 119, 3) := by decide +kernel
theorem dX10_out_27 : decode cX10_out 27 = .ok (.iload_n 1, 1) := by decide +kernel
theorem dX10_out_28 : decode cX10_out 28 = .ok (.iaload, 1) := by decide +kernel
theorem dX10_out_29 : decode cX10_out 29 = .ok (.ireturn, 1) := by decide +kernel
theorem dX10_count_0 : decode cX10_count 0 = .ok (.iload_n 1, 1) := by decide +kernel
theorem dX10_count_1 : decode cX10_count 1 = .ok (.tableswitch 48 0 2 #[27, 35, 43], 27) := by decide +kernel
theorem dX10_count_28 : decode cX10_count 28 = .ok (.aload_n 0, 1) := by decide +kernel
theorem dX10_count_29 : decode cX10_count 29 = .ok (.getfield 10, 3) := by decide +kernel
theorem dX10_count_32 : decode cX10_count 32 = .ok (.getfield 123, 3) := by decide +kernel
theorem dX10_count_35 : decode cX10_count 35 = .ok (.ireturn, 1) := by decide +kernel
theorem dX10_count_36 : decode cX10_count 36 = .ok (.aload_n 0, 1) := by decide +kernel
theorem dX10_count_37 : decode cX10_count 37 = .ok (.getfield 21, 3) := by decide +kernel
theorem dX10_count_40 : decode cX10_count 40 = .ok (.getfield 116, 3) := by decide +kernel
theorem dX10_count_43 : decode cX10_count 43 = .ok (.ireturn, 1) := by decide +kernel
theorem dX10_count_44 : decode cX10_count 44 = .ok (.aload_n 0, 1) := by decide +kernel
theorem dX10_count_45 : decode cX10_count 45 = .ok (.getfield 25, 3) := by decide +kernel
theorem dX10_count_48 : decode cX10_count 48 = .ok (.ireturn, 1) := by decide +kernel
theorem dX10_count_49 : decode cX10_count 49 = .ok (.bipush (-102), 2) := by decide +kernel
theorem dX10_count_51 : decode cX10_count 51 = .ok (.ireturn, 1) := by decide +kernel
theorem dX10_clear_0 : decode cX10_clear 0 = .ok (.aload_n 0, 1) := by decide +kernel
theorem dX10_clear_1 : decode cX10_clear 1 = .ok (.getfield 10, 3) := by decide +kernel
theorem dX10_clear_4 : decode cX10_clear 4 = .ok (.getfield 123, 3) := by decide +kernel
theorem dX10_clear_7 : decode cX10_clear 7 = .ok (.istore_n 1, 1) := by decide +kernel
theorem dX10_clear_8 : decode cX10_clear 8 = .ok (.aload_n 0, 1) := by decide +kernel
theorem dX10_clear_9 : decode cX10_clear 9 = .ok (.getfield 10, 3) := by decide +kernel
theorem dX10_clear_12 : decode cX10_clear 12 = .ok (.iconst 0, 1) := by decide +kernel
theorem dX10_clear_13 : decode cX10_clear 13 = .ok (.putfield 123, 3) := by decide +kernel
theorem dX10_clear_16 : decode cX10_clear 16 = .ok (.aload_n 0, 1) := by decide +kernel
theorem dX10_clear_17 : decode cX10_clear 17 = .ok (.getfield 21, 3) := by decide +kernel
theorem dX10_clear_20 : decode cX10_clear 20 = .ok (.iconst 0, 1) := by decide +kernel
theorem dX10_clear_21 : decode cX10_clear 21 = .ok (.invokevirtual 126, 3) := by decide +kernel
theorem dX10_clear_24 : decode cX10_clear 24 = .ok (.iload_n 1, 1) := by decide +kernel
theorem dX10_clear_25 : decode cX10_clear 25 = .ok (.ireturn, 1) := by decide +kernel
theorem dX11_init_0 : decode cX11_init 0 = .ok (.aload_n 0, 1) := by decide +kernel
theorem dX11_init_1 : decode cX11_init 1 = .ok (.invokespecial 1, 3) := by decide +kernel
theorem dX11_init_4 : decode cX11_init 4 = .ok (.aload_n 0, 1) := by decide +kernel
theorem dX11_init_5 : decode cX11_init 5 = .ok (.bipush 60, 2) := by decide +kernel
theorem dX11_init_7 : decode cX11_init 7 = .ok (.newarray .int, 2) := by decide +kernel
theorem dX11_init_9 : decode cX11_init 9 = .ok (.putfield 7, 3) := by decide +kernel
theorem dX11_init_12 : decode cX11_init 12 = .ok (.aload_n 0, 1) := by decide +kernel
theorem dX11_init_13 : decode cX11_init 13 = .ok (.bipush 60, 2) := by decide +kernel
theorem dX11_init_15 : decode cX11_init 15 = .ok (.newarray .int, 2) := by decide +kernel
theorem dX11_init_17 : decode cX11_init 17 = .ok (.putfield 13, 3) := by decide +kernel
theorem dX11_init_20 : decode cX11_init 20 = .ok (.aload_n 0, 1) := by decide +kernel
theorem dX11_init_21 : decode cX11_init 21 = .ok (.bipush 60, 2) := by decide +kernel
theorem dX11_init_23 : decode cX11_init 23 = .ok (.newarray .int, 2) := by decide +kernel
theorem dX11_init_25 : decode cX11_init 25 = .ok (.putfield 16, 3) := by decide +kernel
theorem dX11_init_28 : decode cX11_init 28 = .ok (.aload_n 0, 1) := by decide +kernel
theorem dX11_init_29 : decode cX11_init 29 = .ok (.bipush 60, 2) := by decide +kernel
theorem dX11_init_31 : decode cX11_init 31 = .ok (.newarray .int, 2) := by decide +kernel
theorem dX11_init_33 : decode cX11_init 33 = .ok (.putfield 19, 3) := by decide +kernel
theorem dX11_init_36 : decode cX11_init 36 = .ok (.aload_n 0, 1) := by decide +kernel
theorem dX11_init_37 : decode cX11_init 37 = .ok (.sipush 220, 3) := by decide +kernel
theorem dX11_init_40 : decode cX11_init 40 = .ok (.newarray .int, 2) := by decide +kernel
theorem dX11_init_42 : decode cX11_init 42 = .ok (.putfield 22, 3) := by decide +kernel
theorem dX11_init_45 : decode cX11_init 45 = .ok (.aload_n 0, 1) := by decide +kernel
theorem dX11_init_46 : decode cX11_init 46 = .ok (.sipush 3520, 3) := by decide +kernel
theorem dX11_init_49 : decode cX11_init 49 = .ok (.newarray .int, 2) := by decide +kernel
theorem dX11_init_51 : decode cX11_init 51 = .ok (.putfield 25, 3) := by decide +kernel
theorem dX11_init_54 : decode cX11_init 54 = .ok (.aload_n 0, 1) := by decide +kernel
theorem dX11_init_55 : decode cX11_init 55 = .ok (.sipush 3520, 3) := by decide +kernel
theorem dX11_init_58 : decode cX11_init 58 = .ok (.newarray .int, 2) := by decide +kernel
theorem dX11_init_60 : decode cX11_init 60 = .ok (.putfield 28, 3) := by decide +kernel
theorem dX11_init_63 : decode cX11_init 63 = .ok (.aload_n 0, 1) := by decide +kernel
theorem dX11_init_64 : decode cX11_init 64 = .ok (.sipush 220, 3) := by decide +kernel
theorem dX11_init_67 : decode cX11_init 67 = .ok (.newarray .int, 2) := by decide +kernel
theorem dX11_init_69 : decode cX11_init 69 = .ok (.putfield 31, 3) := by decide +kernel
theorem dX11_init_72 : decode cX11_init 72 = .ok (.aload_n 0, 1) := by decide +kernel
theorem dX11_init_73 : decode cX11_init 73 = .ok (.sipush 220, 3) := by decide +kernel
theorem dX11_init_76 : decode cX11_init 76 = .ok (.newarray .int, 2) := by decide +kernel
theorem dX11_init_78 : decode cX11_init 78 = .ok (.putfield 34, 3) := by decide +kernel
theorem dX11_init_81 : decode cX11_init 81 = .ok (.aload_n 0, 1) := by decide +kernel
theorem dX11_init_82 : decode cX11_init 82 = .ok (.sipush 220, 3) := by decide +kernel
theorem dX11_init_85 : decode cX11_init 85 = .ok (.newarray .int, 2) := by decide +kernel
theorem dX11_init_87 : decode cX11_init 87 = .ok (.putfield 37, 3) := by decide +kernel
theorem dX11_init_90 : decode cX11_init 90 = .ok (.aload_n 0, 1) := by decide +kernel
theorem dX11_init_91 : decode cX11_init 91 = .ok (.sipush 220, 3) := by decide +kernel
theorem dX11_init_94 : decode cX11_init 94 = .ok (.newarray .int, 2) := by decide +kernel
theorem dX11_init_96 : decode cX11_init 96 = .ok (.putfield 40, 3) := by decide +kernel
theorem dX11_init_99 : decode cX11_init 99 = .ok (.aload_n 0, 1) := by decide +kernel
theorem dX11_init_100 : decode cX11_init 100 = .ok (.sipush 220, 3) := by decide +kernel
theorem dX11_init_103 : decode cX11_init 103 = .ok (.newarray .int, 2) := by decide +kernel
theorem dX11_init_105 : decode cX11_init 105 = .ok (.putfield 43, 3) := by decide +kernel
theorem dX11_init_108 : decode cX11_init 108 = .ok (.aload_n 0, 1) := by decide +kernel
theorem dX11_init_109 : decode cX11_init 109 = .ok (.sipush 1760, 3) := by decide +kernel
theorem dX11_init_112 : decode cX11_init 112 = .ok (.newarray .int, 2) := by decide +kernel
theorem dX11_init_114 : decode cX11_init 114 = .ok (.putfield 46, 3) := by decide +kernel
theorem dX11_init_117 : decode cX11_init 117 = .ok (.aload_n 0, 1) := by decide +kernel
theorem dX11_init_118 : decode cX11_init 118 = .ok (.sipush 1760, 3) := by decide +kernel
theorem dX11_init_121 : decode cX11_init 121 = .ok (.newarray .int, 2) := by decide +kernel
theorem dX11_init_123 : decode cX11_init 123 = .ok (.putfield 49, 3) := by decide +kernel
theorem dX11_init_126 : decode cX11_init 126 = .ok (.aload_n 0, 1) := by decide +kernel
theorem dX11_init_127 : decode cX11_init 127 = .ok (.bipush 8, 2) := by decide +kernel
theorem dX11_init_129 : decode cX11_init 129 = .ok (.newarray .int, 2) := by decide +kernel
theorem dX11_init_131 : decode cX11_init 131 = .ok (.putfield 52, 3) := by decide +kernel
theorem dX11_init_134 : decode cX11_init 134 = .ok (.aload_n 0, 1) := by decide +kernel
theorem dX11_init_135 : decode cX11_init 135 = .ok (.bipush 8, 2) := by decide +kernel
theorem dX11_init_137 : decode cX11_init 137 = .ok (.newarray .int, 2) := by decide +kernel
theorem dX11_init_139 : decode cX11_init 139 = .ok (.putfield 55, 3) := by decide +kernel
theorem dX11_init_142 : decode cX11_init 142 = .ok (.aload_n 0, 1) := by decide +kernel
theorem dX11_init_143 : decode cX11_init 143 = .ok (.sipush 3600, 3) := by decide +kernel
theorem dX11_init_146 : decode cX11_init 146 = .ok (.newarray .int, 2) := by decide +kernel
theorem dX11_init_148 : decode cX11_init 148 = .ok (.putfield 58, 3) := by decide +kernel
theorem dX11_init_151 : decode cX11_init 151 = .ok (.aload_n 0, 1) := by decide +kernel
theorem dX11_init_152 : decode cX11_init 152 = .ok (.sipush 3600, 3) := by decide +kernel
theorem dX11_init_155 : decode cX11_init 155 = .ok (.newarray .int, 2) := by decide +kernel
theorem dX11_init_157 : decode cX11_init 157 = .ok (.putfield 61, 3) := by decide +kernel
theorem dX11_init_160 : decode cX11_init 160 = .ok (.aload_n 0, 1) := by decide +kernel
theorem dX11_init_161 : decode cX11_init 161 = .ok (.sipush 3600, 3) := by decide +kernel
theorem dX11_init_164 : decode cX11_init 164 = .ok (.newarray .int, 2) := by decide +kernel
theorem dX11_init_166 : decode cX11_init 166 = .ok (.putfield 64, 3) := by decide +kernel
theorem dX11_init_169 : decode cX11_init 169 = .ok (.aload_n 0, 1) := by decide +kernel
theorem dX11_init_170 : decode cX11_init 170 = .ok (.bipush 40, 2) := by decide +kernel
theorem dX11_init_172 : decode cX11_init 172 = .ok (.newarray .int, 2) := by decide +kernel
theorem dX11_init_174 : decode cX11_init 174 = .ok (.putfield 67, 3) := by decide +kernel
theorem dX11_init_177 : decode cX11_init 177 = .ok (.aload_n 0, 1) := by decide +kernel
theorem dX11_init_178 : decode cX11_init 178 = .ok (.sipush 220, 3) := by decide +kernel
theorem dX11_init_181 : decode cX11_init 181 = .ok (.newarray .int, 2) := by decide +kernel
theorem dX11_init_183 : decode cX11_init 183 = .ok (.putfield 70, 3) := by decide +kernel
theorem dX11_init_186 : decode cX11_init 186 = .ok (.aload_n 0, 1) := by decide +kernel
theorem dX11_init_187 : decode cX11_init 187 = .ok (.sipush 220, 3) := by decide +kernel
theorem dX11_init_190 : decode cX11_init 190 = .ok (.newarray .int, 2) := by decide +kernel
theorem dX11_init_192 : decode cX11_init 192 = .ok (.putfield 73, 3) := by decide +kernel
theorem dX11_init_195 : decode cX11_init 195 = .ok (.aload_n 0, 1) := by decide +kernel
theorem dX11_init_196 : decode cX11_init 196 = .ok (.sipush 220, 3) := by decide +kernel
theorem dX11_init_199 : decode cX11_init 199 = .ok (.newarray .int, 2) := by decide +kernel
theorem dX11_init_201 : decode cX11_init 201 = .ok (.putfield 76, 3) := by decide +kernel
theorem dX11_init_204 : decode cX11_init 204 = .ok (.aload_n 0, 1) := by decide +kernel
theorem dX11_init_205 : decode cX11_init 205 = .ok (.sipush 220, 3) := by decide +kernel
theorem dX11_init_208 : decode cX11_init 208 = .ok (.newarray .int, 2) := by decide +kernel
theorem dX11_init_210 : decode cX11_init 210 = .ok (.putfield 79, 3) := by decide +kernel
theorem dX11_init_213 : decode cX11_init 213 = .ok (.aload_n 0, 1) := by decide +kernel
theorem dX11_init_214 : decode cX11_init 214 = .ok (.sipush 220, 3) := by decide +kernel
theorem dX11_init_217 : decode cX11_init 217 = .ok (.newarray .int, 2) := by decide +kernel
theorem dX11_init_219 : decode cX11_init 219 = .ok (.putfield 82, 3) := by decide +kernel
theorem dX11_init_222 : decode cX11_init 222 = .ok (.aload_n 0, 1) := by decide +kernel
theorem dX11_init_223 : decode cX11_init 223 = .ok (.sipush 220, 3) := by decide +kernel
theorem dX11_init_226 : decode cX11_init 226 = .ok (.newarray .int, 2) := by decide +kernel
theorem dX11_init_228 : decode cX11_init 228 = .ok (.putfield 85, 3) := by decide +kernel
theorem dX11_init_231 : decode cX11_init 231 = .ok (.aload_n 0, 1) := by decide +kernel
theorem dX11_init_232 : decode cX11_init 232 = .ok (.sipush 220, 3) := by decide +kernel
theorem dX11_init_235 : decode cX11_init 235 = .ok (.newarray .int, 2) := by decide +kernel
theorem dX11_init_237 : decode cX11_init 237 = .ok (.putfield 88, 3) := by decide +kernel
theorem dX11_init_240 : decode cX11_init 240 = .ok (.aload_n 0, 1) := by decide +kernel
theorem dX11_init_241 : decode cX11_init 241 = .ok (.sipush 220, 3) := by decide +kernel
theorem dX11_init_244 : decode cX11_init 244 = .ok (.newarray .int, 2) := by decide +kernel
theorem dX11_init_246 : decode cX11_init 246 = .ok (.putfield 91, 3) := by decide +kernel
theorem dX11_init_249 : decode cX11_init 249 = .ok (.aload_n 0, 1) := by decide +kernel
theorem dX11_init_250 : decode cX11_init 250 = .ok (.sipush 220, 3) := by decide +kernel
theorem dX11_init_253 : decode cX11_init 253 = .ok (.newarray .int, 2) := by decide +kernel
theorem dX11_init_255 : decode cX11_init 255 = .ok (.putfield 94, 3) := by decide +kernel
theorem dX11_init_258 : decode cX11_init 258 = .ok (.aload_n 0, 1) := by decide +kernel
theorem dX11_init_259 : decode cX11_init 259 = .ok (.iconst (-1), 1) := by decide +kernel
theorem dX11_init_260 : decode cX11_init 260 = .ok (.putfield 97, 3) := by decide +kernel
theorem dX11_init_263 : decode cX11_init 263 = .ok (.iconst 0, 1) := by decide +kernel
theorem dX11_init_264 : decode cX11_init 264 = .ok (.istore_n 1, 1) := by decide +kernel
theorem dX11_init_265 : decode cX11_init 265 = .ok (.iload_n 1, 1) := by decide +kernel
theorem dX11_init_266 : decode cX11_init 266 = .ok (.bipush 8, 2) := by decide +kernel
theorem dX11_init_268 : decode cX11_init 268 = .ok (.if_icmp .ge 16, 3) := by decide +kernel
theorem dX11_init_271 : decode cX11_init 271 = .ok (.aload_n 0, 1) := by decide +kernel
theorem dX11_init_272 : decode cX11_init 272 = .ok (.getfield 52, 3) := by decide +kernel
theorem dX11_init_275 : decode cX11_init 275 = .ok (.iload_n 1, 1) := by decide +kernel
theorem dX11_init_276 : decode cX11_init 276 = .ok (.iconst 1, 1) := by decide +kernel
theorem dX11_init_277 : decode cX11_init 277 = .ok (.iastore, 1) := by decide +kernel
theorem dX11_init_278 : decode cX11_init 278 = .ok (.iinc 1 1, 3) := by decide +kernel
theorem dX11_init_281 : decode cX11_init 281 = .ok (.goto (-16), 3) := by decide +kernel
theorem dX11_init_284 : decode cX11_init 284 = .ok (.aload_n 0, 1) := by decide +kernel
theorem dX11_init_285 : decode cX11_init 285 = .ok (.iconst 1, 1) := by decide +kernel
theorem dX11_init_286 : decode cX11_init 286 = .ok (.putfield 101, 3) := by decide +kernel
theorem dX11_init_289 : decode cX11_init 289 = .ok (.return_, 1) := by decide +kernel
theorem dX11_in_0 : decode cX11_in 0 = .ok (.iload_n 0, 1) := by decide +kernel
theorem dX11_in_1 : decode cX11_in 1 = .ok (.iload_n 1, 1) := by decide +kernel
theorem dX11_in_2 : decode cX11_in 2 = .ok (.if_icmp .lt 12, 3) := by decide +kernel
theorem dX11_in_5 : decode cX11_in 5 = .ok (.iload_n 0, 1) := by decide +kernel
theorem dX11_in_6 : decode cX11_in 6 = .ok (.iload_n 2, 1) := by decide +kernel
theorem dX11_in_7 : decode cX11_in 7 = .ok (.if_icmp .gt 7, 3) := by decide +kernel
theorem dX11_in_10 : decode cX11_in 10 = .ok (.iconst 1, 1) := by decide +kernel
theorem dX11_in_11 : decode cX11_in 11 = .ok (.goto 4, 3) := by decide +kernel
theorem dX11_in_14 : decode cX11_in 14 = .ok (.iconst 0, 1) := by decide +kernel
theorem dX11_in_15 : decode cX11_in 15 = .ok (.ireturn, 1) := by decide +kernel
theorem dX11_noAct_0 : decode cX11_noAct 0 = .ok (.iload_n 1, 1) := by decide +kernel
theorem dX11_noAct_1 : decode cX11_noAct 1 = .ok (.iconst 0, 1) := by decide +kernel
theorem dX11_noAct_2 : decode cX11_noAct 2 = .ok (.aload_n 0, 1) := by decide +kernel
theorem dX11_noAct_3 : decode cX11_noAct 3 = .ok (.getfield 104, 3) := by decide +kernel
theorem dX11_noAct_6 : decode cX11_noAct 6 = .ok (.iconst 1, 1) := by decide +kernel
theorem dX11_noAct_7 : decode cX11_noAct 7 = .ok (.isub, 1) := by decide +kernel
theorem dX11_noAct_8 : decode cX11_noAct 8 = .ok (.invokestatic 107, 3) := by decide +kernel
theorem dX11_noAct_11 : decode cX11_noAct 11 = .ok (.ifCond .ne 7, 3) := by decide +kernel
theorem dX11_noAct_14 : decode cX11_noAct 14 = .ok (.iconst 1, 1) := by decide +kernel
theorem dX11_noAct_15 : decode cX11_noAct 15 = .ok (.goto 4, 3) := by decide +kernel
theorem dX11_noAct_18 : decode cX11_noAct 18 = .ok (.iconst 0, 1) := by decide +kernel
theorem dX11_noAct_19 : decode cX11_noAct 19 = .ok (.ireturn, 1) := by decide +kernel
theorem dX11_actsOf_0 : decode cX11_actsOf 0 = .ok (.iload_n 0, 1) := by decide +kernel
theorem dX11_actsOf_1 : decode cX11_actsOf 1 = .ok (.tableswitch 142 3 31 #[135, 131, 135, 135, 135, 135, 135, 133, 133, 133, 133, 133, 135, 137, 133, 135, 137, 133, 131, 135, 137, 135, 140, 133, 133, 133, 133, 142, 140], 131) := by decide +kernel
theorem dX11_actsOf_132 : decode cX11_actsOf 132 = .ok (.iconst 5, 1) := by decide +kernel
theorem dX11_actsOf_133 : decode cX11_actsOf 133 = .ok (.ireturn, 1) := by decide +kernel
theorem dX11_actsOf_134 : decode cX11_actsOf 134 = .ok (.iconst 1, 1) := by decide +kernel
theorem dX11_actsOf_135 : decode cX11_actsOf 135 = .ok (.ireturn, 1) := by decide +kernel
theorem dX11_actsOf_136 : decode cX11_actsOf 136 = .ok (.iconst 3, 1) := by decide +kernel
theorem dX11_actsOf_137 : decode cX11_actsOf 137 = .ok (.ireturn, 1) := by decide +kernel
theorem dX11_actsOf_138 : decode cX11_actsOf 138 = .ok (.bipush 7, 2) := by decide +kernel
theorem dX11_actsOf_140 : decode cX11_actsOf 140 = .ok (.ireturn, 1) := by decide +kernel
theorem dX11_actsOf_141 : decode cX11_actsOf 141 = .ok (.iconst 2, 1) := by decide +kernel
theorem dX11_actsOf_142 : decode cX11_actsOf 142 = .ok (.ireturn, 1) := by decide +kernel
theorem dX11_actsOf_143 : decode cX11_actsOf 143 = .ok (.iconst 0, 1) := by decide +kernel
theorem dX11_actsOf_144 : decode cX11_actsOf 144 = .ok (.ireturn, 1) := by decide +kernel
theorem dX11_act_0 : decode cX11_act 0 = .ok (.aload_n 0, 1) := by decide +kernel
theorem dX11_act_1 : decode cX11_act 1 = .ok (.iconst 0, 1) := by decide +kernel
theorem dX11_act_2 : decode cX11_act 2 = .ok (.putfield 111, 3) := by decide +kernel
theorem dX11_act_5 : decode cX11_act 5 = .ok (.iload_n 1, 1) := by decide +kernel
theorem dX11_act_6 : decode cX11_act 6 = .ok (.iconst 0, 1) := by decide +kernel
theorem dX11_act_7 : decode cX11_act 7 = .ok (.bipush 31, 2) := by decide +kernel
theorem dX11_act_9 : decode cX11_act 9 = .ok (.invokestatic 107, 3) := by decide +kernel
theorem dX11_act_12 : decode cX11_act 12 = .ok (.ifCond .ne 6, 3) := by decide +kernel
theorem dX11_act_15 : decode cX11_act 15 = .ok (.bipush (-102), 2) := by decide +kernel
theorem dX11_act_17 : decode cX11_act 17 = .ok (.ireturn, 1) := by decide +kernel
theorem dX11_act_18 : decode cX11_act 18 = .ok (.iload_n 1, 1) := by decide +kernel
theorem dX11_act_19 : decode cX11_act 19 = .ok (.invokestatic 114, 3) := by decide +kernel
theorem dX11_act_22 : decode cX11_act 22 = .ok (.istore 5, 2) := by decide +kernel
theorem dX11_act_24 : decode cX11_act 24 = .ok (.iload 5, 2) := by decide +kernel
theorem dX11_act_26 : decode cX11_act 26 = .ok (.iconst 2, 1) := by decide +kernel
theorem dX11_act_27 : decode cX11_act 27 = .ok (.irem, 1) := by decide +kernel
theorem dX11_act_28 : decode cX11_act 28 = .ok (.iconst 1, 1) := by decide +kernel
theorem dX11_act_29 : decode cX11_act 29 = .ok (.if_icmp .ne 11, 3) := by decide +kernel
theorem dX11_act_32 : decode cX11_act 32 = .ok (.aload_n 0, 1) := by decide +kernel
theorem dX11_act_33 : decode cX11_act 33 = .ok (.iload_n 2, 1) := by decide +kernel
theorem dX11_act_34 : decode cX11_act 34 = .ok (.invokevirtual 118, 3) := by decide +kernel
theorem dX11_act_37 : decode cX11_act 37 = .ok (.ifCond .ne 38, 3) := by decide +kernel
theorem dX11_act_40 : decode cX11_act 40 = .ok (.iload 5, 2) := by decide +kernel
theorem dX11_act_42 : decode cX11_act 42 = .ok (.iconst 2, 1) := by decide +kernel
theorem dX11_act_43 : decode cX11_act 43 = .ok (.idiv, 1) := by decide +kernel
theorem dX11_act_44 : decode cX11_act 44 = .ok (.iconst 2, 1) := by decide +kernel
theorem dX11_act_45 : decode cX11_act 45 = .ok (.irem, 1) := by decide +kernel
theorem dX11_act_46 : decode cX11_act 46 = .ok (.iconst 1, 1) := by decide +kernel
theorem dX11_act_47 : decode cX11_act 47 = .ok (.if_icmp .ne 11, 3) := by decide +kernel
theorem dX11_act_50 : decode cX11_act 50 = .ok (.aload_n 0, 1) := by decide +kernel
theorem dX11_act_51 : decode cX11_act 51 = .ok (.iload_n 3, 1) := by decide +kernel
theorem dX11_act_52 : decode cX11_act 52 = .ok (.invokevirtual 118, 3) := by decide +kernel
theorem dX11_act_55 : decode cX11_act 55 = .ok (.ifCond .ne 20, 3) := by decide +kernel
theorem dX11_act_58 : decode cX11_act 58 = .ok (.iload 5, 2) := by decide +kernel
theorem dX11_act_60 : decode cX11_act 60 = .ok (.iconst 4, 1) := by decide +kernel
theorem dX11_act_61 : decode cX11_act 61 = .ok (.idiv, 1) := by decide +kernel
theorem dX11_act_62 : decode cX11_act 62 = .ok (.iconst 1, 1) := by decide +kernel
theorem dX11_act_63 : decode cX11_act 63 = .ok (.if_icmp .ne 15, 3) := by decide +kernel
theorem dX11_act_66 : decode cX11_act 66 = .ok (.aload_n 0, 1) := by decide +kernel
theorem dX11_act_67 : decode cX11_act 67 = .ok (.iload 4, 2) := by decide +kernel
theorem dX11_act_69 : decode cX11_act 69 = .ok (.invokevirtual 118, 3) := by decide +kernel
theorem dX11_act_72 : decode cX11_act 72 = .ok (.ifCond .eq 6, 3) := by decide +kernel
theorem dX11_act_75 : decode cX11_act 75 = .ok (.bipush (-101), 2) := by decide +kernel
theorem dX11_act_77 : decode cX11_act 77 = .ok (.ireturn, 1) := by decide +kernel
theorem dX11_act_78 : decode cX11_act 78 = .ok (.iload_n 1, 1) := by decide +kernel
theorem dX11_act_79 : decode cX11_act 79 = .ok (.iconst 1, 1) := by decide +kernel
theorem dX11_act_80 : decode cX11_act 80 = .ok (.if_icmp .ne 13, 3) := by decide +kernel
theorem dX11_act_83 : decode cX11_act 83 = .ok (.iload_n 2, 1) := by decide +kernel
theorem dX11_act_84 : decode cX11_act 84 = .ok (.iconst 0, 1) := by decide +kernel
theorem dX11_act_85 : decode cX11_act 85 = .ok (.bipush 7, 2) := by decide +kernel
theorem dX11_act_87 : decode cX11_act 87 = .ok (.invokestatic 107, 3) := by decide +kernel
theorem dX11_act_90 : decode cX11_act 90 = .ok (.ifCond .eq 76, 3) := by decide +kernel
theorem dX11_act_93 : decode cX11_act 93 = .ok (.iload_n 1, 1) := by decide +kernel
theorem dX11_act_94 : decode cX11_act 94 = .ok (.iconst 4, 1) := by decide +kernel
theorem dX11_act_95 : decode cX11_act 95 = .ok (.if_icmp .ne 13, 3) := by decide +kernel
theorem dX11_act_98 : decode cX11_act 98 = .ok (.iload_n 3, 1) := by decide +kernel
theorem dX11_act_99 : decode cX11_act 99 = .ok (.iconst 0, 1) := by decide +kernel
theorem dX11_act_100 : decode cX11_act 100 = .ok (.bipush 7, 2) := by decide +kernel
theorem dX11_act_102 : decode cX11_act 102 = .ok (.invokestatic 107, 3) := by decide +kernel
theorem dX11_act_105 : decode cX11_act 105 = .ok (.ifCond .eq 61, 3) := by decide +kernel
theorem dX11_act_108 : decode cX11_act 108 = .ok (.iload_n 1, 1) := by decide +kernel
theorem dX11_act_109 : decode cX11_act 109 = .ok (.bipush 30, 2) := by decide +kernel
theorem dX11_act_111 : decode cX11_act 111 = .ok (.if_icmp .eq 9, 3) := by decide +kernel
theorem dX11_act_114 : decode cX11_act 114 = .ok (.iload_n 1, 1) := by decide +kernel
theorem dX11_act_115 : decode cX11_act 115 = .ok (.bipush 31, 2) := by decide +kernel
theorem dX11_act_117 : decode cX11_act 117 = .ok (.if_icmp .ne 13, 3) := by decide +kernel
theorem dX11_act_120 : decode cX11_act 120 = .ok (.iload_n 2, 1) := by decide +kernel
theorem dX11_act_121 : decode cX11_act 121 = .ok (.iconst 0, 1) := by decide +kernel
theorem dX11_act_122 : decode cX11_act 122 = .ok (.bipush 7, 2) := by decide +kernel
theorem dX11_act_124 : decode cX11_act 124 = .ok (.invokestatic 107, 3) := by decide +kernel
theorem dX11_act_127 : decode cX11_act 127 = .ok (.ifCond .eq 39, 3) := by decide +kernel
theorem dX11_act_130 : decode cX11_act 130 = .ok (.iload_n 1, 1) := by decide +kernel
theorem dX11_act_131 : decode cX11_act 131 = .ok (.bipush 21, 2) := by decide +kernel
theorem dX11_act_133 : decode cX11_act 133 = .ok (.if_icmp .ne 13, 3) := by decide +kernel
theorem dX11_act_136 : decode cX11_act 136 = .ok (.iload_n 3, 1) := by decide +kernel
theorem dX11_act_137 : decode cX11_act 137 = .ok (.iconst 0, 1) := by decide +kernel
theorem dX11_act_138 : decode cX11_act 138 = .ok (.bipush 8, 2) := by decide +kernel
theorem dX11_act_140 : decode cX11_act 140 = .ok (.invokestatic 107, 3) := by decide +kernel
theorem dX11_act_143 : decode cX11_act 143 = .ok (.ifCond .eq 23, 3) := by decide +kernel
theorem dX11_act_146 : decode cX11_act 146 = .ok (.iload_n 1, 1) := by decide +kernel
theorem dX11_act_147 : decode cX11_act 147 = .ok (.bipush 25, 2) := by decide +kernel
theorem dX11_act_149 : decode cX11_act 149 = .ok (.if_icmp .ne 13, 3) := by decide +kernel
theorem dX11_act_152 : decode cX11_act 152 = .ok (.iload_n 2, 1) := by decide +kernel
theorem dX11_act_153 : decode cX11_act 153 = .ok (.iconst 0, 1) := by decide +kernel
theorem dX11_act_154 : decode cX11_act 154 = .ok (.bipush 59, 2) := by decide +kernel
theorem dX11_act_156 : decode cX11_act 156 = .ok (.invokestatic 107, 3) := by decide +kernel
theorem dX11_act_159 : decode cX11_act 159 = .ok (.ifCond .eq 7, 3) := by decide +kernel
theorem dX11_act_162 : decode cX11_act 162 = .ok (.iconst 1, 1) := by decide +kernel
theorem dX11_act_163 : decode cX11_act 163 = .ok (.goto 4, 3) := by decide +kernel
theorem dX11_act_166 : decode cX11_act 166 = .ok (.iconst 0, 1) := by decide +kernel
theorem dX11_act_167 : decode cX11_act 167 = .ok (.istore 6, 2) := by decide +kernel
theorem dX11_act_169 : decode cX11_act 169 = .ok (.iload 6, 2) := by decide +kernel
theorem dX11_act_171 : decode cX11_act 171 = .ok (.ifCond .ne 6, 3) := by decide +kernel
theorem dX11_act_174 : decode cX11_act 174 = .ok (.bipush (-102), 2) := by decide +kernel
theorem dX11_act_176 : decode cX11_act 176 = .ok (.ireturn, 1) := by decide +kernel
theorem dX11_act_177 : decode cX11_act 177 = .ok (.aload_n 0, 1) := by decide +kernel
theorem dX11_act_178 : decode cX11_act 178 = .ok (.getfield 104, 3) := by decide +kernel
theorem dX11_act_181 : decode cX11_act 181 = .ok (.bipush 60, 2) := by decide +kernel
theorem dX11_act_183 : decode cX11_act 183 = .ok (.if_icmp .ne 6, 3) := by decide +kernel
theorem dX11_act_186 : decode cX11_act 186 = .ok (.bipush (-104), 2) := by decide +kernel
theorem dX11_act_188 : decode cX11_act 188 = .ok (.ireturn, 1) := by decide +kernel
theorem dX11_act_189 : decode cX11_act 189 = .ok (.aload_n 0, 1) := by decide +kernel
theorem dX11_act_190 : decode cX11_act 190 = .ok (.getfield 7, 3) := by decide +kernel
theorem dX11_act_193 : decode cX11_act 193 = .ok (.aload_n 0, 1) := by decide +kernel
theorem dX11_act_194 : decode cX11_act 194 = .ok (.getfield 104, 3) := by decide +kernel
theorem dX11_act_197 : decode cX11_act 197 = .ok (.iload_n 1, 1) := by decide +kernel
theorem dX11_act_198 : decode cX11_act 198 = .ok (.iastore, 1) := by decide +kernel
theorem dX11_act_199 : decode cX11_act 199 = .ok (.aload_n 0, 1) := by decide +kernel
theorem dX11_act_200 : decode cX11_act 200 = .ok (.getfield 13, 3) := by decide +kernel
theorem dX11_act_203 : decode cX11_act 203 = .ok (.aload_n 0, 1) := by decide +kernel
theorem dX11_act_204 : decode cX11_act 204 = .ok (.getfield 104, 3) := by decide +kernel
theorem dX11_act_207 : decode cX11_act 207 = .ok (.iload_n 2, 1) := by decide +kernel
theorem dX11_act_208 : decode cX11_act 208 = .ok (.iastore, 1) := by decide +kernel
theorem dX11_act_209 : decode cX11_act 209 = .ok (.aload_n 0, 1) := by decide +kernel
theorem dX11_act_210 : decode cX11_act 210 = .ok (.getfield 16, 3) := by decide +kernel
theorem dX11_act_213 : decode cX11_act 213 = .ok (.aload_n 0, 1) := by decide +kernel
theorem dX11_act_214 : decode cX11_act 214 = .ok (.getfield 104, 3) := by decide +kernel
theorem dX11_act_217 : decode cX11_act 217 = .ok (.iload_n 3, 1) := by decide +kernel
theorem dX11_act_218 : decode cX11_act 218 = .ok (.iastore, 1) := by decide +kernel
theorem dX11_act_219 : decode cX11_act 219 = .ok (.aload_n 0, 1) := by decide +kernel
theorem dX11_act_220 : decode cX11_act 220 = .ok (.getfield 19, 3) := by decide +kernel
theorem dX11_act_223 : decode cX11_act 223 = .ok (.aload_n 0, 1) := by decide +kernel
theorem dX11_act_224 : decode cX11_act 224 = .ok (.getfield 104, 3) := by decide +kernel
theorem dX11_act_227 : decode cX11_act 227 = .ok (.iload 4, 2) := by decide +kernel
theorem dX11_act_229 : decode cX11_act 229 = .ok (.iastore, 1) := by decide +kernel
theorem dX11_act_230 : decode cX11_act 230 = .ok (.aload_n 0, 1) := by decide +kernel
theorem dX11_act_231 : decode cX11_act 231 = .ok (.dup, 1) := by decide +kernel
theorem dX11_act_232 : decode cX11_act 232 = .ok (.getfield 104, 3) := by decide +kernel
theorem dX11_act_235 : decode cX11_act 235 = .ok (.iconst 1, 1) := by decide +kernel
theorem dX11_act_236 : decode cX11_act 236 = .ok (.iadd, 1) := by decide +kernel
theorem dX11_act_237 : decode cX11_act 237 = .ok (.putfield 104, 3) := by decide +kernel
theorem dX11_act_240 : decode cX11_act 240 = .ok (.aload_n 0, 1) := by decide +kernel
theorem dX11_act_241 : decode cX11_act 241 = .ok (.getfield 104, 3) := by decide +kernel
theorem dX11_act_244 : decode cX11_act 244 = .ok (.iconst 1, 1) := by decide +kernel
theorem dX11_act_245 : decode cX11_act 245 = .ok (.isub, 1) := by decide +kernel
theorem dX11_act_246 : decode cX11_act 246 = .ok (.ireturn, 1) := by decide +kernel
theorem dX11_told_0 : decode cX11_told 0 = .ok (.aload_n 0, 1) := by decide +kernel
theorem dX11_told_1 : decode cX11_told 1 = .ok (.iconst 0, 1) := by decide +kernel
theorem dX11_told_2 : decode cX11_told 2 = .ok (.putfield 111, 3) := by decide +kernel
theorem dX11_told_5 : decode cX11_told 5 = .ok (.aload_n 0, 1) := by decide +kernel
theorem dX11_told_6 : decode cX11_told 6 = .ok (.iload_n 1, 1) := by decide +kernel
theorem dX11_told_7 : decode cX11_told 7 = .ok (.invokevirtual 118, 3) := by decide +kernel
theorem dX11_told_10 : decode cX11_told 10 = .ok (.ifCond .eq 6, 3) := by decide +kernel
theorem dX11_told_13 : decode cX11_told 13 = .ok (.bipush (-101), 2) := by decide +kernel
theorem dX11_told_15 : decode cX11_told 15 = .ok (.ireturn, 1) := by decide +kernel
theorem dX11_told_16 : decode cX11_told 16 = .ok (.iload_n 2, 1) := by decide +kernel
theorem dX11_told_17 : decode cX11_told 17 = .ok (.tableswitch 59 0 3 #[31, 38, 45, 52], 31) := by decide +kernel
theorem dX11_told_48 : decode cX11_told 48 = .ok (.aload_n 0, 1) := by decide +kernel
theorem dX11_told_49 : decode cX11_told 49 = .ok (.getfield 7, 3) := by decide +kernel
theorem dX11_told_52 : decode cX11_told 52 = .ok (.iload_n 1, 1) := by decide +kernel
theorem dX11_told_53 : decode cX11_told 53 = .ok (.iaload, 1) := by decide +kernel
theorem dX11_told_54 : decode cX11_told 54 = .ok (.ireturn, 1) := by decide +kernel
theorem dX11_told_55 : decode cX11_told 55 = .ok (.aload_n 0, 1) := by decide +kernel
theorem dX11_told_56 : decode cX11_told 56 = .ok (.getfield 13, 3) := by decide +kernel
theorem dX11_told_59 : decode cX11_told 59 = .ok (.iload_n 1, 1) := by decide +kernel
theorem dX11_told_60 : decode cX11_told 60 = .ok (.iaload, 1) := by decide +kernel
theorem dX11_told_61 : decode cX11_told 61 = .ok (.ireturn, 1) := by decide +kernel
theorem dX11_told_62 : decode cX11_told 62 = .ok (.aload_n 0, 1) := by decide +kernel
theorem dX11_told_63 : decode cX11_told 63 = .ok (.getfield 16, 3) := by decide +kernel
theorem dX11_told_66 : decode cX11_told 66 = .ok (.iload_n 1, 1) := by decide +kernel
theorem dX11_told_67 : decode cX11_told 67 = .ok (.iaload, 1) := by decide +kernel
theorem dX11_told_68 : decode cX11_told 68 = .ok (.ireturn, 1) := by decide +kernel
theorem dX11_told_69 : decode cX11_told 69 = .ok (.aload_n 0, 1) := by decide +kernel
theorem dX11_told_70 : decode cX11_told 70 = .ok (.getfield 19, 3) := by decide +kernel
theorem dX11_told_73 : decode cX11_told 73 = .ok (.iload_n 1, 1) := by decide +kernel
theorem dX11_told_74 : decode cX11_told 74 = .ok (.iaload, 1) := by decide +kernel
theorem dX11_told_75 : decode cX11_told 75 = .ok (.ireturn, 1) := by decide +kernel
theorem dX11_told_76 : decode cX11_told 76 = .ok (.bipush (-102), 2) := by decide +kernel
theorem dX11_told_78 : decode cX11_told 78 = .ok (.ireturn, 1) := by decide +kernel
theorem dX11_value_0 : decode cX11_value 0 = .ok (.aload_n 0, 1) := by decide +kernel
theorem dX11_value_1 : decode cX11_value 1 = .ok (.iconst 1, 1) := by decide +kernel
theorem dX11_value_2 : decode cX11_value 2 = .ok (.putfield 122, 3) := by decide +kernel
theorem dX11_value_5 : decode cX11_value 5 = .ok (.aload_n 0, 1) := by decide +kernel
theorem dX11_value_6 : decode cX11_value 6 = .ok (.iload_n 1, 1) := by decide +kernel
theorem dX11_value_7 : decode cX11_value 7 = .ok (.putfield 125, 3) := by decide +kernel
theorem dX11_value_10 : decode cX11_value 10 = .ok (.aload_n 0, 1) := by decide +kernel
theorem dX11_value_11 : decode cX11_value 11 = .ok (.iload_n 2, 1) := by decide +kernel
theorem dX11_value_12 : decode cX11_value 12 = .ok (.putfield 128, 3) := by decide +kernel
theorem dX11_value_15 : decode cX11_value 15 = .ok (.return_, 1) := by decide +kernel
theorem dX11_start_0 : decode cX11_start 0 = .ok (.aload_n 0, 1) := by decide +kernel
theorem dX11_start_1 : decode cX11_start 1 = .ok (.iconst 0, 1) := by decide +kernel
theorem dX11_start_2 : decode cX11_start 2 = .ok (.putfield 122, 3) := by decide +kernel
theorem dX11_start_5 : decode cX11_start 5 = .ok (.aload_n 0, 1) := by decide +kernel
theorem dX11_start_6 : decode cX11_start 6 = .ok (.iload_n 1, 1) := by decide +kernel
theorem dX11_start_7 : decode cX11_start 7 = .ok (.putfield 131, 3) := by decide +kernel
theorem dX11_start_10 : decode cX11_start 10 = .ok (.aload_n 0, 1) := by decide +kernel
theorem dX11_start_11 : decode cX11_start 11 = .ok (.iload_n 2, 1) := by decide +kernel
theorem dX11_start_12 : decode cX11_start 12 = .ok (.putfield 134, 3) := by decide +kernel
theorem dX11_start_15 : decode cX11_start 15 = .ok (.return_, 1) := by decide +kernel
theorem dX11_finish_0 : decode cX11_finish 0 = .ok (.aload_n 0, 1) := by decide +kernel
theorem dX11_finish_1 : decode cX11_finish 1 = .ok (.iconst 3, 1) := by decide +kernel
theorem dX11_finish_2 : decode cX11_finish 2 = .ok (.putfield 122, 3) := by decide +kernel
theorem dX11_finish_5 : decode cX11_finish 5 = .ok (.aload_n 0, 1) := by decide +kernel
theorem dX11_finish_6 : decode cX11_finish 6 = .ok (.iload_n 1, 1) := by decide +kernel
theorem dX11_finish_7 : decode cX11_finish 7 = .ok (.putfield 137, 3) := by decide +kernel
theorem dX11_finish_10 : decode cX11_finish 10 = .ok (.aload_n 0, 1) := by decide +kernel
theorem dX11_finish_11 : decode cX11_finish 11 = .ok (.iconst 0, 1) := by decide +kernel
theorem dX11_finish_12 : decode cX11_finish 12 = .ok (.putfield 140, 3) := by decide +kernel
theorem dX11_finish_15 : decode cX11_finish 15 = .ok (.aload_n 0, 1) := by decide +kernel
theorem dX11_finish_16 : decode cX11_finish 16 = .ok (.iload_n 2, 1) := by decide +kernel
theorem dX11_finish_17 : decode cX11_finish 17 = .ok (.putfield 143, 3) := by decide +kernel
theorem dX11_finish_20 : decode cX11_finish 20 = .ok (.return_, 1) := by decide +kernel
theorem dX11_fail_0 : decode cX11_fail 0 = .ok (.aload_n 0, 1) := by decide +kernel
theorem dX11_fail_1 : decode cX11_fail 1 = .ok (.dup, 1) := by decide +kernel
theorem dX11_fail_2 : decode cX11_fail 2 = .ok (.getfield 146, 3) := by decide +kernel
theorem dX11_fail_5 : decode cX11_fail 5 = .ok (.iconst 1, 1) := by decide +kernel
theorem dX11_fail_6 : decode cX11_fail 6 = .ok (.iadd, 1) := by decide +kernel
theorem dX11_fail_7 : decode cX11_fail 7 = .ok (.putfield 146, 3) := by decide +kernel
theorem dX11_fail_10 : decode cX11_fail 10 = .ok (.aload_n 0, 1) := by decide +kernel
theorem dX11_fail_11 : decode cX11_fail 11 = .ok (.getfield 146, 3) := by decide +kernel
theorem dX11_fail_14 : decode cX11_fail 14 = .ok (.bipush 20, 2) := by decide +kernel
theorem dX11_fail_16 : decode cX11_fail 16 = .ok (.if_icmp .le 13, 3) := by decide +kernel
theorem dX11_fail_19 : decode cX11_fail 19 = .ok (.aload_n 0, 1) := by decide +kernel
theorem dX11_fail_20 : decode cX11_fail 20 = .ok (.bipush 10, 2) := by decide +kernel
theorem dX11_fail_22 : decode cX11_fail 22 = .ok (.iload_n 3, 1) := by decide +kernel
theorem dX11_fail_23 : decode cX11_fail 23 = .ok (.invokevirtual 149, 3) := by decide +kernel
theorem dX11_fail_26 : decode cX11_fail 26 = .ok (.goto 23, 3) := by decide +kernel
theorem dX11_fail_29 : decode cX11_fail 29 = .ok (.aload_n 0, 1) := by decide +kernel
theorem dX11_fail_30 : decode cX11_fail 30 = .ok (.iconst 2, 1) := by decide +kernel
theorem dX11_fail_31 : decode cX11_fail 31 = .ok (.putfield 122, 3) := by decide +kernel
theorem dX11_fail_34 : decode cX11_fail 34 = .ok (.aload_n 0, 1) := by decide +kernel
theorem dX11_fail_35 : decode cX11_fail 35 = .ok (.iload_n 1, 1) := by decide +kernel
theorem dX11_fail_36 : decode cX11_fail 36 = .ok (.putfield 137, 3) := by decide +kernel
theorem dX11_fail_39 : decode cX11_fail 39 = .ok (.aload_n 0, 1) := by decide +kernel
theorem dX11_fail_40 : decode cX11_fail 40 = .ok (.iload_n 2, 1) := by decide +kernel
theorem dX11_fail_41 : decode cX11_fail 41 = .ok (.putfield 140, 3) := by decide +kernel
theorem dX11_fail_44 : decode cX11_fail 44 = .ok (.aload_n 0, 1) := by decide +kernel
theorem dX11_fail_45 : decode cX11_fail 45 = .ok (.iload_n 3, 1) := by decide +kernel
theorem dX11_fail_46 : decode cX11_fail 46 = .ok (.putfield 143, 3) := by decide +kernel
theorem dX11_fail_49 : decode cX11_fail 49 = .ok (.return_, 1) := by decide +kernel
theorem dX11_newThing_0 : decode cX11_newThing 0 = .ok (.aload_n 0, 1) := by decide +kernel
theorem dX11_newThing_1 : decode cX11_newThing 1 = .ok (.getfield 153, 3) := by decide +kernel
theorem dX11_newThing_4 : decode cX11_newThing 4 = .ok (.istore_n 2, 1) := by decide +kernel
theorem dX11_newThing_5 : decode cX11_newThing 5 = .ok (.aload_n 0, 1) := by decide +kernel
theorem dX11_newThing_6 : decode cX11_newThing 6 = .ok (.dup, 1) := by decide +kernel
theorem dX11_newThing_7 : decode cX11_newThing 7 = .ok (.getfield 153, 3) := by decide +kernel
theorem dX11_newThing_10 : decode cX11_newThing 10 = .ok (.iconst 1, 1) := by decide +kernel
theorem dX11_newThing_11 : decode cX11_newThing 11 = .ok (.iadd, 1) := by decide +kernel
theorem dX11_newThing_12 : decode cX11_newThing 12 = .ok (.putfield 153, 3) := by decide +kernel
theorem dX11_newThing_15 : decode cX11_newThing 15 = .ok (.aload_n 0, 1) := by decide +kernel
theorem dX11_newThing_16 : decode cX11_newThing 16 = .ok (.getfield 22, 3) := by decide +kernel
theorem dX11_newThing_19 : decode cX11_newThing 19 = .ok (.iload_n 2, 1) := by decide +kernel
theorem dX11_newThing_20 : decode cX11_newThing 20 = .ok (.iload_n 1, 1) := by decide +kernel
theorem dX11_newThing_21 : decode cX11_newThing 21 = .ok (.iastore, 1) := by decide +kernel
theorem dX11_newThing_22 : decode cX11_newThing 22 = .ok (.iconst 0, 1) := by decide +kernel
theorem dX11_newThing_23 : decode cX11_newThing 23 = .ok (.istore_n 3, 1) := by decide +kernel
theorem dX11_newThing_24 : decode cX11_newThing 24 = .ok (.iload_n 3, 1) := by decide +kernel
theorem dX11_newThing_25 : decode cX11_newThing 25 = .ok (.bipush 16, 2) := by decide +kernel
theorem dX11_newThing_27 : decode cX11_newThing 27 = .ok (.if_icmp .ge 33, 3) := by decide +kernel
theorem dX11_newThing_30 : decode cX11_newThing 30 = .ok (.aload_n 0, 1) := by decide +kernel
theorem dX11_newThing_31 : decode cX11_newThing 31 = .ok (.getfield 25, 3) := by decide +kernel
theorem dX11_newThing_34 : decode cX11_newThing 34 = .ok (.bipush 16, 2) := by decide +kernel
theorem dX11_newThing_36 : decode cX11_newThing 36 = .ok (.iload_n 2, 1) := by decide +kernel
theorem dX11_newThing_37 : decode cX11_newThing 37 = .ok (.imul, 1) := by decide +kernel
theorem dX11_newThing_38 : decode cX11_newThing 38 = .ok (.iload_n 3, 1) := by decide +kernel
theorem dX11_newThing_39 : decode cX11_newThing 39 = .ok (.iadd, 1) := by decide +kernel
theorem dX11_newThing_40 : decode cX11_newThing 40 = .ok (.iconst 1, 1) := by decide +kernel
theorem dX11_newThing_41 : decode cX11_newThing 41 = .ok (.iastore, 1) := by decide +kernel
theorem dX11_newThing_42 : decode cX11_newThing 42 = .ok (.aload_n 0, 1) := by decide +kernel
theorem dX11_newThing_43 : decode cX11_newThing 43 = .ok (.getfield 28, 3) := by decide +kernel
theorem dX11_newThing_46 : decode cX11_newThing 46 = .ok (.bipush 16, 2) := by decide +kernel
theorem dX11_newThing_48 : decode cX11_newThing 48 = .ok (.iload_n 2, 1) := by decide +kernel
theorem dX11_newThing_49 : decode cX11_newThing 49 = .ok (.imul, 1) := by decide +kernel
theorem dX11_newThing_50 : decode cX11_newThing 50 = .ok (.iload_n 3, 1) := by decide +kernel
theorem dX11_newThing_51 : decode cX11_newThing 51 = .ok (.iadd, 1) := by decide +kernel
theorem dX11_newThing_52 : decode cX11_newThing 52 = .ok (.iconst 0, 1) := by decide +kernel
theorem dX11_newThing_53 : decode cX11_newThing 53 = .ok (.iastore, 1) := by decide +kernel
theorem dX11_newThing_54 : decode cX11_newThing 54 = .ok (.iinc 3 1, 3) := by decide +kernel
theorem dX11_newThing_57 : decode cX11_newThing 57 = .ok (.goto (-33), 3) := by decide +kernel
theorem dX11_newThing_60 : decode cX11_newThing 60 = .ok (.iload_n 2, 1) := by decide +kernel
theorem dX11_newThing_61 : decode cX11_newThing 61 = .ok (.ireturn, 1) := by decide +kernel
theorem dX11_newFrame_0 : decode cX11_newFrame 0 = .ok (.aload_n 0, 1) := by decide +kernel
theorem dX11_newFrame_1 : decode cX11_newFrame 1 = .ok (.getfield 156, 3) := by decide +kernel
theorem dX11_newFrame_4 : decode cX11_newFrame 4 = .ok (.istore_n 1, 1) := by decide +kernel
theorem dX11_newFrame_5 : decode cX11_newFrame 5 = .ok (.aload_n 0, 1) := by decide +kernel
theorem dX11_newFrame_6 : decode cX11_newFrame 6 = .ok (.dup, 1) := by decide +kernel
theorem dX11_newFrame_7 : decode cX11_newFrame 7 = .ok (.getfield 156, 3) := by decide +kernel
theorem dX11_newFrame_10 : decode cX11_newFrame 10 = .ok (.iconst 1, 1) := by decide +kernel
theorem dX11_newFrame_11 : decode cX11_newFrame 11 = .ok (.iadd, 1) := by decide +kernel
theorem dX11_newFrame_12 : decode cX11_newFrame 12 = .ok (.putfield 156, 3) := by decide +kernel
theorem dX11_newFrame_15 : decode cX11_newFrame 15 = .ok (.iconst 0, 1) := by decide +kernel
theorem dX11_newFrame_16 : decode cX11_newFrame 16 = .ok (.istore_n 2, 1) := by decide +kernel
theorem dX11_newFrame_17 : decode cX11_newFrame 17 = .ok (.iload_n 2, 1) := by decide +kernel
theorem dX11_newFrame_18 : decode cX11_newFrame 18 = .ok (.bipush 8, 2) := by decide +kernel
theorem dX11_newFrame_20 : decode cX11_newFrame 20 = .ok (.if_icmp .ge 33, 3) := by decide +kernel
theorem dX11_newFrame_23 : decode cX11_newFrame 23 = .ok (.aload_n 0, 1) := by decide +kernel
theorem dX11_newFrame_24 : decode cX11_newFrame 24 = .ok (.getfield 46, 3) := by decide +kernel
theorem dX11_newFrame_27 : decode cX11_newFrame 27 = .ok (.bipush 8, 2) := by decide +kernel
theorem dX11_newFrame_29 : decode cX11_newFrame 29 = .ok (.iload_n 1, 1) := by decide +kernel
theorem dX11_newFrame_30 : decode cX11_newFrame 30 = .ok (.imul, 1) := by decide +kernel
theorem dX11_newFrame_31 : decode cX11_newFrame 31 = .ok (.iload_n 2, 1) := by decide +kernel
theorem dX11_newFrame_32 : decode cX11_newFrame 32 = .ok (.iadd, 1) := by decide +kernel
theorem dX11_newFrame_33 : decode cX11_newFrame 33 = .ok (.iconst 1, 1) := by decide +kernel
theorem dX11_newFrame_34 : decode cX11_newFrame 34 = .ok (.iastore, 1) := by decide +kernel
theorem dX11_newFrame_35 : decode cX11_newFrame 35 = .ok (.aload_n 0, 1) := by decide +kernel
theorem dX11_newFrame_36 : decode cX11_newFrame 36 = .ok (.getfield 49, 3) := by decide +kernel
theorem dX11_newFrame_39 : decode cX11_newFrame 39 = .ok (.bipush 8, 2) := by decide +kernel
theorem dX11_newFrame_41 : decode cX11_newFrame 41 = .ok (.iload_n 1, 1) := by decide +kernel
theorem dX11_newFrame_42 : decode cX11_newFrame 42 = .ok (.imul, 1) := by decide +kernel
theorem dX11_newFrame_43 : decode cX11_newFrame 43 = .ok (.iload_n 2, 1) := by decide +kernel
theorem dX11_newFrame_44 : decode cX11_newFrame 44 = .ok (.iadd, 1) := by decide +kernel
theorem dX11_newFrame_45 : decode cX11_newFrame 45 = .ok (.iconst 0, 1) := by decide +kernel
theorem dX11_newFrame_46 : decode cX11_newFrame 46 = .ok (.iastore, 1) := by decide +kernel
theorem dX11_newFrame_47 : decode cX11_newFrame 47 = .ok (.iinc 2 1, 3) := by decide +kernel
theorem dX11_newFrame_50 : decode cX11_newFrame 50 = .ok (.goto (-33), 3) := by decide +kernel
theorem dX11_newFrame_53 : decode cX11_newFrame 53 = .ok (.iload_n 1, 1) := by decide +kernel
theorem dX11_newFrame_54 : decode cX11_newFrame 54 = .ok (.ireturn, 1) := by decide +kernel
theorem dX11_write_0 : decode cX11_write 0 = .ok (.aload_n 0, 1) := by decide +kernel
theorem dX11_write_1 : decode cX11_write 1 = .ok (.getfield 58, 3) := by decide +kernel
theorem dX11_write_4 : decode cX11_write 4 = .ok (.aload_n 0, 1) := by decide +kernel
theorem dX11_write_5 : decode cX11_write 5 = .ok (.getfield 159, 3) := by decide +kernel
theorem dX11_write_8 : decode cX11_write 8 = .ok (.iload_n 1, 1) := by decide +kernel
theorem dX11_write_9 : decode cX11_write 9 = .ok (.iastore, 1) := by decide +kernel
theorem dX11_write_10 : decode cX11_write 10 = .ok (.iload_n 1, 1) := by decide +kernel
theorem dX11_write_11 : decode cX11_write 11 = .ok (.bipush 8, 2) := by decide +kernel
theorem dX11_write_13 : decode cX11_write 13 = .ok (.if_icmp .ge 50, 3) := by decide +kernel
theorem dX11_write_16 : decode cX11_write 16 = .ok (.aload_n 0, 1) := by decide +kernel
theorem dX11_write_17 : decode cX11_write 17 = .ok (.getfield 61, 3) := by decide +kernel
theorem dX11_write_20 : decode cX11_write 20 = .ok (.aload_n 0, 1) := by decide +kernel
theorem dX11_write_21 : decode cX11_write 21 = .ok (.getfield 159, 3) := by decide +kernel
theorem dX11_write_24 : decode cX11_write 24 = .ok (.aload_n 0, 1) := by decide +kernel
theorem dX11_write_25 : decode cX11_write 25 = .ok (.getfield 52, 3) := by decide +kernel
theorem dX11_write_28 : decode cX11_write 28 = .ok (.iload_n 1, 1) := by decide +kernel
theorem dX11_write_29 : decode cX11_write 29 = .ok (.iaload, 1) := by decide +kernel
theorem dX11_write_30 : decode cX11_write 30 = .ok (.iastore, 1) := by decide +kernel
theorem dX11_write_31 : decode cX11_write 31 = .ok (.aload_n 0, 1) := by decide +kernel
theorem dX11_write_32 : decode cX11_write 32 = .ok (.getfield 64, 3) := by decide +kernel
theorem dX11_write_35 : decode cX11_write 35 = .ok (.aload_n 0, 1) := by decide +kernel
theorem dX11_write_36 : decode cX11_write 36 = .ok (.getfield 159, 3) := by decide +kernel
theorem dX11_write_39 : decode cX11_write 39 = .ok (.aload_n 0, 1) := by decide +kernel
theorem dX11_write_40 : decode cX11_write 40 = .ok (.getfield 55, 3) := by decide +kernel
theorem dX11_write_43 : decode cX11_write 43 = .ok (.iload_n 1, 1) := by decide +kernel
theorem dX11_write_44 : decode cX11_write 44 = .ok (.iaload, 1) := by decide +kernel
theorem dX11_write_45 : decode cX11_write 45 = .ok (.iastore, 1) := by decide +kernel
theorem dX11_write_46 : decode cX11_write 46 = .ok (.aload_n 0, 1) := by decide +kernel
theorem dX11_write_47 : decode cX11_write 47 = .ok (.getfield 52, 3) := by decide +kernel
theorem dX11_write_50 : decode cX11_write 50 = .ok (.iload_n 1, 1) := by decide +kernel
theorem dX11_write_51 : decode cX11_write 51 = .ok (.iload_n 2, 1) := by decide +kernel
theorem dX11_write_52 : decode cX11_write 52 = .ok (.iastore, 1) := by decide +kernel
theorem dX11_write_53 : decode cX11_write 53 = .ok (.aload_n 0, 1) := by decide +kernel
theorem dX11_write_54 : decode cX11_write 54 = .ok (.getfield 55, 3) := by decide +kernel
theorem dX11_write_57 : decode cX11_write 57 = .ok (.iload_n 1, 1) := by decide +kernel
theorem dX11_write_58 : decode cX11_write 58 = .ok (.iload_n 3, 1) := by decide +kernel
theorem dX11_write_59 : decode cX11_write 59 = .ok (.iastore, 1) := by decide +kernel
theorem dX11_write_60 : decode cX11_write 60 = .ok (.goto 59, 3) := by decide +kernel
theorem dX11_write_63 : decode cX11_write 63 = .ok (.aload_n 0, 1) := by decide +kernel
theorem dX11_write_64 : decode cX11_write 64 = .ok (.getfield 61, 3) := by decide +kernel
theorem dX11_write_67 : decode cX11_write 67 = .ok (.aload_n 0, 1) := by decide +kernel
theorem dX11_write_68 : decode cX11_write 68 = .ok (.getfield 159, 3) := by decide +kernel
theorem dX11_write_71 : decode cX11_write 71 = .ok (.aload_n 0, 1) := by decide +kernel
theorem dX11_write_72 : decode cX11_write 72 = .ok (.getfield 25, 3) := by decide +kernel
theorem dX11_write_75 : decode cX11_write 75 = .ok (.iload_n 1, 1) := by decide +kernel
theorem dX11_write_76 : decode cX11_write 76 = .ok (.bipush 8, 2) := by decide +kernel
theorem dX11_write_78 : decode cX11_write 78 = .ok (.isub, 1) := by decide +kernel
theorem dX11_write_79 : decode cX11_write 79 = .ok (.iaload, 1) := by decide +kernel
theorem dX11_write_80 : decode cX11_write 80 = .ok (.iastore, 1) := by decide +kernel
theorem dX11_write_81 : decode cX11_write 81 = .ok (.aload_n 0, 1) := by decide +kernel
theorem dX11_write_82 : decode cX11_write 82 = .ok (.getfield 64, 3) := by decide +kernel
theorem dX11_write_85 : decode cX11_write 85 = .ok (.aload_n 0, 1) := by decide +kernel
theorem dX11_write_86 : decode cX11_write 86 = .ok (.getfield 159, 3) := by decide +kernel
theorem dX11_write_89 : decode cX11_write 89 = .ok (.aload_n 0, 1) := by decide +kernel
theorem dX11_write_90 : decode cX11_write 90 = .ok (.getfield 28, 3) := by decide +kernel
theorem dX11_write_93 : decode cX11_write 93 = .ok (.iload_n 1, 1) := by decide +kernel
theorem dX11_write_94 : decode cX11_write 94 = .ok (.bipush 8, 2) := by decide +kernel
theorem dX11_write_96 : decode cX11_write 96 = .ok (.isub, 1) := by decide +kernel
theorem dX11_write_97 : decode cX11_write 97 = .ok (.iaload, 1) := by decide +kernel
theorem dX11_write_98 : decode cX11_write 98 = .ok (.iastore, 1) := by decide +kernel
theorem dX11_write_99 : decode cX11_write 99 = .ok (.aload_n 0, 1) := by decide +kernel
theorem dX11_write_100 : decode cX11_write 100 = .ok (.getfield 25, 3) := by decide +kernel
theorem dX11_write_103 : decode cX11_write 103 = .ok (.iload_n 1, 1) := by decide +kernel
theorem dX11_write_104 : decode cX11_write 104 = .ok (.bipush 8, 2) := by decide +kernel
theorem dX11_write_106 : decode cX11_write 106 = .ok (.isub, 1) := by decide +kernel
theorem dX11_write_107 : decode cX11_write 107 = .ok (.iload_n 2, 1) := by decide +kernel
theorem dX11_write_108 : decode cX11_write 108 = .ok (.iastore, 1) := by decide +kernel
theorem dX11_write_109 : decode cX11_write 109 = .ok (.aload_n 0, 1) := by decide +kernel
theorem dX11_write_110 : decode cX11_write 110 = .ok (.getfield 28, 3) := by decide +kernel
theorem dX11_write_113 : decode cX11_write 113 = .ok (.iload_n 1, 1) := by decide +kernel
theorem dX11_write_114 : decode cX11_write 114 = .ok (.bipush 8, 2) := by decide +kernel
theorem dX11_write_116 : decode cX11_write 116 = .ok (.isub, 1) := by decide +kernel
theorem dX11_write_117 : decode cX11_write 117 = .ok (.iload_n 3, 1) := by decide +kernel
theorem dX11_write_118 : decode cX11_write 118 = .ok (.iastore, 1) := by decide +kernel
theorem dX11_write_119 : decode cX11_write 119 = .ok (.aload_n 0, 1) := by decide +kernel
theorem dX11_write_120 : decode cX11_write 120 = .ok (.dup, 1) := by decide +kernel
theorem dX11_write_121 : decode cX11_write 121 = .ok (.getfield 159, 3) := by decide +kernel
theorem dX11_write_124 : decode cX11_write 124 = .ok (.iconst 1, 1) := by decide +kernel
theorem dX11_write_125 : decode cX11_write 125 = .ok (.iadd, 1) := by decide +kernel
theorem dX11_write_126 : decode cX11_write 126 = .ok (.putfield 159, 3) := by decide +kernel
theorem dX11_write_129 : decode cX11_write 129 = .ok (.return_, 1) := by decide +kernel
theorem dX11_back_0 : decode cX11_back 0 = .ok (.aload_n 0, 1) := by decide +kernel
theorem dX11_back_1 : decode cX11_back 1 = .ok (.getfield 159, 3) := by decide +kernel
theorem dX11_back_4 : decode cX11_back 4 = .ok (.iload_n 1, 1) := by decide +kernel
theorem dX11_back_5 : decode cX11_back 5 = .ok (.if_icmp .le 101, 3) := by decide +kernel
theorem dX11_back_8 : decode cX11_back 8 = .ok (.aload_n 0, 1) := by decide +kernel
theorem dX11_back_9 : decode cX11_back 9 = .ok (.dup, 1) := by decide +kernel
theorem dX11_back_10 : decode cX11_back 10 = .ok (.getfield 159, 3) := by decide +kernel
theorem dX11_back_13 : decode cX11_back 13 = .ok (.iconst 1, 1) := by decide +kernel
theorem dX11_back_14 : decode cX11_back 14 = .ok (.isub, 1) := by decide +kernel
theorem dX11_back_15 : decode cX11_back 15 = .ok (.putfield 159, 3) := by decide +kernel
theorem dX11_back_18 : decode cX11_back 18 = .ok (.aload_n 0, 1) := by decide +kernel
theorem dX11_back_19 : decode cX11_back 19 = .ok (.getfield 58, 3) := by decide +kernel
theorem dX11_back_22 : decode cX11_back 22 = .ok (.aload_n 0, 1) := by decide +kernel
theorem dX11_back_23 : decode cX11_back 23 = .ok (.getfield 159, 3) := by decide +kernel
theorem dX11_back_26 : decode cX11_back 26 = .ok (.iaload, 1) := by decide +kernel
theorem dX11_back_27 : decode cX11_back 27 = .ok (.istore_n 2, 1) := by decide +kernel
theorem dX11_back_28 : decode cX11_back 28 = .ok (.iload_n 2, 1) := by decide +kernel
theorem dX11_back_29 : decode cX11_back 29 = .ok (.bipush 8, 2) := by decide +kernel
theorem dX11_back_31 : decode cX11_back 31 = .ok (.if_icmp .ge 36, 3) := by decide +kernel
theorem dX11_back_34 : decode cX11_back 34 = .ok (.aload_n 0, 1) := by decide +kernel
theorem dX11_back_35 : decode cX11_back 35 = .ok (.getfield 52, 3) := by decide +kernel
theorem dX11_back_38 : decode cX11_back 38 = .ok (.iload_n 2, 1) := by decide +kernel
theorem dX11_back_39 : decode cX11_back 39 = .ok (.aload_n 0, 1) := by decide +kernel
theorem dX11_back_40 : decode cX11_back 40 = .ok (.getfield 61, 3) := by decide +kernel
theorem dX11_back_43 : decode cX11_back 43 = .ok (.aload_n 0, 1) := by decide +kernel
theorem dX11_back_44 : decode cX11_back 44 = .ok (.getfield 159, 3) := by decide +kernel
theorem dX11_back_47 : decode cX11_back 47 = .ok (.iaload, 1) := by decide +kernel
theorem dX11_back_48 : decode cX11_back 48 = .ok (.iastore, 1) := by decide +kernel
theorem dX11_back_49 : decode cX11_back 49 = .ok (.aload_n 0, 1) := by decide +kernel
theorem dX11_back_50 : decode cX11_back 50 = .ok (.getfield 55, 3) := by decide +kernel
theorem dX11_back_53 : decode cX11_back 53 = .ok (.iload_n 2, 1) := by decide +kernel
theorem dX11_back_54 : decode cX11_back 54 = .ok (.aload_n 0, 1) := by decide +kernel
theorem dX11_back_55 : decode cX11_back 55 = .ok (.getfield 64, 3) := by decide +kernel
theorem dX11_back_58 : decode cX11_back 58 = .ok (.aload_n 0, 1) := by decide +kernel
theorem dX11_back_59 : decode cX11_back 59 = .ok (.getfield 159, 3) := by decide +kernel
theorem dX11_back_62 : decode cX11_back 62 = .ok (.iaload, 1) := by decide +kernel
theorem dX11_back_63 : decode cX11_back 63 = .ok (.iastore, 1) := by decide +kernel
theorem dX11_back_64 : decode cX11_back 64 = .ok (.goto 39, 3) := by decide +kernel
theorem dX11_back_67 : decode cX11_back 67 = .ok (.aload_n 0, 1) := by decide +kernel
theorem dX11_back_68 : decode cX11_back 68 = .ok (.getfield 25, 3) := by decide +kernel
theorem dX11_back_71 : decode cX11_back 71 = .ok (.iload_n 2, 1) := by decide +kernel
theorem dX11_back_72 : decode cX11_back 72 = .ok (.bipush 8, 2) := by decide +kernel
theorem dX11_back_74 : decode cX11_back 74 = .ok (.isub, 1) := by decide +kernel
theorem dX11_back_75 : decode cX11_back 75 = .ok (.aload_n 0, 1) := by decide +kernel
theorem dX11_back_76 : decode cX11_back 76 = .ok (.getfield 61, 3) := by decide +kernel
theorem dX11_back_79 : decode cX11_back 79 = .ok (.aload_n 0, 1) := by decide +kernel
theorem dX11_back_80 : decode cX11_back 80 = .ok (.getfield 159, 3) := by decide +kernel
theorem dX11_back_83 : decode cX11_back 83 = .ok (.iaload, 1) := by decide +kernel
theorem dX11_back_84 : decode cX11_back 84 = .ok (.iastore, 1) := by decide +kernel
theorem dX11_back_85 : decode cX11_back 85 = .ok (.aload_n 0, 1) := by decide +kernel
theorem dX11_back_86 : decode cX11_back 86 = .ok (.getfield 28, 3) := by decide +kernel
theorem dX11_back_89 : decode cX11_back 89 = .ok (.iload_n 2, 1) := by decide +kernel
theorem dX11_back_90 : decode cX11_back 90 = .ok (.bipush 8, 2) := by decide +kernel
theorem dX11_back_92 : decode cX11_back 92 = .ok (.isub, 1) := by decide +kernel
theorem dX11_back_93 : decode cX11_back 93 = .ok (.aload_n 0, 1) := by decide +kernel
theorem dX11_back_94 : decode cX11_back 94 = .ok (.getfield 64, 3) := by decide +kernel
theorem dX11_back_97 : decode cX11_back 97 = .ok (.aload_n 0, 1) := by decide +kernel
theorem dX11_back_98 : decode cX11_back 98 = .ok (.getfield 159, 3) := by decide +kernel
theorem dX11_back_101 : decode cX11_back 101 = .ok (.iaload, 1) := by decide +kernel
theorem dX11_back_102 : decode cX11_back 102 = .ok (.iastore, 1) := by decide +kernel
theorem dX11_back_103 : decode cX11_back 103 = .ok (.goto (-103), 3) := by decide +kernel
theorem dX11_back_106 : decode cX11_back 106 = .ok (.return_, 1) := by decide +kernel
theorem dX11_begin_0 : decode cX11_begin 0 = .ok (.aload_n 0, 1) := by decide +kernel
theorem dX11_begin_1 : decode cX11_begin 1 = .ok (.getfield 162, 3) := by decide +kernel
theorem dX11_begin_4 : decode cX11_begin 4 = .ok (.aload_n 0, 1) := by decide +kernel
theorem dX11_begin_5 : decode cX11_begin 5 = .ok (.getfield 165, 3) := by decide +kernel
theorem dX11_begin_8 : decode cX11_begin 8 = .ok (.if_icmp .ne 14, 3) := by decide +kernel
theorem dX11_begin_11 : decode cX11_begin 11 = .ok (.aload_n 0, 1) := by decide +kernel
theorem dX11_begin_12 : decode cX11_begin 12 = .ok (.bipush 9, 2) := by decide +kernel
theorem dX11_begin_14 : decode cX11_begin 14 = .ok (.aload_n 0, 1) := by decide +kernel
theorem dX11_begin_15 : decode cX11_begin 15 = .ok (.getfield 131, 3) := by decide +kernel
theorem dX11_begin_18 : decode cX11_begin 18 = .ok (.invokevirtual 149, 3) := by decide +kernel
theorem dX11_begin_21 : decode cX11_begin 21 = .ok (.return_, 1) := by decide +kernel
theorem dX11_begin_22 : decode cX11_begin 22 = .ok (.aload_n 0, 1) := by decide +kernel
theorem dX11_begin_23 : decode cX11_begin 23 = .ok (.dup, 1) := by decide +kernel
theorem dX11_begin_24 : decode cX11_begin 24 = .ok (.getfield 162, 3) := by decide +kernel
theorem dX11_begin_27 : decode cX11_begin 27 = .ok (.iconst 1, 1) := by decide +kernel
theorem dX11_begin_28 : decode cX11_begin 28 = .ok (.iadd, 1) := by decide +kernel
theorem dX11_begin_29 : decode cX11_begin 29 = .ok (.putfield 162, 3) := by decide +kernel
theorem dX11_begin_32 : decode cX11_begin 32 = .ok (.aload_n 0, 1) := by decide +kernel
theorem dX11_begin_33 : decode cX11_begin 33 = .ok (.getfield 131, 3) := by decide +kernel
theorem dX11_begin_36 : decode cX11_begin 36 = .ok (.istore_n 1, 1) := by decide +kernel
theorem dX11_begin_37 : decode cX11_begin 37 = .ok (.aload_n 0, 1) := by decide +kernel
theorem dX11_begin_38 : decode cX11_begin 38 = .ok (.getfield 134, 3) := by decide +kernel
theorem dX11_begin_41 : decode cX11_begin 41 = .ok (.istore_n 2, 1) := by decide +kernel
theorem dX11_begin_42 : decode cX11_begin 42 = .ok (.aload_n 0, 1) := by decide +kernel
theorem dX11_begin_43 : decode cX11_begin 43 = .ok (.getfield 7, 3) := by decide +kernel
theorem dX11_begin_46 : decode cX11_begin 46 = .ok (.iload_n 1, 1) := by decide +kernel
theorem dX11_begin_47 : decode cX11_begin 47 = .ok (.iaload, 1) := by decide +kernel
theorem dX11_begin_48 : decode cX11_begin 48 = .ok (.lookupswitch 185 #[(0, 52), (1, 66), (2, 105), (27, 114), (30, 156)], 52) := by decide +kernel
theorem dX11_begin_100 : decode cX11_begin 100 = .ok (.aload_n 0, 1) := by decide +kernel
theorem dX11_begin_101 : decode cX11_begin 101 = .ok (.iconst 0, 1) := by decide +kernel
theorem dX11_begin_102 : decode cX11_begin 102 = .ok (.aload_n 0, 1) := by decide +kernel
theorem dX11_begin_103 : decode cX11_begin 103 = .ok (.getfield 13, 3) := by decide +kernel
theorem dX11_begin_106 : decode cX11_begin 106 = .ok (.iload_n 1, 1) := by decide +kernel
theorem dX11_begin_107 : decode cX11_begin 107 = .ok (.iaload, 1) := by decide +kernel
theorem dX11_begin_108 : decode cX11_begin 108 = .ok (.invokevirtual 168, 3) := by decide +kernel
theorem dX11_begin_111 : decode cX11_begin 111 = .ok (.goto 217, 3) := by decide +kernel
theorem dX11_begin_114 : decode cX11_begin 114 = .ok (.aload_n 0, 1) := by decide +kernel
theorem dX11_begin_115 : decode cX11_begin 115 = .ok (.aload_n 0, 1) := by decide +kernel
theorem dX11_begin_116 : decode cX11_begin 116 = .ok (.getfield 46, 3) := by decide +kernel
theorem dX11_begin_119 : decode cX11_begin 119 = .ok (.bipush 8, 2) := by decide +kernel
theorem dX11_begin_121 : decode cX11_begin 121 = .ok (.iload_n 2, 1) := by decide +kernel
theorem dX11_begin_122 : decode cX11_begin 122 = .ok (.imul, 1) := by decide +kernel
theorem dX11_begin_123 : decode cX11_begin 123 = .ok (.aload_n 0, 1) := by decide +kernel
theorem dX11_begin_124 : decode cX11_begin 124 = .ok (.getfield 13, 3) := by decide +kernel
theorem dX11_begin_127 : decode cX11_begin 127 = .ok (.iload_n 1, 1) := by decide +kernel
theorem dX11_begin_128 : decode cX11_begin 128 = .ok (.iaload, 1) := by decide +kernel
theorem dX11_begin_129 : decode cX11_begin 129 = .ok (.iadd, 1) := by decide +kernel
theorem dX11_begin_130 : decode cX11_begin 130 = .ok (.iaload, 1) := by decide +kernel
theorem dX11_begin_131 : decode cX11_begin 131 = .ok (.aload_n 0, 1) := by decide +kernel
theorem dX11_begin_132 : decode cX11_begin 132 = .ok (.getfield 49, 3) := by decide +kernel
theorem dX11_begin_135 : decode cX11_begin 135 = .ok (.bipush 8, 2) := by decide +kernel
theorem dX11_begin_137 : decode cX11_begin 137 = .ok (.iload_n 2, 1) := by decide +kernel
theorem dX11_begin_138 : decode cX11_begin 138 = .ok (.imul, 1) := by decide +kernel
theorem dX11_begin_139 : decode cX11_begin 139 = .ok (.aload_n 0, 1) := by decide +kernel
theorem dX11_begin_140 : decode cX11_begin 140 = .ok (.getfield 13, 3) := by decide +kernel
theorem dX11_begin_143 : decode cX11_begin 143 = .ok (.iload_n 1, 1) := by decide +kernel
theorem dX11_begin_144 : decode cX11_begin 144 = .ok (.iaload, 1) := by decide +kernel
theorem dX11_begin_145 : decode cX11_begin 145 = .ok (.iadd, 1) := by decide +kernel
theorem dX11_begin_146 : decode cX11_begin 146 = .ok (.iaload, 1) := by decide +kernel
theorem dX11_begin_147 : decode cX11_begin 147 = .ok (.invokevirtual 168, 3) := by decide +kernel
theorem dX11_begin_150 : decode cX11_begin 150 = .ok (.goto 178, 3) := by decide +kernel
theorem dX11_begin_153 : decode cX11_begin 153 = .ok (.aload_n 0, 1) := by decide +kernel
theorem dX11_begin_154 : decode cX11_begin 154 = .ok (.iconst 1, 1) := by decide +kernel
theorem dX11_begin_155 : decode cX11_begin 155 = .ok (.iconst 0, 1) := by decide +kernel
theorem dX11_begin_156 : decode cX11_begin 156 = .ok (.invokevirtual 168, 3) := by decide +kernel
theorem dX11_begin_159 : decode cX11_begin 159 = .ok (.goto 169, 3) := by decide +kernel
theorem dX11_begin_162 : decode cX11_begin 162 = .ok (.aload_n 0, 1) := by decide +kernel
theorem dX11_begin_163 : decode cX11_begin 163 = .ok (.iconst 0, 1) := by decide +kernel
theorem dX11_begin_164 : decode cX11_begin 164 = .ok (.invokevirtual 171, 3) := by decide +kernel
theorem dX11_begin_167 : decode cX11_begin 167 = .ok (.istore_n 3, 1) := by decide +kernel
theorem dX11_begin_168 : decode cX11_begin 168 = .ok (.aload_n 0, 1) := by decide +kernel
theorem dX11_begin_169 : decode cX11_begin 169 = .ok (.getfield 31, 3) := by decide +kernel
theorem dX11_begin_172 : decode cX11_begin 172 = .ok (.iload_n 3, 1) := by decide +kernel
theorem dX11_begin_173 : decode cX11_begin 173 = .ok (.aload_n 0, 1) := by decide +kernel
theorem dX11_begin_174 : decode cX11_begin 174 = .ok (.getfield 13, 3) := by decide +kernel
theorem dX11_begin_177 : decode cX11_begin 177 = .ok (.iload_n 1, 1) := by decide +kernel
theorem dX11_begin_178 : decode cX11_begin 178 = .ok (.iaload, 1) := by decide +kernel
theorem dX11_begin_179 : decode cX11_begin 179 = .ok (.iastore, 1) := by decide +kernel
theorem dX11_begin_180 : decode cX11_begin 180 = .ok (.aload_n 0, 1) := by decide +kernel
theorem dX11_begin_181 : decode cX11_begin 181 = .ok (.getfield 34, 3) := by decide +kernel
theorem dX11_begin_184 : decode cX11_begin 184 = .ok (.iload_n 3, 1) := by decide +kernel
theorem dX11_begin_185 : decode cX11_begin 185 = .ok (.iload_n 2, 1) := by decide +kernel
theorem dX11_begin_186 : decode cX11_begin 186 = .ok (.iastore, 1) := by decide +kernel
theorem dX11_begin_187 : decode cX11_begin 187 = .ok (.aload_n 0, 1) := by decide +kernel
theorem dX11_begin_188 : decode cX11_begin 188 = .ok (.getfield 37, 3) := by decide +kernel
theorem dX11_begin_191 : decode cX11_begin 191 = .ok (.iload_n 3, 1) := by decide +kernel
theorem dX11_begin_192 : decode cX11_begin 192 = .ok (.iconst 0, 1) := by decide +kernel
theorem dX11_begin_193 : decode cX11_begin 193 = .ok (.iastore, 1) := by decide +kernel
theorem dX11_begin_194 : decode cX11_begin 194 = .ok (.aload_n 0, 1) := by decide +kernel
theorem dX11_begin_195 : decode cX11_begin 195 = .ok (.bipush 7, 2) := by decide +kernel
theorem dX11_begin_197 : decode cX11_begin 197 = .ok (.iload_n 3, 1) := by decide +kernel
theorem dX11_begin_198 : decode cX11_begin 198 = .ok (.invokevirtual 168, 3) := by decide +kernel
theorem dX11_begin_201 : decode cX11_begin 201 = .ok (.goto 127, 3) := by decide +kernel
theorem dX11_begin_204 : decode cX11_begin 204 = .ok (.aload_n 0, 1) := by decide +kernel
theorem dX11_begin_205 : decode cX11_begin 205 = .ok (.aload_n 0, 1) := by decide +kernel
theorem dX11_begin_206 : decode cX11_begin 206 = .ok (.getfield 52, 3) := by decide +kernel
theorem dX11_begin_209 : decode cX11_begin 209 = .ok (.aload_n 0, 1) := by decide +kernel
theorem dX11_begin_210 : decode cX11_begin 210 = .ok (.getfield 13, 3) := by decide +kernel
theorem dX11_begin_213 : decode cX11_begin 213 = .ok (.iload_n 1, 1) := by decide +kernel
theorem dX11_begin_214 : decode cX11_begin 214 = .ok (.iaload, 1) := by decide +kernel
theorem dX11_begin_215 : decode cX11_begin 215 = .ok (.iaload, 1) := by decide +kernel
theorem dX11_begin_216 : decode cX11_begin 216 = .ok (.aload_n 0, 1) := by decide +kernel
theorem dX11_begin_217 : decode cX11_begin 217 = .ok (.getfield 55, 3) := by decide +kernel
theorem dX11_begin_220 : decode cX11_begin 220 = .ok (.aload_n 0, 1) := by decide +kernel
theorem dX11_begin_221 : decode cX11_begin 221 = .ok (.getfield 13, 3) := by decide +kernel
theorem dX11_begin_224 : decode cX11_begin 224 = .ok (.iload_n 1, 1) := by decide +kernel
theorem dX11_begin_225 : decode cX11_begin 225 = .ok (.iaload, 1) := by decide +kernel
theorem dX11_begin_226 : decode cX11_begin 226 = .ok (.iaload, 1) := by decide +kernel
theorem dX11_begin_227 : decode cX11_begin 227 = .ok (.invokevirtual 168, 3) := by decide +kernel
theorem dX11_begin_230 : decode cX11_begin 230 = .ok (.goto 98, 3) := by decide +kernel
theorem dX11_begin_233 : decode cX11_begin 233 = .ok (.aload_n 0, 1) := by decide +kernel
theorem dX11_begin_234 : decode cX11_begin 234 = .ok (.getfield 70, 3) := by decide +kernel
theorem dX11_begin_237 : decode cX11_begin 237 = .ok (.aload_n 0, 1) := by decide +kernel
theorem dX11_begin_238 : decode cX11_begin 238 = .ok (.getfield 174, 3) := by decide +kernel
theorem dX11_begin_241 : decode cX11_begin 241 = .ok (.iload_n 1, 1) := by decide +kernel
theorem dX11_begin_242 : decode cX11_begin 242 = .ok (.iastore, 1) := by decide +kernel
theorem dX11_begin_243 : decode cX11_begin 243 = .ok (.aload_n 0, 1) := by decide +kernel
theorem dX11_begin_244 : decode cX11_begin 244 = .ok (.getfield 73, 3) := by decide +kernel
theorem dX11_begin_247 : decode cX11_begin 247 = .ok (.aload_n 0, 1) := by decide +kernel
theorem dX11_begin_248 : decode cX11_begin 248 = .ok (.getfield 174, 3) := by decide +kernel
theorem dX11_begin_251 : decode cX11_begin 251 = .ok (.iconst 0, 1) := by decide +kernel
theorem dX11_begin_252 : decode cX11_begin 252 = .ok (.iastore, 1) := by decide +kernel
theorem dX11_begin_253 : decode cX11_begin 253 = .ok (.aload_n 0, 1) := by decide +kernel
theorem dX11_begin_254 : decode cX11_begin 254 = .ok (.getfield 76, 3) := by decide +kernel
theorem dX11_begin_257 : decode cX11_begin 257 = .ok (.aload_n 0, 1) := by decide +kernel
theorem dX11_begin_258 : decode cX11_begin 258 = .ok (.getfield 174, 3) := by decide +kernel
theorem dX11_begin_261 : decode cX11_begin 261 = .ok (.iload_n 2, 1) := by decide +kernel
theorem dX11_begin_262 : decode cX11_begin 262 = .ok (.iastore, 1) := by decide +kernel
theorem dX11_begin_263 : decode cX11_begin 263 = .ok (.aload_n 0, 1) := by decide +kernel
theorem dX11_begin_264 : decode cX11_begin 264 = .ok (.getfield 91, 3) := by decide +kernel
theorem dX11_begin_267 : decode cX11_begin 267 = .ok (.aload_n 0, 1) := by decide +kernel
theorem dX11_begin_268 : decode cX11_begin 268 = .ok (.getfield 174, 3) := by decide +kernel
theorem dX11_begin_271 : decode cX11_begin 271 = .ok (.aload_n 0, 1) := by decide +kernel
theorem dX11_begin_272 : decode cX11_begin 272 = .ok (.getfield 159, 3) := by decide +kernel
theorem dX11_begin_275 : decode cX11_begin 275 = .ok (.iastore, 1) := by decide +kernel
theorem dX11_begin_276 : decode cX11_begin 276 = .ok (.aload_n 0, 1) := by decide +kernel
theorem dX11_begin_277 : decode cX11_begin 277 = .ok (.dup, 1) := by decide +kernel
theorem dX11_begin_278 : decode cX11_begin 278 = .ok (.getfield 174, 3) := by decide +kernel
theorem dX11_begin_281 : decode cX11_begin 281 = .ok (.iconst 1, 1) := by decide +kernel
theorem dX11_begin_282 : decode cX11_begin 282 = .ok (.iadd, 1) := by decide +kernel
theorem dX11_begin_283 : decode cX11_begin 283 = .ok (.putfield 174, 3) := by decide +kernel
theorem dX11_begin_286 : decode cX11_begin 286 = .ok (.aload_n 0, 1) := by decide +kernel
theorem dX11_begin_287 : decode cX11_begin 287 = .ok (.aload_n 0, 1) := by decide +kernel
theorem dX11_begin_288 : decode cX11_begin 288 = .ok (.getfield 7, 3) := by decide +kernel
theorem dX11_begin_291 : decode cX11_begin 291 = .ok (.iload_n 1, 1) := by decide +kernel
theorem dX11_begin_292 : decode cX11_begin 292 = .ok (.iaload, 1) := by decide +kernel
