theorem dX0_init_0 : decode cX0_init 0 = .ok (.aload_n 0, 1) := by decide +kernel
theorem dX0_init_1 : decode cX0_init 1 = .ok (.invokespecial 3, 3) := by decide +kernel
theorem dX0_init_4 : decode cX0_init 4 = .ok (.aload_n 0, 1) := by decide +kernel
theorem dX0_init_5 : decode cX0_init 5 = .ok (.sipush 240, 3) := by decide +kernel
theorem dX0_init_8 : decode cX0_init 8 = .ok (.newarray .int, 2) := by decide +kernel
theorem dX0_init_10 : decode cX0_init 10 = .ok (.putfield 11, 3) := by decide +kernel
theorem dX0_init_13 : decode cX0_init 13 = .ok (.aload_n 0, 1) := by decide +kernel
theorem dX0_init_14 : decode cX0_init 14 = .ok (.sipush 180, 3) := by decide +kernel
theorem dX0_init_17 : decode cX0_init 17 = .ok (.newarray .int, 2) := by decide +kernel
theorem dX0_init_19 : decode cX0_init 19 = .ok (.putfield 15, 3) := by decide +kernel
theorem dX0_init_22 : decode cX0_init 22 = .ok (.aload_n 0, 1) := by decide +kernel
theorem dX0_init_23 : decode cX0_init 23 = .ok (.bipush 60, 2) := by decide +kernel
theorem dX0_init_25 : decode cX0_init 25 = .ok (.newarray .int, 2) := by decide +kernel
theorem dX0_init_27 : decode cX0_init 27 = .ok (.putfield 18, 3) := by decide +kernel
theorem dX0_init_30 : decode cX0_init 30 = .ok (.aload_n 0, 1) := by decide +kernel
theorem dX0_init_31 : decode cX0_init 31 = .ok (.iconst 0, 1) := by decide +kernel
theorem dX0_init_32 : decode cX0_init 32 = .ok (.putfield 21, 3) := by decide +kernel
theorem dX0_init_35 : decode cX0_init 35 = .ok (.return_, 1) := by decide +kernel
theorem dX0_has_0 : decode cX0_has 0 = .ok (.iload_n 1, 1) := by decide +kernel
theorem dX0_has_1 : decode cX0_has 1 = .ok (.ifCond .lt 15, 3) := by decide +kernel
theorem dX0_has_4 : decode cX0_has 4 = .ok (.iload_n 1, 1) := by decide +kernel
theorem dX0_has_5 : decode cX0_has 5 = .ok (.aload_n 0, 1) := by decide +kernel
theorem dX0_has_6 : decode cX0_has 6 = .ok (.getfield 21, 3) := by decide +kernel
theorem dX0_has_9 : decode cX0_has 9 = .ok (.if_icmp .ge 7, 3) := by decide +kernel
theorem dX0_has_12 : decode cX0_has 12 = .ok (.iconst 1, 1) := by decide +kernel
theorem dX0_has_13 : decode cX0_has 13 = .ok (.goto 4, 3) := by decide +kernel
theorem dX0_has_16 : decode cX0_has 16 = .ok (.iconst 0, 1) := by decide +kernel
theorem dX0_has_17 : decode cX0_has 17 = .ok (.ireturn, 1) := by decide +kernel
theorem dX0_given_0 : decode cX0_given 0 = .ok (.aload_n 0, 1) := by decide +kernel
theorem dX0_given_1 : decode cX0_given 1 = .ok (.iload_n 1, 1) := by decide +kernel
theorem dX0_given_2 : decode cX0_given 2 = .ok (.invokevirtual 25, 3) := by decide +kernel
theorem dX0_given_5 : decode cX0_given 5 = .ok (.ifCond .eq 25, 3) := by decide +kernel
theorem dX0_given_8 : decode cX0_given 8 = .ok (.iload_n 2, 1) := by decide +kernel
theorem dX0_given_9 : decode cX0_given 9 = .ok (.ifCond .lt 21, 3) := by decide +kernel
theorem dX0_given_12 : decode cX0_given 12 = .ok (.iload_n 2, 1) := by decide +kernel
theorem dX0_given_13 : decode cX0_given 13 = .ok (.iconst 4, 1) := by decide +kernel
theorem dX0_given_14 : decode cX0_given 14 = .ok (.if_icmp .ge 16, 3) := by decide +kernel
theorem dX0_given_17 : decode cX0_given 17 = .ok (.aload_n 0, 1) := by decide +kernel
theorem dX0_given_18 : decode cX0_given 18 = .ok (.getfield 11, 3) := by decide +kernel
theorem dX0_given_21 : decode cX0_given 21 = .ok (.iconst 4, 1) := by decide +kernel
theorem dX0_given_22 : decode cX0_given 22 = .ok (.iload_n 1, 1) := by decide +kernel
theorem dX0_given_23 : decode cX0_given 23 = .ok (.imul, 1) := by decide +kernel
theorem dX0_given_24 : decode cX0_given 24 = .ok (.iload_n 2, 1) := by decide +kernel
theorem dX0_given_25 : decode cX0_given 25 = .ok (.iadd, 1) := by decide +kernel
theorem dX0_given_26 : decode cX0_given 26 = .ok (.iaload, 1) := by decide +kernel
theorem dX0_given_27 : decode cX0_given 27 = .ok (.goto 4, 3) := by decide +kernel
theorem dX0_given_30 : decode cX0_given 30 = .ok (.iconst 0, 1) := by decide +kernel
theorem dX0_given_31 : decode cX0_given 31 = .ok (.ireturn, 1) := by decide +kernel
theorem dX0_part_0 : decode cX0_part 0 = .ok (.aload_n 0, 1) := by decide +kernel
theorem dX0_part_1 : decode cX0_part 1 = .ok (.iload_n 1, 1) := by decide +kernel
theorem dX0_part_2 : decode cX0_part 2 = .ok (.invokevirtual 25, 3) := by decide +kernel
theorem dX0_part_5 : decode cX0_part 5 = .ok (.ifCond .eq 25, 3) := by decide +kernel
theorem dX0_part_8 : decode cX0_part 8 = .ok (.iload_n 2, 1) := by decide +kernel
theorem dX0_part_9 : decode cX0_part 9 = .ok (.ifCond .lt 21, 3) := by decide +kernel
theorem dX0_part_12 : decode cX0_part 12 = .ok (.iload_n 2, 1) := by decide +kernel
theorem dX0_part_13 : decode cX0_part 13 = .ok (.iconst 3, 1) := by decide +kernel
theorem dX0_part_14 : decode cX0_part 14 = .ok (.if_icmp .ge 16, 3) := by decide +kernel
theorem dX0_part_17 : decode cX0_part 17 = .ok (.aload_n 0, 1) := by decide +kernel
theorem dX0_part_18 : decode cX0_part 18 = .ok (.getfield 15, 3) := by decide +kernel
theorem dX0_part_21 : decode cX0_part 21 = .ok (.iconst 3, 1) := by decide +kernel
theorem dX0_part_22 : decode cX0_part 22 = .ok (.iload_n 1, 1) := by decide +kernel
theorem dX0_part_23 : decode cX0_part 23 = .ok (.imul, 1) := by decide +kernel
theorem dX0_part_24 : decode cX0_part 24 = .ok (.iload_n 2, 1) := by decide +kernel
theorem dX0_part_25 : decode cX0_part 25 = .ok (.iadd, 1) := by decide +kernel
theorem dX0_part_26 : decode cX0_part 26 = .ok (.iaload, 1) := by decide +kernel
theorem dX0_part_27 : decode cX0_part 27 = .ok (.goto 4, 3) := by decide +kernel
theorem dX0_part_30 : decode cX0_part 30 = .ok (.iconst (-1), 1) := by decide +kernel
theorem dX0_part_31 : decode cX0_part 31 = .ok (.ireturn, 1) := by decide +kernel
theorem dX0_partsAhead_0 : decode cX0_partsAhead 0 = .ok (.aload_n 0, 1) := by decide +kernel
theorem dX0_partsAhead_1 : decode cX0_partsAhead 1 = .ok (.iload_n 1, 1) := by decide +kernel
theorem dX0_partsAhead_2 : decode cX0_partsAhead 2 = .ok (.invokevirtual 25, 3) := by decide +kernel
theorem dX0_partsAhead_5 : decode cX0_partsAhead 5 = .ok (.ifCond .eq 12, 3) := by decide +kernel
theorem dX0_partsAhead_8 : decode cX0_partsAhead 8 = .ok (.aload_n 0, 1) := by decide +kernel
theorem dX0_partsAhead_9 : decode cX0_partsAhead 9 = .ok (.getfield 18, 3) := by decide +kernel
theorem dX0_partsAhead_12 : decode cX0_partsAhead 12 = .ok (.iload_n 1, 1) := by decide +kernel
theorem dX0_partsAhead_13 : decode cX0_partsAhead 13 = .ok (.iaload, 1) := by decide +kernel
theorem dX0_partsAhead_14 : decode cX0_partsAhead 14 = .ok (.goto 4, 3) := by decide +kernel
theorem dX0_partsAhead_17 : decode cX0_partsAhead 17 = .ok (.iconst 0, 1) := by decide +kernel
theorem dX0_partsAhead_18 : decode cX0_partsAhead 18 = .ok (.ireturn, 1) := by decide +kernel
theorem dX0_refusalOf_0 : decode cX0_refusalOf 0 = .ok (.iload_n 1, 1) := by decide +kernel
theorem dX0_refusalOf_1 : decode cX0_refusalOf 1 = .ok (.ifCond .lt 9, 3) := by decide +kernel
theorem dX0_refusalOf_4 : decode cX0_refusalOf 4 = .ok (.iload_n 1, 1) := by decide +kernel
theorem dX0_refusalOf_5 : decode cX0_refusalOf 5 = .ok (.bipush 31, 2) := by decide +kernel
theorem dX0_refusalOf_7 : decode cX0_refusalOf 7 = .ok (.if_icmp .le 6, 3) := by decide +kernel
theorem dX0_refusalOf_10 : decode cX0_refusalOf 10 = .ok (.bipush (-102), 2) := by decide +kernel
theorem dX0_refusalOf_12 : decode cX0_refusalOf 12 = .ok (.ireturn, 1) := by decide +kernel
theorem dX0_refusalOf_13 : decode cX0_refusalOf 13 = .ok (.iconst 3, 1) := by decide +kernel
theorem dX0_refusalOf_14 : decode cX0_refusalOf 14 = .ok (.iload_n 1, 1) := by decide +kernel
theorem dX0_refusalOf_15 : decode cX0_refusalOf 15 = .ok (.imul, 1) := by decide +kernel
theorem dX0_refusalOf_16 : decode cX0_refusalOf 16 = .ok (.istore 5, 2) := by decide +kernel
theorem dX0_refusalOf_18 : decode cX0_refusalOf 18 = .ok (.aload_n 0, 1) := by decide +kernel
theorem dX0_refusalOf_19 : decode cX0_refusalOf 19 = .ok (.getstatic 31, 3) := by decide +kernel
theorem dX0_refusalOf_22 : decode cX0_refusalOf 22 = .ok (.iload 5, 2) := by decide +kernel
theorem dX0_refusalOf_24 : decode cX0_refusalOf 24 = .ok (.iaload, 1) := by decide +kernel
theorem dX0_refusalOf_25 : decode cX0_refusalOf 25 = .ok (.iload_n 2, 1) := by decide +kernel
theorem dX0_refusalOf_26 : decode cX0_refusalOf 26 = .ok (.invokevirtual 34, 3) := by decide +kernel
theorem dX0_refusalOf_29 : decode cX0_refusalOf 29 = .ok (.ifCond .ne 36, 3) := by decide +kernel
theorem dX0_refusalOf_32 : decode cX0_refusalOf 32 = .ok (.aload_n 0, 1) := by decide +kernel
theorem dX0_refusalOf_33 : decode cX0_refusalOf 33 = .ok (.getstatic 31, 3) := by decide +kernel
theorem dX0_refusalOf_36 : decode cX0_refusalOf 36 = .ok (.iload 5, 2) := by decide +kernel
theorem dX0_refusalOf_38 : decode cX0_refusalOf 38 = .ok (.iconst 1, 1) := by decide +kernel
theorem dX0_refusalOf_39 : decode cX0_refusalOf 39 = .ok (.iadd, 1) := by decide +kernel
theorem dX0_refusalOf_40 : decode cX0_refusalOf 40 = .ok (.iaload, 1) := by decide +kernel
theorem dX0_refusalOf_41 : decode cX0_refusalOf 41 = .ok (.iload_n 3, 1) := by decide +kernel
theorem dX0_refusalOf_42 : decode cX0_refusalOf 42 = .ok (.invokevirtual 34, 3) := by decide +kernel
theorem dX0_refusalOf_45 : decode cX0_refusalOf 45 = .ok (.ifCond .ne 20, 3) := by decide +kernel
theorem dX0_refusalOf_48 : decode cX0_refusalOf 48 = .ok (.aload_n 0, 1) := by decide +kernel
theorem dX0_refusalOf_49 : decode cX0_refusalOf 49 = .ok (.getstatic 31, 3) := by decide +kernel
theorem dX0_refusalOf_52 : decode cX0_refusalOf 52 = .ok (.iload 5, 2) := by decide +kernel
theorem dX0_refusalOf_54 : decode cX0_refusalOf 54 = .ok (.iconst 2, 1) := by decide +kernel
theorem dX0_refusalOf_55 : decode cX0_refusalOf 55 = .ok (.iadd, 1) := by decide +kernel
theorem dX0_refusalOf_56 : decode cX0_refusalOf 56 = .ok (.iaload, 1) := by decide +kernel
theorem dX0_refusalOf_57 : decode cX0_refusalOf 57 = .ok (.iload 4, 2) := by decide +kernel
theorem dX0_refusalOf_59 : decode cX0_refusalOf 59 = .ok (.invokevirtual 34, 3) := by decide +kernel
theorem dX0_refusalOf_62 : decode cX0_refusalOf 62 = .ok (.ifCond .eq 6, 3) := by decide +kernel
theorem dX0_refusalOf_65 : decode cX0_refusalOf 65 = .ok (.bipush (-101), 2) := by decide +kernel
theorem dX0_refusalOf_67 : decode cX0_refusalOf 67 = .ok (.ireturn, 1) := by decide +kernel
theorem dX0_refusalOf_68 : decode cX0_refusalOf 68 = .ok (.aload_n 0, 1) := by decide +kernel
theorem dX0_refusalOf_69 : decode cX0_refusalOf 69 = .ok (.getstatic 31, 3) := by decide +kernel
theorem dX0_refusalOf_72 : decode cX0_refusalOf 72 = .ok (.iload 5, 2) := by decide +kernel
theorem dX0_refusalOf_74 : decode cX0_refusalOf 74 = .ok (.iaload, 1) := by decide +kernel
theorem dX0_refusalOf_75 : decode cX0_refusalOf 75 = .ok (.iload_n 2, 1) := by decide +kernel
theorem dX0_refusalOf_76 : decode cX0_refusalOf 76 = .ok (.invokevirtual 38, 3) := by decide +kernel
theorem dX0_refusalOf_79 : decode cX0_refusalOf 79 = .ok (.ifCond .ne 36, 3) := by decide +kernel
theorem dX0_refusalOf_82 : decode cX0_refusalOf 82 = .ok (.aload_n 0, 1) := by decide +kernel
theorem dX0_refusalOf_83 : decode cX0_refusalOf 83 = .ok (.getstatic 31, 3) := by decide +kernel
theorem dX0_refusalOf_86 : decode cX0_refusalOf 86 = .ok (.iload 5, 2) := by decide +kernel
theorem dX0_refusalOf_88 : decode cX0_refusalOf 88 = .ok (.iconst 1, 1) := by decide +kernel
theorem dX0_refusalOf_89 : decode cX0_refusalOf 89 = .ok (.iadd, 1) := by decide +kernel
theorem dX0_refusalOf_90 : decode cX0_refusalOf 90 = .ok (.iaload, 1) := by decide +kernel
theorem dX0_refusalOf_91 : decode cX0_refusalOf 91 = .ok (.iload_n 3, 1) := by decide +kernel
theorem dX0_refusalOf_92 : decode cX0_refusalOf 92 = .ok (.invokevirtual 38, 3) := by decide +kernel
theorem dX0_refusalOf_95 : decode cX0_refusalOf 95 = .ok (.ifCond .ne 20, 3) := by decide +kernel
theorem dX0_refusalOf_98 : decode cX0_refusalOf 98 = .ok (.aload_n 0, 1) := by decide +kernel
theorem dX0_refusalOf_99 : decode cX0_refusalOf 99 = .ok (.getstatic 31, 3) := by decide +kernel
theorem dX0_refusalOf_102 : decode cX0_refusalOf 102 = .ok (.iload 5, 2) := by decide +kernel
theorem dX0_refusalOf_104 : decode cX0_refusalOf 104 = .ok (.iconst 2, 1) := by decide +kernel
theorem dX0_refusalOf_105 : decode cX0_refusalOf 105 = .ok (.iadd, 1) := by decide +kernel
theorem dX0_refusalOf_106 : decode cX0_refusalOf 106 = .ok (.iaload, 1) := by decide +kernel
theorem dX0_refusalOf_107 : decode cX0_refusalOf 107 = .ok (.iload 4, 2) := by decide +kernel
theorem dX0_refusalOf_109 : decode cX0_refusalOf 109 = .ok (.invokevirtual 38, 3) := by decide +kernel
theorem dX0_refusalOf_112 : decode cX0_refusalOf 112 = .ok (.ifCond .eq 6, 3) := by decide +kernel
theorem dX0_refusalOf_115 : decode cX0_refusalOf 115 = .ok (.bipush (-102), 2) := by decide +kernel
theorem dX0_refusalOf_117 : decode cX0_refusalOf 117 = .ok (.ireturn, 1) := by decide +kernel
theorem dX0_refusalOf_118 : decode cX0_refusalOf 118 = .ok (.aload_n 0, 1) := by decide +kernel
theorem dX0_refusalOf_119 : decode cX0_refusalOf 119 = .ok (.getfield 21, 3) := by decide +kernel
theorem dX0_refusalOf_122 : decode cX0_refusalOf 122 = .ok (.bipush 60, 2) := by decide +kernel
theorem dX0_refusalOf_124 : decode cX0_refusalOf 124 = .ok (.if_icmp .lt 8, 3) := by decide +kernel
theorem dX0_refusalOf_127 : decode cX0_refusalOf 127 = .ok (.bipush (-104), 2) := by decide +kernel
theorem dX0_refusalOf_129 : decode cX0_refusalOf 129 = .ok (.goto 4, 3) := by decide +kernel
theorem dX0_refusalOf_132 : decode cX0_refusalOf 132 = .ok (.iconst 0, 1) := by decide +kernel
theorem dX0_refusalOf_133 : decode cX0_refusalOf 133 = .ok (.ireturn, 1) := by decide +kernel
theorem dX0_isUnknown_0 : decode cX0_isUnknown 0 = .ok (.iload_n 1, 1) := by decide +kernel
theorem dX0_isUnknown_1 : decode cX0_isUnknown 1 = .ok (.iconst 1, 1) := by decide +kernel
theorem dX0_isUnknown_2 : decode cX0_isUnknown 2 = .ok (.if_icmp .eq 8, 3) := by decide +kernel
theorem dX0_isUnknown_5 : decode cX0_isUnknown 5 = .ok (.iload_n 1, 1) := by decide +kernel
theorem dX0_isUnknown_6 : decode cX0_isUnknown 6 = .ok (.iconst 2, 1) := by decide +kernel
theorem dX0_isUnknown_7 : decode cX0_isUnknown 7 = .ok (.if_icmp .ne 15, 3) := by decide +kernel
theorem dX0_isUnknown_10 : decode cX0_isUnknown 10 = .ok (.aload_n 0, 1) := by decide +kernel
theorem dX0_isUnknown_11 : decode cX0_isUnknown 11 = .ok (.iload_n 2, 1) := by decide +kernel
theorem dX0_isUnknown_12 : decode cX0_isUnknown 12 = .ok (.invokevirtual 25, 3) := by decide +kernel
theorem dX0_isUnknown_15 : decode cX0_isUnknown 15 = .ok (.ifCond .ne 7, 3) := by decide +kernel
theorem dX0_isUnknown_18 : decode cX0_isUnknown 18 = .ok (.iconst 1, 1) := by decide +kernel
theorem dX0_isUnknown_19 : decode cX0_isUnknown 19 = .ok (.goto 4, 3) := by decide +kernel
theorem dX0_isUnknown_22 : decode cX0_isUnknown 22 = .ok (.iconst 0, 1) := by decide +kernel
theorem dX0_isUnknown_23 : decode cX0_isUnknown 23 = .ok (.ireturn, 1) := by decide +kernel
theorem dX0_isOutside_0 : decode cX0_isOutside 0 = .ok (.iload_n 1, 1) := by decide +kernel
theorem dX0_isOutside_1 : decode cX0_isOutside 1 = .ok (.iconst 2, 1) := by decide +kernel
theorem dX0_isOutside_2 : decode cX0_isOutside 2 = .ok (.if_icmp .le 20, 3) := by decide +kernel
theorem dX0_isOutside_5 : decode cX0_isOutside 5 = .ok (.iload_n 2, 1) := by decide +kernel
theorem dX0_isOutside_6 : decode cX0_isOutside 6 = .ok (.ifCond .lt 12, 3) := by decide +kernel
theorem dX0_isOutside_9 : decode cX0_isOutside 9 = .ok (.iload_n 2, 1) := by decide +kernel
theorem dX0_isOutside_10 : decode cX0_isOutside 10 = .ok (.getstatic 41, 3) := by decide +kernel
theorem dX0_isOutside_13 : decode cX0_isOutside 13 = .ok (.iload_n 1, 1) := by decide +kernel
theorem dX0_isOutside_14 : decode cX0_isOutside 14 = .ok (.iaload, 1) := by decide +kernel
theorem dX0_isOutside_15 : decode cX0_isOutside 15 = .ok (.if_icmp .le 7, 3) := by decide +kernel
theorem dX0_isOutside_18 : decode cX0_isOutside 18 = .ok (.iconst 1, 1) := by decide +kernel
theorem dX0_isOutside_19 : decode cX0_isOutside 19 = .ok (.goto 4, 3) := by decide +kernel
theorem dX0_isOutside_22 : decode cX0_isOutside 22 = .ok (.iconst 0, 1) := by decide +kernel
theorem dX0_isOutside_23 : decode cX0_isOutside 23 = .ok (.ireturn, 1) := by decide +kernel
theorem dX0_add_0 : decode cX0_add 0 = .ok (.aload_n 0, 1) := by decide +kernel
theorem dX0_add_1 : decode cX0_add 1 = .ok (.getfield 21, 3) := by decide +kernel
theorem dX0_add_4 : decode cX0_add 4 = .ok (.istore 5, 2) := by decide +kernel
theorem dX0_add_6 : decode cX0_add 6 = .ok (.aload_n 0, 1) := by decide +kernel
theorem dX0_add_7 : decode cX0_add 7 = .ok (.dup, 1) := by decide +kernel
theorem dX0_add_8 : decode cX0_add 8 = .ok (.getfield 21, 3) := by decide +kernel
theorem dX0_add_11 : decode cX0_add 11 = .ok (.iconst 1, 1) := by decide +kernel
theorem dX0_add_12 : decode cX0_add 12 = .ok (.iadd, 1) := by decide +kernel
theorem dX0_add_13 : decode cX0_add 13 = .ok (.putfield 21, 3) := by decide +kernel
theorem dX0_add_16 : decode cX0_add 16 = .ok (.aload_n 0, 1) := by decide +kernel
theorem dX0_add_17 : decode cX0_add 17 = .ok (.getfield 11, 3) := by decide +kernel
theorem dX0_add_20 : decode cX0_add 20 = .ok (.iconst 4, 1) := by decide +kernel
theorem dX0_add_21 : decode cX0_add 21 = .ok (.iload 5, 2) := by decide +kernel
theorem dX0_add_23 : decode cX0_add 23 = .ok (.imul, 1) := by decide +kernel
theorem dX0_add_24 : decode cX0_add 24 = .ok (.iload_n 1, 1) := by decide +kernel
theorem dX0_add_25 : decode cX0_add 25 = .ok (.iastore, 1) := by decide +kernel
theorem dX0_add_26 : decode cX0_add 26 = .ok (.aload_n 0, 1) := by decide +kernel
theorem dX0_add_27 : decode cX0_add 27 = .ok (.getfield 11, 3) := by decide +kernel
theorem dX0_add_30 : decode cX0_add 30 = .ok (.iconst 4, 1) := by decide +kernel
theorem dX0_add_31 : decode cX0_add 31 = .ok (.iload 5, 2) := by decide +kernel
theorem dX0_add_33 : decode cX0_add 33 = .ok (.imul, 1) := by decide +kernel
theorem dX0_add_34 : decode cX0_add 34 = .ok (.iconst 1, 1) := by decide +kernel
theorem dX0_add_35 : decode cX0_add 35 = .ok (.iadd, 1) := by decide +kernel
theorem dX0_add_36 : decode cX0_add 36 = .ok (.iload_n 2, 1) := by decide +kernel
theorem dX0_add_37 : decode cX0_add 37 = .ok (.iastore, 1) := by decide +kernel
theorem dX0_add_38 : decode cX0_add 38 = .ok (.aload_n 0, 1) := by decide +kernel
theorem dX0_add_39 : decode cX0_add 39 = .ok (.getfield 11, 3) := by decide +kernel
theorem dX0_add_42 : decode cX0_add 42 = .ok (.iconst 4, 1) := by decide +kernel
theorem dX0_add_43 : decode cX0_add 43 = .ok (.iload 5, 2) := by decide +kernel
theorem dX0_add_45 : decode cX0_add 45 = .ok (.imul, 1) := by decide +kernel
theorem dX0_add_46 : decode cX0_add 46 = .ok (.iconst 2, 1) := by decide +kernel
theorem dX0_add_47 : decode cX0_add 47 = .ok (.iadd, 1) := by decide +kernel
theorem dX0_add_48 : decode cX0_add 48 = .ok (.iload_n 3, 1) := by decide +kernel
theorem dX0_add_49 : decode cX0_add 49 = .ok (.iastore, 1) := by decide +kernel
theorem dX0_add_50 : decode cX0_add 50 = .ok (.aload_n 0, 1) := by decide +kernel
theorem dX0_add_51 : decode cX0_add 51 = .ok (.getfield 11, 3) := by decide +kernel
theorem dX0_add_54 : decode cX0_add 54 = .ok (.iconst 4, 1) := by decide +kernel
theorem dX0_add_55 : decode cX0_add 55 = .ok (.iload 5, 2) := by decide +kernel
theorem dX0_add_57 : decode cX0_add 57 = .ok (.imul, 1) := by decide +kernel
theorem dX0_add_58 : decode cX0_add 58 = .ok (.iconst 3, 1) := by decide +kernel
theorem dX0_add_59 : decode cX0_add 59 = .ok (.iadd, 1) := by decide +kernel
theorem dX0_add_60 : decode cX0_add 60 = .ok (.iload 4, 2) := by decide +kernel
theorem dX0_add_62 : decode cX0_add 62 = .ok (.iastore, 1) := by decide +kernel
theorem dX0_add_63 : decode cX0_add 63 = .ok (.aload_n 0, 1) := by decide +kernel
theorem dX0_add_64 : decode cX0_add 64 = .ok (.iload 5, 2) := by decide +kernel
theorem dX0_add_66 : decode cX0_add 66 = .ok (.iconst 3, 1) := by decide +kernel
theorem dX0_add_67 : decode cX0_add 67 = .ok (.iload_n 1, 1) := by decide +kernel
theorem dX0_add_68 : decode cX0_add 68 = .ok (.imul, 1) := by decide +kernel
theorem dX0_add_69 : decode cX0_add 69 = .ok (.invokevirtual 44, 3) := by decide +kernel
theorem dX0_add_72 : decode cX0_add 72 = .ok (.iload 5, 2) := by decide +kernel
theorem dX0_add_74 : decode cX0_add 74 = .ok (.ireturn, 1) := by decide +kernel
theorem dX0_sortParts_0 : decode cX0_sortParts 0 = .ok (.iconst 0, 1) := by decide +kernel
theorem dX0_sortParts_1 : decode cX0_sortParts 1 = .ok (.istore_n 3, 1) := by decide +kernel
theorem dX0_sortParts_2 : decode cX0_sortParts 2 = .ok (.iconst 0, 1) := by decide +kernel
theorem dX0_sortParts_3 : decode cX0_sortParts 3 = .ok (.istore 4, 2) := by decide +kernel
theorem dX0_sortParts_5 : decode cX0_sortParts 5 = .ok (.iconst 0, 1) := by decide +kernel
theorem dX0_sortParts_6 : decode cX0_sortParts 6 = .ok (.istore 5, 2) := by decide +kernel
theorem dX0_sortParts_8 : decode cX0_sortParts 8 = .ok (.iload 5, 2) := by decide +kernel
theorem dX0_sortParts_10 : decode cX0_sortParts 10 = .ok (.iconst 3, 1) := by decide +kernel
theorem dX0_sortParts_11 : decode cX0_sortParts 11 = .ok (.if_icmp .ge 66, 3) := by decide +kernel
theorem dX0_sortParts_14 : decode cX0_sortParts 14 = .ok (.getstatic 31, 3) := by decide +kernel
theorem dX0_sortParts_17 : decode cX0_sortParts 17 = .ok (.iload_n 2, 1) := by decide +kernel
theorem dX0_sortParts_18 : decode cX0_sortParts 18 = .ok (.iload 5, 2) := by decide +kernel
theorem dX0_sortParts_20 : decode cX0_sortParts 20 = .ok (.iadd, 1) := by decide +kernel
theorem dX0_sortParts_21 : decode cX0_sortParts 21 = .ok (.iaload, 1) := by decide +kernel
theorem dX0_sortParts_22 : decode cX0_sortParts 22 = .ok (.istore 6, 2) := by decide +kernel
theorem dX0_sortParts_24 : decode cX0_sortParts 24 = .ok (.iload 6, 2) := by decide +kernel
theorem dX0_sortParts_26 : decode cX0_sortParts 26 = .ok (.iconst 1, 1) := by decide +kernel
theorem dX0_sortParts_27 : decode cX0_sortParts 27 = .ok (.if_icmp .eq 9, 3) := by decide +kernel
theorem dX0_sortParts_30 : decode cX0_sortParts 30 = .ok (.iload 6, 2) := by decide +kernel
theorem dX0_sortParts_32 : decode cX0_sortParts 32 = .ok (.iconst 2, 1) := by decide +kernel
theorem dX0_sortParts_33 : decode cX0_sortParts 33 = .ok (.if_icmp .ne 29, 3) := by decide +kernel
theorem dX0_sortParts_36 : decode cX0_sortParts 36 = .ok (.aload_n 0, 1) := by decide +kernel
theorem dX0_sortParts_37 : decode cX0_sortParts 37 = .ok (.getfield 15, 3) := by decide +kernel
theorem dX0_sortParts_40 : decode cX0_sortParts 40 = .ok (.iconst 3, 1) := by decide +kernel
theorem dX0_sortParts_41 : decode cX0_sortParts 41 = .ok (.iload_n 1, 1) := by decide +kernel
theorem dX0_sortParts_42 : decode cX0_sortParts 42 = .ok (.imul, 1) := by decide +kernel
theorem dX0_sortParts_43 : decode cX0_sortParts 43 = .ok (.iload_n 3, 1) := by decide +kernel
theorem dX0_sortParts_44 : decode cX0_sortParts 44 = .ok (.iadd, 1) := by decide +kernel
theorem dX0_sortParts_45 : decode cX0_sortParts 45 = .ok (.aload_n 0, 1) := by decide +kernel
theorem dX0_sortParts_46 : decode cX0_sortParts 46 = .ok (.getfield 11, 3) := by decide +kernel
theorem dX0_sortParts_49 : decode cX0_sortParts 49 = .ok (.iconst 4, 1) := by decide +kernel
theorem dX0_sortParts_50 : decode cX0_sortParts 50 = .ok (.iload_n 1, 1) := by decide +kernel
theorem dX0_sortParts_51 : decode cX0_sortParts 51 = .ok (.imul, 1) := by decide +kernel
theorem dX0_sortParts_52 : decode cX0_sortParts 52 = .ok (.iconst 1, 1) := by decide +kernel
theorem dX0_sortParts_53 : decode cX0_sortParts 53 = .ok (.iadd, 1) := by decide +kernel
theorem dX0_sortParts_54 : decode cX0_sortParts 54 = .ok (.iload 5, 2) := by decide +kernel
theorem dX0_sortParts_56 : decode cX0_sortParts 56 = .ok (.iadd, 1) := by decide +kernel
theorem dX0_sortParts_57 : decode cX0_sortParts 57 = .ok (.iaload, 1) := by decide +kernel
theorem dX0_sortParts_58 : decode cX0_sortParts 58 = .ok (.iastore, 1) := by decide +kernel
theorem dX0_sortParts_59 : decode cX0_sortParts 59 = .ok (.iinc 3 1, 3) := by decide +kernel
theorem dX0_sortParts_62 : decode cX0_sortParts 62 = .ok (.iload 6, 2) := by decide +kernel
theorem dX0_sortParts_64 : decode cX0_sortParts 64 = .ok (.iconst 1, 1) := by decide +kernel
theorem dX0_sortParts_65 : decode cX0_sortParts 65 = .ok (.if_icmp .ne 6, 3) := by decide +kernel
theorem dX0_sortParts_68 : decode cX0_sortParts 68 = .ok (.iinc 4 1, 3) := by decide +kernel
theorem dX0_sortParts_71 : decode cX0_sortParts 71 = .ok (.iinc 5 1, 3) := by decide +kernel
theorem dX0_sortParts_74 : decode cX0_sortParts 74 = .ok (.goto (-66), 3) := by decide +kernel
theorem dX0_sortParts_77 : decode cX0_sortParts 77 = .ok (.aload_n 0, 1) := by decide +kernel
theorem dX0_sortParts_78 : decode cX0_sortParts 78 = .ok (.getfield 18, 3) := by decide +kernel
theorem dX0_sortParts_81 : decode cX0_sortParts 81 = .ok (.iload_n 1, 1) := by decide +kernel
theorem dX0_sortParts_82 : decode cX0_sortParts 82 = .ok (.iload 4, 2) := by decide +kernel
theorem dX0_sortParts_84 : decode cX0_sortParts 84 = .ok (.iastore, 1) := by decide +kernel
theorem dX0_sortParts_85 : decode cX0_sortParts 85 = .ok (.return_, 1) := by decide +kernel
theorem dX1_init_0 : decode cX1_init 0 = .ok (.aload_n 0, 1) := by decide +kernel
theorem dX1_init_1 : decode cX1_init 1 = .ok (.invokespecial 1, 3) := by decide +kernel
theorem dX1_init_4 : decode cX1_init 4 = .ok (.aload_n 0, 1) := by decide +kernel
theorem dX1_init_5 : decode cX1_init 5 = .ok (.iconst 0, 1) := by decide +kernel
theorem dX1_init_6 : decode cX1_init 6 = .ok (.invokevirtual 7, 3) := by decide +kernel
theorem dX1_init_9 : decode cX1_init 9 = .ok (.return_, 1) := by decide +kernel
theorem dX1_restart_0 : decode cX1_restart 0 = .ok (.aload_n 0, 1) := by decide +kernel
theorem dX1_restart_1 : decode cX1_restart 1 = .ok (.iload_n 1, 1) := by decide +kernel
theorem dX1_restart_2 : decode cX1_restart 2 = .ok (.putfield 13, 3) := by decide +kernel
theorem dX1_restart_5 : decode cX1_restart 5 = .ok (.aload_n 0, 1) := by decide +kernel
theorem dX1_restart_6 : decode cX1_restart 6 = .ok (.iconst 0, 1) := by decide +kernel
theorem dX1_restart_7 : decode cX1_restart 7 = .ok (.putfield 17, 3) := by decide +kernel
theorem dX1_restart_10 : decode cX1_restart 10 = .ok (.aload_n 0, 1) := by decide +kernel
theorem dX1_restart_11 : decode cX1_restart 11 = .ok (.iconst 0, 1) := by decide +kernel
theorem dX1_restart_12 : decode cX1_restart 12 = .ok (.putfield 20, 3) := by decide +kernel
theorem dX1_restart_15 : decode cX1_restart 15 = .ok (.aload_n 0, 1) := by decide +kernel
theorem dX1_restart_16 : decode cX1_restart 16 = .ok (.ldc2_w 25, 3) := by decide +kernel
theorem dX1_restart_19 : decode cX1_restart 19 = .ok (.putfield 27, 3) := by decide +kernel
theorem dX1_restart_22 : decode cX1_restart 22 = .ok (.aload_n 0, 1) := by decide +kernel
theorem dX1_restart_23 : decode cX1_restart 23 = .ok (.invokevirtual 31, 3) := by decide +kernel
theorem dX1_restart_26 : decode cX1_restart 26 = .ok (.return_, 1) := by decide +kernel
theorem dX1_settle_0 : decode cX1_settle 0 = .ok (.aload_n 0, 1) := by decide +kernel
theorem dX1_settle_1 : decode cX1_settle 1 = .ok (.iconst 0, 1) := by decide +kernel
theorem dX1_settle_2 : decode cX1_settle 2 = .ok (.iconst 0, 1) := by decide +kernel
theorem dX1_settle_3 : decode cX1_settle 3 = .ok (.iconst (-1), 1) := by decide +kernel
theorem dX1_settle_4 : decode cX1_settle 4 = .ok (.invokevirtual 34, 3) := by decide +kernel
theorem dX1_settle_7 : decode cX1_settle 7 = .ok (.return_, 1) := by decide +kernel
theorem dX1_goOn_0 : decode cX1_goOn 0 = .ok (.aload_n 0, 1) := by decide +kernel
theorem dX1_goOn_1 : decode cX1_goOn 1 = .ok (.iload_n 1, 1) := by decide +kernel
theorem dX1_goOn_2 : decode cX1_goOn 2 = .ok (.putfield 38, 3) := by decide +kernel
theorem dX1_goOn_5 : decode cX1_goOn 5 = .ok (.aload_n 0, 1) := by decide +kernel
theorem dX1_goOn_6 : decode cX1_goOn 6 = .ok (.iload_n 2, 1) := by decide +kernel
theorem dX1_goOn_7 : decode cX1_goOn 7 = .ok (.putfield 41, 3) := by decide +kernel
theorem dX1_goOn_10 : decode cX1_goOn 10 = .ok (.aload_n 0, 1) := by decide +kernel
theorem dX1_goOn_11 : decode cX1_goOn 11 = .ok (.iload_n 3, 1) := by decide +kernel
theorem dX1_goOn_12 : decode cX1_goOn 12 = .ok (.putfield 44, 3) := by decide +kernel
theorem dX1_goOn_15 : decode cX1_goOn 15 = .ok (.return_, 1) := by decide +kernel
theorem dX1_end_0 : decode cX1_end 0 = .ok (.aload_n 0, 1) := by decide +kernel
theorem dX1_end_1 : decode cX1_end 1 = .ok (.iload_n 1, 1) := by decide +kernel
theorem dX1_end_2 : decode cX1_end 2 = .ok (.iconst 0, 1) := by decide +kernel
theorem dX1_end_3 : decode cX1_end 3 = .ok (.iload_n 2, 1) := by decide +kernel
theorem dX1_end_4 : decode cX1_end 4 = .ok (.invokevirtual 34, 3) := by decide +kernel
theorem dX1_end_7 : decode cX1_end 7 = .ok (.return_, 1) := by decide +kernel
theorem dX1_arise_0 : decode cX1_arise 0 = .ok (.aload_n 0, 1) := by decide +kernel
theorem dX1_arise_1 : decode cX1_arise 1 = .ok (.dup, 1) := by decide +kernel
theorem dX1_arise_2 : decode cX1_arise 2 = .ok (.getfield 20, 3) := by decide +kernel
theorem dX1_arise_5 : decode cX1_arise 5 = .ok (.iconst 1, 1) := by decide +kernel
theorem dX1_arise_6 : decode cX1_arise 6 = .ok (.iadd, 1) := by decide +kernel
theorem dX1_arise_7 : decode cX1_arise 7 = .ok (.putfield 20, 3) := by decide +kernel
theorem dX1_arise_10 : decode cX1_arise 10 = .ok (.aload_n 0, 1) := by decide +kernel
theorem dX1_arise_11 : decode cX1_arise 11 = .ok (.getfield 20, 3) := by decide +kernel
theorem dX1_arise_14 : decode cX1_arise 14 = .ok (.bipush 20, 2) := by decide +kernel
theorem dX1_arise_16 : decode cX1_arise 16 = .ok (.if_icmp .le 7, 3) := by decide +kernel
theorem dX1_arise_19 : decode cX1_arise 19 = .ok (.iconst 1, 1) := by decide +kernel
theorem dX1_arise_20 : decode cX1_arise 20 = .ok (.goto 4, 3) := by decide +kernel
theorem dX1_arise_23 : decode cX1_arise 23 = .ok (.iconst 0, 1) := by decide +kernel
theorem dX1_arise_24 : decode cX1_arise 24 = .ok (.istore 4, 2) := by decide +kernel
theorem dX1_arise_26 : decode cX1_arise 26 = .ok (.aload_n 0, 1) := by decide +kernel
theorem dX1_arise_27 : decode cX1_arise 27 = .ok (.iload 4, 2) := by decide +kernel
theorem dX1_arise_29 : decode cX1_arise 29 = .ok (.ifCond .eq 8, 3) := by decide +kernel
theorem dX1_arise_32 : decode cX1_arise 32 = .ok (.bipush 10, 2) := by decide +kernel
theorem dX1_arise_34 : decode cX1_arise 34 = .ok (.goto 4, 3) := by decide +kernel
theorem dX1_arise_37 : decode cX1_arise 37 = .ok (.iload_n 1, 1) := by decide +kernel
theorem dX1_arise_38 : decode cX1_arise 38 = .ok (.putfield 38, 3) := by decide +kernel
theorem dX1_arise_41 : decode cX1_arise 41 = .ok (.aload_n 0, 1) := by decide +kernel
theorem dX1_arise_42 : decode cX1_arise 42 = .ok (.iload 4, 2) := by decide +kernel
theorem dX1_arise_44 : decode cX1_arise 44 = .ok (.ifCond .eq 7, 3) := by decide +kernel
theorem dX1_arise_47 : decode cX1_arise 47 = .ok (.iconst 0, 1) := by decide +kernel
theorem dX1_arise_48 : decode cX1_arise 48 = .ok (.goto 4, 3) := by decide +kernel
theorem dX1_arise_51 : decode cX1_arise 51 = .ok (.iload_n 2, 1) := by decide +kernel
theorem dX1_arise_52 : decode cX1_arise 52 = .ok (.putfield 41, 3) := by decide +kernel
theorem dX1_arise_55 : decode cX1_arise 55 = .ok (.aload_n 0, 1) := by decide +kernel
theorem dX1_arise_56 : decode cX1_arise 56 = .ok (.iload_n 3, 1) := by decide +kernel
theorem dX1_arise_57 : decode cX1_arise 57 = .ok (.putfield 44, 3) := by decide +kernel
theorem dX1_arise_60 : decode cX1_arise 60 = .ok (.return_, 1) := by decide +kernel
theorem dX1_takesStep_0 : decode cX1_takesStep 0 = .ok (.aload_n 0, 1) := by decide +kernel
theorem dX1_takesStep_1 : decode cX1_takesStep 1 = .ok (.getfield 17, 3) := by decide +kernel
theorem dX1_takesStep_4 : decode cX1_takesStep 4 = .ok (.aload_n 0, 1) := by decide +kernel
theorem dX1_takesStep_5 : decode cX1_takesStep 5 = .ok (.getfield 13, 3) := by decide +kernel
theorem dX1_takesStep_8 : decode cX1_takesStep 8 = .ok (.if_icmp .ge 15, 3) := by decide +kernel
theorem dX1_takesStep_11 : decode cX1_takesStep 11 = .ok (.aload_n 0, 1) := by decide +kernel
theorem dX1_takesStep_12 : decode cX1_takesStep 12 = .ok (.dup, 1) := by decide +kernel
theorem dX1_takesStep_13 : decode cX1_takesStep 13 = .ok (.getfield 17, 3) := by decide +kernel
theorem dX1_takesStep_16 : decode cX1_takesStep 16 = .ok (.iconst 1, 1) := by decide +kernel
theorem dX1_takesStep_17 : decode cX1_takesStep 17 = .ok (.iadd, 1) := by decide +kernel
theorem dX1_takesStep_18 : decode cX1_takesStep 18 = .ok (.putfield 17, 3) := by decide +kernel
theorem dX1_takesStep_21 : decode cX1_takesStep 21 = .ok (.iconst 1, 1) := by decide +kernel
theorem dX1_takesStep_22 : decode cX1_takesStep 22 = .ok (.ireturn, 1) := by decide +kernel
theorem dX1_takesStep_23 : decode cX1_takesStep 23 = .ok (.aload_n 0, 1) := by decide +kernel
theorem dX1_takesStep_24 : decode cX1_takesStep 24 = .ok (.bipush 9, 2) := by decide +kernel
theorem dX1_takesStep_26 : decode cX1_takesStep 26 = .ok (.putfield 38, 3) := by decide +kernel
theorem dX1_takesStep_29 : decode cX1_takesStep 29 = .ok (.aload_n 0, 1) := by decide +kernel
theorem dX1_takesStep_30 : decode cX1_takesStep 30 = .ok (.iconst 0, 1) := by decide +kernel
theorem dX1_takesStep_31 : decode cX1_takesStep 31 = .ok (.putfield 41, 3) := by decide +kernel
theorem dX1_takesStep_34 : decode cX1_takesStep 34 = .ok (.aload_n 0, 1) := by decide +kernel
theorem dX1_takesStep_35 : decode cX1_takesStep 35 = .ok (.iload_n 1, 1) := by decide +kernel
theorem dX1_takesStep_36 : decode cX1_takesStep 36 = .ok (.putfield 44, 3) := by decide +kernel
theorem dX1_takesStep_39 : decode cX1_takesStep 39 = .ok (.iconst 0, 1) := by decide +kernel
theorem dX1_takesStep_40 : decode cX1_takesStep 40 = .ok (.ireturn, 1) := by decide +kernel
theorem dX1_isFailing_0 : decode cX1_isFailing 0 = .ok (.aload_n 0, 1) := by decide +kernel
theorem dX1_isFailing_1 : decode cX1_isFailing 1 = .ok (.getfield 38, 3) := by decide +kernel
theorem dX1_isFailing_4 : decode cX1_isFailing 4 = .ok (.ifCond .le 16, 3) := by decide +kernel
theorem dX1_isFailing_7 : decode cX1_isFailing 7 = .ok (.aload_n 0, 1) := by decide +kernel
theorem dX1_isFailing_8 : decode cX1_isFailing 8 = .ok (.getfield 38, 3) := by decide +kernel
theorem dX1_isFailing_11 : decode cX1_isFailing 11 = .ok (.bipush 9, 2) := by decide +kernel
theorem dX1_isFailing_13 : decode cX1_isFailing 13 = .ok (.if_icmp .ge 7, 3) := by decide +kernel
theorem dX1_isFailing_16 : decode cX1_isFailing 16 = .ok (.iconst 1, 1) := by decide +kernel
theorem dX1_isFailing_17 : decode cX1_isFailing 17 = .ok (.goto 4, 3) := by decide +kernel
theorem dX1_isFailing_20 : decode cX1_isFailing 20 = .ok (.iconst 0, 1) := by decide +kernel
theorem dX1_isFailing_21 : decode cX1_isFailing 21 = .ok (.ireturn, 1) := by decide +kernel
theorem dX2_of_0 : decode cX2_of 0 = .ok (.iload_n 0, 1) := by decide +kernel
theorem dX2_of_1 : decode cX2_of 1 = .ok (.tableswitch 259 5 28 #[111, 111, 124, 111, 259, 149, 149, 149, 259, 259, 165, 190, 200, 200, 209, 224, 259, 259, 235, 235, 259, 235, 259, 240], 111) := by decide +kernel
theorem dX2_of_112 : decode cX2_of 112 = .ok (.lload_n 1, 1) := by decide +kernel
theorem dX2_of_113 : decode cX2_of 113 = .ok (.invokestatic 7, 3) := by decide +kernel
theorem dX2_of_116 : decode cX2_of 116 = .ok (.lload_n 3, 1) := by decide +kernel
theorem dX2_of_117 : decode cX2_of 117 = .ok (.invokestatic 7, 3) := by decide +kernel
theorem dX2_of_120 : decode cX2_of 120 = .ok (.iconst 0, 1) := by decide +kernel
theorem dX2_of_121 : decode cX2_of 121 = .ok (.invokestatic 13, 3) := by decide +kernel
theorem dX2_of_124 : decode cX2_of 124 = .ok (.ireturn, 1) := by decide +kernel
theorem dX2_of_125 : decode cX2_of 125 = .ok (.lload_n 1, 1) := by decide +kernel
theorem dX2_of_126 : decode cX2_of 126 = .ok (.invokestatic 7, 3) := by decide +kernel
theorem dX2_of_129 : decode cX2_of 129 = .ok (.lload_n 3, 1) := by decide +kernel
theorem dX2_of_130 : decode cX2_of 130 = .ok (.invokestatic 7, 3) := by decide +kernel
theorem dX2_of_133 : decode cX2_of 133 = .ok (.lload_n 3, 1) := by decide +kernel
theorem dX2_of_134 : decode cX2_of 134 = .ok (.invokestatic 17, 3) := by decide +kernel
theorem dX2_of_137 : decode cX2_of 137 = .ok (.ifCond .ne 8, 3) := by decide +kernel
theorem dX2_of_140 : decode cX2_of 140 = .ok (.bipush 6, 2) := by decide +kernel
theorem dX2_of_142 : decode cX2_of 142 = .ok (.goto 4, 3) := by decide +kernel
theorem dX2_of_145 : decode cX2_of 145 = .ok (.iconst 0, 1) := by decide +kernel
theorem dX2_of_146 : decode cX2_of 146 = .ok (.invokestatic 13, 3) := by decide +kernel
theorem dX2_of_149 : decode cX2_of 149 = .ok (.ireturn, 1) := by decide +kernel
theorem dX2_of_150 : decode cX2_of 150 = .ok (.lload_n 1, 1) := by decide +kernel
theorem dX2_of_151 : decode cX2_of 151 = .ok (.invokestatic 7, 3) := by decide +kernel
theorem dX2_of_154 : decode cX2_of 154 = .ok (.lload_n 1, 1) := by decide +kernel
theorem dX2_of_155 : decode cX2_of 155 = .ok (.invokestatic 17, 3) := by decide +kernel
theorem dX2_of_158 : decode cX2_of 158 = .ok (.invokestatic 22, 3) := by decide +kernel
theorem dX2_of_161 : decode cX2_of 161 = .ok (.iconst 0, 1) := by decide +kernel
theorem dX2_of_162 : decode cX2_of 162 = .ok (.invokestatic 13, 3) := by decide +kernel
theorem dX2_of_165 : decode cX2_of 165 = .ok (.ireturn, 1) := by decide +kernel
theorem dX2_of_166 : decode cX2_of 166 = .ok (.lload_n 3, 1) := by decide +kernel
theorem dX2_of_167 : decode cX2_of 167 = .ok (.invokestatic 7, 3) := by decide +kernel
theorem dX2_of_170 : decode cX2_of 170 = .ok (.lload_n 1, 1) := by decide +kernel
theorem dX2_of_171 : decode cX2_of 171 = .ok (.lload_n 1, 1) := by decide +kernel
theorem dX2_of_172 : decode cX2_of 172 = .ok (.invokestatic 26, 3) := by decide +kernel
theorem dX2_of_175 : decode cX2_of 175 = .ok (.invokestatic 30, 3) := by decide +kernel
theorem dX2_of_178 : decode cX2_of 178 = .ok (.lload_n 3, 1) := by decide +kernel
theorem dX2_of_179 : decode cX2_of 179 = .ok (.invokestatic 17, 3) := by decide +kernel
theorem dX2_of_182 : decode cX2_of 182 = .ok (.iload 7, 2) := by decide +kernel
theorem dX2_of_184 : decode cX2_of 184 = .ok (.invokestatic 34, 3) := by decide +kernel
theorem dX2_of_187 : decode cX2_of 187 = .ok (.invokestatic 13, 3) := by decide +kernel
theorem dX2_of_190 : decode cX2_of 190 = .ok (.ireturn, 1) := by decide +kernel
theorem dX2_of_191 : decode cX2_of 191 = .ok (.lload_n 1, 1) := by decide +kernel
theorem dX2_of_192 : decode cX2_of 192 = .ok (.lload_n 3, 1) := by decide +kernel
theorem dX2_of_193 : decode cX2_of 193 = .ok (.lload 5, 2) := by decide +kernel
theorem dX2_of_195 : decode cX2_of 195 = .ok (.iload 7, 2) := by decide +kernel
theorem dX2_of_197 : decode cX2_of 197 = .ok (.invokestatic 38, 3) := by decide +kernel
theorem dX2_of_200 : decode cX2_of 200 = .ok (.ireturn, 1) := by decide +kernel
theorem dX2_of_201 : decode cX2_of 201 = .ok (.lload_n 1, 1) := by decide +kernel
theorem dX2_of_202 : decode cX2_of 202 = .ok (.lload_n 1, 1) := by decide +kernel
theorem dX2_of_203 : decode cX2_of 203 = .ok (.invokestatic 42, 3) := by decide +kernel
theorem dX2_of_206 : decode cX2_of 206 = .ok (.invokestatic 30, 3) := by decide +kernel
theorem dX2_of_209 : decode cX2_of 209 = .ok (.ireturn, 1) := by decide +kernel
theorem dX2_of_210 : decode cX2_of 210 = .ok (.lload_n 1, 1) := by decide +kernel
theorem dX2_of_211 : decode cX2_of 211 = .ok (.lload_n 3, 1) := by decide +kernel
theorem dX2_of_212 : decode cX2_of 212 = .ok (.lload 5, 2) := by decide +kernel
theorem dX2_of_214 : decode cX2_of 214 = .ok (.iload 7, 2) := by decide +kernel
theorem dX2_of_216 : decode cX2_of 216 = .ok (.iload 8, 2) := by decide +kernel
theorem dX2_of_218 : decode cX2_of 218 = .ok (.invokestatic 45, 3) := by decide +kernel
theorem dX2_of_221 : decode cX2_of 221 = .ok (.invokestatic 50, 3) := by decide +kernel
theorem dX2_of_224 : decode cX2_of 224 = .ok (.ireturn, 1) := by decide +kernel
theorem dX2_of_225 : decode cX2_of 225 = .ok (.lload_n 1, 1) := by decide +kernel
theorem dX2_of_226 : decode cX2_of 226 = .ok (.invokestatic 7, 3) := by decide +kernel
theorem dX2_of_229 : decode cX2_of 229 = .ok (.bipush 7, 2) := by decide +kernel
theorem dX2_of_231 : decode cX2_of 231 = .ok (.iconst 0, 1) := by decide +kernel
theorem dX2_of_232 : decode cX2_of 232 = .ok (.invokestatic 13, 3) := by decide +kernel
theorem dX2_of_235 : decode cX2_of 235 = .ok (.ireturn, 1) := by decide +kernel
theorem dX2_of_236 : decode cX2_of 236 = .ok (.lload_n 1, 1) := by decide +kernel
theorem dX2_of_237 : decode cX2_of 237 = .ok (.invokestatic 7, 3) := by decide +kernel
theorem dX2_of_240 : decode cX2_of 240 = .ok (.ireturn, 1) := by decide +kernel
theorem dX2_of_241 : decode cX2_of 241 = .ok (.lload_n 1, 1) := by decide +kernel
theorem dX2_of_242 : decode cX2_of 242 = .ok (.lload_n 1, 1) := by decide +kernel
theorem dX2_of_243 : decode cX2_of 243 = .ok (.invokestatic 53, 3) := by decide +kernel
theorem dX2_of_246 : decode cX2_of 246 = .ok (.bipush 7, 2) := by decide +kernel
theorem dX2_of_248 : decode cX2_of 248 = .ok (.if_icmp .ne 7, 3) := by decide +kernel
theorem dX2_of_251 : decode cX2_of 251 = .ok (.iconst 1, 1) := by decide +kernel
theorem dX2_of_252 : decode cX2_of 252 = .ok (.goto 4, 3) := by decide +kernel
theorem dX2_of_255 : decode cX2_of 255 = .ok (.iconst 0, 1) := by decide +kernel
theorem dX2_of_256 : decode cX2_of 256 = .ok (.invokestatic 30, 3) := by decide +kernel
theorem dX2_of_259 : decode cX2_of 259 = .ok (.ireturn, 1) := by decide +kernel
theorem dX2_of_260 : decode cX2_of 260 = .ok (.iconst 0, 1) := by decide +kernel
theorem dX2_of_261 : decode cX2_of 261 = .ok (.ireturn, 1) := by decide +kernel
theorem dX2_firstOf_0 : decode cX2_firstOf 0 = .ok (.iload_n 0, 1) := by decide +kernel
theorem dX2_firstOf_1 : decode cX2_firstOf 1 = .ok (.ifCond .eq 5, 3) := by decide +kernel
theorem dX2_firstOf_4 : decode cX2_firstOf 4 = .ok (.iload_n 0, 1) := by decide +kernel
theorem dX2_firstOf_5 : decode cX2_firstOf 5 = .ok (.ireturn, 1) := by decide +kernel
theorem dX2_firstOf_6 : decode cX2_firstOf 6 = .ok (.iload_n 1, 1) := by decide +kernel
theorem dX2_firstOf_7 : decode cX2_firstOf 7 = .ok (.ifCond .eq 7, 3) := by decide +kernel
theorem dX2_firstOf_10 : decode cX2_firstOf 10 = .ok (.iload_n 1, 1) := by decide +kernel
theorem dX2_firstOf_11 : decode cX2_firstOf 11 = .ok (.goto 4, 3) := by decide +kernel
theorem dX2_firstOf_14 : decode cX2_firstOf 14 = .ok (.iload_n 2, 1) := by decide +kernel
theorem dX2_firstOf_15 : decode cX2_firstOf 15 = .ok (.ireturn, 1) := by decide +kernel
theorem dX2_ofThing_0 : decode cX2_ofThing 0 = .ok (.iload_n 2, 1) := by decide +kernel
theorem dX2_ofThing_1 : decode cX2_ofThing 1 = .ok (.ifCond .eq 5, 3) := by decide +kernel
theorem dX2_ofThing_4 : decode cX2_ofThing 4 = .ok (.iconst 0, 1) := by decide +kernel
theorem dX2_ofThing_5 : decode cX2_ofThing 5 = .ok (.ireturn, 1) := by decide +kernel
theorem dX2_ofThing_6 : decode cX2_ofThing 6 = .ok (.lload_n 0, 1) := by decide +kernel
theorem dX2_ofThing_7 : decode cX2_ofThing 7 = .ok (.ldc2_w 56, 3) := by decide +kernel
theorem dX2_ofThing_10 : decode cX2_ofThing 10 = .ok (.lcmp, 1) := by decide +kernel
theorem dX2_ofThing_11 : decode cX2_ofThing 11 = .ok (.ifCond .ne 7, 3) := by decide +kernel
theorem dX2_ofThing_14 : decode cX2_ofThing 14 = .ok (.iconst 1, 1) := by decide +kernel
theorem dX2_ofThing_15 : decode cX2_ofThing 15 = .ok (.goto 4, 3) := by decide +kernel
theorem dX2_ofThing_18 : decode cX2_ofThing 18 = .ok (.iconst 4, 1) := by decide +kernel
theorem dX2_ofThing_19 : decode cX2_ofThing 19 = .ok (.ireturn, 1) := by decide +kernel
theorem dX2_ofWhole_0 : decode cX2_ofWhole 0 = .ok (.lload_n 0, 1) := by decide +kernel
theorem dX2_ofWhole_1 : decode cX2_ofWhole 1 = .ok (.lload_n 0, 1) := by decide +kernel
theorem dX2_ofWhole_2 : decode cX2_ofWhole 2 = .ok (.invokestatic 53, 3) := by decide +kernel
theorem dX2_ofWhole_5 : decode cX2_ofWhole 5 = .ok (.ifCond .ne 7, 3) := by decide +kernel
theorem dX2_ofWhole_8 : decode cX2_ofWhole 8 = .ok (.iconst 1, 1) := by decide +kernel
theorem dX2_ofWhole_9 : decode cX2_ofWhole 9 = .ok (.goto 4, 3) := by decide +kernel
theorem dX2_ofWhole_12 : decode cX2_ofWhole 12 = .ok (.iconst 0, 1) := by decide +kernel
theorem dX2_ofWhole_13 : decode cX2_ofWhole 13 = .ok (.invokestatic 30, 3) := by decide +kernel
theorem dX2_ofWhole_16 : decode cX2_ofWhole 16 = .ok (.ireturn, 1) := by decide +kernel
theorem dX2_ofLength_0 : decode cX2_ofLength 0 = .ok (.iload_n 0, 1) := by decide +kernel
theorem dX2_ofLength_1 : decode cX2_ofLength 1 = .ok (.ifCond .ge 5, 3) := by decide +kernel
theorem dX2_ofLength_4 : decode cX2_ofLength 4 = .ok (.iconst 3, 1) := by decide +kernel
theorem dX2_ofLength_5 : decode cX2_ofLength 5 = .ok (.ireturn, 1) := by decide +kernel
theorem dX2_ofLength_6 : decode cX2_ofLength 6 = .ok (.iload_n 0, 1) := by decide +kernel
theorem dX2_ofLength_7 : decode cX2_ofLength 7 = .ok (.bipush 16, 2) := by decide +kernel
theorem dX2_ofLength_9 : decode cX2_ofLength 9 = .ok (.if_icmp .le 8, 3) := by decide +kernel
theorem dX2_ofLength_12 : decode cX2_ofLength 12 = .ok (.bipush 12, 2) := by decide +kernel
theorem dX2_ofLength_14 : decode cX2_ofLength 14 = .ok (.goto 4, 3) := by decide +kernel
theorem dX2_ofLength_17 : decode cX2_ofLength 17 = .ok (.iconst 0, 1) := by decide +kernel
theorem dX2_ofLength_18 : decode cX2_ofLength 18 = .ok (.ireturn, 1) := by decide +kernel
theorem dX2_ofPlace_0 : decode cX2_ofPlace 0 = .ok (.iload_n 0, 1) := by decide +kernel
theorem dX2_ofPlace_1 : decode cX2_ofPlace 1 = .ok (.ifCond .lt 8, 3) := by decide +kernel
theorem dX2_ofPlace_4 : decode cX2_ofPlace 4 = .ok (.iload_n 0, 1) := by decide +kernel
theorem dX2_ofPlace_5 : decode cX2_ofPlace 5 = .ok (.iload_n 1, 1) := by decide +kernel
theorem dX2_ofPlace_6 : decode cX2_ofPlace 6 = .ok (.if_icmp .lt 7, 3) := by decide +kernel
theorem dX2_ofPlace_9 : decode cX2_ofPlace 9 = .ok (.iconst 2, 1) := by decide +kernel
theorem dX2_ofPlace_10 : decode cX2_ofPlace 10 = .ok (.goto 4, 3) := by decide +kernel
theorem dX2_ofPlace_13 : decode cX2_ofPlace 13 = .ok (.iconst 0, 1) := by decide +kernel
theorem dX2_ofPlace_14 : decode cX2_ofPlace 14 = .ok (.ireturn, 1) := by decide +kernel
theorem dX2_ofWrite_0 : decode cX2_ofWrite 0 = .ok (.lload 4, 2) := by decide +kernel
theorem dX2_ofWrite_2 : decode cX2_ofWrite 2 = .ok (.invokestatic 7, 3) := by decide +kernel
theorem dX2_ofWrite_5 : decode cX2_ofWrite 5 = .ok (.istore 7, 2) := by decide +kernel
theorem dX2_ofWrite_7 : decode cX2_ofWrite 7 = .ok (.lload_n 0, 1) := by decide +kernel
theorem dX2_ofWrite_8 : decode cX2_ofWrite 8 = .ok (.invokestatic 60, 3) := by decide +kernel
theorem dX2_ofWrite_11 : decode cX2_ofWrite 11 = .ok (.ifCond .eq 18, 3) := by decide +kernel
theorem dX2_ofWrite_14 : decode cX2_ofWrite 14 = .ok (.lload 4, 2) := by decide +kernel
theorem dX2_ofWrite_16 : decode cX2_ofWrite 16 = .ok (.invokestatic 63, 3) := by decide +kernel
theorem dX2_ofWrite_19 : decode cX2_ofWrite 19 = .ok (.ifCond .eq 7, 3) := by decide +kernel
theorem dX2_ofWrite_22 : decode cX2_ofWrite 22 = .ok (.iconst 0, 1) := by decide +kernel
theorem dX2_ofWrite_23 : decode cX2_ofWrite 23 = .ok (.goto 4, 3) := by decide +kernel
theorem dX2_ofWrite_26 : decode cX2_ofWrite 26 = .ok (.iconst 4, 1) := by decide +kernel
theorem dX2_ofWrite_27 : decode cX2_ofWrite 27 = .ok (.istore 7, 2) := by decide +kernel
theorem dX2_ofWrite_29 : decode cX2_ofWrite 29 = .ok (.lload_n 2, 1) := by decide +kernel
theorem dX2_ofWrite_30 : decode cX2_ofWrite 30 = .ok (.invokestatic 7, 3) := by decide +kernel
theorem dX2_ofWrite_33 : decode cX2_ofWrite 33 = .ok (.iload 7, 2) := by decide +kernel
theorem dX2_ofWrite_35 : decode cX2_ofWrite 35 = .ok (.lload_n 0, 1) := by decide +kernel
theorem dX2_ofWrite_36 : decode cX2_ofWrite 36 = .ok (.lload_n 0, 1) := by decide +kernel
theorem dX2_ofWrite_37 : decode cX2_ofWrite 37 = .ok (.invokestatic 26, 3) := by decide +kernel
theorem dX2_ofWrite_40 : decode cX2_ofWrite 40 = .ok (.invokestatic 30, 3) := by decide +kernel
theorem dX2_ofWrite_43 : decode cX2_ofWrite 43 = .ok (.invokestatic 13, 3) := by decide +kernel
theorem dX2_ofWrite_46 : decode cX2_ofWrite 46 = .ok (.istore 8, 2) := by decide +kernel
theorem dX2_ofWrite_48 : decode cX2_ofWrite 48 = .ok (.iload 8, 2) := by decide +kernel
theorem dX2_ofWrite_50 : decode cX2_ofWrite 50 = .ok (.lload_n 2, 1) := by decide +kernel
theorem dX2_ofWrite_51 : decode cX2_ofWrite 51 = .ok (.invokestatic 17, 3) := by decide +kernel
theorem dX2_ofWrite_54 : decode cX2_ofWrite 54 = .ok (.iload 6, 2) := by decide +kernel
theorem dX2_ofWrite_56 : decode cX2_ofWrite 56 = .ok (.invokestatic 34, 3) := by decide +kernel
theorem dX2_ofWrite_59 : decode cX2_ofWrite 59 = .ok (.lload_n 0, 1) := by decide +kernel
theorem dX2_ofWrite_60 : decode cX2_ofWrite 60 = .ok (.lload 4, 2) := by decide +kernel
theorem dX2_ofWrite_62 : decode cX2_ofWrite 62 = .ok (.invokestatic 66, 3) := by decide +kernel
theorem dX2_ofWrite_65 : decode cX2_ofWrite 65 = .ok (.ifCond .eq 7, 3) := by decide +kernel
theorem dX2_ofWrite_68 : decode cX2_ofWrite 68 = .ok (.iconst 5, 1) := by decide +kernel
theorem dX2_ofWrite_69 : decode cX2_ofWrite 69 = .ok (.goto 4, 3) := by decide +kernel
theorem dX2_ofWrite_72 : decode cX2_ofWrite 72 = .ok (.iconst 0, 1) := by decide +kernel
theorem dX2_ofWrite_73 : decode cX2_ofWrite 73 = .ok (.invokestatic 13, 3) := by decide +kernel
theorem dX2_ofWrite_76 : decode cX2_ofWrite 76 = .ok (.ireturn, 1) := by decide +kernel
theorem dX2_ofCopy_0 : decode cX2_ofCopy 0 = .ok (.lload 4, 2) := by decide +kernel
theorem dX2_ofCopy_2 : decode cX2_ofCopy 2 = .ok (.invokestatic 7, 3) := by decide +kernel
theorem dX2_ofCopy_5 : decode cX2_ofCopy 5 = .ok (.ifCond .eq 9, 3) := by decide +kernel
theorem dX2_ofCopy_8 : decode cX2_ofCopy 8 = .ok (.lload 4, 2) := by decide +kernel
theorem dX2_ofCopy_10 : decode cX2_ofCopy 10 = .ok (.invokestatic 7, 3) := by decide +kernel
theorem dX2_ofCopy_13 : decode cX2_ofCopy 13 = .ok (.ireturn, 1) := by decide +kernel
theorem dX2_ofCopy_14 : decode cX2_ofCopy 14 = .ok (.lload_n 0, 1) := by decide +kernel
theorem dX2_ofCopy_15 : decode cX2_ofCopy 15 = .ok (.ldc2_w 56, 3) := by decide +kernel
theorem dX2_ofCopy_18 : decode cX2_ofCopy 18 = .ok (.lcmp, 1) := by decide +kernel
theorem dX2_ofCopy_19 : decode cX2_ofCopy 19 = .ok (.ifCond .eq 11, 3) := by decide +kernel
theorem dX2_ofCopy_22 : decode cX2_ofCopy 22 = .ok (.lload_n 2, 1) := by decide +kernel
theorem dX2_ofCopy_23 : decode cX2_ofCopy 23 = .ok (.ldc2_w 56, 3) := by decide +kernel
theorem dX2_ofCopy_26 : decode cX2_ofCopy 26 = .ok (.lcmp, 1) := by decide +kernel
theorem dX2_ofCopy_27 : decode cX2_ofCopy 27 = .ok (.ifCond .ne 5, 3) := by decide +kernel
theorem dX2_ofCopy_30 : decode cX2_ofCopy 30 = .ok (.iconst 1, 1) := by decide +kernel
theorem dX2_ofCopy_31 : decode cX2_ofCopy 31 = .ok (.ireturn, 1) := by decide +kernel
theorem dX2_ofCopy_32 : decode cX2_ofCopy 32 = .ok (.lload_n 0, 1) := by decide +kernel
theorem dX2_ofCopy_33 : decode cX2_ofCopy 33 = .ok (.invokestatic 26, 3) := by decide +kernel
theorem dX2_ofCopy_36 : decode cX2_ofCopy 36 = .ok (.ifCond .eq 21, 3) := by decide +kernel
theorem dX2_ofCopy_39 : decode cX2_ofCopy 39 = .ok (.lload_n 2, 1) := by decide +kernel
theorem dX2_ofCopy_40 : decode cX2_ofCopy 40 = .ok (.invokestatic 26, 3) := by decide +kernel
theorem dX2_ofCopy_43 : decode cX2_ofCopy 43 = .ok (.ifCond .eq 14, 3) := by decide +kernel
theorem dX2_ofCopy_46 : decode cX2_ofCopy 46 = .ok (.lload_n 0, 1) := by decide +kernel
theorem dX2_ofCopy_47 : decode cX2_ofCopy 47 = .ok (.invokestatic 60, 3) := by decide +kernel
theorem dX2_ofCopy_50 : decode cX2_ofCopy 50 = .ok (.lload_n 2, 1) := by decide +kernel
theorem dX2_ofCopy_51 : decode cX2_ofCopy 51 = .ok (.invokestatic 60, 3) := by decide +kernel
theorem dX2_ofCopy_54 : decode cX2_ofCopy 54 = .ok (.if_icmp .eq 5, 3) := by decide +kernel
theorem dX2_ofCopy_57 : decode cX2_ofCopy 57 = .ok (.iconst 5, 1) := by decide +kernel
theorem dX2_ofCopy_58 : decode cX2_ofCopy 58 = .ok (.ireturn, 1) := by decide +kernel
theorem dX2_ofCopy_59 : decode cX2_ofCopy 59 = .ok (.lload 4, 2) := by decide +kernel
theorem dX2_ofCopy_61 : decode cX2_ofCopy 61 = .ok (.invokestatic 17, 3) := by decide +kernel
theorem dX2_ofCopy_64 : decode cX2_ofCopy 64 = .ok (.ifCond .lt 13, 3) := by decide +kernel
theorem dX2_ofCopy_67 : decode cX2_ofCopy 67 = .ok (.lload 4, 2) := by decide +kernel
theorem dX2_ofCopy_69 : decode cX2_ofCopy 69 = .ok (.invokestatic 17, 3) := by decide +kernel
theorem dX2_ofCopy_72 : decode cX2_ofCopy 72 = .ok (.iload 6, 2) := by decide +kernel
theorem dX2_ofCopy_74 : decode cX2_ofCopy 74 = .ok (.if_icmp .le 7, 3) := by decide +kernel
theorem dX2_ofCopy_77 : decode cX2_ofCopy 77 = .ok (.iconst 2, 1) := by decide +kernel
theorem dX2_ofCopy_78 : decode cX2_ofCopy 78 = .ok (.goto 4, 3) := by decide +kernel
theorem dX2_ofCopy_81 : decode cX2_ofCopy 81 = .ok (.iconst 0, 1) := by decide +kernel
theorem dX2_ofCopy_82 : decode cX2_ofCopy 82 = .ok (.ireturn, 1) := by decide +kernel
theorem dX3_init_0 : decode cX3_init 0 = .ok (.aload_n 0, 1) := by decide +kernel
theorem dX3_init_1 : decode cX3_init 1 = .ok (.invokespecial 3, 3) := by decide +kernel
theorem dX3_init_4 : decode cX3_init 4 = .ok (.aload_n 0, 1) := by decide +kernel
theorem dX3_init_5 : decode cX3_init 5 = .ok (.sipush 808, 3) := by decide +kernel
theorem dX3_init_8 : decode cX3_init 8 = .ok (.newarray .long, 2) := by decide +kernel
theorem dX3_init_10 : decode cX3_init 10 = .ok (.putfield 11, 3) := by decide +kernel
theorem dX3_init_13 : decode cX3_init 13 = .ok (.aload_n 0, 1) := by decide +kernel
theorem dX3_init_14 : decode cX3_init 14 = .ok (.iconst 0, 1) := by decide +kernel
theorem dX3_init_15 : decode cX3_init 15 = .ok (.putfield 15, 3) := by decide +kernel
theorem dX3_init_18 : decode cX3_init 18 = .ok (.return_, 1) := by decide +kernel
theorem dX3_restart_0 : decode cX3_restart 0 = .ok (.aload_n 0, 1) := by decide +kernel
theorem dX3_restart_1 : decode cX3_restart 1 = .ok (.iconst 0, 1) := by decide +kernel
theorem dX3_restart_2 : decode cX3_restart 2 = .ok (.putfield 15, 3) := by decide +kernel
theorem dX3_restart_5 : decode cX3_restart 5 = .ok (.return_, 1) := by decide +kernel
theorem dX3_open_0 : decode cX3_open 0 = .ok (.aload_n 0, 1) := by decide +kernel
theorem dX3_open_1 : decode cX3_open 1 = .ok (.getfield 15, 3) := by decide +kernel
theorem dX3_open_4 : decode cX3_open 4 = .ok (.bipush 101, 2) := by decide +kernel
theorem dX3_open_6 : decode cX3_open 6 = .ok (.if_icmp .ge 10, 3) := by decide +kernel
theorem dX3_open_9 : decode cX3_open 9 = .ok (.aload_n 0, 1) := by decide +kernel
theorem dX3_open_10 : decode cX3_open 10 = .ok (.getfield 15, 3) := by decide +kernel
theorem dX3_open_13 : decode cX3_open 13 = .ok (.goto 5, 3) := by decide +kernel
theorem dX3_open_16 : decode cX3_open 16 = .ok (.bipush 100, 2) := by decide +kernel
theorem dX3_open_18 : decode cX3_open 18 = .ok (.istore_n 1, 1) := by decide +kernel
theorem dX3_open_19 : decode cX3_open 19 = .ok (.aload_n 0, 1) := by decide +kernel
theorem dX3_open_20 : decode cX3_open 20 = .ok (.iload_n 1, 1) := by decide +kernel
theorem dX3_open_21 : decode cX3_open 21 = .ok (.iconst 1, 1) := by decide +kernel
theorem dX3_open_22 : decode cX3_open 22 = .ok (.iadd, 1) := by decide +kernel
theorem dX3_open_23 : decode cX3_open 23 = .ok (.putfield 15, 3) := by decide +kernel
theorem dX3_open_26 : decode cX3_open 26 = .ok (.bipush 8, 2) := by decide +kernel
theorem dX3_open_28 : decode cX3_open 28 = .ok (.iload_n 1, 1) := by decide +kernel
theorem dX3_open_29 : decode cX3_open 29 = .ok (.imul, 1) := by decide +kernel
theorem dX3_open_30 : decode cX3_open 30 = .ok (.istore_n 2, 1) := by decide +kernel
theorem dX3_open_31 : decode cX3_open 31 = .ok (.iload_n 2, 1) := by decide +kernel
theorem dX3_open_32 : decode cX3_open 32 = .ok (.bipush 8, 2) := by decide +kernel
theorem dX3_open_34 : decode cX3_open 34 = .ok (.aload_n 0, 1) := by decide +kernel
theorem dX3_open_35 : decode cX3_open 35 = .ok (.getfield 15, 3) := by decide +kernel
theorem dX3_open_38 : decode cX3_open 38 = .ok (.imul, 1) := by decide +kernel
theorem dX3_open_39 : decode cX3_open 39 = .ok (.if_icmp .ge 18, 3) := by decide +kernel
theorem dX3_open_42 : decode cX3_open 42 = .ok (.aload_n 0, 1) := by decide +kernel
theorem dX3_open_43 : decode cX3_open 43 = .ok (.getfield 11, 3) := by decide +kernel
theorem dX3_open_46 : decode cX3_open 46 = .ok (.iload_n 2, 1) := by decide +kernel
theorem dX3_open_47 : decode cX3_open 47 = .ok (.ldc2_w 21, 3) := by decide +kernel
theorem dX3_open_50 : decode cX3_open 50 = .ok (.lastore, 1) := by decide +kernel
theorem dX3_open_51 : decode cX3_open 51 = .ok (.iinc 2 1, 3) := by decide +kernel
theorem dX3_open_54 : decode cX3_open 54 = .ok (.goto (-23), 3) := by decide +kernel
theorem dX3_open_57 : decode cX3_open 57 = .ok (.iload_n 1, 1) := by decide +kernel
theorem dX3_open_58 : decode cX3_open 58 = .ok (.ireturn, 1) := by decide +kernel
theorem dX3_read_0 : decode cX3_read 0 = .ok (.aload_n 0, 1) := by decide +kernel
theorem dX3_read_1 : decode cX3_read 1 = .ok (.iload_n 1, 1) := by decide +kernel
theorem dX3_read_2 : decode cX3_read 2 = .ok (.iload_n 2, 1) := by decide +kernel
theorem dX3_read_3 : decode cX3_read 3 = .ok (.invokevirtual 23, 3) := by decide +kernel
theorem dX3_read_6 : decode cX3_read 6 = .ok (.ifCond .eq 17, 3) := by decide +kernel
theorem dX3_read_9 : decode cX3_read 9 = .ok (.aload_n 0, 1) := by decide +kernel
theorem dX3_read_10 : decode cX3_read 10 = .ok (.getfield 11, 3) := by decide +kernel
theorem dX3_read_13 : decode cX3_read 13 = .ok (.bipush 8, 2) := by decide +kernel
theorem dX3_read_15 : decode cX3_read 15 = .ok (.iload_n 1, 1) := by decide +kernel
theorem dX3_read_16 : decode cX3_read 16 = .ok (.imul, 1) := by decide +kernel
theorem dX3_read_17 : decode cX3_read 17 = .ok (.iload_n 2, 1) := by decide +kernel
theorem dX3_read_18 : decode cX3_read 18 = .ok (.iadd, 1) := by decide +kernel
theorem dX3_read_19 : decode cX3_read 19 = .ok (.laload, 1) := by decide +kernel
theorem dX3_read_20 : decode cX3_read 20 = .ok (.goto 6, 3) := by decide +kernel
theorem dX3_read_23 : decode cX3_read 23 = .ok (.ldc2_w 21, 3) := by decide +kernel
theorem dX3_read_26 : decode cX3_read 26 = .ok (.lreturn, 1) := by decide +kernel
theorem dX3_write_0 : decode cX3_write 0 = .ok (.aload_n 0, 1) := by decide +kernel
theorem dX3_write_1 : decode cX3_write 1 = .ok (.iload_n 1, 1) := by decide +kernel
theorem dX3_write_2 : decode cX3_write 2 = .ok (.iload_n 2, 1) := by decide +kernel
theorem dX3_write_3 : decode cX3_write 3 = .ok (.invokevirtual 23, 3) := by decide +kernel
theorem dX3_write_6 : decode cX3_write 6 = .ok (.ifCond .eq 15, 3) := by decide +kernel
theorem dX3_write_9 : decode cX3_write 9 = .ok (.aload_n 0, 1) := by decide +kernel
theorem dX3_write_10 : decode cX3_write 10 = .ok (.getfield 11, 3) := by decide +kernel
theorem dX3_write_13 : decode cX3_write 13 = .ok (.bipush 8, 2) := by decide +kernel
theorem dX3_write_15 : decode cX3_write 15 = .ok (.iload_n 1, 1) := by decide +kernel
theorem dX3_write_16 : decode cX3_write 16 = .ok (.imul, 1) := by decide +kernel
theorem dX3_write_17 : decode cX3_write 17 = .ok (.iload_n 2, 1) := by decide +kernel
theorem dX3_write_18 : decode cX3_write 18 = .ok (.iadd, 1) := by decide +kernel
theorem dX3_write_19 : decode cX3_write 19 = .ok (.lload_n 3, 1) := by decide +kernel
theorem dX3_write_20 : decode cX3_write 20 = .ok (.lastore, 1) := by decide +kernel
theorem dX3_write_21 : decode cX3_write 21 = .ok (.return_, 1) := by decide +kernel
theorem dX3_has_0 : decode cX3_has 0 = .ok (.iload_n 1, 1) := by decide +kernel
theorem dX3_has_1 : decode cX3_has 1 = .ok (.ifCond .lt 25, 3) := by decide +kernel
theorem dX3_has_4 : decode cX3_has 4 = .ok (.iload_n 1, 1) := by decide +kernel
theorem dX3_has_5 : decode cX3_has 5 = .ok (.aload_n 0, 1) := by decide +kernel
theorem dX3_has_6 : decode cX3_has 6 = .ok (.getfield 15, 3) := by decide +kernel
theorem dX3_has_9 : decode cX3_has 9 = .ok (.if_icmp .ge 17, 3) := by decide +kernel
theorem dX3_has_12 : decode cX3_has 12 = .ok (.iload_n 2, 1) := by decide +kernel
theorem dX3_has_13 : decode cX3_has 13 = .ok (.ifCond .lt 13, 3) := by decide +kernel
theorem dX3_has_16 : decode cX3_has 16 = .ok (.iload_n 2, 1) := by decide +kernel
theorem dX3_has_17 : decode cX3_has 17 = .ok (.bipush 8, 2) := by decide +kernel
theorem dX3_has_19 : decode cX3_has 19 = .ok (.if_icmp .ge 7, 3) := by decide +kernel
theorem dX3_has_22 : decode cX3_has 22 = .ok (.iconst 1, 1) := by decide +kernel
theorem dX3_has_23 : decode cX3_has 23 = .ok (.goto 4, 3) := by decide +kernel
theorem dX3_has_26 : decode cX3_has 26 = .ok (.iconst 0, 1) := by decide +kernel
theorem dX3_has_27 : decode cX3_has 27 = .ok (.ireturn, 1) := by decide +kernel
theorem dX5_init_0 : decode cX5_init 0 = .ok (.aload_n 0, 1) := by decide +kernel
theorem dX5_init_1 : decode cX5_init 1 = .ok (.invokespecial 3, 3) := by decide +kernel
theorem dX5_init_4 : decode cX5_init 4 = .ok (.aload_n 0, 1) := by decide +kernel
theorem dX5_init_5 : decode cX5_init 5 = .ok (.sipush 200, 3) := by decide +kernel
theorem dX5_init_8 : decode cX5_init 8 = .ok (.newarray .int, 2) := by decide +kernel
theorem dX5_init_10 : decode cX5_init 10 = .ok (.putfield 9, 3) := by decide +kernel
theorem dX5_init_13 : decode cX5_init 13 = .ok (.aload_n 0, 1) := by decide +kernel
theorem dX5_init_14 : decode cX5_init 14 = .ok (.sipush 200, 3) := by decide +kernel
theorem dX5_init_17 : decode cX5_init 17 = .ok (.newarray .int, 2) := by decide +kernel
theorem dX5_init_19 : decode cX5_init 19 = .ok (.putfield 15, 3) := by decide +kernel
theorem dX5_init_22 : decode cX5_init 22 = .ok (.aload_n 0, 1) := by decide +kernel
theorem dX5_init_23 : decode cX5_init 23 = .ok (.sipush 200, 3) := by decide +kernel
theorem dX5_init_26 : decode cX5_init 26 = .ok (.newarray .int, 2) := by decide +kernel
theorem dX5_init_28 : decode cX5_init 28 = .ok (.putfield 18, 3) := by decide +kernel
theorem dX5_init_31 : decode cX5_init 31 = .ok (.aload_n 0, 1) := by decide +kernel
theorem dX5_init_32 : decode cX5_init 32 = .ok (.sipush 200, 3) := by decide +kernel
theorem dX5_init_35 : decode cX5_init 35 = .ok (.newarray .int, 2) := by decide +kernel
theorem dX5_init_37 : decode cX5_init 37 = .ok (.putfield 21, 3) := by decide +kernel
theorem dX5_init_40 : decode cX5_init 40 = .ok (.aload_n 0, 1) := by decide +kernel
theorem dX5_init_41 : decode cX5_init 41 = .ok (.sipush 200, 3) := by decide +kernel
theorem dX5_init_44 : decode cX5_init 44 = .ok (.newarray .int, 2) := by decide +kernel
theorem dX5_init_46 : decode cX5_init 46 = .ok (.putfield 24, 3) := by decide +kernel
theorem dX5_init_49 : decode cX5_init 49 = .ok (.aload_n 0, 1) := by decide +kernel
theorem dX5_init_50 : decode cX5_init 50 = .ok (.sipush 200, 3) := by decide +kernel
theorem dX5_init_53 : decode cX5_init 53 = .ok (.newarray .long, 2) := by decide +kernel
theorem dX5_init_55 : decode cX5_init 55 = .ok (.putfield 27, 3) := by decide +kernel
theorem dX5_init_58 : decode cX5_init 58 = .ok (.aload_n 0, 1) := by decide +kernel
theorem dX5_init_59 : decode cX5_init 59 = .ok (.iconst 0, 1) := by decide +kernel
theorem dX5_init_60 : decode cX5_init 60 = .ok (.putfield 31, 3) := by decide +kernel
theorem dX5_init_63 : decode cX5_init 63 = .ok (.return_, 1) := by decide +kernel
theorem dX5_restart_0 : decode cX5_restart 0 = .ok (.aload_n 0, 1) := by decide +kernel
theorem dX5_restart_1 : decode cX5_restart 1 = .ok (.iconst 0, 1) := by decide +kernel
theorem dX5_restart_2 : decode cX5_restart 2 = .ok (.putfield 31, 3) := by decide +kernel
theorem dX5_restart_5 : decode cX5_restart 5 = .ok (.return_, 1) := by decide +kernel
theorem dX5_add_0 : decode cX5_add 0 = .ok (.aload_n 0, 1) := by decide +kernel
theorem dX5_add_1 : decode cX5_add 1 = .ok (.getfield 31, 3) := by decide +kernel
theorem dX5_add_4 : decode cX5_add 4 = .ok (.sipush 200, 3) := by decide +kernel
theorem dX5_add_7 : decode cX5_add 7 = .ok (.if_icmp .lt 7, 3) := by decide +kernel
theorem dX5_add_10 : decode cX5_add 10 = .ok (.ldc2_w 37, 3) := by decide +kernel
theorem dX5_add_13 : decode cX5_add 13 = .ok (.lreturn, 1) := by decide +kernel
theorem dX5_add_14 : decode cX5_add 14 = .ok (.aload_n 0, 1) := by decide +kernel
theorem dX5_add_15 : decode cX5_add 15 = .ok (.getfield 31, 3) := by decide +kernel
theorem dX5_add_18 : decode cX5_add 18 = .ok (.istore_n 3, 1) := by decide +kernel
theorem dX5_add_19 : decode cX5_add 19 = .ok (.aload_n 0, 1) := by decide +kernel
theorem dX5_add_20 : decode cX5_add 20 = .ok (.dup, 1) := by decide +kernel
theorem dX5_add_21 : decode cX5_add 21 = .ok (.getfield 31, 3) := by decide +kernel
theorem dX5_add_24 : decode cX5_add 24 = .ok (.iconst 1, 1) := by decide +kernel
theorem dX5_add_25 : decode cX5_add 25 = .ok (.iadd, 1) := by decide +kernel
theorem dX5_add_26 : decode cX5_add 26 = .ok (.putfield 31, 3) := by decide +kernel
theorem dX5_add_29 : decode cX5_add 29 = .ok (.aload_n 0, 1) := by decide +kernel
theorem dX5_add_30 : decode cX5_add 30 = .ok (.getfield 9, 3) := by decide +kernel
theorem dX5_add_33 : decode cX5_add 33 = .ok (.iload_n 3, 1) := by decide +kernel
theorem dX5_add_34 : decode cX5_add 34 = .ok (.iload_n 1, 1) := by decide +kernel
theorem dX5_add_35 : decode cX5_add 35 = .ok (.iastore, 1) := by decide +kernel
theorem dX5_add_36 : decode cX5_add 36 = .ok (.aload_n 0, 1) := by decide +kernel
theorem dX5_add_37 : decode cX5_add 37 = .ok (.getfield 15, 3) := by decide +kernel
theorem dX5_add_40 : decode cX5_add 40 = .ok (.iload_n 3, 1) := by decide +kernel
theorem dX5_add_41 : decode cX5_add 41 = .ok (.iload_n 2, 1) := by decide +kernel
theorem dX5_add_42 : decode cX5_add 42 = .ok (.iastore, 1) := by decide +kernel
theorem dX5_add_43 : decode cX5_add 43 = .ok (.aload_n 0, 1) := by decide +kernel
theorem dX5_add_44 : decode cX5_add 44 = .ok (.getfield 18, 3) := by decide +kernel
theorem dX5_add_47 : decode cX5_add 47 = .ok (.iload_n 3, 1) := by decide +kernel
theorem dX5_add_48 : decode cX5_add 48 = .ok (.iconst 0, 1) := by decide +kernel
theorem dX5_add_49 : decode cX5_add 49 = .ok (.iastore, 1) := by decide +kernel
theorem dX5_add_50 : decode cX5_add 50 = .ok (.bipush 7, 2) := by decide +kernel
theorem dX5_add_52 : decode cX5_add 52 = .ok (.iload_n 3, 1) := by decide +kernel
theorem dX5_add_53 : decode cX5_add 53 = .ok (.invokestatic 39, 3) := by decide +kernel
theorem dX5_add_56 : decode cX5_add 56 = .ok (.lreturn, 1) := by decide +kernel
theorem dX5_has_0 : decode cX5_has 0 = .ok (.iload_n 1, 1) := by decide +kernel
theorem dX5_has_1 : decode cX5_has 1 = .ok (.ifCond .lt 15, 3) := by decide +kernel
theorem dX5_has_4 : decode cX5_has 4 = .ok (.iload_n 1, 1) := by decide +kernel
theorem dX5_has_5 : decode cX5_has 5 = .ok (.aload_n 0, 1) := by decide +kernel
theorem dX5_has_6 : decode cX5_has 6 = .ok (.getfield 31, 3) := by decide +kernel
theorem dX5_has_9 : decode cX5_has 9 = .ok (.if_icmp .ge 7, 3) := by decide +kernel
theorem dX5_has_12 : decode cX5_has 12 = .ok (.iconst 1, 1) := by decide +kernel
theorem dX5_has_13 : decode cX5_has 13 = .ok (.goto 4, 3) := by decide +kernel
theorem dX5_has_16 : decode cX5_has 16 = .ok (.iconst 0, 1) := by decide +kernel
theorem dX5_has_17 : decode cX5_has 17 = .ok (.ireturn, 1) := by decide +kernel
theorem dX5_actOf_0 : decode cX5_actOf 0 = .ok (.aload_n 0, 1) := by decide +kernel
theorem dX5_actOf_1 : decode cX5_actOf 1 = .ok (.iload_n 1, 1) := by decide +kernel
theorem dX5_actOf_2 : decode cX5_actOf 2 = .ok (.invokevirtual 43, 3) := by decide +kernel
theorem dX5_actOf_5 : decode cX5_actOf 5 = .ok (.ifCond .eq 12, 3) := by decide +kernel
theorem dX5_actOf_8 : decode cX5_actOf 8 = .ok (.aload_n 0, 1) := by decide +kernel
theorem dX5_actOf_9 : decode cX5_actOf 9 = .ok (.getfield 9, 3) := by decide +kernel
theorem dX5_actOf_12 : decode cX5_actOf 12 = .ok (.iload_n 1, 1) := by decide +kernel
theorem dX5_actOf_13 : decode cX5_actOf 13 = .ok (.iaload, 1) := by decide +kernel
theorem dX5_actOf_14 : decode cX5_actOf 14 = .ok (.goto 4, 3) := by decide +kernel
theorem dX5_actOf_17 : decode cX5_actOf 17 = .ok (.iconst (-1), 1) := by decide +kernel
theorem dX5_actOf_18 : decode cX5_actOf 18 = .ok (.ireturn, 1) := by decide +kernel
theorem dX5_frameOf_0 : decode cX5_frameOf 0 = .ok (.aload_n 0, 1) := by decide +kernel
theorem dX5_frameOf_1 : decode cX5_frameOf 1 = .ok (.iload_n 1, 1) := by decide +kernel
theorem dX5_frameOf_2 : decode cX5_frameOf 2 = .ok (.invokevirtual 43, 3) := by decide +kernel
theorem dX5_frameOf_5 : decode cX5_frameOf 5 = .ok (.ifCond .eq 12, 3) := by decide +kernel
theorem dX5_frameOf_8 : decode cX5_frameOf 8 = .ok (.aload_n 0, 1) := by decide +kernel
theorem dX5_frameOf_9 : decode cX5_frameOf 9 = .ok (.getfield 15, 3) := by decide +kernel
theorem dX5_frameOf_12 : decode cX5_frameOf 12 = .ok (.iload_n 1, 1) := by decide +kernel
theorem dX5_frameOf_13 : decode cX5_frameOf 13 = .ok (.iaload, 1) := by decide +kernel
theorem dX5_frameOf_14 : decode cX5_frameOf 14 = .ok (.goto 4, 3) := by decide +kernel
theorem dX5_frameOf_17 : decode cX5_frameOf 17 = .ok (.iconst (-1), 1) := by decide +kernel
theorem dX5_frameOf_18 : decode cX5_frameOf 18 = .ok (.ireturn, 1) := by decide +kernel
theorem dX5_stateOf_0 : decode cX5_stateOf 0 = .ok (.aload_n 0, 1) := by decide +kernel
theorem dX5_stateOf_1 : decode cX5_stateOf 1 = .ok (.iload_n 1, 1) := by decide +kernel
theorem dX5_stateOf_2 : decode cX5_stateOf 2 = .ok (.invokevirtual 43, 3) := by decide +kernel
theorem dX5_stateOf_5 : decode cX5_stateOf 5 = .ok (.ifCond .eq 12, 3) := by decide +kernel
theorem dX5_stateOf_8 : decode cX5_stateOf 8 = .ok (.aload_n 0, 1) := by decide +kernel
theorem dX5_stateOf_9 : decode cX5_stateOf 9 = .ok (.getfield 18, 3) := by decide +kernel
theorem dX5_stateOf_12 : decode cX5_stateOf 12 = .ok (.iload_n 1, 1) := by decide +kernel
theorem dX5_stateOf_13 : decode cX5_stateOf 13 = .ok (.iaload, 1) := by decide +kernel
theorem dX5_stateOf_14 : decode cX5_stateOf 14 = .ok (.goto 4, 3) := by decide +kernel
theorem dX5_stateOf_17 : decode cX5_stateOf 17 = .ok (.iconst 0, 1) := by decide +kernel
theorem dX5_stateOf_18 : decode cX5_stateOf 18 = .ok (.ireturn, 1) := by decide +kernel
theorem dX5_failureOf_0 : decode cX5_failureOf 0 = .ok (.aload_n 0, 1) := by decide +kernel
theorem dX5_failureOf_1 : decode cX5_failureOf 1 = .ok (.iload_n 1, 1) := by decide +kernel
theorem dX5_failureOf_2 : decode cX5_failureOf 2 = .ok (.invokevirtual 43, 3) := by decide +kernel
theorem dX5_failureOf_5 : decode cX5_failureOf 5 = .ok (.ifCond .eq 12, 3) := by decide +kernel
theorem dX5_failureOf_8 : decode cX5_failureOf 8 = .ok (.aload_n 0, 1) := by decide +kernel
theorem dX5_failureOf_9 : decode cX5_failureOf 9 = .ok (.getfield 21, 3) := by decide +kernel
theorem dX5_failureOf_12 : decode cX5_failureOf 12 = .ok (.iload_n 1, 1) := by decide +kernel
theorem dX5_failureOf_13 : decode cX5_failureOf 13 = .ok (.iaload, 1) := by decide +kernel
theorem dX5_failureOf_14 : decode cX5_failureOf 14 = .ok (.goto 4, 3) := by decide +kernel
theorem dX5_failureOf_17 : decode cX5_failureOf 17 = .ok (.iconst 0, 1) := by decide +kernel
theorem dX5_failureOf_18 : decode cX5_failureOf 18 = .ok (.ireturn, 1) := by decide +kernel
theorem dX5_codeOf_0 : decode cX5_codeOf 0 = .ok (.aload_n 0, 1) := by decide +kernel
theorem dX5_codeOf_1 : decode cX5_codeOf 1 = .ok (.iload_n 1, 1) := by decide +kernel
theorem dX5_codeOf_2 : decode cX5_codeOf 2 = .ok (.invokevirtual 43, 3) := by decide +kernel
theorem dX5_codeOf_5 : decode cX5_codeOf 5 = .ok (.ifCond .eq 12, 3) := by decide +kernel
theorem dX5_codeOf_8 : decode cX5_codeOf 8 = .ok (.aload_n 0, 1) := by decide +kernel
theorem dX5_codeOf_9 : decode cX5_codeOf 9 = .ok (.getfield 24, 3) := by decide +kernel
theorem dX5_codeOf_12 : decode cX5_codeOf 12 = .ok (.iload_n 1, 1) := by decide +kernel
theorem dX5_codeOf_13 : decode cX5_codeOf 13 = .ok (.iaload, 1) := by decide +kernel
theorem dX5_codeOf_14 : decode cX5_codeOf 14 = .ok (.goto 4, 3) := by decide +kernel
theorem dX5_codeOf_17 : decode cX5_codeOf 17 = .ok (.iconst 0, 1) := by decide +kernel
theorem dX5_codeOf_18 : decode cX5_codeOf 18 = .ok (.ireturn, 1) := by decide +kernel
theorem dX5_valueOf_0 : decode cX5_valueOf 0 = .ok (.aload_n 0, 1) := by decide +kernel
theorem dX5_valueOf_1 : decode cX5_valueOf 1 = .ok (.iload_n 1, 1) := by decide +kernel
theorem dX5_valueOf_2 : decode cX5_valueOf 2 = .ok (.invokevirtual 43, 3) := by decide +kernel
theorem dX5_valueOf_5 : decode cX5_valueOf 5 = .ok (.ifCond .eq 12, 3) := by decide +kernel
theorem dX5_valueOf_8 : decode cX5_valueOf 8 = .ok (.aload_n 0, 1) := by decide +kernel
theorem dX5_valueOf_9 : decode cX5_valueOf 9 = .ok (.getfield 27, 3) := by decide +kernel
theorem dX5_valueOf_12 : decode cX5_valueOf 12 = .ok (.iload_n 1, 1) := by decide +kernel
theorem dX5_valueOf_13 : decode cX5_valueOf 13 = .ok (.laload, 1) := by decide +kernel
theorem dX5_valueOf_14 : decode cX5_valueOf 14 = .ok (.goto 6, 3) := by decide +kernel
theorem dX5_valueOf_17 : decode cX5_valueOf 17 = .ok (.ldc2_w 37, 3) := by decide +kernel
theorem dX5_valueOf_20 : decode cX5_valueOf 20 = .ok (.lreturn, 1) := by decide +kernel
theorem dX5_setState_0 : decode cX5_setState 0 = .ok (.aload_n 0, 1) := by decide +kernel
theorem dX5_setState_1 : decode cX5_setState 1 = .ok (.iload_n 1, 1) := by decide +kernel
theorem dX5_setState_2 : decode cX5_setState 2 = .ok (.invokevirtual 43, 3) := by decide +kernel
theorem dX5_setState_5 : decode cX5_setState 5 = .ok (.ifCond .eq 10, 3) := by decide +kernel
theorem dX5_setState_8 : decode cX5_setState 8 = .ok (.aload_n 0, 1) := by decide +kernel
theorem dX5_setState_9 : decode cX5_setState 9 = .ok (.getfield 18, 3) := by decide +kernel
theorem dX5_setState_12 : decode cX5_setState 12 = .ok (.iload_n 1, 1) := by decide +kernel
theorem dX5_setState_13 : decode cX5_setState 13 = .ok (.iload_n 2, 1) := by decide +kernel
theorem dX5_setState_14 : decode cX5_setState 14 = .ok (.iastore, 1) := by decide +kernel
theorem dX5_setState_15 : decode cX5_setState 15 = .ok (.return_, 1) := by decide +kernel
theorem dX5_finish_0 : decode cX5_finish 0 = .ok (.aload_n 0, 1) := by decide +kernel
theorem dX5_finish_1 : decode cX5_finish 1 = .ok (.iload_n 1, 1) := by decide +kernel
theorem dX5_finish_2 : decode cX5_finish 2 = .ok (.invokevirtual 43, 3) := by decide +kernel
theorem dX5_finish_5 : decode cX5_finish 5 = .ok (.ifCond .eq 17, 3) := by decide +kernel
theorem dX5_finish_8 : decode cX5_finish 8 = .ok (.aload_n 0, 1) := by decide +kernel
theorem dX5_finish_9 : decode cX5_finish 9 = .ok (.getfield 18, 3) := by decide +kernel
theorem dX5_finish_12 : decode cX5_finish 12 = .ok (.iload_n 1, 1) := by decide +kernel
theorem dX5_finish_13 : decode cX5_finish 13 = .ok (.iconst 2, 1) := by decide +kernel
theorem dX5_finish_14 : decode cX5_finish 14 = .ok (.iastore, 1) := by decide +kernel
theorem dX5_finish_15 : decode cX5_finish 15 = .ok (.aload_n 0, 1) := by decide +kernel
theorem dX5_finish_16 : decode cX5_finish 16 = .ok (.getfield 27, 3) := by decide +kernel
theorem dX5_finish_19 : decode cX5_finish 19 = .ok (.iload_n 1, 1) := by decide +kernel
theorem dX5_finish_20 : decode cX5_finish 20 = .ok (.lload_n 2, 1) := by decide +kernel
theorem dX5_finish_21 : decode cX5_finish 21 = .ok (.lastore, 1) := by decide +kernel
theorem dX5_finish_22 : decode cX5_finish 22 = .ok (.return_, 1) := by decide +kernel
theorem dX5_giveUp_0 : decode cX5_giveUp 0 = .ok (.aload_n 0, 1) := by decide +kernel
theorem dX5_giveUp_1 : decode cX5_giveUp 1 = .ok (.iload_n 1, 1) := by decide +kernel
theorem dX5_giveUp_2 : decode cX5_giveUp 2 = .ok (.invokevirtual 43, 3) := by decide +kernel
theorem dX5_giveUp_5 : decode cX5_giveUp 5 = .ok (.ifCond .eq 24, 3) := by decide +kernel
theorem dX5_giveUp_8 : decode cX5_giveUp 8 = .ok (.aload_n 0, 1) := by decide +kernel
theorem dX5_giveUp_9 : decode cX5_giveUp 9 = .ok (.getfield 18, 3) := by decide +kernel
theorem dX5_giveUp_12 : decode cX5_giveUp 12 = .ok (.iload_n 1, 1) := by decide +kernel
theorem dX5_giveUp_13 : decode cX5_giveUp 13 = .ok (.iconst 3, 1) := by decide +kernel
theorem dX5_giveUp_14 : decode cX5_giveUp 14 = .ok (.iastore, 1) := by decide +kernel
theorem dX5_giveUp_15 : decode cX5_giveUp 15 = .ok (.aload_n 0, 1) := by decide +kernel
theorem dX5_giveUp_16 : decode cX5_giveUp 16 = .ok (.getfield 21, 3) := by decide +kernel
theorem dX5_giveUp_19 : decode cX5_giveUp 19 = .ok (.iload_n 1, 1) := by decide +kernel
theorem dX5_giveUp_20 : decode cX5_giveUp 20 = .ok (.iload_n 2, 1) := by decide +kernel
theorem dX5_giveUp_21 : decode cX5_giveUp 21 = .ok (.iastore, 1) := by decide +kernel
theorem dX5_giveUp_22 : decode cX5_giveUp 22 = .ok (.aload_n 0, 1) := by decide +kernel
theorem dX5_giveUp_23 : decode cX5_giveUp 23 = .ok (.getfield 24, 3) := by decide +kernel
theorem dX5_giveUp_26 : decode cX5_giveUp 26 = .ok (.iload_n 1, 1) := by decide +kernel
theorem dX5_giveUp_27 : decode cX5_giveUp 27 = .ok (.iload_n 3, 1) := by decide +kernel
theorem dX5_giveUp_28 : decode cX5_giveUp 28 = .ok (.iastore, 1) := by decide +kernel
theorem dX5_giveUp_29 : decode cX5_giveUp 29 = .ok (.return_, 1) := by decide +kernel
theorem dX6_init_0 : decode cX6_init 0 = .ok (.aload_n 0, 1) := by decide +kernel
theorem dX6_init_1 : decode cX6_init 1 = .ok (.invokespecial 1, 3) := by decide +kernel
theorem dX6_init_4 : decode cX6_init 4 = .ok (.aload_n 0, 1) := by decide +kernel
theorem dX6_init_5 : decode cX6_init 5 = .ok (.aload_n 1, 1) := by decide +kernel
theorem dX6_init_6 : decode cX6_init 6 = .ok (.putfield 7, 3) := by decide +kernel
theorem dX6_init_9 : decode cX6_init 9 = .ok (.aload_n 0, 1) := by decide +kernel
theorem dX6_init_10 : decode cX6_init 10 = .ok (.new 13, 3) := by decide +kernel
theorem dX6_init_13 : decode cX6_init 13 = .ok (.dup, 1) := by decide +kernel
theorem dX6_init_14 : decode cX6_init 14 = .ok (.invokespecial 15, 3) := by decide +kernel
theorem dX6_init_17 : decode cX6_init 17 = .ok (.putfield 16, 3) := by decide +kernel
theorem dX6_init_20 : decode cX6_init 20 = .ok (.aload_n 0, 1) := by decide +kernel
theorem dX6_init_21 : decode cX6_init 21 = .ok (.new 20, 3) := by decide +kernel
theorem dX6_init_24 : decode cX6_init 24 = .ok (.dup, 1) := by decide +kernel
theorem dX6_init_25 : decode cX6_init 25 = .ok (.invokespecial 22, 3) := by decide +kernel
theorem dX6_init_28 : decode cX6_init 28 = .ok (.putfield 23, 3) := by decide +kernel
theorem dX6_init_31 : decode cX6_init 31 = .ok (.aload_n 0, 1) := by decide +kernel
theorem dX6_init_32 : decode cX6_init 32 = .ok (.bipush 40, 2) := by decide +kernel
theorem dX6_init_34 : decode cX6_init 34 = .ok (.newarray .int, 2) := by decide +kernel
theorem dX6_init_36 : decode cX6_init 36 = .ok (.putfield 27, 3) := by decide +kernel
theorem dX6_init_39 : decode cX6_init 39 = .ok (.aload_n 0, 1) := by decide +kernel
theorem dX6_init_40 : decode cX6_init 40 = .ok (.iconst 0, 1) := by decide +kernel
theorem dX6_init_41 : decode cX6_init 41 = .ok (.putfield 31, 3) := by decide +kernel
theorem dX6_init_44 : decode cX6_init 44 = .ok (.aload_n 0, 1) := by decide +kernel
theorem dX6_init_45 : decode cX6_init 45 = .ok (.new 35, 3) := by decide +kernel
theorem dX6_init_48 : decode cX6_init 48 = .ok (.dup, 1) := by decide +kernel
theorem dX6_init_49 : decode cX6_init 49 = .ok (.invokespecial 37, 3) := by decide +kernel
theorem dX6_init_52 : decode cX6_init 52 = .ok (.putfield 38, 3) := by decide +kernel
theorem dX6_init_55 : decode cX6_init 55 = .ok (.aload_n 0, 1) := by decide +kernel
theorem dX6_init_56 : decode cX6_init 56 = .ok (.new 42, 3) := by decide +kernel
theorem dX6_init_59 : decode cX6_init 59 = .ok (.dup, 1) := by decide +kernel
theorem dX6_init_60 : decode cX6_init 60 = .ok (.invokespecial 44, 3) := by decide +kernel
theorem dX6_init_63 : decode cX6_init 63 = .ok (.putfield 45, 3) := by decide +kernel
theorem dX6_init_66 : decode cX6_init 66 = .ok (.aload_n 0, 1) := by decide +kernel
theorem dX6_init_67 : decode cX6_init 67 = .ok (.new 49, 3) := by decide +kernel
theorem dX6_init_70 : decode cX6_init 70 = .ok (.dup, 1) := by decide +kernel
theorem dX6_init_71 : decode cX6_init 71 = .ok (.invokespecial 51, 3) := by decide +kernel
theorem dX6_init_74 : decode cX6_init 74 = .ok (.putfield 52, 3) := by decide +kernel
theorem dX6_init_77 : decode cX6_init 77 = .ok (.aload_n 0, 1) := by decide +kernel
theorem dX6_init_78 : decode cX6_init 78 = .ok (.iconst 0, 1) := by decide +kernel
theorem dX6_init_79 : decode cX6_init 79 = .ok (.putfield 56, 3) := by decide +kernel
theorem dX6_init_82 : decode cX6_init 82 = .ok (.return_, 1) := by decide +kernel
theorem dX6_restart_0 : decode cX6_restart 0 = .ok (.aload_n 0, 1) := by decide +kernel
theorem dX6_restart_1 : decode cX6_restart 1 = .ok (.getfield 16, 3) := by decide +kernel
theorem dX6_restart_4 : decode cX6_restart 4 = .ok (.invokevirtual 59, 3) := by decide +kernel
theorem dX6_restart_7 : decode cX6_restart 7 = .ok (.aload_n 0, 1) := by decide +kernel
theorem dX6_restart_8 : decode cX6_restart 8 = .ok (.getfield 23, 3) := by decide +kernel
theorem dX6_restart_11 : decode cX6_restart 11 = .ok (.iload_n 1, 1) := by decide +kernel
theorem dX6_restart_12 : decode cX6_restart 12 = .ok (.invokevirtual 62, 3) := by decide +kernel
theorem dX6_restart_15 : decode cX6_restart 15 = .ok (.aload_n 0, 1) := by decide +kernel
theorem dX6_restart_16 : decode cX6_restart 16 = .ok (.iconst 0, 1) := by decide +kernel
theorem dX6_restart_17 : decode cX6_restart 17 = .ok (.putfield 31, 3) := by decide +kernel
theorem dX6_restart_20 : decode cX6_restart 20 = .ok (.aload_n 0, 1) := by decide +kernel
theorem dX6_restart_21 : decode cX6_restart 21 = .ok (.getfield 38, 3) := by decide +kernel
theorem dX6_restart_24 : decode cX6_restart 24 = .ok (.invokevirtual 65, 3) := by decide +kernel
theorem dX6_restart_27 : decode cX6_restart 27 = .ok (.aload_n 0, 1) := by decide +kernel
theorem dX6_restart_28 : decode cX6_restart 28 = .ok (.getfield 45, 3) := by decide +kernel
theorem dX6_restart_31 : decode cX6_restart 31 = .ok (.invokevirtual 66, 3) := by decide +kernel
theorem dX6_restart_34 : decode cX6_restart 34 = .ok (.aload_n 0, 1) := by decide +kernel
theorem dX6_restart_35 : decode cX6_restart 35 = .ok (.getfield 52, 3) := by decide +kernel
theorem dX6_restart_38 : decode cX6_restart 38 = .ok (.invokevirtual 67, 3) := by decide +kernel
theorem dX6_restart_41 : decode cX6_restart 41 = .ok (.aload_n 0, 1) := by decide +kernel
theorem dX6_restart_42 : decode cX6_restart 42 = .ok (.iconst 0, 1) := by decide +kernel
theorem dX6_restart_43 : decode cX6_restart 43 = .ok (.putfield 56, 3) := by decide +kernel
theorem dX6_restart_46 : decode cX6_restart 46 = .ok (.return_, 1) := by decide +kernel
theorem dX6_perform_0 : decode cX6_perform 0 = .ok (.aload_n 0, 1) := by decide +kernel
theorem dX6_perform_1 : decode cX6_perform 1 = .ok (.iload_n 2, 1) := by decide +kernel
theorem dX6_perform_2 : decode cX6_perform 2 = .ok (.invokevirtual 68, 3) := by decide +kernel
theorem dX6_perform_5 : decode cX6_perform 5 = .ok (.aload_n 0, 1) := by decide +kernel
theorem dX6_perform_6 : decode cX6_perform 6 = .ok (.iload_n 1, 1) := by decide +kernel
theorem dX6_perform_7 : decode cX6_perform 7 = .ok (.aload_n 0, 1) := by decide +kernel
theorem dX6_perform_8 : decode cX6_perform 8 = .ok (.getfield 38, 3) := by decide +kernel
theorem dX6_perform_11 : decode cX6_perform 11 = .ok (.invokevirtual 69, 3) := by decide +kernel
theorem dX6_perform_14 : decode cX6_perform 14 = .ok (.invokevirtual 73, 3) := by decide +kernel
theorem dX6_perform_17 : decode cX6_perform 17 = .ok (.iconst 0, 1) := by decide +kernel
theorem dX6_perform_18 : decode cX6_perform 18 = .ok (.istore_n 3, 1) := by decide +kernel
theorem dX6_perform_19 : decode cX6_perform 19 = .ok (.iload_n 3, 1) := by decide +kernel
theorem dX6_perform_20 : decode cX6_perform 20 = .ok (.ldc 77, 2) := by decide +kernel
theorem dX6_perform_22 : decode cX6_perform 22 = .ok (.if_icmp .ge 47, 3) := by decide +kernel
theorem dX6_perform_25 : decode cX6_perform 25 = .ok (.aload_n 0, 1) := by decide +kernel
theorem dX6_perform_26 : decode cX6_perform 26 = .ok (.getfield 52, 3) := by decide +kernel
theorem dX6_perform_29 : decode cX6_perform 29 = .ok (.invokevirtual 78, 3) := by decide +kernel
theorem dX6_perform_32 : decode cX6_perform 32 = .ok (.ifCond .ne 37, 3) := by decide +kernel
theorem dX6_perform_35 : decode cX6_perform 35 = .ok (.aload_n 0, 1) := by decide +kernel
theorem dX6_perform_36 : decode cX6_perform 36 = .ok (.getfield 23, 3) := by decide +kernel
theorem dX6_perform_39 : decode cX6_perform 39 = .ok (.getfield 82, 3) := by decide +kernel
theorem dX6_perform_42 : decode cX6_perform 42 = .ok (.ifCond .eq 10, 3) := by decide +kernel
theorem dX6_perform_45 : decode cX6_perform 45 = .ok (.aload_n 0, 1) := by decide +kernel
theorem dX6_perform_46 : decode cX6_perform 46 = .ok (.invokevirtual 85, 3) := by decide +kernel
theorem dX6_perform_49 : decode cX6_perform 49 = .ok (.goto 14, 3) := by decide +kernel
theorem dX6_perform_52 : decode cX6_perform 52 = .ok (.aload_n 0, 1) := by decide +kernel
theorem dX6_perform_53 : decode cX6_perform 53 = .ok (.invokevirtual 88, 3) := by decide +kernel
theorem dX6_perform_56 : decode cX6_perform 56 = .ok (.ifCond .eq 7, 3) := by decide +kernel
theorem dX6_perform_59 : decode cX6_perform 59 = .ok (.aload_n 0, 1) := by decide +kernel
theorem dX6_perform_60 : decode cX6_perform 60 = .ok (.invokevirtual 91, 3) := by decide +kernel
theorem dX6_perform_63 : decode cX6_perform 63 = .ok (.iinc 3 1, 3) := by decide +kernel
theorem dX6_perform_66 : decode cX6_perform 66 = .ok (.goto (-47), 3) := by decide +kernel
theorem dX6_perform_69 : decode cX6_perform 69 = .ok (.return_, 1) := by decide +kernel
theorem dX6_begin_0 : decode cX6_begin 0 = .ok (.aload_n 0, 1) := by decide +kernel
theorem dX6_begin_1 : decode cX6_begin 1 = .ok (.getfield 23, 3) := by decide +kernel
theorem dX6_begin_4 : decode cX6_begin 4 = .ok (.iload_n 1, 1) := by decide +kernel
theorem dX6_begin_5 : decode cX6_begin 5 = .ok (.invokevirtual 94, 3) := by decide +kernel
theorem dX6_begin_8 : decode cX6_begin 8 = .ok (.ifCond .eq 19, 3) := by decide +kernel
theorem dX6_begin_11 : decode cX6_begin 11 = .ok (.aload_n 0, 1) := by decide +kernel
theorem dX6_begin_12 : decode cX6_begin 12 = .ok (.getfield 52, 3) := by decide +kernel
theorem dX6_begin_15 : decode cX6_begin 15 = .ok (.iload_n 1, 1) := by decide +kernel
theorem dX6_begin_16 : decode cX6_begin 16 = .ok (.iload_n 2, 1) := by decide +kernel
theorem dX6_begin_17 : decode cX6_begin 17 = .ok (.aload_n 0, 1) := by decide +kernel
theorem dX6_begin_18 : decode cX6_begin 18 = .ok (.getfield 16, 3) := by decide +kernel
theorem dX6_begin_21 : decode cX6_begin 21 = .ok (.invokevirtual 98, 3) := by decide +kernel
theorem dX6_begin_24 : decode cX6_begin 24 = .ok (.invokevirtual 101, 3) := by decide +kernel
theorem dX6_begin_27 : decode cX6_begin 27 = .ok (.return_, 1) := by decide +kernel
theorem dX6_beginPart_0 : decode cX6_beginPart 0 = .ok (.aload_n 0, 1) := by decide +kernel
theorem dX6_beginPart_1 : decode cX6_beginPart 1 = .ok (.aload_n 0, 1) := by decide +kernel
theorem dX6_beginPart_2 : decode cX6_beginPart 2 = .ok (.getfield 7, 3) := by decide +kernel
theorem dX6_beginPart_5 : decode cX6_beginPart 5 = .ok (.aload_n 0, 1) := by decide +kernel
theorem dX6_beginPart_6 : decode cX6_beginPart 6 = .ok (.getfield 52, 3) := by decide +kernel
theorem dX6_beginPart_9 : decode cX6_beginPart 9 = .ok (.invokevirtual 105, 3) := by decide +kernel
theorem dX6_beginPart_12 : decode cX6_beginPart 12 = .ok (.iload_n 1, 1) := by decide +kernel
theorem dX6_beginPart_13 : decode cX6_beginPart 13 = .ok (.invokevirtual 108, 3) := by decide +kernel
theorem dX6_beginPart_16 : decode cX6_beginPart 16 = .ok (.aload_n 0, 1) := by decide +kernel
theorem dX6_beginPart_17 : decode cX6_beginPart 17 = .ok (.getfield 52, 3) := by decide +kernel
theorem dX6_beginPart_20 : decode cX6_beginPart 20 = .ok (.invokevirtual 114, 3) := by decide +kernel
theorem dX6_beginPart_23 : decode cX6_beginPart 23 = .ok (.invokevirtual 73, 3) := by decide +kernel
theorem dX6_beginPart_26 : decode cX6_beginPart 26 = .ok (.return_, 1) := by decide +kernel
theorem dX6_give_0 : decode cX6_give 0 = .ok (.aload_n 0, 1) := by decide +kernel
theorem dX6_give_1 : decode cX6_give 1 = .ok (.getfield 52, 3) := by decide +kernel
theorem dX6_give_4 : decode cX6_give 4 = .ok (.invokevirtual 117, 3) := by decide +kernel
theorem dX6_give_7 : decode cX6_give 7 = .ok (.aload_n 0, 1) := by decide +kernel
theorem dX6_give_8 : decode cX6_give 8 = .ok (.getfield 52, 3) := by decide +kernel
theorem dX6_give_11 : decode cX6_give 11 = .ok (.invokevirtual 78, 3) := by decide +kernel
theorem dX6_give_14 : decode cX6_give 14 = .ok (.ifCond .eq 14, 3) := by decide +kernel
theorem dX6_give_17 : decode cX6_give 17 = .ok (.aload_n 0, 1) := by decide +kernel
theorem dX6_give_18 : decode cX6_give 18 = .ok (.getfield 23, 3) := by decide +kernel
theorem dX6_give_21 : decode cX6_give 21 = .ok (.lload_n 1, 1) := by decide +kernel
theorem dX6_give_22 : decode cX6_give 22 = .ok (.putfield 120, 3) := by decide +kernel
theorem dX6_give_25 : decode cX6_give 25 = .ok (.goto 11, 3) := by decide +kernel
theorem dX6_give_28 : decode cX6_give 28 = .ok (.aload_n 0, 1) := by decide +kernel
theorem dX6_give_29 : decode cX6_give 29 = .ok (.getfield 52, 3) := by decide +kernel
theorem dX6_give_32 : decode cX6_give 32 = .ok (.lload_n 1, 1) := by decide +kernel
theorem dX6_give_33 : decode cX6_give 33 = .ok (.invokevirtual 124, 3) := by decide +kernel
theorem dX6_give_36 : decode cX6_give 36 = .ok (.return_, 1) := by decide +kernel
theorem dX6_fail_0 : decode cX6_fail 0 = .ok (.aload_n 0, 1) := by decide +kernel
theorem dX6_fail_1 : decode cX6_fail 1 = .ok (.getfield 52, 3) := by decide +kernel
theorem dX6_fail_4 : decode cX6_fail 4 = .ok (.invokevirtual 105, 3) := by decide +kernel
theorem dX6_fail_7 : decode cX6_fail 7 = .ok (.istore_n 3, 1) := by decide +kernel
theorem dX6_fail_8 : decode cX6_fail 8 = .ok (.aload_n 0, 1) := by decide +kernel
theorem dX6_fail_9 : decode cX6_fail 9 = .ok (.getfield 52, 3) := by decide +kernel
theorem dX6_fail_12 : decode cX6_fail 12 = .ok (.invokevirtual 117, 3) := by decide +kernel
theorem dX6_fail_15 : decode cX6_fail 15 = .ok (.aload_n 0, 1) := by decide +kernel
theorem dX6_fail_16 : decode cX6_fail 16 = .ok (.getfield 23, 3) := by decide +kernel
theorem dX6_fail_19 : decode cX6_fail 19 = .ok (.iload_n 1, 1) := by decide +kernel
theorem dX6_fail_20 : decode cX6_fail 20 = .ok (.iload_n 2, 1) := by decide +kernel
theorem dX6_fail_21 : decode cX6_fail 21 = .ok (.iload_n 3, 1) := by decide +kernel
theorem dX6_fail_22 : decode cX6_fail 22 = .ok (.invokevirtual 128, 3) := by decide +kernel
theorem dX6_fail_25 : decode cX6_fail 25 = .ok (.return_, 1) := by decide +kernel
theorem dX6_endRun_0 : decode cX6_endRun 0 = .ok (.aload_n 0, 1) := by decide +kernel
theorem dX6_endRun_1 : decode cX6_endRun 1 = .ok (.getfield 52, 3) := by decide +kernel
theorem dX6_endRun_4 : decode cX6_endRun 4 = .ok (.invokevirtual 105, 3) := by decide +kernel
theorem dX6_endRun_7 : decode cX6_endRun 7 = .ok (.istore_n 2, 1) := by decide +kernel
theorem dX6_endRun_8 : decode cX6_endRun 8 = .ok (.aload_n 0, 1) := by decide +kernel
theorem dX6_endRun_9 : decode cX6_endRun 9 = .ok (.getfield 52, 3) := by decide +kernel
theorem dX6_endRun_12 : decode cX6_endRun 12 = .ok (.invokevirtual 117, 3) := by decide +kernel
theorem dX6_endRun_15 : decode cX6_endRun 15 = .ok (.aload_n 0, 1) := by decide +kernel
theorem dX6_endRun_16 : decode cX6_endRun 16 = .ok (.getfield 23, 3) := by decide +kernel
theorem dX6_endRun_19 : decode cX6_endRun 19 = .ok (.iload_n 1, 1) := by decide +kernel
theorem dX6_endRun_20 : decode cX6_endRun 20 = .ok (.iload_n 2, 1) := by decide +kernel
theorem dX6_endRun_21 : decode cX6_endRun 21 = .ok (.invokevirtual 131, 3) := by decide +kernel
theorem dX6_endRun_24 : decode cX6_endRun 24 = .ok (.return_, 1) := by decide +kernel
theorem dX6_comesToWork_0 : decode cX6_comesToWork 0 = .ok (.aload_n 0, 1) := by decide +kernel
theorem dX6_comesToWork_1 : decode cX6_comesToWork 1 = .ok (.getfield 52, 3) := by decide +kernel
theorem dX6_comesToWork_4 : decode cX6_comesToWork 4 = .ok (.invokevirtual 105, 3) := by decide +kernel
theorem dX6_comesToWork_7 : decode cX6_comesToWork 7 = .ok (.istore_n 1, 1) := by decide +kernel
theorem dX6_comesToWork_8 : decode cX6_comesToWork 8 = .ok (.aload_n 0, 1) := by decide +kernel
theorem dX6_comesToWork_9 : decode cX6_comesToWork 9 = .ok (.getfield 7, 3) := by decide +kernel
theorem dX6_comesToWork_12 : decode cX6_comesToWork 12 = .ok (.iload_n 1, 1) := by decide +kernel
theorem dX6_comesToWork_13 : decode cX6_comesToWork 13 = .ok (.invokevirtual 134, 3) := by decide +kernel
theorem dX6_comesToWork_16 : decode cX6_comesToWork 16 = .ok (.istore_n 2, 1) := by decide +kernel
theorem dX6_comesToWork_17 : decode cX6_comesToWork 17 = .ok (.aload_n 0, 1) := by decide +kernel
theorem dX6_comesToWork_18 : decode cX6_comesToWork 18 = .ok (.getfield 52, 3) := by decide +kernel
theorem dX6_comesToWork_21 : decode cX6_comesToWork 21 = .ok (.invokevirtual 138, 3) := by decide +kernel
theorem dX6_comesToWork_24 : decode cX6_comesToWork 24 = .ok (.iload_n 2, 1) := by decide +kernel
theorem dX6_comesToWork_25 : decode cX6_comesToWork 25 = .ok (.if_icmp .ge 16, 3) := by decide +kernel
theorem dX6_comesToWork_28 : decode cX6_comesToWork 28 = .ok (.aload_n 0, 1) := by decide +kernel
theorem dX6_comesToWork_29 : decode cX6_comesToWork 29 = .ok (.aload_n 0, 1) := by decide +kernel
theorem dX6_comesToWork_30 : decode cX6_comesToWork 30 = .ok (.getfield 52, 3) := by decide +kernel
theorem dX6_comesToWork_33 : decode cX6_comesToWork 33 = .ok (.invokevirtual 138, 3) := by decide +kernel
theorem dX6_comesToWork_36 : decode cX6_comesToWork 36 = .ok (.invokevirtual 141, 3) := by decide +kernel
theorem dX6_comesToWork_39 : decode cX6_comesToWork 39 = .ok (.iconst 0, 1) := by decide +kernel
theorem dX6_comesToWork_40 : decode cX6_comesToWork 40 = .ok (.ireturn, 1) := by decide +kernel
theorem dX6_comesToWork_41 : decode cX6_comesToWork 41 = .ok (.aload_n 0, 1) := by decide +kernel
theorem dX6_comesToWork_42 : decode cX6_comesToWork 42 = .ok (.getfield 52, 3) := by decide +kernel
theorem dX6_comesToWork_45 : decode cX6_comesToWork 45 = .ok (.invokevirtual 138, 3) := by decide +kernel
theorem dX6_comesToWork_48 : decode cX6_comesToWork 48 = .ok (.iload_n 2, 1) := by decide +kernel
theorem dX6_comesToWork_49 : decode cX6_comesToWork 49 = .ok (.if_icmp .gt 19, 3) := by decide +kernel
theorem dX6_comesToWork_52 : decode cX6_comesToWork 52 = .ok (.aload_n 0, 1) := by decide +kernel
theorem dX6_comesToWork_53 : decode cX6_comesToWork 53 = .ok (.aload_n 0, 1) := by decide +kernel
theorem dX6_comesToWork_54 : decode cX6_comesToWork 54 = .ok (.getfield 7, 3) := by decide +kernel
theorem dX6_comesToWork_57 : decode cX6_comesToWork 57 = .ok (.iload_n 1, 1) := by decide +kernel
theorem dX6_comesToWork_58 : decode cX6_comesToWork 58 = .ok (.iconst 0, 1) := by decide +kernel
theorem dX6_comesToWork_59 : decode cX6_comesToWork 59 = .ok (.invokevirtual 144, 3) := by decide +kernel
theorem dX6_comesToWork_62 : decode cX6_comesToWork 62 = .ok (.invokevirtual 147, 3) := by decide +kernel
theorem dX6_comesToWork_65 : decode cX6_comesToWork 65 = .ok (.ifCond .ne 7, 3) := by decide +kernel
theorem dX6_comesToWork_68 : decode cX6_comesToWork 68 = .ok (.iconst 1, 1) := by decide +kernel
theorem dX6_comesToWork_69 : decode cX6_comesToWork 69 = .ok (.goto 4, 3) := by decide +kernel
theorem dX6_comesToWork_72 : decode cX6_comesToWork 72 = .ok (.iconst 0, 1) := by decide +kernel
theorem dX6_comesToWork_73 : decode cX6_comesToWork 73 = .ok (.ireturn, 1) := by decide +kernel
theorem dX6_isStopped_0 : decode cX6_isStopped 0 = .ok (.aload_n 0, 1) := by decide +kernel
theorem dX6_isStopped_1 : decode cX6_isStopped 1 = .ok (.getfield 52, 3) := by decide +kernel
theorem dX6_isStopped_4 : decode cX6_isStopped 4 = .ok (.iconst 0, 1) := by decide +kernel
theorem dX6_isStopped_5 : decode cX6_isStopped 5 = .ok (.invokevirtual 150, 3) := by decide +kernel
theorem dX6_isStopped_8 : decode cX6_isStopped 8 = .ok (.lstore_n 2, 1) := by decide +kernel
theorem dX6_isStopped_9 : decode cX6_isStopped 9 = .ok (.aload_n 0, 1) := by decide +kernel
theorem dX6_isStopped_10 : decode cX6_isStopped 10 = .ok (.getfield 52, 3) := by decide +kernel
theorem dX6_isStopped_13 : decode cX6_isStopped 13 = .ok (.iconst 1, 1) := by decide +kernel
theorem dX6_isStopped_14 : decode cX6_isStopped 14 = .ok (.invokevirtual 150, 3) := by decide +kernel
theorem dX6_isStopped_17 : decode cX6_isStopped 17 = .ok (.lstore 4, 2) := by decide +kernel
theorem dX6_isStopped_19 : decode cX6_isStopped 19 = .ok (.iload_n 1, 1) := by decide +kernel
theorem dX6_isStopped_20 : decode cX6_isStopped 20 = .ok (.lload_n 2, 1) := by decide +kernel
theorem dX6_isStopped_21 : decode cX6_isStopped 21 = .ok (.lload 4, 2) := by decide +kernel
theorem dX6_isStopped_23 : decode cX6_isStopped 23 = .ok (.aload_n 0, 1) := by decide +kernel
theorem dX6_isStopped_24 : decode cX6_isStopped 24 = .ok (.getfield 52, 3) := by decide +kernel
theorem dX6_isStopped_27 : decode cX6_isStopped 27 = .ok (.iconst 2, 1) := by decide +kernel
theorem dX6_isStopped_28 : decode cX6_isStopped 28 = .ok (.invokevirtual 150, 3) := by decide +kernel
theorem dX6_isStopped_31 : decode cX6_isStopped 31 = .ok (.aload_n 0, 1) := by decide +kernel
theorem dX6_isStopped_32 : decode cX6_isStopped 32 = .ok (.getfield 16, 3) := by decide +kernel
theorem dX6_isStopped_35 : decode cX6_isStopped 35 = .ok (.lload_n 2, 1) := by decide +kernel
theorem dX6_isStopped_36 : decode cX6_isStopped 36 = .ok (.invokevirtual 153, 3) := by decide +kernel
theorem dX6_isStopped_39 : decode cX6_isStopped 39 = .ok (.aload_n 0, 1) := by decide +kernel
theorem dX6_isStopped_40 : decode cX6_isStopped 40 = .ok (.getfield 16, 3) := by decide +kernel
theorem dX6_isStopped_43 : decode cX6_isStopped 43 = .ok (.lload 4, 2) := by decide +kernel
theorem dX6_isStopped_45 : decode cX6_isStopped 45 = .ok (.invokevirtual 153, 3) := by decide +kernel
theorem dX6_isStopped_48 : decode cX6_isStopped 48 = .ok (.invokestatic 157, 3) := by decide +kernel
theorem dX6_isStopped_51 : decode cX6_isStopped 51 = .ok (.istore 6, 2) := by decide +kernel
theorem dX6_isStopped_53 : decode cX6_isStopped 53 = .ok (.iload 6, 2) := by decide +kernel
theorem dX6_isStopped_55 : decode cX6_isStopped 55 = .ok (.bipush 12, 2) := by decide +kernel
theorem dX6_isStopped_57 : decode cX6_isStopped 57 = .ok (.if_icmp .ne 12, 3) := by decide +kernel
theorem dX6_isStopped_60 : decode cX6_isStopped 60 = .ok (.aload_n 0, 1) := by decide +kernel
theorem dX6_isStopped_61 : decode cX6_isStopped 61 = .ok (.iload 6, 2) := by decide +kernel
theorem dX6_isStopped_63 : decode cX6_isStopped 63 = .ok (.invokevirtual 163, 3) := by decide +kernel
theorem dX6_isStopped_66 : decode cX6_isStopped 66 = .ok (.goto 30, 3) := by decide +kernel
theorem dX6_isStopped_69 : decode cX6_isStopped 69 = .ok (.iload 6, 2) := by decide +kernel
theorem dX6_isStopped_71 : decode cX6_isStopped 71 = .ok (.ifCond .eq 25, 3) := by decide +kernel
theorem dX6_isStopped_74 : decode cX6_isStopped 74 = .ok (.aload_n 0, 1) := by decide +kernel
theorem dX6_isStopped_75 : decode cX6_isStopped 75 = .ok (.iload 6, 2) := by decide +kernel
theorem dX6_isStopped_77 : decode cX6_isStopped 77 = .ok (.iload 6, 2) := by decide +kernel
theorem dX6_isStopped_79 : decode cX6_isStopped 79 = .ok (.bipush 7, 2) := by decide +kernel
theorem dX6_isStopped_81 : decode cX6_isStopped 81 = .ok (.if_icmp .ne 10, 3) := by decide +kernel
theorem dX6_isStopped_84 : decode cX6_isStopped 84 = .ok (.lload_n 2, 1) := by decide +kernel
theorem dX6_isStopped_85 : decode cX6_isStopped 85 = .ok (.invokestatic 166, 3) := by decide +kernel
theorem dX6_isStopped_88 : decode cX6_isStopped 88 = .ok (.goto 5, 3) := by decide +kernel
theorem dX6_isStopped_91 : decode cX6_isStopped 91 = .ok (.iload 6, 2) := by decide +kernel
theorem dX6_isStopped_93 : decode cX6_isStopped 93 = .ok (.invokevirtual 171, 3) := by decide +kernel
theorem dX6_isStopped_96 : decode cX6_isStopped 96 = .ok (.iload 6, 2) := by decide +kernel
theorem dX6_isStopped_98 : decode cX6_isStopped 98 = .ok (.ifCond .eq 7, 3) := by decide +kernel
theorem dX6_isStopped_101 : decode cX6_isStopped 101 = .ok (.iconst 1, 1) := by decide +kernel
theorem dX6_isStopped_102 : decode cX6_isStopped 102 = .ok (.goto 4, 3) := by decide +kernel
theorem dX6_isStopped_105 : decode cX6_isStopped 105 = .ok (.iconst 0, 1) := by decide +kernel
theorem dX6_isStopped_106 : decode cX6_isStopped 106 = .ok (.ireturn, 1) := by decide +kernel
theorem dX6_work_0 : decode cX6_work 0 = .ok (.aload_n 0, 1) := by decide +kernel
theorem dX6_work_1 : decode cX6_work 1 = .ok (.getfield 7, 3) := by decide +kernel
theorem dX6_work_4 : decode cX6_work 4 = .ok (.aload_n 0, 1) := by decide +kernel
theorem dX6_work_5 : decode cX6_work 5 = .ok (.getfield 52, 3) := by decide +kernel
theorem dX6_work_8 : decode cX6_work 8 = .ok (.invokevirtual 105, 3) := by decide +kernel
theorem dX6_work_11 : decode cX6_work 11 = .ok (.iconst 0, 1) := by decide +kernel
theorem dX6_work_12 : decode cX6_work 12 = .ok (.invokevirtual 144, 3) := by decide +kernel
theorem dX6_work_15 : decode cX6_work 15 = .ok (.istore_n 1, 1) := by decide +kernel
theorem dX6_work_16 : decode cX6_work 16 = .ok (.iload_n 1, 1) := by decide +kernel
theorem dX6_work_17 : decode cX6_work 17 = .ok (.tableswitch 224 4 29 #[119, 224, 224, 224, 224, 224, 224, 224, 224, 224, 224, 224, 224, 224, 224, 217, 224, 126, 149, 156, 163, 170, 224, 177, 184, 202], 119) := by decide +kernel
theorem dX6_work_136 : decode cX6_work 136 = .ok (.aload_n 0, 1) := by decide +kernel
theorem dX6_work_137 : decode cX6_work 137 = .ok (.invokevirtual 174, 3) := by decide +kernel
theorem dX6_work_140 : decode cX6_work 140 = .ok (.goto 106, 3) := by decide +kernel
theorem dX6_work_143 : decode cX6_work 143 = .ok (.aload_n 0, 1) := by decide +kernel
theorem dX6_work_144 : decode cX6_work 144 = .ok (.aload_n 0, 1) := by decide +kernel
theorem dX6_work_145 : decode cX6_work 145 = .ok (.getfield 52, 3) := by decide +kernel
theorem dX6_work_148 : decode cX6_work 148 = .ok (.aload_n 0, 1) := by decide +kernel
theorem dX6_work_149 : decode cX6_work 149 = .ok (.getfield 52, 3) := by decide +kernel
theorem dX6_work_152 : decode cX6_work 152 = .ok (.invokevirtual 138, 3) := by decide +kernel
theorem dX6_work_155 : decode cX6_work 155 = .ok (.iconst 1, 1) := by decide +kernel
theorem dX6_work_156 : decode cX6_work 156 = .ok (.isub, 1) := by decide +kernel
theorem dX6_work_157 : decode cX6_work 157 = .ok (.invokevirtual 150, 3) := by decide +kernel
theorem dX6_work_160 : decode cX6_work 160 = .ok (.invokevirtual 177, 3) := by decide +kernel
theorem dX6_work_163 : decode cX6_work 163 = .ok (.goto 83, 3) := by decide +kernel
theorem dX6_work_166 : decode cX6_work 166 = .ok (.aload_n 0, 1) := by decide +kernel
theorem dX6_work_167 : decode cX6_work 167 = .ok (.invokevirtual 180, 3) := by decide +kernel
theorem dX6_work_170 : decode cX6_work 170 = .ok (.goto 76, 3) := by decide +kernel
theorem dX6_work_173 : decode cX6_work 173 = .ok (.aload_n 0, 1) := by decide +kernel
theorem dX6_work_174 : decode cX6_work 174 = .ok (.invokevirtual 183, 3) := by decide +kernel
theorem dX6_work_177 : decode cX6_work 177 = .ok (.goto 69, 3) := by decide +kernel
theorem dX6_work_180 : decode cX6_work 180 = .ok (.aload_n 0, 1) := by decide +kernel
theorem dX6_work_181 : decode cX6_work 181 = .ok (.invokevirtual 186, 3) := by decide +kernel
theorem dX6_work_184 : decode cX6_work 184 = .ok (.goto 62, 3) := by decide +kernel
