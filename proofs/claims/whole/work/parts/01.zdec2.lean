theorem dX6_work_187 : decode cX6_work 187 = .ok (.aload_n 0, 1) := by decide +kernel
theorem dX6_work_188 : decode cX6_work 188 = .ok (.invokevirtual 189, 3) := by decide +kernel
theorem dX6_work_191 : decode cX6_work 191 = .ok (.goto 55, 3) := by decide +kernel
theorem dX6_work_194 : decode cX6_work 194 = .ok (.aload_n 0, 1) := by decide +kernel
theorem dX6_work_195 : decode cX6_work 195 = .ok (.invokevirtual 192, 3) := by decide +kernel
theorem dX6_work_198 : decode cX6_work 198 = .ok (.goto 48, 3) := by decide +kernel
theorem dX6_work_201 : decode cX6_work 201 = .ok (.aload_n 0, 1) := by decide +kernel
theorem dX6_work_202 : decode cX6_work 202 = .ok (.aload_n 0, 1) := by decide +kernel
theorem dX6_work_203 : decode cX6_work 203 = .ok (.getfield 52, 3) := by decide +kernel
theorem dX6_work_206 : decode cX6_work 206 = .ok (.iconst 0, 1) := by decide +kernel
theorem dX6_work_207 : decode cX6_work 207 = .ok (.invokevirtual 150, 3) := by decide +kernel
theorem dX6_work_210 : decode cX6_work 210 = .ok (.invokestatic 166, 3) := by decide +kernel
theorem dX6_work_213 : decode cX6_work 213 = .ok (.invokevirtual 195, 3) := by decide +kernel
theorem dX6_work_216 : decode cX6_work 216 = .ok (.goto 30, 3) := by decide +kernel
theorem dX6_work_219 : decode cX6_work 219 = .ok (.aload_n 0, 1) := by decide +kernel
theorem dX6_work_220 : decode cX6_work 220 = .ok (.aload_n 0, 1) := by decide +kernel
theorem dX6_work_221 : decode cX6_work 221 = .ok (.getfield 52, 3) := by decide +kernel
theorem dX6_work_224 : decode cX6_work 224 = .ok (.iconst 0, 1) := by decide +kernel
theorem dX6_work_225 : decode cX6_work 225 = .ok (.invokevirtual 150, 3) := by decide +kernel
theorem dX6_work_228 : decode cX6_work 228 = .ok (.invokevirtual 177, 3) := by decide +kernel
theorem dX6_work_231 : decode cX6_work 231 = .ok (.goto 15, 3) := by decide +kernel
theorem dX6_work_234 : decode cX6_work 234 = .ok (.aload_n 0, 1) := by decide +kernel
theorem dX6_work_235 : decode cX6_work 235 = .ok (.invokevirtual 198, 3) := by decide +kernel
theorem dX6_work_238 : decode cX6_work 238 = .ok (.goto 8, 3) := by decide +kernel
theorem dX6_work_241 : decode cX6_work 241 = .ok (.aload_n 0, 1) := by decide +kernel
theorem dX6_work_242 : decode cX6_work 242 = .ok (.iload_n 1, 1) := by decide +kernel
theorem dX6_work_243 : decode cX6_work 243 = .ok (.invokevirtual 201, 3) := by decide +kernel
theorem dX6_work_246 : decode cX6_work 246 = .ok (.return_, 1) := by decide +kernel
theorem dX6_keep_0 : decode cX6_keep 0 = .ok (.aload_n 0, 1) := by decide +kernel
theorem dX6_keep_1 : decode cX6_keep 1 = .ok (.getfield 52, 3) := by decide +kernel
theorem dX6_keep_4 : decode cX6_keep 4 = .ok (.invokevirtual 138, 3) := by decide +kernel
theorem dX6_keep_7 : decode cX6_keep 7 = .ok (.iconst 1, 1) := by decide +kernel
theorem dX6_keep_8 : decode cX6_keep 8 = .ok (.if_icmp .ne 48, 3) := by decide +kernel
theorem dX6_keep_11 : decode cX6_keep 11 = .ok (.aload_n 0, 1) := by decide +kernel
theorem dX6_keep_12 : decode cX6_keep 12 = .ok (.getfield 38, 3) := by decide +kernel
theorem dX6_keep_15 : decode cX6_keep 15 = .ok (.aload_n 0, 1) := by decide +kernel
theorem dX6_keep_16 : decode cX6_keep 16 = .ok (.getfield 52, 3) := by decide +kernel
theorem dX6_keep_19 : decode cX6_keep 19 = .ok (.invokevirtual 114, 3) := by decide +kernel
theorem dX6_keep_22 : decode cX6_keep 22 = .ok (.aload_n 0, 1) := by decide +kernel
theorem dX6_keep_23 : decode cX6_keep 23 = .ok (.getfield 7, 3) := by decide +kernel
theorem dX6_keep_26 : decode cX6_keep 26 = .ok (.aload_n 0, 1) := by decide +kernel
theorem dX6_keep_27 : decode cX6_keep 27 = .ok (.getfield 52, 3) := by decide +kernel
theorem dX6_keep_30 : decode cX6_keep 30 = .ok (.invokevirtual 105, 3) := by decide +kernel
theorem dX6_keep_33 : decode cX6_keep 33 = .ok (.iconst 2, 1) := by decide +kernel
theorem dX6_keep_34 : decode cX6_keep 34 = .ok (.invokevirtual 144, 3) := by decide +kernel
theorem dX6_keep_37 : decode cX6_keep 37 = .ok (.aload_n 0, 1) := by decide +kernel
theorem dX6_keep_38 : decode cX6_keep 38 = .ok (.getfield 52, 3) := by decide +kernel
theorem dX6_keep_41 : decode cX6_keep 41 = .ok (.iconst 0, 1) := by decide +kernel
theorem dX6_keep_42 : decode cX6_keep 42 = .ok (.invokevirtual 150, 3) := by decide +kernel
theorem dX6_keep_45 : decode cX6_keep 45 = .ok (.invokevirtual 204, 3) := by decide +kernel
theorem dX6_keep_48 : decode cX6_keep 48 = .ok (.aload_n 0, 1) := by decide +kernel
theorem dX6_keep_49 : decode cX6_keep 49 = .ok (.iconst 1, 1) := by decide +kernel
theorem dX6_keep_50 : decode cX6_keep 50 = .ok (.invokevirtual 141, 3) := by decide +kernel
theorem dX6_keep_53 : decode cX6_keep 53 = .ok (.goto 15, 3) := by decide +kernel
theorem dX6_keep_56 : decode cX6_keep 56 = .ok (.aload_n 0, 1) := by decide +kernel
theorem dX6_keep_57 : decode cX6_keep 57 = .ok (.aload_n 0, 1) := by decide +kernel
theorem dX6_keep_58 : decode cX6_keep 58 = .ok (.getfield 52, 3) := by decide +kernel
theorem dX6_keep_61 : decode cX6_keep 61 = .ok (.iconst 1, 1) := by decide +kernel
theorem dX6_keep_62 : decode cX6_keep 62 = .ok (.invokevirtual 150, 3) := by decide +kernel
theorem dX6_keep_65 : decode cX6_keep 65 = .ok (.invokevirtual 177, 3) := by decide +kernel
theorem dX6_keep_68 : decode cX6_keep 68 = .ok (.return_, 1) := by decide +kernel
theorem dX6_doAlways_0 : decode cX6_doAlways 0 = .ok (.aload_n 0, 1) := by decide +kernel
theorem dX6_doAlways_1 : decode cX6_doAlways 1 = .ok (.getfield 52, 3) := by decide +kernel
theorem dX6_doAlways_4 : decode cX6_doAlways 4 = .ok (.invokevirtual 138, 3) := by decide +kernel
theorem dX6_doAlways_7 : decode cX6_doAlways 7 = .ok (.iconst 1, 1) := by decide +kernel
theorem dX6_doAlways_8 : decode cX6_doAlways 8 = .ok (.if_icmp .ne 11, 3) := by decide +kernel
theorem dX6_doAlways_11 : decode cX6_doAlways 11 = .ok (.aload_n 0, 1) := by decide +kernel
theorem dX6_doAlways_12 : decode cX6_doAlways 12 = .ok (.iconst 1, 1) := by decide +kernel
theorem dX6_doAlways_13 : decode cX6_doAlways 13 = .ok (.invokevirtual 141, 3) := by decide +kernel
theorem dX6_doAlways_16 : decode cX6_doAlways 16 = .ok (.goto 46, 3) := by decide +kernel
theorem dX6_doAlways_19 : decode cX6_doAlways 19 = .ok (.aload_n 0, 1) := by decide +kernel
theorem dX6_doAlways_20 : decode cX6_doAlways 20 = .ok (.getfield 52, 3) := by decide +kernel
theorem dX6_doAlways_23 : decode cX6_doAlways 23 = .ok (.invokevirtual 208, 3) := by decide +kernel
theorem dX6_doAlways_26 : decode cX6_doAlways 26 = .ok (.ifCond .eq 24, 3) := by decide +kernel
theorem dX6_doAlways_29 : decode cX6_doAlways 29 = .ok (.aload_n 0, 1) := by decide +kernel
theorem dX6_doAlways_30 : decode cX6_doAlways 30 = .ok (.getfield 52, 3) := by decide +kernel
theorem dX6_doAlways_33 : decode cX6_doAlways 33 = .ok (.aload_n 0, 1) := by decide +kernel
theorem dX6_doAlways_34 : decode cX6_doAlways 34 = .ok (.getfield 23, 3) := by decide +kernel
theorem dX6_doAlways_37 : decode cX6_doAlways 37 = .ok (.invokevirtual 211, 3) := by decide +kernel
theorem dX6_doAlways_40 : decode cX6_doAlways 40 = .ok (.aload_n 0, 1) := by decide +kernel
theorem dX6_doAlways_41 : decode cX6_doAlways 41 = .ok (.getfield 52, 3) := by decide +kernel
theorem dX6_doAlways_44 : decode cX6_doAlways 44 = .ok (.invokevirtual 117, 3) := by decide +kernel
theorem dX6_doAlways_47 : decode cX6_doAlways 47 = .ok (.goto 15, 3) := by decide +kernel
theorem dX6_doAlways_50 : decode cX6_doAlways 50 = .ok (.aload_n 0, 1) := by decide +kernel
theorem dX6_doAlways_51 : decode cX6_doAlways 51 = .ok (.aload_n 0, 1) := by decide +kernel
theorem dX6_doAlways_52 : decode cX6_doAlways 52 = .ok (.getfield 52, 3) := by decide +kernel
theorem dX6_doAlways_55 : decode cX6_doAlways 55 = .ok (.iconst 0, 1) := by decide +kernel
theorem dX6_doAlways_56 : decode cX6_doAlways 56 = .ok (.invokevirtual 150, 3) := by decide +kernel
theorem dX6_doAlways_59 : decode cX6_doAlways 59 = .ok (.invokevirtual 177, 3) := by decide +kernel
theorem dX6_doAlways_62 : decode cX6_doAlways 62 = .ok (.return_, 1) := by decide +kernel
theorem dX6_choose_0 : decode cX6_choose 0 = .ok (.aload_n 0, 1) := by decide +kernel
theorem dX6_choose_1 : decode cX6_choose 1 = .ok (.getfield 52, 3) := by decide +kernel
theorem dX6_choose_4 : decode cX6_choose 4 = .ok (.invokevirtual 138, 3) := by decide +kernel
theorem dX6_choose_7 : decode cX6_choose 7 = .ok (.iconst 1, 1) := by decide +kernel
theorem dX6_choose_8 : decode cX6_choose 8 = .ok (.if_icmp .ne 29, 3) := by decide +kernel
theorem dX6_choose_11 : decode cX6_choose 11 = .ok (.aload_n 0, 1) := by decide +kernel
theorem dX6_choose_12 : decode cX6_choose 12 = .ok (.aload_n 0, 1) := by decide +kernel
theorem dX6_choose_13 : decode cX6_choose 13 = .ok (.getfield 52, 3) := by decide +kernel
theorem dX6_choose_16 : decode cX6_choose 16 = .ok (.iconst 0, 1) := by decide +kernel
theorem dX6_choose_17 : decode cX6_choose 17 = .ok (.invokevirtual 150, 3) := by decide +kernel
theorem dX6_choose_20 : decode cX6_choose 20 = .ok (.invokestatic 166, 3) := by decide +kernel
theorem dX6_choose_23 : decode cX6_choose 23 = .ok (.ifCond .eq 7, 3) := by decide +kernel
theorem dX6_choose_26 : decode cX6_choose 26 = .ok (.iconst 1, 1) := by decide +kernel
theorem dX6_choose_27 : decode cX6_choose 27 = .ok (.goto 4, 3) := by decide +kernel
theorem dX6_choose_30 : decode cX6_choose 30 = .ok (.iconst 2, 1) := by decide +kernel
theorem dX6_choose_31 : decode cX6_choose 31 = .ok (.invokevirtual 141, 3) := by decide +kernel
theorem dX6_choose_34 : decode cX6_choose 34 = .ok (.goto 15, 3) := by decide +kernel
theorem dX6_choose_37 : decode cX6_choose 37 = .ok (.aload_n 0, 1) := by decide +kernel
theorem dX6_choose_38 : decode cX6_choose 38 = .ok (.aload_n 0, 1) := by decide +kernel
theorem dX6_choose_39 : decode cX6_choose 39 = .ok (.getfield 52, 3) := by decide +kernel
theorem dX6_choose_42 : decode cX6_choose 42 = .ok (.iconst 1, 1) := by decide +kernel
theorem dX6_choose_43 : decode cX6_choose 43 = .ok (.invokevirtual 150, 3) := by decide +kernel
theorem dX6_choose_46 : decode cX6_choose 46 = .ok (.invokevirtual 177, 3) := by decide +kernel
theorem dX6_choose_49 : decode cX6_choose 49 = .ok (.return_, 1) := by decide +kernel
theorem dX6_loop_0 : decode cX6_loop 0 = .ok (.aload_n 0, 1) := by decide +kernel
theorem dX6_loop_1 : decode cX6_loop 1 = .ok (.getfield 52, 3) := by decide +kernel
theorem dX6_loop_4 : decode cX6_loop 4 = .ok (.invokevirtual 138, 3) := by decide +kernel
theorem dX6_loop_7 : decode cX6_loop 7 = .ok (.iconst 2, 1) := by decide +kernel
theorem dX6_loop_8 : decode cX6_loop 8 = .ok (.if_icmp .ne 10, 3) := by decide +kernel
theorem dX6_loop_11 : decode cX6_loop 11 = .ok (.aload_n 0, 1) := by decide +kernel
theorem dX6_loop_12 : decode cX6_loop 12 = .ok (.invokevirtual 215, 3) := by decide +kernel
theorem dX6_loop_15 : decode cX6_loop 15 = .ok (.goto 32, 3) := by decide +kernel
theorem dX6_loop_18 : decode cX6_loop 18 = .ok (.aload_n 0, 1) := by decide +kernel
theorem dX6_loop_19 : decode cX6_loop 19 = .ok (.getfield 52, 3) := by decide +kernel
theorem dX6_loop_22 : decode cX6_loop 22 = .ok (.iconst 0, 1) := by decide +kernel
theorem dX6_loop_23 : decode cX6_loop 23 = .ok (.invokevirtual 150, 3) := by decide +kernel
theorem dX6_loop_26 : decode cX6_loop 26 = .ok (.invokestatic 166, 3) := by decide +kernel
theorem dX6_loop_29 : decode cX6_loop 29 = .ok (.ifCond .eq 11, 3) := by decide +kernel
theorem dX6_loop_32 : decode cX6_loop 32 = .ok (.aload_n 0, 1) := by decide +kernel
theorem dX6_loop_33 : decode cX6_loop 33 = .ok (.iconst 1, 1) := by decide +kernel
theorem dX6_loop_34 : decode cX6_loop 34 = .ok (.invokevirtual 141, 3) := by decide +kernel
theorem dX6_loop_37 : decode cX6_loop 37 = .ok (.goto 10, 3) := by decide +kernel
theorem dX6_loop_40 : decode cX6_loop 40 = .ok (.aload_n 0, 1) := by decide +kernel
theorem dX6_loop_41 : decode cX6_loop 41 = .ok (.ldc2_w 218, 3) := by decide +kernel
theorem dX6_loop_44 : decode cX6_loop 44 = .ok (.invokevirtual 177, 3) := by decide +kernel
theorem dX6_loop_47 : decode cX6_loop 47 = .ok (.return_, 1) := by decide +kernel
theorem dX6_askAgain_0 : decode cX6_askAgain 0 = .ok (.aload_n 0, 1) := by decide +kernel
theorem dX6_askAgain_1 : decode cX6_askAgain 1 = .ok (.getfield 23, 3) := by decide +kernel
theorem dX6_askAgain_4 : decode cX6_askAgain 4 = .ok (.aload_n 0, 1) := by decide +kernel
theorem dX6_askAgain_5 : decode cX6_askAgain 5 = .ok (.getfield 52, 3) := by decide +kernel
theorem dX6_askAgain_8 : decode cX6_askAgain 8 = .ok (.invokevirtual 105, 3) := by decide +kernel
theorem dX6_askAgain_11 : decode cX6_askAgain 11 = .ok (.invokevirtual 94, 3) := by decide +kernel
theorem dX6_askAgain_14 : decode cX6_askAgain 14 = .ok (.ifCond .eq 11, 3) := by decide +kernel
theorem dX6_askAgain_17 : decode cX6_askAgain 17 = .ok (.aload_n 0, 1) := by decide +kernel
theorem dX6_askAgain_18 : decode cX6_askAgain 18 = .ok (.getfield 52, 3) := by decide +kernel
theorem dX6_askAgain_21 : decode cX6_askAgain 21 = .ok (.iconst 0, 1) := by decide +kernel
theorem dX6_askAgain_22 : decode cX6_askAgain 22 = .ok (.invokevirtual 220, 3) := by decide +kernel
theorem dX6_askAgain_25 : decode cX6_askAgain 25 = .ok (.return_, 1) := by decide +kernel
theorem dX6_call_0 : decode cX6_call 0 = .ok (.aload_n 0, 1) := by decide +kernel
theorem dX6_call_1 : decode cX6_call 1 = .ok (.getfield 52, 3) := by decide +kernel
theorem dX6_call_4 : decode cX6_call 4 = .ok (.invokevirtual 138, 3) := by decide +kernel
theorem dX6_call_7 : decode cX6_call 7 = .ok (.iconst 1, 1) := by decide +kernel
theorem dX6_call_8 : decode cX6_call 8 = .ok (.if_icmp .ne 25, 3) := by decide +kernel
theorem dX6_call_11 : decode cX6_call 11 = .ok (.aload_n 0, 1) := by decide +kernel
theorem dX6_call_12 : decode cX6_call 12 = .ok (.aload_n 0, 1) := by decide +kernel
theorem dX6_call_13 : decode cX6_call 13 = .ok (.getfield 7, 3) := by decide +kernel
theorem dX6_call_16 : decode cX6_call 16 = .ok (.aload_n 0, 1) := by decide +kernel
theorem dX6_call_17 : decode cX6_call 17 = .ok (.getfield 52, 3) := by decide +kernel
theorem dX6_call_20 : decode cX6_call 20 = .ok (.invokevirtual 105, 3) := by decide +kernel
theorem dX6_call_23 : decode cX6_call 23 = .ok (.iconst 1, 1) := by decide +kernel
theorem dX6_call_24 : decode cX6_call 24 = .ok (.invokevirtual 144, 3) := by decide +kernel
theorem dX6_call_27 : decode cX6_call 27 = .ok (.invokevirtual 223, 3) := by decide +kernel
theorem dX6_call_30 : decode cX6_call 30 = .ok (.goto 25, 3) := by decide +kernel
theorem dX6_call_33 : decode cX6_call 33 = .ok (.aload_n 0, 1) := by decide +kernel
theorem dX6_call_34 : decode cX6_call 34 = .ok (.dup, 1) := by decide +kernel
theorem dX6_call_35 : decode cX6_call 35 = .ok (.getfield 56, 3) := by decide +kernel
theorem dX6_call_38 : decode cX6_call 38 = .ok (.iconst 1, 1) := by decide +kernel
theorem dX6_call_39 : decode cX6_call 39 = .ok (.isub, 1) := by decide +kernel
theorem dX6_call_40 : decode cX6_call 40 = .ok (.putfield 56, 3) := by decide +kernel
theorem dX6_call_43 : decode cX6_call 43 = .ok (.aload_n 0, 1) := by decide +kernel
theorem dX6_call_44 : decode cX6_call 44 = .ok (.aload_n 0, 1) := by decide +kernel
theorem dX6_call_45 : decode cX6_call 45 = .ok (.getfield 52, 3) := by decide +kernel
theorem dX6_call_48 : decode cX6_call 48 = .ok (.iconst 1, 1) := by decide +kernel
theorem dX6_call_49 : decode cX6_call 49 = .ok (.invokevirtual 150, 3) := by decide +kernel
theorem dX6_call_52 : decode cX6_call 52 = .ok (.invokevirtual 177, 3) := by decide +kernel
theorem dX6_call_55 : decode cX6_call 55 = .ok (.return_, 1) := by decide +kernel
theorem dX6_enter_0 : decode cX6_enter 0 = .ok (.aload_n 0, 1) := by decide +kernel
theorem dX6_enter_1 : decode cX6_enter 1 = .ok (.getfield 7, 3) := by decide +kernel
theorem dX6_enter_4 : decode cX6_enter 4 = .ok (.iload_n 1, 1) := by decide +kernel
theorem dX6_enter_5 : decode cX6_enter 5 = .ok (.invokevirtual 226, 3) := by decide +kernel
theorem dX6_enter_8 : decode cX6_enter 8 = .ok (.ifCond .ne 13, 3) := by decide +kernel
theorem dX6_enter_11 : decode cX6_enter 11 = .ok (.aload_n 0, 1) := by decide +kernel
theorem dX6_enter_12 : decode cX6_enter 12 = .ok (.ldc2_w 218, 3) := by decide +kernel
theorem dX6_enter_15 : decode cX6_enter 15 = .ok (.invokevirtual 177, 3) := by decide +kernel
theorem dX6_enter_18 : decode cX6_enter 18 = .ok (.goto 62, 3) := by decide +kernel
theorem dX6_enter_21 : decode cX6_enter 21 = .ok (.aload_n 0, 1) := by decide +kernel
theorem dX6_enter_22 : decode cX6_enter 22 = .ok (.getfield 56, 3) := by decide +kernel
theorem dX6_enter_25 : decode cX6_enter 25 = .ok (.bipush 8, 2) := by decide +kernel
theorem dX6_enter_27 : decode cX6_enter 27 = .ok (.if_icmp .lt 12, 3) := by decide +kernel
theorem dX6_enter_30 : decode cX6_enter 30 = .ok (.aload_n 0, 1) := by decide +kernel
theorem dX6_enter_31 : decode cX6_enter 31 = .ok (.bipush 11, 2) := by decide +kernel
theorem dX6_enter_33 : decode cX6_enter 33 = .ok (.invokevirtual 163, 3) := by decide +kernel
theorem dX6_enter_36 : decode cX6_enter 36 = .ok (.goto 44, 3) := by decide +kernel
theorem dX6_enter_39 : decode cX6_enter 39 = .ok (.aload_n 0, 1) := by decide +kernel
theorem dX6_enter_40 : decode cX6_enter 40 = .ok (.dup, 1) := by decide +kernel
theorem dX6_enter_41 : decode cX6_enter 41 = .ok (.getfield 56, 3) := by decide +kernel
theorem dX6_enter_44 : decode cX6_enter 44 = .ok (.iconst 1, 1) := by decide +kernel
theorem dX6_enter_45 : decode cX6_enter 45 = .ok (.iadd, 1) := by decide +kernel
theorem dX6_enter_46 : decode cX6_enter 46 = .ok (.putfield 56, 3) := by decide +kernel
theorem dX6_enter_49 : decode cX6_enter 49 = .ok (.aload_n 0, 1) := by decide +kernel
theorem dX6_enter_50 : decode cX6_enter 50 = .ok (.getfield 38, 3) := by decide +kernel
theorem dX6_enter_53 : decode cX6_enter 53 = .ok (.invokevirtual 69, 3) := by decide +kernel
theorem dX6_enter_56 : decode cX6_enter 56 = .ok (.istore_n 2, 1) := by decide +kernel
theorem dX6_enter_57 : decode cX6_enter 57 = .ok (.aload_n 0, 1) := by decide +kernel
theorem dX6_enter_58 : decode cX6_enter 58 = .ok (.getfield 38, 3) := by decide +kernel
theorem dX6_enter_61 : decode cX6_enter 61 = .ok (.iload_n 2, 1) := by decide +kernel
theorem dX6_enter_62 : decode cX6_enter 62 = .ok (.iconst 0, 1) := by decide +kernel
theorem dX6_enter_63 : decode cX6_enter 63 = .ok (.aload_n 0, 1) := by decide +kernel
theorem dX6_enter_64 : decode cX6_enter 64 = .ok (.getfield 52, 3) := by decide +kernel
theorem dX6_enter_67 : decode cX6_enter 67 = .ok (.iconst 0, 1) := by decide +kernel
theorem dX6_enter_68 : decode cX6_enter 68 = .ok (.invokevirtual 150, 3) := by decide +kernel
theorem dX6_enter_71 : decode cX6_enter 71 = .ok (.invokevirtual 204, 3) := by decide +kernel
theorem dX6_enter_74 : decode cX6_enter 74 = .ok (.aload_n 0, 1) := by decide +kernel
theorem dX6_enter_75 : decode cX6_enter 75 = .ok (.iload_n 1, 1) := by decide +kernel
theorem dX6_enter_76 : decode cX6_enter 76 = .ok (.iload_n 2, 1) := by decide +kernel
theorem dX6_enter_77 : decode cX6_enter 77 = .ok (.invokevirtual 73, 3) := by decide +kernel
theorem dX6_enter_80 : decode cX6_enter 80 = .ok (.return_, 1) := by decide +kernel
theorem dX6_delay_0 : decode cX6_delay 0 = .ok (.aload_n 0, 1) := by decide +kernel
theorem dX6_delay_1 : decode cX6_delay 1 = .ok (.aload_n 0, 1) := by decide +kernel
theorem dX6_delay_2 : decode cX6_delay 2 = .ok (.getfield 45, 3) := by decide +kernel
theorem dX6_delay_5 : decode cX6_delay 5 = .ok (.aload_n 0, 1) := by decide +kernel
theorem dX6_delay_6 : decode cX6_delay 6 = .ok (.getfield 7, 3) := by decide +kernel
theorem dX6_delay_9 : decode cX6_delay 9 = .ok (.aload_n 0, 1) := by decide +kernel
theorem dX6_delay_10 : decode cX6_delay 10 = .ok (.getfield 52, 3) := by decide +kernel
theorem dX6_delay_13 : decode cX6_delay 13 = .ok (.invokevirtual 105, 3) := by decide +kernel
theorem dX6_delay_16 : decode cX6_delay 16 = .ok (.iconst 0, 1) := by decide +kernel
theorem dX6_delay_17 : decode cX6_delay 17 = .ok (.invokevirtual 108, 3) := by decide +kernel
theorem dX6_delay_20 : decode cX6_delay 20 = .ok (.aload_n 0, 1) := by decide +kernel
theorem dX6_delay_21 : decode cX6_delay 21 = .ok (.getfield 52, 3) := by decide +kernel
theorem dX6_delay_24 : decode cX6_delay 24 = .ok (.invokevirtual 114, 3) := by decide +kernel
theorem dX6_delay_27 : decode cX6_delay 27 = .ok (.invokevirtual 229, 3) := by decide +kernel
theorem dX6_delay_30 : decode cX6_delay 30 = .ok (.invokevirtual 177, 3) := by decide +kernel
theorem dX6_delay_33 : decode cX6_delay 33 = .ok (.return_, 1) := by decide +kernel
theorem dX6_force_0 : decode cX6_force 0 = .ok (.aload_n 0, 1) := by decide +kernel
theorem dX6_force_1 : decode cX6_force 1 = .ok (.getfield 52, 3) := by decide +kernel
theorem dX6_force_4 : decode cX6_force 4 = .ok (.invokevirtual 138, 3) := by decide +kernel
theorem dX6_force_7 : decode cX6_force 7 = .ok (.iconst 1, 1) := by decide +kernel
theorem dX6_force_8 : decode cX6_force 8 = .ok (.if_icmp .ne 11, 3) := by decide +kernel
theorem dX6_force_11 : decode cX6_force 11 = .ok (.aload_n 0, 1) := by decide +kernel
theorem dX6_force_12 : decode cX6_force 12 = .ok (.iload_n 1, 1) := by decide +kernel
theorem dX6_force_13 : decode cX6_force 13 = .ok (.invokevirtual 233, 3) := by decide +kernel
theorem dX6_force_16 : decode cX6_force 16 = .ok (.goto 31, 3) := by decide +kernel
theorem dX6_force_19 : decode cX6_force 19 = .ok (.aload_n 0, 1) := by decide +kernel
theorem dX6_force_20 : decode cX6_force 20 = .ok (.getfield 45, 3) := by decide +kernel
theorem dX6_force_23 : decode cX6_force 23 = .ok (.iload_n 1, 1) := by decide +kernel
theorem dX6_force_24 : decode cX6_force 24 = .ok (.aload_n 0, 1) := by decide +kernel
theorem dX6_force_25 : decode cX6_force 25 = .ok (.getfield 52, 3) := by decide +kernel
theorem dX6_force_28 : decode cX6_force 28 = .ok (.iconst 1, 1) := by decide +kernel
theorem dX6_force_29 : decode cX6_force 29 = .ok (.invokevirtual 150, 3) := by decide +kernel
theorem dX6_force_32 : decode cX6_force 32 = .ok (.invokevirtual 236, 3) := by decide +kernel
theorem dX6_force_35 : decode cX6_force 35 = .ok (.aload_n 0, 1) := by decide +kernel
theorem dX6_force_36 : decode cX6_force 36 = .ok (.aload_n 0, 1) := by decide +kernel
theorem dX6_force_37 : decode cX6_force 37 = .ok (.getfield 52, 3) := by decide +kernel
theorem dX6_force_40 : decode cX6_force 40 = .ok (.iconst 1, 1) := by decide +kernel
theorem dX6_force_41 : decode cX6_force 41 = .ok (.invokevirtual 150, 3) := by decide +kernel
theorem dX6_force_44 : decode cX6_force 44 = .ok (.invokevirtual 177, 3) := by decide +kernel
theorem dX6_force_47 : decode cX6_force 47 = .ok (.return_, 1) := by decide +kernel
theorem dX6_workLater_0 : decode cX6_workLater 0 = .ok (.aload_n 0, 1) := by decide +kernel
theorem dX6_workLater_1 : decode cX6_workLater 1 = .ok (.getfield 45, 3) := by decide +kernel
theorem dX6_workLater_4 : decode cX6_workLater 4 = .ok (.iload_n 1, 1) := by decide +kernel
theorem dX6_workLater_5 : decode cX6_workLater 5 = .ok (.invokevirtual 240, 3) := by decide +kernel
theorem dX6_workLater_8 : decode cX6_workLater 8 = .ok (.tableswitch 77 1 3 #[28, 39, 54], 28) := by decide +kernel
theorem dX6_workLater_36 : decode cX6_workLater 36 = .ok (.aload_n 0, 1) := by decide +kernel
theorem dX6_workLater_37 : decode cX6_workLater 37 = .ok (.bipush 8, 2) := by decide +kernel
theorem dX6_workLater_39 : decode cX6_workLater 39 = .ok (.bipush 8, 2) := by decide +kernel
theorem dX6_workLater_41 : decode cX6_workLater 41 = .ok (.invokevirtual 171, 3) := by decide +kernel
theorem dX6_workLater_44 : decode cX6_workLater 44 = .ok (.goto 70, 3) := by decide +kernel
theorem dX6_workLater_47 : decode cX6_workLater 47 = .ok (.aload_n 0, 1) := by decide +kernel
theorem dX6_workLater_48 : decode cX6_workLater 48 = .ok (.aload_n 0, 1) := by decide +kernel
theorem dX6_workLater_49 : decode cX6_workLater 49 = .ok (.getfield 45, 3) := by decide +kernel
theorem dX6_workLater_52 : decode cX6_workLater 52 = .ok (.iload_n 1, 1) := by decide +kernel
theorem dX6_workLater_53 : decode cX6_workLater 53 = .ok (.invokevirtual 243, 3) := by decide +kernel
theorem dX6_workLater_56 : decode cX6_workLater 56 = .ok (.invokevirtual 177, 3) := by decide +kernel
theorem dX6_workLater_59 : decode cX6_workLater 59 = .ok (.goto 55, 3) := by decide +kernel
theorem dX6_workLater_62 : decode cX6_workLater 62 = .ok (.aload_n 0, 1) := by decide +kernel
theorem dX6_workLater_63 : decode cX6_workLater 63 = .ok (.aload_n 0, 1) := by decide +kernel
theorem dX6_workLater_64 : decode cX6_workLater 64 = .ok (.getfield 45, 3) := by decide +kernel
theorem dX6_workLater_67 : decode cX6_workLater 67 = .ok (.iload_n 1, 1) := by decide +kernel
theorem dX6_workLater_68 : decode cX6_workLater 68 = .ok (.invokevirtual 246, 3) := by decide +kernel
theorem dX6_workLater_71 : decode cX6_workLater 71 = .ok (.aload_n 0, 1) := by decide +kernel
theorem dX6_workLater_72 : decode cX6_workLater 72 = .ok (.getfield 45, 3) := by decide +kernel
theorem dX6_workLater_75 : decode cX6_workLater 75 = .ok (.iload_n 1, 1) := by decide +kernel
theorem dX6_workLater_76 : decode cX6_workLater 76 = .ok (.invokevirtual 249, 3) := by decide +kernel
theorem dX6_workLater_79 : decode cX6_workLater 79 = .ok (.invokevirtual 171, 3) := by decide +kernel
theorem dX6_workLater_82 : decode cX6_workLater 82 = .ok (.goto 32, 3) := by decide +kernel
theorem dX6_workLater_85 : decode cX6_workLater 85 = .ok (.aload_n 0, 1) := by decide +kernel
theorem dX6_workLater_86 : decode cX6_workLater 86 = .ok (.getfield 45, 3) := by decide +kernel
theorem dX6_workLater_89 : decode cX6_workLater 89 = .ok (.iload_n 1, 1) := by decide +kernel
theorem dX6_workLater_90 : decode cX6_workLater 90 = .ok (.iconst 1, 1) := by decide +kernel
theorem dX6_workLater_91 : decode cX6_workLater 91 = .ok (.invokevirtual 252, 3) := by decide +kernel
theorem dX6_workLater_94 : decode cX6_workLater 94 = .ok (.aload_n 0, 1) := by decide +kernel
theorem dX6_workLater_95 : decode cX6_workLater 95 = .ok (.aload_n 0, 1) := by decide +kernel
theorem dX6_workLater_96 : decode cX6_workLater 96 = .ok (.getfield 45, 3) := by decide +kernel
theorem dX6_workLater_99 : decode cX6_workLater 99 = .ok (.iload_n 1, 1) := by decide +kernel
theorem dX6_workLater_100 : decode cX6_workLater 100 = .ok (.invokevirtual 255, 3) := by decide +kernel
theorem dX6_workLater_103 : decode cX6_workLater 103 = .ok (.aload_n 0, 1) := by decide +kernel
theorem dX6_workLater_104 : decode cX6_workLater 104 = .ok (.getfield 45, 3) := by decide +kernel
theorem dX6_workLater_107 : decode cX6_workLater 107 = .ok (.iload_n 1, 1) := by decide +kernel
theorem dX6_workLater_108 : decode cX6_workLater 108 = .ok (.invokevirtual 258, 3) := by decide +kernel
theorem dX6_workLater_111 : decode cX6_workLater 111 = .ok (.invokevirtual 73, 3) := by decide +kernel
theorem dX6_workLater_114 : decode cX6_workLater 114 = .ok (.return_, 1) := by decide +kernel
theorem dX6_copy_0 : decode cX6_copy 0 = .ok (.aload_n 0, 1) := by decide +kernel
theorem dX6_copy_1 : decode cX6_copy 1 = .ok (.getfield 52, 3) := by decide +kernel
theorem dX6_copy_4 : decode cX6_copy 4 = .ok (.iconst 2, 1) := by decide +kernel
theorem dX6_copy_5 : decode cX6_copy 5 = .ok (.invokevirtual 150, 3) := by decide +kernel
theorem dX6_copy_8 : decode cX6_copy 8 = .ok (.lstore_n 1, 1) := by decide +kernel
theorem dX6_copy_9 : decode cX6_copy 9 = .ok (.aload_n 0, 1) := by decide +kernel
theorem dX6_copy_10 : decode cX6_copy 10 = .ok (.getfield 16, 3) := by decide +kernel
theorem dX6_copy_13 : decode cX6_copy 13 = .ok (.aload_n 0, 1) := by decide +kernel
theorem dX6_copy_14 : decode cX6_copy 14 = .ok (.getfield 52, 3) := by decide +kernel
theorem dX6_copy_17 : decode cX6_copy 17 = .ok (.iconst 0, 1) := by decide +kernel
theorem dX6_copy_18 : decode cX6_copy 18 = .ok (.invokevirtual 150, 3) := by decide +kernel
theorem dX6_copy_21 : decode cX6_copy 21 = .ok (.aload_n 0, 1) := by decide +kernel
theorem dX6_copy_22 : decode cX6_copy 22 = .ok (.getfield 52, 3) := by decide +kernel
theorem dX6_copy_25 : decode cX6_copy 25 = .ok (.iconst 1, 1) := by decide +kernel
theorem dX6_copy_26 : decode cX6_copy 26 = .ok (.invokevirtual 150, 3) := by decide +kernel
theorem dX6_copy_29 : decode cX6_copy 29 = .ok (.lload_n 1, 1) := by decide +kernel
theorem dX6_copy_30 : decode cX6_copy 30 = .ok (.invokestatic 166, 3) := by decide +kernel
theorem dX6_copy_33 : decode cX6_copy 33 = .ok (.invokevirtual 261, 3) := by decide +kernel
theorem dX6_copy_36 : decode cX6_copy 36 = .ok (.ifCond .eq 11, 3) := by decide +kernel
theorem dX6_copy_39 : decode cX6_copy 39 = .ok (.aload_n 0, 1) := by decide +kernel
theorem dX6_copy_40 : decode cX6_copy 40 = .ok (.lload_n 1, 1) := by decide +kernel
theorem dX6_copy_41 : decode cX6_copy 41 = .ok (.invokevirtual 177, 3) := by decide +kernel
theorem dX6_copy_44 : decode cX6_copy 44 = .ok (.goto 9, 3) := by decide +kernel
theorem dX6_copy_47 : decode cX6_copy 47 = .ok (.aload_n 0, 1) := by decide +kernel
theorem dX6_copy_48 : decode cX6_copy 48 = .ok (.iconst 5, 1) := by decide +kernel
theorem dX6_copy_49 : decode cX6_copy 49 = .ok (.iconst 5, 1) := by decide +kernel
theorem dX6_copy_50 : decode cX6_copy 50 = .ok (.invokevirtual 171, 3) := by decide +kernel
theorem dX6_copy_53 : decode cX6_copy 53 = .ok (.return_, 1) := by decide +kernel
theorem dX6_workPlainly_0 : decode cX6_workPlainly 0 = .ok (.aload_n 0, 1) := by decide +kernel
theorem dX6_workPlainly_1 : decode cX6_workPlainly 1 = .ok (.getfield 7, 3) := by decide +kernel
theorem dX6_workPlainly_4 : decode cX6_workPlainly 4 = .ok (.aload_n 0, 1) := by decide +kernel
theorem dX6_workPlainly_5 : decode cX6_workPlainly 5 = .ok (.getfield 52, 3) := by decide +kernel
theorem dX6_workPlainly_8 : decode cX6_workPlainly 8 = .ok (.invokevirtual 105, 3) := by decide +kernel
theorem dX6_workPlainly_11 : decode cX6_workPlainly 11 = .ok (.iconst 1, 1) := by decide +kernel
theorem dX6_workPlainly_12 : decode cX6_workPlainly 12 = .ok (.invokevirtual 144, 3) := by decide +kernel
theorem dX6_workPlainly_15 : decode cX6_workPlainly 15 = .ok (.istore_n 2, 1) := by decide +kernel
theorem dX6_workPlainly_16 : decode cX6_workPlainly 16 = .ok (.aload_n 0, 1) := by decide +kernel
theorem dX6_workPlainly_17 : decode cX6_workPlainly 17 = .ok (.getfield 52, 3) := by decide +kernel
theorem dX6_workPlainly_20 : decode cX6_workPlainly 20 = .ok (.iconst 0, 1) := by decide +kernel
theorem dX6_workPlainly_21 : decode cX6_workPlainly 21 = .ok (.invokevirtual 150, 3) := by decide +kernel
theorem dX6_workPlainly_24 : decode cX6_workPlainly 24 = .ok (.lstore_n 3, 1) := by decide +kernel
theorem dX6_workPlainly_25 : decode cX6_workPlainly 25 = .ok (.aload_n 0, 1) := by decide +kernel
theorem dX6_workPlainly_26 : decode cX6_workPlainly 26 = .ok (.getfield 52, 3) := by decide +kernel
theorem dX6_workPlainly_29 : decode cX6_workPlainly 29 = .ok (.iconst 1, 1) := by decide +kernel
theorem dX6_workPlainly_30 : decode cX6_workPlainly 30 = .ok (.invokevirtual 150, 3) := by decide +kernel
theorem dX6_workPlainly_33 : decode cX6_workPlainly 33 = .ok (.lstore 5, 2) := by decide +kernel
theorem dX6_workPlainly_35 : decode cX6_workPlainly 35 = .ok (.aload_n 0, 1) := by decide +kernel
theorem dX6_workPlainly_36 : decode cX6_workPlainly 36 = .ok (.iload_n 1, 1) := by decide +kernel
theorem dX6_workPlainly_37 : decode cX6_workPlainly 37 = .ok (.bipush 9, 2) := by decide +kernel
theorem dX6_workPlainly_39 : decode cX6_workPlainly 39 = .ok (.if_icmp .gt 15, 3) := by decide +kernel
theorem dX6_workPlainly_42 : decode cX6_workPlainly 42 = .ok (.aload_n 0, 1) := by decide +kernel
theorem dX6_workPlainly_43 : decode cX6_workPlainly 43 = .ok (.iload_n 1, 1) := by decide +kernel
theorem dX6_workPlainly_44 : decode cX6_workPlainly 44 = .ok (.iload_n 2, 1) := by decide +kernel
theorem dX6_workPlainly_45 : decode cX6_workPlainly 45 = .ok (.lload_n 3, 1) := by decide +kernel
theorem dX6_workPlainly_46 : decode cX6_workPlainly 46 = .ok (.lload 5, 2) := by decide +kernel
theorem dX6_workPlainly_48 : decode cX6_workPlainly 48 = .ok (.invokevirtual 267, 3) := by decide +kernel
theorem dX6_workPlainly_51 : decode cX6_workPlainly 51 = .ok (.goto 20, 3) := by decide +kernel
theorem dX6_workPlainly_54 : decode cX6_workPlainly 54 = .ok (.aload_n 0, 1) := by decide +kernel
theorem dX6_workPlainly_55 : decode cX6_workPlainly 55 = .ok (.iload_n 1, 1) := by decide +kernel
theorem dX6_workPlainly_56 : decode cX6_workPlainly 56 = .ok (.iload_n 2, 1) := by decide +kernel
theorem dX6_workPlainly_57 : decode cX6_workPlainly 57 = .ok (.lload_n 3, 1) := by decide +kernel
theorem dX6_workPlainly_58 : decode cX6_workPlainly 58 = .ok (.lload 5, 2) := by decide +kernel
theorem dX6_workPlainly_60 : decode cX6_workPlainly 60 = .ok (.aload_n 0, 1) := by decide +kernel
theorem dX6_workPlainly_61 : decode cX6_workPlainly 61 = .ok (.getfield 52, 3) := by decide +kernel
theorem dX6_workPlainly_64 : decode cX6_workPlainly 64 = .ok (.iconst 2, 1) := by decide +kernel
theorem dX6_workPlainly_65 : decode cX6_workPlainly 65 = .ok (.invokevirtual 150, 3) := by decide +kernel
theorem dX6_workPlainly_68 : decode cX6_workPlainly 68 = .ok (.invokevirtual 271, 3) := by decide +kernel
theorem dX6_workPlainly_71 : decode cX6_workPlainly 71 = .ok (.invokevirtual 177, 3) := by decide +kernel
theorem dX6_workPlainly_74 : decode cX6_workPlainly 74 = .ok (.return_, 1) := by decide +kernel
theorem dX6_reckon_0 : decode cX6_reckon 0 = .ok (.lload_n 3, 1) := by decide +kernel
theorem dX6_reckon_1 : decode cX6_reckon 1 = .ok (.invokestatic 166, 3) := by decide +kernel
theorem dX6_reckon_4 : decode cX6_reckon 4 = .ok (.istore 7, 2) := by decide +kernel
theorem dX6_reckon_6 : decode cX6_reckon 6 = .ok (.lload 5, 2) := by decide +kernel
theorem dX6_reckon_8 : decode cX6_reckon 8 = .ok (.invokestatic 166, 3) := by decide +kernel
theorem dX6_reckon_11 : decode cX6_reckon 11 = .ok (.istore 8, 2) := by decide +kernel
theorem dX6_reckon_13 : decode cX6_reckon 13 = .ok (.iload_n 1, 1) := by decide +kernel
theorem dX6_reckon_14 : decode cX6_reckon 14 = .ok (.tableswitch 148 0 9 #[54, 59, 148, 75, 148, 78, 87, 96, 116, 132], 54) := by decide +kernel
theorem dX6_reckon_68 : decode cX6_reckon 68 = .ok (.iload_n 2, 1) := by decide +kernel
theorem dX6_reckon_69 : decode cX6_reckon 69 = .ok (.invokestatic 275, 3) := by decide +kernel
theorem dX6_reckon_72 : decode cX6_reckon 72 = .ok (.lreturn, 1) := by decide +kernel
theorem dX6_reckon_73 : decode cX6_reckon 73 = .ok (.aload_n 0, 1) := by decide +kernel
theorem dX6_reckon_74 : decode cX6_reckon 74 = .ok (.getfield 38, 3) := by decide +kernel
theorem dX6_reckon_77 : decode cX6_reckon 77 = .ok (.aload_n 0, 1) := by decide +kernel
theorem dX6_reckon_78 : decode cX6_reckon 78 = .ok (.getfield 52, 3) := by decide +kernel
theorem dX6_reckon_81 : decode cX6_reckon 81 = .ok (.invokevirtual 114, 3) := by decide +kernel
theorem dX6_reckon_84 : decode cX6_reckon 84 = .ok (.iload_n 2, 1) := by decide +kernel
theorem dX6_reckon_85 : decode cX6_reckon 85 = .ok (.invokevirtual 278, 3) := by decide +kernel
theorem dX6_reckon_88 : decode cX6_reckon 88 = .ok (.lreturn, 1) := by decide +kernel
theorem dX6_reckon_89 : decode cX6_reckon 89 = .ok (.lload 5, 2) := by decide +kernel
theorem dX6_reckon_91 : decode cX6_reckon 91 = .ok (.lreturn, 1) := by decide +kernel
theorem dX6_reckon_92 : decode cX6_reckon 92 = .ok (.iload 7, 2) := by decide +kernel
theorem dX6_reckon_94 : decode cX6_reckon 94 = .ok (.iload 8, 2) := by decide +kernel
theorem dX6_reckon_96 : decode cX6_reckon 96 = .ok (.iadd, 1) := by decide +kernel
theorem dX6_reckon_97 : decode cX6_reckon 97 = .ok (.invokestatic 275, 3) := by decide +kernel
theorem dX6_reckon_100 : decode cX6_reckon 100 = .ok (.lreturn, 1) := by decide +kernel
theorem dX6_reckon_101 : decode cX6_reckon 101 = .ok (.iload 7, 2) := by decide +kernel
theorem dX6_reckon_103 : decode cX6_reckon 103 = .ok (.iload 8, 2) := by decide +kernel
theorem dX6_reckon_105 : decode cX6_reckon 105 = .ok (.imul, 1) := by decide +kernel
theorem dX6_reckon_106 : decode cX6_reckon 106 = .ok (.invokestatic 275, 3) := by decide +kernel
theorem dX6_reckon_109 : decode cX6_reckon 109 = .ok (.lreturn, 1) := by decide +kernel
theorem dX6_reckon_110 : decode cX6_reckon 110 = .ok (.iload 8, 2) := by decide +kernel
theorem dX6_reckon_112 : decode cX6_reckon 112 = .ok (.ifCond .eq 14, 3) := by decide +kernel
theorem dX6_reckon_115 : decode cX6_reckon 115 = .ok (.iload 7, 2) := by decide +kernel
theorem dX6_reckon_117 : decode cX6_reckon 117 = .ok (.iload 8, 2) := by decide +kernel
theorem dX6_reckon_119 : decode cX6_reckon 119 = .ok (.idiv, 1) := by decide +kernel
theorem dX6_reckon_120 : decode cX6_reckon 120 = .ok (.invokestatic 275, 3) := by decide +kernel
theorem dX6_reckon_123 : decode cX6_reckon 123 = .ok (.goto 6, 3) := by decide +kernel
theorem dX6_reckon_126 : decode cX6_reckon 126 = .ok (.ldc2_w 218, 3) := by decide +kernel
theorem dX6_reckon_129 : decode cX6_reckon 129 = .ok (.lreturn, 1) := by decide +kernel
theorem dX6_reckon_130 : decode cX6_reckon 130 = .ok (.iload 7, 2) := by decide +kernel
theorem dX6_reckon_132 : decode cX6_reckon 132 = .ok (.iload 8, 2) := by decide +kernel
theorem dX6_reckon_134 : decode cX6_reckon 134 = .ok (.if_icmp .ge 7, 3) := by decide +kernel
theorem dX6_reckon_137 : decode cX6_reckon 137 = .ok (.iconst 1, 1) := by decide +kernel
theorem dX6_reckon_138 : decode cX6_reckon 138 = .ok (.goto 4, 3) := by decide +kernel
theorem dX6_reckon_141 : decode cX6_reckon 141 = .ok (.iconst 0, 1) := by decide +kernel
theorem dX6_reckon_142 : decode cX6_reckon 142 = .ok (.invokestatic 281, 3) := by decide +kernel
theorem dX6_reckon_145 : decode cX6_reckon 145 = .ok (.lreturn, 1) := by decide +kernel
theorem dX6_reckon_146 : decode cX6_reckon 146 = .ok (.lload_n 3, 1) := by decide +kernel
theorem dX6_reckon_147 : decode cX6_reckon 147 = .ok (.lload 5, 2) := by decide +kernel
theorem dX6_reckon_149 : decode cX6_reckon 149 = .ok (.lcmp, 1) := by decide +kernel
theorem dX6_reckon_150 : decode cX6_reckon 150 = .ok (.ifCond .ne 7, 3) := by decide +kernel
theorem dX6_reckon_153 : decode cX6_reckon 153 = .ok (.iconst 1, 1) := by decide +kernel
theorem dX6_reckon_154 : decode cX6_reckon 154 = .ok (.goto 4, 3) := by decide +kernel
theorem dX6_reckon_157 : decode cX6_reckon 157 = .ok (.iconst 0, 1) := by decide +kernel
theorem dX6_reckon_158 : decode cX6_reckon 158 = .ok (.invokestatic 281, 3) := by decide +kernel
theorem dX6_reckon_161 : decode cX6_reckon 161 = .ok (.lreturn, 1) := by decide +kernel
theorem dX6_reckon_162 : decode cX6_reckon 162 = .ok (.ldc2_w 218, 3) := by decide +kernel
theorem dX6_reckon_165 : decode cX6_reckon 165 = .ok (.lreturn, 1) := by decide +kernel
theorem dX6_change_0 : decode cX6_change 0 = .ok (.iload_n 1, 1) := by decide +kernel
theorem dX6_change_1 : decode cX6_change 1 = .ok (.tableswitch 241 10 31 #[103, 116, 129, 142, 152, 163, 180, 196, 208, 241, 241, 241, 241, 241, 241, 241, 219, 241, 241, 241, 225, 234], 103) := by decide +kernel
theorem dX6_change_104 : decode cX6_change 104 = .ok (.aload_n 0, 1) := by decide +kernel
theorem dX6_change_105 : decode cX6_change 105 = .ok (.getfield 16, 3) := by decide +kernel
theorem dX6_change_108 : decode cX6_change 108 = .ok (.iconst 2, 1) := by decide +kernel
theorem dX6_change_109 : decode cX6_change 109 = .ok (.lload_n 3, 1) := by decide +kernel
theorem dX6_change_110 : decode cX6_change 110 = .ok (.invokestatic 166, 3) := by decide +kernel
theorem dX6_change_113 : decode cX6_change 113 = .ok (.invokevirtual 285, 3) := by decide +kernel
theorem dX6_change_116 : decode cX6_change 116 = .ok (.lreturn, 1) := by decide +kernel
theorem dX6_change_117 : decode cX6_change 117 = .ok (.aload_n 0, 1) := by decide +kernel
theorem dX6_change_118 : decode cX6_change 118 = .ok (.getfield 16, 3) := by decide +kernel
theorem dX6_change_121 : decode cX6_change 121 = .ok (.iconst 3, 1) := by decide +kernel
theorem dX6_change_122 : decode cX6_change 122 = .ok (.lload_n 3, 1) := by decide +kernel
theorem dX6_change_123 : decode cX6_change 123 = .ok (.invokestatic 166, 3) := by decide +kernel
theorem dX6_change_126 : decode cX6_change 126 = .ok (.invokevirtual 285, 3) := by decide +kernel
theorem dX6_change_129 : decode cX6_change 129 = .ok (.lreturn, 1) := by decide +kernel
theorem dX6_change_130 : decode cX6_change 130 = .ok (.aload_n 0, 1) := by decide +kernel
theorem dX6_change_131 : decode cX6_change 131 = .ok (.getfield 16, 3) := by decide +kernel
theorem dX6_change_134 : decode cX6_change 134 = .ok (.iconst 4, 1) := by decide +kernel
theorem dX6_change_135 : decode cX6_change 135 = .ok (.lload_n 3, 1) := by decide +kernel
theorem dX6_change_136 : decode cX6_change 136 = .ok (.invokestatic 166, 3) := by decide +kernel
theorem dX6_change_139 : decode cX6_change 139 = .ok (.invokevirtual 285, 3) := by decide +kernel
theorem dX6_change_142 : decode cX6_change 142 = .ok (.lreturn, 1) := by decide +kernel
theorem dX6_change_143 : decode cX6_change 143 = .ok (.aload_n 0, 1) := by decide +kernel
theorem dX6_change_144 : decode cX6_change 144 = .ok (.getfield 16, 3) := by decide +kernel
theorem dX6_change_147 : decode cX6_change 147 = .ok (.iconst 5, 1) := by decide +kernel
theorem dX6_change_148 : decode cX6_change 148 = .ok (.lload_n 3, 1) := by decide +kernel
theorem dX6_change_149 : decode cX6_change 149 = .ok (.invokevirtual 288, 3) := by decide +kernel
theorem dX6_change_152 : decode cX6_change 152 = .ok (.lreturn, 1) := by decide +kernel
theorem dX6_change_153 : decode cX6_change 153 = .ok (.aload_n 0, 1) := by decide +kernel
theorem dX6_change_154 : decode cX6_change 154 = .ok (.getfield 16, 3) := by decide +kernel
theorem dX6_change_157 : decode cX6_change 157 = .ok (.bipush 6, 2) := by decide +kernel
theorem dX6_change_159 : decode cX6_change 159 = .ok (.lload_n 3, 1) := by decide +kernel
theorem dX6_change_160 : decode cX6_change 160 = .ok (.invokevirtual 288, 3) := by decide +kernel
theorem dX6_change_163 : decode cX6_change 163 = .ok (.lreturn, 1) := by decide +kernel
theorem dX6_change_164 : decode cX6_change 164 = .ok (.aload_n 0, 1) := by decide +kernel
theorem dX6_change_165 : decode cX6_change 165 = .ok (.getfield 16, 3) := by decide +kernel
theorem dX6_change_168 : decode cX6_change 168 = .ok (.lload_n 3, 1) := by decide +kernel
theorem dX6_change_169 : decode cX6_change 169 = .ok (.lload 5, 2) := by decide +kernel
theorem dX6_change_171 : decode cX6_change 171 = .ok (.invokestatic 166, 3) := by decide +kernel
theorem dX6_change_174 : decode cX6_change 174 = .ok (.invokestatic 292, 3) := by decide +kernel
theorem dX6_change_177 : decode cX6_change 177 = .ok (.invokevirtual 296, 3) := by decide +kernel
theorem dX6_change_180 : decode cX6_change 180 = .ok (.lreturn, 1) := by decide +kernel
theorem dX6_change_181 : decode cX6_change 181 = .ok (.aload_n 0, 1) := by decide +kernel
theorem dX6_change_182 : decode cX6_change 182 = .ok (.lload_n 3, 1) := by decide +kernel
theorem dX6_change_183 : decode cX6_change 183 = .ok (.lload 5, 2) := by decide +kernel
theorem dX6_change_185 : decode cX6_change 185 = .ok (.invokestatic 166, 3) := by decide +kernel
theorem dX6_change_188 : decode cX6_change 188 = .ok (.invokestatic 292, 3) := by decide +kernel
theorem dX6_change_191 : decode cX6_change 191 = .ok (.lload 7, 2) := by decide +kernel
theorem dX6_change_193 : decode cX6_change 193 = .ok (.invokevirtual 298, 3) := by decide +kernel
theorem dX6_change_196 : decode cX6_change 196 = .ok (.lreturn, 1) := by decide +kernel
theorem dX6_change_197 : decode cX6_change 197 = .ok (.aload_n 0, 1) := by decide +kernel
theorem dX6_change_198 : decode cX6_change 198 = .ok (.getfield 16, 3) := by decide +kernel
theorem dX6_change_201 : decode cX6_change 201 = .ok (.lload_n 3, 1) := by decide +kernel
theorem dX6_change_202 : decode cX6_change 202 = .ok (.invokestatic 166, 3) := by decide +kernel
theorem dX6_change_205 : decode cX6_change 205 = .ok (.invokevirtual 296, 3) := by decide +kernel
theorem dX6_change_208 : decode cX6_change 208 = .ok (.lreturn, 1) := by decide +kernel
theorem dX6_change_209 : decode cX6_change 209 = .ok (.aload_n 0, 1) := by decide +kernel
theorem dX6_change_210 : decode cX6_change 210 = .ok (.lload_n 3, 1) := by decide +kernel
theorem dX6_change_211 : decode cX6_change 211 = .ok (.invokestatic 166, 3) := by decide +kernel
theorem dX6_change_214 : decode cX6_change 214 = .ok (.lload 5, 2) := by decide +kernel
theorem dX6_change_216 : decode cX6_change 216 = .ok (.invokevirtual 298, 3) := by decide +kernel
theorem dX6_change_219 : decode cX6_change 219 = .ok (.lreturn, 1) := by decide +kernel
theorem dX6_change_220 : decode cX6_change 220 = .ok (.aload_n 0, 1) := by decide +kernel
theorem dX6_change_221 : decode cX6_change 221 = .ok (.lload_n 3, 1) := by decide +kernel
theorem dX6_change_222 : decode cX6_change 222 = .ok (.invokevirtual 301, 3) := by decide +kernel
theorem dX6_change_225 : decode cX6_change 225 = .ok (.lreturn, 1) := by decide +kernel
theorem dX6_change_226 : decode cX6_change 226 = .ok (.aload_n 0, 1) := by decide +kernel
theorem dX6_change_227 : decode cX6_change 227 = .ok (.getfield 16, 3) := by decide +kernel
theorem dX6_change_230 : decode cX6_change 230 = .ok (.iload_n 2, 1) := by decide +kernel
theorem dX6_change_231 : decode cX6_change 231 = .ok (.invokevirtual 296, 3) := by decide +kernel
theorem dX6_change_234 : decode cX6_change 234 = .ok (.lreturn, 1) := by decide +kernel
theorem dX6_change_235 : decode cX6_change 235 = .ok (.aload_n 0, 1) := by decide +kernel
theorem dX6_change_236 : decode cX6_change 236 = .ok (.iload_n 2, 1) := by decide +kernel
theorem dX6_change_237 : decode cX6_change 237 = .ok (.lload_n 3, 1) := by decide +kernel
theorem dX6_change_238 : decode cX6_change 238 = .ok (.invokevirtual 298, 3) := by decide +kernel
theorem dX6_change_241 : decode cX6_change 241 = .ok (.lreturn, 1) := by decide +kernel
theorem dX6_change_242 : decode cX6_change 242 = .ok (.ldc2_w 218, 3) := by decide +kernel
theorem dX6_change_245 : decode cX6_change 245 = .ok (.lreturn, 1) := by decide +kernel
theorem dX6_put_0 : decode cX6_put 0 = .ok (.aload_n 0, 1) := by decide +kernel
theorem dX6_put_1 : decode cX6_put 1 = .ok (.getfield 16, 3) := by decide +kernel
theorem dX6_put_4 : decode cX6_put 4 = .ok (.iload_n 1, 1) := by decide +kernel
theorem dX6_put_5 : decode cX6_put 5 = .ok (.lload_n 2, 1) := by decide +kernel
theorem dX6_put_6 : decode cX6_put 6 = .ok (.invokevirtual 305, 3) := by decide +kernel
theorem dX6_put_9 : decode cX6_put 9 = .ok (.lload_n 2, 1) := by decide +kernel
theorem dX6_put_10 : decode cX6_put 10 = .ok (.lreturn, 1) := by decide +kernel
theorem dX6_tell_0 : decode cX6_tell 0 = .ok (.aload_n 0, 1) := by decide +kernel
theorem dX6_tell_1 : decode cX6_tell 1 = .ok (.getfield 31, 3) := by decide +kernel
theorem dX6_tell_4 : decode cX6_tell 4 = .ok (.bipush 40, 2) := by decide +kernel
theorem dX6_tell_6 : decode cX6_tell 6 = .ok (.if_icmp .ge 26, 3) := by decide +kernel
theorem dX6_tell_9 : decode cX6_tell 9 = .ok (.aload_n 0, 1) := by decide +kernel
theorem dX6_tell_10 : decode cX6_tell 10 = .ok (.getfield 27, 3) := by decide +kernel
theorem dX6_tell_13 : decode cX6_tell 13 = .ok (.aload_n 0, 1) := by decide +kernel
theorem dX6_tell_14 : decode cX6_tell 14 = .ok (.getfield 31, 3) := by decide +kernel
theorem dX6_tell_17 : decode cX6_tell 17 = .ok (.lload_n 1, 1) := by decide +kernel
theorem dX6_tell_18 : decode cX6_tell 18 = .ok (.invokestatic 166, 3) := by decide +kernel
theorem dX6_tell_21 : decode cX6_tell 21 = .ok (.iastore, 1) := by decide +kernel
theorem dX6_tell_22 : decode cX6_tell 22 = .ok (.aload_n 0, 1) := by decide +kernel
theorem dX6_tell_23 : decode cX6_tell 23 = .ok (.dup, 1) := by decide +kernel
theorem dX6_tell_24 : decode cX6_tell 24 = .ok (.getfield 31, 3) := by decide +kernel
theorem dX6_tell_27 : decode cX6_tell 27 = .ok (.iconst 1, 1) := by decide +kernel
theorem dX6_tell_28 : decode cX6_tell 28 = .ok (.iadd, 1) := by decide +kernel
theorem dX6_tell_29 : decode cX6_tell 29 = .ok (.putfield 31, 3) := by decide +kernel
theorem dX6_tell_32 : decode cX6_tell 32 = .ok (.lload_n 1, 1) := by decide +kernel
theorem dX6_tell_33 : decode cX6_tell 33 = .ok (.lreturn, 1) := by decide +kernel
theorem dX6_leave_0 : decode cX6_leave 0 = .ok (.aload_n 0, 1) := by decide +kernel
theorem dX6_leave_1 : decode cX6_leave 1 = .ok (.getfield 7, 3) := by decide +kernel
theorem dX6_leave_4 : decode cX6_leave 4 = .ok (.aload_n 0, 1) := by decide +kernel
theorem dX6_leave_5 : decode cX6_leave 5 = .ok (.getfield 52, 3) := by decide +kernel
theorem dX6_leave_8 : decode cX6_leave 8 = .ok (.invokevirtual 105, 3) := by decide +kernel
theorem dX6_leave_11 : decode cX6_leave 11 = .ok (.iconst 0, 1) := by decide +kernel
theorem dX6_leave_12 : decode cX6_leave 12 = .ok (.invokevirtual 144, 3) := by decide +kernel
theorem dX6_leave_15 : decode cX6_leave 15 = .ok (.istore_n 1, 1) := by decide +kernel
theorem dX6_leave_16 : decode cX6_leave 16 = .ok (.aload_n 0, 1) := by decide +kernel
theorem dX6_leave_17 : decode cX6_leave 17 = .ok (.getfield 52, 3) := by decide +kernel
theorem dX6_leave_20 : decode cX6_leave 20 = .ok (.invokevirtual 138, 3) := by decide +kernel
theorem dX6_leave_23 : decode cX6_leave 23 = .ok (.ifCond .ne 7, 3) := by decide +kernel
theorem dX6_leave_26 : decode cX6_leave 26 = .ok (.iconst 1, 1) := by decide +kernel
theorem dX6_leave_27 : decode cX6_leave 27 = .ok (.goto 4, 3) := by decide +kernel
theorem dX6_leave_30 : decode cX6_leave 30 = .ok (.iconst 0, 1) := by decide +kernel
theorem dX6_leave_31 : decode cX6_leave 31 = .ok (.istore_n 2, 1) := by decide +kernel
theorem dX6_leave_32 : decode cX6_leave 32 = .ok (.aload_n 0, 1) := by decide +kernel
theorem dX6_leave_33 : decode cX6_leave 33 = .ok (.getfield 23, 3) := by decide +kernel
theorem dX6_leave_36 : decode cX6_leave 36 = .ok (.invokevirtual 307, 3) := by decide +kernel
theorem dX6_leave_39 : decode cX6_leave 39 = .ok (.ifCond .eq 25, 3) := by decide +kernel
theorem dX6_leave_42 : decode cX6_leave 42 = .ok (.iload_n 2, 1) := by decide +kernel
theorem dX6_leave_43 : decode cX6_leave 43 = .ok (.ifCond .eq 21, 3) := by decide +kernel
theorem dX6_leave_46 : decode cX6_leave 46 = .ok (.iload_n 1, 1) := by decide +kernel
theorem dX6_leave_47 : decode cX6_leave 47 = .ok (.bipush 21, 2) := by decide +kernel
theorem dX6_leave_49 : decode cX6_leave 49 = .ok (.if_icmp .ne 15, 3) := by decide +kernel
theorem dX6_leave_52 : decode cX6_leave 52 = .ok (.aload_n 0, 1) := by decide +kernel
theorem dX6_leave_53 : decode cX6_leave 53 = .ok (.invokevirtual 310, 3) := by decide +kernel
theorem dX6_leave_56 : decode cX6_leave 56 = .ok (.ifCond .eq 8, 3) := by decide +kernel
theorem dX6_leave_59 : decode cX6_leave 59 = .ok (.aload_n 0, 1) := by decide +kernel
theorem dX6_leave_60 : decode cX6_leave 60 = .ok (.invokevirtual 313, 3) := by decide +kernel
theorem dX6_leave_63 : decode cX6_leave 63 = .ok (.return_, 1) := by decide +kernel
theorem dX6_leave_64 : decode cX6_leave 64 = .ok (.aload_n 0, 1) := by decide +kernel
theorem dX6_leave_65 : decode cX6_leave 65 = .ok (.getfield 23, 3) := by decide +kernel
theorem dX6_leave_68 : decode cX6_leave 68 = .ok (.invokevirtual 307, 3) := by decide +kernel
theorem dX6_leave_71 : decode cX6_leave 71 = .ok (.ifCond .eq 40, 3) := by decide +kernel
theorem dX6_leave_74 : decode cX6_leave 74 = .ok (.iload_n 2, 1) := by decide +kernel
theorem dX6_leave_75 : decode cX6_leave 75 = .ok (.ifCond .eq 36, 3) := by decide +kernel
theorem dX6_leave_78 : decode cX6_leave 78 = .ok (.iload_n 1, 1) := by decide +kernel
theorem dX6_leave_79 : decode cX6_leave 79 = .ok (.bipush 22, 2) := by decide +kernel
theorem dX6_leave_81 : decode cX6_leave 81 = .ok (.if_icmp .ne 30, 3) := by decide +kernel
theorem dX6_leave_84 : decode cX6_leave 84 = .ok (.aload_n 0, 1) := by decide +kernel
theorem dX6_leave_85 : decode cX6_leave 85 = .ok (.getfield 52, 3) := by decide +kernel
theorem dX6_leave_88 : decode cX6_leave 88 = .ok (.aload_n 0, 1) := by decide +kernel
theorem dX6_leave_89 : decode cX6_leave 89 = .ok (.getfield 23, 3) := by decide +kernel
theorem dX6_leave_92 : decode cX6_leave 92 = .ok (.invokevirtual 316, 3) := by decide +kernel
theorem dX6_leave_95 : decode cX6_leave 95 = .ok (.aload_n 0, 1) := by decide +kernel
theorem dX6_leave_96 : decode cX6_leave 96 = .ok (.getfield 52, 3) := by decide +kernel
theorem dX6_leave_99 : decode cX6_leave 99 = .ok (.iconst 1, 1) := by decide +kernel
theorem dX6_leave_100 : decode cX6_leave 100 = .ok (.invokevirtual 220, 3) := by decide +kernel
theorem dX6_leave_103 : decode cX6_leave 103 = .ok (.aload_n 0, 1) := by decide +kernel
theorem dX6_leave_104 : decode cX6_leave 104 = .ok (.getfield 23, 3) := by decide +kernel
theorem dX6_leave_107 : decode cX6_leave 107 = .ok (.invokevirtual 319, 3) := by decide +kernel
theorem dX6_leave_110 : decode cX6_leave 110 = .ok (.return_, 1) := by decide +kernel
theorem dX6_leave_111 : decode cX6_leave 111 = .ok (.iload_n 1, 1) := by decide +kernel
theorem dX6_leave_112 : decode cX6_leave 112 = .ok (.bipush 25, 2) := by decide +kernel
theorem dX6_leave_114 : decode cX6_leave 114 = .ok (.if_icmp .ne 20, 3) := by decide +kernel
theorem dX6_leave_117 : decode cX6_leave 117 = .ok (.iload_n 2, 1) := by decide +kernel
theorem dX6_leave_118 : decode cX6_leave 118 = .ok (.ifCond .ne 16, 3) := by decide +kernel
theorem dX6_leave_121 : decode cX6_leave 121 = .ok (.aload_n 0, 1) := by decide +kernel
theorem dX6_leave_122 : decode cX6_leave 122 = .ok (.dup, 1) := by decide +kernel
theorem dX6_leave_123 : decode cX6_leave 123 = .ok (.getfield 56, 3) := by decide +kernel
theorem dX6_leave_126 : decode cX6_leave 126 = .ok (.iconst 1, 1) := by decide +kernel
theorem dX6_leave_127 : decode cX6_leave 127 = .ok (.isub, 1) := by decide +kernel
theorem dX6_leave_128 : decode cX6_leave 128 = .ok (.putfield 56, 3) := by decide +kernel
theorem dX6_leave_131 : decode cX6_leave 131 = .ok (.goto 51, 3) := by decide +kernel
theorem dX6_leave_134 : decode cX6_leave 134 = .ok (.iload_n 1, 1) := by decide +kernel
theorem dX6_leave_135 : decode cX6_leave 135 = .ok (.bipush 28, 2) := by decide +kernel
theorem dX6_leave_137 : decode cX6_leave 137 = .ok (.if_icmp .ne 25, 3) := by decide +kernel
theorem dX6_leave_140 : decode cX6_leave 140 = .ok (.iload_n 2, 1) := by decide +kernel
theorem dX6_leave_141 : decode cX6_leave 141 = .ok (.ifCond .ne 21, 3) := by decide +kernel
theorem dX6_leave_144 : decode cX6_leave 144 = .ok (.aload_n 0, 1) := by decide +kernel
theorem dX6_leave_145 : decode cX6_leave 145 = .ok (.aload_n 0, 1) := by decide +kernel
theorem dX6_leave_146 : decode cX6_leave 146 = .ok (.getfield 52, 3) := by decide +kernel
theorem dX6_leave_149 : decode cX6_leave 149 = .ok (.iconst 0, 1) := by decide +kernel
theorem dX6_leave_150 : decode cX6_leave 150 = .ok (.invokevirtual 150, 3) := by decide +kernel
theorem dX6_leave_153 : decode cX6_leave 153 = .ok (.invokestatic 166, 3) := by decide +kernel
theorem dX6_leave_156 : decode cX6_leave 156 = .ok (.invokevirtual 322, 3) := by decide +kernel
theorem dX6_leave_159 : decode cX6_leave 159 = .ok (.goto 23, 3) := by decide +kernel
theorem dX6_leave_162 : decode cX6_leave 162 = .ok (.iload_n 1, 1) := by decide +kernel
theorem dX6_leave_163 : decode cX6_leave 163 = .ok (.bipush 29, 2) := by decide +kernel
theorem dX6_leave_165 : decode cX6_leave 165 = .ok (.if_icmp .ne 17, 3) := by decide +kernel
theorem dX6_leave_168 : decode cX6_leave 168 = .ok (.aload_n 0, 1) := by decide +kernel
theorem dX6_leave_169 : decode cX6_leave 169 = .ok (.getfield 16, 3) := by decide +kernel
theorem dX6_leave_172 : decode cX6_leave 172 = .ok (.aload_n 0, 1) := by decide +kernel
theorem dX6_leave_173 : decode cX6_leave 173 = .ok (.getfield 52, 3) := by decide +kernel
theorem dX6_leave_176 : decode cX6_leave 176 = .ok (.invokevirtual 325, 3) := by decide +kernel
theorem dX6_leave_179 : decode cX6_leave 179 = .ok (.invokevirtual 328, 3) := by decide +kernel
theorem dX6_leave_182 : decode cX6_leave 182 = .ok (.aload_n 0, 1) := by decide +kernel
theorem dX6_leave_183 : decode cX6_leave 183 = .ok (.getfield 52, 3) := by decide +kernel
theorem dX6_leave_186 : decode cX6_leave 186 = .ok (.invokevirtual 117, 3) := by decide +kernel
theorem dX6_leave_189 : decode cX6_leave 189 = .ok (.return_, 1) := by decide +kernel
theorem dX6_isCaught_0 : decode cX6_isCaught 0 = .ok (.aload_n 0, 1) := by decide +kernel
theorem dX6_isCaught_1 : decode cX6_isCaught 1 = .ok (.getfield 7, 3) := by decide +kernel
theorem dX6_isCaught_4 : decode cX6_isCaught 4 = .ok (.aload_n 0, 1) := by decide +kernel
theorem dX6_isCaught_5 : decode cX6_isCaught 5 = .ok (.getfield 52, 3) := by decide +kernel
theorem dX6_isCaught_8 : decode cX6_isCaught 8 = .ok (.invokevirtual 105, 3) := by decide +kernel
theorem dX6_isCaught_11 : decode cX6_isCaught 11 = .ok (.iconst 2, 1) := by decide +kernel
theorem dX6_isCaught_12 : decode cX6_isCaught 12 = .ok (.invokevirtual 144, 3) := by decide +kernel
theorem dX6_isCaught_15 : decode cX6_isCaught 15 = .ok (.istore_n 1, 1) := by decide +kernel
theorem dX6_isCaught_16 : decode cX6_isCaught 16 = .ok (.iload_n 1, 1) := by decide +kernel
theorem dX6_isCaught_17 : decode cX6_isCaught 17 = .ok (.ifCond .eq 14, 3) := by decide +kernel
theorem dX6_isCaught_20 : decode cX6_isCaught 20 = .ok (.iload_n 1, 1) := by decide +kernel
theorem dX6_isCaught_21 : decode cX6_isCaught 21 = .ok (.aload_n 0, 1) := by decide +kernel
theorem dX6_isCaught_22 : decode cX6_isCaught 22 = .ok (.getfield 23, 3) := by decide +kernel
theorem dX6_isCaught_25 : decode cX6_isCaught 25 = .ok (.getfield 82, 3) := by decide +kernel
theorem dX6_isCaught_28 : decode cX6_isCaught 28 = .ok (.if_icmp .ne 7, 3) := by decide +kernel
theorem dX6_isCaught_31 : decode cX6_isCaught 31 = .ok (.iconst 1, 1) := by decide +kernel
theorem dX6_isCaught_32 : decode cX6_isCaught 32 = .ok (.goto 4, 3) := by decide +kernel
theorem dX6_isCaught_35 : decode cX6_isCaught 35 = .ok (.iconst 0, 1) := by decide +kernel
theorem dX6_isCaught_36 : decode cX6_isCaught 36 = .ok (.ireturn, 1) := by decide +kernel
theorem dX6_takeUp_0 : decode cX6_takeUp 0 = .ok (.aload_n 0, 1) := by decide +kernel
theorem dX6_takeUp_1 : decode cX6_takeUp 1 = .ok (.getfield 38, 3) := by decide +kernel
theorem dX6_takeUp_4 : decode cX6_takeUp 4 = .ok (.aload_n 0, 1) := by decide +kernel
theorem dX6_takeUp_5 : decode cX6_takeUp 5 = .ok (.getfield 52, 3) := by decide +kernel
theorem dX6_takeUp_8 : decode cX6_takeUp 8 = .ok (.invokevirtual 114, 3) := by decide +kernel
theorem dX6_takeUp_11 : decode cX6_takeUp 11 = .ok (.bipush 7, 2) := by decide +kernel
theorem dX6_takeUp_13 : decode cX6_takeUp 13 = .ok (.aload_n 0, 1) := by decide +kernel
theorem dX6_takeUp_14 : decode cX6_takeUp 14 = .ok (.getfield 23, 3) := by decide +kernel
theorem dX6_takeUp_17 : decode cX6_takeUp 17 = .ok (.getfield 331, 3) := by decide +kernel
theorem dX6_takeUp_20 : decode cX6_takeUp 20 = .ok (.invokestatic 275, 3) := by decide +kernel
theorem dX6_takeUp_23 : decode cX6_takeUp 23 = .ok (.invokevirtual 204, 3) := by decide +kernel
theorem dX6_takeUp_26 : decode cX6_takeUp 26 = .ok (.aload_n 0, 1) := by decide +kernel
theorem dX6_takeUp_27 : decode cX6_takeUp 27 = .ok (.getfield 23, 3) := by decide +kernel
theorem dX6_takeUp_30 : decode cX6_takeUp 30 = .ok (.invokevirtual 319, 3) := by decide +kernel
theorem dX6_takeUp_33 : decode cX6_takeUp 33 = .ok (.aload_n 0, 1) := by decide +kernel
theorem dX6_takeUp_34 : decode cX6_takeUp 34 = .ok (.getfield 52, 3) := by decide +kernel
theorem dX6_takeUp_37 : decode cX6_takeUp 37 = .ok (.iconst 1, 1) := by decide +kernel
theorem dX6_takeUp_38 : decode cX6_takeUp 38 = .ok (.invokevirtual 220, 3) := by decide +kernel
theorem dX6_takeUp_41 : decode cX6_takeUp 41 = .ok (.aload_n 0, 1) := by decide +kernel
theorem dX6_takeUp_42 : decode cX6_takeUp 42 = .ok (.iconst 1, 1) := by decide +kernel
theorem dX6_takeUp_43 : decode cX6_takeUp 43 = .ok (.invokevirtual 141, 3) := by decide +kernel
theorem dX6_takeUp_46 : decode cX6_takeUp 46 = .ok (.return_, 1) := by decide +kernel
theorem dX6_leaveLater_0 : decode cX6_leaveLater 0 = .ok (.aload_n 0, 1) := by decide +kernel
theorem dX6_leaveLater_1 : decode cX6_leaveLater 1 = .ok (.getfield 23, 3) := by decide +kernel
theorem dX6_leaveLater_4 : decode cX6_leaveLater 4 = .ok (.invokevirtual 307, 3) := by decide +kernel
theorem dX6_leaveLater_7 : decode cX6_leaveLater 7 = .ok (.ifCond .eq 28, 3) := by decide +kernel
theorem dX6_leaveLater_10 : decode cX6_leaveLater 10 = .ok (.aload_n 0, 1) := by decide +kernel
theorem dX6_leaveLater_11 : decode cX6_leaveLater 11 = .ok (.getfield 45, 3) := by decide +kernel
theorem dX6_leaveLater_14 : decode cX6_leaveLater 14 = .ok (.iload_n 1, 1) := by decide +kernel
theorem dX6_leaveLater_15 : decode cX6_leaveLater 15 = .ok (.aload_n 0, 1) := by decide +kernel
theorem dX6_leaveLater_16 : decode cX6_leaveLater 16 = .ok (.getfield 23, 3) := by decide +kernel
theorem dX6_leaveLater_19 : decode cX6_leaveLater 19 = .ok (.getfield 82, 3) := by decide +kernel
theorem dX6_leaveLater_22 : decode cX6_leaveLater 22 = .ok (.aload_n 0, 1) := by decide +kernel
theorem dX6_leaveLater_23 : decode cX6_leaveLater 23 = .ok (.getfield 23, 3) := by decide +kernel
theorem dX6_leaveLater_26 : decode cX6_leaveLater 26 = .ok (.getfield 331, 3) := by decide +kernel
theorem dX6_leaveLater_29 : decode cX6_leaveLater 29 = .ok (.invokevirtual 334, 3) := by decide +kernel
theorem dX6_leaveLater_32 : decode cX6_leaveLater 32 = .ok (.goto 12, 3) := by decide +kernel
theorem dX6_leaveLater_35 : decode cX6_leaveLater 35 = .ok (.aload_n 0, 1) := by decide +kernel
theorem dX6_leaveLater_36 : decode cX6_leaveLater 36 = .ok (.getfield 45, 3) := by decide +kernel
theorem dX6_leaveLater_39 : decode cX6_leaveLater 39 = .ok (.iload_n 1, 1) := by decide +kernel
theorem dX6_leaveLater_40 : decode cX6_leaveLater 40 = .ok (.iconst 0, 1) := by decide +kernel
theorem dX6_leaveLater_41 : decode cX6_leaveLater 41 = .ok (.invokevirtual 252, 3) := by decide +kernel
theorem dX6_leaveLater_44 : decode cX6_leaveLater 44 = .ok (.return_, 1) := by decide +kernel
theorem dX7_init_0 : decode cX7_init 0 = .ok (.aload_n 0, 1) := by decide +kernel
theorem dX7_init_1 : decode cX7_init 1 = .ok (.invokespecial 5, 3) := by decide +kernel
theorem dX7_init_4 : decode cX7_init 4 = .ok (.aload_n 0, 1) := by decide +kernel
theorem dX7_init_5 : decode cX7_init 5 = .ok (.sipush 1708, 3) := by decide +kernel
theorem dX7_init_8 : decode cX7_init 8 = .ok (.newarray .long, 2) := by decide +kernel
theorem dX7_init_10 : decode cX7_init 10 = .ok (.putfield 11, 3) := by decide +kernel
theorem dX7_init_13 : decode cX7_init 13 = .ok (.aload_n 0, 1) := by decide +kernel
theorem dX7_init_14 : decode cX7_init 14 = .ok (.sipush 1700, 3) := by decide +kernel
theorem dX7_init_17 : decode cX7_init 17 = .ok (.newarray .int, 2) := by decide +kernel
theorem dX7_init_19 : decode cX7_init 19 = .ok (.putfield 15, 3) := by decide +kernel
theorem dX7_init_22 : decode cX7_init 22 = .ok (.aload_n 0, 1) := by decide +kernel
theorem dX7_init_23 : decode cX7_init 23 = .ok (.sipush 1700, 3) := by decide +kernel
theorem dX7_init_26 : decode cX7_init 26 = .ok (.newarray .long, 2) := by decide +kernel
theorem dX7_init_28 : decode cX7_init 28 = .ok (.putfield 19, 3) := by decide +kernel
theorem dX7_init_31 : decode cX7_init 31 = .ok (.aload_n 0, 1) := by decide +kernel
theorem dX7_init_32 : decode cX7_init 32 = .ok (.invokevirtual 22, 3) := by decide +kernel
theorem dX7_init_35 : decode cX7_init 35 = .ok (.return_, 1) := by decide +kernel
theorem dX7_isBox_0 : decode cX7_isBox 0 = .ok (.iload_n 0, 1) := by decide +kernel
theorem dX7_isBox_1 : decode cX7_isBox 1 = .ok (.ifCond .lt 13, 3) := by decide +kernel
theorem dX7_isBox_4 : decode cX7_isBox 4 = .ok (.iload_n 0, 1) := by decide +kernel
theorem dX7_isBox_5 : decode cX7_isBox 5 = .ok (.bipush 8, 2) := by decide +kernel
theorem dX7_isBox_7 : decode cX7_isBox 7 = .ok (.if_icmp .ge 7, 3) := by decide +kernel
theorem dX7_isBox_10 : decode cX7_isBox 10 = .ok (.iconst 1, 1) := by decide +kernel
theorem dX7_isBox_11 : decode cX7_isBox 11 = .ok (.goto 4, 3) := by decide +kernel
theorem dX7_isBox_14 : decode cX7_isBox 14 = .ok (.iconst 0, 1) := by decide +kernel
theorem dX7_isBox_15 : decode cX7_isBox 15 = .ok (.ireturn, 1) := by decide +kernel
theorem dX7_cellOf_0 : decode cX7_cellOf 0 = .ok (.lload_n 0, 1) := by decide +kernel
theorem dX7_cellOf_1 : decode cX7_cellOf 1 = .ok (.invokestatic 25, 3) := by decide +kernel
theorem dX7_cellOf_4 : decode cX7_cellOf 4 = .ok (.iconst 1, 1) := by decide +kernel
theorem dX7_cellOf_5 : decode cX7_cellOf 5 = .ok (.iadd, 1) := by decide +kernel
theorem dX7_cellOf_6 : decode cX7_cellOf 6 = .ok (.iload_n 2, 1) := by decide +kernel
theorem dX7_cellOf_7 : decode cX7_cellOf 7 = .ok (.iadd, 1) := by decide +kernel
theorem dX7_cellOf_8 : decode cX7_cellOf 8 = .ok (.ireturn, 1) := by decide +kernel
theorem dX7_restart_0 : decode cX7_restart 0 = .ok (.iconst 0, 1) := by decide +kernel
theorem dX7_restart_1 : decode cX7_restart 1 = .ok (.istore_n 1, 1) := by decide +kernel
theorem dX7_restart_2 : decode cX7_restart 2 = .ok (.iload_n 1, 1) := by decide +kernel
theorem dX7_restart_3 : decode cX7_restart 3 = .ok (.bipush 8, 2) := by decide +kernel
theorem dX7_restart_5 : decode cX7_restart 5 = .ok (.if_icmp .ge 18, 3) := by decide +kernel
theorem dX7_restart_8 : decode cX7_restart 8 = .ok (.aload_n 0, 1) := by decide +kernel
theorem dX7_restart_9 : decode cX7_restart 9 = .ok (.getfield 11, 3) := by decide +kernel
theorem dX7_restart_12 : decode cX7_restart 12 = .ok (.iload_n 1, 1) := by decide +kernel
theorem dX7_restart_13 : decode cX7_restart 13 = .ok (.ldc2_w 31, 3) := by decide +kernel
theorem dX7_restart_16 : decode cX7_restart 16 = .ok (.lastore, 1) := by decide +kernel
theorem dX7_restart_17 : decode cX7_restart 17 = .ok (.iinc 1 1, 3) := by decide +kernel
theorem dX7_restart_20 : decode cX7_restart 20 = .ok (.goto (-18), 3) := by decide +kernel
theorem dX7_restart_23 : decode cX7_restart 23 = .ok (.aload_n 0, 1) := by decide +kernel
theorem dX7_restart_24 : decode cX7_restart 24 = .ok (.bipush 8, 2) := by decide +kernel
theorem dX7_restart_26 : decode cX7_restart 26 = .ok (.putfield 33, 3) := by decide +kernel
theorem dX7_restart_29 : decode cX7_restart 29 = .ok (.aload_n 0, 1) := by decide +kernel
theorem dX7_restart_30 : decode cX7_restart 30 = .ok (.iconst 0, 1) := by decide +kernel
theorem dX7_restart_31 : decode cX7_restart 31 = .ok (.putfield 37, 3) := by decide +kernel
theorem dX7_restart_34 : decode cX7_restart 34 = .ok (.return_, 1) := by decide +kernel
theorem dX7_newRow_0 : decode cX7_newRow 0 = .ok (.iload_n 2, 1) := by decide +kernel
theorem dX7_newRow_1 : decode cX7_newRow 1 = .ok (.ifCond .lt 25, 3) := by decide +kernel
theorem dX7_newRow_4 : decode cX7_newRow 4 = .ok (.iload_n 2, 1) := by decide +kernel
theorem dX7_newRow_5 : decode cX7_newRow 5 = .ok (.bipush 16, 2) := by decide +kernel
theorem dX7_newRow_7 : decode cX7_newRow 7 = .ok (.if_icmp .gt 19, 3) := by decide +kernel
theorem dX7_newRow_10 : decode cX7_newRow 10 = .ok (.aload_n 0, 1) := by decide +kernel
theorem dX7_newRow_11 : decode cX7_newRow 11 = .ok (.getfield 33, 3) := by decide +kernel
theorem dX7_newRow_14 : decode cX7_newRow 14 = .ok (.iconst 1, 1) := by decide +kernel
theorem dX7_newRow_15 : decode cX7_newRow 15 = .ok (.iadd, 1) := by decide +kernel
theorem dX7_newRow_16 : decode cX7_newRow 16 = .ok (.iload_n 2, 1) := by decide +kernel
theorem dX7_newRow_17 : decode cX7_newRow 17 = .ok (.iadd, 1) := by decide +kernel
theorem dX7_newRow_18 : decode cX7_newRow 18 = .ok (.aload_n 0, 1) := by decide +kernel
theorem dX7_newRow_19 : decode cX7_newRow 19 = .ok (.getfield 11, 3) := by decide +kernel
theorem dX7_newRow_22 : decode cX7_newRow 22 = .ok (.arraylength, 1) := by decide +kernel
theorem dX7_newRow_23 : decode cX7_newRow 23 = .ok (.if_icmp .le 7, 3) := by decide +kernel
theorem dX7_newRow_26 : decode cX7_newRow 26 = .ok (.ldc2_w 31, 3) := by decide +kernel
theorem dX7_newRow_29 : decode cX7_newRow 29 = .ok (.lreturn, 1) := by decide +kernel
theorem dX7_newRow_30 : decode cX7_newRow 30 = .ok (.aload_n 0, 1) := by decide +kernel
theorem dX7_newRow_31 : decode cX7_newRow 31 = .ok (.getfield 33, 3) := by decide +kernel
theorem dX7_newRow_34 : decode cX7_newRow 34 = .ok (.istore_n 3, 1) := by decide +kernel
theorem dX7_newRow_35 : decode cX7_newRow 35 = .ok (.aload_n 0, 1) := by decide +kernel
theorem dX7_newRow_36 : decode cX7_newRow 36 = .ok (.dup, 1) := by decide +kernel
theorem dX7_newRow_37 : decode cX7_newRow 37 = .ok (.getfield 33, 3) := by decide +kernel
theorem dX7_newRow_40 : decode cX7_newRow 40 = .ok (.iconst 1, 1) := by decide +kernel
theorem dX7_newRow_41 : decode cX7_newRow 41 = .ok (.iload_n 2, 1) := by decide +kernel
theorem dX7_newRow_42 : decode cX7_newRow 42 = .ok (.iadd, 1) := by decide +kernel
theorem dX7_newRow_43 : decode cX7_newRow 43 = .ok (.iadd, 1) := by decide +kernel
theorem dX7_newRow_44 : decode cX7_newRow 44 = .ok (.putfield 33, 3) := by decide +kernel
theorem dX7_newRow_47 : decode cX7_newRow 47 = .ok (.aload_n 0, 1) := by decide +kernel
theorem dX7_newRow_48 : decode cX7_newRow 48 = .ok (.getfield 11, 3) := by decide +kernel
theorem dX7_newRow_51 : decode cX7_newRow 51 = .ok (.iload_n 3, 1) := by decide +kernel
theorem dX7_newRow_52 : decode cX7_newRow 52 = .ok (.iload_n 2, 1) := by decide +kernel
theorem dX7_newRow_53 : decode cX7_newRow 53 = .ok (.invokestatic 40, 3) := by decide +kernel
theorem dX7_newRow_56 : decode cX7_newRow 56 = .ok (.lastore, 1) := by decide +kernel
theorem dX7_newRow_57 : decode cX7_newRow 57 = .ok (.iload_n 1, 1) := by decide +kernel
theorem dX7_newRow_58 : decode cX7_newRow 58 = .ok (.iconst 2, 1) := by decide +kernel
theorem dX7_newRow_59 : decode cX7_newRow 59 = .ok (.if_icmp .ne 10, 3) := by decide +kernel
theorem dX7_newRow_62 : decode cX7_newRow 62 = .ok (.iconst 0, 1) := by decide +kernel
theorem dX7_newRow_63 : decode cX7_newRow 63 = .ok (.invokestatic 40, 3) := by decide +kernel
theorem dX7_newRow_66 : decode cX7_newRow 66 = .ok (.goto 6, 3) := by decide +kernel
theorem dX7_newRow_69 : decode cX7_newRow 69 = .ok (.ldc2_w 31, 3) := by decide +kernel
theorem dX7_newRow_72 : decode cX7_newRow 72 = .ok (.lstore 4, 2) := by decide +kernel
theorem dX7_newRow_74 : decode cX7_newRow 74 = .ok (.iload_n 3, 1) := by decide +kernel
theorem dX7_newRow_75 : decode cX7_newRow 75 = .ok (.iconst 1, 1) := by decide +kernel
theorem dX7_newRow_76 : decode cX7_newRow 76 = .ok (.iadd, 1) := by decide +kernel
theorem dX7_newRow_77 : decode cX7_newRow 77 = .ok (.istore 6, 2) := by decide +kernel
theorem dX7_newRow_79 : decode cX7_newRow 79 = .ok (.iload 6, 2) := by decide +kernel
theorem dX7_newRow_81 : decode cX7_newRow 81 = .ok (.aload_n 0, 1) := by decide +kernel
theorem dX7_newRow_82 : decode cX7_newRow 82 = .ok (.getfield 33, 3) := by decide +kernel
theorem dX7_newRow_85 : decode cX7_newRow 85 = .ok (.if_icmp .ge 18, 3) := by decide +kernel
theorem dX7_newRow_88 : decode cX7_newRow 88 = .ok (.aload_n 0, 1) := by decide +kernel
theorem dX7_newRow_89 : decode cX7_newRow 89 = .ok (.getfield 11, 3) := by decide +kernel
theorem dX7_newRow_92 : decode cX7_newRow 92 = .ok (.iload 6, 2) := by decide +kernel
theorem dX7_newRow_94 : decode cX7_newRow 94 = .ok (.lload 4, 2) := by decide +kernel
theorem dX7_newRow_96 : decode cX7_newRow 96 = .ok (.lastore, 1) := by decide +kernel
theorem dX7_newRow_97 : decode cX7_newRow 97 = .ok (.iinc 6 1, 3) := by decide +kernel
theorem dX7_newRow_100 : decode cX7_newRow 100 = .ok (.goto (-21), 3) := by decide +kernel
theorem dX7_newRow_103 : decode cX7_newRow 103 = .ok (.iload_n 1, 1) := by decide +kernel
theorem dX7_newRow_104 : decode cX7_newRow 104 = .ok (.iload_n 3, 1) := by decide +kernel
theorem dX7_newRow_105 : decode cX7_newRow 105 = .ok (.invokestatic 44, 3) := by decide +kernel
theorem dX7_newRow_108 : decode cX7_newRow 108 = .ok (.lreturn, 1) := by decide +kernel
theorem dX7_newLink_0 : decode cX7_newLink 0 = .ok (.aload_n 0, 1) := by decide +kernel
theorem dX7_newLink_1 : decode cX7_newLink 1 = .ok (.getfield 33, 3) := by decide +kernel
theorem dX7_newLink_4 : decode cX7_newLink 4 = .ok (.aload_n 0, 1) := by decide +kernel
theorem dX7_newLink_5 : decode cX7_newLink 5 = .ok (.getfield 11, 3) := by decide +kernel
theorem dX7_newLink_8 : decode cX7_newLink 8 = .ok (.arraylength, 1) := by decide +kernel
theorem dX7_newLink_9 : decode cX7_newLink 9 = .ok (.if_icmp .lt 7, 3) := by decide +kernel
theorem dX7_newLink_12 : decode cX7_newLink 12 = .ok (.ldc2_w 31, 3) := by decide +kernel
theorem dX7_newLink_15 : decode cX7_newLink 15 = .ok (.lreturn, 1) := by decide +kernel
theorem dX7_newLink_16 : decode cX7_newLink 16 = .ok (.aload_n 0, 1) := by decide +kernel
theorem dX7_newLink_17 : decode cX7_newLink 17 = .ok (.getfield 33, 3) := by decide +kernel
theorem dX7_newLink_20 : decode cX7_newLink 20 = .ok (.istore 4, 2) := by decide +kernel
theorem dX7_newLink_22 : decode cX7_newLink 22 = .ok (.aload_n 0, 1) := by decide +kernel
theorem dX7_newLink_23 : decode cX7_newLink 23 = .ok (.dup, 1) := by decide +kernel
theorem dX7_newLink_24 : decode cX7_newLink 24 = .ok (.getfield 33, 3) := by decide +kernel
theorem dX7_newLink_27 : decode cX7_newLink 27 = .ok (.iconst 1, 1) := by decide +kernel
theorem dX7_newLink_28 : decode cX7_newLink 28 = .ok (.iadd, 1) := by decide +kernel
theorem dX7_newLink_29 : decode cX7_newLink 29 = .ok (.putfield 33, 3) := by decide +kernel
theorem dX7_newLink_32 : decode cX7_newLink 32 = .ok (.aload_n 0, 1) := by decide +kernel
theorem dX7_newLink_33 : decode cX7_newLink 33 = .ok (.getfield 11, 3) := by decide +kernel
theorem dX7_newLink_36 : decode cX7_newLink 36 = .ok (.iload 4, 2) := by decide +kernel
theorem dX7_newLink_38 : decode cX7_newLink 38 = .ok (.lload_n 2, 1) := by decide +kernel
theorem dX7_newLink_39 : decode cX7_newLink 39 = .ok (.lastore, 1) := by decide +kernel
theorem dX7_newLink_40 : decode cX7_newLink 40 = .ok (.iload_n 1, 1) := by decide +kernel
theorem dX7_newLink_41 : decode cX7_newLink 41 = .ok (.iload 4, 2) := by decide +kernel
theorem dX7_newLink_43 : decode cX7_newLink 43 = .ok (.invokestatic 44, 3) := by decide +kernel
theorem dX7_newLink_46 : decode cX7_newLink 46 = .ok (.lreturn, 1) := by decide +kernel
theorem dX7_read_0 : decode cX7_read 0 = .ok (.iload_n 1, 1) := by decide +kernel
theorem dX7_read_1 : decode cX7_read 1 = .ok (.ifCond .lt 20, 3) := by decide +kernel
theorem dX7_read_4 : decode cX7_read 4 = .ok (.iload_n 1, 1) := by decide +kernel
theorem dX7_read_5 : decode cX7_read 5 = .ok (.aload_n 0, 1) := by decide +kernel
theorem dX7_read_6 : decode cX7_read 6 = .ok (.getfield 33, 3) := by decide +kernel
theorem dX7_read_9 : decode cX7_read 9 = .ok (.if_icmp .ge 12, 3) := by decide +kernel
theorem dX7_read_12 : decode cX7_read 12 = .ok (.aload_n 0, 1) := by decide +kernel
theorem dX7_read_13 : decode cX7_read 13 = .ok (.getfield 11, 3) := by decide +kernel
theorem dX7_read_16 : decode cX7_read 16 = .ok (.iload_n 1, 1) := by decide +kernel
theorem dX7_read_17 : decode cX7_read 17 = .ok (.laload, 1) := by decide +kernel
theorem dX7_read_18 : decode cX7_read 18 = .ok (.goto 6, 3) := by decide +kernel
theorem dX7_read_21 : decode cX7_read 21 = .ok (.ldc2_w 31, 3) := by decide +kernel
theorem dX7_read_24 : decode cX7_read 24 = .ok (.lreturn, 1) := by decide +kernel
theorem dX7_write_0 : decode cX7_write 0 = .ok (.iload_n 1, 1) := by decide +kernel
theorem dX7_write_1 : decode cX7_write 1 = .ok (.ifCond .lt 23, 3) := by decide +kernel
theorem dX7_write_4 : decode cX7_write 4 = .ok (.iload_n 1, 1) := by decide +kernel
theorem dX7_write_5 : decode cX7_write 5 = .ok (.aload_n 0, 1) := by decide +kernel
theorem dX7_write_6 : decode cX7_write 6 = .ok (.getfield 33, 3) := by decide +kernel
theorem dX7_write_9 : decode cX7_write 9 = .ok (.if_icmp .ge 15, 3) := by decide +kernel
theorem dX7_write_12 : decode cX7_write 12 = .ok (.aload_n 0, 1) := by decide +kernel
theorem dX7_write_13 : decode cX7_write 13 = .ok (.getfield 37, 3) := by decide +kernel
theorem dX7_write_16 : decode cX7_write 16 = .ok (.aload_n 0, 1) := by decide +kernel
theorem dX7_write_17 : decode cX7_write 17 = .ok (.getfield 15, 3) := by decide +kernel
theorem dX7_write_20 : decode cX7_write 20 = .ok (.arraylength, 1) := by decide +kernel
theorem dX7_write_21 : decode cX7_write 21 = .ok (.if_icmp .lt 4, 3) := by decide +kernel
theorem dX7_write_24 : decode cX7_write 24 = .ok (.return_, 1) := by decide +kernel
theorem dX7_write_25 : decode cX7_write 25 = .ok (.aload_n 0, 1) := by decide +kernel
theorem dX7_write_26 : decode cX7_write 26 = .ok (.getfield 15, 3) := by decide +kernel
theorem dX7_write_29 : decode cX7_write 29 = .ok (.aload_n 0, 1) := by decide +kernel
theorem dX7_write_30 : decode cX7_write 30 = .ok (.getfield 37, 3) := by decide +kernel
theorem dX7_write_33 : decode cX7_write 33 = .ok (.iload_n 1, 1) := by decide +kernel
theorem dX7_write_34 : decode cX7_write 34 = .ok (.iastore, 1) := by decide +kernel
theorem dX7_write_35 : decode cX7_write 35 = .ok (.aload_n 0, 1) := by decide +kernel
theorem dX7_write_36 : decode cX7_write 36 = .ok (.getfield 19, 3) := by decide +kernel
theorem dX7_write_39 : decode cX7_write 39 = .ok (.aload_n 0, 1) := by decide +kernel
theorem dX7_write_40 : decode cX7_write 40 = .ok (.getfield 37, 3) := by decide +kernel
theorem dX7_write_43 : decode cX7_write 43 = .ok (.aload_n 0, 1) := by decide +kernel
theorem dX7_write_44 : decode cX7_write 44 = .ok (.getfield 11, 3) := by decide +kernel
theorem dX7_write_47 : decode cX7_write 47 = .ok (.iload_n 1, 1) := by decide +kernel
theorem dX7_write_48 : decode cX7_write 48 = .ok (.laload, 1) := by decide +kernel
theorem dX7_write_49 : decode cX7_write 49 = .ok (.lastore, 1) := by decide +kernel
theorem dX7_write_50 : decode cX7_write 50 = .ok (.aload_n 0, 1) := by decide +kernel
theorem dX7_write_51 : decode cX7_write 51 = .ok (.dup, 1) := by decide +kernel
theorem dX7_write_52 : decode cX7_write 52 = .ok (.getfield 37, 3) := by decide +kernel
theorem dX7_write_55 : decode cX7_write 55 = .ok (.iconst 1, 1) := by decide +kernel
theorem dX7_write_56 : decode cX7_write 56 = .ok (.iadd, 1) := by decide +kernel
theorem dX7_write_57 : decode cX7_write 57 = .ok (.putfield 37, 3) := by decide +kernel
theorem dX7_write_60 : decode cX7_write 60 = .ok (.aload_n 0, 1) := by decide +kernel
theorem dX7_write_61 : decode cX7_write 61 = .ok (.getfield 11, 3) := by decide +kernel
theorem dX7_write_64 : decode cX7_write 64 = .ok (.iload_n 1, 1) := by decide +kernel
theorem dX7_write_65 : decode cX7_write 65 = .ok (.lload_n 2, 1) := by decide +kernel
theorem dX7_write_66 : decode cX7_write 66 = .ok (.lastore, 1) := by decide +kernel
theorem dX7_write_67 : decode cX7_write 67 = .ok (.return_, 1) := by decide +kernel
theorem dX7_copied_0 : decode cX7_copied 0 = .ok (.iconst 0, 1) := by decide +kernel
theorem dX7_copied_1 : decode cX7_copied 1 = .ok (.istore 6, 2) := by decide +kernel
theorem dX7_copied_3 : decode cX7_copied 3 = .ok (.iload 6, 2) := by decide +kernel
theorem dX7_copied_5 : decode cX7_copied 5 = .ok (.iload 5, 2) := by decide +kernel
theorem dX7_copied_7 : decode cX7_copied 7 = .ok (.if_icmp .ge 44, 3) := by decide +kernel
theorem dX7_copied_10 : decode cX7_copied 10 = .ok (.aload_n 0, 1) := by decide +kernel
theorem dX7_copied_11 : decode cX7_copied 11 = .ok (.lload_n 1, 1) := by decide +kernel
theorem dX7_copied_12 : decode cX7_copied 12 = .ok (.iload 6, 2) := by decide +kernel
theorem dX7_copied_14 : decode cX7_copied 14 = .ok (.invokestatic 48, 3) := by decide +kernel
theorem dX7_copied_17 : decode cX7_copied 17 = .ok (.invokevirtual 52, 3) := by decide +kernel
theorem dX7_copied_20 : decode cX7_copied 20 = .ok (.lstore 7, 2) := by decide +kernel
theorem dX7_copied_22 : decode cX7_copied 22 = .ok (.lload_n 3, 1) := by decide +kernel
theorem dX7_copied_23 : decode cX7_copied 23 = .ok (.lload 7, 2) := by decide +kernel
theorem dX7_copied_25 : decode cX7_copied 25 = .ok (.invokestatic 55, 3) := by decide +kernel
theorem dX7_copied_28 : decode cX7_copied 28 = .ok (.ifCond .eq 5, 3) := by decide +kernel
theorem dX7_copied_31 : decode cX7_copied 31 = .ok (.iconst 0, 1) := by decide +kernel
theorem dX7_copied_32 : decode cX7_copied 32 = .ok (.ireturn, 1) := by decide +kernel
theorem dX7_copied_33 : decode cX7_copied 33 = .ok (.aload_n 0, 1) := by decide +kernel
theorem dX7_copied_34 : decode cX7_copied 34 = .ok (.lload_n 3, 1) := by decide +kernel
theorem dX7_copied_35 : decode cX7_copied 35 = .ok (.iload 6, 2) := by decide +kernel
theorem dX7_copied_37 : decode cX7_copied 37 = .ok (.invokestatic 48, 3) := by decide +kernel
theorem dX7_copied_40 : decode cX7_copied 40 = .ok (.lload 7, 2) := by decide +kernel
theorem dX7_copied_42 : decode cX7_copied 42 = .ok (.invokevirtual 59, 3) := by decide +kernel
theorem dX7_copied_45 : decode cX7_copied 45 = .ok (.iinc 6 1, 3) := by decide +kernel
theorem dX7_copied_48 : decode cX7_copied 48 = .ok (.goto (-45), 3) := by decide +kernel
theorem dX7_copied_51 : decode cX7_copied 51 = .ok (.iconst 1, 1) := by decide +kernel
theorem dX7_copied_52 : decode cX7_copied 52 = .ok (.ireturn, 1) := by decide +kernel
theorem dX7_changesSoFar_0 : decode cX7_changesSoFar 0 = .ok (.aload_n 0, 1) := by decide +kernel
theorem dX7_changesSoFar_1 : decode cX7_changesSoFar 1 = .ok (.getfield 37, 3) := by decide +kernel
theorem dX7_changesSoFar_4 : decode cX7_changesSoFar 4 = .ok (.ireturn, 1) := by decide +kernel
theorem dX7_undoBackTo_0 : decode cX7_undoBackTo 0 = .ok (.aload_n 0, 1) := by decide +kernel
theorem dX7_undoBackTo_1 : decode cX7_undoBackTo 1 = .ok (.getfield 37, 3) := by decide +kernel
theorem dX7_undoBackTo_4 : decode cX7_undoBackTo 4 = .ok (.iload_n 1, 1) := by decide +kernel
theorem dX7_undoBackTo_5 : decode cX7_undoBackTo 5 = .ok (.if_icmp .le 46, 3) := by decide +kernel
theorem dX7_undoBackTo_8 : decode cX7_undoBackTo 8 = .ok (.aload_n 0, 1) := by decide +kernel
theorem dX7_undoBackTo_9 : decode cX7_undoBackTo 9 = .ok (.getfield 37, 3) := by decide +kernel
theorem dX7_undoBackTo_12 : decode cX7_undoBackTo 12 = .ok (.ifCond .le 39, 3) := by decide +kernel
theorem dX7_undoBackTo_15 : decode cX7_undoBackTo 15 = .ok (.aload_n 0, 1) := by decide +kernel
theorem dX7_undoBackTo_16 : decode cX7_undoBackTo 16 = .ok (.dup, 1) := by decide +kernel
theorem dX7_undoBackTo_17 : decode cX7_undoBackTo 17 = .ok (.getfield 37, 3) := by decide +kernel
theorem dX7_undoBackTo_20 : decode cX7_undoBackTo 20 = .ok (.iconst 1, 1) := by decide +kernel
theorem dX7_undoBackTo_21 : decode cX7_undoBackTo 21 = .ok (.isub, 1) := by decide +kernel
theorem dX7_undoBackTo_22 : decode cX7_undoBackTo 22 = .ok (.putfield 37, 3) := by decide +kernel
theorem dX7_undoBackTo_25 : decode cX7_undoBackTo 25 = .ok (.aload_n 0, 1) := by decide +kernel
theorem dX7_undoBackTo_26 : decode cX7_undoBackTo 26 = .ok (.getfield 11, 3) := by decide +kernel
theorem dX7_undoBackTo_29 : decode cX7_undoBackTo 29 = .ok (.aload_n 0, 1) := by decide +kernel
theorem dX7_undoBackTo_30 : decode cX7_undoBackTo 30 = .ok (.getfield 15, 3) := by decide +kernel
theorem dX7_undoBackTo_33 : decode cX7_undoBackTo 33 = .ok (.aload_n 0, 1) := by decide +kernel
theorem dX7_undoBackTo_34 : decode cX7_undoBackTo 34 = .ok (.getfield 37, 3) := by decide +kernel
theorem dX7_undoBackTo_37 : decode cX7_undoBackTo 37 = .ok (.iaload, 1) := by decide +kernel
theorem dX7_undoBackTo_38 : decode cX7_undoBackTo 38 = .ok (.aload_n 0, 1) := by decide +kernel
theorem dX7_undoBackTo_39 : decode cX7_undoBackTo 39 = .ok (.getfield 19, 3) := by decide +kernel
theorem dX7_undoBackTo_42 : decode cX7_undoBackTo 42 = .ok (.aload_n 0, 1) := by decide +kernel
theorem dX7_undoBackTo_43 : decode cX7_undoBackTo 43 = .ok (.getfield 37, 3) := by decide +kernel
theorem dX7_undoBackTo_46 : decode cX7_undoBackTo 46 = .ok (.laload, 1) := by decide +kernel
theorem dX7_undoBackTo_47 : decode cX7_undoBackTo 47 = .ok (.lastore, 1) := by decide +kernel
theorem dX7_undoBackTo_48 : decode cX7_undoBackTo 48 = .ok (.goto (-48), 3) := by decide +kernel
theorem dX7_undoBackTo_51 : decode cX7_undoBackTo 51 = .ok (.return_, 1) := by decide +kernel
theorem dX7_lengthOf_0 : decode cX7_lengthOf 0 = .ok (.lload_n 1, 1) := by decide +kernel
theorem dX7_lengthOf_1 : decode cX7_lengthOf 1 = .ok (.invokestatic 63, 3) := by decide +kernel
theorem dX7_lengthOf_4 : decode cX7_lengthOf 4 = .ok (.ifCond .eq 17, 3) := by decide +kernel
theorem dX7_lengthOf_7 : decode cX7_lengthOf 7 = .ok (.aload_n 0, 1) := by decide +kernel
theorem dX7_lengthOf_8 : decode cX7_lengthOf 8 = .ok (.lload_n 1, 1) := by decide +kernel
theorem dX7_lengthOf_9 : decode cX7_lengthOf 9 = .ok (.invokestatic 25, 3) := by decide +kernel
theorem dX7_lengthOf_12 : decode cX7_lengthOf 12 = .ok (.invokevirtual 52, 3) := by decide +kernel
theorem dX7_lengthOf_15 : decode cX7_lengthOf 15 = .ok (.invokestatic 25, 3) := by decide +kernel
theorem dX7_lengthOf_18 : decode cX7_lengthOf 18 = .ok (.goto 4, 3) := by decide +kernel
theorem dX7_lengthOf_21 : decode cX7_lengthOf 21 = .ok (.iconst 0, 1) := by decide +kernel
theorem dX7_lengthOf_22 : decode cX7_lengthOf 22 = .ok (.ireturn, 1) := by decide +kernel
theorem dX7_measure_0 : decode cX7_measure 0 = .ok (.lload_n 1, 1) := by decide +kernel
theorem dX7_measure_1 : decode cX7_measure 1 = .ok (.invokestatic 67, 3) := by decide +kernel
theorem dX7_measure_4 : decode cX7_measure 4 = .ok (.ifCond .ne 10, 3) := by decide +kernel
theorem dX7_measure_7 : decode cX7_measure 7 = .ok (.lload_n 1, 1) := by decide +kernel
theorem dX7_measure_8 : decode cX7_measure 8 = .ok (.invokestatic 25, 3) := by decide +kernel
theorem dX7_measure_11 : decode cX7_measure 11 = .ok (.goto 8, 3) := by decide +kernel
theorem dX7_measure_14 : decode cX7_measure 14 = .ok (.aload_n 0, 1) := by decide +kernel
theorem dX7_measure_15 : decode cX7_measure 15 = .ok (.lload_n 1, 1) := by decide +kernel
theorem dX7_measure_16 : decode cX7_measure 16 = .ok (.invokevirtual 70, 3) := by decide +kernel
theorem dX7_measure_19 : decode cX7_measure 19 = .ok (.ireturn, 1) := by decide +kernel
theorem dX8_init_0 : decode cX8_init 0 = .ok (.aload_n 0, 1) := by decide +kernel
theorem dX8_init_1 : decode cX8_init 1 = .ok (.invokespecial 3, 3) := by decide +kernel
theorem dX8_init_4 : decode cX8_init 4 = .ok (.aload_n 0, 1) := by decide +kernel
theorem dX8_init_5 : decode cX8_init 5 = .ok (.sipush 200, 3) := by decide +kernel
theorem dX8_init_8 : decode cX8_init 8 = .ok (.newarray .int, 2) := by decide +kernel
theorem dX8_init_10 : decode cX8_init 10 = .ok (.putfield 9, 3) := by decide +kernel
theorem dX8_init_13 : decode cX8_init 13 = .ok (.aload_n 0, 1) := by decide +kernel
theorem dX8_init_14 : decode cX8_init 14 = .ok (.sipush 200, 3) := by decide +kernel
theorem dX8_init_17 : decode cX8_init 17 = .ok (.newarray .int, 2) := by decide +kernel
theorem dX8_init_19 : decode cX8_init 19 = .ok (.putfield 15, 3) := by decide +kernel
theorem dX8_init_22 : decode cX8_init 22 = .ok (.aload_n 0, 1) := by decide +kernel
theorem dX8_init_23 : decode cX8_init 23 = .ok (.sipush 200, 3) := by decide +kernel
theorem dX8_init_26 : decode cX8_init 26 = .ok (.newarray .int, 2) := by decide +kernel
theorem dX8_init_28 : decode cX8_init 28 = .ok (.putfield 18, 3) := by decide +kernel
theorem dX8_init_31 : decode cX8_init 31 = .ok (.aload_n 0, 1) := by decide +kernel
theorem dX8_init_32 : decode cX8_init 32 = .ok (.sipush 600, 3) := by decide +kernel
theorem dX8_init_35 : decode cX8_init 35 = .ok (.newarray .long, 2) := by decide +kernel
theorem dX8_init_37 : decode cX8_init 37 = .ok (.putfield 21, 3) := by decide +kernel
theorem dX8_init_40 : decode cX8_init 40 = .ok (.aload_n 0, 1) := by decide +kernel
theorem dX8_init_41 : decode cX8_init 41 = .ok (.sipush 200, 3) := by decide +kernel
theorem dX8_init_44 : decode cX8_init 44 = .ok (.newarray .int, 2) := by decide +kernel
theorem dX8_init_46 : decode cX8_init 46 = .ok (.putfield 25, 3) := by decide +kernel
theorem dX8_init_49 : decode cX8_init 49 = .ok (.aload_n 0, 1) := by decide +kernel
theorem dX8_init_50 : decode cX8_init 50 = .ok (.sipush 200, 3) := by decide +kernel
theorem dX8_init_53 : decode cX8_init 53 = .ok (.newarray .int, 2) := by decide +kernel
theorem dX8_init_55 : decode cX8_init 55 = .ok (.putfield 28, 3) := by decide +kernel
theorem dX8_init_58 : decode cX8_init 58 = .ok (.aload_n 0, 1) := by decide +kernel
theorem dX8_init_59 : decode cX8_init 59 = .ok (.sipush 200, 3) := by decide +kernel
theorem dX8_init_62 : decode cX8_init 62 = .ok (.newarray .int, 2) := by decide +kernel
theorem dX8_init_64 : decode cX8_init 64 = .ok (.putfield 31, 3) := by decide +kernel
theorem dX8_init_67 : decode cX8_init 67 = .ok (.aload_n 0, 1) := by decide +kernel
theorem dX8_init_68 : decode cX8_init 68 = .ok (.sipush 200, 3) := by decide +kernel
theorem dX8_init_71 : decode cX8_init 71 = .ok (.newarray .int, 2) := by decide +kernel
theorem dX8_init_73 : decode cX8_init 73 = .ok (.putfield 34, 3) := by decide +kernel
theorem dX8_init_76 : decode cX8_init 76 = .ok (.aload_n 0, 1) := by decide +kernel
theorem dX8_init_77 : decode cX8_init 77 = .ok (.iconst 0, 1) := by decide +kernel
theorem dX8_init_78 : decode cX8_init 78 = .ok (.putfield 37, 3) := by decide +kernel
theorem dX8_init_81 : decode cX8_init 81 = .ok (.aload_n 0, 1) := by decide +kernel
theorem dX8_init_82 : decode cX8_init 82 = .ok (.iconst 0, 1) := by decide +kernel
theorem dX8_init_83 : decode cX8_init 83 = .ok (.putfield 41, 3) := by decide +kernel
theorem dX8_init_86 : decode cX8_init 86 = .ok (.return_, 1) := by decide +kernel
theorem dX8_restart_0 : decode cX8_restart 0 = .ok (.aload_n 0, 1) := by decide +kernel
theorem dX8_restart_1 : decode cX8_restart 1 = .ok (.iconst 0, 1) := by decide +kernel
theorem dX8_restart_2 : decode cX8_restart 2 = .ok (.putfield 37, 3) := by decide +kernel
theorem dX8_restart_5 : decode cX8_restart 5 = .ok (.aload_n 0, 1) := by decide +kernel
theorem dX8_restart_6 : decode cX8_restart 6 = .ok (.iconst 0, 1) := by decide +kernel
theorem dX8_restart_7 : decode cX8_restart 7 = .ok (.putfield 41, 3) := by decide +kernel
theorem dX8_restart_10 : decode cX8_restart 10 = .ok (.return_, 1) := by decide +kernel
theorem dX8_isEmpty_0 : decode cX8_isEmpty 0 = .ok (.aload_n 0, 1) := by decide +kernel
theorem dX8_isEmpty_1 : decode cX8_isEmpty 1 = .ok (.getfield 37, 3) := by decide +kernel
theorem dX8_isEmpty_4 : decode cX8_isEmpty 4 = .ok (.ifCond .ne 7, 3) := by decide +kernel
theorem dX8_isEmpty_7 : decode cX8_isEmpty 7 = .ok (.iconst 1, 1) := by decide +kernel
theorem dX8_isEmpty_8 : decode cX8_isEmpty 8 = .ok (.goto 4, 3) := by decide +kernel
theorem dX8_isEmpty_11 : decode cX8_isEmpty 11 = .ok (.iconst 0, 1) := by decide +kernel
theorem dX8_isEmpty_12 : decode cX8_isEmpty 12 = .ok (.ireturn, 1) := by decide +kernel
theorem dX8_push_0 : decode cX8_push 0 = .ok (.aload_n 0, 1) := by decide +kernel
theorem dX8_push_1 : decode cX8_push 1 = .ok (.getfield 37, 3) := by decide +kernel
theorem dX8_push_4 : decode cX8_push 4 = .ok (.sipush 200, 3) := by decide +kernel
theorem dX8_push_7 : decode cX8_push 7 = .ok (.if_icmp .lt 4, 3) := by decide +kernel
theorem dX8_push_10 : decode cX8_push 10 = .ok (.return_, 1) := by decide +kernel
theorem dX8_push_11 : decode cX8_push 11 = .ok (.aload_n 0, 1) := by decide +kernel
theorem dX8_push_12 : decode cX8_push 12 = .ok (.aload_n 0, 1) := by decide +kernel
theorem dX8_push_13 : decode cX8_push 13 = .ok (.getfield 37, 3) := by decide +kernel
theorem dX8_push_16 : decode cX8_push 16 = .ok (.putfield 41, 3) := by decide +kernel
theorem dX8_push_19 : decode cX8_push 19 = .ok (.aload_n 0, 1) := by decide +kernel
theorem dX8_push_20 : decode cX8_push 20 = .ok (.dup, 1) := by decide +kernel
theorem dX8_push_21 : decode cX8_push 21 = .ok (.getfield 37, 3) := by decide +kernel
theorem dX8_push_24 : decode cX8_push 24 = .ok (.iconst 1, 1) := by decide +kernel
theorem dX8_push_25 : decode cX8_push 25 = .ok (.iadd, 1) := by decide +kernel
theorem dX8_push_26 : decode cX8_push 26 = .ok (.putfield 37, 3) := by decide +kernel
theorem dX8_push_29 : decode cX8_push 29 = .ok (.aload_n 0, 1) := by decide +kernel
theorem dX8_push_30 : decode cX8_push 30 = .ok (.getfield 9, 3) := by decide +kernel
theorem dX8_push_33 : decode cX8_push 33 = .ok (.aload_n 0, 1) := by decide +kernel
theorem dX8_push_34 : decode cX8_push 34 = .ok (.getfield 41, 3) := by decide +kernel
theorem dX8_push_37 : decode cX8_push 37 = .ok (.iload_n 1, 1) := by decide +kernel
theorem dX8_push_38 : decode cX8_push 38 = .ok (.iastore, 1) := by decide +kernel
theorem dX8_push_39 : decode cX8_push 39 = .ok (.aload_n 0, 1) := by decide +kernel
theorem dX8_push_40 : decode cX8_push 40 = .ok (.getfield 15, 3) := by decide +kernel
theorem dX8_push_43 : decode cX8_push 43 = .ok (.aload_n 0, 1) := by decide +kernel
theorem dX8_push_44 : decode cX8_push 44 = .ok (.getfield 41, 3) := by decide +kernel
theorem dX8_push_47 : decode cX8_push 47 = .ok (.iload_n 2, 1) := by decide +kernel
theorem dX8_push_48 : decode cX8_push 48 = .ok (.iastore, 1) := by decide +kernel
theorem dX8_push_49 : decode cX8_push 49 = .ok (.aload_n 0, 1) := by decide +kernel
theorem dX8_push_50 : decode cX8_push 50 = .ok (.getfield 18, 3) := by decide +kernel
theorem dX8_push_53 : decode cX8_push 53 = .ok (.aload_n 0, 1) := by decide +kernel
theorem dX8_push_54 : decode cX8_push 54 = .ok (.getfield 41, 3) := by decide +kernel
theorem dX8_push_57 : decode cX8_push 57 = .ok (.iconst 0, 1) := by decide +kernel
theorem dX8_push_58 : decode cX8_push 58 = .ok (.iastore, 1) := by decide +kernel
theorem dX8_push_59 : decode cX8_push 59 = .ok (.aload_n 0, 1) := by decide +kernel
theorem dX8_push_60 : decode cX8_push 60 = .ok (.getfield 25, 3) := by decide +kernel
theorem dX8_push_63 : decode cX8_push 63 = .ok (.aload_n 0, 1) := by decide +kernel
theorem dX8_push_64 : decode cX8_push 64 = .ok (.getfield 41, 3) := by decide +kernel
theorem dX8_push_67 : decode cX8_push 67 = .ok (.iload_n 3, 1) := by decide +kernel
theorem dX8_push_68 : decode cX8_push 68 = .ok (.iastore, 1) := by decide +kernel
theorem dX8_push_69 : decode cX8_push 69 = .ok (.aload_n 0, 1) := by decide +kernel
theorem dX8_push_70 : decode cX8_push 70 = .ok (.getfield 28, 3) := by decide +kernel
theorem dX8_push_73 : decode cX8_push 73 = .ok (.aload_n 0, 1) := by decide +kernel
theorem dX8_push_74 : decode cX8_push 74 = .ok (.getfield 41, 3) := by decide +kernel
theorem dX8_push_77 : decode cX8_push 77 = .ok (.iconst 0, 1) := by decide +kernel
theorem dX8_push_78 : decode cX8_push 78 = .ok (.iastore, 1) := by decide +kernel
theorem dX8_push_79 : decode cX8_push 79 = .ok (.return_, 1) := by decide +kernel
theorem dX8_pop_0 : decode cX8_pop 0 = .ok (.aload_n 0, 1) := by decide +kernel
theorem dX8_pop_1 : decode cX8_pop 1 = .ok (.aload_n 0, 1) := by decide +kernel
theorem dX8_pop_2 : decode cX8_pop 2 = .ok (.getfield 41, 3) := by decide +kernel
theorem dX8_pop_5 : decode cX8_pop 5 = .ok (.putfield 37, 3) := by decide +kernel
theorem dX8_pop_8 : decode cX8_pop 8 = .ok (.aload_n 0, 1) := by decide +kernel
theorem dX8_pop_9 : decode cX8_pop 9 = .ok (.aload_n 0, 1) := by decide +kernel
theorem dX8_pop_10 : decode cX8_pop 10 = .ok (.getfield 41, 3) := by decide +kernel
theorem dX8_pop_13 : decode cX8_pop 13 = .ok (.ifCond .le 12, 3) := by decide +kernel
theorem dX8_pop_16 : decode cX8_pop 16 = .ok (.aload_n 0, 1) := by decide +kernel
theorem dX8_pop_17 : decode cX8_pop 17 = .ok (.getfield 41, 3) := by decide +kernel
theorem dX8_pop_20 : decode cX8_pop 20 = .ok (.iconst 1, 1) := by decide +kernel
theorem dX8_pop_21 : decode cX8_pop 21 = .ok (.isub, 1) := by decide +kernel
theorem dX8_pop_22 : decode cX8_pop 22 = .ok (.goto 4, 3) := by decide +kernel
theorem dX8_pop_25 : decode cX8_pop 25 = .ok (.iconst 0, 1) := by decide +kernel
theorem dX8_pop_26 : decode cX8_pop 26 = .ok (.putfield 41, 3) := by decide +kernel
theorem dX8_pop_29 : decode cX8_pop 29 = .ok (.return_, 1) := by decide +kernel
theorem dX8_actOnTop_0 : decode cX8_actOnTop 0 = .ok (.aload_n 0, 1) := by decide +kernel
theorem dX8_actOnTop_1 : decode cX8_actOnTop 1 = .ok (.getfield 9, 3) := by decide +kernel
theorem dX8_actOnTop_4 : decode cX8_actOnTop 4 = .ok (.aload_n 0, 1) := by decide +kernel
theorem dX8_actOnTop_5 : decode cX8_actOnTop 5 = .ok (.getfield 41, 3) := by decide +kernel
theorem dX8_actOnTop_8 : decode cX8_actOnTop 8 = .ok (.iaload, 1) := by decide +kernel
theorem dX8_actOnTop_9 : decode cX8_actOnTop 9 = .ok (.ireturn, 1) := by decide +kernel
theorem dX8_frame_0 : decode cX8_frame 0 = .ok (.aload_n 0, 1) := by decide +kernel
theorem dX8_frame_1 : decode cX8_frame 1 = .ok (.getfield 15, 3) := by decide +kernel
theorem dX8_frame_4 : decode cX8_frame 4 = .ok (.aload_n 0, 1) := by decide +kernel
theorem dX8_frame_5 : decode cX8_frame 5 = .ok (.getfield 41, 3) := by decide +kernel
theorem dX8_frame_8 : decode cX8_frame 8 = .ok (.iaload, 1) := by decide +kernel
theorem dX8_frame_9 : decode cX8_frame 9 = .ok (.ireturn, 1) := by decide +kernel
theorem dX8_stage_0 : decode cX8_stage 0 = .ok (.aload_n 0, 1) := by decide +kernel
theorem dX8_stage_1 : decode cX8_stage 1 = .ok (.getfield 18, 3) := by decide +kernel
theorem dX8_stage_4 : decode cX8_stage 4 = .ok (.aload_n 0, 1) := by decide +kernel
theorem dX8_stage_5 : decode cX8_stage 5 = .ok (.getfield 41, 3) := by decide +kernel
theorem dX8_stage_8 : decode cX8_stage 8 = .ok (.iaload, 1) := by decide +kernel
theorem dX8_stage_9 : decode cX8_stage 9 = .ok (.ireturn, 1) := by decide +kernel
theorem dX8_setStage_0 : decode cX8_setStage 0 = .ok (.aload_n 0, 1) := by decide +kernel
theorem dX8_setStage_1 : decode cX8_setStage 1 = .ok (.getfield 18, 3) := by decide +kernel
theorem dX8_setStage_4 : decode cX8_setStage 4 = .ok (.aload_n 0, 1) := by decide +kernel
theorem dX8_setStage_5 : decode cX8_setStage 5 = .ok (.getfield 41, 3) := by decide +kernel
theorem dX8_setStage_8 : decode cX8_setStage 8 = .ok (.iload_n 1, 1) := by decide +kernel
theorem dX8_setStage_9 : decode cX8_setStage 9 = .ok (.iastore, 1) := by decide +kernel
theorem dX8_setStage_10 : decode cX8_setStage 10 = .ok (.return_, 1) := by decide +kernel
theorem dX8_take_0 : decode cX8_take 0 = .ok (.aload_n 0, 1) := by decide +kernel
theorem dX8_take_1 : decode cX8_take 1 = .ok (.getfield 18, 3) := by decide +kernel
theorem dX8_take_4 : decode cX8_take 4 = .ok (.aload_n 0, 1) := by decide +kernel
theorem dX8_take_5 : decode cX8_take 5 = .ok (.getfield 41, 3) := by decide +kernel
theorem dX8_take_8 : decode cX8_take 8 = .ok (.iaload, 1) := by decide +kernel
theorem dX8_take_9 : decode cX8_take 9 = .ok (.istore_n 3, 1) := by decide +kernel
theorem dX8_take_10 : decode cX8_take 10 = .ok (.iload_n 3, 1) := by decide +kernel
theorem dX8_take_11 : decode cX8_take 11 = .ok (.ifCond .lt 34, 3) := by decide +kernel
theorem dX8_take_14 : decode cX8_take 14 = .ok (.iload_n 3, 1) := by decide +kernel
theorem dX8_take_15 : decode cX8_take 15 = .ok (.iconst 3, 1) := by decide +kernel
theorem dX8_take_16 : decode cX8_take 16 = .ok (.if_icmp .ge 29, 3) := by decide +kernel
theorem dX8_take_19 : decode cX8_take 19 = .ok (.aload_n 0, 1) := by decide +kernel
theorem dX8_take_20 : decode cX8_take 20 = .ok (.getfield 21, 3) := by decide +kernel
theorem dX8_take_23 : decode cX8_take 23 = .ok (.iconst 3, 1) := by decide +kernel
theorem dX8_take_24 : decode cX8_take 24 = .ok (.aload_n 0, 1) := by decide +kernel
theorem dX8_take_25 : decode cX8_take 25 = .ok (.getfield 41, 3) := by decide +kernel
theorem dX8_take_28 : decode cX8_take 28 = .ok (.imul, 1) := by decide +kernel
theorem dX8_take_29 : decode cX8_take 29 = .ok (.iload_n 3, 1) := by decide +kernel
theorem dX8_take_30 : decode cX8_take 30 = .ok (.iadd, 1) := by decide +kernel
theorem dX8_take_31 : decode cX8_take 31 = .ok (.lload_n 1, 1) := by decide +kernel
theorem dX8_take_32 : decode cX8_take 32 = .ok (.lastore, 1) := by decide +kernel
theorem dX8_take_33 : decode cX8_take 33 = .ok (.aload_n 0, 1) := by decide +kernel
theorem dX8_take_34 : decode cX8_take 34 = .ok (.getfield 18, 3) := by decide +kernel
theorem dX8_take_37 : decode cX8_take 37 = .ok (.aload_n 0, 1) := by decide +kernel
theorem dX8_take_38 : decode cX8_take 38 = .ok (.getfield 41, 3) := by decide +kernel
theorem dX8_take_41 : decode cX8_take 41 = .ok (.iload_n 3, 1) := by decide +kernel
theorem dX8_take_42 : decode cX8_take 42 = .ok (.iconst 1, 1) := by decide +kernel
theorem dX8_take_43 : decode cX8_take 43 = .ok (.iadd, 1) := by decide +kernel
theorem dX8_take_44 : decode cX8_take 44 = .ok (.iastore, 1) := by decide +kernel
theorem dX8_take_45 : decode cX8_take 45 = .ok (.return_, 1) := by decide +kernel
theorem dX8_value_0 : decode cX8_value 0 = .ok (.iload_n 1, 1) := by decide +kernel
theorem dX8_value_1 : decode cX8_value 1 = .ok (.ifCond .lt 24, 3) := by decide +kernel
theorem dX8_value_4 : decode cX8_value 4 = .ok (.iload_n 1, 1) := by decide +kernel
theorem dX8_value_5 : decode cX8_value 5 = .ok (.iconst 3, 1) := by decide +kernel
theorem dX8_value_6 : decode cX8_value 6 = .ok (.if_icmp .ge 19, 3) := by decide +kernel
theorem dX8_value_9 : decode cX8_value 9 = .ok (.aload_n 0, 1) := by decide +kernel
theorem dX8_value_10 : decode cX8_value 10 = .ok (.getfield 21, 3) := by decide +kernel
theorem dX8_value_13 : decode cX8_value 13 = .ok (.iconst 3, 1) := by decide +kernel
theorem dX8_value_14 : decode cX8_value 14 = .ok (.aload_n 0, 1) := by decide +kernel
theorem dX8_value_15 : decode cX8_value 15 = .ok (.getfield 41, 3) := by decide +kernel
theorem dX8_value_18 : decode cX8_value 18 = .ok (.imul, 1) := by decide +kernel
theorem dX8_value_19 : decode cX8_value 19 = .ok (.iload_n 1, 1) := by decide +kernel
theorem dX8_value_20 : decode cX8_value 20 = .ok (.iadd, 1) := by decide +kernel
theorem dX8_value_21 : decode cX8_value 21 = .ok (.laload, 1) := by decide +kernel
theorem dX8_value_22 : decode cX8_value 22 = .ok (.goto 6, 3) := by decide +kernel
theorem dX8_value_25 : decode cX8_value 25 = .ok (.ldc2_w 46, 3) := by decide +kernel
theorem dX8_value_28 : decode cX8_value 28 = .ok (.lreturn, 1) := by decide +kernel
theorem dX8_mark_0 : decode cX8_mark 0 = .ok (.aload_n 0, 1) := by decide +kernel
theorem dX8_mark_1 : decode cX8_mark 1 = .ok (.getfield 25, 3) := by decide +kernel
theorem dX8_mark_4 : decode cX8_mark 4 = .ok (.aload_n 0, 1) := by decide +kernel
theorem dX8_mark_5 : decode cX8_mark 5 = .ok (.getfield 41, 3) := by decide +kernel
theorem dX8_mark_8 : decode cX8_mark 8 = .ok (.iaload, 1) := by decide +kernel
theorem dX8_mark_9 : decode cX8_mark 9 = .ok (.ireturn, 1) := by decide +kernel
theorem dX8_hold_0 : decode cX8_hold 0 = .ok (.aload_n 0, 1) := by decide +kernel
theorem dX8_hold_1 : decode cX8_hold 1 = .ok (.getfield 28, 3) := by decide +kernel
theorem dX8_hold_4 : decode cX8_hold 4 = .ok (.aload_n 0, 1) := by decide +kernel
theorem dX8_hold_5 : decode cX8_hold 5 = .ok (.getfield 41, 3) := by decide +kernel
theorem dX8_hold_8 : decode cX8_hold 8 = .ok (.aload_n 1, 1) := by decide +kernel
theorem dX8_hold_9 : decode cX8_hold 9 = .ok (.getfield 48, 3) := by decide +kernel
theorem dX8_hold_12 : decode cX8_hold 12 = .ok (.iastore, 1) := by decide +kernel
theorem dX8_hold_13 : decode cX8_hold 13 = .ok (.aload_n 0, 1) := by decide +kernel
theorem dX8_hold_14 : decode cX8_hold 14 = .ok (.getfield 31, 3) := by decide +kernel
theorem dX8_hold_17 : decode cX8_hold 17 = .ok (.aload_n 0, 1) := by decide +kernel
theorem dX8_hold_18 : decode cX8_hold 18 = .ok (.getfield 41, 3) := by decide +kernel
theorem dX8_hold_21 : decode cX8_hold 21 = .ok (.aload_n 1, 1) := by decide +kernel
theorem dX8_hold_22 : decode cX8_hold 22 = .ok (.getfield 53, 3) := by decide +kernel
theorem dX8_hold_25 : decode cX8_hold 25 = .ok (.iastore, 1) := by decide +kernel
theorem dX8_hold_26 : decode cX8_hold 26 = .ok (.aload_n 0, 1) := by decide +kernel
theorem dX8_hold_27 : decode cX8_hold 27 = .ok (.getfield 34, 3) := by decide +kernel
theorem dX8_hold_30 : decode cX8_hold 30 = .ok (.aload_n 0, 1) := by decide +kernel
theorem dX8_hold_31 : decode cX8_hold 31 = .ok (.getfield 41, 3) := by decide +kernel
theorem dX8_hold_34 : decode cX8_hold 34 = .ok (.aload_n 1, 1) := by decide +kernel
theorem dX8_hold_35 : decode cX8_hold 35 = .ok (.getfield 56, 3) := by decide +kernel
theorem dX8_hold_38 : decode cX8_hold 38 = .ok (.iastore, 1) := by decide +kernel
