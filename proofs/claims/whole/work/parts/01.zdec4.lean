theorem dX11_begin_293 : decode cX11_begin 293 = .ok (.bipush 25, 2) := by decide +kernel
theorem dX11_begin_295 : decode cX11_begin 295 = .ok (.if_icmp .eq 14, 3) := by decide +kernel
theorem dX11_begin_298 : decode cX11_begin 298 = .ok (.aload_n 0, 1) := by decide +kernel
theorem dX11_begin_299 : decode cX11_begin 299 = .ok (.getfield 7, 3) := by decide +kernel
theorem dX11_begin_302 : decode cX11_begin 302 = .ok (.iload_n 1, 1) := by decide +kernel
theorem dX11_begin_303 : decode cX11_begin 303 = .ok (.iaload, 1) := by decide +kernel
theorem dX11_begin_304 : decode cX11_begin 304 = .ok (.bipush 31, 2) := by decide +kernel
theorem dX11_begin_306 : decode cX11_begin 306 = .ok (.if_icmp .ne 12, 3) := by decide +kernel
theorem dX11_begin_309 : decode cX11_begin 309 = .ok (.aload_n 0, 1) := by decide +kernel
theorem dX11_begin_310 : decode cX11_begin 310 = .ok (.getfield 16, 3) := by decide +kernel
theorem dX11_begin_313 : decode cX11_begin 313 = .ok (.iload_n 1, 1) := by decide +kernel
theorem dX11_begin_314 : decode cX11_begin 314 = .ok (.iaload, 1) := by decide +kernel
theorem dX11_begin_315 : decode cX11_begin 315 = .ok (.goto 9, 3) := by decide +kernel
theorem dX11_begin_318 : decode cX11_begin 318 = .ok (.aload_n 0, 1) := by decide +kernel
theorem dX11_begin_319 : decode cX11_begin 319 = .ok (.getfield 13, 3) := by decide +kernel
theorem dX11_begin_322 : decode cX11_begin 322 = .ok (.iload_n 1, 1) := by decide +kernel
theorem dX11_begin_323 : decode cX11_begin 323 = .ok (.iaload, 1) := by decide +kernel
theorem dX11_begin_324 : decode cX11_begin 324 = .ok (.iload_n 2, 1) := by decide +kernel
theorem dX11_begin_325 : decode cX11_begin 325 = .ok (.invokevirtual 177, 3) := by decide +kernel
theorem dX11_begin_328 : decode cX11_begin 328 = .ok (.return_, 1) := by decide +kernel
theorem dX11_keepX_0 : decode cX11_keepX 0 = .ok (.aload_n 0, 1) := by decide +kernel
theorem dX11_keepX_1 : decode cX11_keepX 1 = .ok (.getfield 79, 3) := by decide +kernel
theorem dX11_keepX_4 : decode cX11_keepX 4 = .ok (.iload_n 1, 1) := by decide +kernel
theorem dX11_keepX_5 : decode cX11_keepX 5 = .ok (.aload_n 0, 1) := by decide +kernel
theorem dX11_keepX_6 : decode cX11_keepX 6 = .ok (.getfield 125, 3) := by decide +kernel
theorem dX11_keepX_9 : decode cX11_keepX 9 = .ok (.iastore, 1) := by decide +kernel
theorem dX11_keepX_10 : decode cX11_keepX 10 = .ok (.aload_n 0, 1) := by decide +kernel
theorem dX11_keepX_11 : decode cX11_keepX 11 = .ok (.getfield 82, 3) := by decide +kernel
theorem dX11_keepX_14 : decode cX11_keepX 14 = .ok (.iload_n 1, 1) := by decide +kernel
theorem dX11_keepX_15 : decode cX11_keepX 15 = .ok (.aload_n 0, 1) := by decide +kernel
theorem dX11_keepX_16 : decode cX11_keepX 16 = .ok (.getfield 128, 3) := by decide +kernel
theorem dX11_keepX_19 : decode cX11_keepX 19 = .ok (.iastore, 1) := by decide +kernel
theorem dX11_keepX_20 : decode cX11_keepX 20 = .ok (.aload_n 0, 1) := by decide +kernel
theorem dX11_keepX_21 : decode cX11_keepX 21 = .ok (.getfield 73, 3) := by decide +kernel
theorem dX11_keepX_24 : decode cX11_keepX 24 = .ok (.iload_n 1, 1) := by decide +kernel
theorem dX11_keepX_25 : decode cX11_keepX 25 = .ok (.iconst 1, 1) := by decide +kernel
theorem dX11_keepX_26 : decode cX11_keepX 26 = .ok (.iastore, 1) := by decide +kernel
theorem dX11_keepX_27 : decode cX11_keepX 27 = .ok (.return_, 1) := by decide +kernel
theorem dX11_keepY_0 : decode cX11_keepY 0 = .ok (.aload_n 0, 1) := by decide +kernel
theorem dX11_keepY_1 : decode cX11_keepY 1 = .ok (.getfield 85, 3) := by decide +kernel
theorem dX11_keepY_4 : decode cX11_keepY 4 = .ok (.iload_n 1, 1) := by decide +kernel
theorem dX11_keepY_5 : decode cX11_keepY 5 = .ok (.aload_n 0, 1) := by decide +kernel
theorem dX11_keepY_6 : decode cX11_keepY 6 = .ok (.getfield 125, 3) := by decide +kernel
theorem dX11_keepY_9 : decode cX11_keepY 9 = .ok (.iastore, 1) := by decide +kernel
theorem dX11_keepY_10 : decode cX11_keepY 10 = .ok (.aload_n 0, 1) := by decide +kernel
theorem dX11_keepY_11 : decode cX11_keepY 11 = .ok (.getfield 88, 3) := by decide +kernel
theorem dX11_keepY_14 : decode cX11_keepY 14 = .ok (.iload_n 1, 1) := by decide +kernel
theorem dX11_keepY_15 : decode cX11_keepY 15 = .ok (.aload_n 0, 1) := by decide +kernel
theorem dX11_keepY_16 : decode cX11_keepY 16 = .ok (.getfield 128, 3) := by decide +kernel
theorem dX11_keepY_19 : decode cX11_keepY 19 = .ok (.iastore, 1) := by decide +kernel
theorem dX11_keepY_20 : decode cX11_keepY 20 = .ok (.aload_n 0, 1) := by decide +kernel
theorem dX11_keepY_21 : decode cX11_keepY 21 = .ok (.getfield 73, 3) := by decide +kernel
theorem dX11_keepY_24 : decode cX11_keepY 24 = .ok (.iload_n 1, 1) := by decide +kernel
theorem dX11_keepY_25 : decode cX11_keepY 25 = .ok (.iconst 2, 1) := by decide +kernel
theorem dX11_keepY_26 : decode cX11_keepY 26 = .ok (.iastore, 1) := by decide +kernel
theorem dX11_keepY_27 : decode cX11_keepY 27 = .ok (.return_, 1) := by decide +kernel
theorem dX11_isWhole_0 : decode cX11_isWhole 0 = .ok (.iload_n 1, 1) := by decide +kernel
theorem dX11_isWhole_1 : decode cX11_isWhole 1 = .ok (.ifCond .ne 5, 3) := by decide +kernel
theorem dX11_isWhole_4 : decode cX11_isWhole 4 = .ok (.iconst 1, 1) := by decide +kernel
theorem dX11_isWhole_5 : decode cX11_isWhole 5 = .ok (.ireturn, 1) := by decide +kernel
theorem dX11_isWhole_6 : decode cX11_isWhole 6 = .ok (.iload_n 1, 1) := by decide +kernel
theorem dX11_isWhole_7 : decode cX11_isWhole 7 = .ok (.iconst 1, 1) := by decide +kernel
theorem dX11_isWhole_8 : decode cX11_isWhole 8 = .ok (.if_icmp .ne 7, 3) := by decide +kernel
theorem dX11_isWhole_11 : decode cX11_isWhole 11 = .ok (.iconst 1, 1) := by decide +kernel
theorem dX11_isWhole_12 : decode cX11_isWhole 12 = .ok (.goto 4, 3) := by decide +kernel
theorem dX11_isWhole_15 : decode cX11_isWhole 15 = .ok (.iconst 4, 1) := by decide +kernel
theorem dX11_isWhole_16 : decode cX11_isWhole 16 = .ok (.istore_n 3, 1) := by decide +kernel
theorem dX11_isWhole_17 : decode cX11_isWhole 17 = .ok (.aload_n 0, 1) := by decide +kernel
theorem dX11_isWhole_18 : decode cX11_isWhole 18 = .ok (.iload_n 3, 1) := by decide +kernel
theorem dX11_isWhole_19 : decode cX11_isWhole 19 = .ok (.iload_n 3, 1) := by decide +kernel
theorem dX11_isWhole_20 : decode cX11_isWhole 20 = .ok (.iload_n 2, 1) := by decide +kernel
theorem dX11_isWhole_21 : decode cX11_isWhole 21 = .ok (.invokevirtual 180, 3) := by decide +kernel
theorem dX11_isWhole_24 : decode cX11_isWhole 24 = .ok (.iconst 0, 1) := by decide +kernel
theorem dX11_isWhole_25 : decode cX11_isWhole 25 = .ok (.ireturn, 1) := by decide +kernel
theorem dX11_failBy_0 : decode cX11_failBy 0 = .ok (.aload_n 0, 1) := by decide +kernel
theorem dX11_failBy_1 : decode cX11_failBy 1 = .ok (.iload_n 1, 1) := by decide +kernel
theorem dX11_failBy_2 : decode cX11_failBy 2 = .ok (.iload_n 1, 1) := by decide +kernel
theorem dX11_failBy_3 : decode cX11_failBy 3 = .ok (.iload_n 2, 1) := by decide +kernel
theorem dX11_failBy_4 : decode cX11_failBy 4 = .ok (.invokevirtual 180, 3) := by decide +kernel
theorem dX11_failBy_7 : decode cX11_failBy 7 = .ok (.return_, 1) := by decide +kernel
theorem dX11_up_0 : decode cX11_up 0 = .ok (.aload_n 0, 1) := by decide +kernel
theorem dX11_up_1 : decode cX11_up 1 = .ok (.getfield 174, 3) := by decide +kernel
theorem dX11_up_4 : decode cX11_up 4 = .ok (.iconst 1, 1) := by decide +kernel
theorem dX11_up_5 : decode cX11_up 5 = .ok (.isub, 1) := by decide +kernel
theorem dX11_up_6 : decode cX11_up 6 = .ok (.istore_n 1, 1) := by decide +kernel
theorem dX11_up_7 : decode cX11_up 7 = .ok (.aload_n 0, 1) := by decide +kernel
theorem dX11_up_8 : decode cX11_up 8 = .ok (.getfield 70, 3) := by decide +kernel
theorem dX11_up_11 : decode cX11_up 11 = .ok (.iload_n 1, 1) := by decide +kernel
theorem dX11_up_12 : decode cX11_up 12 = .ok (.iaload, 1) := by decide +kernel
theorem dX11_up_13 : decode cX11_up 13 = .ok (.istore_n 2, 1) := by decide +kernel
theorem dX11_up_14 : decode cX11_up 14 = .ok (.aload_n 0, 1) := by decide +kernel
theorem dX11_up_15 : decode cX11_up 15 = .ok (.getfield 76, 3) := by decide +kernel
theorem dX11_up_18 : decode cX11_up 18 = .ok (.iload_n 1, 1) := by decide +kernel
theorem dX11_up_19 : decode cX11_up 19 = .ok (.iaload, 1) := by decide +kernel
theorem dX11_up_20 : decode cX11_up 20 = .ok (.istore_n 3, 1) := by decide +kernel
theorem dX11_up_21 : decode cX11_up 21 = .ok (.aload_n 0, 1) := by decide +kernel
theorem dX11_up_22 : decode cX11_up 22 = .ok (.getfield 7, 3) := by decide +kernel
theorem dX11_up_25 : decode cX11_up 25 = .ok (.iload_n 2, 1) := by decide +kernel
theorem dX11_up_26 : decode cX11_up 26 = .ok (.iaload, 1) := by decide +kernel
theorem dX11_up_27 : decode cX11_up 27 = .ok (.istore 4, 2) := by decide +kernel
theorem dX11_up_29 : decode cX11_up 29 = .ok (.aload_n 0, 1) := by decide +kernel
theorem dX11_up_30 : decode cX11_up 30 = .ok (.getfield 73, 3) := by decide +kernel
theorem dX11_up_33 : decode cX11_up 33 = .ok (.iload_n 1, 1) := by decide +kernel
theorem dX11_up_34 : decode cX11_up 34 = .ok (.iaload, 1) := by decide +kernel
theorem dX11_up_35 : decode cX11_up 35 = .ok (.istore 5, 2) := by decide +kernel
theorem dX11_up_37 : decode cX11_up 37 = .ok (.iload 5, 2) := by decide +kernel
theorem dX11_up_39 : decode cX11_up 39 = .ok (.ifCond .ne 37, 3) := by decide +kernel
theorem dX11_up_42 : decode cX11_up 42 = .ok (.iload 4, 2) := by decide +kernel
theorem dX11_up_44 : decode cX11_up 44 = .ok (.invokestatic 114, 3) := by decide +kernel
theorem dX11_up_47 : decode cX11_up 47 = .ok (.bipush 7, 2) := by decide +kernel
theorem dX11_up_49 : decode cX11_up 49 = .ok (.if_icmp .ne 27, 3) := by decide +kernel
theorem dX11_up_52 : decode cX11_up 52 = .ok (.iload 4, 2) := by decide +kernel
theorem dX11_up_54 : decode cX11_up 54 = .ok (.bipush 23, 2) := by decide +kernel
theorem dX11_up_56 : decode cX11_up 56 = .ok (.if_icmp .eq 20, 3) := by decide +kernel
theorem dX11_up_59 : decode cX11_up 59 = .ok (.aload_n 0, 1) := by decide +kernel
theorem dX11_up_60 : decode cX11_up 60 = .ok (.iload_n 1, 1) := by decide +kernel
theorem dX11_up_61 : decode cX11_up 61 = .ok (.invokevirtual 184, 3) := by decide +kernel
theorem dX11_up_64 : decode cX11_up 64 = .ok (.aload_n 0, 1) := by decide +kernel
theorem dX11_up_65 : decode cX11_up 65 = .ok (.aload_n 0, 1) := by decide +kernel
theorem dX11_up_66 : decode cX11_up 66 = .ok (.getfield 16, 3) := by decide +kernel
theorem dX11_up_69 : decode cX11_up 69 = .ok (.iload_n 2, 1) := by decide +kernel
theorem dX11_up_70 : decode cX11_up 70 = .ok (.iaload, 1) := by decide +kernel
theorem dX11_up_71 : decode cX11_up 71 = .ok (.iload_n 3, 1) := by decide +kernel
theorem dX11_up_72 : decode cX11_up 72 = .ok (.invokevirtual 177, 3) := by decide +kernel
theorem dX11_up_75 : decode cX11_up 75 = .ok (.return_, 1) := by decide +kernel
theorem dX11_up_76 : decode cX11_up 76 = .ok (.iload 5, 2) := by decide +kernel
theorem dX11_up_78 : decode cX11_up 78 = .ok (.iconst 1, 1) := by decide +kernel
theorem dX11_up_79 : decode cX11_up 79 = .ok (.if_icmp .ne 34, 3) := by decide +kernel
theorem dX11_up_82 : decode cX11_up 82 = .ok (.iload 4, 2) := by decide +kernel
theorem dX11_up_84 : decode cX11_up 84 = .ok (.bipush 16, 2) := by decide +kernel
theorem dX11_up_86 : decode cX11_up 86 = .ok (.if_icmp .eq 10, 3) := by decide +kernel
theorem dX11_up_89 : decode cX11_up 89 = .ok (.iload 4, 2) := by decide +kernel
theorem dX11_up_91 : decode cX11_up 91 = .ok (.bipush 19, 2) := by decide +kernel
theorem dX11_up_93 : decode cX11_up 93 = .ok (.if_icmp .ne 20, 3) := by decide +kernel
theorem dX11_up_96 : decode cX11_up 96 = .ok (.aload_n 0, 1) := by decide +kernel
theorem dX11_up_97 : decode cX11_up 97 = .ok (.iload_n 1, 1) := by decide +kernel
theorem dX11_up_98 : decode cX11_up 98 = .ok (.invokevirtual 188, 3) := by decide +kernel
theorem dX11_up_101 : decode cX11_up 101 = .ok (.aload_n 0, 1) := by decide +kernel
theorem dX11_up_102 : decode cX11_up 102 = .ok (.aload_n 0, 1) := by decide +kernel
theorem dX11_up_103 : decode cX11_up 103 = .ok (.getfield 19, 3) := by decide +kernel
theorem dX11_up_106 : decode cX11_up 106 = .ok (.iload_n 2, 1) := by decide +kernel
theorem dX11_up_107 : decode cX11_up 107 = .ok (.iaload, 1) := by decide +kernel
theorem dX11_up_108 : decode cX11_up 108 = .ok (.iload_n 3, 1) := by decide +kernel
theorem dX11_up_109 : decode cX11_up 109 = .ok (.invokevirtual 177, 3) := by decide +kernel
theorem dX11_up_112 : decode cX11_up 112 = .ok (.return_, 1) := by decide +kernel
theorem dX11_up_113 : decode cX11_up 113 = .ok (.iload 4, 2) := by decide +kernel
theorem dX11_up_115 : decode cX11_up 115 = .ok (.iconst 5, 1) := by decide +kernel
theorem dX11_up_116 : decode cX11_up 116 = .ok (.bipush 9, 2) := by decide +kernel
theorem dX11_up_118 : decode cX11_up 118 = .ok (.invokestatic 107, 3) := by decide +kernel
theorem dX11_up_121 : decode cX11_up 121 = .ok (.ifCond .ne 17, 3) := by decide +kernel
theorem dX11_up_124 : decode cX11_up 124 = .ok (.iload 4, 2) := by decide +kernel
theorem dX11_up_126 : decode cX11_up 126 = .ok (.bipush 15, 2) := by decide +kernel
theorem dX11_up_128 : decode cX11_up 128 = .ok (.if_icmp .eq 10, 3) := by decide +kernel
theorem dX11_up_131 : decode cX11_up 131 = .ok (.iload 4, 2) := by decide +kernel
theorem dX11_up_133 : decode cX11_up 133 = .ok (.bipush 18, 2) := by decide +kernel
theorem dX11_up_135 : decode cX11_up 135 = .ok (.if_icmp .ne 7, 3) := by decide +kernel
theorem dX11_up_138 : decode cX11_up 138 = .ok (.iconst 1, 1) := by decide +kernel
theorem dX11_up_139 : decode cX11_up 139 = .ok (.goto 4, 3) := by decide +kernel
theorem dX11_up_142 : decode cX11_up 142 = .ok (.iconst 0, 1) := by decide +kernel
theorem dX11_up_143 : decode cX11_up 143 = .ok (.istore 6, 2) := by decide +kernel
theorem dX11_up_145 : decode cX11_up 145 = .ok (.iload 5, 2) := by decide +kernel
theorem dX11_up_147 : decode cX11_up 147 = .ok (.ifCond .ne 38, 3) := by decide +kernel
theorem dX11_up_150 : decode cX11_up 150 = .ok (.iload 6, 2) := by decide +kernel
theorem dX11_up_152 : decode cX11_up 152 = .ok (.ifCond .ne 16, 3) := by decide +kernel
theorem dX11_up_155 : decode cX11_up 155 = .ok (.iload 4, 2) := by decide +kernel
theorem dX11_up_157 : decode cX11_up 157 = .ok (.iconst 3, 1) := by decide +kernel
theorem dX11_up_158 : decode cX11_up 158 = .ok (.if_icmp .eq 10, 3) := by decide +kernel
theorem dX11_up_161 : decode cX11_up 161 = .ok (.iload 4, 2) := by decide +kernel
theorem dX11_up_163 : decode cX11_up 163 = .ok (.bipush 22, 2) := by decide +kernel
theorem dX11_up_165 : decode cX11_up 165 = .ok (.if_icmp .ne 20, 3) := by decide +kernel
theorem dX11_up_168 : decode cX11_up 168 = .ok (.aload_n 0, 1) := by decide +kernel
theorem dX11_up_169 : decode cX11_up 169 = .ok (.iload_n 1, 1) := by decide +kernel
theorem dX11_up_170 : decode cX11_up 170 = .ok (.invokevirtual 184, 3) := by decide +kernel
theorem dX11_up_173 : decode cX11_up 173 = .ok (.aload_n 0, 1) := by decide +kernel
theorem dX11_up_174 : decode cX11_up 174 = .ok (.aload_n 0, 1) := by decide +kernel
theorem dX11_up_175 : decode cX11_up 175 = .ok (.getfield 16, 3) := by decide +kernel
theorem dX11_up_178 : decode cX11_up 178 = .ok (.iload_n 2, 1) := by decide +kernel
theorem dX11_up_179 : decode cX11_up 179 = .ok (.iaload, 1) := by decide +kernel
theorem dX11_up_180 : decode cX11_up 180 = .ok (.iload_n 3, 1) := by decide +kernel
theorem dX11_up_181 : decode cX11_up 181 = .ok (.invokevirtual 177, 3) := by decide +kernel
theorem dX11_up_184 : decode cX11_up 184 = .ok (.return_, 1) := by decide +kernel
theorem dX11_up_185 : decode cX11_up 185 = .ok (.aload_n 0, 1) := by decide +kernel
theorem dX11_up_186 : decode cX11_up 186 = .ok (.iload_n 1, 1) := by decide +kernel
theorem dX11_up_187 : decode cX11_up 187 = .ok (.iload_n 2, 1) := by decide +kernel
theorem dX11_up_188 : decode cX11_up 188 = .ok (.iload_n 3, 1) := by decide +kernel
theorem dX11_up_189 : decode cX11_up 189 = .ok (.iload 4, 2) := by decide +kernel
theorem dX11_up_191 : decode cX11_up 191 = .ok (.iload 5, 2) := by decide +kernel
theorem dX11_up_193 : decode cX11_up 193 = .ok (.invokevirtual 191, 3) := by decide +kernel
theorem dX11_up_196 : decode cX11_up 196 = .ok (.return_, 1) := by decide +kernel
theorem dX11_upOf_0 : decode cX11_upOf 0 = .ok (.iload 4, 2) := by decide +kernel
theorem dX11_upOf_2 : decode cX11_upOf 2 = .ok (.tableswitch 505 3 20 #[86, 99, 178, 178, 178, 178, 178, 210, 210, 210, 230, 230, 297, 327, 346, 399, 450, 469], 86) := by decide +kernel
theorem dX11_upOf_88 : decode cX11_upOf 88 = .ok (.aload_n 0, 1) := by decide +kernel
theorem dX11_upOf_89 : decode cX11_upOf 89 = .ok (.dup, 1) := by decide +kernel
theorem dX11_upOf_90 : decode cX11_upOf 90 = .ok (.getfield 174, 3) := by decide +kernel
theorem dX11_upOf_93 : decode cX11_upOf 93 = .ok (.iconst 1, 1) := by decide +kernel
theorem dX11_upOf_94 : decode cX11_upOf 94 = .ok (.isub, 1) := by decide +kernel
theorem dX11_upOf_95 : decode cX11_upOf 95 = .ok (.putfield 174, 3) := by decide +kernel
theorem dX11_upOf_98 : decode cX11_upOf 98 = .ok (.goto 420, 3) := by decide +kernel
theorem dX11_upOf_101 : decode cX11_upOf 101 = .ok (.iload 5, 2) := by decide +kernel
theorem dX11_upOf_103 : decode cX11_upOf 103 = .ok (.ifCond .ne 64, 3) := by decide +kernel
theorem dX11_upOf_106 : decode cX11_upOf 106 = .ok (.aload_n 0, 1) := by decide +kernel
theorem dX11_upOf_107 : decode cX11_upOf 107 = .ok (.getfield 46, 3) := by decide +kernel
theorem dX11_upOf_110 : decode cX11_upOf 110 = .ok (.bipush 8, 2) := by decide +kernel
theorem dX11_upOf_112 : decode cX11_upOf 112 = .ok (.iload_n 3, 1) := by decide +kernel
theorem dX11_upOf_113 : decode cX11_upOf 113 = .ok (.imul, 1) := by decide +kernel
theorem dX11_upOf_114 : decode cX11_upOf 114 = .ok (.aload_n 0, 1) := by decide +kernel
theorem dX11_upOf_115 : decode cX11_upOf 115 = .ok (.getfield 16, 3) := by decide +kernel
theorem dX11_upOf_118 : decode cX11_upOf 118 = .ok (.iload_n 2, 1) := by decide +kernel
theorem dX11_upOf_119 : decode cX11_upOf 119 = .ok (.iaload, 1) := by decide +kernel
theorem dX11_upOf_120 : decode cX11_upOf 120 = .ok (.iadd, 1) := by decide +kernel
theorem dX11_upOf_121 : decode cX11_upOf 121 = .ok (.aload_n 0, 1) := by decide +kernel
theorem dX11_upOf_122 : decode cX11_upOf 122 = .ok (.getfield 125, 3) := by decide +kernel
theorem dX11_upOf_125 : decode cX11_upOf 125 = .ok (.iastore, 1) := by decide +kernel
theorem dX11_upOf_126 : decode cX11_upOf 126 = .ok (.aload_n 0, 1) := by decide +kernel
theorem dX11_upOf_127 : decode cX11_upOf 127 = .ok (.getfield 49, 3) := by decide +kernel
theorem dX11_upOf_130 : decode cX11_upOf 130 = .ok (.bipush 8, 2) := by decide +kernel
theorem dX11_upOf_132 : decode cX11_upOf 132 = .ok (.iload_n 3, 1) := by decide +kernel
theorem dX11_upOf_133 : decode cX11_upOf 133 = .ok (.imul, 1) := by decide +kernel
theorem dX11_upOf_134 : decode cX11_upOf 134 = .ok (.aload_n 0, 1) := by decide +kernel
theorem dX11_upOf_135 : decode cX11_upOf 135 = .ok (.getfield 16, 3) := by decide +kernel
theorem dX11_upOf_138 : decode cX11_upOf 138 = .ok (.iload_n 2, 1) := by decide +kernel
theorem dX11_upOf_139 : decode cX11_upOf 139 = .ok (.iaload, 1) := by decide +kernel
theorem dX11_upOf_140 : decode cX11_upOf 140 = .ok (.iadd, 1) := by decide +kernel
theorem dX11_upOf_141 : decode cX11_upOf 141 = .ok (.aload_n 0, 1) := by decide +kernel
theorem dX11_upOf_142 : decode cX11_upOf 142 = .ok (.getfield 128, 3) := by decide +kernel
theorem dX11_upOf_145 : decode cX11_upOf 145 = .ok (.iastore, 1) := by decide +kernel
theorem dX11_upOf_146 : decode cX11_upOf 146 = .ok (.aload_n 0, 1) := by decide +kernel
theorem dX11_upOf_147 : decode cX11_upOf 147 = .ok (.getfield 73, 3) := by decide +kernel
theorem dX11_upOf_150 : decode cX11_upOf 150 = .ok (.iload_n 1, 1) := by decide +kernel
theorem dX11_upOf_151 : decode cX11_upOf 151 = .ok (.iconst 1, 1) := by decide +kernel
theorem dX11_upOf_152 : decode cX11_upOf 152 = .ok (.iastore, 1) := by decide +kernel
theorem dX11_upOf_153 : decode cX11_upOf 153 = .ok (.aload_n 0, 1) := by decide +kernel
theorem dX11_upOf_154 : decode cX11_upOf 154 = .ok (.aload_n 0, 1) := by decide +kernel
theorem dX11_upOf_155 : decode cX11_upOf 155 = .ok (.getfield 19, 3) := by decide +kernel
theorem dX11_upOf_158 : decode cX11_upOf 158 = .ok (.iload_n 2, 1) := by decide +kernel
theorem dX11_upOf_159 : decode cX11_upOf 159 = .ok (.iaload, 1) := by decide +kernel
theorem dX11_upOf_160 : decode cX11_upOf 160 = .ok (.iload_n 3, 1) := by decide +kernel
theorem dX11_upOf_161 : decode cX11_upOf 161 = .ok (.invokevirtual 177, 3) := by decide +kernel
theorem dX11_upOf_164 : decode cX11_upOf 164 = .ok (.goto 354, 3) := by decide +kernel
theorem dX11_upOf_167 : decode cX11_upOf 167 = .ok (.aload_n 0, 1) := by decide +kernel
theorem dX11_upOf_168 : decode cX11_upOf 168 = .ok (.dup, 1) := by decide +kernel
theorem dX11_upOf_169 : decode cX11_upOf 169 = .ok (.getfield 174, 3) := by decide +kernel
theorem dX11_upOf_172 : decode cX11_upOf 172 = .ok (.iconst 1, 1) := by decide +kernel
theorem dX11_upOf_173 : decode cX11_upOf 173 = .ok (.isub, 1) := by decide +kernel
theorem dX11_upOf_174 : decode cX11_upOf 174 = .ok (.putfield 174, 3) := by decide +kernel
theorem dX11_upOf_177 : decode cX11_upOf 177 = .ok (.goto 341, 3) := by decide +kernel
theorem dX11_upOf_180 : decode cX11_upOf 180 = .ok (.aload_n 0, 1) := by decide +kernel
theorem dX11_upOf_181 : decode cX11_upOf 181 = .ok (.dup, 1) := by decide +kernel
theorem dX11_upOf_182 : decode cX11_upOf 182 = .ok (.getfield 174, 3) := by decide +kernel
theorem dX11_upOf_185 : decode cX11_upOf 185 = .ok (.iconst 1, 1) := by decide +kernel
theorem dX11_upOf_186 : decode cX11_upOf 186 = .ok (.isub, 1) := by decide +kernel
theorem dX11_upOf_187 : decode cX11_upOf 187 = .ok (.putfield 174, 3) := by decide +kernel
theorem dX11_upOf_190 : decode cX11_upOf 190 = .ok (.aload_n 0, 1) := by decide +kernel
theorem dX11_upOf_191 : decode cX11_upOf 191 = .ok (.iload_n 2, 1) := by decide +kernel
theorem dX11_upOf_192 : decode cX11_upOf 192 = .ok (.iload 4, 2) := by decide +kernel
theorem dX11_upOf_194 : decode cX11_upOf 194 = .ok (.aload_n 0, 1) := by decide +kernel
theorem dX11_upOf_195 : decode cX11_upOf 195 = .ok (.getfield 79, 3) := by decide +kernel
theorem dX11_upOf_198 : decode cX11_upOf 198 = .ok (.iload_n 1, 1) := by decide +kernel
theorem dX11_upOf_199 : decode cX11_upOf 199 = .ok (.iaload, 1) := by decide +kernel
theorem dX11_upOf_200 : decode cX11_upOf 200 = .ok (.aload_n 0, 1) := by decide +kernel
theorem dX11_upOf_201 : decode cX11_upOf 201 = .ok (.getfield 82, 3) := by decide +kernel
theorem dX11_upOf_204 : decode cX11_upOf 204 = .ok (.iload_n 1, 1) := by decide +kernel
theorem dX11_upOf_205 : decode cX11_upOf 205 = .ok (.iaload, 1) := by decide +kernel
theorem dX11_upOf_206 : decode cX11_upOf 206 = .ok (.invokevirtual 195, 3) := by decide +kernel
theorem dX11_upOf_209 : decode cX11_upOf 209 = .ok (.goto 309, 3) := by decide +kernel
theorem dX11_upOf_212 : decode cX11_upOf 212 = .ok (.aload_n 0, 1) := by decide +kernel
theorem dX11_upOf_213 : decode cX11_upOf 213 = .ok (.dup, 1) := by decide +kernel
theorem dX11_upOf_214 : decode cX11_upOf 214 = .ok (.getfield 174, 3) := by decide +kernel
theorem dX11_upOf_217 : decode cX11_upOf 217 = .ok (.iconst 1, 1) := by decide +kernel
theorem dX11_upOf_218 : decode cX11_upOf 218 = .ok (.isub, 1) := by decide +kernel
theorem dX11_upOf_219 : decode cX11_upOf 219 = .ok (.putfield 174, 3) := by decide +kernel
theorem dX11_upOf_222 : decode cX11_upOf 222 = .ok (.aload_n 0, 1) := by decide +kernel
theorem dX11_upOf_223 : decode cX11_upOf 223 = .ok (.iload_n 2, 1) := by decide +kernel
theorem dX11_upOf_224 : decode cX11_upOf 224 = .ok (.iload 4, 2) := by decide +kernel
theorem dX11_upOf_226 : decode cX11_upOf 226 = .ok (.invokevirtual 199, 3) := by decide +kernel
theorem dX11_upOf_229 : decode cX11_upOf 229 = .ok (.goto 289, 3) := by decide +kernel
theorem dX11_upOf_232 : decode cX11_upOf 232 = .ok (.aload_n 0, 1) := by decide +kernel
theorem dX11_upOf_233 : decode cX11_upOf 233 = .ok (.dup, 1) := by decide +kernel
theorem dX11_upOf_234 : decode cX11_upOf 234 = .ok (.getfield 174, 3) := by decide +kernel
theorem dX11_upOf_237 : decode cX11_upOf 237 = .ok (.iconst 1, 1) := by decide +kernel
theorem dX11_upOf_238 : decode cX11_upOf 238 = .ok (.isub, 1) := by decide +kernel
theorem dX11_upOf_239 : decode cX11_upOf 239 = .ok (.putfield 174, 3) := by decide +kernel
theorem dX11_upOf_242 : decode cX11_upOf 242 = .ok (.aload_n 0, 1) := by decide +kernel
theorem dX11_upOf_243 : decode cX11_upOf 243 = .ok (.iconst 1, 1) := by decide +kernel
theorem dX11_upOf_244 : decode cX11_upOf 244 = .ok (.invokevirtual 171, 3) := by decide +kernel
theorem dX11_upOf_247 : decode cX11_upOf 247 = .ok (.istore 6, 2) := by decide +kernel
theorem dX11_upOf_249 : decode cX11_upOf 249 = .ok (.aload_n 0, 1) := by decide +kernel
theorem dX11_upOf_250 : decode cX11_upOf 250 = .ok (.getfield 25, 3) := by decide +kernel
theorem dX11_upOf_253 : decode cX11_upOf 253 = .ok (.bipush 16, 2) := by decide +kernel
theorem dX11_upOf_255 : decode cX11_upOf 255 = .ok (.iload 6, 2) := by decide +kernel
theorem dX11_upOf_257 : decode cX11_upOf 257 = .ok (.imul, 1) := by decide +kernel
theorem dX11_upOf_258 : decode cX11_upOf 258 = .ok (.aload_n 0, 1) := by decide +kernel
theorem dX11_upOf_259 : decode cX11_upOf 259 = .ok (.getfield 125, 3) := by decide +kernel
theorem dX11_upOf_262 : decode cX11_upOf 262 = .ok (.iastore, 1) := by decide +kernel
theorem dX11_upOf_263 : decode cX11_upOf 263 = .ok (.aload_n 0, 1) := by decide +kernel
theorem dX11_upOf_264 : decode cX11_upOf 264 = .ok (.getfield 28, 3) := by decide +kernel
theorem dX11_upOf_267 : decode cX11_upOf 267 = .ok (.bipush 16, 2) := by decide +kernel
theorem dX11_upOf_269 : decode cX11_upOf 269 = .ok (.iload 6, 2) := by decide +kernel
theorem dX11_upOf_271 : decode cX11_upOf 271 = .ok (.imul, 1) := by decide +kernel
theorem dX11_upOf_272 : decode cX11_upOf 272 = .ok (.aload_n 0, 1) := by decide +kernel
theorem dX11_upOf_273 : decode cX11_upOf 273 = .ok (.getfield 128, 3) := by decide +kernel
theorem dX11_upOf_276 : decode cX11_upOf 276 = .ok (.iastore, 1) := by decide +kernel
theorem dX11_upOf_277 : decode cX11_upOf 277 = .ok (.aload_n 0, 1) := by decide +kernel
theorem dX11_upOf_278 : decode cX11_upOf 278 = .ok (.iload 4, 2) := by decide +kernel
theorem dX11_upOf_280 : decode cX11_upOf 280 = .ok (.bipush 13, 2) := by decide +kernel
theorem dX11_upOf_282 : decode cX11_upOf 282 = .ok (.if_icmp .ne 7, 3) := by decide +kernel
theorem dX11_upOf_285 : decode cX11_upOf 285 = .ok (.iconst 5, 1) := by decide +kernel
theorem dX11_upOf_286 : decode cX11_upOf 286 = .ok (.goto 5, 3) := by decide +kernel
theorem dX11_upOf_289 : decode cX11_upOf 289 = .ok (.bipush 6, 2) := by decide +kernel
theorem dX11_upOf_291 : decode cX11_upOf 291 = .ok (.iload 6, 2) := by decide +kernel
theorem dX11_upOf_293 : decode cX11_upOf 293 = .ok (.invokevirtual 168, 3) := by decide +kernel
theorem dX11_upOf_296 : decode cX11_upOf 296 = .ok (.goto 222, 3) := by decide +kernel
theorem dX11_upOf_299 : decode cX11_upOf 299 = .ok (.aload_n 0, 1) := by decide +kernel
theorem dX11_upOf_300 : decode cX11_upOf 300 = .ok (.dup, 1) := by decide +kernel
theorem dX11_upOf_301 : decode cX11_upOf 301 = .ok (.getfield 174, 3) := by decide +kernel
theorem dX11_upOf_304 : decode cX11_upOf 304 = .ok (.iconst 1, 1) := by decide +kernel
theorem dX11_upOf_305 : decode cX11_upOf 305 = .ok (.isub, 1) := by decide +kernel
theorem dX11_upOf_306 : decode cX11_upOf 306 = .ok (.putfield 174, 3) := by decide +kernel
theorem dX11_upOf_309 : decode cX11_upOf 309 = .ok (.aload_n 0, 1) := by decide +kernel
theorem dX11_upOf_310 : decode cX11_upOf 310 = .ok (.iload_n 2, 1) := by decide +kernel
theorem dX11_upOf_311 : decode cX11_upOf 311 = .ok (.aload_n 0, 1) := by decide +kernel
theorem dX11_upOf_312 : decode cX11_upOf 312 = .ok (.getfield 79, 3) := by decide +kernel
theorem dX11_upOf_315 : decode cX11_upOf 315 = .ok (.iload_n 1, 1) := by decide +kernel
theorem dX11_upOf_316 : decode cX11_upOf 316 = .ok (.iaload, 1) := by decide +kernel
theorem dX11_upOf_317 : decode cX11_upOf 317 = .ok (.aload_n 0, 1) := by decide +kernel
theorem dX11_upOf_318 : decode cX11_upOf 318 = .ok (.getfield 82, 3) := by decide +kernel
theorem dX11_upOf_321 : decode cX11_upOf 321 = .ok (.iload_n 1, 1) := by decide +kernel
theorem dX11_upOf_322 : decode cX11_upOf 322 = .ok (.iaload, 1) := by decide +kernel
theorem dX11_upOf_323 : decode cX11_upOf 323 = .ok (.invokevirtual 202, 3) := by decide +kernel
theorem dX11_upOf_326 : decode cX11_upOf 326 = .ok (.goto 192, 3) := by decide +kernel
theorem dX11_upOf_329 : decode cX11_upOf 329 = .ok (.aload_n 0, 1) := by decide +kernel
theorem dX11_upOf_330 : decode cX11_upOf 330 = .ok (.dup, 1) := by decide +kernel
theorem dX11_upOf_331 : decode cX11_upOf 331 = .ok (.getfield 174, 3) := by decide +kernel
theorem dX11_upOf_334 : decode cX11_upOf 334 = .ok (.iconst 1, 1) := by decide +kernel
theorem dX11_upOf_335 : decode cX11_upOf 335 = .ok (.isub, 1) := by decide +kernel
theorem dX11_upOf_336 : decode cX11_upOf 336 = .ok (.putfield 174, 3) := by decide +kernel
theorem dX11_upOf_339 : decode cX11_upOf 339 = .ok (.aload_n 0, 1) := by decide +kernel
theorem dX11_upOf_340 : decode cX11_upOf 340 = .ok (.iload_n 2, 1) := by decide +kernel
theorem dX11_upOf_341 : decode cX11_upOf 341 = .ok (.iload_n 1, 1) := by decide +kernel
theorem dX11_upOf_342 : decode cX11_upOf 342 = .ok (.invokevirtual 205, 3) := by decide +kernel
theorem dX11_upOf_345 : decode cX11_upOf 345 = .ok (.goto 173, 3) := by decide +kernel
theorem dX11_upOf_348 : decode cX11_upOf 348 = .ok (.aload_n 0, 1) := by decide +kernel
theorem dX11_upOf_349 : decode cX11_upOf 349 = .ok (.dup, 1) := by decide +kernel
theorem dX11_upOf_350 : decode cX11_upOf 350 = .ok (.getfield 174, 3) := by decide +kernel
theorem dX11_upOf_353 : decode cX11_upOf 353 = .ok (.iconst 1, 1) := by decide +kernel
theorem dX11_upOf_354 : decode cX11_upOf 354 = .ok (.isub, 1) := by decide +kernel
theorem dX11_upOf_355 : decode cX11_upOf 355 = .ok (.putfield 174, 3) := by decide +kernel
theorem dX11_upOf_358 : decode cX11_upOf 358 = .ok (.aload_n 0, 1) := by decide +kernel
theorem dX11_upOf_359 : decode cX11_upOf 359 = .ok (.aload_n 0, 1) := by decide +kernel
theorem dX11_upOf_360 : decode cX11_upOf 360 = .ok (.getfield 125, 3) := by decide +kernel
theorem dX11_upOf_363 : decode cX11_upOf 363 = .ok (.iload_n 2, 1) := by decide +kernel
theorem dX11_upOf_364 : decode cX11_upOf 364 = .ok (.invokevirtual 208, 3) := by decide +kernel
theorem dX11_upOf_367 : decode cX11_upOf 367 = .ok (.ifCond .eq 151, 3) := by decide +kernel
theorem dX11_upOf_370 : decode cX11_upOf 370 = .ok (.aload_n 0, 1) := by decide +kernel
theorem dX11_upOf_371 : decode cX11_upOf 371 = .ok (.aload_n 0, 1) := by decide +kernel
theorem dX11_upOf_372 : decode cX11_upOf 372 = .ok (.getfield 25, 3) := by decide +kernel
theorem dX11_upOf_375 : decode cX11_upOf 375 = .ok (.bipush 16, 2) := by decide +kernel
theorem dX11_upOf_377 : decode cX11_upOf 377 = .ok (.aload_n 0, 1) := by decide +kernel
theorem dX11_upOf_378 : decode cX11_upOf 378 = .ok (.getfield 128, 3) := by decide +kernel
theorem dX11_upOf_381 : decode cX11_upOf 381 = .ok (.imul, 1) := by decide +kernel
theorem dX11_upOf_382 : decode cX11_upOf 382 = .ok (.iaload, 1) := by decide +kernel
theorem dX11_upOf_383 : decode cX11_upOf 383 = .ok (.aload_n 0, 1) := by decide +kernel
theorem dX11_upOf_384 : decode cX11_upOf 384 = .ok (.getfield 28, 3) := by decide +kernel
theorem dX11_upOf_387 : decode cX11_upOf 387 = .ok (.bipush 16, 2) := by decide +kernel
theorem dX11_upOf_389 : decode cX11_upOf 389 = .ok (.aload_n 0, 1) := by decide +kernel
theorem dX11_upOf_390 : decode cX11_upOf 390 = .ok (.getfield 128, 3) := by decide +kernel
theorem dX11_upOf_393 : decode cX11_upOf 393 = .ok (.imul, 1) := by decide +kernel
theorem dX11_upOf_394 : decode cX11_upOf 394 = .ok (.iaload, 1) := by decide +kernel
theorem dX11_upOf_395 : decode cX11_upOf 395 = .ok (.invokevirtual 168, 3) := by decide +kernel
theorem dX11_upOf_398 : decode cX11_upOf 398 = .ok (.goto 120, 3) := by decide +kernel
theorem dX11_upOf_401 : decode cX11_upOf 401 = .ok (.aload_n 0, 1) := by decide +kernel
theorem dX11_upOf_402 : decode cX11_upOf 402 = .ok (.dup, 1) := by decide +kernel
theorem dX11_upOf_403 : decode cX11_upOf 403 = .ok (.getfield 174, 3) := by decide +kernel
theorem dX11_upOf_406 : decode cX11_upOf 406 = .ok (.iconst 1, 1) := by decide +kernel
theorem dX11_upOf_407 : decode cX11_upOf 407 = .ok (.isub, 1) := by decide +kernel
theorem dX11_upOf_408 : decode cX11_upOf 408 = .ok (.putfield 174, 3) := by decide +kernel
theorem dX11_upOf_411 : decode cX11_upOf 411 = .ok (.aload_n 0, 1) := by decide +kernel
theorem dX11_upOf_412 : decode cX11_upOf 412 = .ok (.aload_n 0, 1) := by decide +kernel
theorem dX11_upOf_413 : decode cX11_upOf 413 = .ok (.getfield 79, 3) := by decide +kernel
theorem dX11_upOf_416 : decode cX11_upOf 416 = .ok (.iload_n 1, 1) := by decide +kernel
theorem dX11_upOf_417 : decode cX11_upOf 417 = .ok (.iaload, 1) := by decide +kernel
theorem dX11_upOf_418 : decode cX11_upOf 418 = .ok (.iload_n 2, 1) := by decide +kernel
theorem dX11_upOf_419 : decode cX11_upOf 419 = .ok (.invokevirtual 208, 3) := by decide +kernel
theorem dX11_upOf_422 : decode cX11_upOf 422 = .ok (.ifCond .eq 96, 3) := by decide +kernel
theorem dX11_upOf_425 : decode cX11_upOf 425 = .ok (.aload_n 0, 1) := by decide +kernel
theorem dX11_upOf_426 : decode cX11_upOf 426 = .ok (.bipush 8, 2) := by decide +kernel
theorem dX11_upOf_428 : decode cX11_upOf 428 = .ok (.bipush 16, 2) := by decide +kernel
theorem dX11_upOf_430 : decode cX11_upOf 430 = .ok (.aload_n 0, 1) := by decide +kernel
theorem dX11_upOf_431 : decode cX11_upOf 431 = .ok (.getfield 82, 3) := by decide +kernel
theorem dX11_upOf_434 : decode cX11_upOf 434 = .ok (.iload_n 1, 1) := by decide +kernel
theorem dX11_upOf_435 : decode cX11_upOf 435 = .ok (.iaload, 1) := by decide +kernel
theorem dX11_upOf_436 : decode cX11_upOf 436 = .ok (.imul, 1) := by decide +kernel
theorem dX11_upOf_437 : decode cX11_upOf 437 = .ok (.iadd, 1) := by decide +kernel
theorem dX11_upOf_438 : decode cX11_upOf 438 = .ok (.aload_n 0, 1) := by decide +kernel
theorem dX11_upOf_439 : decode cX11_upOf 439 = .ok (.getfield 125, 3) := by decide +kernel
theorem dX11_upOf_442 : decode cX11_upOf 442 = .ok (.aload_n 0, 1) := by decide +kernel
theorem dX11_upOf_443 : decode cX11_upOf 443 = .ok (.getfield 128, 3) := by decide +kernel
theorem dX11_upOf_446 : decode cX11_upOf 446 = .ok (.invokevirtual 212, 3) := by decide +kernel
theorem dX11_upOf_449 : decode cX11_upOf 449 = .ok (.goto 69, 3) := by decide +kernel
theorem dX11_upOf_452 : decode cX11_upOf 452 = .ok (.aload_n 0, 1) := by decide +kernel
theorem dX11_upOf_453 : decode cX11_upOf 453 = .ok (.dup, 1) := by decide +kernel
theorem dX11_upOf_454 : decode cX11_upOf 454 = .ok (.getfield 174, 3) := by decide +kernel
theorem dX11_upOf_457 : decode cX11_upOf 457 = .ok (.iconst 1, 1) := by decide +kernel
theorem dX11_upOf_458 : decode cX11_upOf 458 = .ok (.isub, 1) := by decide +kernel
theorem dX11_upOf_459 : decode cX11_upOf 459 = .ok (.putfield 174, 3) := by decide +kernel
theorem dX11_upOf_462 : decode cX11_upOf 462 = .ok (.aload_n 0, 1) := by decide +kernel
theorem dX11_upOf_463 : decode cX11_upOf 463 = .ok (.iload_n 2, 1) := by decide +kernel
theorem dX11_upOf_464 : decode cX11_upOf 464 = .ok (.iload_n 1, 1) := by decide +kernel
theorem dX11_upOf_465 : decode cX11_upOf 465 = .ok (.invokevirtual 215, 3) := by decide +kernel
theorem dX11_upOf_468 : decode cX11_upOf 468 = .ok (.goto 50, 3) := by decide +kernel
theorem dX11_upOf_471 : decode cX11_upOf 471 = .ok (.aload_n 0, 1) := by decide +kernel
theorem dX11_upOf_472 : decode cX11_upOf 472 = .ok (.dup, 1) := by decide +kernel
theorem dX11_upOf_473 : decode cX11_upOf 473 = .ok (.getfield 174, 3) := by decide +kernel
theorem dX11_upOf_476 : decode cX11_upOf 476 = .ok (.iconst 1, 1) := by decide +kernel
theorem dX11_upOf_477 : decode cX11_upOf 477 = .ok (.isub, 1) := by decide +kernel
theorem dX11_upOf_478 : decode cX11_upOf 478 = .ok (.putfield 174, 3) := by decide +kernel
theorem dX11_upOf_481 : decode cX11_upOf 481 = .ok (.aload_n 0, 1) := by decide +kernel
theorem dX11_upOf_482 : decode cX11_upOf 482 = .ok (.aload_n 0, 1) := by decide +kernel
theorem dX11_upOf_483 : decode cX11_upOf 483 = .ok (.getfield 125, 3) := by decide +kernel
theorem dX11_upOf_486 : decode cX11_upOf 486 = .ok (.iload_n 2, 1) := by decide +kernel
theorem dX11_upOf_487 : decode cX11_upOf 487 = .ok (.invokevirtual 218, 3) := by decide +kernel
theorem dX11_upOf_490 : decode cX11_upOf 490 = .ok (.ifCond .eq 28, 3) := by decide +kernel
theorem dX11_upOf_493 : decode cX11_upOf 493 = .ok (.aload_n 0, 1) := by decide +kernel
theorem dX11_upOf_494 : decode cX11_upOf 494 = .ok (.bipush 7, 2) := by decide +kernel
theorem dX11_upOf_496 : decode cX11_upOf 496 = .ok (.aload_n 0, 1) := by decide +kernel
theorem dX11_upOf_497 : decode cX11_upOf 497 = .ok (.getfield 128, 3) := by decide +kernel
theorem dX11_upOf_500 : decode cX11_upOf 500 = .ok (.iload_n 2, 1) := by decide +kernel
theorem dX11_upOf_501 : decode cX11_upOf 501 = .ok (.invokevirtual 180, 3) := by decide +kernel
theorem dX11_upOf_504 : decode cX11_upOf 504 = .ok (.goto 14, 3) := by decide +kernel
theorem dX11_upOf_507 : decode cX11_upOf 507 = .ok (.aload_n 0, 1) := by decide +kernel
theorem dX11_upOf_508 : decode cX11_upOf 508 = .ok (.iload_n 1, 1) := by decide +kernel
theorem dX11_upOf_509 : decode cX11_upOf 509 = .ok (.iload_n 2, 1) := by decide +kernel
theorem dX11_upOf_510 : decode cX11_upOf 510 = .ok (.iload_n 3, 1) := by decide +kernel
theorem dX11_upOf_511 : decode cX11_upOf 511 = .ok (.iload 4, 2) := by decide +kernel
theorem dX11_upOf_513 : decode cX11_upOf 513 = .ok (.iload 5, 2) := by decide +kernel
theorem dX11_upOf_515 : decode cX11_upOf 515 = .ok (.invokevirtual 221, 3) := by decide +kernel
theorem dX11_upOf_518 : decode cX11_upOf 518 = .ok (.return_, 1) := by decide +kernel
theorem dX11_upLater_0 : decode cX11_upLater 0 = .ok (.iload 4, 2) := by decide +kernel
theorem dX11_upLater_2 : decode cX11_upLater 2 = .ok (.tableswitch 330 22 31 #[54, 127, 208, 220, 231, 330, 288, 330, 330, 299], 54) := by decide +kernel
theorem dX11_upLater_56 : decode cX11_upLater 56 = .ok (.aload_n 0, 1) := by decide +kernel
theorem dX11_upLater_57 : decode cX11_upLater 57 = .ok (.dup, 1) := by decide +kernel
theorem dX11_upLater_58 : decode cX11_upLater 58 = .ok (.getfield 174, 3) := by decide +kernel
theorem dX11_upLater_61 : decode cX11_upLater 61 = .ok (.iconst 1, 1) := by decide +kernel
theorem dX11_upLater_62 : decode cX11_upLater 62 = .ok (.isub, 1) := by decide +kernel
theorem dX11_upLater_63 : decode cX11_upLater 63 = .ok (.putfield 174, 3) := by decide +kernel
theorem dX11_upLater_66 : decode cX11_upLater 66 = .ok (.iload 5, 2) := by decide +kernel
theorem dX11_upLater_68 : decode cX11_upLater 68 = .ok (.iconst 1, 1) := by decide +kernel
theorem dX11_upLater_69 : decode cX11_upLater 69 = .ok (.if_icmp .ne 22, 3) := by decide +kernel
theorem dX11_upLater_72 : decode cX11_upLater 72 = .ok (.aload_n 0, 1) := by decide +kernel
theorem dX11_upLater_73 : decode cX11_upLater 73 = .ok (.aload_n 0, 1) := by decide +kernel
theorem dX11_upLater_74 : decode cX11_upLater 74 = .ok (.getfield 79, 3) := by decide +kernel
theorem dX11_upLater_77 : decode cX11_upLater 77 = .ok (.iload_n 1, 1) := by decide +kernel
theorem dX11_upLater_78 : decode cX11_upLater 78 = .ok (.iaload, 1) := by decide +kernel
theorem dX11_upLater_79 : decode cX11_upLater 79 = .ok (.aload_n 0, 1) := by decide +kernel
theorem dX11_upLater_80 : decode cX11_upLater 80 = .ok (.getfield 82, 3) := by decide +kernel
theorem dX11_upLater_83 : decode cX11_upLater 83 = .ok (.iload_n 1, 1) := by decide +kernel
theorem dX11_upLater_84 : decode cX11_upLater 84 = .ok (.iaload, 1) := by decide +kernel
theorem dX11_upLater_85 : decode cX11_upLater 85 = .ok (.invokevirtual 168, 3) := by decide +kernel
theorem dX11_upLater_88 : decode cX11_upLater 88 = .ok (.goto 254, 3) := by decide +kernel
theorem dX11_upLater_91 : decode cX11_upLater 91 = .ok (.aload_n 0, 1) := by decide +kernel
theorem dX11_upLater_92 : decode cX11_upLater 92 = .ok (.iconst 2, 1) := by decide +kernel
theorem dX11_upLater_93 : decode cX11_upLater 93 = .ok (.putfield 122, 3) := by decide +kernel
theorem dX11_upLater_96 : decode cX11_upLater 96 = .ok (.aload_n 0, 1) := by decide +kernel
theorem dX11_upLater_97 : decode cX11_upLater 97 = .ok (.aload_n 0, 1) := by decide +kernel
theorem dX11_upLater_98 : decode cX11_upLater 98 = .ok (.getfield 79, 3) := by decide +kernel
theorem dX11_upLater_101 : decode cX11_upLater 101 = .ok (.iload_n 1, 1) := by decide +kernel
theorem dX11_upLater_102 : decode cX11_upLater 102 = .ok (.iaload, 1) := by decide +kernel
theorem dX11_upLater_103 : decode cX11_upLater 103 = .ok (.putfield 137, 3) := by decide +kernel
theorem dX11_upLater_106 : decode cX11_upLater 106 = .ok (.aload_n 0, 1) := by decide +kernel
theorem dX11_upLater_107 : decode cX11_upLater 107 = .ok (.aload_n 0, 1) := by decide +kernel
theorem dX11_upLater_108 : decode cX11_upLater 108 = .ok (.getfield 82, 3) := by decide +kernel
theorem dX11_upLater_111 : decode cX11_upLater 111 = .ok (.iload_n 1, 1) := by decide +kernel
theorem dX11_upLater_112 : decode cX11_upLater 112 = .ok (.iaload, 1) := by decide +kernel
theorem dX11_upLater_113 : decode cX11_upLater 113 = .ok (.putfield 140, 3) := by decide +kernel
theorem dX11_upLater_116 : decode cX11_upLater 116 = .ok (.aload_n 0, 1) := by decide +kernel
theorem dX11_upLater_117 : decode cX11_upLater 117 = .ok (.aload_n 0, 1) := by decide +kernel
theorem dX11_upLater_118 : decode cX11_upLater 118 = .ok (.getfield 94, 3) := by decide +kernel
theorem dX11_upLater_121 : decode cX11_upLater 121 = .ok (.iload_n 1, 1) := by decide +kernel
theorem dX11_upLater_122 : decode cX11_upLater 122 = .ok (.iaload, 1) := by decide +kernel
theorem dX11_upLater_123 : decode cX11_upLater 123 = .ok (.putfield 143, 3) := by decide +kernel
theorem dX11_upLater_126 : decode cX11_upLater 126 = .ok (.goto 216, 3) := by decide +kernel
theorem dX11_upLater_129 : decode cX11_upLater 129 = .ok (.iload 5, 2) := by decide +kernel
theorem dX11_upLater_131 : decode cX11_upLater 131 = .ok (.iconst 1, 1) := by decide +kernel
theorem dX11_upLater_132 : decode cX11_upLater 132 = .ok (.if_icmp .ne 16, 3) := by decide +kernel
theorem dX11_upLater_135 : decode cX11_upLater 135 = .ok (.aload_n 0, 1) := by decide +kernel
theorem dX11_upLater_136 : decode cX11_upLater 136 = .ok (.dup, 1) := by decide +kernel
theorem dX11_upLater_137 : decode cX11_upLater 137 = .ok (.getfield 174, 3) := by decide +kernel
theorem dX11_upLater_140 : decode cX11_upLater 140 = .ok (.iconst 1, 1) := by decide +kernel
theorem dX11_upLater_141 : decode cX11_upLater 141 = .ok (.isub, 1) := by decide +kernel
theorem dX11_upLater_142 : decode cX11_upLater 142 = .ok (.putfield 174, 3) := by decide +kernel
theorem dX11_upLater_145 : decode cX11_upLater 145 = .ok (.goto 197, 3) := by decide +kernel
theorem dX11_upLater_148 : decode cX11_upLater 148 = .ok (.aload_n 0, 1) := by decide +kernel
theorem dX11_upLater_149 : decode cX11_upLater 149 = .ok (.aload_n 0, 1) := by decide +kernel
theorem dX11_upLater_150 : decode cX11_upLater 150 = .ok (.getfield 125, 3) := by decide +kernel
theorem dX11_upLater_153 : decode cX11_upLater 153 = .ok (.iload_n 2, 1) := by decide +kernel
theorem dX11_upLater_154 : decode cX11_upLater 154 = .ok (.invokevirtual 218, 3) := by decide +kernel
theorem dX11_upLater_157 : decode cX11_upLater 157 = .ok (.ifCond .eq 40, 3) := by decide +kernel
theorem dX11_upLater_160 : decode cX11_upLater 160 = .ok (.aload_n 0, 1) := by decide +kernel
theorem dX11_upLater_161 : decode cX11_upLater 161 = .ok (.getfield 73, 3) := by decide +kernel
theorem dX11_upLater_164 : decode cX11_upLater 164 = .ok (.iload_n 1, 1) := by decide +kernel
theorem dX11_upLater_165 : decode cX11_upLater 165 = .ok (.iconst 1, 1) := by decide +kernel
theorem dX11_upLater_166 : decode cX11_upLater 166 = .ok (.iastore, 1) := by decide +kernel
theorem dX11_upLater_167 : decode cX11_upLater 167 = .ok (.aload_n 0, 1) := by decide +kernel
theorem dX11_upLater_168 : decode cX11_upLater 168 = .ok (.aload_n 0, 1) := by decide +kernel
theorem dX11_upLater_169 : decode cX11_upLater 169 = .ok (.getfield 128, 3) := by decide +kernel
theorem dX11_upLater_172 : decode cX11_upLater 172 = .ok (.ifCond .eq 12, 3) := by decide +kernel
theorem dX11_upLater_175 : decode cX11_upLater 175 = .ok (.aload_n 0, 1) := by decide +kernel
theorem dX11_upLater_176 : decode cX11_upLater 176 = .ok (.getfield 16, 3) := by decide +kernel
theorem dX11_upLater_179 : decode cX11_upLater 179 = .ok (.iload_n 2, 1) := by decide +kernel
theorem dX11_upLater_180 : decode cX11_upLater 180 = .ok (.iaload, 1) := by decide +kernel
theorem dX11_upLater_181 : decode cX11_upLater 181 = .ok (.goto 9, 3) := by decide +kernel
theorem dX11_upLater_184 : decode cX11_upLater 184 = .ok (.aload_n 0, 1) := by decide +kernel
theorem dX11_upLater_185 : decode cX11_upLater 185 = .ok (.getfield 19, 3) := by decide +kernel
theorem dX11_upLater_188 : decode cX11_upLater 188 = .ok (.iload_n 2, 1) := by decide +kernel
theorem dX11_upLater_189 : decode cX11_upLater 189 = .ok (.iaload, 1) := by decide +kernel
theorem dX11_upLater_190 : decode cX11_upLater 190 = .ok (.iload_n 3, 1) := by decide +kernel
theorem dX11_upLater_191 : decode cX11_upLater 191 = .ok (.invokevirtual 177, 3) := by decide +kernel
theorem dX11_upLater_194 : decode cX11_upLater 194 = .ok (.goto 148, 3) := by decide +kernel
theorem dX11_upLater_197 : decode cX11_upLater 197 = .ok (.aload_n 0, 1) := by decide +kernel
theorem dX11_upLater_198 : decode cX11_upLater 198 = .ok (.dup, 1) := by decide +kernel
theorem dX11_upLater_199 : decode cX11_upLater 199 = .ok (.getfield 174, 3) := by decide +kernel
theorem dX11_upLater_202 : decode cX11_upLater 202 = .ok (.iconst 1, 1) := by decide +kernel
theorem dX11_upLater_203 : decode cX11_upLater 203 = .ok (.isub, 1) := by decide +kernel
theorem dX11_upLater_204 : decode cX11_upLater 204 = .ok (.putfield 174, 3) := by decide +kernel
theorem dX11_upLater_207 : decode cX11_upLater 207 = .ok (.goto 135, 3) := by decide +kernel
theorem dX11_upLater_210 : decode cX11_upLater 210 = .ok (.aload_n 0, 1) := by decide +kernel
theorem dX11_upLater_211 : decode cX11_upLater 211 = .ok (.iload_n 1, 1) := by decide +kernel
theorem dX11_upLater_212 : decode cX11_upLater 212 = .ok (.iload_n 2, 1) := by decide +kernel
theorem dX11_upLater_213 : decode cX11_upLater 213 = .ok (.iload_n 3, 1) := by decide +kernel
theorem dX11_upLater_214 : decode cX11_upLater 214 = .ok (.iload 5, 2) := by decide +kernel
theorem dX11_upLater_216 : decode cX11_upLater 216 = .ok (.invokevirtual 224, 3) := by decide +kernel
theorem dX11_upLater_219 : decode cX11_upLater 219 = .ok (.goto 123, 3) := by decide +kernel
theorem dX11_upLater_222 : decode cX11_upLater 222 = .ok (.aload_n 0, 1) := by decide +kernel
theorem dX11_upLater_223 : decode cX11_upLater 223 = .ok (.iload_n 1, 1) := by decide +kernel
theorem dX11_upLater_224 : decode cX11_upLater 224 = .ok (.iload_n 2, 1) := by decide +kernel
theorem dX11_upLater_225 : decode cX11_upLater 225 = .ok (.iload 5, 2) := by decide +kernel
theorem dX11_upLater_227 : decode cX11_upLater 227 = .ok (.invokevirtual 227, 3) := by decide +kernel
theorem dX11_upLater_230 : decode cX11_upLater 230 = .ok (.goto 112, 3) := by decide +kernel
theorem dX11_upLater_233 : decode cX11_upLater 233 = .ok (.aload_n 0, 1) := by decide +kernel
theorem dX11_upLater_234 : decode cX11_upLater 234 = .ok (.dup, 1) := by decide +kernel
theorem dX11_upLater_235 : decode cX11_upLater 235 = .ok (.getfield 174, 3) := by decide +kernel
theorem dX11_upLater_238 : decode cX11_upLater 238 = .ok (.iconst 1, 1) := by decide +kernel
theorem dX11_upLater_239 : decode cX11_upLater 239 = .ok (.isub, 1) := by decide +kernel
theorem dX11_upLater_240 : decode cX11_upLater 240 = .ok (.putfield 174, 3) := by decide +kernel
theorem dX11_upLater_243 : decode cX11_upLater 243 = .ok (.aload_n 0, 1) := by decide +kernel
theorem dX11_upLater_244 : decode cX11_upLater 244 = .ok (.aload_n 0, 1) := by decide +kernel
theorem dX11_upLater_245 : decode cX11_upLater 245 = .ok (.getfield 125, 3) := by decide +kernel
theorem dX11_upLater_248 : decode cX11_upLater 248 = .ok (.iload_n 2, 1) := by decide +kernel
theorem dX11_upLater_249 : decode cX11_upLater 249 = .ok (.invokevirtual 218, 3) := by decide +kernel
theorem dX11_upLater_252 : decode cX11_upLater 252 = .ok (.ifCond .eq 90, 3) := by decide +kernel
theorem dX11_upLater_255 : decode cX11_upLater 255 = .ok (.aload_n 0, 1) := by decide +kernel
theorem dX11_upLater_256 : decode cX11_upLater 256 = .ok (.getfield 230, 3) := by decide +kernel
theorem dX11_upLater_259 : decode cX11_upLater 259 = .ok (.bipush 40, 2) := by decide +kernel
theorem dX11_upLater_261 : decode cX11_upLater 261 = .ok (.if_icmp .ge 81, 3) := by decide +kernel
theorem dX11_upLater_264 : decode cX11_upLater 264 = .ok (.aload_n 0, 1) := by decide +kernel
theorem dX11_upLater_265 : decode cX11_upLater 265 = .ok (.getfield 67, 3) := by decide +kernel
theorem dX11_upLater_268 : decode cX11_upLater 268 = .ok (.aload_n 0, 1) := by decide +kernel
theorem dX11_upLater_269 : decode cX11_upLater 269 = .ok (.getfield 230, 3) := by decide +kernel
theorem dX11_upLater_272 : decode cX11_upLater 272 = .ok (.aload_n 0, 1) := by decide +kernel
theorem dX11_upLater_273 : decode cX11_upLater 273 = .ok (.getfield 128, 3) := by decide +kernel
theorem dX11_upLater_276 : decode cX11_upLater 276 = .ok (.iastore, 1) := by decide +kernel
theorem dX11_upLater_277 : decode cX11_upLater 277 = .ok (.aload_n 0, 1) := by decide +kernel
theorem dX11_upLater_278 : decode cX11_upLater 278 = .ok (.dup, 1) := by decide +kernel
theorem dX11_upLater_279 : decode cX11_upLater 279 = .ok (.getfield 230, 3) := by decide +kernel
theorem dX11_upLater_282 : decode cX11_upLater 282 = .ok (.iconst 1, 1) := by decide +kernel
theorem dX11_upLater_283 : decode cX11_upLater 283 = .ok (.iadd, 1) := by decide +kernel
theorem dX11_upLater_284 : decode cX11_upLater 284 = .ok (.putfield 230, 3) := by decide +kernel
theorem dX11_upLater_287 : decode cX11_upLater 287 = .ok (.goto 55, 3) := by decide +kernel
theorem dX11_upLater_290 : decode cX11_upLater 290 = .ok (.aload_n 0, 1) := by decide +kernel
theorem dX11_upLater_291 : decode cX11_upLater 291 = .ok (.iload_n 1, 1) := by decide +kernel
theorem dX11_upLater_292 : decode cX11_upLater 292 = .ok (.iload_n 2, 1) := by decide +kernel
theorem dX11_upLater_293 : decode cX11_upLater 293 = .ok (.iload 5, 2) := by decide +kernel
theorem dX11_upLater_295 : decode cX11_upLater 295 = .ok (.invokevirtual 233, 3) := by decide +kernel
theorem dX11_upLater_298 : decode cX11_upLater 298 = .ok (.goto 44, 3) := by decide +kernel
theorem dX11_upLater_301 : decode cX11_upLater 301 = .ok (.aload_n 0, 1) := by decide +kernel
theorem dX11_upLater_302 : decode cX11_upLater 302 = .ok (.dup, 1) := by decide +kernel
theorem dX11_upLater_303 : decode cX11_upLater 303 = .ok (.getfield 174, 3) := by decide +kernel
theorem dX11_upLater_306 : decode cX11_upLater 306 = .ok (.iconst 1, 1) := by decide +kernel
theorem dX11_upLater_307 : decode cX11_upLater 307 = .ok (.isub, 1) := by decide +kernel
theorem dX11_upLater_308 : decode cX11_upLater 308 = .ok (.putfield 174, 3) := by decide +kernel
theorem dX11_upLater_311 : decode cX11_upLater 311 = .ok (.aload_n 0, 1) := by decide +kernel
theorem dX11_upLater_312 : decode cX11_upLater 312 = .ok (.aload_n 0, 1) := by decide +kernel
theorem dX11_upLater_313 : decode cX11_upLater 313 = .ok (.getfield 13, 3) := by decide +kernel
theorem dX11_upLater_316 : decode cX11_upLater 316 = .ok (.iload_n 2, 1) := by decide +kernel
theorem dX11_upLater_317 : decode cX11_upLater 317 = .ok (.iaload, 1) := by decide +kernel
theorem dX11_upLater_318 : decode cX11_upLater 318 = .ok (.aload_n 0, 1) := by decide +kernel
theorem dX11_upLater_319 : decode cX11_upLater 319 = .ok (.getfield 125, 3) := by decide +kernel
theorem dX11_upLater_322 : decode cX11_upLater 322 = .ok (.aload_n 0, 1) := by decide +kernel
theorem dX11_upLater_323 : decode cX11_upLater 323 = .ok (.getfield 128, 3) := by decide +kernel
theorem dX11_upLater_326 : decode cX11_upLater 326 = .ok (.invokevirtual 212, 3) := by decide +kernel
theorem dX11_upLater_329 : decode cX11_upLater 329 = .ok (.goto 13, 3) := by decide +kernel
theorem dX11_upLater_332 : decode cX11_upLater 332 = .ok (.aload_n 0, 1) := by decide +kernel
theorem dX11_upLater_333 : decode cX11_upLater 333 = .ok (.dup, 1) := by decide +kernel
theorem dX11_upLater_334 : decode cX11_upLater 334 = .ok (.getfield 174, 3) := by decide +kernel
theorem dX11_upLater_337 : decode cX11_upLater 337 = .ok (.iconst 1, 1) := by decide +kernel
theorem dX11_upLater_338 : decode cX11_upLater 338 = .ok (.isub, 1) := by decide +kernel
theorem dX11_upLater_339 : decode cX11_upLater 339 = .ok (.putfield 174, 3) := by decide +kernel
theorem dX11_upLater_342 : decode cX11_upLater 342 = .ok (.return_, 1) := by decide +kernel
theorem dX11_upLoop_0 : decode cX11_upLoop 0 = .ok (.iload 4, 2) := by decide +kernel
theorem dX11_upLoop_2 : decode cX11_upLoop 2 = .ok (.iconst 1, 1) := by decide +kernel
theorem dX11_upLoop_3 : decode cX11_upLoop 3 = .ok (.if_icmp .ne 53, 3) := by decide +kernel
theorem dX11_upLoop_6 : decode cX11_upLoop 6 = .ok (.aload_n 0, 1) := by decide +kernel
theorem dX11_upLoop_7 : decode cX11_upLoop 7 = .ok (.getfield 162, 3) := by decide +kernel
theorem dX11_upLoop_10 : decode cX11_upLoop 10 = .ok (.aload_n 0, 1) := by decide +kernel
theorem dX11_upLoop_11 : decode cX11_upLoop 11 = .ok (.getfield 165, 3) := by decide +kernel
theorem dX11_upLoop_14 : decode cX11_upLoop 14 = .ok (.if_icmp .ne 11, 3) := by decide +kernel
theorem dX11_upLoop_17 : decode cX11_upLoop 17 = .ok (.aload_n 0, 1) := by decide +kernel
theorem dX11_upLoop_18 : decode cX11_upLoop 18 = .ok (.bipush 9, 2) := by decide +kernel
theorem dX11_upLoop_20 : decode cX11_upLoop 20 = .ok (.iload_n 2, 1) := by decide +kernel
theorem dX11_upLoop_21 : decode cX11_upLoop 21 = .ok (.invokevirtual 149, 3) := by decide +kernel
theorem dX11_upLoop_24 : decode cX11_upLoop 24 = .ok (.return_, 1) := by decide +kernel
theorem dX11_upLoop_25 : decode cX11_upLoop 25 = .ok (.aload_n 0, 1) := by decide +kernel
theorem dX11_upLoop_26 : decode cX11_upLoop 26 = .ok (.dup, 1) := by decide +kernel
theorem dX11_upLoop_27 : decode cX11_upLoop 27 = .ok (.getfield 162, 3) := by decide +kernel
theorem dX11_upLoop_30 : decode cX11_upLoop 30 = .ok (.iconst 1, 1) := by decide +kernel
theorem dX11_upLoop_31 : decode cX11_upLoop 31 = .ok (.iadd, 1) := by decide +kernel
theorem dX11_upLoop_32 : decode cX11_upLoop 32 = .ok (.putfield 162, 3) := by decide +kernel
theorem dX11_upLoop_35 : decode cX11_upLoop 35 = .ok (.aload_n 0, 1) := by decide +kernel
theorem dX11_upLoop_36 : decode cX11_upLoop 36 = .ok (.getfield 73, 3) := by decide +kernel
theorem dX11_upLoop_39 : decode cX11_upLoop 39 = .ok (.iload_n 1, 1) := by decide +kernel
theorem dX11_upLoop_40 : decode cX11_upLoop 40 = .ok (.iconst 0, 1) := by decide +kernel
theorem dX11_upLoop_41 : decode cX11_upLoop 41 = .ok (.iastore, 1) := by decide +kernel
theorem dX11_upLoop_42 : decode cX11_upLoop 42 = .ok (.aload_n 0, 1) := by decide +kernel
theorem dX11_upLoop_43 : decode cX11_upLoop 43 = .ok (.aload_n 0, 1) := by decide +kernel
theorem dX11_upLoop_44 : decode cX11_upLoop 44 = .ok (.getfield 13, 3) := by decide +kernel
theorem dX11_upLoop_47 : decode cX11_upLoop 47 = .ok (.iload_n 2, 1) := by decide +kernel
theorem dX11_upLoop_48 : decode cX11_upLoop 48 = .ok (.iaload, 1) := by decide +kernel
theorem dX11_upLoop_49 : decode cX11_upLoop 49 = .ok (.iload_n 3, 1) := by decide +kernel
theorem dX11_upLoop_50 : decode cX11_upLoop 50 = .ok (.invokevirtual 177, 3) := by decide +kernel
theorem dX11_upLoop_53 : decode cX11_upLoop 53 = .ok (.goto 72, 3) := by decide +kernel
theorem dX11_upLoop_56 : decode cX11_upLoop 56 = .ok (.aload_n 0, 1) := by decide +kernel
theorem dX11_upLoop_57 : decode cX11_upLoop 57 = .ok (.aload_n 0, 1) := by decide +kernel
theorem dX11_upLoop_58 : decode cX11_upLoop 58 = .ok (.getfield 125, 3) := by decide +kernel
theorem dX11_upLoop_61 : decode cX11_upLoop 61 = .ok (.iload_n 2, 1) := by decide +kernel
theorem dX11_upLoop_62 : decode cX11_upLoop 62 = .ok (.invokevirtual 218, 3) := by decide +kernel
theorem dX11_upLoop_65 : decode cX11_upLoop 65 = .ok (.ifCond .ne 16, 3) := by decide +kernel
theorem dX11_upLoop_68 : decode cX11_upLoop 68 = .ok (.aload_n 0, 1) := by decide +kernel
theorem dX11_upLoop_69 : decode cX11_upLoop 69 = .ok (.dup, 1) := by decide +kernel
theorem dX11_upLoop_70 : decode cX11_upLoop 70 = .ok (.getfield 174, 3) := by decide +kernel
theorem dX11_upLoop_73 : decode cX11_upLoop 73 = .ok (.iconst 1, 1) := by decide +kernel
theorem dX11_upLoop_74 : decode cX11_upLoop 74 = .ok (.isub, 1) := by decide +kernel
theorem dX11_upLoop_75 : decode cX11_upLoop 75 = .ok (.putfield 174, 3) := by decide +kernel
theorem dX11_upLoop_78 : decode cX11_upLoop 78 = .ok (.goto 47, 3) := by decide +kernel
theorem dX11_upLoop_81 : decode cX11_upLoop 81 = .ok (.aload_n 0, 1) := by decide +kernel
theorem dX11_upLoop_82 : decode cX11_upLoop 82 = .ok (.getfield 128, 3) := by decide +kernel
theorem dX11_upLoop_85 : decode cX11_upLoop 85 = .ok (.ifCond .ne 22, 3) := by decide +kernel
theorem dX11_upLoop_88 : decode cX11_upLoop 88 = .ok (.aload_n 0, 1) := by decide +kernel
theorem dX11_upLoop_89 : decode cX11_upLoop 89 = .ok (.dup, 1) := by decide +kernel
theorem dX11_upLoop_90 : decode cX11_upLoop 90 = .ok (.getfield 174, 3) := by decide +kernel
theorem dX11_upLoop_93 : decode cX11_upLoop 93 = .ok (.iconst 1, 1) := by decide +kernel
theorem dX11_upLoop_94 : decode cX11_upLoop 94 = .ok (.isub, 1) := by decide +kernel
theorem dX11_upLoop_95 : decode cX11_upLoop 95 = .ok (.putfield 174, 3) := by decide +kernel
theorem dX11_upLoop_98 : decode cX11_upLoop 98 = .ok (.aload_n 0, 1) := by decide +kernel
theorem dX11_upLoop_99 : decode cX11_upLoop 99 = .ok (.iconst 1, 1) := by decide +kernel
theorem dX11_upLoop_100 : decode cX11_upLoop 100 = .ok (.iconst 0, 1) := by decide +kernel
theorem dX11_upLoop_101 : decode cX11_upLoop 101 = .ok (.invokevirtual 168, 3) := by decide +kernel
theorem dX11_upLoop_104 : decode cX11_upLoop 104 = .ok (.goto 21, 3) := by decide +kernel
theorem dX11_upLoop_107 : decode cX11_upLoop 107 = .ok (.aload_n 0, 1) := by decide +kernel
theorem dX11_upLoop_108 : decode cX11_upLoop 108 = .ok (.getfield 73, 3) := by decide +kernel
theorem dX11_upLoop_111 : decode cX11_upLoop 111 = .ok (.iload_n 1, 1) := by decide +kernel
theorem dX11_upLoop_112 : decode cX11_upLoop 112 = .ok (.iconst 1, 1) := by decide +kernel
theorem dX11_upLoop_113 : decode cX11_upLoop 113 = .ok (.iastore, 1) := by decide +kernel
theorem dX11_upLoop_114 : decode cX11_upLoop 114 = .ok (.aload_n 0, 1) := by decide +kernel
theorem dX11_upLoop_115 : decode cX11_upLoop 115 = .ok (.aload_n 0, 1) := by decide +kernel
theorem dX11_upLoop_116 : decode cX11_upLoop 116 = .ok (.getfield 16, 3) := by decide +kernel
theorem dX11_upLoop_119 : decode cX11_upLoop 119 = .ok (.iload_n 2, 1) := by decide +kernel
theorem dX11_upLoop_120 : decode cX11_upLoop 120 = .ok (.iaload, 1) := by decide +kernel
theorem dX11_upLoop_121 : decode cX11_upLoop 121 = .ok (.iload_n 3, 1) := by decide +kernel
theorem dX11_upLoop_122 : decode cX11_upLoop 122 = .ok (.invokevirtual 177, 3) := by decide +kernel
theorem dX11_upLoop_125 : decode cX11_upLoop 125 = .ok (.return_, 1) := by decide +kernel
theorem dX11_upCall_0 : decode cX11_upCall 0 = .ok (.iload_n 3, 1) := by decide +kernel
theorem dX11_upCall_1 : decode cX11_upCall 1 = .ok (.iconst 1, 1) := by decide +kernel
theorem dX11_upCall_2 : decode cX11_upCall 2 = .ok (.if_icmp .ne 26, 3) := by decide +kernel
theorem dX11_upCall_5 : decode cX11_upCall 5 = .ok (.aload_n 0, 1) := by decide +kernel
theorem dX11_upCall_6 : decode cX11_upCall 6 = .ok (.dup, 1) := by decide +kernel
theorem dX11_upCall_7 : decode cX11_upCall 7 = .ok (.getfield 174, 3) := by decide +kernel
theorem dX11_upCall_10 : decode cX11_upCall 10 = .ok (.iconst 1, 1) := by decide +kernel
theorem dX11_upCall_11 : decode cX11_upCall 11 = .ok (.isub, 1) := by decide +kernel
theorem dX11_upCall_12 : decode cX11_upCall 12 = .ok (.putfield 174, 3) := by decide +kernel
theorem dX11_upCall_15 : decode cX11_upCall 15 = .ok (.aload_n 0, 1) := by decide +kernel
theorem dX11_upCall_16 : decode cX11_upCall 16 = .ok (.dup, 1) := by decide +kernel
theorem dX11_upCall_17 : decode cX11_upCall 17 = .ok (.getfield 236, 3) := by decide +kernel
theorem dX11_upCall_20 : decode cX11_upCall 20 = .ok (.iconst 1, 1) := by decide +kernel
theorem dX11_upCall_21 : decode cX11_upCall 21 = .ok (.isub, 1) := by decide +kernel
theorem dX11_upCall_22 : decode cX11_upCall 22 = .ok (.putfield 236, 3) := by decide +kernel
theorem dX11_upCall_25 : decode cX11_upCall 25 = .ok (.goto 117, 3) := by decide +kernel
theorem dX11_upCall_28 : decode cX11_upCall 28 = .ok (.aload_n 0, 1) := by decide +kernel
theorem dX11_upCall_29 : decode cX11_upCall 29 = .ok (.aload_n 0, 1) := by decide +kernel
theorem dX11_upCall_30 : decode cX11_upCall 30 = .ok (.getfield 13, 3) := by decide +kernel
theorem dX11_upCall_33 : decode cX11_upCall 33 = .ok (.iload_n 2, 1) := by decide +kernel
theorem dX11_upCall_34 : decode cX11_upCall 34 = .ok (.iaload, 1) := by decide +kernel
theorem dX11_upCall_35 : decode cX11_upCall 35 = .ok (.invokevirtual 118, 3) := by decide +kernel
theorem dX11_upCall_38 : decode cX11_upCall 38 = .ok (.ifCond .eq 22, 3) := by decide +kernel
theorem dX11_upCall_41 : decode cX11_upCall 41 = .ok (.aload_n 0, 1) := by decide +kernel
theorem dX11_upCall_42 : decode cX11_upCall 42 = .ok (.dup, 1) := by decide +kernel
theorem dX11_upCall_43 : decode cX11_upCall 43 = .ok (.getfield 174, 3) := by decide +kernel
theorem dX11_upCall_46 : decode cX11_upCall 46 = .ok (.iconst 1, 1) := by decide +kernel
theorem dX11_upCall_47 : decode cX11_upCall 47 = .ok (.isub, 1) := by decide +kernel
theorem dX11_upCall_48 : decode cX11_upCall 48 = .ok (.putfield 174, 3) := by decide +kernel
theorem dX11_upCall_51 : decode cX11_upCall 51 = .ok (.aload_n 0, 1) := by decide +kernel
theorem dX11_upCall_52 : decode cX11_upCall 52 = .ok (.iconst 1, 1) := by decide +kernel
theorem dX11_upCall_53 : decode cX11_upCall 53 = .ok (.iconst 0, 1) := by decide +kernel
theorem dX11_upCall_54 : decode cX11_upCall 54 = .ok (.invokevirtual 168, 3) := by decide +kernel
theorem dX11_upCall_57 : decode cX11_upCall 57 = .ok (.goto 85, 3) := by decide +kernel
theorem dX11_upCall_60 : decode cX11_upCall 60 = .ok (.aload_n 0, 1) := by decide +kernel
theorem dX11_upCall_61 : decode cX11_upCall 61 = .ok (.getfield 236, 3) := by decide +kernel
theorem dX11_upCall_64 : decode cX11_upCall 64 = .ok (.bipush 8, 2) := by decide +kernel
theorem dX11_upCall_66 : decode cX11_upCall 66 = .ok (.if_icmp .ne 13, 3) := by decide +kernel
theorem dX11_upCall_69 : decode cX11_upCall 69 = .ok (.aload_n 0, 1) := by decide +kernel
theorem dX11_upCall_70 : decode cX11_upCall 70 = .ok (.bipush 11, 2) := by decide +kernel
theorem dX11_upCall_72 : decode cX11_upCall 72 = .ok (.iload_n 2, 1) := by decide +kernel
theorem dX11_upCall_73 : decode cX11_upCall 73 = .ok (.invokevirtual 149, 3) := by decide +kernel
theorem dX11_upCall_76 : decode cX11_upCall 76 = .ok (.goto 66, 3) := by decide +kernel
theorem dX11_upCall_79 : decode cX11_upCall 79 = .ok (.aload_n 0, 1) := by decide +kernel
theorem dX11_upCall_80 : decode cX11_upCall 80 = .ok (.dup, 1) := by decide +kernel
theorem dX11_upCall_81 : decode cX11_upCall 81 = .ok (.getfield 236, 3) := by decide +kernel
theorem dX11_upCall_84 : decode cX11_upCall 84 = .ok (.iconst 1, 1) := by decide +kernel
theorem dX11_upCall_85 : decode cX11_upCall 85 = .ok (.iadd, 1) := by decide +kernel
theorem dX11_upCall_86 : decode cX11_upCall 86 = .ok (.putfield 236, 3) := by decide +kernel
theorem dX11_upCall_89 : decode cX11_upCall 89 = .ok (.aload_n 0, 1) := by decide +kernel
theorem dX11_upCall_90 : decode cX11_upCall 90 = .ok (.invokevirtual 239, 3) := by decide +kernel
theorem dX11_upCall_93 : decode cX11_upCall 93 = .ok (.istore 4, 2) := by decide +kernel
theorem dX11_upCall_95 : decode cX11_upCall 95 = .ok (.aload_n 0, 1) := by decide +kernel
theorem dX11_upCall_96 : decode cX11_upCall 96 = .ok (.getfield 46, 3) := by decide +kernel
theorem dX11_upCall_99 : decode cX11_upCall 99 = .ok (.bipush 8, 2) := by decide +kernel
theorem dX11_upCall_101 : decode cX11_upCall 101 = .ok (.iload 4, 2) := by decide +kernel
theorem dX11_upCall_103 : decode cX11_upCall 103 = .ok (.imul, 1) := by decide +kernel
theorem dX11_upCall_104 : decode cX11_upCall 104 = .ok (.aload_n 0, 1) := by decide +kernel
theorem dX11_upCall_105 : decode cX11_upCall 105 = .ok (.getfield 125, 3) := by decide +kernel
theorem dX11_upCall_108 : decode cX11_upCall 108 = .ok (.iastore, 1) := by decide +kernel
theorem dX11_upCall_109 : decode cX11_upCall 109 = .ok (.aload_n 0, 1) := by decide +kernel
theorem dX11_upCall_110 : decode cX11_upCall 110 = .ok (.getfield 49, 3) := by decide +kernel
theorem dX11_upCall_113 : decode cX11_upCall 113 = .ok (.bipush 8, 2) := by decide +kernel
theorem dX11_upCall_115 : decode cX11_upCall 115 = .ok (.iload 4, 2) := by decide +kernel
theorem dX11_upCall_117 : decode cX11_upCall 117 = .ok (.imul, 1) := by decide +kernel
theorem dX11_upCall_118 : decode cX11_upCall 118 = .ok (.aload_n 0, 1) := by decide +kernel
theorem dX11_upCall_119 : decode cX11_upCall 119 = .ok (.getfield 128, 3) := by decide +kernel
theorem dX11_upCall_122 : decode cX11_upCall 122 = .ok (.iastore, 1) := by decide +kernel
theorem dX11_upCall_123 : decode cX11_upCall 123 = .ok (.aload_n 0, 1) := by decide +kernel
theorem dX11_upCall_124 : decode cX11_upCall 124 = .ok (.getfield 73, 3) := by decide +kernel
theorem dX11_upCall_127 : decode cX11_upCall 127 = .ok (.iload_n 1, 1) := by decide +kernel
theorem dX11_upCall_128 : decode cX11_upCall 128 = .ok (.iconst 1, 1) := by decide +kernel
theorem dX11_upCall_129 : decode cX11_upCall 129 = .ok (.iastore, 1) := by decide +kernel
theorem dX11_upCall_130 : decode cX11_upCall 130 = .ok (.aload_n 0, 1) := by decide +kernel
theorem dX11_upCall_131 : decode cX11_upCall 131 = .ok (.aload_n 0, 1) := by decide +kernel
theorem dX11_upCall_132 : decode cX11_upCall 132 = .ok (.getfield 13, 3) := by decide +kernel
theorem dX11_upCall_135 : decode cX11_upCall 135 = .ok (.iload_n 2, 1) := by decide +kernel
theorem dX11_upCall_136 : decode cX11_upCall 136 = .ok (.iaload, 1) := by decide +kernel
theorem dX11_upCall_137 : decode cX11_upCall 137 = .ok (.iload 4, 2) := by decide +kernel
theorem dX11_upCall_139 : decode cX11_upCall 139 = .ok (.invokevirtual 177, 3) := by decide +kernel
theorem dX11_upCall_142 : decode cX11_upCall 142 = .ok (.return_, 1) := by decide +kernel
theorem dX11_upWork_0 : decode cX11_upWork 0 = .ok (.iload_n 3, 1) := by decide +kernel
theorem dX11_upWork_1 : decode cX11_upWork 1 = .ok (.iconst 1, 1) := by decide +kernel
theorem dX11_upWork_2 : decode cX11_upWork 2 = .ok (.if_icmp .ne 52, 3) := by decide +kernel
theorem dX11_upWork_5 : decode cX11_upWork 5 = .ok (.aload_n 0, 1) := by decide +kernel
theorem dX11_upWork_6 : decode cX11_upWork 6 = .ok (.getfield 82, 3) := by decide +kernel
theorem dX11_upWork_9 : decode cX11_upWork 9 = .ok (.iload_n 1, 1) := by decide +kernel
theorem dX11_upWork_10 : decode cX11_upWork 10 = .ok (.iaload, 1) := by decide +kernel
theorem dX11_upWork_11 : decode cX11_upWork 11 = .ok (.istore 4, 2) := by decide +kernel
theorem dX11_upWork_13 : decode cX11_upWork 13 = .ok (.aload_n 0, 1) := by decide +kernel
theorem dX11_upWork_14 : decode cX11_upWork 14 = .ok (.getfield 37, 3) := by decide +kernel
theorem dX11_upWork_17 : decode cX11_upWork 17 = .ok (.iload 4, 2) := by decide +kernel
theorem dX11_upWork_19 : decode cX11_upWork 19 = .ok (.iconst 2, 1) := by decide +kernel
theorem dX11_upWork_20 : decode cX11_upWork 20 = .ok (.iastore, 1) := by decide +kernel
theorem dX11_upWork_21 : decode cX11_upWork 21 = .ok (.aload_n 0, 1) := by decide +kernel
theorem dX11_upWork_22 : decode cX11_upWork 22 = .ok (.getfield 40, 3) := by decide +kernel
theorem dX11_upWork_25 : decode cX11_upWork 25 = .ok (.iload 4, 2) := by decide +kernel
theorem dX11_upWork_27 : decode cX11_upWork 27 = .ok (.aload_n 0, 1) := by decide +kernel
theorem dX11_upWork_28 : decode cX11_upWork 28 = .ok (.getfield 125, 3) := by decide +kernel
theorem dX11_upWork_31 : decode cX11_upWork 31 = .ok (.iastore, 1) := by decide +kernel
theorem dX11_upWork_32 : decode cX11_upWork 32 = .ok (.aload_n 0, 1) := by decide +kernel
theorem dX11_upWork_33 : decode cX11_upWork 33 = .ok (.getfield 43, 3) := by decide +kernel
theorem dX11_upWork_36 : decode cX11_upWork 36 = .ok (.iload 4, 2) := by decide +kernel
theorem dX11_upWork_38 : decode cX11_upWork 38 = .ok (.aload_n 0, 1) := by decide +kernel
theorem dX11_upWork_39 : decode cX11_upWork 39 = .ok (.getfield 128, 3) := by decide +kernel
theorem dX11_upWork_42 : decode cX11_upWork 42 = .ok (.iastore, 1) := by decide +kernel
theorem dX11_upWork_43 : decode cX11_upWork 43 = .ok (.aload_n 0, 1) := by decide +kernel
theorem dX11_upWork_44 : decode cX11_upWork 44 = .ok (.dup, 1) := by decide +kernel
theorem dX11_upWork_45 : decode cX11_upWork 45 = .ok (.getfield 174, 3) := by decide +kernel
theorem dX11_upWork_48 : decode cX11_upWork 48 = .ok (.iconst 1, 1) := by decide +kernel
theorem dX11_upWork_49 : decode cX11_upWork 49 = .ok (.isub, 1) := by decide +kernel
theorem dX11_upWork_50 : decode cX11_upWork 50 = .ok (.putfield 174, 3) := by decide +kernel
theorem dX11_upWork_53 : decode cX11_upWork 53 = .ok (.return_, 1) := by decide +kernel
theorem dX11_upWork_54 : decode cX11_upWork 54 = .ok (.aload_n 0, 1) := by decide +kernel
theorem dX11_upWork_55 : decode cX11_upWork 55 = .ok (.getfield 125, 3) := by decide +kernel
theorem dX11_upWork_58 : decode cX11_upWork 58 = .ok (.bipush 7, 2) := by decide +kernel
theorem dX11_upWork_60 : decode cX11_upWork 60 = .ok (.if_icmp .eq 32, 3) := by decide +kernel
theorem dX11_upWork_63 : decode cX11_upWork 63 = .ok (.aload_n 0, 1) := by decide +kernel
theorem dX11_upWork_64 : decode cX11_upWork 64 = .ok (.dup, 1) := by decide +kernel
theorem dX11_upWork_65 : decode cX11_upWork 65 = .ok (.getfield 174, 3) := by decide +kernel
theorem dX11_upWork_68 : decode cX11_upWork 68 = .ok (.iconst 1, 1) := by decide +kernel
theorem dX11_upWork_69 : decode cX11_upWork 69 = .ok (.isub, 1) := by decide +kernel
theorem dX11_upWork_70 : decode cX11_upWork 70 = .ok (.putfield 174, 3) := by decide +kernel
theorem dX11_upWork_73 : decode cX11_upWork 73 = .ok (.aload_n 0, 1) := by decide +kernel
theorem dX11_upWork_74 : decode cX11_upWork 74 = .ok (.aload_n 0, 1) := by decide +kernel
theorem dX11_upWork_75 : decode cX11_upWork 75 = .ok (.getfield 125, 3) := by decide +kernel
theorem dX11_upWork_78 : decode cX11_upWork 78 = .ok (.iconst 1, 1) := by decide +kernel
theorem dX11_upWork_79 : decode cX11_upWork 79 = .ok (.if_icmp .ne 7, 3) := by decide +kernel
theorem dX11_upWork_82 : decode cX11_upWork 82 = .ok (.iconst 1, 1) := by decide +kernel
theorem dX11_upWork_83 : decode cX11_upWork 83 = .ok (.goto 4, 3) := by decide +kernel
theorem dX11_upWork_86 : decode cX11_upWork 86 = .ok (.iconst 4, 1) := by decide +kernel
theorem dX11_upWork_87 : decode cX11_upWork 87 = .ok (.iload_n 2, 1) := by decide +kernel
theorem dX11_upWork_88 : decode cX11_upWork 88 = .ok (.invokevirtual 243, 3) := by decide +kernel
theorem dX11_upWork_91 : decode cX11_upWork 91 = .ok (.return_, 1) := by decide +kernel
theorem dX11_upWork_92 : decode cX11_upWork 92 = .ok (.aload_n 0, 1) := by decide +kernel
theorem dX11_upWork_93 : decode cX11_upWork 93 = .ok (.getfield 128, 3) := by decide +kernel
theorem dX11_upWork_96 : decode cX11_upWork 96 = .ok (.istore 4, 2) := by decide +kernel
theorem dX11_upWork_98 : decode cX11_upWork 98 = .ok (.aload_n 0, 1) := by decide +kernel
theorem dX11_upWork_99 : decode cX11_upWork 99 = .ok (.getfield 37, 3) := by decide +kernel
theorem dX11_upWork_102 : decode cX11_upWork 102 = .ok (.iload 4, 2) := by decide +kernel
theorem dX11_upWork_104 : decode cX11_upWork 104 = .ok (.iaload, 1) := by decide +kernel
theorem dX11_upWork_105 : decode cX11_upWork 105 = .ok (.ifCond .ne 45, 3) := by decide +kernel
theorem dX11_upWork_108 : decode cX11_upWork 108 = .ok (.aload_n 0, 1) := by decide +kernel
theorem dX11_upWork_109 : decode cX11_upWork 109 = .ok (.getfield 37, 3) := by decide +kernel
theorem dX11_upWork_112 : decode cX11_upWork 112 = .ok (.iload 4, 2) := by decide +kernel
theorem dX11_upWork_114 : decode cX11_upWork 114 = .ok (.iconst 1, 1) := by decide +kernel
theorem dX11_upWork_115 : decode cX11_upWork 115 = .ok (.iastore, 1) := by decide +kernel
theorem dX11_upWork_116 : decode cX11_upWork 116 = .ok (.aload_n 0, 1) := by decide +kernel
theorem dX11_upWork_117 : decode cX11_upWork 117 = .ok (.getfield 82, 3) := by decide +kernel
theorem dX11_upWork_120 : decode cX11_upWork 120 = .ok (.iload_n 1, 1) := by decide +kernel
theorem dX11_upWork_121 : decode cX11_upWork 121 = .ok (.iload 4, 2) := by decide +kernel
theorem dX11_upWork_123 : decode cX11_upWork 123 = .ok (.iastore, 1) := by decide +kernel
theorem dX11_upWork_124 : decode cX11_upWork 124 = .ok (.aload_n 0, 1) := by decide +kernel
theorem dX11_upWork_125 : decode cX11_upWork 125 = .ok (.getfield 73, 3) := by decide +kernel
theorem dX11_upWork_128 : decode cX11_upWork 128 = .ok (.iload_n 1, 1) := by decide +kernel
theorem dX11_upWork_129 : decode cX11_upWork 129 = .ok (.iconst 1, 1) := by decide +kernel
theorem dX11_upWork_130 : decode cX11_upWork 130 = .ok (.iastore, 1) := by decide +kernel
theorem dX11_upWork_131 : decode cX11_upWork 131 = .ok (.aload_n 0, 1) := by decide +kernel
theorem dX11_upWork_132 : decode cX11_upWork 132 = .ok (.aload_n 0, 1) := by decide +kernel
theorem dX11_upWork_133 : decode cX11_upWork 133 = .ok (.getfield 31, 3) := by decide +kernel
theorem dX11_upWork_136 : decode cX11_upWork 136 = .ok (.iload 4, 2) := by decide +kernel
theorem dX11_upWork_138 : decode cX11_upWork 138 = .ok (.iaload, 1) := by decide +kernel
theorem dX11_upWork_139 : decode cX11_upWork 139 = .ok (.aload_n 0, 1) := by decide +kernel
theorem dX11_upWork_140 : decode cX11_upWork 140 = .ok (.getfield 34, 3) := by decide +kernel
theorem dX11_upWork_143 : decode cX11_upWork 143 = .ok (.iload 4, 2) := by decide +kernel
theorem dX11_upWork_145 : decode cX11_upWork 145 = .ok (.iaload, 1) := by decide +kernel
theorem dX11_upWork_146 : decode cX11_upWork 146 = .ok (.invokevirtual 177, 3) := by decide +kernel
theorem dX11_upWork_149 : decode cX11_upWork 149 = .ok (.return_, 1) := by decide +kernel
theorem dX11_upWork_150 : decode cX11_upWork 150 = .ok (.aload_n 0, 1) := by decide +kernel
theorem dX11_upWork_151 : decode cX11_upWork 151 = .ok (.dup, 1) := by decide +kernel
theorem dX11_upWork_152 : decode cX11_upWork 152 = .ok (.getfield 174, 3) := by decide +kernel
theorem dX11_upWork_155 : decode cX11_upWork 155 = .ok (.iconst 1, 1) := by decide +kernel
theorem dX11_upWork_156 : decode cX11_upWork 156 = .ok (.isub, 1) := by decide +kernel
theorem dX11_upWork_157 : decode cX11_upWork 157 = .ok (.putfield 174, 3) := by decide +kernel
theorem dX11_upWork_160 : decode cX11_upWork 160 = .ok (.aload_n 0, 1) := by decide +kernel
theorem dX11_upWork_161 : decode cX11_upWork 161 = .ok (.getfield 37, 3) := by decide +kernel
theorem dX11_upWork_164 : decode cX11_upWork 164 = .ok (.iload 4, 2) := by decide +kernel
theorem dX11_upWork_166 : decode cX11_upWork 166 = .ok (.iaload, 1) := by decide +kernel
theorem dX11_upWork_167 : decode cX11_upWork 167 = .ok (.iconst 1, 1) := by decide +kernel
theorem dX11_upWork_168 : decode cX11_upWork 168 = .ok (.if_icmp .ne 13, 3) := by decide +kernel
theorem dX11_upWork_171 : decode cX11_upWork 171 = .ok (.aload_n 0, 1) := by decide +kernel
theorem dX11_upWork_172 : decode cX11_upWork 172 = .ok (.bipush 8, 2) := by decide +kernel
theorem dX11_upWork_174 : decode cX11_upWork 174 = .ok (.iload_n 2, 1) := by decide +kernel
theorem dX11_upWork_175 : decode cX11_upWork 175 = .ok (.invokevirtual 243, 3) := by decide +kernel
theorem dX11_upWork_178 : decode cX11_upWork 178 = .ok (.goto 54, 3) := by decide +kernel
theorem dX11_upWork_181 : decode cX11_upWork 181 = .ok (.aload_n 0, 1) := by decide +kernel
theorem dX11_upWork_182 : decode cX11_upWork 182 = .ok (.getfield 37, 3) := by decide +kernel
theorem dX11_upWork_185 : decode cX11_upWork 185 = .ok (.iload 4, 2) := by decide +kernel
theorem dX11_upWork_187 : decode cX11_upWork 187 = .ok (.iaload, 1) := by decide +kernel
theorem dX11_upWork_188 : decode cX11_upWork 188 = .ok (.iconst 2, 1) := by decide +kernel
theorem dX11_upWork_189 : decode cX11_upWork 189 = .ok (.if_icmp .ne 24, 3) := by decide +kernel
theorem dX11_upWork_192 : decode cX11_upWork 192 = .ok (.aload_n 0, 1) := by decide +kernel
theorem dX11_upWork_193 : decode cX11_upWork 193 = .ok (.aload_n 0, 1) := by decide +kernel
theorem dX11_upWork_194 : decode cX11_upWork 194 = .ok (.getfield 40, 3) := by decide +kernel
theorem dX11_upWork_197 : decode cX11_upWork 197 = .ok (.iload 4, 2) := by decide +kernel
theorem dX11_upWork_199 : decode cX11_upWork 199 = .ok (.iaload, 1) := by decide +kernel
theorem dX11_upWork_200 : decode cX11_upWork 200 = .ok (.aload_n 0, 1) := by decide +kernel
theorem dX11_upWork_201 : decode cX11_upWork 201 = .ok (.getfield 43, 3) := by decide +kernel
theorem dX11_upWork_204 : decode cX11_upWork 204 = .ok (.iload 4, 2) := by decide +kernel
theorem dX11_upWork_206 : decode cX11_upWork 206 = .ok (.iaload, 1) := by decide +kernel
theorem dX11_upWork_207 : decode cX11_upWork 207 = .ok (.invokevirtual 168, 3) := by decide +kernel
theorem dX11_upWork_210 : decode cX11_upWork 210 = .ok (.goto 22, 3) := by decide +kernel
theorem dX11_upWork_213 : decode cX11_upWork 213 = .ok (.aload_n 0, 1) := by decide +kernel
theorem dX11_upWork_214 : decode cX11_upWork 214 = .ok (.aload_n 0, 1) := by decide +kernel
theorem dX11_upWork_215 : decode cX11_upWork 215 = .ok (.getfield 40, 3) := by decide +kernel
theorem dX11_upWork_218 : decode cX11_upWork 218 = .ok (.iload 4, 2) := by decide +kernel
theorem dX11_upWork_220 : decode cX11_upWork 220 = .ok (.iaload, 1) := by decide +kernel
theorem dX11_upWork_221 : decode cX11_upWork 221 = .ok (.aload_n 0, 1) := by decide +kernel
theorem dX11_upWork_222 : decode cX11_upWork 222 = .ok (.getfield 43, 3) := by decide +kernel
theorem dX11_upWork_225 : decode cX11_upWork 225 = .ok (.iload 4, 2) := by decide +kernel
theorem dX11_upWork_227 : decode cX11_upWork 227 = .ok (.iaload, 1) := by decide +kernel
theorem dX11_upWork_228 : decode cX11_upWork 228 = .ok (.iload_n 2, 1) := by decide +kernel
theorem dX11_upWork_229 : decode cX11_upWork 229 = .ok (.invokevirtual 180, 3) := by decide +kernel
theorem dX11_upWork_232 : decode cX11_upWork 232 = .ok (.return_, 1) := by decide +kernel
theorem dX11_reckon_0 : decode cX11_reckon 0 = .ok (.iload_n 2, 1) := by decide +kernel
theorem dX11_reckon_1 : decode cX11_reckon 1 = .ok (.bipush 9, 2) := by decide +kernel
theorem dX11_reckon_3 : decode cX11_reckon 3 = .ok (.if_icmp .ne 48, 3) := by decide +kernel
theorem dX11_reckon_6 : decode cX11_reckon 6 = .ok (.iload_n 3, 1) := by decide +kernel
theorem dX11_reckon_7 : decode cX11_reckon 7 = .ok (.aload_n 0, 1) := by decide +kernel
theorem dX11_reckon_8 : decode cX11_reckon 8 = .ok (.getfield 125, 3) := by decide +kernel
theorem dX11_reckon_11 : decode cX11_reckon 11 = .ok (.if_icmp .ne 21, 3) := by decide +kernel
theorem dX11_reckon_14 : decode cX11_reckon 14 = .ok (.iload_n 3, 1) := by decide +kernel
theorem dX11_reckon_15 : decode cX11_reckon 15 = .ok (.iconst 1, 1) := by decide +kernel
theorem dX11_reckon_16 : decode cX11_reckon 16 = .ok (.if_icmp .eq 12, 3) := by decide +kernel
theorem dX11_reckon_19 : decode cX11_reckon 19 = .ok (.iload 4, 2) := by decide +kernel
theorem dX11_reckon_21 : decode cX11_reckon 21 = .ok (.aload_n 0, 1) := by decide +kernel
theorem dX11_reckon_22 : decode cX11_reckon 22 = .ok (.getfield 128, 3) := by decide +kernel
theorem dX11_reckon_25 : decode cX11_reckon 25 = .ok (.if_icmp .ne 7, 3) := by decide +kernel
theorem dX11_reckon_28 : decode cX11_reckon 28 = .ok (.iconst 1, 1) := by decide +kernel
theorem dX11_reckon_29 : decode cX11_reckon 29 = .ok (.goto 4, 3) := by decide +kernel
theorem dX11_reckon_32 : decode cX11_reckon 32 = .ok (.iconst 0, 1) := by decide +kernel
theorem dX11_reckon_33 : decode cX11_reckon 33 = .ok (.istore 5, 2) := by decide +kernel
theorem dX11_reckon_35 : decode cX11_reckon 35 = .ok (.aload_n 0, 1) := by decide +kernel
theorem dX11_reckon_36 : decode cX11_reckon 36 = .ok (.iconst 0, 1) := by decide +kernel
theorem dX11_reckon_37 : decode cX11_reckon 37 = .ok (.iload 5, 2) := by decide +kernel
theorem dX11_reckon_39 : decode cX11_reckon 39 = .ok (.ifCond .eq 7, 3) := by decide +kernel
theorem dX11_reckon_42 : decode cX11_reckon 42 = .ok (.iconst 1, 1) := by decide +kernel
theorem dX11_reckon_43 : decode cX11_reckon 43 = .ok (.goto 4, 3) := by decide +kernel
theorem dX11_reckon_46 : decode cX11_reckon 46 = .ok (.iconst 0, 1) := by decide +kernel
theorem dX11_reckon_47 : decode cX11_reckon 47 = .ok (.invokevirtual 168, 3) := by decide +kernel
theorem dX11_reckon_50 : decode cX11_reckon 50 = .ok (.return_, 1) := by decide +kernel
theorem dX11_reckon_51 : decode cX11_reckon 51 = .ok (.aload_n 0, 1) := by decide +kernel
theorem dX11_reckon_52 : decode cX11_reckon 52 = .ok (.iload_n 3, 1) := by decide +kernel
theorem dX11_reckon_53 : decode cX11_reckon 53 = .ok (.iload_n 1, 1) := by decide +kernel
theorem dX11_reckon_54 : decode cX11_reckon 54 = .ok (.invokevirtual 218, 3) := by decide +kernel
theorem dX11_reckon_57 : decode cX11_reckon 57 = .ok (.ifCond .eq 15, 3) := by decide +kernel
theorem dX11_reckon_60 : decode cX11_reckon 60 = .ok (.aload_n 0, 1) := by decide +kernel
theorem dX11_reckon_61 : decode cX11_reckon 61 = .ok (.aload_n 0, 1) := by decide +kernel
theorem dX11_reckon_62 : decode cX11_reckon 62 = .ok (.getfield 125, 3) := by decide +kernel
theorem dX11_reckon_65 : decode cX11_reckon 65 = .ok (.iload_n 1, 1) := by decide +kernel
theorem dX11_reckon_66 : decode cX11_reckon 66 = .ok (.invokevirtual 218, 3) := by decide +kernel
theorem dX11_reckon_69 : decode cX11_reckon 69 = .ok (.ifCond .ne 4, 3) := by decide +kernel
theorem dX11_reckon_72 : decode cX11_reckon 72 = .ok (.return_, 1) := by decide +kernel
theorem dX11_reckon_73 : decode cX11_reckon 73 = .ok (.aload_n 0, 1) := by decide +kernel
theorem dX11_reckon_74 : decode cX11_reckon 74 = .ok (.getfield 128, 3) := by decide +kernel
theorem dX11_reckon_77 : decode cX11_reckon 77 = .ok (.istore 5, 2) := by decide +kernel
theorem dX11_reckon_79 : decode cX11_reckon 79 = .ok (.iload_n 2, 1) := by decide +kernel
theorem dX11_reckon_80 : decode cX11_reckon 80 = .ok (.bipush 7, 2) := by decide +kernel
theorem dX11_reckon_82 : decode cX11_reckon 82 = .ok (.if_icmp .ne 18, 3) := by decide +kernel
theorem dX11_reckon_85 : decode cX11_reckon 85 = .ok (.iload 5, 2) := by decide +kernel
theorem dX11_reckon_87 : decode cX11_reckon 87 = .ok (.ifCond .ne 13, 3) := by decide +kernel
theorem dX11_reckon_90 : decode cX11_reckon 90 = .ok (.aload_n 0, 1) := by decide +kernel
theorem dX11_reckon_91 : decode cX11_reckon 91 = .ok (.bipush 6, 2) := by decide +kernel
theorem dX11_reckon_93 : decode cX11_reckon 93 = .ok (.iload_n 1, 1) := by decide +kernel
theorem dX11_reckon_94 : decode cX11_reckon 94 = .ok (.invokevirtual 243, 3) := by decide +kernel
theorem dX11_reckon_97 : decode cX11_reckon 97 = .ok (.goto 78, 3) := by decide +kernel
theorem dX11_reckon_100 : decode cX11_reckon 100 = .ok (.iload_n 2, 1) := by decide +kernel
theorem dX11_reckon_101 : decode cX11_reckon 101 = .ok (.bipush 7, 2) := by decide +kernel
theorem dX11_reckon_103 : decode cX11_reckon 103 = .ok (.if_icmp .ne 28, 3) := by decide +kernel
theorem dX11_reckon_106 : decode cX11_reckon 106 = .ok (.aload_n 0, 1) := by decide +kernel
theorem dX11_reckon_107 : decode cX11_reckon 107 = .ok (.iconst 0, 1) := by decide +kernel
theorem dX11_reckon_108 : decode cX11_reckon 108 = .ok (.iload 5, 2) := by decide +kernel
theorem dX11_reckon_110 : decode cX11_reckon 110 = .ok (.iconst (-1), 1) := by decide +kernel
theorem dX11_reckon_111 : decode cX11_reckon 111 = .ok (.if_icmp .ne 9, 3) := by decide +kernel
theorem dX11_reckon_114 : decode cX11_reckon 114 = .ok (.iload 4, 2) := by decide +kernel
theorem dX11_reckon_116 : decode cX11_reckon 116 = .ok (.ineg, 1) := by decide +kernel
theorem dX11_reckon_117 : decode cX11_reckon 117 = .ok (.goto 8, 3) := by decide +kernel
theorem dX11_reckon_120 : decode cX11_reckon 120 = .ok (.iload 4, 2) := by decide +kernel
theorem dX11_reckon_122 : decode cX11_reckon 122 = .ok (.iload 5, 2) := by decide +kernel
theorem dX11_reckon_124 : decode cX11_reckon 124 = .ok (.idiv, 1) := by decide +kernel
theorem dX11_reckon_125 : decode cX11_reckon 125 = .ok (.invokevirtual 168, 3) := by decide +kernel
theorem dX11_reckon_128 : decode cX11_reckon 128 = .ok (.goto 47, 3) := by decide +kernel
theorem dX11_reckon_131 : decode cX11_reckon 131 = .ok (.aload_n 0, 1) := by decide +kernel
theorem dX11_reckon_132 : decode cX11_reckon 132 = .ok (.iconst 0, 1) := by decide +kernel
theorem dX11_reckon_133 : decode cX11_reckon 133 = .ok (.iload_n 2, 1) := by decide +kernel
theorem dX11_reckon_134 : decode cX11_reckon 134 = .ok (.iconst 5, 1) := by decide +kernel
theorem dX11_reckon_135 : decode cX11_reckon 135 = .ok (.if_icmp .ne 11, 3) := by decide +kernel
theorem dX11_reckon_138 : decode cX11_reckon 138 = .ok (.iload 4, 2) := by decide +kernel
theorem dX11_reckon_140 : decode cX11_reckon 140 = .ok (.iload 5, 2) := by decide +kernel
theorem dX11_reckon_142 : decode cX11_reckon 142 = .ok (.iadd, 1) := by decide +kernel
theorem dX11_reckon_143 : decode cX11_reckon 143 = .ok (.goto 29, 3) := by decide +kernel
theorem dX11_reckon_146 : decode cX11_reckon 146 = .ok (.iload_n 2, 1) := by decide +kernel
theorem dX11_reckon_147 : decode cX11_reckon 147 = .ok (.bipush 6, 2) := by decide +kernel
theorem dX11_reckon_149 : decode cX11_reckon 149 = .ok (.if_icmp .ne 11, 3) := by decide +kernel
theorem dX11_reckon_152 : decode cX11_reckon 152 = .ok (.iload 4, 2) := by decide +kernel
theorem dX11_reckon_154 : decode cX11_reckon 154 = .ok (.iload 5, 2) := by decide +kernel
theorem dX11_reckon_156 : decode cX11_reckon 156 = .ok (.imul, 1) := by decide +kernel
theorem dX11_reckon_157 : decode cX11_reckon 157 = .ok (.goto 15, 3) := by decide +kernel
theorem dX11_reckon_160 : decode cX11_reckon 160 = .ok (.iload 4, 2) := by decide +kernel
theorem dX11_reckon_162 : decode cX11_reckon 162 = .ok (.iload 5, 2) := by decide +kernel
theorem dX11_reckon_164 : decode cX11_reckon 164 = .ok (.if_icmp .ge 7, 3) := by decide +kernel
theorem dX11_reckon_167 : decode cX11_reckon 167 = .ok (.iconst 1, 1) := by decide +kernel
theorem dX11_reckon_168 : decode cX11_reckon 168 = .ok (.goto 4, 3) := by decide +kernel
theorem dX11_reckon_171 : decode cX11_reckon 171 = .ok (.iconst 0, 1) := by decide +kernel
theorem dX11_reckon_172 : decode cX11_reckon 172 = .ok (.invokevirtual 168, 3) := by decide +kernel
theorem dX11_reckon_175 : decode cX11_reckon 175 = .ok (.return_, 1) := by decide +kernel
theorem dX11_makeRow_0 : decode cX11_makeRow 0 = .ok (.aload_n 0, 1) := by decide +kernel
theorem dX11_makeRow_1 : decode cX11_makeRow 1 = .ok (.aload_n 0, 1) := by decide +kernel
theorem dX11_makeRow_2 : decode cX11_makeRow 2 = .ok (.getfield 125, 3) := by decide +kernel
theorem dX11_makeRow_5 : decode cX11_makeRow 5 = .ok (.iload_n 1, 1) := by decide +kernel
theorem dX11_makeRow_6 : decode cX11_makeRow 6 = .ok (.invokevirtual 218, 3) := by decide +kernel
theorem dX11_makeRow_9 : decode cX11_makeRow 9 = .ok (.ifCond .ne 4, 3) := by decide +kernel
theorem dX11_makeRow_12 : decode cX11_makeRow 12 = .ok (.return_, 1) := by decide +kernel
theorem dX11_makeRow_13 : decode cX11_makeRow 13 = .ok (.aload_n 0, 1) := by decide +kernel
theorem dX11_makeRow_14 : decode cX11_makeRow 14 = .ok (.getfield 128, 3) := by decide +kernel
theorem dX11_makeRow_17 : decode cX11_makeRow 17 = .ok (.istore_n 3, 1) := by decide +kernel
theorem dX11_makeRow_18 : decode cX11_makeRow 18 = .ok (.iload_n 3, 1) := by decide +kernel
theorem dX11_makeRow_19 : decode cX11_makeRow 19 = .ok (.ifCond .ge 12, 3) := by decide +kernel
theorem dX11_makeRow_22 : decode cX11_makeRow 22 = .ok (.aload_n 0, 1) := by decide +kernel
theorem dX11_makeRow_23 : decode cX11_makeRow 23 = .ok (.iconst 3, 1) := by decide +kernel
theorem dX11_makeRow_24 : decode cX11_makeRow 24 = .ok (.iload_n 1, 1) := by decide +kernel
theorem dX11_makeRow_25 : decode cX11_makeRow 25 = .ok (.invokevirtual 243, 3) := by decide +kernel
theorem dX11_makeRow_28 : decode cX11_makeRow 28 = .ok (.goto 88, 3) := by decide +kernel
theorem dX11_makeRow_31 : decode cX11_makeRow 31 = .ok (.iload_n 3, 1) := by decide +kernel
theorem dX11_makeRow_32 : decode cX11_makeRow 32 = .ok (.bipush 16, 2) := by decide +kernel
theorem dX11_makeRow_34 : decode cX11_makeRow 34 = .ok (.if_icmp .le 13, 3) := by decide +kernel
theorem dX11_makeRow_37 : decode cX11_makeRow 37 = .ok (.aload_n 0, 1) := by decide +kernel
theorem dX11_makeRow_38 : decode cX11_makeRow 38 = .ok (.bipush 12, 2) := by decide +kernel
theorem dX11_makeRow_40 : decode cX11_makeRow 40 = .ok (.iload_n 1, 1) := by decide +kernel
theorem dX11_makeRow_41 : decode cX11_makeRow 41 = .ok (.invokevirtual 149, 3) := by decide +kernel
theorem dX11_makeRow_44 : decode cX11_makeRow 44 = .ok (.goto 72, 3) := by decide +kernel
theorem dX11_makeRow_47 : decode cX11_makeRow 47 = .ok (.aload_n 0, 1) := by decide +kernel
theorem dX11_makeRow_48 : decode cX11_makeRow 48 = .ok (.iload_n 3, 1) := by decide +kernel
theorem dX11_makeRow_49 : decode cX11_makeRow 49 = .ok (.invokevirtual 171, 3) := by decide +kernel
theorem dX11_makeRow_52 : decode cX11_makeRow 52 = .ok (.istore 4, 2) := by decide +kernel
theorem dX11_makeRow_54 : decode cX11_makeRow 54 = .ok (.iconst 0, 1) := by decide +kernel
theorem dX11_makeRow_55 : decode cX11_makeRow 55 = .ok (.istore 5, 2) := by decide +kernel
theorem dX11_makeRow_57 : decode cX11_makeRow 57 = .ok (.iload 5, 2) := by decide +kernel
theorem dX11_makeRow_59 : decode cX11_makeRow 59 = .ok (.iload_n 3, 1) := by decide +kernel
theorem dX11_makeRow_60 : decode cX11_makeRow 60 = .ok (.if_icmp .ge 29, 3) := by decide +kernel
theorem dX11_makeRow_63 : decode cX11_makeRow 63 = .ok (.iload_n 2, 1) := by decide +kernel
theorem dX11_makeRow_64 : decode cX11_makeRow 64 = .ok (.bipush 10, 2) := by decide +kernel
theorem dX11_makeRow_66 : decode cX11_makeRow 66 = .ok (.if_icmp .ne 23, 3) := by decide +kernel
theorem dX11_makeRow_69 : decode cX11_makeRow 69 = .ok (.aload_n 0, 1) := by decide +kernel
theorem dX11_makeRow_70 : decode cX11_makeRow 70 = .ok (.getfield 25, 3) := by decide +kernel
theorem dX11_makeRow_73 : decode cX11_makeRow 73 = .ok (.bipush 16, 2) := by decide +kernel
theorem dX11_makeRow_75 : decode cX11_makeRow 75 = .ok (.iload 4, 2) := by decide +kernel
theorem dX11_makeRow_77 : decode cX11_makeRow 77 = .ok (.imul, 1) := by decide +kernel
theorem dX11_makeRow_78 : decode cX11_makeRow 78 = .ok (.iload 5, 2) := by decide +kernel
theorem dX11_makeRow_80 : decode cX11_makeRow 80 = .ok (.iadd, 1) := by decide +kernel
theorem dX11_makeRow_81 : decode cX11_makeRow 81 = .ok (.iconst 0, 1) := by decide +kernel
theorem dX11_makeRow_82 : decode cX11_makeRow 82 = .ok (.iastore, 1) := by decide +kernel
theorem dX11_makeRow_83 : decode cX11_makeRow 83 = .ok (.iinc 5 1, 3) := by decide +kernel
theorem dX11_makeRow_86 : decode cX11_makeRow 86 = .ok (.goto (-29), 3) := by decide +kernel
theorem dX11_makeRow_89 : decode cX11_makeRow 89 = .ok (.aload_n 0, 1) := by decide +kernel
theorem dX11_makeRow_90 : decode cX11_makeRow 90 = .ok (.iload_n 2, 1) := by decide +kernel
theorem dX11_makeRow_91 : decode cX11_makeRow 91 = .ok (.bipush 10, 2) := by decide +kernel
theorem dX11_makeRow_93 : decode cX11_makeRow 93 = .ok (.if_icmp .ne 7, 3) := by decide +kernel
theorem dX11_makeRow_96 : decode cX11_makeRow 96 = .ok (.iconst 2, 1) := by decide +kernel
theorem dX11_makeRow_97 : decode cX11_makeRow 97 = .ok (.goto 14, 3) := by decide +kernel
theorem dX11_makeRow_100 : decode cX11_makeRow 100 = .ok (.iload_n 2, 1) := by decide +kernel
theorem dX11_makeRow_101 : decode cX11_makeRow 101 = .ok (.bipush 11, 2) := by decide +kernel
theorem dX11_makeRow_103 : decode cX11_makeRow 103 = .ok (.if_icmp .ne 7, 3) := by decide +kernel
theorem dX11_makeRow_106 : decode cX11_makeRow 106 = .ok (.iconst 3, 1) := by decide +kernel
theorem dX11_makeRow_107 : decode cX11_makeRow 107 = .ok (.goto 4, 3) := by decide +kernel
theorem dX11_makeRow_110 : decode cX11_makeRow 110 = .ok (.iconst 4, 1) := by decide +kernel
theorem dX11_makeRow_111 : decode cX11_makeRow 111 = .ok (.iload 4, 2) := by decide +kernel
theorem dX11_makeRow_113 : decode cX11_makeRow 113 = .ok (.invokevirtual 168, 3) := by decide +kernel
theorem dX11_makeRow_116 : decode cX11_makeRow 116 = .ok (.return_, 1) := by decide +kernel
theorem dX11_isRow_0 : decode cX11_isRow 0 = .ok (.iload_n 0, 1) := by decide +kernel
theorem dX11_isRow_1 : decode cX11_isRow 1 = .ok (.iconst 2, 1) := by decide +kernel
theorem dX11_isRow_2 : decode cX11_isRow 2 = .ok (.iconst 4, 1) := by decide +kernel
theorem dX11_isRow_3 : decode cX11_isRow 3 = .ok (.invokestatic 107, 3) := by decide +kernel
theorem dX11_isRow_6 : decode cX11_isRow 6 = .ok (.ireturn, 1) := by decide +kernel
theorem dX11_isRowHere_0 : decode cX11_isRowHere 0 = .ok (.iload_n 1, 1) := by decide +kernel
theorem dX11_isRowHere_1 : decode cX11_isRowHere 1 = .ok (.invokestatic 246, 3) := by decide +kernel
theorem dX11_isRowHere_4 : decode cX11_isRowHere 4 = .ok (.ifCond .ne 18, 3) := by decide +kernel
theorem dX11_isRowHere_7 : decode cX11_isRowHere 7 = .ok (.aload_n 0, 1) := by decide +kernel
theorem dX11_isRowHere_8 : decode cX11_isRowHere 8 = .ok (.iload_n 1, 1) := by decide +kernel
theorem dX11_isRowHere_9 : decode cX11_isRowHere 9 = .ok (.iconst 1, 1) := by decide +kernel
theorem dX11_isRowHere_10 : decode cX11_isRowHere 10 = .ok (.if_icmp .ne 7, 3) := by decide +kernel
theorem dX11_isRowHere_13 : decode cX11_isRowHere 13 = .ok (.iconst 1, 1) := by decide +kernel
theorem dX11_isRowHere_14 : decode cX11_isRowHere 14 = .ok (.goto 4, 3) := by decide +kernel
theorem dX11_isRowHere_17 : decode cX11_isRowHere 17 = .ok (.iconst 4, 1) := by decide +kernel
theorem dX11_isRowHere_18 : decode cX11_isRowHere 18 = .ok (.iload_n 2, 1) := by decide +kernel
theorem dX11_isRowHere_19 : decode cX11_isRowHere 19 = .ok (.invokevirtual 243, 3) := by decide +kernel
theorem dX11_isRowHere_22 : decode cX11_isRowHere 22 = .ok (.iload_n 1, 1) := by decide +kernel
theorem dX11_isRowHere_23 : decode cX11_isRowHere 23 = .ok (.invokestatic 246, 3) := by decide +kernel
theorem dX11_isRowHere_26 : decode cX11_isRowHere 26 = .ok (.ireturn, 1) := by decide +kernel
theorem dX11_isLink_0 : decode cX11_isLink 0 = .ok (.iload_n 1, 1) := by decide +kernel
theorem dX11_isLink_1 : decode cX11_isLink 1 = .ok (.iconst 5, 1) := by decide +kernel
theorem dX11_isLink_2 : decode cX11_isLink 2 = .ok (.if_icmp .eq 9, 3) := by decide +kernel
theorem dX11_isLink_5 : decode cX11_isLink 5 = .ok (.iload_n 1, 1) := by decide +kernel
theorem dX11_isLink_6 : decode cX11_isLink 6 = .ok (.bipush 6, 2) := by decide +kernel
theorem dX11_isLink_8 : decode cX11_isLink 8 = .ok (.if_icmp .ne 7, 3) := by decide +kernel
theorem dX11_isLink_11 : decode cX11_isLink 11 = .ok (.iconst 1, 1) := by decide +kernel
theorem dX11_isLink_12 : decode cX11_isLink 12 = .ok (.goto 4, 3) := by decide +kernel
theorem dX11_isLink_15 : decode cX11_isLink 15 = .ok (.iconst 0, 1) := by decide +kernel
theorem dX11_isLink_16 : decode cX11_isLink 16 = .ok (.istore_n 3, 1) := by decide +kernel
theorem dX11_isLink_17 : decode cX11_isLink 17 = .ok (.iload_n 3, 1) := by decide +kernel
theorem dX11_isLink_18 : decode cX11_isLink 18 = .ok (.ifCond .ne 18, 3) := by decide +kernel
theorem dX11_isLink_21 : decode cX11_isLink 21 = .ok (.aload_n 0, 1) := by decide +kernel
theorem dX11_isLink_22 : decode cX11_isLink 22 = .ok (.iload_n 1, 1) := by decide +kernel
theorem dX11_isLink_23 : decode cX11_isLink 23 = .ok (.iconst 1, 1) := by decide +kernel
theorem dX11_isLink_24 : decode cX11_isLink 24 = .ok (.if_icmp .ne 7, 3) := by decide +kernel
theorem dX11_isLink_27 : decode cX11_isLink 27 = .ok (.iconst 1, 1) := by decide +kernel
theorem dX11_isLink_28 : decode cX11_isLink 28 = .ok (.goto 4, 3) := by decide +kernel
theorem dX11_isLink_31 : decode cX11_isLink 31 = .ok (.iconst 4, 1) := by decide +kernel
theorem dX11_isLink_32 : decode cX11_isLink 32 = .ok (.iload_n 2, 1) := by decide +kernel
theorem dX11_isLink_33 : decode cX11_isLink 33 = .ok (.invokevirtual 243, 3) := by decide +kernel
theorem dX11_isLink_36 : decode cX11_isLink 36 = .ok (.iload_n 3, 1) := by decide +kernel
theorem dX11_isLink_37 : decode cX11_isLink 37 = .ok (.ireturn, 1) := by decide +kernel
theorem dX11_readPlace_0 : decode cX11_readPlace 0 = .ok (.aload_n 0, 1) := by decide +kernel
theorem dX11_readPlace_1 : decode cX11_readPlace 1 = .ok (.aload_n 0, 1) := by decide +kernel
theorem dX11_readPlace_2 : decode cX11_readPlace 2 = .ok (.getfield 125, 3) := by decide +kernel
theorem dX11_readPlace_5 : decode cX11_readPlace 5 = .ok (.iload_n 1, 1) := by decide +kernel
theorem dX11_readPlace_6 : decode cX11_readPlace 6 = .ok (.invokevirtual 218, 3) := by decide +kernel
theorem dX11_readPlace_9 : decode cX11_readPlace 9 = .ok (.ifCond .eq 12, 3) := by decide +kernel
theorem dX11_readPlace_12 : decode cX11_readPlace 12 = .ok (.aload_n 0, 1) := by decide +kernel
theorem dX11_readPlace_13 : decode cX11_readPlace 13 = .ok (.iload_n 2, 1) := by decide +kernel
theorem dX11_readPlace_14 : decode cX11_readPlace 14 = .ok (.iload_n 1, 1) := by decide +kernel
theorem dX11_readPlace_15 : decode cX11_readPlace 15 = .ok (.invokevirtual 249, 3) := by decide +kernel
theorem dX11_readPlace_18 : decode cX11_readPlace 18 = .ok (.ifCond .ne 4, 3) := by decide +kernel
theorem dX11_readPlace_21 : decode cX11_readPlace 21 = .ok (.return_, 1) := by decide +kernel
theorem dX11_readPlace_22 : decode cX11_readPlace 22 = .ok (.aload_n 0, 1) := by decide +kernel
theorem dX11_readPlace_23 : decode cX11_readPlace 23 = .ok (.getfield 128, 3) := by decide +kernel
theorem dX11_readPlace_26 : decode cX11_readPlace 26 = .ok (.iconst 0, 1) := by decide +kernel
theorem dX11_readPlace_27 : decode cX11_readPlace 27 = .ok (.aload_n 0, 1) := by decide +kernel
theorem dX11_readPlace_28 : decode cX11_readPlace 28 = .ok (.getfield 22, 3) := by decide +kernel
theorem dX11_readPlace_31 : decode cX11_readPlace 31 = .ok (.iload_n 3, 1) := by decide +kernel
theorem dX11_readPlace_32 : decode cX11_readPlace 32 = .ok (.iaload, 1) := by decide +kernel
theorem dX11_readPlace_33 : decode cX11_readPlace 33 = .ok (.iconst 1, 1) := by decide +kernel
theorem dX11_readPlace_34 : decode cX11_readPlace 34 = .ok (.isub, 1) := by decide +kernel
theorem dX11_readPlace_35 : decode cX11_readPlace 35 = .ok (.invokestatic 107, 3) := by decide +kernel
theorem dX11_readPlace_38 : decode cX11_readPlace 38 = .ok (.ifCond .ne 12, 3) := by decide +kernel
theorem dX11_readPlace_41 : decode cX11_readPlace 41 = .ok (.aload_n 0, 1) := by decide +kernel
theorem dX11_readPlace_42 : decode cX11_readPlace 42 = .ok (.iconst 2, 1) := by decide +kernel
theorem dX11_readPlace_43 : decode cX11_readPlace 43 = .ok (.iload_n 1, 1) := by decide +kernel
theorem dX11_readPlace_44 : decode cX11_readPlace 44 = .ok (.invokevirtual 243, 3) := by decide +kernel
theorem dX11_readPlace_47 : decode cX11_readPlace 47 = .ok (.goto 32, 3) := by decide +kernel
theorem dX11_readPlace_50 : decode cX11_readPlace 50 = .ok (.bipush 16, 2) := by decide +kernel
theorem dX11_readPlace_52 : decode cX11_readPlace 52 = .ok (.iload_n 3, 1) := by decide +kernel
theorem dX11_readPlace_53 : decode cX11_readPlace 53 = .ok (.imul, 1) := by decide +kernel
theorem dX11_readPlace_54 : decode cX11_readPlace 54 = .ok (.aload_n 0, 1) := by decide +kernel
theorem dX11_readPlace_55 : decode cX11_readPlace 55 = .ok (.getfield 128, 3) := by decide +kernel
theorem dX11_readPlace_58 : decode cX11_readPlace 58 = .ok (.iadd, 1) := by decide +kernel
theorem dX11_readPlace_59 : decode cX11_readPlace 59 = .ok (.istore 4, 2) := by decide +kernel
theorem dX11_readPlace_61 : decode cX11_readPlace 61 = .ok (.aload_n 0, 1) := by decide +kernel
theorem dX11_readPlace_62 : decode cX11_readPlace 62 = .ok (.aload_n 0, 1) := by decide +kernel
theorem dX11_readPlace_63 : decode cX11_readPlace 63 = .ok (.getfield 25, 3) := by decide +kernel
theorem dX11_readPlace_66 : decode cX11_readPlace 66 = .ok (.iload 4, 2) := by decide +kernel
theorem dX11_readPlace_68 : decode cX11_readPlace 68 = .ok (.iaload, 1) := by decide +kernel
theorem dX11_readPlace_69 : decode cX11_readPlace 69 = .ok (.aload_n 0, 1) := by decide +kernel
theorem dX11_readPlace_70 : decode cX11_readPlace 70 = .ok (.getfield 28, 3) := by decide +kernel
theorem dX11_readPlace_73 : decode cX11_readPlace 73 = .ok (.iload 4, 2) := by decide +kernel
theorem dX11_readPlace_75 : decode cX11_readPlace 75 = .ok (.iaload, 1) := by decide +kernel
theorem dX11_readPlace_76 : decode cX11_readPlace 76 = .ok (.invokevirtual 168, 3) := by decide +kernel
theorem dX11_readPlace_79 : decode cX11_readPlace 79 = .ok (.return_, 1) := by decide +kernel
theorem dX11_writePlace_0 : decode cX11_writePlace 0 = .ok (.aload_n 0, 1) := by decide +kernel
theorem dX11_writePlace_1 : decode cX11_writePlace 1 = .ok (.getfield 79, 3) := by decide +kernel
theorem dX11_writePlace_4 : decode cX11_writePlace 4 = .ok (.iload_n 2, 1) := by decide +kernel
theorem dX11_writePlace_5 : decode cX11_writePlace 5 = .ok (.iaload, 1) := by decide +kernel
theorem dX11_writePlace_6 : decode cX11_writePlace 6 = .ok (.istore_n 3, 1) := by decide +kernel
theorem dX11_writePlace_7 : decode cX11_writePlace 7 = .ok (.iload_n 3, 1) := by decide +kernel
theorem dX11_writePlace_8 : decode cX11_writePlace 8 = .ok (.iconst 3, 1) := by decide +kernel
theorem dX11_writePlace_9 : decode cX11_writePlace 9 = .ok (.if_icmp .eq 8, 3) := by decide +kernel
theorem dX11_writePlace_12 : decode cX11_writePlace 12 = .ok (.iload_n 3, 1) := by decide +kernel
theorem dX11_writePlace_13 : decode cX11_writePlace 13 = .ok (.iconst 4, 1) := by decide +kernel
theorem dX11_writePlace_14 : decode cX11_writePlace 14 = .ok (.if_icmp .ne 7, 3) := by decide +kernel
theorem dX11_writePlace_17 : decode cX11_writePlace 17 = .ok (.iconst 1, 1) := by decide +kernel
theorem dX11_writePlace_18 : decode cX11_writePlace 18 = .ok (.goto 4, 3) := by decide +kernel
theorem dX11_writePlace_21 : decode cX11_writePlace 21 = .ok (.iconst 0, 1) := by decide +kernel
theorem dX11_writePlace_22 : decode cX11_writePlace 22 = .ok (.istore 4, 2) := by decide +kernel
theorem dX11_writePlace_24 : decode cX11_writePlace 24 = .ok (.aload_n 0, 1) := by decide +kernel
theorem dX11_writePlace_25 : decode cX11_writePlace 25 = .ok (.aload_n 0, 1) := by decide +kernel
theorem dX11_writePlace_26 : decode cX11_writePlace 26 = .ok (.getfield 85, 3) := by decide +kernel
theorem dX11_writePlace_29 : decode cX11_writePlace 29 = .ok (.iload_n 2, 1) := by decide +kernel
theorem dX11_writePlace_30 : decode cX11_writePlace 30 = .ok (.iaload, 1) := by decide +kernel
theorem dX11_writePlace_31 : decode cX11_writePlace 31 = .ok (.iload_n 1, 1) := by decide +kernel
theorem dX11_writePlace_32 : decode cX11_writePlace 32 = .ok (.invokevirtual 218, 3) := by decide +kernel
theorem dX11_writePlace_35 : decode cX11_writePlace 35 = .ok (.ifCond .ne 4, 3) := by decide +kernel
theorem dX11_writePlace_38 : decode cX11_writePlace 38 = .ok (.return_, 1) := by decide +kernel
theorem dX11_writePlace_39 : decode cX11_writePlace 39 = .ok (.iload 4, 2) := by decide +kernel
theorem dX11_writePlace_41 : decode cX11_writePlace 41 = .ok (.ifCond .eq 35, 3) := by decide +kernel
theorem dX11_writePlace_44 : decode cX11_writePlace 44 = .ok (.aload_n 0, 1) := by decide +kernel
theorem dX11_writePlace_45 : decode cX11_writePlace 45 = .ok (.getfield 125, 3) := by decide +kernel
theorem dX11_writePlace_48 : decode cX11_writePlace 48 = .ok (.iconst 1, 1) := by decide +kernel
theorem dX11_writePlace_49 : decode cX11_writePlace 49 = .ok (.if_icmp .eq 27, 3) := by decide +kernel
theorem dX11_writePlace_52 : decode cX11_writePlace 52 = .ok (.aload_n 0, 1) := by decide +kernel
theorem dX11_writePlace_53 : decode cX11_writePlace 53 = .ok (.getfield 125, 3) := by decide +kernel
theorem dX11_writePlace_56 : decode cX11_writePlace 56 = .ok (.iconst 5, 1) := by decide +kernel
theorem dX11_writePlace_57 : decode cX11_writePlace 57 = .ok (.if_icmp .eq 19, 3) := by decide +kernel
theorem dX11_writePlace_60 : decode cX11_writePlace 60 = .ok (.aload_n 0, 1) := by decide +kernel
theorem dX11_writePlace_61 : decode cX11_writePlace 61 = .ok (.getfield 125, 3) := by decide +kernel
theorem dX11_writePlace_64 : decode cX11_writePlace 64 = .ok (.bipush 6, 2) := by decide +kernel
theorem dX11_writePlace_66 : decode cX11_writePlace 66 = .ok (.if_icmp .eq 10, 3) := by decide +kernel
theorem dX11_writePlace_69 : decode cX11_writePlace 69 = .ok (.aload_n 0, 1) := by decide +kernel
theorem dX11_writePlace_70 : decode cX11_writePlace 70 = .ok (.iconst 4, 1) := by decide +kernel
theorem dX11_writePlace_71 : decode cX11_writePlace 71 = .ok (.iload_n 1, 1) := by decide +kernel
theorem dX11_writePlace_72 : decode cX11_writePlace 72 = .ok (.invokevirtual 243, 3) := by decide +kernel
theorem dX11_writePlace_75 : decode cX11_writePlace 75 = .ok (.return_, 1) := by decide +kernel
theorem dX11_writePlace_76 : decode cX11_writePlace 76 = .ok (.iload 4, 2) := by decide +kernel
theorem dX11_writePlace_78 : decode cX11_writePlace 78 = .ok (.ifCond .ne 15, 3) := by decide +kernel
theorem dX11_writePlace_81 : decode cX11_writePlace 81 = .ok (.aload_n 0, 1) := by decide +kernel
