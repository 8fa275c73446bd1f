theorem dX11_writePlace_82 : decode cX11_writePlace 82 = .ok (.aload_n 0, 1) := by decide +kernel
theorem dX11_writePlace_83 : decode cX11_writePlace 83 = .ok (.getfield 125, 3) := by decide +kernel
theorem dX11_writePlace_86 : decode cX11_writePlace 86 = .ok (.iload_n 1, 1) := by decide +kernel
theorem dX11_writePlace_87 : decode cX11_writePlace 87 = .ok (.invokevirtual 218, 3) := by decide +kernel
theorem dX11_writePlace_90 : decode cX11_writePlace 90 = .ok (.ifCond .eq 12, 3) := by decide +kernel
theorem dX11_writePlace_93 : decode cX11_writePlace 93 = .ok (.aload_n 0, 1) := by decide +kernel
theorem dX11_writePlace_94 : decode cX11_writePlace 94 = .ok (.iload_n 3, 1) := by decide +kernel
theorem dX11_writePlace_95 : decode cX11_writePlace 95 = .ok (.iload_n 1, 1) := by decide +kernel
theorem dX11_writePlace_96 : decode cX11_writePlace 96 = .ok (.invokevirtual 249, 3) := by decide +kernel
theorem dX11_writePlace_99 : decode cX11_writePlace 99 = .ok (.ifCond .ne 4, 3) := by decide +kernel
theorem dX11_writePlace_102 : decode cX11_writePlace 102 = .ok (.return_, 1) := by decide +kernel
theorem dX11_writePlace_103 : decode cX11_writePlace 103 = .ok (.aload_n 0, 1) := by decide +kernel
theorem dX11_writePlace_104 : decode cX11_writePlace 104 = .ok (.getfield 82, 3) := by decide +kernel
theorem dX11_writePlace_107 : decode cX11_writePlace 107 = .ok (.iload_n 2, 1) := by decide +kernel
theorem dX11_writePlace_108 : decode cX11_writePlace 108 = .ok (.iaload, 1) := by decide +kernel
theorem dX11_writePlace_109 : decode cX11_writePlace 109 = .ok (.istore 5, 2) := by decide +kernel
theorem dX11_writePlace_111 : decode cX11_writePlace 111 = .ok (.aload_n 0, 1) := by decide +kernel
theorem dX11_writePlace_112 : decode cX11_writePlace 112 = .ok (.getfield 88, 3) := by decide +kernel
theorem dX11_writePlace_115 : decode cX11_writePlace 115 = .ok (.iload_n 2, 1) := by decide +kernel
theorem dX11_writePlace_116 : decode cX11_writePlace 116 = .ok (.iaload, 1) := by decide +kernel
theorem dX11_writePlace_117 : decode cX11_writePlace 117 = .ok (.iconst 0, 1) := by decide +kernel
theorem dX11_writePlace_118 : decode cX11_writePlace 118 = .ok (.aload_n 0, 1) := by decide +kernel
theorem dX11_writePlace_119 : decode cX11_writePlace 119 = .ok (.getfield 22, 3) := by decide +kernel
theorem dX11_writePlace_122 : decode cX11_writePlace 122 = .ok (.iload 5, 2) := by decide +kernel
theorem dX11_writePlace_124 : decode cX11_writePlace 124 = .ok (.iaload, 1) := by decide +kernel
theorem dX11_writePlace_125 : decode cX11_writePlace 125 = .ok (.iconst 1, 1) := by decide +kernel
theorem dX11_writePlace_126 : decode cX11_writePlace 126 = .ok (.isub, 1) := by decide +kernel
theorem dX11_writePlace_127 : decode cX11_writePlace 127 = .ok (.invokestatic 107, 3) := by decide +kernel
theorem dX11_writePlace_130 : decode cX11_writePlace 130 = .ok (.ifCond .ne 12, 3) := by decide +kernel
theorem dX11_writePlace_133 : decode cX11_writePlace 133 = .ok (.aload_n 0, 1) := by decide +kernel
theorem dX11_writePlace_134 : decode cX11_writePlace 134 = .ok (.iconst 2, 1) := by decide +kernel
theorem dX11_writePlace_135 : decode cX11_writePlace 135 = .ok (.iload_n 1, 1) := by decide +kernel
theorem dX11_writePlace_136 : decode cX11_writePlace 136 = .ok (.invokevirtual 243, 3) := by decide +kernel
theorem dX11_writePlace_139 : decode cX11_writePlace 139 = .ok (.goto 52, 3) := by decide +kernel
theorem dX11_writePlace_142 : decode cX11_writePlace 142 = .ok (.iload_n 3, 1) := by decide +kernel
theorem dX11_writePlace_143 : decode cX11_writePlace 143 = .ok (.iconst 4, 1) := by decide +kernel
theorem dX11_writePlace_144 : decode cX11_writePlace 144 = .ok (.if_icmp .ne 20, 3) := by decide +kernel
theorem dX11_writePlace_147 : decode cX11_writePlace 147 = .ok (.aload_n 0, 1) := by decide +kernel
theorem dX11_writePlace_148 : decode cX11_writePlace 148 = .ok (.getfield 125, 3) := by decide +kernel
theorem dX11_writePlace_151 : decode cX11_writePlace 151 = .ok (.iconst 5, 1) := by decide +kernel
theorem dX11_writePlace_152 : decode cX11_writePlace 152 = .ok (.if_icmp .ne 12, 3) := by decide +kernel
theorem dX11_writePlace_155 : decode cX11_writePlace 155 = .ok (.aload_n 0, 1) := by decide +kernel
theorem dX11_writePlace_156 : decode cX11_writePlace 156 = .ok (.iconst 5, 1) := by decide +kernel
theorem dX11_writePlace_157 : decode cX11_writePlace 157 = .ok (.iload_n 1, 1) := by decide +kernel
theorem dX11_writePlace_158 : decode cX11_writePlace 158 = .ok (.invokevirtual 243, 3) := by decide +kernel
theorem dX11_writePlace_161 : decode cX11_writePlace 161 = .ok (.goto 30, 3) := by decide +kernel
theorem dX11_writePlace_164 : decode cX11_writePlace 164 = .ok (.aload_n 0, 1) := by decide +kernel
theorem dX11_writePlace_165 : decode cX11_writePlace 165 = .ok (.bipush 8, 2) := by decide +kernel
theorem dX11_writePlace_167 : decode cX11_writePlace 167 = .ok (.bipush 16, 2) := by decide +kernel
theorem dX11_writePlace_169 : decode cX11_writePlace 169 = .ok (.iload 5, 2) := by decide +kernel
theorem dX11_writePlace_171 : decode cX11_writePlace 171 = .ok (.imul, 1) := by decide +kernel
theorem dX11_writePlace_172 : decode cX11_writePlace 172 = .ok (.iadd, 1) := by decide +kernel
theorem dX11_writePlace_173 : decode cX11_writePlace 173 = .ok (.aload_n 0, 1) := by decide +kernel
theorem dX11_writePlace_174 : decode cX11_writePlace 174 = .ok (.getfield 88, 3) := by decide +kernel
theorem dX11_writePlace_177 : decode cX11_writePlace 177 = .ok (.iload_n 2, 1) := by decide +kernel
theorem dX11_writePlace_178 : decode cX11_writePlace 178 = .ok (.iaload, 1) := by decide +kernel
theorem dX11_writePlace_179 : decode cX11_writePlace 179 = .ok (.iadd, 1) := by decide +kernel
theorem dX11_writePlace_180 : decode cX11_writePlace 180 = .ok (.aload_n 0, 1) := by decide +kernel
theorem dX11_writePlace_181 : decode cX11_writePlace 181 = .ok (.getfield 125, 3) := by decide +kernel
theorem dX11_writePlace_184 : decode cX11_writePlace 184 = .ok (.aload_n 0, 1) := by decide +kernel
theorem dX11_writePlace_185 : decode cX11_writePlace 185 = .ok (.getfield 128, 3) := by decide +kernel
theorem dX11_writePlace_188 : decode cX11_writePlace 188 = .ok (.invokevirtual 212, 3) := by decide +kernel
theorem dX11_writePlace_191 : decode cX11_writePlace 191 = .ok (.return_, 1) := by decide +kernel
theorem dX11_copyPlaces_0 : decode cX11_copyPlaces 0 = .ok (.aload_n 0, 1) := by decide +kernel
theorem dX11_copyPlaces_1 : decode cX11_copyPlaces 1 = .ok (.aload_n 0, 1) := by decide +kernel
theorem dX11_copyPlaces_2 : decode cX11_copyPlaces 2 = .ok (.getfield 125, 3) := by decide +kernel
theorem dX11_copyPlaces_5 : decode cX11_copyPlaces 5 = .ok (.iload_n 1, 1) := by decide +kernel
theorem dX11_copyPlaces_6 : decode cX11_copyPlaces 6 = .ok (.invokevirtual 218, 3) := by decide +kernel
theorem dX11_copyPlaces_9 : decode cX11_copyPlaces 9 = .ok (.ifCond .ne 4, 3) := by decide +kernel
theorem dX11_copyPlaces_12 : decode cX11_copyPlaces 12 = .ok (.return_, 1) := by decide +kernel
theorem dX11_copyPlaces_13 : decode cX11_copyPlaces 13 = .ok (.aload_n 0, 1) := by decide +kernel
theorem dX11_copyPlaces_14 : decode cX11_copyPlaces 14 = .ok (.getfield 79, 3) := by decide +kernel
theorem dX11_copyPlaces_17 : decode cX11_copyPlaces 17 = .ok (.iload_n 2, 1) := by decide +kernel
theorem dX11_copyPlaces_18 : decode cX11_copyPlaces 18 = .ok (.iaload, 1) := by decide +kernel
theorem dX11_copyPlaces_19 : decode cX11_copyPlaces 19 = .ok (.istore_n 3, 1) := by decide +kernel
theorem dX11_copyPlaces_20 : decode cX11_copyPlaces 20 = .ok (.aload_n 0, 1) := by decide +kernel
theorem dX11_copyPlaces_21 : decode cX11_copyPlaces 21 = .ok (.getfield 85, 3) := by decide +kernel
theorem dX11_copyPlaces_24 : decode cX11_copyPlaces 24 = .ok (.iload_n 2, 1) := by decide +kernel
theorem dX11_copyPlaces_25 : decode cX11_copyPlaces 25 = .ok (.iaload, 1) := by decide +kernel
theorem dX11_copyPlaces_26 : decode cX11_copyPlaces 26 = .ok (.istore 4, 2) := by decide +kernel
theorem dX11_copyPlaces_28 : decode cX11_copyPlaces 28 = .ok (.iload_n 3, 1) := by decide +kernel
theorem dX11_copyPlaces_29 : decode cX11_copyPlaces 29 = .ok (.iconst 1, 1) := by decide +kernel
theorem dX11_copyPlaces_30 : decode cX11_copyPlaces 30 = .ok (.if_icmp .eq 9, 3) := by decide +kernel
theorem dX11_copyPlaces_33 : decode cX11_copyPlaces 33 = .ok (.iload 4, 2) := by decide +kernel
theorem dX11_copyPlaces_35 : decode cX11_copyPlaces 35 = .ok (.iconst 1, 1) := by decide +kernel
theorem dX11_copyPlaces_36 : decode cX11_copyPlaces 36 = .ok (.if_icmp .ne 10, 3) := by decide +kernel
theorem dX11_copyPlaces_39 : decode cX11_copyPlaces 39 = .ok (.aload_n 0, 1) := by decide +kernel
theorem dX11_copyPlaces_40 : decode cX11_copyPlaces 40 = .ok (.iconst 1, 1) := by decide +kernel
theorem dX11_copyPlaces_41 : decode cX11_copyPlaces 41 = .ok (.iload_n 1, 1) := by decide +kernel
theorem dX11_copyPlaces_42 : decode cX11_copyPlaces 42 = .ok (.invokevirtual 243, 3) := by decide +kernel
theorem dX11_copyPlaces_45 : decode cX11_copyPlaces 45 = .ok (.return_, 1) := by decide +kernel
theorem dX11_copyPlaces_46 : decode cX11_copyPlaces 46 = .ok (.iload_n 3, 1) := by decide +kernel
theorem dX11_copyPlaces_47 : decode cX11_copyPlaces 47 = .ok (.invokestatic 246, 3) := by decide +kernel
theorem dX11_copyPlaces_50 : decode cX11_copyPlaces 50 = .ok (.ifCond .eq 35, 3) := by decide +kernel
theorem dX11_copyPlaces_53 : decode cX11_copyPlaces 53 = .ok (.iload 4, 2) := by decide +kernel
theorem dX11_copyPlaces_55 : decode cX11_copyPlaces 55 = .ok (.invokestatic 246, 3) := by decide +kernel
theorem dX11_copyPlaces_58 : decode cX11_copyPlaces 58 = .ok (.ifCond .eq 27, 3) := by decide +kernel
theorem dX11_copyPlaces_61 : decode cX11_copyPlaces 61 = .ok (.iload_n 3, 1) := by decide +kernel
theorem dX11_copyPlaces_62 : decode cX11_copyPlaces 62 = .ok (.iconst 2, 1) := by decide +kernel
theorem dX11_copyPlaces_63 : decode cX11_copyPlaces 63 = .ok (.if_icmp .ne 7, 3) := by decide +kernel
theorem dX11_copyPlaces_66 : decode cX11_copyPlaces 66 = .ok (.iconst 1, 1) := by decide +kernel
theorem dX11_copyPlaces_67 : decode cX11_copyPlaces 67 = .ok (.goto 4, 3) := by decide +kernel
theorem dX11_copyPlaces_70 : decode cX11_copyPlaces 70 = .ok (.iconst 0, 1) := by decide +kernel
theorem dX11_copyPlaces_71 : decode cX11_copyPlaces 71 = .ok (.iload 4, 2) := by decide +kernel
theorem dX11_copyPlaces_73 : decode cX11_copyPlaces 73 = .ok (.iconst 2, 1) := by decide +kernel
theorem dX11_copyPlaces_74 : decode cX11_copyPlaces 74 = .ok (.if_icmp .ne 7, 3) := by decide +kernel
theorem dX11_copyPlaces_77 : decode cX11_copyPlaces 77 = .ok (.iconst 1, 1) := by decide +kernel
theorem dX11_copyPlaces_78 : decode cX11_copyPlaces 78 = .ok (.goto 4, 3) := by decide +kernel
theorem dX11_copyPlaces_81 : decode cX11_copyPlaces 81 = .ok (.iconst 0, 1) := by decide +kernel
theorem dX11_copyPlaces_82 : decode cX11_copyPlaces 82 = .ok (.if_icmp .eq 10, 3) := by decide +kernel
theorem dX11_copyPlaces_85 : decode cX11_copyPlaces 85 = .ok (.aload_n 0, 1) := by decide +kernel
theorem dX11_copyPlaces_86 : decode cX11_copyPlaces 86 = .ok (.iconst 5, 1) := by decide +kernel
theorem dX11_copyPlaces_87 : decode cX11_copyPlaces 87 = .ok (.iload_n 1, 1) := by decide +kernel
theorem dX11_copyPlaces_88 : decode cX11_copyPlaces 88 = .ok (.invokevirtual 243, 3) := by decide +kernel
theorem dX11_copyPlaces_91 : decode cX11_copyPlaces 91 = .ok (.return_, 1) := by decide +kernel
theorem dX11_copyPlaces_92 : decode cX11_copyPlaces 92 = .ok (.aload_n 0, 1) := by decide +kernel
theorem dX11_copyPlaces_93 : decode cX11_copyPlaces 93 = .ok (.getfield 82, 3) := by decide +kernel
theorem dX11_copyPlaces_96 : decode cX11_copyPlaces 96 = .ok (.iload_n 2, 1) := by decide +kernel
theorem dX11_copyPlaces_97 : decode cX11_copyPlaces 97 = .ok (.iaload, 1) := by decide +kernel
theorem dX11_copyPlaces_98 : decode cX11_copyPlaces 98 = .ok (.istore 5, 2) := by decide +kernel
theorem dX11_copyPlaces_100 : decode cX11_copyPlaces 100 = .ok (.aload_n 0, 1) := by decide +kernel
theorem dX11_copyPlaces_101 : decode cX11_copyPlaces 101 = .ok (.getfield 88, 3) := by decide +kernel
theorem dX11_copyPlaces_104 : decode cX11_copyPlaces 104 = .ok (.iload_n 2, 1) := by decide +kernel
theorem dX11_copyPlaces_105 : decode cX11_copyPlaces 105 = .ok (.iaload, 1) := by decide +kernel
theorem dX11_copyPlaces_106 : decode cX11_copyPlaces 106 = .ok (.istore 6, 2) := by decide +kernel
theorem dX11_copyPlaces_108 : decode cX11_copyPlaces 108 = .ok (.aload_n 0, 1) := by decide +kernel
theorem dX11_copyPlaces_109 : decode cX11_copyPlaces 109 = .ok (.getfield 128, 3) := by decide +kernel
theorem dX11_copyPlaces_112 : decode cX11_copyPlaces 112 = .ok (.ifCond .lt 31, 3) := by decide +kernel
theorem dX11_copyPlaces_115 : decode cX11_copyPlaces 115 = .ok (.aload_n 0, 1) := by decide +kernel
theorem dX11_copyPlaces_116 : decode cX11_copyPlaces 116 = .ok (.getfield 128, 3) := by decide +kernel
theorem dX11_copyPlaces_119 : decode cX11_copyPlaces 119 = .ok (.aload_n 0, 1) := by decide +kernel
theorem dX11_copyPlaces_120 : decode cX11_copyPlaces 120 = .ok (.getfield 22, 3) := by decide +kernel
theorem dX11_copyPlaces_123 : decode cX11_copyPlaces 123 = .ok (.iload 5, 2) := by decide +kernel
theorem dX11_copyPlaces_125 : decode cX11_copyPlaces 125 = .ok (.iaload, 1) := by decide +kernel
theorem dX11_copyPlaces_126 : decode cX11_copyPlaces 126 = .ok (.if_icmp .gt 17, 3) := by decide +kernel
theorem dX11_copyPlaces_129 : decode cX11_copyPlaces 129 = .ok (.aload_n 0, 1) := by decide +kernel
theorem dX11_copyPlaces_130 : decode cX11_copyPlaces 130 = .ok (.getfield 128, 3) := by decide +kernel
theorem dX11_copyPlaces_133 : decode cX11_copyPlaces 133 = .ok (.aload_n 0, 1) := by decide +kernel
theorem dX11_copyPlaces_134 : decode cX11_copyPlaces 134 = .ok (.getfield 22, 3) := by decide +kernel
theorem dX11_copyPlaces_137 : decode cX11_copyPlaces 137 = .ok (.iload 6, 2) := by decide +kernel
theorem dX11_copyPlaces_139 : decode cX11_copyPlaces 139 = .ok (.iaload, 1) := by decide +kernel
theorem dX11_copyPlaces_140 : decode cX11_copyPlaces 140 = .ok (.if_icmp .le 10, 3) := by decide +kernel
theorem dX11_copyPlaces_143 : decode cX11_copyPlaces 143 = .ok (.aload_n 0, 1) := by decide +kernel
theorem dX11_copyPlaces_144 : decode cX11_copyPlaces 144 = .ok (.iconst 2, 1) := by decide +kernel
theorem dX11_copyPlaces_145 : decode cX11_copyPlaces 145 = .ok (.iload_n 1, 1) := by decide +kernel
theorem dX11_copyPlaces_146 : decode cX11_copyPlaces 146 = .ok (.invokevirtual 243, 3) := by decide +kernel
theorem dX11_copyPlaces_149 : decode cX11_copyPlaces 149 = .ok (.return_, 1) := by decide +kernel
theorem dX11_copyPlaces_150 : decode cX11_copyPlaces 150 = .ok (.iconst 0, 1) := by decide +kernel
theorem dX11_copyPlaces_151 : decode cX11_copyPlaces 151 = .ok (.istore 7, 2) := by decide +kernel
theorem dX11_copyPlaces_153 : decode cX11_copyPlaces 153 = .ok (.iload 7, 2) := by decide +kernel
theorem dX11_copyPlaces_155 : decode cX11_copyPlaces 155 = .ok (.aload_n 0, 1) := by decide +kernel
theorem dX11_copyPlaces_156 : decode cX11_copyPlaces 156 = .ok (.getfield 128, 3) := by decide +kernel
theorem dX11_copyPlaces_159 : decode cX11_copyPlaces 159 = .ok (.if_icmp .ge 72, 3) := by decide +kernel
theorem dX11_copyPlaces_162 : decode cX11_copyPlaces 162 = .ok (.bipush 16, 2) := by decide +kernel
theorem dX11_copyPlaces_164 : decode cX11_copyPlaces 164 = .ok (.iload 5, 2) := by decide +kernel
theorem dX11_copyPlaces_166 : decode cX11_copyPlaces 166 = .ok (.imul, 1) := by decide +kernel
theorem dX11_copyPlaces_167 : decode cX11_copyPlaces 167 = .ok (.iload 7, 2) := by decide +kernel
theorem dX11_copyPlaces_169 : decode cX11_copyPlaces 169 = .ok (.iadd, 1) := by decide +kernel
theorem dX11_copyPlaces_170 : decode cX11_copyPlaces 170 = .ok (.istore 8, 2) := by decide +kernel
theorem dX11_copyPlaces_172 : decode cX11_copyPlaces 172 = .ok (.iload 4, 2) := by decide +kernel
theorem dX11_copyPlaces_174 : decode cX11_copyPlaces 174 = .ok (.iconst 4, 1) := by decide +kernel
theorem dX11_copyPlaces_175 : decode cX11_copyPlaces 175 = .ok (.if_icmp .ne 21, 3) := by decide +kernel
theorem dX11_copyPlaces_178 : decode cX11_copyPlaces 178 = .ok (.aload_n 0, 1) := by decide +kernel
theorem dX11_copyPlaces_179 : decode cX11_copyPlaces 179 = .ok (.getfield 25, 3) := by decide +kernel
theorem dX11_copyPlaces_182 : decode cX11_copyPlaces 182 = .ok (.iload 8, 2) := by decide +kernel
theorem dX11_copyPlaces_184 : decode cX11_copyPlaces 184 = .ok (.iaload, 1) := by decide +kernel
theorem dX11_copyPlaces_185 : decode cX11_copyPlaces 185 = .ok (.iconst 5, 1) := by decide +kernel
theorem dX11_copyPlaces_186 : decode cX11_copyPlaces 186 = .ok (.if_icmp .ne 10, 3) := by decide +kernel
theorem dX11_copyPlaces_189 : decode cX11_copyPlaces 189 = .ok (.aload_n 0, 1) := by decide +kernel
theorem dX11_copyPlaces_190 : decode cX11_copyPlaces 190 = .ok (.iconst 5, 1) := by decide +kernel
theorem dX11_copyPlaces_191 : decode cX11_copyPlaces 191 = .ok (.iload_n 1, 1) := by decide +kernel
theorem dX11_copyPlaces_192 : decode cX11_copyPlaces 192 = .ok (.invokevirtual 243, 3) := by decide +kernel
theorem dX11_copyPlaces_195 : decode cX11_copyPlaces 195 = .ok (.return_, 1) := by decide +kernel
theorem dX11_copyPlaces_196 : decode cX11_copyPlaces 196 = .ok (.aload_n 0, 1) := by decide +kernel
theorem dX11_copyPlaces_197 : decode cX11_copyPlaces 197 = .ok (.bipush 8, 2) := by decide +kernel
theorem dX11_copyPlaces_199 : decode cX11_copyPlaces 199 = .ok (.bipush 16, 2) := by decide +kernel
theorem dX11_copyPlaces_201 : decode cX11_copyPlaces 201 = .ok (.iload 6, 2) := by decide +kernel
theorem dX11_copyPlaces_203 : decode cX11_copyPlaces 203 = .ok (.imul, 1) := by decide +kernel
theorem dX11_copyPlaces_204 : decode cX11_copyPlaces 204 = .ok (.iadd, 1) := by decide +kernel
theorem dX11_copyPlaces_205 : decode cX11_copyPlaces 205 = .ok (.iload 7, 2) := by decide +kernel
theorem dX11_copyPlaces_207 : decode cX11_copyPlaces 207 = .ok (.iadd, 1) := by decide +kernel
theorem dX11_copyPlaces_208 : decode cX11_copyPlaces 208 = .ok (.aload_n 0, 1) := by decide +kernel
theorem dX11_copyPlaces_209 : decode cX11_copyPlaces 209 = .ok (.getfield 25, 3) := by decide +kernel
theorem dX11_copyPlaces_212 : decode cX11_copyPlaces 212 = .ok (.iload 8, 2) := by decide +kernel
theorem dX11_copyPlaces_214 : decode cX11_copyPlaces 214 = .ok (.iaload, 1) := by decide +kernel
theorem dX11_copyPlaces_215 : decode cX11_copyPlaces 215 = .ok (.aload_n 0, 1) := by decide +kernel
theorem dX11_copyPlaces_216 : decode cX11_copyPlaces 216 = .ok (.getfield 28, 3) := by decide +kernel
theorem dX11_copyPlaces_219 : decode cX11_copyPlaces 219 = .ok (.iload 8, 2) := by decide +kernel
theorem dX11_copyPlaces_221 : decode cX11_copyPlaces 221 = .ok (.iaload, 1) := by decide +kernel
theorem dX11_copyPlaces_222 : decode cX11_copyPlaces 222 = .ok (.invokevirtual 212, 3) := by decide +kernel
theorem dX11_copyPlaces_225 : decode cX11_copyPlaces 225 = .ok (.iinc 7 1, 3) := by decide +kernel
theorem dX11_copyPlaces_228 : decode cX11_copyPlaces 228 = .ok (.goto (-75), 3) := by decide +kernel
theorem dX11_copyPlaces_231 : decode cX11_copyPlaces 231 = .ok (.return_, 1) := by decide +kernel
theorem dX11_upFailure_0 : decode cX11_upFailure 0 = .ok (.aload_n 0, 1) := by decide +kernel
theorem dX11_upFailure_1 : decode cX11_upFailure 1 = .ok (.getfield 174, 3) := by decide +kernel
theorem dX11_upFailure_4 : decode cX11_upFailure 4 = .ok (.iconst 1, 1) := by decide +kernel
theorem dX11_upFailure_5 : decode cX11_upFailure 5 = .ok (.isub, 1) := by decide +kernel
theorem dX11_upFailure_6 : decode cX11_upFailure 6 = .ok (.istore_n 1, 1) := by decide +kernel
theorem dX11_upFailure_7 : decode cX11_upFailure 7 = .ok (.aload_n 0, 1) := by decide +kernel
theorem dX11_upFailure_8 : decode cX11_upFailure 8 = .ok (.getfield 70, 3) := by decide +kernel
theorem dX11_upFailure_11 : decode cX11_upFailure 11 = .ok (.iload_n 1, 1) := by decide +kernel
theorem dX11_upFailure_12 : decode cX11_upFailure 12 = .ok (.iaload, 1) := by decide +kernel
theorem dX11_upFailure_13 : decode cX11_upFailure 13 = .ok (.istore_n 2, 1) := by decide +kernel
theorem dX11_upFailure_14 : decode cX11_upFailure 14 = .ok (.aload_n 0, 1) := by decide +kernel
theorem dX11_upFailure_15 : decode cX11_upFailure 15 = .ok (.getfield 7, 3) := by decide +kernel
theorem dX11_upFailure_18 : decode cX11_upFailure 18 = .ok (.iload_n 2, 1) := by decide +kernel
theorem dX11_upFailure_19 : decode cX11_upFailure 19 = .ok (.iaload, 1) := by decide +kernel
theorem dX11_upFailure_20 : decode cX11_upFailure 20 = .ok (.istore_n 3, 1) := by decide +kernel
theorem dX11_upFailure_21 : decode cX11_upFailure 21 = .ok (.aload_n 0, 1) := by decide +kernel
theorem dX11_upFailure_22 : decode cX11_upFailure 22 = .ok (.getfield 73, 3) := by decide +kernel
theorem dX11_upFailure_25 : decode cX11_upFailure 25 = .ok (.iload_n 1, 1) := by decide +kernel
theorem dX11_upFailure_26 : decode cX11_upFailure 26 = .ok (.iaload, 1) := by decide +kernel
theorem dX11_upFailure_27 : decode cX11_upFailure 27 = .ok (.istore 4, 2) := by decide +kernel
theorem dX11_upFailure_29 : decode cX11_upFailure 29 = .ok (.iload_n 3, 1) := by decide +kernel
theorem dX11_upFailure_30 : decode cX11_upFailure 30 = .ok (.bipush 21, 2) := by decide +kernel
theorem dX11_upFailure_32 : decode cX11_upFailure 32 = .ok (.if_icmp .ne 89, 3) := by decide +kernel
theorem dX11_upFailure_35 : decode cX11_upFailure 35 = .ok (.iload 4, 2) := by decide +kernel
theorem dX11_upFailure_37 : decode cX11_upFailure 37 = .ok (.ifCond .ne 84, 3) := by decide +kernel
theorem dX11_upFailure_40 : decode cX11_upFailure 40 = .ok (.aload_n 0, 1) := by decide +kernel
theorem dX11_upFailure_41 : decode cX11_upFailure 41 = .ok (.getfield 16, 3) := by decide +kernel
theorem dX11_upFailure_44 : decode cX11_upFailure 44 = .ok (.iload_n 2, 1) := by decide +kernel
theorem dX11_upFailure_45 : decode cX11_upFailure 45 = .ok (.iaload, 1) := by decide +kernel
theorem dX11_upFailure_46 : decode cX11_upFailure 46 = .ok (.ifCond .eq 16, 3) := by decide +kernel
theorem dX11_upFailure_49 : decode cX11_upFailure 49 = .ok (.aload_n 0, 1) := by decide +kernel
theorem dX11_upFailure_50 : decode cX11_upFailure 50 = .ok (.getfield 16, 3) := by decide +kernel
theorem dX11_upFailure_53 : decode cX11_upFailure 53 = .ok (.iload_n 2, 1) := by decide +kernel
theorem dX11_upFailure_54 : decode cX11_upFailure 54 = .ok (.iaload, 1) := by decide +kernel
theorem dX11_upFailure_55 : decode cX11_upFailure 55 = .ok (.aload_n 0, 1) := by decide +kernel
theorem dX11_upFailure_56 : decode cX11_upFailure 56 = .ok (.getfield 137, 3) := by decide +kernel
theorem dX11_upFailure_59 : decode cX11_upFailure 59 = .ok (.if_icmp .ne 62, 3) := by decide +kernel
theorem dX11_upFailure_62 : decode cX11_upFailure 62 = .ok (.bipush 8, 2) := by decide +kernel
theorem dX11_upFailure_64 : decode cX11_upFailure 64 = .ok (.aload_n 0, 1) := by decide +kernel
theorem dX11_upFailure_65 : decode cX11_upFailure 65 = .ok (.getfield 76, 3) := by decide +kernel
theorem dX11_upFailure_68 : decode cX11_upFailure 68 = .ok (.iload_n 1, 1) := by decide +kernel
theorem dX11_upFailure_69 : decode cX11_upFailure 69 = .ok (.iaload, 1) := by decide +kernel
theorem dX11_upFailure_70 : decode cX11_upFailure 70 = .ok (.imul, 1) := by decide +kernel
theorem dX11_upFailure_71 : decode cX11_upFailure 71 = .ok (.bipush 7, 2) := by decide +kernel
theorem dX11_upFailure_73 : decode cX11_upFailure 73 = .ok (.iadd, 1) := by decide +kernel
theorem dX11_upFailure_74 : decode cX11_upFailure 74 = .ok (.istore 5, 2) := by decide +kernel
theorem dX11_upFailure_76 : decode cX11_upFailure 76 = .ok (.aload_n 0, 1) := by decide +kernel
theorem dX11_upFailure_77 : decode cX11_upFailure 77 = .ok (.getfield 46, 3) := by decide +kernel
theorem dX11_upFailure_80 : decode cX11_upFailure 80 = .ok (.iload 5, 2) := by decide +kernel
theorem dX11_upFailure_82 : decode cX11_upFailure 82 = .ok (.iconst 0, 1) := by decide +kernel
theorem dX11_upFailure_83 : decode cX11_upFailure 83 = .ok (.iastore, 1) := by decide +kernel
theorem dX11_upFailure_84 : decode cX11_upFailure 84 = .ok (.aload_n 0, 1) := by decide +kernel
theorem dX11_upFailure_85 : decode cX11_upFailure 85 = .ok (.getfield 49, 3) := by decide +kernel
theorem dX11_upFailure_88 : decode cX11_upFailure 88 = .ok (.iload 5, 2) := by decide +kernel
theorem dX11_upFailure_90 : decode cX11_upFailure 90 = .ok (.aload_n 0, 1) := by decide +kernel
theorem dX11_upFailure_91 : decode cX11_upFailure 91 = .ok (.getfield 140, 3) := by decide +kernel
theorem dX11_upFailure_94 : decode cX11_upFailure 94 = .ok (.iastore, 1) := by decide +kernel
theorem dX11_upFailure_95 : decode cX11_upFailure 95 = .ok (.aload_n 0, 1) := by decide +kernel
theorem dX11_upFailure_96 : decode cX11_upFailure 96 = .ok (.getfield 73, 3) := by decide +kernel
theorem dX11_upFailure_99 : decode cX11_upFailure 99 = .ok (.iload_n 1, 1) := by decide +kernel
theorem dX11_upFailure_100 : decode cX11_upFailure 100 = .ok (.iconst 1, 1) := by decide +kernel
theorem dX11_upFailure_101 : decode cX11_upFailure 101 = .ok (.iastore, 1) := by decide +kernel
theorem dX11_upFailure_102 : decode cX11_upFailure 102 = .ok (.aload_n 0, 1) := by decide +kernel
theorem dX11_upFailure_103 : decode cX11_upFailure 103 = .ok (.aload_n 0, 1) := by decide +kernel
theorem dX11_upFailure_104 : decode cX11_upFailure 104 = .ok (.getfield 19, 3) := by decide +kernel
theorem dX11_upFailure_107 : decode cX11_upFailure 107 = .ok (.iload_n 2, 1) := by decide +kernel
theorem dX11_upFailure_108 : decode cX11_upFailure 108 = .ok (.iaload, 1) := by decide +kernel
theorem dX11_upFailure_109 : decode cX11_upFailure 109 = .ok (.aload_n 0, 1) := by decide +kernel
theorem dX11_upFailure_110 : decode cX11_upFailure 110 = .ok (.getfield 76, 3) := by decide +kernel
theorem dX11_upFailure_113 : decode cX11_upFailure 113 = .ok (.iload_n 1, 1) := by decide +kernel
theorem dX11_upFailure_114 : decode cX11_upFailure 114 = .ok (.iaload, 1) := by decide +kernel
theorem dX11_upFailure_115 : decode cX11_upFailure 115 = .ok (.invokevirtual 177, 3) := by decide +kernel
theorem dX11_upFailure_118 : decode cX11_upFailure 118 = .ok (.goto 143, 3) := by decide +kernel
theorem dX11_upFailure_121 : decode cX11_upFailure 121 = .ok (.iload_n 3, 1) := by decide +kernel
theorem dX11_upFailure_122 : decode cX11_upFailure 122 = .ok (.bipush 22, 2) := by decide +kernel
theorem dX11_upFailure_124 : decode cX11_upFailure 124 = .ok (.if_icmp .ne 64, 3) := by decide +kernel
theorem dX11_upFailure_127 : decode cX11_upFailure 127 = .ok (.iload 4, 2) := by decide +kernel
theorem dX11_upFailure_129 : decode cX11_upFailure 129 = .ok (.ifCond .ne 59, 3) := by decide +kernel
theorem dX11_upFailure_132 : decode cX11_upFailure 132 = .ok (.aload_n 0, 1) := by decide +kernel
theorem dX11_upFailure_133 : decode cX11_upFailure 133 = .ok (.getfield 79, 3) := by decide +kernel
theorem dX11_upFailure_136 : decode cX11_upFailure 136 = .ok (.iload_n 1, 1) := by decide +kernel
theorem dX11_upFailure_137 : decode cX11_upFailure 137 = .ok (.aload_n 0, 1) := by decide +kernel
theorem dX11_upFailure_138 : decode cX11_upFailure 138 = .ok (.getfield 137, 3) := by decide +kernel
theorem dX11_upFailure_141 : decode cX11_upFailure 141 = .ok (.iastore, 1) := by decide +kernel
theorem dX11_upFailure_142 : decode cX11_upFailure 142 = .ok (.aload_n 0, 1) := by decide +kernel
theorem dX11_upFailure_143 : decode cX11_upFailure 143 = .ok (.getfield 82, 3) := by decide +kernel
theorem dX11_upFailure_146 : decode cX11_upFailure 146 = .ok (.iload_n 1, 1) := by decide +kernel
theorem dX11_upFailure_147 : decode cX11_upFailure 147 = .ok (.aload_n 0, 1) := by decide +kernel
theorem dX11_upFailure_148 : decode cX11_upFailure 148 = .ok (.getfield 140, 3) := by decide +kernel
theorem dX11_upFailure_151 : decode cX11_upFailure 151 = .ok (.iastore, 1) := by decide +kernel
theorem dX11_upFailure_152 : decode cX11_upFailure 152 = .ok (.aload_n 0, 1) := by decide +kernel
theorem dX11_upFailure_153 : decode cX11_upFailure 153 = .ok (.getfield 94, 3) := by decide +kernel
theorem dX11_upFailure_156 : decode cX11_upFailure 156 = .ok (.iload_n 1, 1) := by decide +kernel
theorem dX11_upFailure_157 : decode cX11_upFailure 157 = .ok (.aload_n 0, 1) := by decide +kernel
theorem dX11_upFailure_158 : decode cX11_upFailure 158 = .ok (.getfield 143, 3) := by decide +kernel
theorem dX11_upFailure_161 : decode cX11_upFailure 161 = .ok (.iastore, 1) := by decide +kernel
theorem dX11_upFailure_162 : decode cX11_upFailure 162 = .ok (.aload_n 0, 1) := by decide +kernel
theorem dX11_upFailure_163 : decode cX11_upFailure 163 = .ok (.getfield 73, 3) := by decide +kernel
theorem dX11_upFailure_166 : decode cX11_upFailure 166 = .ok (.iload_n 1, 1) := by decide +kernel
theorem dX11_upFailure_167 : decode cX11_upFailure 167 = .ok (.iconst 2, 1) := by decide +kernel
theorem dX11_upFailure_168 : decode cX11_upFailure 168 = .ok (.iastore, 1) := by decide +kernel
theorem dX11_upFailure_169 : decode cX11_upFailure 169 = .ok (.aload_n 0, 1) := by decide +kernel
theorem dX11_upFailure_170 : decode cX11_upFailure 170 = .ok (.aload_n 0, 1) := by decide +kernel
theorem dX11_upFailure_171 : decode cX11_upFailure 171 = .ok (.getfield 16, 3) := by decide +kernel
theorem dX11_upFailure_174 : decode cX11_upFailure 174 = .ok (.iload_n 2, 1) := by decide +kernel
theorem dX11_upFailure_175 : decode cX11_upFailure 175 = .ok (.iaload, 1) := by decide +kernel
theorem dX11_upFailure_176 : decode cX11_upFailure 176 = .ok (.aload_n 0, 1) := by decide +kernel
theorem dX11_upFailure_177 : decode cX11_upFailure 177 = .ok (.getfield 76, 3) := by decide +kernel
theorem dX11_upFailure_180 : decode cX11_upFailure 180 = .ok (.iload_n 1, 1) := by decide +kernel
theorem dX11_upFailure_181 : decode cX11_upFailure 181 = .ok (.iaload, 1) := by decide +kernel
theorem dX11_upFailure_182 : decode cX11_upFailure 182 = .ok (.invokevirtual 177, 3) := by decide +kernel
theorem dX11_upFailure_185 : decode cX11_upFailure 185 = .ok (.goto 76, 3) := by decide +kernel
theorem dX11_upFailure_188 : decode cX11_upFailure 188 = .ok (.aload_n 0, 1) := by decide +kernel
theorem dX11_upFailure_189 : decode cX11_upFailure 189 = .ok (.dup, 1) := by decide +kernel
theorem dX11_upFailure_190 : decode cX11_upFailure 190 = .ok (.getfield 174, 3) := by decide +kernel
theorem dX11_upFailure_193 : decode cX11_upFailure 193 = .ok (.iconst 1, 1) := by decide +kernel
theorem dX11_upFailure_194 : decode cX11_upFailure 194 = .ok (.isub, 1) := by decide +kernel
theorem dX11_upFailure_195 : decode cX11_upFailure 195 = .ok (.putfield 174, 3) := by decide +kernel
theorem dX11_upFailure_198 : decode cX11_upFailure 198 = .ok (.aload_n 0, 1) := by decide +kernel
theorem dX11_upFailure_199 : decode cX11_upFailure 199 = .ok (.iload_n 1, 1) := by decide +kernel
theorem dX11_upFailure_200 : decode cX11_upFailure 200 = .ok (.iload_n 2, 1) := by decide +kernel
theorem dX11_upFailure_201 : decode cX11_upFailure 201 = .ok (.iload_n 3, 1) := by decide +kernel
theorem dX11_upFailure_202 : decode cX11_upFailure 202 = .ok (.iload 4, 2) := by decide +kernel
theorem dX11_upFailure_204 : decode cX11_upFailure 204 = .ok (.invokevirtual 252, 3) := by decide +kernel
theorem dX11_upFailure_207 : decode cX11_upFailure 207 = .ok (.iload_n 3, 1) := by decide +kernel
theorem dX11_upFailure_208 : decode cX11_upFailure 208 = .ok (.bipush 28, 2) := by decide +kernel
theorem dX11_upFailure_210 : decode cX11_upFailure 210 = .ok (.if_icmp .ne 51, 3) := by decide +kernel
theorem dX11_upFailure_213 : decode cX11_upFailure 213 = .ok (.iload 4, 2) := by decide +kernel
theorem dX11_upFailure_215 : decode cX11_upFailure 215 = .ok (.iconst 1, 1) := by decide +kernel
theorem dX11_upFailure_216 : decode cX11_upFailure 216 = .ok (.if_icmp .ne 45, 3) := by decide +kernel
theorem dX11_upFailure_219 : decode cX11_upFailure 219 = .ok (.aload_n 0, 1) := by decide +kernel
theorem dX11_upFailure_220 : decode cX11_upFailure 220 = .ok (.getfield 37, 3) := by decide +kernel
theorem dX11_upFailure_223 : decode cX11_upFailure 223 = .ok (.aload_n 0, 1) := by decide +kernel
theorem dX11_upFailure_224 : decode cX11_upFailure 224 = .ok (.getfield 82, 3) := by decide +kernel
theorem dX11_upFailure_227 : decode cX11_upFailure 227 = .ok (.iload_n 1, 1) := by decide +kernel
theorem dX11_upFailure_228 : decode cX11_upFailure 228 = .ok (.iaload, 1) := by decide +kernel
theorem dX11_upFailure_229 : decode cX11_upFailure 229 = .ok (.iconst 3, 1) := by decide +kernel
theorem dX11_upFailure_230 : decode cX11_upFailure 230 = .ok (.iastore, 1) := by decide +kernel
theorem dX11_upFailure_231 : decode cX11_upFailure 231 = .ok (.aload_n 0, 1) := by decide +kernel
theorem dX11_upFailure_232 : decode cX11_upFailure 232 = .ok (.getfield 40, 3) := by decide +kernel
theorem dX11_upFailure_235 : decode cX11_upFailure 235 = .ok (.aload_n 0, 1) := by decide +kernel
theorem dX11_upFailure_236 : decode cX11_upFailure 236 = .ok (.getfield 82, 3) := by decide +kernel
theorem dX11_upFailure_239 : decode cX11_upFailure 239 = .ok (.iload_n 1, 1) := by decide +kernel
theorem dX11_upFailure_240 : decode cX11_upFailure 240 = .ok (.iaload, 1) := by decide +kernel
theorem dX11_upFailure_241 : decode cX11_upFailure 241 = .ok (.aload_n 0, 1) := by decide +kernel
theorem dX11_upFailure_242 : decode cX11_upFailure 242 = .ok (.getfield 137, 3) := by decide +kernel
theorem dX11_upFailure_245 : decode cX11_upFailure 245 = .ok (.iastore, 1) := by decide +kernel
theorem dX11_upFailure_246 : decode cX11_upFailure 246 = .ok (.aload_n 0, 1) := by decide +kernel
theorem dX11_upFailure_247 : decode cX11_upFailure 247 = .ok (.getfield 43, 3) := by decide +kernel
theorem dX11_upFailure_250 : decode cX11_upFailure 250 = .ok (.aload_n 0, 1) := by decide +kernel
theorem dX11_upFailure_251 : decode cX11_upFailure 251 = .ok (.getfield 82, 3) := by decide +kernel
theorem dX11_upFailure_254 : decode cX11_upFailure 254 = .ok (.iload_n 1, 1) := by decide +kernel
theorem dX11_upFailure_255 : decode cX11_upFailure 255 = .ok (.iaload, 1) := by decide +kernel
theorem dX11_upFailure_256 : decode cX11_upFailure 256 = .ok (.aload_n 0, 1) := by decide +kernel
theorem dX11_upFailure_257 : decode cX11_upFailure 257 = .ok (.getfield 140, 3) := by decide +kernel
theorem dX11_upFailure_260 : decode cX11_upFailure 260 = .ok (.iastore, 1) := by decide +kernel
theorem dX11_upFailure_261 : decode cX11_upFailure 261 = .ok (.return_, 1) := by decide +kernel
theorem dX11_leave_0 : decode cX11_leave 0 = .ok (.iload_n 3, 1) := by decide +kernel
theorem dX11_leave_1 : decode cX11_leave 1 = .ok (.bipush 29, 2) := by decide +kernel
theorem dX11_leave_3 : decode cX11_leave 3 = .ok (.if_icmp .ne 13, 3) := by decide +kernel
theorem dX11_leave_6 : decode cX11_leave 6 = .ok (.aload_n 0, 1) := by decide +kernel
theorem dX11_leave_7 : decode cX11_leave 7 = .ok (.aload_n 0, 1) := by decide +kernel
theorem dX11_leave_8 : decode cX11_leave 8 = .ok (.getfield 91, 3) := by decide +kernel
theorem dX11_leave_11 : decode cX11_leave 11 = .ok (.iload_n 1, 1) := by decide +kernel
theorem dX11_leave_12 : decode cX11_leave 12 = .ok (.iaload, 1) := by decide +kernel
theorem dX11_leave_13 : decode cX11_leave 13 = .ok (.invokevirtual 255, 3) := by decide +kernel
theorem dX11_leave_16 : decode cX11_leave 16 = .ok (.iload_n 3, 1) := by decide +kernel
theorem dX11_leave_17 : decode cX11_leave 17 = .ok (.bipush 25, 2) := by decide +kernel
theorem dX11_leave_19 : decode cX11_leave 19 = .ok (.if_icmp .ne 19, 3) := by decide +kernel
theorem dX11_leave_22 : decode cX11_leave 22 = .ok (.iload 4, 2) := by decide +kernel
theorem dX11_leave_24 : decode cX11_leave 24 = .ok (.iconst 1, 1) := by decide +kernel
theorem dX11_leave_25 : decode cX11_leave 25 = .ok (.if_icmp .ne 13, 3) := by decide +kernel
theorem dX11_leave_28 : decode cX11_leave 28 = .ok (.aload_n 0, 1) := by decide +kernel
theorem dX11_leave_29 : decode cX11_leave 29 = .ok (.dup, 1) := by decide +kernel
theorem dX11_leave_30 : decode cX11_leave 30 = .ok (.getfield 236, 3) := by decide +kernel
theorem dX11_leave_33 : decode cX11_leave 33 = .ok (.iconst 1, 1) := by decide +kernel
theorem dX11_leave_34 : decode cX11_leave 34 = .ok (.isub, 1) := by decide +kernel
theorem dX11_leave_35 : decode cX11_leave 35 = .ok (.putfield 236, 3) := by decide +kernel
theorem dX11_leave_38 : decode cX11_leave 38 = .ok (.iload_n 3, 1) := by decide +kernel
theorem dX11_leave_39 : decode cX11_leave 39 = .ok (.bipush 28, 2) := by decide +kernel
theorem dX11_leave_41 : decode cX11_leave 41 = .ok (.if_icmp .ne 21, 3) := by decide +kernel
theorem dX11_leave_44 : decode cX11_leave 44 = .ok (.iload 4, 2) := by decide +kernel
theorem dX11_leave_46 : decode cX11_leave 46 = .ok (.iconst 1, 1) := by decide +kernel
theorem dX11_leave_47 : decode cX11_leave 47 = .ok (.if_icmp .ne 15, 3) := by decide +kernel
theorem dX11_leave_50 : decode cX11_leave 50 = .ok (.aload_n 0, 1) := by decide +kernel
theorem dX11_leave_51 : decode cX11_leave 51 = .ok (.getfield 37, 3) := by decide +kernel
theorem dX11_leave_54 : decode cX11_leave 54 = .ok (.aload_n 0, 1) := by decide +kernel
theorem dX11_leave_55 : decode cX11_leave 55 = .ok (.getfield 82, 3) := by decide +kernel
theorem dX11_leave_58 : decode cX11_leave 58 = .ok (.iload_n 1, 1) := by decide +kernel
theorem dX11_leave_59 : decode cX11_leave 59 = .ok (.iaload, 1) := by decide +kernel
theorem dX11_leave_60 : decode cX11_leave 60 = .ok (.iconst 0, 1) := by decide +kernel
theorem dX11_leave_61 : decode cX11_leave 61 = .ok (.iastore, 1) := by decide +kernel
theorem dX11_leave_62 : decode cX11_leave 62 = .ok (.return_, 1) := by decide +kernel
theorem dX11_run_0 : decode cX11_run 0 = .ok (.aload_n 0, 1) := by decide +kernel
theorem dX11_run_1 : decode cX11_run 1 = .ok (.iconst 0, 1) := by decide +kernel
theorem dX11_run_2 : decode cX11_run 2 = .ok (.putfield 111, 3) := by decide +kernel
theorem dX11_run_5 : decode cX11_run 5 = .ok (.aload_n 0, 1) := by decide +kernel
theorem dX11_run_6 : decode cX11_run 6 = .ok (.iload_n 1, 1) := by decide +kernel
theorem dX11_run_7 : decode cX11_run 7 = .ok (.invokevirtual 118, 3) := by decide +kernel
theorem dX11_run_10 : decode cX11_run 10 = .ok (.ifCond .eq 6, 3) := by decide +kernel
theorem dX11_run_13 : decode cX11_run 13 = .ok (.bipush (-101), 2) := by decide +kernel
theorem dX11_run_15 : decode cX11_run 15 = .ok (.ireturn, 1) := by decide +kernel
theorem dX11_run_16 : decode cX11_run 16 = .ok (.iload_n 2, 1) := by decide +kernel
theorem dX11_run_17 : decode cX11_run 17 = .ok (.iconst 1, 1) := by decide +kernel
theorem dX11_run_18 : decode cX11_run 18 = .ok (.sipush 200, 3) := by decide +kernel
theorem dX11_run_21 : decode cX11_run 21 = .ok (.invokestatic 107, 3) := by decide +kernel
theorem dX11_run_24 : decode cX11_run 24 = .ok (.ifCond .ne 6, 3) := by decide +kernel
theorem dX11_run_27 : decode cX11_run 27 = .ok (.bipush (-102), 2) := by decide +kernel
theorem dX11_run_29 : decode cX11_run 29 = .ok (.ireturn, 1) := by decide +kernel
theorem dX11_run_30 : decode cX11_run 30 = .ok (.aload_n 0, 1) := by decide +kernel
theorem dX11_run_31 : decode cX11_run 31 = .ok (.getfield 258, 3) := by decide +kernel
theorem dX11_run_34 : decode cX11_run 34 = .ok (.sipush 400, 3) := by decide +kernel
theorem dX11_run_37 : decode cX11_run 37 = .ok (.if_icmp .ne 6, 3) := by decide +kernel
theorem dX11_run_40 : decode cX11_run 40 = .ok (.bipush (-104), 2) := by decide +kernel
theorem dX11_run_42 : decode cX11_run 42 = .ok (.ireturn, 1) := by decide +kernel
theorem dX11_run_43 : decode cX11_run 43 = .ok (.aload_n 0, 1) := by decide +kernel
theorem dX11_run_44 : decode cX11_run 44 = .ok (.dup, 1) := by decide +kernel
theorem dX11_run_45 : decode cX11_run 45 = .ok (.getfield 258, 3) := by decide +kernel
theorem dX11_run_48 : decode cX11_run 48 = .ok (.iconst 1, 1) := by decide +kernel
theorem dX11_run_49 : decode cX11_run 49 = .ok (.iadd, 1) := by decide +kernel
theorem dX11_run_50 : decode cX11_run 50 = .ok (.putfield 258, 3) := by decide +kernel
theorem dX11_run_53 : decode cX11_run 53 = .ok (.aload_n 0, 1) := by decide +kernel
theorem dX11_run_54 : decode cX11_run 54 = .ok (.iconst 0, 1) := by decide +kernel
theorem dX11_run_55 : decode cX11_run 55 = .ok (.putfield 153, 3) := by decide +kernel
theorem dX11_run_58 : decode cX11_run 58 = .ok (.aload_n 0, 1) := by decide +kernel
theorem dX11_run_59 : decode cX11_run 59 = .ok (.iconst 0, 1) := by decide +kernel
theorem dX11_run_60 : decode cX11_run 60 = .ok (.putfield 156, 3) := by decide +kernel
theorem dX11_run_63 : decode cX11_run 63 = .ok (.aload_n 0, 1) := by decide +kernel
theorem dX11_run_64 : decode cX11_run 64 = .ok (.iconst 0, 1) := by decide +kernel
theorem dX11_run_65 : decode cX11_run 65 = .ok (.putfield 159, 3) := by decide +kernel
theorem dX11_run_68 : decode cX11_run 68 = .ok (.aload_n 0, 1) := by decide +kernel
theorem dX11_run_69 : decode cX11_run 69 = .ok (.iconst 0, 1) := by decide +kernel
theorem dX11_run_70 : decode cX11_run 70 = .ok (.putfield 230, 3) := by decide +kernel
theorem dX11_run_73 : decode cX11_run 73 = .ok (.aload_n 0, 1) := by decide +kernel
theorem dX11_run_74 : decode cX11_run 74 = .ok (.iconst 0, 1) := by decide +kernel
theorem dX11_run_75 : decode cX11_run 75 = .ok (.putfield 174, 3) := by decide +kernel
theorem dX11_run_78 : decode cX11_run 78 = .ok (.aload_n 0, 1) := by decide +kernel
theorem dX11_run_79 : decode cX11_run 79 = .ok (.iconst 0, 1) := by decide +kernel
theorem dX11_run_80 : decode cX11_run 80 = .ok (.putfield 146, 3) := by decide +kernel
theorem dX11_run_83 : decode cX11_run 83 = .ok (.aload_n 0, 1) := by decide +kernel
theorem dX11_run_84 : decode cX11_run 84 = .ok (.iconst 0, 1) := by decide +kernel
theorem dX11_run_85 : decode cX11_run 85 = .ok (.putfield 162, 3) := by decide +kernel
theorem dX11_run_88 : decode cX11_run 88 = .ok (.aload_n 0, 1) := by decide +kernel
theorem dX11_run_89 : decode cX11_run 89 = .ok (.iload_n 2, 1) := by decide +kernel
theorem dX11_run_90 : decode cX11_run 90 = .ok (.putfield 165, 3) := by decide +kernel
theorem dX11_run_93 : decode cX11_run 93 = .ok (.aload_n 0, 1) := by decide +kernel
theorem dX11_run_94 : decode cX11_run 94 = .ok (.iconst 0, 1) := by decide +kernel
theorem dX11_run_95 : decode cX11_run 95 = .ok (.putfield 236, 3) := by decide +kernel
theorem dX11_run_98 : decode cX11_run 98 = .ok (.iconst 0, 1) := by decide +kernel
theorem dX11_run_99 : decode cX11_run 99 = .ok (.istore_n 3, 1) := by decide +kernel
theorem dX11_run_100 : decode cX11_run 100 = .ok (.iload_n 3, 1) := by decide +kernel
theorem dX11_run_101 : decode cX11_run 101 = .ok (.bipush 8, 2) := by decide +kernel
theorem dX11_run_103 : decode cX11_run 103 = .ok (.if_icmp .ge 23, 3) := by decide +kernel
theorem dX11_run_106 : decode cX11_run 106 = .ok (.aload_n 0, 1) := by decide +kernel
theorem dX11_run_107 : decode cX11_run 107 = .ok (.getfield 52, 3) := by decide +kernel
theorem dX11_run_110 : decode cX11_run 110 = .ok (.iload_n 3, 1) := by decide +kernel
theorem dX11_run_111 : decode cX11_run 111 = .ok (.iconst 1, 1) := by decide +kernel
theorem dX11_run_112 : decode cX11_run 112 = .ok (.iastore, 1) := by decide +kernel
theorem dX11_run_113 : decode cX11_run 113 = .ok (.aload_n 0, 1) := by decide +kernel
theorem dX11_run_114 : decode cX11_run 114 = .ok (.getfield 55, 3) := by decide +kernel
theorem dX11_run_117 : decode cX11_run 117 = .ok (.iload_n 3, 1) := by decide +kernel
theorem dX11_run_118 : decode cX11_run 118 = .ok (.iconst 0, 1) := by decide +kernel
theorem dX11_run_119 : decode cX11_run 119 = .ok (.iastore, 1) := by decide +kernel
theorem dX11_run_120 : decode cX11_run 120 = .ok (.iinc 3 1, 3) := by decide +kernel
theorem dX11_run_123 : decode cX11_run 123 = .ok (.goto (-23), 3) := by decide +kernel
theorem dX11_run_126 : decode cX11_run 126 = .ok (.aload_n 0, 1) := by decide +kernel
theorem dX11_run_127 : decode cX11_run 127 = .ok (.iload_n 1, 1) := by decide +kernel
theorem dX11_run_128 : decode cX11_run 128 = .ok (.aload_n 0, 1) := by decide +kernel
theorem dX11_run_129 : decode cX11_run 129 = .ok (.invokevirtual 239, 3) := by decide +kernel
theorem dX11_run_132 : decode cX11_run 132 = .ok (.invokevirtual 177, 3) := by decide +kernel
theorem dX11_run_135 : decode cX11_run 135 = .ok (.iconst 1, 1) := by decide +kernel
theorem dX11_run_136 : decode cX11_run 136 = .ok (.istore_n 3, 1) := by decide +kernel
theorem dX11_run_137 : decode cX11_run 137 = .ok (.iload_n 3, 1) := by decide +kernel
theorem dX11_run_138 : decode cX11_run 138 = .ok (.ifCond .eq 112, 3) := by decide +kernel
theorem dX11_run_141 : decode cX11_run 141 = .ok (.aload_n 0, 1) := by decide +kernel
theorem dX11_run_142 : decode cX11_run 142 = .ok (.getfield 122, 3) := by decide +kernel
theorem dX11_run_145 : decode cX11_run 145 = .ok (.ifCond .ne 10, 3) := by decide +kernel
theorem dX11_run_148 : decode cX11_run 148 = .ok (.aload_n 0, 1) := by decide +kernel
theorem dX11_run_149 : decode cX11_run 149 = .ok (.invokevirtual 261, 3) := by decide +kernel
theorem dX11_run_152 : decode cX11_run 152 = .ok (.goto (-15), 3) := by decide +kernel
theorem dX11_run_155 : decode cX11_run 155 = .ok (.aload_n 0, 1) := by decide +kernel
theorem dX11_run_156 : decode cX11_run 156 = .ok (.getfield 174, 3) := by decide +kernel
theorem dX11_run_159 : decode cX11_run 159 = .ok (.ifCond .ne 8, 3) := by decide +kernel
theorem dX11_run_162 : decode cX11_run 162 = .ok (.iconst 0, 1) := by decide +kernel
theorem dX11_run_163 : decode cX11_run 163 = .ok (.istore_n 3, 1) := by decide +kernel
theorem dX11_run_164 : decode cX11_run 164 = .ok (.goto (-27), 3) := by decide +kernel
theorem dX11_run_167 : decode cX11_run 167 = .ok (.aload_n 0, 1) := by decide +kernel
theorem dX11_run_168 : decode cX11_run 168 = .ok (.getfield 122, 3) := by decide +kernel
theorem dX11_run_171 : decode cX11_run 171 = .ok (.iconst 1, 1) := by decide +kernel
theorem dX11_run_172 : decode cX11_run 172 = .ok (.if_icmp .ne 10, 3) := by decide +kernel
theorem dX11_run_175 : decode cX11_run 175 = .ok (.aload_n 0, 1) := by decide +kernel
theorem dX11_run_176 : decode cX11_run 176 = .ok (.invokevirtual 264, 3) := by decide +kernel
theorem dX11_run_179 : decode cX11_run 179 = .ok (.goto (-42), 3) := by decide +kernel
theorem dX11_run_182 : decode cX11_run 182 = .ok (.aload_n 0, 1) := by decide +kernel
theorem dX11_run_183 : decode cX11_run 183 = .ok (.getfield 122, 3) := by decide +kernel
theorem dX11_run_186 : decode cX11_run 186 = .ok (.iconst 2, 1) := by decide +kernel
theorem dX11_run_187 : decode cX11_run 187 = .ok (.if_icmp .ne 10, 3) := by decide +kernel
theorem dX11_run_190 : decode cX11_run 190 = .ok (.aload_n 0, 1) := by decide +kernel
theorem dX11_run_191 : decode cX11_run 191 = .ok (.invokevirtual 267, 3) := by decide +kernel
theorem dX11_run_194 : decode cX11_run 194 = .ok (.goto (-57), 3) := by decide +kernel
theorem dX11_run_197 : decode cX11_run 197 = .ok (.aload_n 0, 1) := by decide +kernel
theorem dX11_run_198 : decode cX11_run 198 = .ok (.dup, 1) := by decide +kernel
theorem dX11_run_199 : decode cX11_run 199 = .ok (.getfield 174, 3) := by decide +kernel
theorem dX11_run_202 : decode cX11_run 202 = .ok (.iconst 1, 1) := by decide +kernel
theorem dX11_run_203 : decode cX11_run 203 = .ok (.isub, 1) := by decide +kernel
theorem dX11_run_204 : decode cX11_run 204 = .ok (.putfield 174, 3) := by decide +kernel
theorem dX11_run_207 : decode cX11_run 207 = .ok (.aload_n 0, 1) := by decide +kernel
theorem dX11_run_208 : decode cX11_run 208 = .ok (.aload_n 0, 1) := by decide +kernel
theorem dX11_run_209 : decode cX11_run 209 = .ok (.getfield 174, 3) := by decide +kernel
theorem dX11_run_212 : decode cX11_run 212 = .ok (.aload_n 0, 1) := by decide +kernel
theorem dX11_run_213 : decode cX11_run 213 = .ok (.getfield 70, 3) := by decide +kernel
theorem dX11_run_216 : decode cX11_run 216 = .ok (.aload_n 0, 1) := by decide +kernel
theorem dX11_run_217 : decode cX11_run 217 = .ok (.getfield 174, 3) := by decide +kernel
theorem dX11_run_220 : decode cX11_run 220 = .ok (.iaload, 1) := by decide +kernel
theorem dX11_run_221 : decode cX11_run 221 = .ok (.aload_n 0, 1) := by decide +kernel
theorem dX11_run_222 : decode cX11_run 222 = .ok (.getfield 7, 3) := by decide +kernel
theorem dX11_run_225 : decode cX11_run 225 = .ok (.aload_n 0, 1) := by decide +kernel
theorem dX11_run_226 : decode cX11_run 226 = .ok (.getfield 70, 3) := by decide +kernel
theorem dX11_run_229 : decode cX11_run 229 = .ok (.aload_n 0, 1) := by decide +kernel
theorem dX11_run_230 : decode cX11_run 230 = .ok (.getfield 174, 3) := by decide +kernel
theorem dX11_run_233 : decode cX11_run 233 = .ok (.iaload, 1) := by decide +kernel
theorem dX11_run_234 : decode cX11_run 234 = .ok (.iaload, 1) := by decide +kernel
theorem dX11_run_235 : decode cX11_run 235 = .ok (.aload_n 0, 1) := by decide +kernel
theorem dX11_run_236 : decode cX11_run 236 = .ok (.getfield 73, 3) := by decide +kernel
theorem dX11_run_239 : decode cX11_run 239 = .ok (.aload_n 0, 1) := by decide +kernel
theorem dX11_run_240 : decode cX11_run 240 = .ok (.getfield 174, 3) := by decide +kernel
theorem dX11_run_243 : decode cX11_run 243 = .ok (.iaload, 1) := by decide +kernel
theorem dX11_run_244 : decode cX11_run 244 = .ok (.invokevirtual 252, 3) := by decide +kernel
theorem dX11_run_247 : decode cX11_run 247 = .ok (.goto (-110), 3) := by decide +kernel
theorem dX11_run_250 : decode cX11_run 250 = .ok (.aload_n 0, 1) := by decide +kernel
theorem dX11_run_251 : decode cX11_run 251 = .ok (.aload_n 0, 1) := by decide +kernel
theorem dX11_run_252 : decode cX11_run 252 = .ok (.getfield 162, 3) := by decide +kernel
theorem dX11_run_255 : decode cX11_run 255 = .ok (.putfield 270, 3) := by decide +kernel
theorem dX11_run_258 : decode cX11_run 258 = .ok (.aload_n 0, 1) := by decide +kernel
theorem dX11_run_259 : decode cX11_run 259 = .ok (.aload_n 0, 1) := by decide +kernel
theorem dX11_run_260 : decode cX11_run 260 = .ok (.getfield 146, 3) := by decide +kernel
theorem dX11_run_263 : decode cX11_run 263 = .ok (.putfield 273, 3) := by decide +kernel
theorem dX11_run_266 : decode cX11_run 266 = .ok (.aload_n 0, 1) := by decide +kernel
theorem dX11_run_267 : decode cX11_run 267 = .ok (.getfield 122, 3) := by decide +kernel
theorem dX11_run_270 : decode cX11_run 270 = .ok (.iconst 1, 1) := by decide +kernel
theorem dX11_run_271 : decode cX11_run 271 = .ok (.if_icmp .ne 7, 3) := by decide +kernel
theorem dX11_run_274 : decode cX11_run 274 = .ok (.iconst 1, 1) := by decide +kernel
theorem dX11_run_275 : decode cX11_run 275 = .ok (.goto 4, 3) := by decide +kernel
theorem dX11_run_278 : decode cX11_run 278 = .ok (.iconst 0, 1) := by decide +kernel
theorem dX11_run_279 : decode cX11_run 279 = .ok (.istore 4, 2) := by decide +kernel
theorem dX11_run_281 : decode cX11_run 281 = .ok (.aload_n 0, 1) := by decide +kernel
theorem dX11_run_282 : decode cX11_run 282 = .ok (.iload 4, 2) := by decide +kernel
theorem dX11_run_284 : decode cX11_run 284 = .ok (.ifCond .eq 10, 3) := by decide +kernel
theorem dX11_run_287 : decode cX11_run 287 = .ok (.aload_n 0, 1) := by decide +kernel
theorem dX11_run_288 : decode cX11_run 288 = .ok (.getfield 125, 3) := by decide +kernel
theorem dX11_run_291 : decode cX11_run 291 = .ok (.goto 4, 3) := by decide +kernel
theorem dX11_run_294 : decode cX11_run 294 = .ok (.iconst 1, 1) := by decide +kernel
theorem dX11_run_295 : decode cX11_run 295 = .ok (.putfield 101, 3) := by decide +kernel
theorem dX11_run_298 : decode cX11_run 298 = .ok (.aload_n 0, 1) := by decide +kernel
theorem dX11_run_299 : decode cX11_run 299 = .ok (.iload 4, 2) := by decide +kernel
theorem dX11_run_301 : decode cX11_run 301 = .ok (.ifCond .eq 10, 3) := by decide +kernel
theorem dX11_run_304 : decode cX11_run 304 = .ok (.aload_n 0, 1) := by decide +kernel
theorem dX11_run_305 : decode cX11_run 305 = .ok (.getfield 128, 3) := by decide +kernel
theorem dX11_run_308 : decode cX11_run 308 = .ok (.goto 4, 3) := by decide +kernel
theorem dX11_run_311 : decode cX11_run 311 = .ok (.iconst 0, 1) := by decide +kernel
theorem dX11_run_312 : decode cX11_run 312 = .ok (.putfield 276, 3) := by decide +kernel
theorem dX11_run_315 : decode cX11_run 315 = .ok (.aload_n 0, 1) := by decide +kernel
theorem dX11_run_316 : decode cX11_run 316 = .ok (.iload 4, 2) := by decide +kernel
theorem dX11_run_318 : decode cX11_run 318 = .ok (.ifCond .eq 7, 3) := by decide +kernel
theorem dX11_run_321 : decode cX11_run 321 = .ok (.iconst 0, 1) := by decide +kernel
theorem dX11_run_322 : decode cX11_run 322 = .ok (.goto 7, 3) := by decide +kernel
theorem dX11_run_325 : decode cX11_run 325 = .ok (.aload_n 0, 1) := by decide +kernel
theorem dX11_run_326 : decode cX11_run 326 = .ok (.getfield 137, 3) := by decide +kernel
theorem dX11_run_329 : decode cX11_run 329 = .ok (.putfield 279, 3) := by decide +kernel
theorem dX11_run_332 : decode cX11_run 332 = .ok (.aload_n 0, 1) := by decide +kernel
theorem dX11_run_333 : decode cX11_run 333 = .ok (.iload 4, 2) := by decide +kernel
theorem dX11_run_335 : decode cX11_run 335 = .ok (.ifCond .eq 7, 3) := by decide +kernel
theorem dX11_run_338 : decode cX11_run 338 = .ok (.iconst 0, 1) := by decide +kernel
theorem dX11_run_339 : decode cX11_run 339 = .ok (.goto 7, 3) := by decide +kernel
theorem dX11_run_342 : decode cX11_run 342 = .ok (.aload_n 0, 1) := by decide +kernel
theorem dX11_run_343 : decode cX11_run 343 = .ok (.getfield 140, 3) := by decide +kernel
theorem dX11_run_346 : decode cX11_run 346 = .ok (.putfield 282, 3) := by decide +kernel
theorem dX11_run_349 : decode cX11_run 349 = .ok (.aload_n 0, 1) := by decide +kernel
theorem dX11_run_350 : decode cX11_run 350 = .ok (.iload 4, 2) := by decide +kernel
theorem dX11_run_352 : decode cX11_run 352 = .ok (.ifCond .eq 7, 3) := by decide +kernel
theorem dX11_run_355 : decode cX11_run 355 = .ok (.iconst (-1), 1) := by decide +kernel
theorem dX11_run_356 : decode cX11_run 356 = .ok (.goto 7, 3) := by decide +kernel
theorem dX11_run_359 : decode cX11_run 359 = .ok (.aload_n 0, 1) := by decide +kernel
theorem dX11_run_360 : decode cX11_run 360 = .ok (.getfield 143, 3) := by decide +kernel
theorem dX11_run_363 : decode cX11_run 363 = .ok (.putfield 97, 3) := by decide +kernel
theorem dX11_run_366 : decode cX11_run 366 = .ok (.iload 4, 2) := by decide +kernel
theorem dX11_run_368 : decode cX11_run 368 = .ok (.ifCond .eq 10, 3) := by decide +kernel
theorem dX11_run_371 : decode cX11_run 371 = .ok (.aload_n 0, 1) := by decide +kernel
theorem dX11_run_372 : decode cX11_run 372 = .ok (.getfield 125, 3) := by decide +kernel
theorem dX11_run_375 : decode cX11_run 375 = .ok (.goto 10, 3) := by decide +kernel
theorem dX11_run_378 : decode cX11_run 378 = .ok (.bipush (-10), 2) := by decide +kernel
theorem dX11_run_380 : decode cX11_run 380 = .ok (.aload_n 0, 1) := by decide +kernel
theorem dX11_run_381 : decode cX11_run 381 = .ok (.getfield 137, 3) := by decide +kernel
theorem dX11_run_384 : decode cX11_run 384 = .ok (.isub, 1) := by decide +kernel
theorem dX11_run_385 : decode cX11_run 385 = .ok (.ireturn, 1) := by decide +kernel
theorem dX11_ended_0 : decode cX11_ended 0 = .ok (.aload_n 0, 1) := by decide +kernel
theorem dX11_ended_1 : decode cX11_ended 1 = .ok (.iconst 0, 1) := by decide +kernel
theorem dX11_ended_2 : decode cX11_ended 2 = .ok (.putfield 111, 3) := by decide +kernel
theorem dX11_ended_5 : decode cX11_ended 5 = .ok (.iload_n 1, 1) := by decide +kernel
theorem dX11_ended_6 : decode cX11_ended 6 = .ok (.tableswitch 59 0 4 #[34, 39, 44, 49, 54], 34) := by decide +kernel
theorem dX11_ended_40 : decode cX11_ended 40 = .ok (.aload_n 0, 1) := by decide +kernel
theorem dX11_ended_41 : decode cX11_ended 41 = .ok (.getfield 279, 3) := by decide +kernel
theorem dX11_ended_44 : decode cX11_ended 44 = .ok (.ireturn, 1) := by decide +kernel
theorem dX11_ended_45 : decode cX11_ended 45 = .ok (.aload_n 0, 1) := by decide +kernel
theorem dX11_ended_46 : decode cX11_ended 46 = .ok (.getfield 282, 3) := by decide +kernel
theorem dX11_ended_49 : decode cX11_ended 49 = .ok (.ireturn, 1) := by decide +kernel
theorem dX11_ended_50 : decode cX11_ended 50 = .ok (.aload_n 0, 1) := by decide +kernel
theorem dX11_ended_51 : decode cX11_ended 51 = .ok (.getfield 97, 3) := by decide +kernel
theorem dX11_ended_54 : decode cX11_ended 54 = .ok (.ireturn, 1) := by decide +kernel
theorem dX11_ended_55 : decode cX11_ended 55 = .ok (.aload_n 0, 1) := by decide +kernel
theorem dX11_ended_56 : decode cX11_ended 56 = .ok (.getfield 270, 3) := by decide +kernel
theorem dX11_ended_59 : decode cX11_ended 59 = .ok (.ireturn, 1) := by decide +kernel
theorem dX11_ended_60 : decode cX11_ended 60 = .ok (.aload_n 0, 1) := by decide +kernel
theorem dX11_ended_61 : decode cX11_ended 61 = .ok (.getfield 273, 3) := by decide +kernel
theorem dX11_ended_64 : decode cX11_ended 64 = .ok (.ireturn, 1) := by decide +kernel
theorem dX11_ended_65 : decode cX11_ended 65 = .ok (.bipush (-102), 2) := by decide +kernel
theorem dX11_ended_67 : decode cX11_ended 67 = .ok (.ireturn, 1) := by decide +kernel
theorem dX11_numberOf_0 : decode cX11_numberOf 0 = .ok (.iload_n 1, 1) := by decide +kernel
theorem dX11_numberOf_1 : decode cX11_numberOf 1 = .ok (.ifCond .ne 7, 3) := by decide +kernel
theorem dX11_numberOf_4 : decode cX11_numberOf 4 = .ok (.iload_n 2, 1) := by decide +kernel
theorem dX11_numberOf_5 : decode cX11_numberOf 5 = .ok (.goto 20, 3) := by decide +kernel
theorem dX11_numberOf_8 : decode cX11_numberOf 8 = .ok (.iload_n 1, 1) := by decide +kernel
theorem dX11_numberOf_9 : decode cX11_numberOf 9 = .ok (.invokestatic 246, 3) := by decide +kernel
theorem dX11_numberOf_12 : decode cX11_numberOf 12 = .ok (.ifCond .eq 12, 3) := by decide +kernel
theorem dX11_numberOf_15 : decode cX11_numberOf 15 = .ok (.aload_n 0, 1) := by decide +kernel
theorem dX11_numberOf_16 : decode cX11_numberOf 16 = .ok (.getfield 22, 3) := by decide +kernel
theorem dX11_numberOf_19 : decode cX11_numberOf 19 = .ok (.iload_n 2, 1) := by decide +kernel
theorem dX11_numberOf_20 : decode cX11_numberOf 20 = .ok (.iaload, 1) := by decide +kernel
theorem dX11_numberOf_21 : decode cX11_numberOf 21 = .ok (.goto 4, 3) := by decide +kernel
theorem dX11_numberOf_24 : decode cX11_numberOf 24 = .ok (.iconst 0, 1) := by decide +kernel
theorem dX11_numberOf_25 : decode cX11_numberOf 25 = .ok (.ireturn, 1) := by decide +kernel
theorem dX11_gave_0 : decode cX11_gave 0 = .ok (.aload_n 0, 1) := by decide +kernel
theorem dX11_gave_1 : decode cX11_gave 1 = .ok (.iconst 0, 1) := by decide +kernel
theorem dX11_gave_2 : decode cX11_gave 2 = .ok (.putfield 111, 3) := by decide +kernel
theorem dX11_gave_5 : decode cX11_gave 5 = .ok (.aload_n 0, 1) := by decide +kernel
theorem dX11_gave_6 : decode cX11_gave 6 = .ok (.aload_n 0, 1) := by decide +kernel
theorem dX11_gave_7 : decode cX11_gave 7 = .ok (.getfield 101, 3) := by decide +kernel
theorem dX11_gave_10 : decode cX11_gave 10 = .ok (.aload_n 0, 1) := by decide +kernel
theorem dX11_gave_11 : decode cX11_gave 11 = .ok (.getfield 276, 3) := by decide +kernel
theorem dX11_gave_14 : decode cX11_gave 14 = .ok (.invokevirtual 285, 3) := by decide +kernel
theorem dX11_gave_17 : decode cX11_gave 17 = .ok (.ireturn, 1) := by decide +kernel
theorem dX11_thrown_0 : decode cX11_thrown 0 = .ok (.aload_n 0, 1) := by decide +kernel
theorem dX11_thrown_1 : decode cX11_thrown 1 = .ok (.getfield 111, 3) := by decide +kernel
theorem dX11_thrown_4 : decode cX11_thrown 4 = .ok (.ireturn, 1) := by decide +kernel
theorem dX11_place_0 : decode cX11_place 0 = .ok (.aload_n 0, 1) := by decide +kernel
theorem dX11_place_1 : decode cX11_place 1 = .ok (.iconst 0, 1) := by decide +kernel
theorem dX11_place_2 : decode cX11_place 2 = .ok (.putfield 111, 3) := by decide +kernel
theorem dX11_place_5 : decode cX11_place 5 = .ok (.aload_n 0, 1) := by decide +kernel
theorem dX11_place_6 : decode cX11_place 6 = .ok (.getfield 101, 3) := by decide +kernel
theorem dX11_place_9 : decode cX11_place 9 = .ok (.invokestatic 246, 3) := by decide +kernel
theorem dX11_place_12 : decode cX11_place 12 = .ok (.ifCond .ne 5, 3) := by decide +kernel
theorem dX11_place_15 : decode cX11_place 15 = .ok (.iconst 0, 1) := by decide +kernel
theorem dX11_place_16 : decode cX11_place 16 = .ok (.ireturn, 1) := by decide +kernel
theorem dX11_place_17 : decode cX11_place 17 = .ok (.iload_n 1, 1) := by decide +kernel
theorem dX11_place_18 : decode cX11_place 18 = .ok (.iconst 0, 1) := by decide +kernel
theorem dX11_place_19 : decode cX11_place 19 = .ok (.aload_n 0, 1) := by decide +kernel
theorem dX11_place_20 : decode cX11_place 20 = .ok (.getfield 22, 3) := by decide +kernel
theorem dX11_place_23 : decode cX11_place 23 = .ok (.aload_n 0, 1) := by decide +kernel
theorem dX11_place_24 : decode cX11_place 24 = .ok (.getfield 276, 3) := by decide +kernel
theorem dX11_place_27 : decode cX11_place 27 = .ok (.iaload, 1) := by decide +kernel
theorem dX11_place_28 : decode cX11_place 28 = .ok (.iconst 1, 1) := by decide +kernel
theorem dX11_place_29 : decode cX11_place 29 = .ok (.isub, 1) := by decide +kernel
theorem dX11_place_30 : decode cX11_place 30 = .ok (.invokestatic 107, 3) := by decide +kernel
theorem dX11_place_33 : decode cX11_place 33 = .ok (.ifCond .ne 10, 3) := by decide +kernel
theorem dX11_place_36 : decode cX11_place 36 = .ok (.aload_n 0, 1) := by decide +kernel
theorem dX11_place_37 : decode cX11_place 37 = .ok (.iconst 1, 1) := by decide +kernel
theorem dX11_place_38 : decode cX11_place 38 = .ok (.putfield 111, 3) := by decide +kernel
theorem dX11_place_41 : decode cX11_place 41 = .ok (.iconst 0, 1) := by decide +kernel
theorem dX11_place_42 : decode cX11_place 42 = .ok (.ireturn, 1) := by decide +kernel
theorem dX11_place_43 : decode cX11_place 43 = .ok (.bipush 16, 2) := by decide +kernel
theorem dX11_place_45 : decode cX11_place 45 = .ok (.aload_n 0, 1) := by decide +kernel
theorem dX11_place_46 : decode cX11_place 46 = .ok (.getfield 276, 3) := by decide +kernel
theorem dX11_place_49 : decode cX11_place 49 = .ok (.imul, 1) := by decide +kernel
theorem dX11_place_50 : decode cX11_place 50 = .ok (.iload_n 1, 1) := by decide +kernel
theorem dX11_place_51 : decode cX11_place 51 = .ok (.iadd, 1) := by decide +kernel
theorem dX11_place_52 : decode cX11_place 52 = .ok (.istore_n 2, 1) := by decide +kernel
theorem dX11_place_53 : decode cX11_place 53 = .ok (.aload_n 0, 1) := by decide +kernel
theorem dX11_place_54 : decode cX11_place 54 = .ok (.getfield 101, 3) := by decide +kernel
theorem dX11_place_57 : decode cX11_place 57 = .ok (.iconst 2, 1) := by decide +kernel
theorem dX11_place_58 : decode cX11_place 58 = .ok (.if_icmp .ne 10, 3) := by decide +kernel
theorem dX11_place_61 : decode cX11_place 61 = .ok (.aload_n 0, 1) := by decide +kernel
theorem dX11_place_62 : decode cX11_place 62 = .ok (.getfield 28, 3) := by decide +kernel
theorem dX11_place_65 : decode cX11_place 65 = .ok (.iload_n 2, 1) := by decide +kernel
theorem dX11_place_66 : decode cX11_place 66 = .ok (.iaload, 1) := by decide +kernel
theorem dX11_place_67 : decode cX11_place 67 = .ok (.ireturn, 1) := by decide +kernel
theorem dX11_place_68 : decode cX11_place 68 = .ok (.aload_n 0, 1) := by decide +kernel
theorem dX11_place_69 : decode cX11_place 69 = .ok (.getfield 25, 3) := by decide +kernel
theorem dX11_place_72 : decode cX11_place 72 = .ok (.iload_n 2, 1) := by decide +kernel
theorem dX11_place_73 : decode cX11_place 73 = .ok (.iaload, 1) := by decide +kernel
theorem dX11_place_74 : decode cX11_place 74 = .ok (.iconst 1, 1) := by decide +kernel
theorem dX11_place_75 : decode cX11_place 75 = .ok (.if_icmp .ne 7, 3) := by decide +kernel
theorem dX11_place_78 : decode cX11_place 78 = .ok (.iconst 0, 1) := by decide +kernel
theorem dX11_place_79 : decode cX11_place 79 = .ok (.goto 18, 3) := by decide +kernel
theorem dX11_place_82 : decode cX11_place 82 = .ok (.aload_n 0, 1) := by decide +kernel
theorem dX11_place_83 : decode cX11_place 83 = .ok (.getfield 25, 3) := by decide +kernel
theorem dX11_place_86 : decode cX11_place 86 = .ok (.iload_n 2, 1) := by decide +kernel
theorem dX11_place_87 : decode cX11_place 87 = .ok (.iaload, 1) := by decide +kernel
theorem dX11_place_88 : decode cX11_place 88 = .ok (.iconst 5, 1) := by decide +kernel
theorem dX11_place_89 : decode cX11_place 89 = .ok (.if_icmp .ne 7, 3) := by decide +kernel
theorem dX11_place_92 : decode cX11_place 92 = .ok (.iconst 1, 1) := by decide +kernel
theorem dX11_place_93 : decode cX11_place 93 = .ok (.goto 4, 3) := by decide +kernel
theorem dX11_place_96 : decode cX11_place 96 = .ok (.iconst 2, 1) := by decide +kernel
theorem dX11_place_97 : decode cX11_place 97 = .ok (.ireturn, 1) := by decide +kernel
theorem dX11_box_0 : decode cX11_box 0 = .ok (.aload_n 0, 1) := by decide +kernel
theorem dX11_box_1 : decode cX11_box 1 = .ok (.iconst 0, 1) := by decide +kernel
theorem dX11_box_2 : decode cX11_box 2 = .ok (.putfield 111, 3) := by decide +kernel
theorem dX11_box_5 : decode cX11_box 5 = .ok (.iload_n 1, 1) := by decide +kernel
theorem dX11_box_6 : decode cX11_box 6 = .ok (.iconst 0, 1) := by decide +kernel
theorem dX11_box_7 : decode cX11_box 7 = .ok (.bipush 7, 2) := by decide +kernel
theorem dX11_box_9 : decode cX11_box 9 = .ok (.invokestatic 107, 3) := by decide +kernel
theorem dX11_box_12 : decode cX11_box 12 = .ok (.ifCond .eq 12, 3) := by decide +kernel
theorem dX11_box_15 : decode cX11_box 15 = .ok (.aload_n 0, 1) := by decide +kernel
theorem dX11_box_16 : decode cX11_box 16 = .ok (.getfield 52, 3) := by decide +kernel
theorem dX11_box_19 : decode cX11_box 19 = .ok (.iload_n 1, 1) := by decide +kernel
theorem dX11_box_20 : decode cX11_box 20 = .ok (.iaload, 1) := by decide +kernel
theorem dX11_box_21 : decode cX11_box 21 = .ok (.goto 5, 3) := by decide +kernel
theorem dX11_box_24 : decode cX11_box 24 = .ok (.bipush (-102), 2) := by decide +kernel
theorem dX11_box_26 : decode cX11_box 26 = .ok (.ireturn, 1) := by decide +kernel
theorem dX11_boxed_0 : decode cX11_boxed 0 = .ok (.aload_n 0, 1) := by decide +kernel
theorem dX11_boxed_1 : decode cX11_boxed 1 = .ok (.iconst 0, 1) := by decide +kernel
theorem dX11_boxed_2 : decode cX11_boxed 2 = .ok (.putfield 111, 3) := by decide +kernel
theorem dX11_boxed_5 : decode cX11_boxed 5 = .ok (.iload_n 1, 1) := by decide +kernel
theorem dX11_boxed_6 : decode cX11_boxed 6 = .ok (.iconst 0, 1) := by decide +kernel
theorem dX11_boxed_7 : decode cX11_boxed 7 = .ok (.bipush 7, 2) := by decide +kernel
theorem dX11_boxed_9 : decode cX11_boxed 9 = .ok (.invokestatic 107, 3) := by decide +kernel
theorem dX11_boxed_12 : decode cX11_boxed 12 = .ok (.ifCond .eq 22, 3) := by decide +kernel
theorem dX11_boxed_15 : decode cX11_boxed 15 = .ok (.aload_n 0, 1) := by decide +kernel
theorem dX11_boxed_16 : decode cX11_boxed 16 = .ok (.aload_n 0, 1) := by decide +kernel
theorem dX11_boxed_17 : decode cX11_boxed 17 = .ok (.getfield 52, 3) := by decide +kernel
theorem dX11_boxed_20 : decode cX11_boxed 20 = .ok (.iload_n 1, 1) := by decide +kernel
theorem dX11_boxed_21 : decode cX11_boxed 21 = .ok (.iaload, 1) := by decide +kernel
theorem dX11_boxed_22 : decode cX11_boxed 22 = .ok (.aload_n 0, 1) := by decide +kernel
theorem dX11_boxed_23 : decode cX11_boxed 23 = .ok (.getfield 55, 3) := by decide +kernel
theorem dX11_boxed_26 : decode cX11_boxed 26 = .ok (.iload_n 1, 1) := by decide +kernel
theorem dX11_boxed_27 : decode cX11_boxed 27 = .ok (.iaload, 1) := by decide +kernel
theorem dX11_boxed_28 : decode cX11_boxed 28 = .ok (.invokevirtual 285, 3) := by decide +kernel
theorem dX11_boxed_31 : decode cX11_boxed 31 = .ok (.goto 4, 3) := by decide +kernel
theorem dX11_boxed_34 : decode cX11_boxed 34 = .ok (.iconst 0, 1) := by decide +kernel
theorem dX11_boxed_35 : decode cX11_boxed 35 = .ok (.ireturn, 1) := by decide +kernel
theorem dX11_same_0 : decode cX11_same 0 = .ok (.aload_n 0, 1) := by decide +kernel
theorem dX11_same_1 : decode cX11_same 1 = .ok (.iconst 0, 1) := by decide +kernel
theorem dX11_same_2 : decode cX11_same 2 = .ok (.putfield 111, 3) := by decide +kernel
theorem dX11_same_5 : decode cX11_same 5 = .ok (.iload_n 1, 1) := by decide +kernel
theorem dX11_same_6 : decode cX11_same 6 = .ok (.iconst 0, 1) := by decide +kernel
theorem dX11_same_7 : decode cX11_same 7 = .ok (.bipush 7, 2) := by decide +kernel
theorem dX11_same_9 : decode cX11_same 9 = .ok (.invokestatic 107, 3) := by decide +kernel
theorem dX11_same_12 : decode cX11_same 12 = .ok (.ifCond .eq 13, 3) := by decide +kernel
theorem dX11_same_15 : decode cX11_same 15 = .ok (.iload_n 2, 1) := by decide +kernel
theorem dX11_same_16 : decode cX11_same 16 = .ok (.iconst 0, 1) := by decide +kernel
theorem dX11_same_17 : decode cX11_same 17 = .ok (.bipush 7, 2) := by decide +kernel
theorem dX11_same_19 : decode cX11_same 19 = .ok (.invokestatic 107, 3) := by decide +kernel
theorem dX11_same_22 : decode cX11_same 22 = .ok (.ifCond .ne 6, 3) := by decide +kernel
theorem dX11_same_25 : decode cX11_same 25 = .ok (.bipush (-102), 2) := by decide +kernel
theorem dX11_same_27 : decode cX11_same 27 = .ok (.ireturn, 1) := by decide +kernel
theorem dX11_same_28 : decode cX11_same 28 = .ok (.aload_n 0, 1) := by decide +kernel
theorem dX11_same_29 : decode cX11_same 29 = .ok (.getfield 52, 3) := by decide +kernel
theorem dX11_same_32 : decode cX11_same 32 = .ok (.iload_n 1, 1) := by decide +kernel
theorem dX11_same_33 : decode cX11_same 33 = .ok (.iaload, 1) := by decide +kernel
theorem dX11_same_34 : decode cX11_same 34 = .ok (.aload_n 0, 1) := by decide +kernel
theorem dX11_same_35 : decode cX11_same 35 = .ok (.getfield 52, 3) := by decide +kernel
theorem dX11_same_38 : decode cX11_same 38 = .ok (.iload_n 2, 1) := by decide +kernel
theorem dX11_same_39 : decode cX11_same 39 = .ok (.iaload, 1) := by decide +kernel
theorem dX11_same_40 : decode cX11_same 40 = .ok (.if_icmp .ne 32, 3) := by decide +kernel
theorem dX11_same_43 : decode cX11_same 43 = .ok (.aload_n 0, 1) := by decide +kernel
theorem dX11_same_44 : decode cX11_same 44 = .ok (.getfield 52, 3) := by decide +kernel
theorem dX11_same_47 : decode cX11_same 47 = .ok (.iload_n 1, 1) := by decide +kernel
theorem dX11_same_48 : decode cX11_same 48 = .ok (.iaload, 1) := by decide +kernel
theorem dX11_same_49 : decode cX11_same 49 = .ok (.iconst 1, 1) := by decide +kernel
theorem dX11_same_50 : decode cX11_same 50 = .ok (.if_icmp .eq 18, 3) := by decide +kernel
theorem dX11_same_53 : decode cX11_same 53 = .ok (.aload_n 0, 1) := by decide +kernel
theorem dX11_same_54 : decode cX11_same 54 = .ok (.getfield 55, 3) := by decide +kernel
theorem dX11_same_57 : decode cX11_same 57 = .ok (.iload_n 1, 1) := by decide +kernel
theorem dX11_same_58 : decode cX11_same 58 = .ok (.iaload, 1) := by decide +kernel
theorem dX11_same_59 : decode cX11_same 59 = .ok (.aload_n 0, 1) := by decide +kernel
theorem dX11_same_60 : decode cX11_same 60 = .ok (.getfield 55, 3) := by decide +kernel
theorem dX11_same_63 : decode cX11_same 63 = .ok (.iload_n 2, 1) := by decide +kernel
theorem dX11_same_64 : decode cX11_same 64 = .ok (.iaload, 1) := by decide +kernel
theorem dX11_same_65 : decode cX11_same 65 = .ok (.if_icmp .ne 7, 3) := by decide +kernel
theorem dX11_same_68 : decode cX11_same 68 = .ok (.iconst 1, 1) := by decide +kernel
theorem dX11_same_69 : decode cX11_same 69 = .ok (.goto 4, 3) := by decide +kernel
theorem dX11_same_72 : decode cX11_same 72 = .ok (.iconst 0, 1) := by decide +kernel
theorem dX11_same_73 : decode cX11_same 73 = .ok (.ireturn, 1) := by decide +kernel
theorem dX11_out_0 : decode cX11_out 0 = .ok (.aload_n 0, 1) := by decide +kernel
theorem dX11_out_1 : decode cX11_out 1 = .ok (.iconst 0, 1) := by decide +kernel
theorem dX11_out_2 : decode cX11_out 2 = .ok (.putfield 111, 3) := by decide +kernel
theorem dX11_out_5 : decode cX11_out 5 = .ok (.iload_n 1, 1) := by decide +kernel
theorem dX11_out_6 : decode cX11_out 6 = .ok (.iconst 0, 1) := by decide +kernel
theorem dX11_out_7 : decode cX11_out 7 = .ok (.aload_n 0, 1) := by decide +kernel
theorem dX11_out_8 : decode cX11_out 8 = .ok (.getfield 230, 3) := by decide +kernel
theorem dX11_out_11 : decode cX11_out 11 = .ok (.iconst 1, 1) := by decide +kernel
theorem dX11_out_12 : decode cX11_out 12 = .ok (.isub, 1) := by decide +kernel
theorem dX11_out_13 : decode cX11_out 13 = .ok (.invokestatic 107, 3) := by decide +kernel
theorem dX11_out_16 : decode cX11_out 16 = .ok (.ifCond .eq 12, 3) := by decide +kernel
theorem dX11_out_19 : decode cX11_out 19 = .ok (.aload_n 0, 1) := by decide +kernel
theorem dX11_out_20 : decode cX11_out 20 = .ok (.getfield 67, 3) := by decide +kernel
theorem dX11_out_23 : decode cX11_out 23 = .ok (.iload_n 1, 1) := by decide +kernel
theorem dX11_out_24 : decode cX11_out 24 = .ok (.iaload, 1) := by decide +kernel
theorem dX11_out_25 : decode cX11_out 25 = .ok (.goto 5, 3) := by decide +kernel
theorem dX11_out_28 : decode cX11_out 28 = .ok (.bipush (-102), 2) := by decide +kernel
theorem dX11_out_30 : decode cX11_out 30 = .ok (.ireturn, 1) := by decide +kernel
theorem dX11_count_0 : decode cX11_count 0 = .ok (.aload_n 0, 1) := by decide +kernel
theorem dX11_count_1 : decode cX11_count 1 = .ok (.iconst 0, 1) := by decide +kernel
theorem dX11_count_2 : decode cX11_count 2 = .ok (.putfield 111, 3) := by decide +kernel
theorem dX11_count_5 : decode cX11_count 5 = .ok (.iload_n 1, 1) := by decide +kernel
theorem dX11_count_6 : decode cX11_count 6 = .ok (.ifCond .ne 10, 3) := by decide +kernel
theorem dX11_count_9 : decode cX11_count 9 = .ok (.aload_n 0, 1) := by decide +kernel
theorem dX11_count_10 : decode cX11_count 10 = .ok (.getfield 104, 3) := by decide +kernel
theorem dX11_count_13 : decode cX11_count 13 = .ok (.goto 29, 3) := by decide +kernel
theorem dX11_count_16 : decode cX11_count 16 = .ok (.iload_n 1, 1) := by decide +kernel
theorem dX11_count_17 : decode cX11_count 17 = .ok (.iconst 1, 1) := by decide +kernel
theorem dX11_count_18 : decode cX11_count 18 = .ok (.if_icmp .ne 10, 3) := by decide +kernel
theorem dX11_count_21 : decode cX11_count 21 = .ok (.aload_n 0, 1) := by decide +kernel
theorem dX11_count_22 : decode cX11_count 22 = .ok (.getfield 230, 3) := by decide +kernel
theorem dX11_count_25 : decode cX11_count 25 = .ok (.goto 17, 3) := by decide +kernel
theorem dX11_count_28 : decode cX11_count 28 = .ok (.iload_n 1, 1) := by decide +kernel
theorem dX11_count_29 : decode cX11_count 29 = .ok (.iconst 2, 1) := by decide +kernel
theorem dX11_count_30 : decode cX11_count 30 = .ok (.if_icmp .ne 10, 3) := by decide +kernel
theorem dX11_count_33 : decode cX11_count 33 = .ok (.aload_n 0, 1) := by decide +kernel
theorem dX11_count_34 : decode cX11_count 34 = .ok (.getfield 258, 3) := by decide +kernel
theorem dX11_count_37 : decode cX11_count 37 = .ok (.goto 5, 3) := by decide +kernel
theorem dX11_count_40 : decode cX11_count 40 = .ok (.bipush (-102), 2) := by decide +kernel
theorem dX11_count_42 : decode cX11_count 42 = .ok (.ireturn, 1) := by decide +kernel
theorem dX11_clear_0 : decode cX11_clear 0 = .ok (.aload_n 0, 1) := by decide +kernel
theorem dX11_clear_1 : decode cX11_clear 1 = .ok (.iconst 0, 1) := by decide +kernel
theorem dX11_clear_2 : decode cX11_clear 2 = .ok (.putfield 111, 3) := by decide +kernel
theorem dX11_clear_5 : decode cX11_clear 5 = .ok (.aload_n 0, 1) := by decide +kernel
theorem dX11_clear_6 : decode cX11_clear 6 = .ok (.getfield 104, 3) := by decide +kernel
theorem dX11_clear_9 : decode cX11_clear 9 = .ok (.istore_n 1, 1) := by decide +kernel
theorem dX11_clear_10 : decode cX11_clear 10 = .ok (.aload_n 0, 1) := by decide +kernel
theorem dX11_clear_11 : decode cX11_clear 11 = .ok (.iconst 0, 1) := by decide +kernel
theorem dX11_clear_12 : decode cX11_clear 12 = .ok (.putfield 104, 3) := by decide +kernel
theorem dX11_clear_15 : decode cX11_clear 15 = .ok (.aload_n 0, 1) := by decide +kernel
theorem dX11_clear_16 : decode cX11_clear 16 = .ok (.iconst 0, 1) := by decide +kernel
theorem dX11_clear_17 : decode cX11_clear 17 = .ok (.putfield 230, 3) := by decide +kernel
theorem dX11_clear_20 : decode cX11_clear 20 = .ok (.iconst 0, 1) := by decide +kernel
theorem dX11_clear_21 : decode cX11_clear 21 = .ok (.istore_n 2, 1) := by decide +kernel
theorem dX11_clear_22 : decode cX11_clear 22 = .ok (.iload_n 2, 1) := by decide +kernel
theorem dX11_clear_23 : decode cX11_clear 23 = .ok (.bipush 8, 2) := by decide +kernel
theorem dX11_clear_25 : decode cX11_clear 25 = .ok (.if_icmp .ge 23, 3) := by decide +kernel
theorem dX11_clear_28 : decode cX11_clear 28 = .ok (.aload_n 0, 1) := by decide +kernel
theorem dX11_clear_29 : decode cX11_clear 29 = .ok (.getfield 52, 3) := by decide +kernel
theorem dX11_clear_32 : decode cX11_clear 32 = .ok (.iload_n 2, 1) := by decide +kernel
theorem dX11_clear_33 : decode cX11_clear 33 = .ok (.iconst 1, 1) := by decide +kernel
theorem dX11_clear_34 : decode cX11_clear 34 = .ok (.iastore, 1) := by decide +kernel
theorem dX11_clear_35 : decode cX11_clear 35 = .ok (.aload_n 0, 1) := by decide +kernel
theorem dX11_clear_36 : decode cX11_clear 36 = .ok (.getfield 55, 3) := by decide +kernel
theorem dX11_clear_39 : decode cX11_clear 39 = .ok (.iload_n 2, 1) := by decide +kernel
theorem dX11_clear_40 : decode cX11_clear 40 = .ok (.iconst 0, 1) := by decide +kernel
theorem dX11_clear_41 : decode cX11_clear 41 = .ok (.iastore, 1) := by decide +kernel
theorem dX11_clear_42 : decode cX11_clear 42 = .ok (.iinc 2 1, 3) := by decide +kernel
theorem dX11_clear_45 : decode cX11_clear 45 = .ok (.goto (-23), 3) := by decide +kernel
theorem dX11_clear_48 : decode cX11_clear 48 = .ok (.aload_n 0, 1) := by decide +kernel
theorem dX11_clear_49 : decode cX11_clear 49 = .ok (.iconst 1, 1) := by decide +kernel
theorem dX11_clear_50 : decode cX11_clear 50 = .ok (.putfield 101, 3) := by decide +kernel
theorem dX11_clear_53 : decode cX11_clear 53 = .ok (.aload_n 0, 1) := by decide +kernel
theorem dX11_clear_54 : decode cX11_clear 54 = .ok (.iconst 0, 1) := by decide +kernel
theorem dX11_clear_55 : decode cX11_clear 55 = .ok (.putfield 276, 3) := by decide +kernel
theorem dX11_clear_58 : decode cX11_clear 58 = .ok (.aload_n 0, 1) := by decide +kernel
theorem dX11_clear_59 : decode cX11_clear 59 = .ok (.iconst 0, 1) := by decide +kernel
theorem dX11_clear_60 : decode cX11_clear 60 = .ok (.putfield 279, 3) := by decide +kernel
theorem dX11_clear_63 : decode cX11_clear 63 = .ok (.aload_n 0, 1) := by decide +kernel
theorem dX11_clear_64 : decode cX11_clear 64 = .ok (.iconst 0, 1) := by decide +kernel
theorem dX11_clear_65 : decode cX11_clear 65 = .ok (.putfield 282, 3) := by decide +kernel
theorem dX11_clear_68 : decode cX11_clear 68 = .ok (.aload_n 0, 1) := by decide +kernel
theorem dX11_clear_69 : decode cX11_clear 69 = .ok (.iconst (-1), 1) := by decide +kernel
theorem dX11_clear_70 : decode cX11_clear 70 = .ok (.putfield 97, 3) := by decide +kernel
theorem dX11_clear_73 : decode cX11_clear 73 = .ok (.aload_n 0, 1) := by decide +kernel
theorem dX11_clear_74 : decode cX11_clear 74 = .ok (.iconst 0, 1) := by decide +kernel
theorem dX11_clear_75 : decode cX11_clear 75 = .ok (.putfield 270, 3) := by decide +kernel
theorem dX11_clear_78 : decode cX11_clear 78 = .ok (.aload_n 0, 1) := by decide +kernel
theorem dX11_clear_79 : decode cX11_clear 79 = .ok (.iconst 0, 1) := by decide +kernel
theorem dX11_clear_80 : decode cX11_clear 80 = .ok (.putfield 273, 3) := by decide +kernel
theorem dX11_clear_83 : decode cX11_clear 83 = .ok (.iload_n 1, 1) := by decide +kernel
theorem dX11_clear_84 : decode cX11_clear 84 = .ok (.ireturn, 1) := by decide +kernel
theorem dL_place_0 : decode cL_place 0 = .ok (.aload_n 2, 1) := by decide +kernel
theorem dL_place_1 : decode cL_place 1 = .ok (.iconst 0, 1) := by decide +kernel
theorem dL_place_2 : decode cL_place 2 = .ok (.aload_n 0, 1) := by decide +kernel
theorem dL_place_3 : decode cL_place 3 = .ok (.iload_n 1, 1) := by decide +kernel
theorem dL_place_4 : decode cL_place 4 = .ok (.invokevirtual 7, 3) := by decide +kernel
theorem dL_place_7 : decode cL_place 7 = .ok (.i2l, 1) := by decide +kernel
theorem dL_place_8 : decode cL_place 8 = .ok (.lastore, 1) := by decide +kernel
theorem dL_place_9 : decode cL_place 9 = .ok (.goto 6, 3) := by decide +kernel
theorem dL_place_12 : decode cL_place 12 = .ok (.astore_n 3, 1) := by decide +kernel
theorem dL_place_13 : decode cL_place 13 = .ok (.iconst 1, 1) := by decide +kernel
theorem dL_place_14 : decode cL_place 14 = .ok (.ireturn, 1) := by decide +kernel
theorem dL_place_15 : decode cL_place 15 = .ok (.iconst 0, 1) := by decide +kernel
theorem dL_place_16 : decode cL_place 16 = .ok (.ireturn, 1) := by decide +kernel
theorem dL_law_0 : decode cL_law 0 = .ok (.new 8, 3) := by decide +kernel
theorem dL_law_3 : decode cL_law 3 = .ok (.dup, 1) := by decide +kernel
theorem dL_law_4 : decode cL_law 4 = .ok (.invokespecial 15, 3) := by decide +kernel
theorem dL_law_7 : decode cL_law 7 = .ok (.astore_n 1, 1) := by decide +kernel
theorem dL_law_8 : decode cL_law 8 = .ok (.new 16, 3) := by decide +kernel
theorem dL_law_11 : decode cL_law 11 = .ok (.dup, 1) := by decide +kernel
theorem dL_law_12 : decode cL_law 12 = .ok (.invokespecial 18, 3) := by decide +kernel
theorem dL_law_15 : decode cL_law 15 = .ok (.astore_n 2, 1) := by decide +kernel
theorem dL_law_16 : decode cL_law 16 = .ok (.iconst 1, 1) := by decide +kernel
theorem dL_law_17 : decode cL_law 17 = .ok (.newarray .long, 2) := by decide +kernel
theorem dL_law_19 : decode cL_law 19 = .ok (.astore_n 3, 1) := by decide +kernel
theorem dL_law_20 : decode cL_law 20 = .ok (.iconst 0, 1) := by decide +kernel
theorem dL_law_21 : decode cL_law 21 = .ok (.istore 4, 2) := by decide +kernel
theorem dL_law_23 : decode cL_law 23 = .ok (.iload 4, 2) := by decide +kernel
theorem dL_law_25 : decode cL_law 25 = .ok (.aload_n 0, 1) := by decide +kernel
theorem dL_law_26 : decode cL_law 26 = .ok (.arraylength, 1) := by decide +kernel
theorem dL_law_27 : decode cL_law 27 = .ok (.iconst 5, 1) := by decide +kernel
theorem dL_law_28 : decode cL_law 28 = .ok (.isub, 1) := by decide +kernel
theorem dL_law_29 : decode cL_law 29 = .ok (.if_icmp .gt 456, 3) := by decide +kernel
theorem dL_law_32 : decode cL_law 32 = .ok (.aload_n 0, 1) := by decide +kernel
theorem dL_law_33 : decode cL_law 33 = .ok (.iload 4, 2) := by decide +kernel
theorem dL_law_35 : decode cL_law 35 = .ok (.iaload, 1) := by decide +kernel
theorem dL_law_36 : decode cL_law 36 = .ok (.bipush 15, 2) := by decide +kernel
theorem dL_law_38 : decode cL_law 38 = .ok (.iand, 1) := by decide +kernel
theorem dL_law_39 : decode cL_law 39 = .ok (.tableswitch 440 0 11 #[61, 122, 159, 196, 221, 234, 290, 315, 340, 377, 402, 427], 61) := by decide +kernel
theorem dL_law_100 : decode cL_law 100 = .ok (.aload_n 1, 1) := by decide +kernel
theorem dL_law_101 : decode cL_law 101 = .ok (.aload_n 0, 1) := by decide +kernel
theorem dL_law_102 : decode cL_law 102 = .ok (.iload 4, 2) := by decide +kernel
theorem dL_law_104 : decode cL_law 104 = .ok (.iconst 1, 1) := by decide +kernel
theorem dL_law_105 : decode cL_law 105 = .ok (.iadd, 1) := by decide +kernel
theorem dL_law_106 : decode cL_law 106 = .ok (.iaload, 1) := by decide +kernel
theorem dL_law_107 : decode cL_law 107 = .ok (.aload_n 0, 1) := by decide +kernel
theorem dL_law_108 : decode cL_law 108 = .ok (.iload 4, 2) := by decide +kernel
theorem dL_law_110 : decode cL_law 110 = .ok (.iconst 2, 1) := by decide +kernel
theorem dL_law_111 : decode cL_law 111 = .ok (.iadd, 1) := by decide +kernel
theorem dL_law_112 : decode cL_law 112 = .ok (.iaload, 1) := by decide +kernel
theorem dL_law_113 : decode cL_law 113 = .ok (.aload_n 0, 1) := by decide +kernel
theorem dL_law_114 : decode cL_law 114 = .ok (.iload 4, 2) := by decide +kernel
theorem dL_law_116 : decode cL_law 116 = .ok (.iconst 3, 1) := by decide +kernel
theorem dL_law_117 : decode cL_law 117 = .ok (.iadd, 1) := by decide +kernel
theorem dL_law_118 : decode cL_law 118 = .ok (.iaload, 1) := by decide +kernel
theorem dL_law_119 : decode cL_law 119 = .ok (.aload_n 0, 1) := by decide +kernel
theorem dL_law_120 : decode cL_law 120 = .ok (.iload 4, 2) := by decide +kernel
theorem dL_law_122 : decode cL_law 122 = .ok (.iconst 4, 1) := by decide +kernel
theorem dL_law_123 : decode cL_law 123 = .ok (.iadd, 1) := by decide +kernel
theorem dL_law_124 : decode cL_law 124 = .ok (.iaload, 1) := by decide +kernel
theorem dL_law_125 : decode cL_law 125 = .ok (.invokevirtual 19, 3) := by decide +kernel
theorem dL_law_128 : decode cL_law 128 = .ok (.aload_n 2, 1) := by decide +kernel
theorem dL_law_129 : decode cL_law 129 = .ok (.aload_n 0, 1) := by decide +kernel
theorem dL_law_130 : decode cL_law 130 = .ok (.iload 4, 2) := by decide +kernel
theorem dL_law_132 : decode cL_law 132 = .ok (.iconst 1, 1) := by decide +kernel
theorem dL_law_133 : decode cL_law 133 = .ok (.iadd, 1) := by decide +kernel
theorem dL_law_134 : decode cL_law 134 = .ok (.iaload, 1) := by decide +kernel
theorem dL_law_135 : decode cL_law 135 = .ok (.aload_n 0, 1) := by decide +kernel
theorem dL_law_136 : decode cL_law 136 = .ok (.iload 4, 2) := by decide +kernel
theorem dL_law_138 : decode cL_law 138 = .ok (.iconst 2, 1) := by decide +kernel
theorem dL_law_139 : decode cL_law 139 = .ok (.iadd, 1) := by decide +kernel
theorem dL_law_140 : decode cL_law 140 = .ok (.iaload, 1) := by decide +kernel
theorem dL_law_141 : decode cL_law 141 = .ok (.aload_n 0, 1) := by decide +kernel
theorem dL_law_142 : decode cL_law 142 = .ok (.iload 4, 2) := by decide +kernel
theorem dL_law_144 : decode cL_law 144 = .ok (.iconst 3, 1) := by decide +kernel
theorem dL_law_145 : decode cL_law 145 = .ok (.iadd, 1) := by decide +kernel
theorem dL_law_146 : decode cL_law 146 = .ok (.iaload, 1) := by decide +kernel
theorem dL_law_147 : decode cL_law 147 = .ok (.aload_n 0, 1) := by decide +kernel
theorem dL_law_148 : decode cL_law 148 = .ok (.iload 4, 2) := by decide +kernel
theorem dL_law_150 : decode cL_law 150 = .ok (.iconst 4, 1) := by decide +kernel
theorem dL_law_151 : decode cL_law 151 = .ok (.iadd, 1) := by decide +kernel
theorem dL_law_152 : decode cL_law 152 = .ok (.iaload, 1) := by decide +kernel
theorem dL_law_153 : decode cL_law 153 = .ok (.invokevirtual 23, 3) := by decide +kernel
theorem dL_law_156 : decode cL_law 156 = .ok (.if_icmp .eq 323, 3) := by decide +kernel
theorem dL_law_159 : decode cL_law 159 = .ok (.iconst 0, 1) := by decide +kernel
theorem dL_law_160 : decode cL_law 160 = .ok (.ireturn, 1) := by decide +kernel
theorem dL_law_161 : decode cL_law 161 = .ok (.aload_n 1, 1) := by decide +kernel
theorem dL_law_162 : decode cL_law 162 = .ok (.aload_n 0, 1) := by decide +kernel
theorem dL_law_163 : decode cL_law 163 = .ok (.iload 4, 2) := by decide +kernel
theorem dL_law_165 : decode cL_law 165 = .ok (.iconst 1, 1) := by decide +kernel
theorem dL_law_166 : decode cL_law 166 = .ok (.iadd, 1) := by decide +kernel
theorem dL_law_167 : decode cL_law 167 = .ok (.iaload, 1) := by decide +kernel
theorem dL_law_168 : decode cL_law 168 = .ok (.aload_n 0, 1) := by decide +kernel
theorem dL_law_169 : decode cL_law 169 = .ok (.iload 4, 2) := by decide +kernel
theorem dL_law_171 : decode cL_law 171 = .ok (.iconst 2, 1) := by decide +kernel
theorem dL_law_172 : decode cL_law 172 = .ok (.iadd, 1) := by decide +kernel
theorem dL_law_173 : decode cL_law 173 = .ok (.iaload, 1) := by decide +kernel
theorem dL_law_174 : decode cL_law 174 = .ok (.invokevirtual 24, 3) := by decide +kernel
theorem dL_law_177 : decode cL_law 177 = .ok (.aload_n 2, 1) := by decide +kernel
theorem dL_law_178 : decode cL_law 178 = .ok (.aload_n 0, 1) := by decide +kernel
theorem dL_law_179 : decode cL_law 179 = .ok (.iload 4, 2) := by decide +kernel
theorem dL_law_181 : decode cL_law 181 = .ok (.iconst 1, 1) := by decide +kernel
theorem dL_law_182 : decode cL_law 182 = .ok (.iadd, 1) := by decide +kernel
theorem dL_law_183 : decode cL_law 183 = .ok (.iaload, 1) := by decide +kernel
theorem dL_law_184 : decode cL_law 184 = .ok (.aload_n 0, 1) := by decide +kernel
theorem dL_law_185 : decode cL_law 185 = .ok (.iload 4, 2) := by decide +kernel
theorem dL_law_187 : decode cL_law 187 = .ok (.iconst 2, 1) := by decide +kernel
theorem dL_law_188 : decode cL_law 188 = .ok (.iadd, 1) := by decide +kernel
theorem dL_law_189 : decode cL_law 189 = .ok (.iaload, 1) := by decide +kernel
theorem dL_law_190 : decode cL_law 190 = .ok (.invokevirtual 28, 3) := by decide +kernel
theorem dL_law_193 : decode cL_law 193 = .ok (.if_icmp .eq 286, 3) := by decide +kernel
theorem dL_law_196 : decode cL_law 196 = .ok (.iconst 0, 1) := by decide +kernel
theorem dL_law_197 : decode cL_law 197 = .ok (.ireturn, 1) := by decide +kernel
theorem dL_law_198 : decode cL_law 198 = .ok (.aload_n 1, 1) := by decide +kernel
theorem dL_law_199 : decode cL_law 199 = .ok (.aload_n 0, 1) := by decide +kernel
theorem dL_law_200 : decode cL_law 200 = .ok (.iload 4, 2) := by decide +kernel
theorem dL_law_202 : decode cL_law 202 = .ok (.iconst 1, 1) := by decide +kernel
theorem dL_law_203 : decode cL_law 203 = .ok (.iadd, 1) := by decide +kernel
theorem dL_law_204 : decode cL_law 204 = .ok (.iaload, 1) := by decide +kernel
theorem dL_law_205 : decode cL_law 205 = .ok (.aload_n 0, 1) := by decide +kernel
theorem dL_law_206 : decode cL_law 206 = .ok (.iload 4, 2) := by decide +kernel
theorem dL_law_208 : decode cL_law 208 = .ok (.iconst 2, 1) := by decide +kernel
theorem dL_law_209 : decode cL_law 209 = .ok (.iadd, 1) := by decide +kernel
theorem dL_law_210 : decode cL_law 210 = .ok (.iaload, 1) := by decide +kernel
theorem dL_law_211 : decode cL_law 211 = .ok (.invokevirtual 29, 3) := by decide +kernel
theorem dL_law_214 : decode cL_law 214 = .ok (.aload_n 2, 1) := by decide +kernel
theorem dL_law_215 : decode cL_law 215 = .ok (.aload_n 0, 1) := by decide +kernel
theorem dL_law_216 : decode cL_law 216 = .ok (.iload 4, 2) := by decide +kernel
theorem dL_law_218 : decode cL_law 218 = .ok (.iconst 1, 1) := by decide +kernel
theorem dL_law_219 : decode cL_law 219 = .ok (.iadd, 1) := by decide +kernel
theorem dL_law_220 : decode cL_law 220 = .ok (.iaload, 1) := by decide +kernel
theorem dL_law_221 : decode cL_law 221 = .ok (.aload_n 0, 1) := by decide +kernel
theorem dL_law_222 : decode cL_law 222 = .ok (.iload 4, 2) := by decide +kernel
theorem dL_law_224 : decode cL_law 224 = .ok (.iconst 2, 1) := by decide +kernel
theorem dL_law_225 : decode cL_law 225 = .ok (.iadd, 1) := by decide +kernel
theorem dL_law_226 : decode cL_law 226 = .ok (.iaload, 1) := by decide +kernel
theorem dL_law_227 : decode cL_law 227 = .ok (.invokevirtual 32, 3) := by decide +kernel
theorem dL_law_230 : decode cL_law 230 = .ok (.if_icmp .eq 249, 3) := by decide +kernel
theorem dL_law_233 : decode cL_law 233 = .ok (.iconst 0, 1) := by decide +kernel
theorem dL_law_234 : decode cL_law 234 = .ok (.ireturn, 1) := by decide +kernel
theorem dL_law_235 : decode cL_law 235 = .ok (.aload_n 1, 1) := by decide +kernel
theorem dL_law_236 : decode cL_law 236 = .ok (.aload_n 0, 1) := by decide +kernel
theorem dL_law_237 : decode cL_law 237 = .ok (.iload 4, 2) := by decide +kernel
theorem dL_law_239 : decode cL_law 239 = .ok (.iconst 1, 1) := by decide +kernel
theorem dL_law_240 : decode cL_law 240 = .ok (.iadd, 1) := by decide +kernel
theorem dL_law_241 : decode cL_law 241 = .ok (.iaload, 1) := by decide +kernel
theorem dL_law_242 : decode cL_law 242 = .ok (.invokevirtual 33, 3) := by decide +kernel
theorem dL_law_245 : decode cL_law 245 = .ok (.aload_n 2, 1) := by decide +kernel
theorem dL_law_246 : decode cL_law 246 = .ok (.aload_n 0, 1) := by decide +kernel
theorem dL_law_247 : decode cL_law 247 = .ok (.iload 4, 2) := by decide +kernel
theorem dL_law_249 : decode cL_law 249 = .ok (.iconst 1, 1) := by decide +kernel
theorem dL_law_250 : decode cL_law 250 = .ok (.iadd, 1) := by decide +kernel
theorem dL_law_251 : decode cL_law 251 = .ok (.iaload, 1) := by decide +kernel
theorem dL_law_252 : decode cL_law 252 = .ok (.invokevirtual 36, 3) := by decide +kernel
theorem dL_law_255 : decode cL_law 255 = .ok (.if_icmp .eq 224, 3) := by decide +kernel
theorem dL_law_258 : decode cL_law 258 = .ok (.iconst 0, 1) := by decide +kernel
theorem dL_law_259 : decode cL_law 259 = .ok (.ireturn, 1) := by decide +kernel
theorem dL_law_260 : decode cL_law 260 = .ok (.aload_n 1, 1) := by decide +kernel
theorem dL_law_261 : decode cL_law 261 = .ok (.invokevirtual 37, 3) := by decide +kernel
theorem dL_law_264 : decode cL_law 264 = .ok (.aload_n 2, 1) := by decide +kernel
theorem dL_law_265 : decode cL_law 265 = .ok (.invokevirtual 41, 3) := by decide +kernel
theorem dL_law_268 : decode cL_law 268 = .ok (.if_icmp .eq 211, 3) := by decide +kernel
theorem dL_law_271 : decode cL_law 271 = .ok (.iconst 0, 1) := by decide +kernel
theorem dL_law_272 : decode cL_law 272 = .ok (.ireturn, 1) := by decide +kernel
theorem dL_law_273 : decode cL_law 273 = .ok (.aload_n 1, 1) := by decide +kernel
theorem dL_law_274 : decode cL_law 274 = .ok (.aload_n 0, 1) := by decide +kernel
theorem dL_law_275 : decode cL_law 275 = .ok (.iload 4, 2) := by decide +kernel
theorem dL_law_277 : decode cL_law 277 = .ok (.iconst 1, 1) := by decide +kernel
theorem dL_law_278 : decode cL_law 278 = .ok (.iadd, 1) := by decide +kernel
theorem dL_law_279 : decode cL_law 279 = .ok (.iaload, 1) := by decide +kernel
theorem dL_law_280 : decode cL_law 280 = .ok (.aload_n 3, 1) := by decide +kernel
theorem dL_law_281 : decode cL_law 281 = .ok (.invokestatic 42, 3) := by decide +kernel
theorem dL_law_284 : decode cL_law 284 = .ok (.istore 5, 2) := by decide +kernel
theorem dL_law_286 : decode cL_law 286 = .ok (.aload_n 2, 1) := by decide +kernel
theorem dL_law_287 : decode cL_law 287 = .ok (.aload_n 0, 1) := by decide +kernel
theorem dL_law_288 : decode cL_law 288 = .ok (.iload 4, 2) := by decide +kernel
theorem dL_law_290 : decode cL_law 290 = .ok (.iconst 1, 1) := by decide +kernel
theorem dL_law_291 : decode cL_law 291 = .ok (.iadd, 1) := by decide +kernel
theorem dL_law_292 : decode cL_law 292 = .ok (.iaload, 1) := by decide +kernel
theorem dL_law_293 : decode cL_law 293 = .ok (.invokevirtual 47, 3) := by decide +kernel
theorem dL_law_296 : decode cL_law 296 = .ok (.istore 6, 2) := by decide +kernel
theorem dL_law_298 : decode cL_law 298 = .ok (.aload_n 2, 1) := by decide +kernel
theorem dL_law_299 : decode cL_law 299 = .ok (.invokevirtual 48, 3) := by decide +kernel
theorem dL_law_302 : decode cL_law 302 = .ok (.iload 5, 2) := by decide +kernel
theorem dL_law_304 : decode cL_law 304 = .ok (.if_icmp .eq 5, 3) := by decide +kernel
theorem dL_law_307 : decode cL_law 307 = .ok (.iconst 0, 1) := by decide +kernel
theorem dL_law_308 : decode cL_law 308 = .ok (.ireturn, 1) := by decide +kernel
theorem dL_law_309 : decode cL_law 309 = .ok (.iload 5, 2) := by decide +kernel
theorem dL_law_311 : decode cL_law 311 = .ok (.ifCond .ne 15, 3) := by decide +kernel
theorem dL_law_314 : decode cL_law 314 = .ok (.aload_n 3, 1) := by decide +kernel
theorem dL_law_315 : decode cL_law 315 = .ok (.iconst 0, 1) := by decide +kernel
theorem dL_law_316 : decode cL_law 316 = .ok (.laload, 1) := by decide +kernel
theorem dL_law_317 : decode cL_law 317 = .ok (.iload 6, 2) := by decide +kernel
theorem dL_law_319 : decode cL_law 319 = .ok (.i2l, 1) := by decide +kernel
theorem dL_law_320 : decode cL_law 320 = .ok (.lcmp, 1) := by decide +kernel
theorem dL_law_321 : decode cL_law 321 = .ok (.ifCond .eq 5, 3) := by decide +kernel
theorem dL_law_324 : decode cL_law 324 = .ok (.iconst 0, 1) := by decide +kernel
theorem dL_law_325 : decode cL_law 325 = .ok (.ireturn, 1) := by decide +kernel
theorem dL_law_326 : decode cL_law 326 = .ok (.goto 153, 3) := by decide +kernel
theorem dL_law_329 : decode cL_law 329 = .ok (.aload_n 1, 1) := by decide +kernel
theorem dL_law_330 : decode cL_law 330 = .ok (.aload_n 0, 1) := by decide +kernel
theorem dL_law_331 : decode cL_law 331 = .ok (.iload 4, 2) := by decide +kernel
theorem dL_law_333 : decode cL_law 333 = .ok (.iconst 1, 1) := by decide +kernel
theorem dL_law_334 : decode cL_law 334 = .ok (.iadd, 1) := by decide +kernel
theorem dL_law_335 : decode cL_law 335 = .ok (.iaload, 1) := by decide +kernel
theorem dL_law_336 : decode cL_law 336 = .ok (.invokevirtual 51, 3) := by decide +kernel
theorem dL_law_339 : decode cL_law 339 = .ok (.aload_n 2, 1) := by decide +kernel
theorem dL_law_340 : decode cL_law 340 = .ok (.aload_n 0, 1) := by decide +kernel
theorem dL_law_341 : decode cL_law 341 = .ok (.iload 4, 2) := by decide +kernel
theorem dL_law_343 : decode cL_law 343 = .ok (.iconst 1, 1) := by decide +kernel
theorem dL_law_344 : decode cL_law 344 = .ok (.iadd, 1) := by decide +kernel
theorem dL_law_345 : decode cL_law 345 = .ok (.iaload, 1) := by decide +kernel
theorem dL_law_346 : decode cL_law 346 = .ok (.invokevirtual 54, 3) := by decide +kernel
theorem dL_law_349 : decode cL_law 349 = .ok (.if_icmp .eq 130, 3) := by decide +kernel
theorem dL_law_352 : decode cL_law 352 = .ok (.iconst 0, 1) := by decide +kernel
theorem dL_law_353 : decode cL_law 353 = .ok (.ireturn, 1) := by decide +kernel
theorem dL_law_354 : decode cL_law 354 = .ok (.aload_n 1, 1) := by decide +kernel
theorem dL_law_355 : decode cL_law 355 = .ok (.aload_n 0, 1) := by decide +kernel
theorem dL_law_356 : decode cL_law 356 = .ok (.iload 4, 2) := by decide +kernel
theorem dL_law_358 : decode cL_law 358 = .ok (.iconst 1, 1) := by decide +kernel
theorem dL_law_359 : decode cL_law 359 = .ok (.iadd, 1) := by decide +kernel
theorem dL_law_360 : decode cL_law 360 = .ok (.iaload, 1) := by decide +kernel
theorem dL_law_361 : decode cL_law 361 = .ok (.invokevirtual 55, 3) := by decide +kernel
theorem dL_law_364 : decode cL_law 364 = .ok (.aload_n 2, 1) := by decide +kernel
theorem dL_law_365 : decode cL_law 365 = .ok (.aload_n 0, 1) := by decide +kernel
theorem dL_law_366 : decode cL_law 366 = .ok (.iload 4, 2) := by decide +kernel
theorem dL_law_368 : decode cL_law 368 = .ok (.iconst 1, 1) := by decide +kernel
theorem dL_law_369 : decode cL_law 369 = .ok (.iadd, 1) := by decide +kernel
theorem dL_law_370 : decode cL_law 370 = .ok (.iaload, 1) := by decide +kernel
theorem dL_law_371 : decode cL_law 371 = .ok (.invokevirtual 58, 3) := by decide +kernel
theorem dL_law_374 : decode cL_law 374 = .ok (.if_icmp .eq 105, 3) := by decide +kernel
theorem dL_law_377 : decode cL_law 377 = .ok (.iconst 0, 1) := by decide +kernel
theorem dL_law_378 : decode cL_law 378 = .ok (.ireturn, 1) := by decide +kernel
theorem dL_law_379 : decode cL_law 379 = .ok (.aload_n 1, 1) := by decide +kernel
theorem dL_law_380 : decode cL_law 380 = .ok (.aload_n 0, 1) := by decide +kernel
theorem dL_law_381 : decode cL_law 381 = .ok (.iload 4, 2) := by decide +kernel
theorem dL_law_383 : decode cL_law 383 = .ok (.iconst 1, 1) := by decide +kernel
theorem dL_law_384 : decode cL_law 384 = .ok (.iadd, 1) := by decide +kernel
theorem dL_law_385 : decode cL_law 385 = .ok (.iaload, 1) := by decide +kernel
theorem dL_law_386 : decode cL_law 386 = .ok (.aload_n 0, 1) := by decide +kernel
theorem dL_law_387 : decode cL_law 387 = .ok (.iload 4, 2) := by decide +kernel
theorem dL_law_389 : decode cL_law 389 = .ok (.iconst 2, 1) := by decide +kernel
theorem dL_law_390 : decode cL_law 390 = .ok (.iadd, 1) := by decide +kernel
theorem dL_law_391 : decode cL_law 391 = .ok (.iaload, 1) := by decide +kernel
theorem dL_law_392 : decode cL_law 392 = .ok (.invokevirtual 59, 3) := by decide +kernel
theorem dL_law_395 : decode cL_law 395 = .ok (.aload_n 2, 1) := by decide +kernel
theorem dL_law_396 : decode cL_law 396 = .ok (.aload_n 0, 1) := by decide +kernel
theorem dL_law_397 : decode cL_law 397 = .ok (.iload 4, 2) := by decide +kernel
theorem dL_law_399 : decode cL_law 399 = .ok (.iconst 1, 1) := by decide +kernel
theorem dL_law_400 : decode cL_law 400 = .ok (.iadd, 1) := by decide +kernel
theorem dL_law_401 : decode cL_law 401 = .ok (.iaload, 1) := by decide +kernel
theorem dL_law_402 : decode cL_law 402 = .ok (.aload_n 0, 1) := by decide +kernel
theorem dL_law_403 : decode cL_law 403 = .ok (.iload 4, 2) := by decide +kernel
theorem dL_law_405 : decode cL_law 405 = .ok (.iconst 2, 1) := by decide +kernel
theorem dL_law_406 : decode cL_law 406 = .ok (.iadd, 1) := by decide +kernel
theorem dL_law_407 : decode cL_law 407 = .ok (.iaload, 1) := by decide +kernel
theorem dL_law_408 : decode cL_law 408 = .ok (.invokevirtual 62, 3) := by decide +kernel
theorem dL_law_411 : decode cL_law 411 = .ok (.if_icmp .eq 68, 3) := by decide +kernel
theorem dL_law_414 : decode cL_law 414 = .ok (.iconst 0, 1) := by decide +kernel
theorem dL_law_415 : decode cL_law 415 = .ok (.ireturn, 1) := by decide +kernel
theorem dL_law_416 : decode cL_law 416 = .ok (.aload_n 1, 1) := by decide +kernel
theorem dL_law_417 : decode cL_law 417 = .ok (.aload_n 0, 1) := by decide +kernel
theorem dL_law_418 : decode cL_law 418 = .ok (.iload 4, 2) := by decide +kernel
theorem dL_law_420 : decode cL_law 420 = .ok (.iconst 1, 1) := by decide +kernel
theorem dL_law_421 : decode cL_law 421 = .ok (.iadd, 1) := by decide +kernel
theorem dL_law_422 : decode cL_law 422 = .ok (.iaload, 1) := by decide +kernel
theorem dL_law_423 : decode cL_law 423 = .ok (.invokevirtual 63, 3) := by decide +kernel
theorem dL_law_426 : decode cL_law 426 = .ok (.aload_n 2, 1) := by decide +kernel
theorem dL_law_427 : decode cL_law 427 = .ok (.aload_n 0, 1) := by decide +kernel
theorem dL_law_428 : decode cL_law 428 = .ok (.iload 4, 2) := by decide +kernel
theorem dL_law_430 : decode cL_law 430 = .ok (.iconst 1, 1) := by decide +kernel
theorem dL_law_431 : decode cL_law 431 = .ok (.iadd, 1) := by decide +kernel
theorem dL_law_432 : decode cL_law 432 = .ok (.iaload, 1) := by decide +kernel
theorem dL_law_433 : decode cL_law 433 = .ok (.invokevirtual 66, 3) := by decide +kernel
theorem dL_law_436 : decode cL_law 436 = .ok (.if_icmp .eq 43, 3) := by decide +kernel
theorem dL_law_439 : decode cL_law 439 = .ok (.iconst 0, 1) := by decide +kernel
theorem dL_law_440 : decode cL_law 440 = .ok (.ireturn, 1) := by decide +kernel
theorem dL_law_441 : decode cL_law 441 = .ok (.aload_n 1, 1) := by decide +kernel
theorem dL_law_442 : decode cL_law 442 = .ok (.aload_n 0, 1) := by decide +kernel
theorem dL_law_443 : decode cL_law 443 = .ok (.iload 4, 2) := by decide +kernel
theorem dL_law_445 : decode cL_law 445 = .ok (.iconst 1, 1) := by decide +kernel
theorem dL_law_446 : decode cL_law 446 = .ok (.iadd, 1) := by decide +kernel
theorem dL_law_447 : decode cL_law 447 = .ok (.iaload, 1) := by decide +kernel
theorem dL_law_448 : decode cL_law 448 = .ok (.invokevirtual 67, 3) := by decide +kernel
theorem dL_law_451 : decode cL_law 451 = .ok (.aload_n 2, 1) := by decide +kernel
theorem dL_law_452 : decode cL_law 452 = .ok (.aload_n 0, 1) := by decide +kernel
theorem dL_law_453 : decode cL_law 453 = .ok (.iload 4, 2) := by decide +kernel
theorem dL_law_455 : decode cL_law 455 = .ok (.iconst 1, 1) := by decide +kernel
theorem dL_law_456 : decode cL_law 456 = .ok (.iadd, 1) := by decide +kernel
theorem dL_law_457 : decode cL_law 457 = .ok (.iaload, 1) := by decide +kernel
theorem dL_law_458 : decode cL_law 458 = .ok (.invokevirtual 70, 3) := by decide +kernel
theorem dL_law_461 : decode cL_law 461 = .ok (.if_icmp .eq 18, 3) := by decide +kernel
theorem dL_law_464 : decode cL_law 464 = .ok (.iconst 0, 1) := by decide +kernel
theorem dL_law_465 : decode cL_law 465 = .ok (.ireturn, 1) := by decide +kernel
theorem dL_law_466 : decode cL_law 466 = .ok (.aload_n 1, 1) := by decide +kernel
theorem dL_law_467 : decode cL_law 467 = .ok (.invokevirtual 71, 3) := by decide +kernel
theorem dL_law_470 : decode cL_law 470 = .ok (.aload_n 2, 1) := by decide +kernel
theorem dL_law_471 : decode cL_law 471 = .ok (.invokevirtual 74, 3) := by decide +kernel
theorem dL_law_474 : decode cL_law 474 = .ok (.if_icmp .eq 5, 3) := by decide +kernel
theorem dL_law_477 : decode cL_law 477 = .ok (.iconst 0, 1) := by decide +kernel
theorem dL_law_478 : decode cL_law 478 = .ok (.ireturn, 1) := by decide +kernel
theorem dL_law_479 : decode cL_law 479 = .ok (.iinc 4 5, 3) := by decide +kernel
theorem dL_law_482 : decode cL_law 482 = .ok (.goto (-459), 3) := by decide +kernel
theorem dL_law_485 : decode cL_law 485 = .ok (.iconst 1, 1) := by decide +kernel
theorem dL_law_486 : decode cL_law 486 = .ok (.ireturn, 1) := by decide +kernel
