theorem dX11_init_96 : decode cX11_init 96 = .ok (.aload_n 0, 1) := by decide +kernel
theorem dX11_init_97 : decode cX11_init 97 = .ok (.bipush 100, 2) := by decide +kernel
theorem dX11_init_99 : decode cX11_init 99 = .ok (.newarray .int, 2) := by decide +kernel
theorem dX11_init_101 : decode cX11_init 101 = .ok (.putfield 45, 3) := by decide +kernel
theorem dX11_init_104 : decode cX11_init 104 = .ok (.aload_n 0, 1) := by decide +kernel
theorem dX11_init_105 : decode cX11_init 105 = .ok (.sipush 2400, 3) := by decide +kernel
theorem dX11_init_108 : decode cX11_init 108 = .ok (.newarray .int, 2) := by decide +kernel
theorem dX11_init_110 : decode cX11_init 110 = .ok (.putfield 48, 3) := by decide +kernel
theorem dX11_init_113 : decode cX11_init 113 = .ok (.aload_n 0, 1) := by decide +kernel
theorem dX11_init_114 : decode cX11_init 114 = .ok (.getfield 17, 3) := by decide +kernel
theorem dX11_init_117 : decode cX11_init 117 = .ok (.iconst 0, 1) := by decide +kernel
theorem dX11_init_118 : decode cX11_init 118 = .ok (.bipush 10, 2) := by decide +kernel
theorem dX11_init_120 : decode cX11_init 120 = .ok (.iastore, 1) := by decide +kernel
theorem dX11_init_121 : decode cX11_init 121 = .ok (.aload_n 0, 1) := by decide +kernel
theorem dX11_init_122 : decode cX11_init 122 = .ok (.getfield 17, 3) := by decide +kernel
theorem dX11_init_125 : decode cX11_init 125 = .ok (.iconst 2, 1) := by decide +kernel
theorem dX11_init_126 : decode cX11_init 126 = .ok (.iconst 1, 1) := by decide +kernel
theorem dX11_init_127 : decode cX11_init 127 = .ok (.iastore, 1) := by decide +kernel
theorem dX11_init_128 : decode cX11_init 128 = .ok (.aload_n 0, 1) := by decide +kernel
theorem dX11_init_129 : decode cX11_init 129 = .ok (.getfield 17, 3) := by decide +kernel
theorem dX11_init_132 : decode cX11_init 132 = .ok (.iconst 3, 1) := by decide +kernel
theorem dX11_init_133 : decode cX11_init 133 = .ok (.iconst 3, 1) := by decide +kernel
theorem dX11_init_134 : decode cX11_init 134 = .ok (.iastore, 1) := by decide +kernel
theorem dX11_init_135 : decode cX11_init 135 = .ok (.iconst 0, 1) := by decide +kernel
theorem dX11_init_136 : decode cX11_init 136 = .ok (.istore_n 1, 1) := by decide +kernel
theorem dX11_init_137 : decode cX11_init 137 = .ok (.iload_n 1, 1) := by decide +kernel
theorem dX11_init_138 : decode cX11_init 138 = .ok (.bipush 60, 2) := by decide +kernel
theorem dX11_init_140 : decode cX11_init 140 = .ok (.if_icmp .ge 19, 3) := by decide +kernel
theorem dX11_init_143 : decode cX11_init 143 = .ok (.aload_n 0, 1) := by decide +kernel
theorem dX11_init_144 : decode cX11_init 144 = .ok (.getfield 17, 3) := by decide +kernel
theorem dX11_init_147 : decode cX11_init 147 = .ok (.bipush 20, 2) := by decide +kernel
theorem dX11_init_149 : decode cX11_init 149 = .ok (.iload_n 1, 1) := by decide +kernel
theorem dX11_init_150 : decode cX11_init 150 = .ok (.iadd, 1) := by decide +kernel
theorem dX11_init_151 : decode cX11_init 151 = .ok (.iconst 0, 1) := by decide +kernel
theorem dX11_init_152 : decode cX11_init 152 = .ok (.iastore, 1) := by decide +kernel
theorem dX11_init_153 : decode cX11_init 153 = .ok (.iinc 1 1, 3) := by decide +kernel
theorem dX11_init_156 : decode cX11_init 156 = .ok (.goto (-19), 3) := by decide +kernel
theorem dX11_init_159 : decode cX11_init 159 = .ok (.aload_n 0, 1) := by decide +kernel
theorem dX11_init_160 : decode cX11_init 160 = .ok (.invokevirtual 51, 3) := by decide +kernel
theorem dX11_init_163 : decode cX11_init 163 = .ok (.return_, 1) := by decide +kernel
theorem dX11_in_0 : decode cX11_in 0 = .ok (.lload_n 0, 1) := by decide +kernel
theorem dX11_in_1 : decode cX11_in 1 = .ok (.lload_n 2, 1) := by decide +kernel
theorem dX11_in_2 : decode cX11_in 2 = .ok (.lcmp, 1) := by decide +kernel
theorem dX11_in_3 : decode cX11_in 3 = .ok (.ifCond .lt 14, 3) := by decide +kernel
theorem dX11_in_6 : decode cX11_in 6 = .ok (.lload_n 0, 1) := by decide +kernel
theorem dX11_in_7 : decode cX11_in 7 = .ok (.lload 4, 2) := by decide +kernel
theorem dX11_in_9 : decode cX11_in 9 = .ok (.lcmp, 1) := by decide +kernel
theorem dX11_in_10 : decode cX11_in 10 = .ok (.ifCond .gt 7, 3) := by decide +kernel
theorem dX11_in_13 : decode cX11_in 13 = .ok (.iconst 1, 1) := by decide +kernel
theorem dX11_in_14 : decode cX11_in 14 = .ok (.goto 4, 3) := by decide +kernel
theorem dX11_in_17 : decode cX11_in 17 = .ok (.iconst 0, 1) := by decide +kernel
theorem dX11_in_18 : decode cX11_in 18 = .ok (.ireturn, 1) := by decide +kernel
theorem dX11_isAt_0 : decode cX11_isAt 0 = .ok (.aload_n 0, 1) := by decide +kernel
theorem dX11_isAt_1 : decode cX11_isAt 1 = .ok (.getfield 54, 3) := by decide +kernel
theorem dX11_isAt_4 : decode cX11_isAt 4 = .ok (.aload_n 0, 1) := by decide +kernel
theorem dX11_isAt_5 : decode cX11_isAt 5 = .ok (.getfield 57, 3) := by decide +kernel
theorem dX11_isAt_8 : decode cX11_isAt 8 = .ok (.if_icmp .ge 33, 3) := by decide +kernel
theorem dX11_isAt_11 : decode cX11_isAt 11 = .ok (.aload_n 0, 1) := by decide +kernel
theorem dX11_isAt_12 : decode cX11_isAt 12 = .ok (.getfield 7, 3) := by decide +kernel
theorem dX11_isAt_15 : decode cX11_isAt 15 = .ok (.aload_n 0, 1) := by decide +kernel
theorem dX11_isAt_16 : decode cX11_isAt 16 = .ok (.getfield 54, 3) := by decide +kernel
theorem dX11_isAt_19 : decode cX11_isAt 19 = .ok (.baload, 1) := by decide +kernel
theorem dX11_isAt_20 : decode cX11_isAt 20 = .ok (.iload_n 1, 1) := by decide +kernel
theorem dX11_isAt_21 : decode cX11_isAt 21 = .ok (.if_icmp .lt 20, 3) := by decide +kernel
theorem dX11_isAt_24 : decode cX11_isAt 24 = .ok (.aload_n 0, 1) := by decide +kernel
theorem dX11_isAt_25 : decode cX11_isAt 25 = .ok (.getfield 7, 3) := by decide +kernel
theorem dX11_isAt_28 : decode cX11_isAt 28 = .ok (.aload_n 0, 1) := by decide +kernel
theorem dX11_isAt_29 : decode cX11_isAt 29 = .ok (.getfield 54, 3) := by decide +kernel
theorem dX11_isAt_32 : decode cX11_isAt 32 = .ok (.baload, 1) := by decide +kernel
theorem dX11_isAt_33 : decode cX11_isAt 33 = .ok (.iload_n 2, 1) := by decide +kernel
theorem dX11_isAt_34 : decode cX11_isAt 34 = .ok (.if_icmp .gt 7, 3) := by decide +kernel
theorem dX11_isAt_37 : decode cX11_isAt 37 = .ok (.iconst 1, 1) := by decide +kernel
theorem dX11_isAt_38 : decode cX11_isAt 38 = .ok (.goto 4, 3) := by decide +kernel
theorem dX11_isAt_41 : decode cX11_isAt 41 = .ok (.iconst 0, 1) := by decide +kernel
theorem dX11_isAt_42 : decode cX11_isAt 42 = .ok (.ireturn, 1) := by decide +kernel
theorem dX11_next_0 : decode cX11_next 0 = .ok (.aload_n 0, 1) := by decide +kernel
theorem dX11_next_1 : decode cX11_next 1 = .ok (.getfield 54, 3) := by decide +kernel
theorem dX11_next_4 : decode cX11_next 4 = .ok (.aload_n 0, 1) := by decide +kernel
theorem dX11_next_5 : decode cX11_next 5 = .ok (.getfield 57, 3) := by decide +kernel
theorem dX11_next_8 : decode cX11_next 8 = .ok (.if_icmp .ge 44, 3) := by decide +kernel
theorem dX11_next_11 : decode cX11_next 11 = .ok (.aload_n 0, 1) := by decide +kernel
theorem dX11_next_12 : decode cX11_next 12 = .ok (.getfield 7, 3) := by decide +kernel
theorem dX11_next_15 : decode cX11_next 15 = .ok (.aload_n 0, 1) := by decide +kernel
theorem dX11_next_16 : decode cX11_next 16 = .ok (.getfield 54, 3) := by decide +kernel
theorem dX11_next_19 : decode cX11_next 19 = .ok (.baload, 1) := by decide +kernel
theorem dX11_next_20 : decode cX11_next 20 = .ok (.bipush 32, 2) := by decide +kernel
theorem dX11_next_22 : decode cX11_next 22 = .ok (.if_icmp .eq 17, 3) := by decide +kernel
theorem dX11_next_25 : decode cX11_next 25 = .ok (.aload_n 0, 1) := by decide +kernel
theorem dX11_next_26 : decode cX11_next 26 = .ok (.getfield 7, 3) := by decide +kernel
theorem dX11_next_29 : decode cX11_next 29 = .ok (.aload_n 0, 1) := by decide +kernel
theorem dX11_next_30 : decode cX11_next 30 = .ok (.getfield 54, 3) := by decide +kernel
theorem dX11_next_33 : decode cX11_next 33 = .ok (.baload, 1) := by decide +kernel
theorem dX11_next_34 : decode cX11_next 34 = .ok (.bipush 10, 2) := by decide +kernel
theorem dX11_next_36 : decode cX11_next 36 = .ok (.if_icmp .ne 16, 3) := by decide +kernel
theorem dX11_next_39 : decode cX11_next 39 = .ok (.aload_n 0, 1) := by decide +kernel
theorem dX11_next_40 : decode cX11_next 40 = .ok (.dup, 1) := by decide +kernel
theorem dX11_next_41 : decode cX11_next 41 = .ok (.getfield 54, 3) := by decide +kernel
theorem dX11_next_44 : decode cX11_next 44 = .ok (.iconst 1, 1) := by decide +kernel
theorem dX11_next_45 : decode cX11_next 45 = .ok (.iadd, 1) := by decide +kernel
theorem dX11_next_46 : decode cX11_next 46 = .ok (.putfield 54, 3) := by decide +kernel
theorem dX11_next_49 : decode cX11_next 49 = .ok (.goto (-49), 3) := by decide +kernel
theorem dX11_next_52 : decode cX11_next 52 = .ok (.aload_n 0, 1) := by decide +kernel
theorem dX11_next_53 : decode cX11_next 53 = .ok (.aload_n 0, 1) := by decide +kernel
theorem dX11_next_54 : decode cX11_next 54 = .ok (.getfield 54, 3) := by decide +kernel
theorem dX11_next_57 : decode cX11_next 57 = .ok (.putfield 60, 3) := by decide +kernel
theorem dX11_next_60 : decode cX11_next 60 = .ok (.aload_n 0, 1) := by decide +kernel
theorem dX11_next_61 : decode cX11_next 61 = .ok (.iconst 0, 1) := by decide +kernel
theorem dX11_next_62 : decode cX11_next 62 = .ok (.putfield 63, 3) := by decide +kernel
theorem dX11_next_65 : decode cX11_next 65 = .ok (.aload_n 0, 1) := by decide +kernel
theorem dX11_next_66 : decode cX11_next 66 = .ok (.lconst 0, 1) := by decide +kernel
theorem dX11_next_67 : decode cX11_next 67 = .ok (.putfield 66, 3) := by decide +kernel
theorem dX11_next_70 : decode cX11_next 70 = .ok (.aload_n 0, 1) := by decide +kernel
theorem dX11_next_71 : decode cX11_next 71 = .ok (.getfield 54, 3) := by decide +kernel
theorem dX11_next_74 : decode cX11_next 74 = .ok (.aload_n 0, 1) := by decide +kernel
theorem dX11_next_75 : decode cX11_next 75 = .ok (.getfield 57, 3) := by decide +kernel
theorem dX11_next_78 : decode cX11_next 78 = .ok (.if_icmp .ne 11, 3) := by decide +kernel
theorem dX11_next_81 : decode cX11_next 81 = .ok (.aload_n 0, 1) := by decide +kernel
theorem dX11_next_82 : decode cX11_next 82 = .ok (.iconst 0, 1) := by decide +kernel
theorem dX11_next_83 : decode cX11_next 83 = .ok (.putfield 70, 3) := by decide +kernel
theorem dX11_next_86 : decode cX11_next 86 = .ok (.goto 228, 3) := by decide +kernel
theorem dX11_next_89 : decode cX11_next 89 = .ok (.aload_n 0, 1) := by decide +kernel
theorem dX11_next_90 : decode cX11_next 90 = .ok (.bipush 97, 2) := by decide +kernel
theorem dX11_next_92 : decode cX11_next 92 = .ok (.bipush 122, 2) := by decide +kernel
theorem dX11_next_94 : decode cX11_next 94 = .ok (.invokevirtual 73, 3) := by decide +kernel
theorem dX11_next_97 : decode cX11_next 97 = .ok (.ifCond .eq 80, 3) := by decide +kernel
theorem dX11_next_100 : decode cX11_next 100 = .ok (.aload_n 0, 1) := by decide +kernel
theorem dX11_next_101 : decode cX11_next 101 = .ok (.bipush 97, 2) := by decide +kernel
theorem dX11_next_103 : decode cX11_next 103 = .ok (.bipush 122, 2) := by decide +kernel
theorem dX11_next_105 : decode cX11_next 105 = .ok (.invokevirtual 73, 3) := by decide +kernel
theorem dX11_next_108 : decode cX11_next 108 = .ok (.ifCond .eq 61, 3) := by decide +kernel
theorem dX11_next_111 : decode cX11_next 111 = .ok (.aload_n 0, 1) := by decide +kernel
theorem dX11_next_112 : decode cX11_next 112 = .ok (.aload_n 0, 1) := by decide +kernel
theorem dX11_next_113 : decode cX11_next 113 = .ok (.getfield 54, 3) := by decide +kernel
theorem dX11_next_116 : decode cX11_next 116 = .ok (.aload_n 0, 1) := by decide +kernel
theorem dX11_next_117 : decode cX11_next 117 = .ok (.getfield 60, 3) := by decide +kernel
theorem dX11_next_120 : decode cX11_next 120 = .ok (.isub, 1) := by decide +kernel
theorem dX11_next_121 : decode cX11_next 121 = .ok (.bipush 8, 2) := by decide +kernel
theorem dX11_next_123 : decode cX11_next 123 = .ok (.if_icmp .ge 29, 3) := by decide +kernel
theorem dX11_next_126 : decode cX11_next 126 = .ok (.ldc2_w 77, 3) := by decide +kernel
theorem dX11_next_129 : decode cX11_next 129 = .ok (.aload_n 0, 1) := by decide +kernel
theorem dX11_next_130 : decode cX11_next 130 = .ok (.getfield 66, 3) := by decide +kernel
theorem dX11_next_133 : decode cX11_next 133 = .ok (.lmul, 1) := by decide +kernel
theorem dX11_next_134 : decode cX11_next 134 = .ok (.aload_n 0, 1) := by decide +kernel
theorem dX11_next_135 : decode cX11_next 135 = .ok (.getfield 7, 3) := by decide +kernel
theorem dX11_next_138 : decode cX11_next 138 = .ok (.aload_n 0, 1) := by decide +kernel
theorem dX11_next_139 : decode cX11_next 139 = .ok (.getfield 54, 3) := by decide +kernel
theorem dX11_next_142 : decode cX11_next 142 = .ok (.baload, 1) := by decide +kernel
theorem dX11_next_143 : decode cX11_next 143 = .ok (.i2l, 1) := by decide +kernel
theorem dX11_next_144 : decode cX11_next 144 = .ok (.ladd, 1) := by decide +kernel
theorem dX11_next_145 : decode cX11_next 145 = .ok (.ldc2_w 79, 3) := by decide +kernel
theorem dX11_next_148 : decode cX11_next 148 = .ok (.lsub, 1) := by decide +kernel
theorem dX11_next_149 : decode cX11_next 149 = .ok (.goto 4, 3) := by decide +kernel
theorem dX11_next_152 : decode cX11_next 152 = .ok (.lconst 0, 1) := by decide +kernel
theorem dX11_next_153 : decode cX11_next 153 = .ok (.putfield 66, 3) := by decide +kernel
theorem dX11_next_156 : decode cX11_next 156 = .ok (.aload_n 0, 1) := by decide +kernel
theorem dX11_next_157 : decode cX11_next 157 = .ok (.dup, 1) := by decide +kernel
theorem dX11_next_158 : decode cX11_next 158 = .ok (.getfield 54, 3) := by decide +kernel
theorem dX11_next_161 : decode cX11_next 161 = .ok (.iconst 1, 1) := by decide +kernel
theorem dX11_next_162 : decode cX11_next 162 = .ok (.iadd, 1) := by decide +kernel
theorem dX11_next_163 : decode cX11_next 163 = .ok (.putfield 54, 3) := by decide +kernel
theorem dX11_next_166 : decode cX11_next 166 = .ok (.goto (-66), 3) := by decide +kernel
theorem dX11_next_169 : decode cX11_next 169 = .ok (.aload_n 0, 1) := by decide +kernel
theorem dX11_next_170 : decode cX11_next 170 = .ok (.iconst 1, 1) := by decide +kernel
theorem dX11_next_171 : decode cX11_next 171 = .ok (.putfield 70, 3) := by decide +kernel
theorem dX11_next_174 : decode cX11_next 174 = .ok (.goto 140, 3) := by decide +kernel
theorem dX11_next_177 : decode cX11_next 177 = .ok (.aload_n 0, 1) := by decide +kernel
theorem dX11_next_178 : decode cX11_next 178 = .ok (.bipush 48, 2) := by decide +kernel
theorem dX11_next_180 : decode cX11_next 180 = .ok (.bipush 57, 2) := by decide +kernel
theorem dX11_next_182 : decode cX11_next 182 = .ok (.invokevirtual 73, 3) := by decide +kernel
theorem dX11_next_185 : decode cX11_next 185 = .ok (.ifCond .eq 96, 3) := by decide +kernel
theorem dX11_next_188 : decode cX11_next 188 = .ok (.aload_n 0, 1) := by decide +kernel
theorem dX11_next_189 : decode cX11_next 189 = .ok (.bipush 48, 2) := by decide +kernel
theorem dX11_next_191 : decode cX11_next 191 = .ok (.bipush 57, 2) := by decide +kernel
theorem dX11_next_193 : decode cX11_next 193 = .ok (.invokevirtual 73, 3) := by decide +kernel
theorem dX11_next_196 : decode cX11_next 196 = .ok (.ifCond .eq 60, 3) := by decide +kernel
theorem dX11_next_199 : decode cX11_next 199 = .ok (.aload_n 0, 1) := by decide +kernel
theorem dX11_next_200 : decode cX11_next 200 = .ok (.aload_n 0, 1) := by decide +kernel
theorem dX11_next_201 : decode cX11_next 201 = .ok (.getfield 54, 3) := by decide +kernel
theorem dX11_next_204 : decode cX11_next 204 = .ok (.aload_n 0, 1) := by decide +kernel
theorem dX11_next_205 : decode cX11_next 205 = .ok (.getfield 60, 3) := by decide +kernel
theorem dX11_next_208 : decode cX11_next 208 = .ok (.isub, 1) := by decide +kernel
theorem dX11_next_209 : decode cX11_next 209 = .ok (.iconst 5, 1) := by decide +kernel
theorem dX11_next_210 : decode cX11_next 210 = .ok (.if_icmp .ge 26, 3) := by decide +kernel
theorem dX11_next_213 : decode cX11_next 213 = .ok (.bipush 10, 2) := by decide +kernel
theorem dX11_next_215 : decode cX11_next 215 = .ok (.aload_n 0, 1) := by decide +kernel
theorem dX11_next_216 : decode cX11_next 216 = .ok (.getfield 63, 3) := by decide +kernel
theorem dX11_next_219 : decode cX11_next 219 = .ok (.imul, 1) := by decide +kernel
theorem dX11_next_220 : decode cX11_next 220 = .ok (.aload_n 0, 1) := by decide +kernel
theorem dX11_next_221 : decode cX11_next 221 = .ok (.getfield 7, 3) := by decide +kernel
theorem dX11_next_224 : decode cX11_next 224 = .ok (.aload_n 0, 1) := by decide +kernel
theorem dX11_next_225 : decode cX11_next 225 = .ok (.getfield 54, 3) := by decide +kernel
theorem dX11_next_228 : decode cX11_next 228 = .ok (.baload, 1) := by decide +kernel
theorem dX11_next_229 : decode cX11_next 229 = .ok (.iadd, 1) := by decide +kernel
theorem dX11_next_230 : decode cX11_next 230 = .ok (.bipush 48, 2) := by decide +kernel
theorem dX11_next_232 : decode cX11_next 232 = .ok (.isub, 1) := by decide +kernel
theorem dX11_next_233 : decode cX11_next 233 = .ok (.goto 7, 3) := by decide +kernel
theorem dX11_next_236 : decode cX11_next 236 = .ok (.aload_n 0, 1) := by decide +kernel
theorem dX11_next_237 : decode cX11_next 237 = .ok (.getfield 63, 3) := by decide +kernel
theorem dX11_next_240 : decode cX11_next 240 = .ok (.putfield 63, 3) := by decide +kernel
theorem dX11_next_243 : decode cX11_next 243 = .ok (.aload_n 0, 1) := by decide +kernel
theorem dX11_next_244 : decode cX11_next 244 = .ok (.dup, 1) := by decide +kernel
theorem dX11_next_245 : decode cX11_next 245 = .ok (.getfield 54, 3) := by decide +kernel
theorem dX11_next_248 : decode cX11_next 248 = .ok (.iconst 1, 1) := by decide +kernel
theorem dX11_next_249 : decode cX11_next 249 = .ok (.iadd, 1) := by decide +kernel
theorem dX11_next_250 : decode cX11_next 250 = .ok (.putfield 54, 3) := by decide +kernel
theorem dX11_next_253 : decode cX11_next 253 = .ok (.goto (-65), 3) := by decide +kernel
theorem dX11_next_256 : decode cX11_next 256 = .ok (.aload_n 0, 1) := by decide +kernel
theorem dX11_next_257 : decode cX11_next 257 = .ok (.aload_n 0, 1) := by decide +kernel
theorem dX11_next_258 : decode cX11_next 258 = .ok (.getfield 54, 3) := by decide +kernel
theorem dX11_next_261 : decode cX11_next 261 = .ok (.aload_n 0, 1) := by decide +kernel
theorem dX11_next_262 : decode cX11_next 262 = .ok (.getfield 60, 3) := by decide +kernel
theorem dX11_next_265 : decode cX11_next 265 = .ok (.isub, 1) := by decide +kernel
theorem dX11_next_266 : decode cX11_next 266 = .ok (.iconst 5, 1) := by decide +kernel
theorem dX11_next_267 : decode cX11_next 267 = .ok (.if_icmp .le 7, 3) := by decide +kernel
theorem dX11_next_270 : decode cX11_next 270 = .ok (.iconst 4, 1) := by decide +kernel
theorem dX11_next_271 : decode cX11_next 271 = .ok (.goto 4, 3) := by decide +kernel
theorem dX11_next_274 : decode cX11_next 274 = .ok (.iconst 2, 1) := by decide +kernel
theorem dX11_next_275 : decode cX11_next 275 = .ok (.putfield 70, 3) := by decide +kernel
theorem dX11_next_278 : decode cX11_next 278 = .ok (.goto 36, 3) := by decide +kernel
theorem dX11_next_281 : decode cX11_next 281 = .ok (.aload_n 0, 1) := by decide +kernel
theorem dX11_next_282 : decode cX11_next 282 = .ok (.aload_n 0, 1) := by decide +kernel
theorem dX11_next_283 : decode cX11_next 283 = .ok (.getfield 7, 3) := by decide +kernel
theorem dX11_next_286 : decode cX11_next 286 = .ok (.aload_n 0, 1) := by decide +kernel
theorem dX11_next_287 : decode cX11_next 287 = .ok (.getfield 54, 3) := by decide +kernel
theorem dX11_next_290 : decode cX11_next 290 = .ok (.baload, 1) := by decide +kernel
theorem dX11_next_291 : decode cX11_next 291 = .ok (.bipush 59, 2) := by decide +kernel
theorem dX11_next_293 : decode cX11_next 293 = .ok (.if_icmp .ne 7, 3) := by decide +kernel
theorem dX11_next_296 : decode cX11_next 296 = .ok (.iconst 3, 1) := by decide +kernel
theorem dX11_next_297 : decode cX11_next 297 = .ok (.goto 4, 3) := by decide +kernel
theorem dX11_next_300 : decode cX11_next 300 = .ok (.iconst 4, 1) := by decide +kernel
theorem dX11_next_301 : decode cX11_next 301 = .ok (.putfield 70, 3) := by decide +kernel
theorem dX11_next_304 : decode cX11_next 304 = .ok (.aload_n 0, 1) := by decide +kernel
theorem dX11_next_305 : decode cX11_next 305 = .ok (.dup, 1) := by decide +kernel
theorem dX11_next_306 : decode cX11_next 306 = .ok (.getfield 54, 3) := by decide +kernel
theorem dX11_next_309 : decode cX11_next 309 = .ok (.iconst 1, 1) := by decide +kernel
theorem dX11_next_310 : decode cX11_next 310 = .ok (.iadd, 1) := by decide +kernel
theorem dX11_next_311 : decode cX11_next 311 = .ok (.putfield 54, 3) := by decide +kernel
theorem dX11_next_314 : decode cX11_next 314 = .ok (.return_, 1) := by decide +kernel
theorem dX11_isWord_0 : decode cX11_isWord 0 = .ok (.aload_n 0, 1) := by decide +kernel
theorem dX11_isWord_1 : decode cX11_isWord 1 = .ok (.getfield 81, 3) := by decide +kernel
theorem dX11_isWord_4 : decode cX11_isWord 4 = .ok (.ifCond .eq 24, 3) := by decide +kernel
theorem dX11_isWord_7 : decode cX11_isWord 7 = .ok (.aload_n 0, 1) := by decide +kernel
theorem dX11_isWord_8 : decode cX11_isWord 8 = .ok (.getfield 70, 3) := by decide +kernel
theorem dX11_isWord_11 : decode cX11_isWord 11 = .ok (.iconst 1, 1) := by decide +kernel
theorem dX11_isWord_12 : decode cX11_isWord 12 = .ok (.if_icmp .ne 16, 3) := by decide +kernel
theorem dX11_isWord_15 : decode cX11_isWord 15 = .ok (.aload_n 0, 1) := by decide +kernel
theorem dX11_isWord_16 : decode cX11_isWord 16 = .ok (.getfield 66, 3) := by decide +kernel
theorem dX11_isWord_19 : decode cX11_isWord 19 = .ok (.lload_n 1, 1) := by decide +kernel
theorem dX11_isWord_20 : decode cX11_isWord 20 = .ok (.lcmp, 1) := by decide +kernel
theorem dX11_isWord_21 : decode cX11_isWord 21 = .ok (.ifCond .ne 7, 3) := by decide +kernel
theorem dX11_isWord_24 : decode cX11_isWord 24 = .ok (.iconst 1, 1) := by decide +kernel
theorem dX11_isWord_25 : decode cX11_isWord 25 = .ok (.goto 4, 3) := by decide +kernel
theorem dX11_isWord_28 : decode cX11_isWord 28 = .ok (.iconst 0, 1) := by decide +kernel
theorem dX11_isWord_29 : decode cX11_isWord 29 = .ok (.ireturn, 1) := by decide +kernel
theorem dX11_takes_0 : decode cX11_takes 0 = .ok (.aload_n 0, 1) := by decide +kernel
theorem dX11_takes_1 : decode cX11_takes 1 = .ok (.getfield 81, 3) := by decide +kernel
theorem dX11_takes_4 : decode cX11_takes 4 = .ok (.ifCond .eq 20, 3) := by decide +kernel
theorem dX11_takes_7 : decode cX11_takes 7 = .ok (.iload_n 1, 1) := by decide +kernel
theorem dX11_takes_8 : decode cX11_takes 8 = .ok (.ifCond .ne 16, 3) := by decide +kernel
theorem dX11_takes_11 : decode cX11_takes 11 = .ok (.aload_n 0, 1) := by decide +kernel
theorem dX11_takes_12 : decode cX11_takes 12 = .ok (.iconst 0, 1) := by decide +kernel
theorem dX11_takes_13 : decode cX11_takes 13 = .ok (.putfield 81, 3) := by decide +kernel
theorem dX11_takes_16 : decode cX11_takes 16 = .ok (.aload_n 0, 1) := by decide +kernel
theorem dX11_takes_17 : decode cX11_takes 17 = .ok (.aload_n 0, 1) := by decide +kernel
theorem dX11_takes_18 : decode cX11_takes 18 = .ok (.getfield 60, 3) := by decide +kernel
theorem dX11_takes_21 : decode cX11_takes 21 = .ok (.putfield 13, 3) := by decide +kernel
theorem dX11_takes_24 : decode cX11_takes 24 = .ok (.aload_n 0, 1) := by decide +kernel
theorem dX11_takes_25 : decode cX11_takes 25 = .ok (.getfield 81, 3) := by decide +kernel
theorem dX11_takes_28 : decode cX11_takes 28 = .ok (.ifCond .eq 7, 3) := by decide +kernel
theorem dX11_takes_31 : decode cX11_takes 31 = .ok (.aload_n 0, 1) := by decide +kernel
theorem dX11_takes_32 : decode cX11_takes 32 = .ok (.invokevirtual 85, 3) := by decide +kernel
theorem dX11_takes_35 : decode cX11_takes 35 = .ok (.return_, 1) := by decide +kernel
theorem dX11_number_0 : decode cX11_number 0 = .ok (.aload_n 0, 1) := by decide +kernel
theorem dX11_number_1 : decode cX11_number 1 = .ok (.getfield 63, 3) := by decide +kernel
theorem dX11_number_4 : decode cX11_number 4 = .ok (.istore_n 3, 1) := by decide +kernel
theorem dX11_number_5 : decode cX11_number 5 = .ok (.aload_n 0, 1) := by decide +kernel
theorem dX11_number_6 : decode cX11_number 6 = .ok (.aload_n 0, 1) := by decide +kernel
theorem dX11_number_7 : decode cX11_number 7 = .ok (.getfield 70, 3) := by decide +kernel
theorem dX11_number_10 : decode cX11_number 10 = .ok (.iconst 2, 1) := by decide +kernel
theorem dX11_number_11 : decode cX11_number 11 = .ok (.if_icmp .ne 19, 3) := by decide +kernel
theorem dX11_number_14 : decode cX11_number 14 = .ok (.iload_n 3, 1) := by decide +kernel
theorem dX11_number_15 : decode cX11_number 15 = .ok (.i2l, 1) := by decide +kernel
theorem dX11_number_16 : decode cX11_number 16 = .ok (.iload_n 1, 1) := by decide +kernel
theorem dX11_number_17 : decode cX11_number 17 = .ok (.i2l, 1) := by decide +kernel
theorem dX11_number_18 : decode cX11_number 18 = .ok (.iload_n 2, 1) := by decide +kernel
theorem dX11_number_19 : decode cX11_number 19 = .ok (.i2l, 1) := by decide +kernel
theorem dX11_number_20 : decode cX11_number 20 = .ok (.invokestatic 88, 3) := by decide +kernel
theorem dX11_number_23 : decode cX11_number 23 = .ok (.ifCond .eq 7, 3) := by decide +kernel
theorem dX11_number_26 : decode cX11_number 26 = .ok (.iconst 1, 1) := by decide +kernel
theorem dX11_number_27 : decode cX11_number 27 = .ok (.goto 4, 3) := by decide +kernel
theorem dX11_number_30 : decode cX11_number 30 = .ok (.iconst 0, 1) := by decide +kernel
theorem dX11_number_31 : decode cX11_number 31 = .ok (.invokevirtual 92, 3) := by decide +kernel
theorem dX11_number_34 : decode cX11_number 34 = .ok (.iload_n 3, 1) := by decide +kernel
theorem dX11_number_35 : decode cX11_number 35 = .ok (.ireturn, 1) := by decide +kernel
theorem dX11_numberBehind_0 : decode cX11_numberBehind 0 = .ok (.aload_n 0, 1) := by decide +kernel
theorem dX11_numberBehind_1 : decode cX11_numberBehind 1 = .ok (.aload_n 0, 1) := by decide +kernel
theorem dX11_numberBehind_2 : decode cX11_numberBehind 2 = .ok (.lload_n 1, 1) := by decide +kernel
theorem dX11_numberBehind_3 : decode cX11_numberBehind 3 = .ok (.invokevirtual 96, 3) := by decide +kernel
theorem dX11_numberBehind_6 : decode cX11_numberBehind 6 = .ok (.invokevirtual 92, 3) := by decide +kernel
theorem dX11_numberBehind_9 : decode cX11_numberBehind 9 = .ok (.aload_n 0, 1) := by decide +kernel
theorem dX11_numberBehind_10 : decode cX11_numberBehind 10 = .ok (.iload_n 3, 1) := by decide +kernel
theorem dX11_numberBehind_11 : decode cX11_numberBehind 11 = .ok (.iload 4, 2) := by decide +kernel
theorem dX11_numberBehind_13 : decode cX11_numberBehind 13 = .ok (.invokevirtual 100, 3) := by decide +kernel
theorem dX11_numberBehind_16 : decode cX11_numberBehind 16 = .ok (.ireturn, 1) := by decide +kernel
theorem dX11_freePosition_0 : decode cX11_freePosition 0 = .ok (.aload_n 0, 1) := by decide +kernel
theorem dX11_freePosition_1 : decode cX11_freePosition 1 = .ok (.getfield 63, 3) := by decide +kernel
theorem dX11_freePosition_4 : decode cX11_freePosition 4 = .ok (.istore_n 1, 1) := by decide +kernel
theorem dX11_freePosition_5 : decode cX11_freePosition 5 = .ok (.aload_n 0, 1) := by decide +kernel
theorem dX11_freePosition_6 : decode cX11_freePosition 6 = .ok (.aload_n 0, 1) := by decide +kernel
theorem dX11_freePosition_7 : decode cX11_freePosition 7 = .ok (.getfield 70, 3) := by decide +kernel
theorem dX11_freePosition_10 : decode cX11_freePosition 10 = .ok (.iconst 2, 1) := by decide +kernel
theorem dX11_freePosition_11 : decode cX11_freePosition 11 = .ok (.if_icmp .ne 53, 3) := by decide +kernel
theorem dX11_freePosition_14 : decode cX11_freePosition 14 = .ok (.iload_n 1, 1) := by decide +kernel
theorem dX11_freePosition_15 : decode cX11_freePosition 15 = .ok (.i2l, 1) := by decide +kernel
theorem dX11_freePosition_16 : decode cX11_freePosition 16 = .ok (.lconst 0, 1) := by decide +kernel
theorem dX11_freePosition_17 : decode cX11_freePosition 17 = .ok (.aload_n 0, 1) := by decide +kernel
theorem dX11_freePosition_18 : decode cX11_freePosition 18 = .ok (.getfield 21, 3) := by decide +kernel
theorem dX11_freePosition_21 : decode cX11_freePosition 21 = .ok (.iconst 0, 1) := by decide +kernel
theorem dX11_freePosition_22 : decode cX11_freePosition 22 = .ok (.iaload, 1) := by decide +kernel
theorem dX11_freePosition_23 : decode cX11_freePosition 23 = .ok (.iconst 1, 1) := by decide +kernel
theorem dX11_freePosition_24 : decode cX11_freePosition 24 = .ok (.isub, 1) := by decide +kernel
theorem dX11_freePosition_25 : decode cX11_freePosition 25 = .ok (.i2l, 1) := by decide +kernel
theorem dX11_freePosition_26 : decode cX11_freePosition 26 = .ok (.invokestatic 88, 3) := by decide +kernel
theorem dX11_freePosition_29 : decode cX11_freePosition 29 = .ok (.ifCond .eq 35, 3) := by decide +kernel
theorem dX11_freePosition_32 : decode cX11_freePosition 32 = .ok (.aload_n 0, 1) := by decide +kernel
theorem dX11_freePosition_33 : decode cX11_freePosition 33 = .ok (.getfield 21, 3) := by decide +kernel
theorem dX11_freePosition_36 : decode cX11_freePosition 36 = .ok (.bipush 20, 2) := by decide +kernel
theorem dX11_freePosition_38 : decode cX11_freePosition 38 = .ok (.iload_n 1, 1) := by decide +kernel
theorem dX11_freePosition_39 : decode cX11_freePosition 39 = .ok (.i2l, 1) := by decide +kernel
theorem dX11_freePosition_40 : decode cX11_freePosition 40 = .ok (.lconst 0, 1) := by decide +kernel
theorem dX11_freePosition_41 : decode cX11_freePosition 41 = .ok (.ldc2_w 104, 3) := by decide +kernel
theorem dX11_freePosition_44 : decode cX11_freePosition 44 = .ok (.invokestatic 88, 3) := by decide +kernel
theorem dX11_freePosition_47 : decode cX11_freePosition 47 = .ok (.ifCond .eq 7, 3) := by decide +kernel
theorem dX11_freePosition_50 : decode cX11_freePosition 50 = .ok (.iload_n 1, 1) := by decide +kernel
theorem dX11_freePosition_51 : decode cX11_freePosition 51 = .ok (.goto 4, 3) := by decide +kernel
theorem dX11_freePosition_54 : decode cX11_freePosition 54 = .ok (.iconst 0, 1) := by decide +kernel
theorem dX11_freePosition_55 : decode cX11_freePosition 55 = .ok (.iadd, 1) := by decide +kernel
theorem dX11_freePosition_56 : decode cX11_freePosition 56 = .ok (.iaload, 1) := by decide +kernel
theorem dX11_freePosition_57 : decode cX11_freePosition 57 = .ok (.ifCond .ne 7, 3) := by decide +kernel
theorem dX11_freePosition_60 : decode cX11_freePosition 60 = .ok (.iconst 1, 1) := by decide +kernel
theorem dX11_freePosition_61 : decode cX11_freePosition 61 = .ok (.goto 4, 3) := by decide +kernel
theorem dX11_freePosition_64 : decode cX11_freePosition 64 = .ok (.iconst 0, 1) := by decide +kernel
theorem dX11_freePosition_65 : decode cX11_freePosition 65 = .ok (.invokevirtual 92, 3) := by decide +kernel
theorem dX11_freePosition_68 : decode cX11_freePosition 68 = .ok (.iload_n 1, 1) := by decide +kernel
theorem dX11_freePosition_69 : decode cX11_freePosition 69 = .ok (.ireturn, 1) := by decide +kernel
theorem dX11_sortHere_0 : decode cX11_sortHere 0 = .ok (.aload_n 0, 1) := by decide +kernel
theorem dX11_sortHere_1 : decode cX11_sortHere 1 = .ok (.ldc2_w 106, 3) := by decide +kernel
theorem dX11_sortHere_4 : decode cX11_sortHere 4 = .ok (.invokevirtual 96, 3) := by decide +kernel
theorem dX11_sortHere_7 : decode cX11_sortHere 7 = .ok (.ifCond .eq 7, 3) := by decide +kernel
theorem dX11_sortHere_10 : decode cX11_sortHere 10 = .ok (.iconst 1, 1) := by decide +kernel
theorem dX11_sortHere_11 : decode cX11_sortHere 11 = .ok (.goto 75, 3) := by decide +kernel
theorem dX11_sortHere_14 : decode cX11_sortHere 14 = .ok (.aload_n 0, 1) := by decide +kernel
theorem dX11_sortHere_15 : decode cX11_sortHere 15 = .ok (.ldc2_w 108, 3) := by decide +kernel
theorem dX11_sortHere_18 : decode cX11_sortHere 18 = .ok (.invokevirtual 96, 3) := by decide +kernel
theorem dX11_sortHere_21 : decode cX11_sortHere 21 = .ok (.ifCond .eq 7, 3) := by decide +kernel
theorem dX11_sortHere_24 : decode cX11_sortHere 24 = .ok (.iconst 2, 1) := by decide +kernel
theorem dX11_sortHere_25 : decode cX11_sortHere 25 = .ok (.goto 61, 3) := by decide +kernel
theorem dX11_sortHere_28 : decode cX11_sortHere 28 = .ok (.aload_n 0, 1) := by decide +kernel
theorem dX11_sortHere_29 : decode cX11_sortHere 29 = .ok (.ldc2_w 110, 3) := by decide +kernel
theorem dX11_sortHere_32 : decode cX11_sortHere 32 = .ok (.invokevirtual 96, 3) := by decide +kernel
theorem dX11_sortHere_35 : decode cX11_sortHere 35 = .ok (.ifCond .eq 7, 3) := by decide +kernel
theorem dX11_sortHere_38 : decode cX11_sortHere 38 = .ok (.iconst 3, 1) := by decide +kernel
theorem dX11_sortHere_39 : decode cX11_sortHere 39 = .ok (.goto 47, 3) := by decide +kernel
theorem dX11_sortHere_42 : decode cX11_sortHere 42 = .ok (.aload_n 0, 1) := by decide +kernel
theorem dX11_sortHere_43 : decode cX11_sortHere 43 = .ok (.ldc2_w 112, 3) := by decide +kernel
theorem dX11_sortHere_46 : decode cX11_sortHere 46 = .ok (.invokevirtual 96, 3) := by decide +kernel
theorem dX11_sortHere_49 : decode cX11_sortHere 49 = .ok (.ifCond .eq 7, 3) := by decide +kernel
theorem dX11_sortHere_52 : decode cX11_sortHere 52 = .ok (.iconst 4, 1) := by decide +kernel
theorem dX11_sortHere_53 : decode cX11_sortHere 53 = .ok (.goto 33, 3) := by decide +kernel
theorem dX11_sortHere_56 : decode cX11_sortHere 56 = .ok (.aload_n 0, 1) := by decide +kernel
theorem dX11_sortHere_57 : decode cX11_sortHere 57 = .ok (.ldc2_w 114, 3) := by decide +kernel
theorem dX11_sortHere_60 : decode cX11_sortHere 60 = .ok (.invokevirtual 96, 3) := by decide +kernel
theorem dX11_sortHere_63 : decode cX11_sortHere 63 = .ok (.ifCond .eq 7, 3) := by decide +kernel
theorem dX11_sortHere_66 : decode cX11_sortHere 66 = .ok (.iconst 5, 1) := by decide +kernel
theorem dX11_sortHere_67 : decode cX11_sortHere 67 = .ok (.goto 19, 3) := by decide +kernel
theorem dX11_sortHere_70 : decode cX11_sortHere 70 = .ok (.aload_n 0, 1) := by decide +kernel
theorem dX11_sortHere_71 : decode cX11_sortHere 71 = .ok (.ldc2_w 116, 3) := by decide +kernel
theorem dX11_sortHere_74 : decode cX11_sortHere 74 = .ok (.invokevirtual 96, 3) := by decide +kernel
theorem dX11_sortHere_77 : decode cX11_sortHere 77 = .ok (.ifCond .eq 8, 3) := by decide +kernel
theorem dX11_sortHere_80 : decode cX11_sortHere 80 = .ok (.bipush 6, 2) := by decide +kernel
theorem dX11_sortHere_82 : decode cX11_sortHere 82 = .ok (.goto 4, 3) := by decide +kernel
theorem dX11_sortHere_85 : decode cX11_sortHere 85 = .ok (.iconst 0, 1) := by decide +kernel
theorem dX11_sortHere_86 : decode cX11_sortHere 86 = .ok (.ireturn, 1) := by decide +kernel
theorem dX11_mostOf_0 : decode cX11_mostOf 0 = .ok (.iload_n 0, 1) := by decide +kernel
theorem dX11_mostOf_1 : decode cX11_mostOf 1 = .ok (.iconst 3, 1) := by decide +kernel
theorem dX11_mostOf_2 : decode cX11_mostOf 2 = .ok (.if_icmp .ne 8, 3) := by decide +kernel
theorem dX11_mostOf_5 : decode cX11_mostOf 5 = .ok (.bipush 6, 2) := by decide +kernel
theorem dX11_mostOf_7 : decode cX11_mostOf 7 = .ok (.goto 13, 3) := by decide +kernel
theorem dX11_mostOf_10 : decode cX11_mostOf 10 = .ok (.iload_n 0, 1) := by decide +kernel
theorem dX11_mostOf_11 : decode cX11_mostOf 11 = .ok (.iconst 3, 1) := by decide +kernel
theorem dX11_mostOf_12 : decode cX11_mostOf 12 = .ok (.if_icmp .ge 7, 3) := by decide +kernel
theorem dX11_mostOf_15 : decode cX11_mostOf 15 = .ok (.iconst 3, 1) := by decide +kernel
theorem dX11_mostOf_16 : decode cX11_mostOf 16 = .ok (.goto 4, 3) := by decide +kernel
theorem dX11_mostOf_19 : decode cX11_mostOf 19 = .ok (.iconst 2, 1) := by decide +kernel
theorem dX11_mostOf_20 : decode cX11_mostOf 20 = .ok (.ireturn, 1) := by decide +kernel
theorem dX11_uses_0 : decode cX11_uses 0 = .ok (.aload_n 0, 1) := by decide +kernel
theorem dX11_uses_1 : decode cX11_uses 1 = .ok (.getfield 81, 3) := by decide +kernel
theorem dX11_uses_4 : decode cX11_uses 4 = .ok (.ifCond .eq 23, 3) := by decide +kernel
theorem dX11_uses_7 : decode cX11_uses 7 = .ok (.aload_n 0, 1) := by decide +kernel
theorem dX11_uses_8 : decode cX11_uses 8 = .ok (.getfield 21, 3) := by decide +kernel
theorem dX11_uses_11 : decode cX11_uses 11 = .ok (.bipush 20, 2) := by decide +kernel
theorem dX11_uses_13 : decode cX11_uses 13 = .ok (.iload_n 1, 1) := by decide +kernel
theorem dX11_uses_14 : decode cX11_uses 14 = .ok (.iadd, 1) := by decide +kernel
theorem dX11_uses_15 : decode cX11_uses 15 = .ok (.iload_n 2, 1) := by decide +kernel
theorem dX11_uses_16 : decode cX11_uses 16 = .ok (.iastore, 1) := by decide +kernel
theorem dX11_uses_17 : decode cX11_uses 17 = .ok (.aload_n 0, 1) := by decide +kernel
theorem dX11_uses_18 : decode cX11_uses 18 = .ok (.getfield 21, 3) := by decide +kernel
theorem dX11_uses_21 : decode cX11_uses 21 = .ok (.bipush 80, 2) := by decide +kernel
theorem dX11_uses_23 : decode cX11_uses 23 = .ok (.iload_n 1, 1) := by decide +kernel
theorem dX11_uses_24 : decode cX11_uses 24 = .ok (.iadd, 1) := by decide +kernel
theorem dX11_uses_25 : decode cX11_uses 25 = .ok (.iload_n 3, 1) := by decide +kernel
theorem dX11_uses_26 : decode cX11_uses 26 = .ok (.iastore, 1) := by decide +kernel
theorem dX11_uses_27 : decode cX11_uses 27 = .ok (.return_, 1) := by decide +kernel
theorem dX11_readDevice_0 : decode cX11_readDevice 0 = .ok (.aload_n 0, 1) := by decide +kernel
theorem dX11_readDevice_1 : decode cX11_readDevice 1 = .ok (.getfield 21, 3) := by decide +kernel
theorem dX11_readDevice_4 : decode cX11_readDevice 4 = .ok (.bipush 10, 2) := by decide +kernel
theorem dX11_readDevice_6 : decode cX11_readDevice 6 = .ok (.iload_n 1, 1) := by decide +kernel
theorem dX11_readDevice_7 : decode cX11_readDevice 7 = .ok (.iadd, 1) := by decide +kernel
theorem dX11_readDevice_8 : decode cX11_readDevice 8 = .ok (.iaload, 1) := by decide +kernel
theorem dX11_readDevice_9 : decode cX11_readDevice 9 = .ok (.istore_n 2, 1) := by decide +kernel
theorem dX11_readDevice_10 : decode cX11_readDevice 10 = .ok (.sipush 140, 3) := by decide +kernel
theorem dX11_readDevice_13 : decode cX11_readDevice 13 = .ok (.bipush 8, 2) := by decide +kernel
theorem dX11_readDevice_15 : decode cX11_readDevice 15 = .ok (.aload_n 0, 1) := by decide +kernel
theorem dX11_readDevice_16 : decode cX11_readDevice 16 = .ok (.getfield 21, 3) := by decide +kernel
theorem dX11_readDevice_19 : decode cX11_readDevice 19 = .ok (.iconst 1, 1) := by decide +kernel
theorem dX11_readDevice_20 : decode cX11_readDevice 20 = .ok (.iaload, 1) := by decide +kernel
theorem dX11_readDevice_21 : decode cX11_readDevice 21 = .ok (.imul, 1) := by decide +kernel
theorem dX11_readDevice_22 : decode cX11_readDevice 22 = .ok (.iadd, 1) := by decide +kernel
theorem dX11_readDevice_23 : decode cX11_readDevice 23 = .ok (.istore_n 3, 1) := by decide +kernel
theorem dX11_readDevice_24 : decode cX11_readDevice 24 = .ok (.aload_n 0, 1) := by decide +kernel
theorem dX11_readDevice_25 : decode cX11_readDevice 25 = .ok (.iload_n 2, 1) := by decide +kernel
theorem dX11_readDevice_26 : decode cX11_readDevice 26 = .ok (.iload_n 1, 1) := by decide +kernel
theorem dX11_readDevice_27 : decode cX11_readDevice 27 = .ok (.invokestatic 118, 3) := by decide +kernel
theorem dX11_readDevice_30 : decode cX11_readDevice 30 = .ok (.if_icmp .ge 7, 3) := by decide +kernel
theorem dX11_readDevice_33 : decode cX11_readDevice 33 = .ok (.iconst 1, 1) := by decide +kernel
theorem dX11_readDevice_34 : decode cX11_readDevice 34 = .ok (.goto 4, 3) := by decide +kernel
theorem dX11_readDevice_37 : decode cX11_readDevice 37 = .ok (.iconst 0, 1) := by decide +kernel
theorem dX11_readDevice_38 : decode cX11_readDevice 38 = .ok (.invokevirtual 92, 3) := by decide +kernel
theorem dX11_readDevice_41 : decode cX11_readDevice 41 = .ok (.aload_n 0, 1) := by decide +kernel
theorem dX11_readDevice_42 : decode cX11_readDevice 42 = .ok (.invokevirtual 122, 3) := by decide +kernel
theorem dX11_readDevice_45 : decode cX11_readDevice 45 = .ok (.istore 4, 2) := by decide +kernel
theorem dX11_readDevice_47 : decode cX11_readDevice 47 = .ok (.aload_n 0, 1) := by decide +kernel
theorem dX11_readDevice_48 : decode cX11_readDevice 48 = .ok (.iload 4, 2) := by decide +kernel
theorem dX11_readDevice_50 : decode cX11_readDevice 50 = .ok (.iload_n 1, 1) := by decide +kernel
theorem dX11_readDevice_51 : decode cX11_readDevice 51 = .ok (.iload_n 2, 1) := by decide +kernel
theorem dX11_readDevice_52 : decode cX11_readDevice 52 = .ok (.invokevirtual 126, 3) := by decide +kernel
theorem dX11_readDevice_55 : decode cX11_readDevice 55 = .ok (.iload_n 1, 1) := by decide +kernel
theorem dX11_readDevice_56 : decode cX11_readDevice 56 = .ok (.iconst 3, 1) := by decide +kernel
theorem dX11_readDevice_57 : decode cX11_readDevice 57 = .ok (.if_icmp .lt 39, 3) := by decide +kernel
theorem dX11_readDevice_60 : decode cX11_readDevice 60 = .ok (.aload_n 0, 1) := by decide +kernel
theorem dX11_readDevice_61 : decode cX11_readDevice 61 = .ok (.getfield 21, 3) := by decide +kernel
theorem dX11_readDevice_64 : decode cX11_readDevice 64 = .ok (.iload_n 3, 1) := by decide +kernel
theorem dX11_readDevice_65 : decode cX11_readDevice 65 = .ok (.iconst 2, 1) := by decide +kernel
theorem dX11_readDevice_66 : decode cX11_readDevice 66 = .ok (.iadd, 1) := by decide +kernel
theorem dX11_readDevice_67 : decode cX11_readDevice 67 = .ok (.aload_n 0, 1) := by decide +kernel
theorem dX11_readDevice_68 : decode cX11_readDevice 68 = .ok (.ldc2_w 130, 3) := by decide +kernel
theorem dX11_readDevice_71 : decode cX11_readDevice 71 = .ok (.iconst 1, 1) := by decide +kernel
theorem dX11_readDevice_72 : decode cX11_readDevice 72 = .ok (.bipush 20, 2) := by decide +kernel
theorem dX11_readDevice_74 : decode cX11_readDevice 74 = .ok (.invokevirtual 132, 3) := by decide +kernel
theorem dX11_readDevice_77 : decode cX11_readDevice 77 = .ok (.iastore, 1) := by decide +kernel
theorem dX11_readDevice_78 : decode cX11_readDevice 78 = .ok (.aload_n 0, 1) := by decide +kernel
theorem dX11_readDevice_79 : decode cX11_readDevice 79 = .ok (.getfield 21, 3) := by decide +kernel
theorem dX11_readDevice_82 : decode cX11_readDevice 82 = .ok (.iload_n 3, 1) := by decide +kernel
theorem dX11_readDevice_83 : decode cX11_readDevice 83 = .ok (.iconst 3, 1) := by decide +kernel
theorem dX11_readDevice_84 : decode cX11_readDevice 84 = .ok (.iadd, 1) := by decide +kernel
theorem dX11_readDevice_85 : decode cX11_readDevice 85 = .ok (.aload_n 0, 1) := by decide +kernel
theorem dX11_readDevice_86 : decode cX11_readDevice 86 = .ok (.ldc2_w 136, 3) := by decide +kernel
theorem dX11_readDevice_89 : decode cX11_readDevice 89 = .ok (.iconst 1, 1) := by decide +kernel
theorem dX11_readDevice_90 : decode cX11_readDevice 90 = .ok (.bipush 9, 2) := by decide +kernel
theorem dX11_readDevice_92 : decode cX11_readDevice 92 = .ok (.invokevirtual 132, 3) := by decide +kernel
theorem dX11_readDevice_95 : decode cX11_readDevice 95 = .ok (.iastore, 1) := by decide +kernel
theorem dX11_readDevice_96 : decode cX11_readDevice 96 = .ok (.iload_n 1, 1) := by decide +kernel
theorem dX11_readDevice_97 : decode cX11_readDevice 97 = .ok (.iconst 4, 1) := by decide +kernel
theorem dX11_readDevice_98 : decode cX11_readDevice 98 = .ok (.if_icmp .ne 52, 3) := by decide +kernel
theorem dX11_readDevice_101 : decode cX11_readDevice 101 = .ok (.aload_n 0, 1) := by decide +kernel
theorem dX11_readDevice_102 : decode cX11_readDevice 102 = .ok (.getfield 21, 3) := by decide +kernel
theorem dX11_readDevice_105 : decode cX11_readDevice 105 = .ok (.iload_n 3, 1) := by decide +kernel
theorem dX11_readDevice_106 : decode cX11_readDevice 106 = .ok (.iconst 4, 1) := by decide +kernel
theorem dX11_readDevice_107 : decode cX11_readDevice 107 = .ok (.iadd, 1) := by decide +kernel
theorem dX11_readDevice_108 : decode cX11_readDevice 108 = .ok (.aload_n 0, 1) := by decide +kernel
theorem dX11_readDevice_109 : decode cX11_readDevice 109 = .ok (.ldc2_w 138, 3) := by decide +kernel
theorem dX11_readDevice_112 : decode cX11_readDevice 112 = .ok (.iconst 1, 1) := by decide +kernel
theorem dX11_readDevice_113 : decode cX11_readDevice 113 = .ok (.bipush 99, 2) := by decide +kernel
theorem dX11_readDevice_115 : decode cX11_readDevice 115 = .ok (.invokevirtual 132, 3) := by decide +kernel
theorem dX11_readDevice_118 : decode cX11_readDevice 118 = .ok (.iastore, 1) := by decide +kernel
theorem dX11_readDevice_119 : decode cX11_readDevice 119 = .ok (.aload_n 0, 1) := by decide +kernel
theorem dX11_readDevice_120 : decode cX11_readDevice 120 = .ok (.getfield 21, 3) := by decide +kernel
theorem dX11_readDevice_123 : decode cX11_readDevice 123 = .ok (.iload_n 3, 1) := by decide +kernel
theorem dX11_readDevice_124 : decode cX11_readDevice 124 = .ok (.iconst 5, 1) := by decide +kernel
theorem dX11_readDevice_125 : decode cX11_readDevice 125 = .ok (.iadd, 1) := by decide +kernel
theorem dX11_readDevice_126 : decode cX11_readDevice 126 = .ok (.aload_n 0, 1) := by decide +kernel
theorem dX11_readDevice_127 : decode cX11_readDevice 127 = .ok (.iconst 1, 1) := by decide +kernel
theorem dX11_readDevice_128 : decode cX11_readDevice 128 = .ok (.bipush 99, 2) := by decide +kernel
theorem dX11_readDevice_130 : decode cX11_readDevice 130 = .ok (.invokevirtual 100, 3) := by decide +kernel
theorem dX11_readDevice_133 : decode cX11_readDevice 133 = .ok (.iastore, 1) := by decide +kernel
theorem dX11_readDevice_134 : decode cX11_readDevice 134 = .ok (.aload_n 0, 1) := by decide +kernel
theorem dX11_readDevice_135 : decode cX11_readDevice 135 = .ok (.getfield 21, 3) := by decide +kernel
theorem dX11_readDevice_138 : decode cX11_readDevice 138 = .ok (.iload_n 3, 1) := by decide +kernel
theorem dX11_readDevice_139 : decode cX11_readDevice 139 = .ok (.bipush 6, 2) := by decide +kernel
theorem dX11_readDevice_141 : decode cX11_readDevice 141 = .ok (.iadd, 1) := by decide +kernel
theorem dX11_readDevice_142 : decode cX11_readDevice 142 = .ok (.aload_n 0, 1) := by decide +kernel
theorem dX11_readDevice_143 : decode cX11_readDevice 143 = .ok (.iconst 1, 1) := by decide +kernel
theorem dX11_readDevice_144 : decode cX11_readDevice 144 = .ok (.bipush 99, 2) := by decide +kernel
theorem dX11_readDevice_146 : decode cX11_readDevice 146 = .ok (.invokevirtual 100, 3) := by decide +kernel
theorem dX11_readDevice_149 : decode cX11_readDevice 149 = .ok (.iastore, 1) := by decide +kernel
theorem dX11_readDevice_150 : decode cX11_readDevice 150 = .ok (.iload_n 1, 1) := by decide +kernel
theorem dX11_readDevice_151 : decode cX11_readDevice 151 = .ok (.bipush 6, 2) := by decide +kernel
theorem dX11_readDevice_153 : decode cX11_readDevice 153 = .ok (.if_icmp .ne 21, 3) := by decide +kernel
theorem dX11_readDevice_156 : decode cX11_readDevice 156 = .ok (.aload_n 0, 1) := by decide +kernel
theorem dX11_readDevice_157 : decode cX11_readDevice 157 = .ok (.getfield 21, 3) := by decide +kernel
theorem dX11_readDevice_160 : decode cX11_readDevice 160 = .ok (.iload_n 3, 1) := by decide +kernel
theorem dX11_readDevice_161 : decode cX11_readDevice 161 = .ok (.iconst 4, 1) := by decide +kernel
theorem dX11_readDevice_162 : decode cX11_readDevice 162 = .ok (.iadd, 1) := by decide +kernel
theorem dX11_readDevice_163 : decode cX11_readDevice 163 = .ok (.aload_n 0, 1) := by decide +kernel
theorem dX11_readDevice_164 : decode cX11_readDevice 164 = .ok (.ldc2_w 140, 3) := by decide +kernel
theorem dX11_readDevice_167 : decode cX11_readDevice 167 = .ok (.iconst 1, 1) := by decide +kernel
theorem dX11_readDevice_168 : decode cX11_readDevice 168 = .ok (.bipush 99, 2) := by decide +kernel
theorem dX11_readDevice_170 : decode cX11_readDevice 170 = .ok (.invokevirtual 132, 3) := by decide +kernel
theorem dX11_readDevice_173 : decode cX11_readDevice 173 = .ok (.iastore, 1) := by decide +kernel
theorem dX11_readDevice_174 : decode cX11_readDevice 174 = .ok (.iload_n 1, 1) := by decide +kernel
theorem dX11_readDevice_175 : decode cX11_readDevice 175 = .ok (.iconst 3, 1) := by decide +kernel
theorem dX11_readDevice_176 : decode cX11_readDevice 176 = .ok (.if_icmp .le 40, 3) := by decide +kernel
theorem dX11_readDevice_179 : decode cX11_readDevice 179 = .ok (.aload_n 0, 1) := by decide +kernel
theorem dX11_readDevice_180 : decode cX11_readDevice 180 = .ok (.aload_n 0, 1) := by decide +kernel
theorem dX11_readDevice_181 : decode cX11_readDevice 181 = .ok (.ldc2_w 142, 3) := by decide +kernel
theorem dX11_readDevice_184 : decode cX11_readDevice 184 = .ok (.invokevirtual 96, 3) := by decide +kernel
theorem dX11_readDevice_187 : decode cX11_readDevice 187 = .ok (.invokevirtual 92, 3) := by decide +kernel
theorem dX11_readDevice_190 : decode cX11_readDevice 190 = .ok (.aload_n 0, 1) := by decide +kernel
theorem dX11_readDevice_191 : decode cX11_readDevice 191 = .ok (.invokevirtual 122, 3) := by decide +kernel
theorem dX11_readDevice_194 : decode cX11_readDevice 194 = .ok (.istore 5, 2) := by decide +kernel
theorem dX11_readDevice_196 : decode cX11_readDevice 196 = .ok (.aload_n 0, 1) := by decide +kernel
theorem dX11_readDevice_197 : decode cX11_readDevice 197 = .ok (.iload 5, 2) := by decide +kernel
theorem dX11_readDevice_199 : decode cX11_readDevice 199 = .ok (.bipush 7, 2) := by decide +kernel
theorem dX11_readDevice_201 : decode cX11_readDevice 201 = .ok (.iconst 0, 1) := by decide +kernel
theorem dX11_readDevice_202 : decode cX11_readDevice 202 = .ok (.invokevirtual 126, 3) := by decide +kernel
theorem dX11_readDevice_205 : decode cX11_readDevice 205 = .ok (.aload_n 0, 1) := by decide +kernel
theorem dX11_readDevice_206 : decode cX11_readDevice 206 = .ok (.getfield 21, 3) := by decide +kernel
theorem dX11_readDevice_209 : decode cX11_readDevice 209 = .ok (.iload_n 3, 1) := by decide +kernel
theorem dX11_readDevice_210 : decode cX11_readDevice 210 = .ok (.bipush 7, 2) := by decide +kernel
theorem dX11_readDevice_212 : decode cX11_readDevice 212 = .ok (.iadd, 1) := by decide +kernel
theorem dX11_readDevice_213 : decode cX11_readDevice 213 = .ok (.iload 5, 2) := by decide +kernel
theorem dX11_readDevice_215 : decode cX11_readDevice 215 = .ok (.iastore, 1) := by decide +kernel
theorem dX11_readDevice_216 : decode cX11_readDevice 216 = .ok (.aload_n 0, 1) := by decide +kernel
theorem dX11_readDevice_217 : decode cX11_readDevice 217 = .ok (.aload_n 0, 1) := by decide +kernel
theorem dX11_readDevice_218 : decode cX11_readDevice 218 = .ok (.getfield 70, 3) := by decide +kernel
theorem dX11_readDevice_221 : decode cX11_readDevice 221 = .ok (.iconst 3, 1) := by decide +kernel
theorem dX11_readDevice_222 : decode cX11_readDevice 222 = .ok (.if_icmp .ne 7, 3) := by decide +kernel
theorem dX11_readDevice_225 : decode cX11_readDevice 225 = .ok (.iconst 1, 1) := by decide +kernel
theorem dX11_readDevice_226 : decode cX11_readDevice 226 = .ok (.goto 4, 3) := by decide +kernel
theorem dX11_readDevice_229 : decode cX11_readDevice 229 = .ok (.iconst 0, 1) := by decide +kernel
theorem dX11_readDevice_230 : decode cX11_readDevice 230 = .ok (.invokevirtual 92, 3) := by decide +kernel
theorem dX11_readDevice_233 : decode cX11_readDevice 233 = .ok (.aload_n 0, 1) := by decide +kernel
theorem dX11_readDevice_234 : decode cX11_readDevice 234 = .ok (.getfield 81, 3) := by decide +kernel
theorem dX11_readDevice_237 : decode cX11_readDevice 237 = .ok (.ifCond .eq 64, 3) := by decide +kernel
theorem dX11_readDevice_240 : decode cX11_readDevice 240 = .ok (.aload_n 0, 1) := by decide +kernel
theorem dX11_readDevice_241 : decode cX11_readDevice 241 = .ok (.getfield 21, 3) := by decide +kernel
theorem dX11_readDevice_244 : decode cX11_readDevice 244 = .ok (.iload_n 3, 1) := by decide +kernel
theorem dX11_readDevice_245 : decode cX11_readDevice 245 = .ok (.iload_n 1, 1) := by decide +kernel
theorem dX11_readDevice_246 : decode cX11_readDevice 246 = .ok (.iastore, 1) := by decide +kernel
theorem dX11_readDevice_247 : decode cX11_readDevice 247 = .ok (.aload_n 0, 1) := by decide +kernel
theorem dX11_readDevice_248 : decode cX11_readDevice 248 = .ok (.getfield 21, 3) := by decide +kernel
theorem dX11_readDevice_251 : decode cX11_readDevice 251 = .ok (.iload_n 3, 1) := by decide +kernel
theorem dX11_readDevice_252 : decode cX11_readDevice 252 = .ok (.iconst 1, 1) := by decide +kernel
theorem dX11_readDevice_253 : decode cX11_readDevice 253 = .ok (.iadd, 1) := by decide +kernel
theorem dX11_readDevice_254 : decode cX11_readDevice 254 = .ok (.iload 4, 2) := by decide +kernel
theorem dX11_readDevice_256 : decode cX11_readDevice 256 = .ok (.iastore, 1) := by decide +kernel
theorem dX11_readDevice_257 : decode cX11_readDevice 257 = .ok (.aload_n 0, 1) := by decide +kernel
theorem dX11_readDevice_258 : decode cX11_readDevice 258 = .ok (.getfield 21, 3) := by decide +kernel
theorem dX11_readDevice_261 : decode cX11_readDevice 261 = .ok (.sipush 340, 3) := by decide +kernel
theorem dX11_readDevice_264 : decode cX11_readDevice 264 = .ok (.bipush 6, 2) := by decide +kernel
theorem dX11_readDevice_266 : decode cX11_readDevice 266 = .ok (.iload_n 1, 1) := by decide +kernel
theorem dX11_readDevice_267 : decode cX11_readDevice 267 = .ok (.imul, 1) := by decide +kernel
theorem dX11_readDevice_268 : decode cX11_readDevice 268 = .ok (.iadd, 1) := by decide +kernel
theorem dX11_readDevice_269 : decode cX11_readDevice 269 = .ok (.iload_n 2, 1) := by decide +kernel
theorem dX11_readDevice_270 : decode cX11_readDevice 270 = .ok (.iadd, 1) := by decide +kernel
theorem dX11_readDevice_271 : decode cX11_readDevice 271 = .ok (.aload_n 0, 1) := by decide +kernel
theorem dX11_readDevice_272 : decode cX11_readDevice 272 = .ok (.getfield 21, 3) := by decide +kernel
theorem dX11_readDevice_275 : decode cX11_readDevice 275 = .ok (.iconst 1, 1) := by decide +kernel
theorem dX11_readDevice_276 : decode cX11_readDevice 276 = .ok (.iaload, 1) := by decide +kernel
theorem dX11_readDevice_277 : decode cX11_readDevice 277 = .ok (.iastore, 1) := by decide +kernel
theorem dX11_readDevice_278 : decode cX11_readDevice 278 = .ok (.aload_n 0, 1) := by decide +kernel
theorem dX11_readDevice_279 : decode cX11_readDevice 279 = .ok (.getfield 21, 3) := by decide +kernel
theorem dX11_readDevice_282 : decode cX11_readDevice 282 = .ok (.bipush 10, 2) := by decide +kernel
theorem dX11_readDevice_284 : decode cX11_readDevice 284 = .ok (.iload_n 1, 1) := by decide +kernel
theorem dX11_readDevice_285 : decode cX11_readDevice 285 = .ok (.iadd, 1) := by decide +kernel
theorem dX11_readDevice_286 : decode cX11_readDevice 286 = .ok (.dup2, 1) := by decide +kernel
theorem dX11_readDevice_287 : decode cX11_readDevice 287 = .ok (.iaload, 1) := by decide +kernel
theorem dX11_readDevice_288 : decode cX11_readDevice 288 = .ok (.iconst 1, 1) := by decide +kernel
theorem dX11_readDevice_289 : decode cX11_readDevice 289 = .ok (.iadd, 1) := by decide +kernel
theorem dX11_readDevice_290 : decode cX11_readDevice 290 = .ok (.iastore, 1) := by decide +kernel
theorem dX11_readDevice_291 : decode cX11_readDevice 291 = .ok (.aload_n 0, 1) := by decide +kernel
theorem dX11_readDevice_292 : decode cX11_readDevice 292 = .ok (.getfield 21, 3) := by decide +kernel
theorem dX11_readDevice_295 : decode cX11_readDevice 295 = .ok (.iconst 1, 1) := by decide +kernel
theorem dX11_readDevice_296 : decode cX11_readDevice 296 = .ok (.dup2, 1) := by decide +kernel
theorem dX11_readDevice_297 : decode cX11_readDevice 297 = .ok (.iaload, 1) := by decide +kernel
theorem dX11_readDevice_298 : decode cX11_readDevice 298 = .ok (.iconst 1, 1) := by decide +kernel
theorem dX11_readDevice_299 : decode cX11_readDevice 299 = .ok (.iadd, 1) := by decide +kernel
theorem dX11_readDevice_300 : decode cX11_readDevice 300 = .ok (.iastore, 1) := by decide +kernel
theorem dX11_readDevice_301 : decode cX11_readDevice 301 = .ok (.return_, 1) := by decide +kernel
theorem dX11_isNewFlight_0 : decode cX11_isNewFlight 0 = .ok (.iconst 0, 1) := by decide +kernel
theorem dX11_isNewFlight_1 : decode cX11_isNewFlight 1 = .ok (.istore_n 2, 1) := by decide +kernel
theorem dX11_isNewFlight_2 : decode cX11_isNewFlight 2 = .ok (.iload_n 2, 1) := by decide +kernel
theorem dX11_isNewFlight_3 : decode cX11_isNewFlight 3 = .ok (.aload_n 0, 1) := by decide +kernel
theorem dX11_isNewFlight_4 : decode cX11_isNewFlight 4 = .ok (.getfield 21, 3) := by decide +kernel
theorem dX11_isNewFlight_7 : decode cX11_isNewFlight 7 = .ok (.iconst 4, 1) := by decide +kernel
theorem dX11_isNewFlight_8 : decode cX11_isNewFlight 8 = .ok (.iaload, 1) := by decide +kernel
theorem dX11_isNewFlight_9 : decode cX11_isNewFlight 9 = .ok (.if_icmp .ge 27, 3) := by decide +kernel
theorem dX11_isNewFlight_12 : decode cX11_isNewFlight 12 = .ok (.aload_n 0, 1) := by decide +kernel
theorem dX11_isNewFlight_13 : decode cX11_isNewFlight 13 = .ok (.getfield 21, 3) := by decide +kernel
theorem dX11_isNewFlight_16 : decode cX11_isNewFlight 16 = .ok (.sipush 290, 3) := by decide +kernel
theorem dX11_isNewFlight_19 : decode cX11_isNewFlight 19 = .ok (.iconst 4, 1) := by decide +kernel
theorem dX11_isNewFlight_20 : decode cX11_isNewFlight 20 = .ok (.iload_n 2, 1) := by decide +kernel
theorem dX11_isNewFlight_21 : decode cX11_isNewFlight 21 = .ok (.imul, 1) := by decide +kernel
theorem dX11_isNewFlight_22 : decode cX11_isNewFlight 22 = .ok (.iadd, 1) := by decide +kernel
theorem dX11_isNewFlight_23 : decode cX11_isNewFlight 23 = .ok (.iaload, 1) := by decide +kernel
theorem dX11_isNewFlight_24 : decode cX11_isNewFlight 24 = .ok (.iload_n 1, 1) := by decide +kernel
theorem dX11_isNewFlight_25 : decode cX11_isNewFlight 25 = .ok (.if_icmp .ne 5, 3) := by decide +kernel
theorem dX11_isNewFlight_28 : decode cX11_isNewFlight 28 = .ok (.iconst 0, 1) := by decide +kernel
theorem dX11_isNewFlight_29 : decode cX11_isNewFlight 29 = .ok (.ireturn, 1) := by decide +kernel
theorem dX11_isNewFlight_30 : decode cX11_isNewFlight 30 = .ok (.iinc 2 1, 3) := by decide +kernel
theorem dX11_isNewFlight_33 : decode cX11_isNewFlight 33 = .ok (.goto (-31), 3) := by decide +kernel
theorem dX11_isNewFlight_36 : decode cX11_isNewFlight 36 = .ok (.iconst 1, 1) := by decide +kernel
theorem dX11_isNewFlight_37 : decode cX11_isNewFlight 37 = .ok (.ireturn, 1) := by decide +kernel
theorem dX11_readFlight_0 : decode cX11_readFlight 0 = .ok (.sipush 290, 3) := by decide +kernel
theorem dX11_readFlight_3 : decode cX11_readFlight 3 = .ok (.iconst 4, 1) := by decide +kernel
theorem dX11_readFlight_4 : decode cX11_readFlight 4 = .ok (.aload_n 0, 1) := by decide +kernel
theorem dX11_readFlight_5 : decode cX11_readFlight 5 = .ok (.getfield 21, 3) := by decide +kernel
theorem dX11_readFlight_8 : decode cX11_readFlight 8 = .ok (.iconst 4, 1) := by decide +kernel
theorem dX11_readFlight_9 : decode cX11_readFlight 9 = .ok (.iaload, 1) := by decide +kernel
theorem dX11_readFlight_10 : decode cX11_readFlight 10 = .ok (.imul, 1) := by decide +kernel
theorem dX11_readFlight_11 : decode cX11_readFlight 11 = .ok (.iadd, 1) := by decide +kernel
theorem dX11_readFlight_12 : decode cX11_readFlight 12 = .ok (.istore_n 1, 1) := by decide +kernel
theorem dX11_readFlight_13 : decode cX11_readFlight 13 = .ok (.aload_n 0, 1) := by decide +kernel
theorem dX11_readFlight_14 : decode cX11_readFlight 14 = .ok (.aload_n 0, 1) := by decide +kernel
theorem dX11_readFlight_15 : decode cX11_readFlight 15 = .ok (.getfield 21, 3) := by decide +kernel
theorem dX11_readFlight_18 : decode cX11_readFlight 18 = .ok (.iconst 4, 1) := by decide +kernel
theorem dX11_readFlight_19 : decode cX11_readFlight 19 = .ok (.iaload, 1) := by decide +kernel
theorem dX11_readFlight_20 : decode cX11_readFlight 20 = .ok (.bipush 10, 2) := by decide +kernel
theorem dX11_readFlight_22 : decode cX11_readFlight 22 = .ok (.if_icmp .ge 7, 3) := by decide +kernel
theorem dX11_readFlight_25 : decode cX11_readFlight 25 = .ok (.iconst 1, 1) := by decide +kernel
theorem dX11_readFlight_26 : decode cX11_readFlight 26 = .ok (.goto 4, 3) := by decide +kernel
theorem dX11_readFlight_29 : decode cX11_readFlight 29 = .ok (.iconst 0, 1) := by decide +kernel
theorem dX11_readFlight_30 : decode cX11_readFlight 30 = .ok (.invokevirtual 92, 3) := by decide +kernel
theorem dX11_readFlight_33 : decode cX11_readFlight 33 = .ok (.aload_n 0, 1) := by decide +kernel
theorem dX11_readFlight_34 : decode cX11_readFlight 34 = .ok (.getfield 63, 3) := by decide +kernel
theorem dX11_readFlight_37 : decode cX11_readFlight 37 = .ok (.istore_n 2, 1) := by decide +kernel
theorem dX11_readFlight_38 : decode cX11_readFlight 38 = .ok (.aload_n 0, 1) := by decide +kernel
theorem dX11_readFlight_39 : decode cX11_readFlight 39 = .ok (.aload_n 0, 1) := by decide +kernel
theorem dX11_readFlight_40 : decode cX11_readFlight 40 = .ok (.getfield 70, 3) := by decide +kernel
theorem dX11_readFlight_43 : decode cX11_readFlight 43 = .ok (.iconst 2, 1) := by decide +kernel
theorem dX11_readFlight_44 : decode cX11_readFlight 44 = .ok (.if_icmp .ne 27, 3) := by decide +kernel
theorem dX11_readFlight_47 : decode cX11_readFlight 47 = .ok (.iload_n 2, 1) := by decide +kernel
theorem dX11_readFlight_48 : decode cX11_readFlight 48 = .ok (.i2l, 1) := by decide +kernel
theorem dX11_readFlight_49 : decode cX11_readFlight 49 = .ok (.lconst 1, 1) := by decide +kernel
theorem dX11_readFlight_50 : decode cX11_readFlight 50 = .ok (.ldc2_w 144, 3) := by decide +kernel
theorem dX11_readFlight_53 : decode cX11_readFlight 53 = .ok (.invokestatic 88, 3) := by decide +kernel
theorem dX11_readFlight_56 : decode cX11_readFlight 56 = .ok (.ifCond .eq 15, 3) := by decide +kernel
theorem dX11_readFlight_59 : decode cX11_readFlight 59 = .ok (.aload_n 0, 1) := by decide +kernel
theorem dX11_readFlight_60 : decode cX11_readFlight 60 = .ok (.iload_n 2, 1) := by decide +kernel
theorem dX11_readFlight_61 : decode cX11_readFlight 61 = .ok (.invokevirtual 146, 3) := by decide +kernel
theorem dX11_readFlight_64 : decode cX11_readFlight 64 = .ok (.ifCond .eq 7, 3) := by decide +kernel
theorem dX11_readFlight_67 : decode cX11_readFlight 67 = .ok (.iconst 1, 1) := by decide +kernel
theorem dX11_readFlight_68 : decode cX11_readFlight 68 = .ok (.goto 4, 3) := by decide +kernel
theorem dX11_readFlight_71 : decode cX11_readFlight 71 = .ok (.iconst 0, 1) := by decide +kernel
theorem dX11_readFlight_72 : decode cX11_readFlight 72 = .ok (.invokevirtual 92, 3) := by decide +kernel
theorem dX11_readFlight_75 : decode cX11_readFlight 75 = .ok (.aload_n 0, 1) := by decide +kernel
theorem dX11_readFlight_76 : decode cX11_readFlight 76 = .ok (.ldc2_w 110, 3) := by decide +kernel
theorem dX11_readFlight_79 : decode cX11_readFlight 79 = .ok (.iconst 0, 1) := by decide +kernel
theorem dX11_readFlight_80 : decode cX11_readFlight 80 = .ok (.aload_n 0, 1) := by decide +kernel
theorem dX11_readFlight_81 : decode cX11_readFlight 81 = .ok (.getfield 21, 3) := by decide +kernel
theorem dX11_readFlight_84 : decode cX11_readFlight 84 = .ok (.bipush 13, 2) := by decide +kernel
theorem dX11_readFlight_86 : decode cX11_readFlight 86 = .ok (.iaload, 1) := by decide +kernel
theorem dX11_readFlight_87 : decode cX11_readFlight 87 = .ok (.iconst 1, 1) := by decide +kernel
theorem dX11_readFlight_88 : decode cX11_readFlight 88 = .ok (.isub, 1) := by decide +kernel
theorem dX11_readFlight_89 : decode cX11_readFlight 89 = .ok (.invokevirtual 132, 3) := by decide +kernel
theorem dX11_readFlight_92 : decode cX11_readFlight 92 = .ok (.istore_n 3, 1) := by decide +kernel
theorem dX11_readFlight_93 : decode cX11_readFlight 93 = .ok (.aload_n 0, 1) := by decide +kernel
theorem dX11_readFlight_94 : decode cX11_readFlight 94 = .ok (.ldc2_w 150, 3) := by decide +kernel
theorem dX11_readFlight_97 : decode cX11_readFlight 97 = .ok (.iconst 0, 1) := by decide +kernel
theorem dX11_readFlight_98 : decode cX11_readFlight 98 = .ok (.ldc 152, 2) := by decide +kernel
theorem dX11_readFlight_100 : decode cX11_readFlight 100 = .ok (.invokevirtual 132, 3) := by decide +kernel
theorem dX11_readFlight_103 : decode cX11_readFlight 103 = .ok (.istore 4, 2) := by decide +kernel
theorem dX11_readFlight_105 : decode cX11_readFlight 105 = .ok (.aload_n 0, 1) := by decide +kernel
theorem dX11_readFlight_106 : decode cX11_readFlight 106 = .ok (.ldc2_w 153, 3) := by decide +kernel
theorem dX11_readFlight_109 : decode cX11_readFlight 109 = .ok (.iload 4, 2) := by decide +kernel
theorem dX11_readFlight_111 : decode cX11_readFlight 111 = .ok (.iconst 1, 1) := by decide +kernel
theorem dX11_readFlight_112 : decode cX11_readFlight 112 = .ok (.iadd, 1) := by decide +kernel
theorem dX11_readFlight_113 : decode cX11_readFlight 113 = .ok (.ldc 155, 2) := by decide +kernel
theorem dX11_readFlight_115 : decode cX11_readFlight 115 = .ok (.invokevirtual 132, 3) := by decide +kernel
theorem dX11_readFlight_118 : decode cX11_readFlight 118 = .ok (.istore 5, 2) := by decide +kernel
theorem dX11_readFlight_120 : decode cX11_readFlight 120 = .ok (.aload_n 0, 1) := by decide +kernel
theorem dX11_readFlight_121 : decode cX11_readFlight 121 = .ok (.aload_n 0, 1) := by decide +kernel
theorem dX11_readFlight_122 : decode cX11_readFlight 122 = .ok (.getfield 70, 3) := by decide +kernel
theorem dX11_readFlight_125 : decode cX11_readFlight 125 = .ok (.iconst 3, 1) := by decide +kernel
theorem dX11_readFlight_126 : decode cX11_readFlight 126 = .ok (.if_icmp .ne 7, 3) := by decide +kernel
theorem dX11_readFlight_129 : decode cX11_readFlight 129 = .ok (.iconst 1, 1) := by decide +kernel
theorem dX11_readFlight_130 : decode cX11_readFlight 130 = .ok (.goto 4, 3) := by decide +kernel
theorem dX11_readFlight_133 : decode cX11_readFlight 133 = .ok (.iconst 0, 1) := by decide +kernel
theorem dX11_readFlight_134 : decode cX11_readFlight 134 = .ok (.invokevirtual 92, 3) := by decide +kernel
theorem dX11_readFlight_137 : decode cX11_readFlight 137 = .ok (.aload_n 0, 1) := by decide +kernel
theorem dX11_readFlight_138 : decode cX11_readFlight 138 = .ok (.getfield 81, 3) := by decide +kernel
theorem dX11_readFlight_141 : decode cX11_readFlight 141 = .ok (.ifCond .eq 49, 3) := by decide +kernel
theorem dX11_readFlight_144 : decode cX11_readFlight 144 = .ok (.aload_n 0, 1) := by decide +kernel
theorem dX11_readFlight_145 : decode cX11_readFlight 145 = .ok (.getfield 21, 3) := by decide +kernel
theorem dX11_readFlight_148 : decode cX11_readFlight 148 = .ok (.iload_n 1, 1) := by decide +kernel
theorem dX11_readFlight_149 : decode cX11_readFlight 149 = .ok (.iload_n 2, 1) := by decide +kernel
theorem dX11_readFlight_150 : decode cX11_readFlight 150 = .ok (.iastore, 1) := by decide +kernel
theorem dX11_readFlight_151 : decode cX11_readFlight 151 = .ok (.aload_n 0, 1) := by decide +kernel
theorem dX11_readFlight_152 : decode cX11_readFlight 152 = .ok (.getfield 21, 3) := by decide +kernel
theorem dX11_readFlight_155 : decode cX11_readFlight 155 = .ok (.iload_n 1, 1) := by decide +kernel
theorem dX11_readFlight_156 : decode cX11_readFlight 156 = .ok (.iconst 1, 1) := by decide +kernel
theorem dX11_readFlight_157 : decode cX11_readFlight 157 = .ok (.iadd, 1) := by decide +kernel
theorem dX11_readFlight_158 : decode cX11_readFlight 158 = .ok (.iload_n 3, 1) := by decide +kernel
theorem dX11_readFlight_159 : decode cX11_readFlight 159 = .ok (.iastore, 1) := by decide +kernel
theorem dX11_readFlight_160 : decode cX11_readFlight 160 = .ok (.aload_n 0, 1) := by decide +kernel
theorem dX11_readFlight_161 : decode cX11_readFlight 161 = .ok (.getfield 21, 3) := by decide +kernel
theorem dX11_readFlight_164 : decode cX11_readFlight 164 = .ok (.iload_n 1, 1) := by decide +kernel
theorem dX11_readFlight_165 : decode cX11_readFlight 165 = .ok (.iconst 2, 1) := by decide +kernel
theorem dX11_readFlight_166 : decode cX11_readFlight 166 = .ok (.iadd, 1) := by decide +kernel
theorem dX11_readFlight_167 : decode cX11_readFlight 167 = .ok (.iload 4, 2) := by decide +kernel
theorem dX11_readFlight_169 : decode cX11_readFlight 169 = .ok (.iastore, 1) := by decide +kernel
theorem dX11_readFlight_170 : decode cX11_readFlight 170 = .ok (.aload_n 0, 1) := by decide +kernel
theorem dX11_readFlight_171 : decode cX11_readFlight 171 = .ok (.getfield 21, 3) := by decide +kernel
theorem dX11_readFlight_174 : decode cX11_readFlight 174 = .ok (.iload_n 1, 1) := by decide +kernel
theorem dX11_readFlight_175 : decode cX11_readFlight 175 = .ok (.iconst 3, 1) := by decide +kernel
theorem dX11_readFlight_176 : decode cX11_readFlight 176 = .ok (.iadd, 1) := by decide +kernel
theorem dX11_readFlight_177 : decode cX11_readFlight 177 = .ok (.iload 5, 2) := by decide +kernel
theorem dX11_readFlight_179 : decode cX11_readFlight 179 = .ok (.iastore, 1) := by decide +kernel
theorem dX11_readFlight_180 : decode cX11_readFlight 180 = .ok (.aload_n 0, 1) := by decide +kernel
theorem dX11_readFlight_181 : decode cX11_readFlight 181 = .ok (.getfield 21, 3) := by decide +kernel
theorem dX11_readFlight_184 : decode cX11_readFlight 184 = .ok (.iconst 4, 1) := by decide +kernel
theorem dX11_readFlight_185 : decode cX11_readFlight 185 = .ok (.dup2, 1) := by decide +kernel
theorem dX11_readFlight_186 : decode cX11_readFlight 186 = .ok (.iaload, 1) := by decide +kernel
theorem dX11_readFlight_187 : decode cX11_readFlight 187 = .ok (.iconst 1, 1) := by decide +kernel
theorem dX11_readFlight_188 : decode cX11_readFlight 188 = .ok (.iadd, 1) := by decide +kernel
theorem dX11_readFlight_189 : decode cX11_readFlight 189 = .ok (.iastore, 1) := by decide +kernel
theorem dX11_readFlight_190 : decode cX11_readFlight 190 = .ok (.return_, 1) := by decide +kernel
theorem dX11_reads_0 : decode cX11_reads 0 = .ok (.iconst 0, 1) := by decide +kernel
theorem dX11_reads_1 : decode cX11_reads 1 = .ok (.istore_n 1, 1) := by decide +kernel
theorem dX11_reads_2 : decode cX11_reads 2 = .ok (.iload_n 1, 1) := by decide +kernel
theorem dX11_reads_3 : decode cX11_reads 3 = .ok (.sipush 400, 3) := by decide +kernel
theorem dX11_reads_6 : decode cX11_reads 6 = .ok (.if_icmp .ge 16, 3) := by decide +kernel
theorem dX11_reads_9 : decode cX11_reads 9 = .ok (.aload_n 0, 1) := by decide +kernel
theorem dX11_reads_10 : decode cX11_reads 10 = .ok (.getfield 21, 3) := by decide +kernel
theorem dX11_reads_13 : decode cX11_reads 13 = .ok (.iload_n 1, 1) := by decide +kernel
theorem dX11_reads_14 : decode cX11_reads 14 = .ok (.iconst 0, 1) := by decide +kernel
theorem dX11_reads_15 : decode cX11_reads 15 = .ok (.iastore, 1) := by decide +kernel
theorem dX11_reads_16 : decode cX11_reads 16 = .ok (.iinc 1 1, 3) := by decide +kernel
theorem dX11_reads_19 : decode cX11_reads 19 = .ok (.goto (-17), 3) := by decide +kernel
theorem dX11_reads_22 : decode cX11_reads 22 = .ok (.aload_n 0, 1) := by decide +kernel
theorem dX11_reads_23 : decode cX11_reads 23 = .ok (.getfield 21, 3) := by decide +kernel
theorem dX11_reads_26 : decode cX11_reads 26 = .ok (.iconst 2, 1) := by decide +kernel
theorem dX11_reads_27 : decode cX11_reads 27 = .ok (.iconst 1, 1) := by decide +kernel
theorem dX11_reads_28 : decode cX11_reads 28 = .ok (.iastore, 1) := by decide +kernel
theorem dX11_reads_29 : decode cX11_reads 29 = .ok (.aload_n 0, 1) := by decide +kernel
theorem dX11_reads_30 : decode cX11_reads 30 = .ok (.getfield 21, 3) := by decide +kernel
theorem dX11_reads_33 : decode cX11_reads 33 = .ok (.iconst 3, 1) := by decide +kernel
theorem dX11_reads_34 : decode cX11_reads 34 = .ok (.iconst 3, 1) := by decide +kernel
theorem dX11_reads_35 : decode cX11_reads 35 = .ok (.iastore, 1) := by decide +kernel
theorem dX11_reads_36 : decode cX11_reads 36 = .ok (.aload_n 0, 1) := by decide +kernel
theorem dX11_reads_37 : decode cX11_reads 37 = .ok (.iconst 1, 1) := by decide +kernel
theorem dX11_reads_38 : decode cX11_reads 38 = .ok (.putfield 81, 3) := by decide +kernel
theorem dX11_reads_41 : decode cX11_reads 41 = .ok (.aload_n 0, 1) := by decide +kernel
theorem dX11_reads_42 : decode cX11_reads 42 = .ok (.iconst 0, 1) := by decide +kernel
theorem dX11_reads_43 : decode cX11_reads 43 = .ok (.putfield 54, 3) := by decide +kernel
theorem dX11_reads_46 : decode cX11_reads 46 = .ok (.aload_n 0, 1) := by decide +kernel
theorem dX11_reads_47 : decode cX11_reads 47 = .ok (.invokevirtual 85, 3) := by decide +kernel
theorem dX11_reads_50 : decode cX11_reads 50 = .ok (.aload_n 0, 1) := by decide +kernel
theorem dX11_reads_51 : decode cX11_reads 51 = .ok (.getfield 21, 3) := by decide +kernel
theorem dX11_reads_54 : decode cX11_reads 54 = .ok (.iconst 0, 1) := by decide +kernel
theorem dX11_reads_55 : decode cX11_reads 55 = .ok (.aload_n 0, 1) := by decide +kernel
theorem dX11_reads_56 : decode cX11_reads 56 = .ok (.ldc2_w 156, 3) := by decide +kernel
theorem dX11_reads_59 : decode cX11_reads 59 = .ok (.bipush 10, 2) := by decide +kernel
theorem dX11_reads_61 : decode cX11_reads 61 = .ok (.bipush 60, 2) := by decide +kernel
theorem dX11_reads_63 : decode cX11_reads 63 = .ok (.invokevirtual 132, 3) := by decide +kernel
theorem dX11_reads_66 : decode cX11_reads 66 = .ok (.iastore, 1) := by decide +kernel
theorem dX11_reads_67 : decode cX11_reads 67 = .ok (.aload_n 0, 1) := by decide +kernel
theorem dX11_reads_68 : decode cX11_reads 68 = .ok (.aload_n 0, 1) := by decide +kernel
theorem dX11_reads_69 : decode cX11_reads 69 = .ok (.getfield 70, 3) := by decide +kernel
theorem dX11_reads_72 : decode cX11_reads 72 = .ok (.iconst 3, 1) := by decide +kernel
theorem dX11_reads_73 : decode cX11_reads 73 = .ok (.if_icmp .ne 7, 3) := by decide +kernel
theorem dX11_reads_76 : decode cX11_reads 76 = .ok (.iconst 1, 1) := by decide +kernel
theorem dX11_reads_77 : decode cX11_reads 77 = .ok (.goto 4, 3) := by decide +kernel
theorem dX11_reads_80 : decode cX11_reads 80 = .ok (.iconst 0, 1) := by decide +kernel
theorem dX11_reads_81 : decode cX11_reads 81 = .ok (.invokevirtual 92, 3) := by decide +kernel
theorem dX11_reads_84 : decode cX11_reads 84 = .ok (.aload_n 0, 1) := by decide +kernel
theorem dX11_reads_85 : decode cX11_reads 85 = .ok (.invokevirtual 158, 3) := by decide +kernel
theorem dX11_reads_88 : decode cX11_reads 88 = .ok (.ifCond .le 14, 3) := by decide +kernel
theorem dX11_reads_91 : decode cX11_reads 91 = .ok (.aload_n 0, 1) := by decide +kernel
theorem dX11_reads_92 : decode cX11_reads 92 = .ok (.aload_n 0, 1) := by decide +kernel
theorem dX11_reads_93 : decode cX11_reads 93 = .ok (.invokevirtual 158, 3) := by decide +kernel
theorem dX11_reads_96 : decode cX11_reads 96 = .ok (.invokevirtual 161, 3) := by decide +kernel
theorem dX11_reads_99 : decode cX11_reads 99 = .ok (.goto (-15), 3) := by decide +kernel
theorem dX11_reads_102 : decode cX11_reads 102 = .ok (.aload_n 0, 1) := by decide +kernel
theorem dX11_reads_103 : decode cX11_reads 103 = .ok (.ldc2_w 165, 3) := by decide +kernel
theorem dX11_reads_106 : decode cX11_reads 106 = .ok (.invokevirtual 96, 3) := by decide +kernel
theorem dX11_reads_109 : decode cX11_reads 109 = .ok (.ifCond .eq 10, 3) := by decide +kernel
theorem dX11_reads_112 : decode cX11_reads 112 = .ok (.aload_n 0, 1) := by decide +kernel
theorem dX11_reads_113 : decode cX11_reads 113 = .ok (.invokevirtual 167, 3) := by decide +kernel
theorem dX11_reads_116 : decode cX11_reads 116 = .ok (.goto (-14), 3) := by decide +kernel
theorem dX11_reads_119 : decode cX11_reads 119 = .ok (.aload_n 0, 1) := by decide +kernel
theorem dX11_reads_120 : decode cX11_reads 120 = .ok (.ldc2_w 170, 3) := by decide +kernel
theorem dX11_reads_123 : decode cX11_reads 123 = .ok (.invokevirtual 96, 3) := by decide +kernel
theorem dX11_reads_126 : decode cX11_reads 126 = .ok (.ifCond .eq 35, 3) := by decide +kernel
theorem dX11_reads_129 : decode cX11_reads 129 = .ok (.aload_n 0, 1) := by decide +kernel
theorem dX11_reads_130 : decode cX11_reads 130 = .ok (.getfield 21, 3) := by decide +kernel
theorem dX11_reads_133 : decode cX11_reads 133 = .ok (.iconst 2, 1) := by decide +kernel
theorem dX11_reads_134 : decode cX11_reads 134 = .ok (.aload_n 0, 1) := by decide +kernel
theorem dX11_reads_135 : decode cX11_reads 135 = .ok (.ldc2_w 170, 3) := by decide +kernel
theorem dX11_reads_138 : decode cX11_reads 138 = .ok (.iconst 0, 1) := by decide +kernel
theorem dX11_reads_139 : decode cX11_reads 139 = .ok (.iconst 3, 1) := by decide +kernel
theorem dX11_reads_140 : decode cX11_reads 140 = .ok (.invokevirtual 132, 3) := by decide +kernel
theorem dX11_reads_143 : decode cX11_reads 143 = .ok (.iastore, 1) := by decide +kernel
theorem dX11_reads_144 : decode cX11_reads 144 = .ok (.aload_n 0, 1) := by decide +kernel
theorem dX11_reads_145 : decode cX11_reads 145 = .ok (.aload_n 0, 1) := by decide +kernel
theorem dX11_reads_146 : decode cX11_reads 146 = .ok (.getfield 70, 3) := by decide +kernel
theorem dX11_reads_149 : decode cX11_reads 149 = .ok (.iconst 3, 1) := by decide +kernel
theorem dX11_reads_150 : decode cX11_reads 150 = .ok (.if_icmp .ne 7, 3) := by decide +kernel
theorem dX11_reads_153 : decode cX11_reads 153 = .ok (.iconst 1, 1) := by decide +kernel
theorem dX11_reads_154 : decode cX11_reads 154 = .ok (.goto 4, 3) := by decide +kernel
theorem dX11_reads_157 : decode cX11_reads 157 = .ok (.iconst 0, 1) := by decide +kernel
theorem dX11_reads_158 : decode cX11_reads 158 = .ok (.invokevirtual 92, 3) := by decide +kernel
theorem dX11_reads_161 : decode cX11_reads 161 = .ok (.aload_n 0, 1) := by decide +kernel
theorem dX11_reads_162 : decode cX11_reads 162 = .ok (.ldc2_w 172, 3) := by decide +kernel
theorem dX11_reads_165 : decode cX11_reads 165 = .ok (.invokevirtual 96, 3) := by decide +kernel
theorem dX11_reads_168 : decode cX11_reads 168 = .ok (.ifCond .eq 36, 3) := by decide +kernel
theorem dX11_reads_171 : decode cX11_reads 171 = .ok (.aload_n 0, 1) := by decide +kernel
theorem dX11_reads_172 : decode cX11_reads 172 = .ok (.getfield 21, 3) := by decide +kernel
theorem dX11_reads_175 : decode cX11_reads 175 = .ok (.iconst 3, 1) := by decide +kernel
theorem dX11_reads_176 : decode cX11_reads 176 = .ok (.aload_n 0, 1) := by decide +kernel
theorem dX11_reads_177 : decode cX11_reads 177 = .ok (.ldc2_w 172, 3) := by decide +kernel
theorem dX11_reads_180 : decode cX11_reads 180 = .ok (.iconst 1, 1) := by decide +kernel
theorem dX11_reads_181 : decode cX11_reads 181 = .ok (.bipush 9, 2) := by decide +kernel
theorem dX11_reads_183 : decode cX11_reads 183 = .ok (.invokevirtual 132, 3) := by decide +kernel
theorem dX11_reads_186 : decode cX11_reads 186 = .ok (.iastore, 1) := by decide +kernel
theorem dX11_reads_187 : decode cX11_reads 187 = .ok (.aload_n 0, 1) := by decide +kernel
theorem dX11_reads_188 : decode cX11_reads 188 = .ok (.aload_n 0, 1) := by decide +kernel
theorem dX11_reads_189 : decode cX11_reads 189 = .ok (.getfield 70, 3) := by decide +kernel
theorem dX11_reads_192 : decode cX11_reads 192 = .ok (.iconst 3, 1) := by decide +kernel
theorem dX11_reads_193 : decode cX11_reads 193 = .ok (.if_icmp .ne 7, 3) := by decide +kernel
theorem dX11_reads_196 : decode cX11_reads 196 = .ok (.iconst 1, 1) := by decide +kernel
theorem dX11_reads_197 : decode cX11_reads 197 = .ok (.goto 4, 3) := by decide +kernel
theorem dX11_reads_200 : decode cX11_reads 200 = .ok (.iconst 0, 1) := by decide +kernel
theorem dX11_reads_201 : decode cX11_reads 201 = .ok (.invokevirtual 92, 3) := by decide +kernel
theorem dX11_reads_204 : decode cX11_reads 204 = .ok (.aload_n 0, 1) := by decide +kernel
theorem dX11_reads_205 : decode cX11_reads 205 = .ok (.getfield 81, 3) := by decide +kernel
theorem dX11_reads_208 : decode cX11_reads 208 = .ok (.ifCond .eq 23, 3) := by decide +kernel
theorem dX11_reads_211 : decode cX11_reads 211 = .ok (.aload_n 0, 1) := by decide +kernel
theorem dX11_reads_212 : decode cX11_reads 212 = .ok (.getfield 70, 3) := by decide +kernel
theorem dX11_reads_215 : decode cX11_reads 215 = .ok (.ifCond .eq 16, 3) := by decide +kernel
theorem dX11_reads_218 : decode cX11_reads 218 = .ok (.aload_n 0, 1) := by decide +kernel
theorem dX11_reads_219 : decode cX11_reads 219 = .ok (.iconst 0, 1) := by decide +kernel
theorem dX11_reads_220 : decode cX11_reads 220 = .ok (.putfield 81, 3) := by decide +kernel
theorem dX11_reads_223 : decode cX11_reads 223 = .ok (.aload_n 0, 1) := by decide +kernel
theorem dX11_reads_224 : decode cX11_reads 224 = .ok (.aload_n 0, 1) := by decide +kernel
theorem dX11_reads_225 : decode cX11_reads 225 = .ok (.getfield 60, 3) := by decide +kernel
theorem dX11_reads_228 : decode cX11_reads 228 = .ok (.putfield 13, 3) := by decide +kernel
theorem dX11_reads_231 : decode cX11_reads 231 = .ok (.return_, 1) := by decide +kernel
theorem dX11_append_0 : decode cX11_append 0 = .ok (.aload_n 0, 1) := by decide +kernel
theorem dX11_append_1 : decode cX11_append 1 = .ok (.getfield 57, 3) := by decide +kernel
theorem dX11_append_4 : decode cX11_append 4 = .ok (.bipush 20, 2) := by decide +kernel
theorem dX11_append_6 : decode cX11_append 6 = .ok (.iadd, 1) := by decide +kernel
theorem dX11_append_7 : decode cX11_append 7 = .ok (.sipush 900, 3) := by decide +kernel
theorem dX11_append_10 : decode cX11_append 10 = .ok (.if_icmp .le 5, 3) := by decide +kernel
theorem dX11_append_13 : decode cX11_append 13 = .ok (.iconst (-1), 1) := by decide +kernel
theorem dX11_append_14 : decode cX11_append 14 = .ok (.ireturn, 1) := by decide +kernel
theorem dX11_append_15 : decode cX11_append 15 = .ok (.aload_n 0, 1) := by decide +kernel
theorem dX11_append_16 : decode cX11_append 16 = .ok (.iload_n 1, 1) := by decide +kernel
theorem dX11_append_17 : decode cX11_append 17 = .ok (.invokevirtual 174, 3) := by decide +kernel
theorem dX11_append_20 : decode cX11_append 20 = .ok (.aload_n 0, 1) := by decide +kernel
theorem dX11_append_21 : decode cX11_append 21 = .ok (.iload_n 2, 1) := by decide +kernel
theorem dX11_append_22 : decode cX11_append 22 = .ok (.invokevirtual 174, 3) := by decide +kernel
theorem dX11_append_25 : decode cX11_append 25 = .ok (.aload_n 0, 1) := by decide +kernel
theorem dX11_append_26 : decode cX11_append 26 = .ok (.iload_n 3, 1) := by decide +kernel
theorem dX11_append_27 : decode cX11_append 27 = .ok (.invokevirtual 174, 3) := by decide +kernel
theorem dX11_append_30 : decode cX11_append 30 = .ok (.aload_n 0, 1) := by decide +kernel
theorem dX11_append_31 : decode cX11_append 31 = .ok (.iload 4, 2) := by decide +kernel
theorem dX11_append_33 : decode cX11_append 33 = .ok (.invokevirtual 174, 3) := by decide +kernel
theorem dX11_append_36 : decode cX11_append 36 = .ok (.aload_n 0, 1) := by decide +kernel
theorem dX11_append_37 : decode cX11_append 37 = .ok (.iload 5, 2) := by decide +kernel
theorem dX11_append_39 : decode cX11_append 39 = .ok (.invokevirtual 174, 3) := by decide +kernel
theorem dX11_append_42 : decode cX11_append 42 = .ok (.aload_n 0, 1) := by decide +kernel
theorem dX11_append_43 : decode cX11_append 43 = .ok (.getfield 57, 3) := by decide +kernel
theorem dX11_append_46 : decode cX11_append 46 = .ok (.ireturn, 1) := by decide +kernel
theorem dX11_puts_0 : decode cX11_puts 0 = .ok (.bipush 24, 2) := by decide +kernel
theorem dX11_puts_2 : decode cX11_puts 2 = .ok (.istore_n 2, 1) := by decide +kernel
theorem dX11_puts_3 : decode cX11_puts 3 = .ok (.iload_n 2, 1) := by decide +kernel
theorem dX11_puts_4 : decode cX11_puts 4 = .ok (.ifCond .lt 32, 3) := by decide +kernel
theorem dX11_puts_7 : decode cX11_puts 7 = .ok (.aload_n 0, 1) := by decide +kernel
theorem dX11_puts_8 : decode cX11_puts 8 = .ok (.getfield 7, 3) := by decide +kernel
theorem dX11_puts_11 : decode cX11_puts 11 = .ok (.aload_n 0, 1) := by decide +kernel
theorem dX11_puts_12 : decode cX11_puts 12 = .ok (.getfield 57, 3) := by decide +kernel
theorem dX11_puts_15 : decode cX11_puts 15 = .ok (.iload_n 1, 1) := by decide +kernel
theorem dX11_puts_16 : decode cX11_puts 16 = .ok (.iload_n 2, 1) := by decide +kernel
theorem dX11_puts_17 : decode cX11_puts 17 = .ok (.ishr, 1) := by decide +kernel
theorem dX11_puts_18 : decode cX11_puts 18 = .ok (.i2b, 1) := by decide +kernel
theorem dX11_puts_19 : decode cX11_puts 19 = .ok (.bastore, 1) := by decide +kernel
theorem dX11_puts_20 : decode cX11_puts 20 = .ok (.aload_n 0, 1) := by decide +kernel
theorem dX11_puts_21 : decode cX11_puts 21 = .ok (.dup, 1) := by decide +kernel
theorem dX11_puts_22 : decode cX11_puts 22 = .ok (.getfield 57, 3) := by decide +kernel
theorem dX11_puts_25 : decode cX11_puts 25 = .ok (.iconst 1, 1) := by decide +kernel
theorem dX11_puts_26 : decode cX11_puts 26 = .ok (.iadd, 1) := by decide +kernel
theorem dX11_puts_27 : decode cX11_puts 27 = .ok (.putfield 57, 3) := by decide +kernel
theorem dX11_puts_30 : decode cX11_puts 30 = .ok (.iinc 2 (-8), 3) := by decide +kernel
theorem dX11_puts_33 : decode cX11_puts 33 = .ok (.goto (-30), 3) := by decide +kernel
theorem dX11_puts_36 : decode cX11_puts 36 = .ok (.return_, 1) := by decide +kernel
theorem dX11_truncate_0 : decode cX11_truncate 0 = .ok (.iload_n 1, 1) := by decide +kernel
theorem dX11_truncate_1 : decode cX11_truncate 1 = .ok (.i2l, 1) := by decide +kernel
theorem dX11_truncate_2 : decode cX11_truncate 2 = .ok (.lconst 0, 1) := by decide +kernel
theorem dX11_truncate_3 : decode cX11_truncate 3 = .ok (.aload_n 0, 1) := by decide +kernel
theorem dX11_truncate_4 : decode cX11_truncate 4 = .ok (.getfield 57, 3) := by decide +kernel
theorem dX11_truncate_7 : decode cX11_truncate 7 = .ok (.i2l, 1) := by decide +kernel
theorem dX11_truncate_8 : decode cX11_truncate 8 = .ok (.invokestatic 88, 3) := by decide +kernel
theorem dX11_truncate_11 : decode cX11_truncate 11 = .ok (.ifCond .ne 5, 3) := by decide +kernel
theorem dX11_truncate_14 : decode cX11_truncate 14 = .ok (.iconst (-1), 1) := by decide +kernel
theorem dX11_truncate_15 : decode cX11_truncate 15 = .ok (.ireturn, 1) := by decide +kernel
theorem dX11_truncate_16 : decode cX11_truncate 16 = .ok (.aload_n 0, 1) := by decide +kernel
theorem dX11_truncate_17 : decode cX11_truncate 17 = .ok (.dup, 1) := by decide +kernel
theorem dX11_truncate_18 : decode cX11_truncate 18 = .ok (.getfield 57, 3) := by decide +kernel
theorem dX11_truncate_21 : decode cX11_truncate 21 = .ok (.iload_n 1, 1) := by decide +kernel
theorem dX11_truncate_22 : decode cX11_truncate 22 = .ok (.isub, 1) := by decide +kernel
theorem dX11_truncate_23 : decode cX11_truncate 23 = .ok (.putfield 57, 3) := by decide +kernel
theorem dX11_truncate_26 : decode cX11_truncate 26 = .ok (.aload_n 0, 1) := by decide +kernel
theorem dX11_truncate_27 : decode cX11_truncate 27 = .ok (.getfield 57, 3) := by decide +kernel
theorem dX11_truncate_30 : decode cX11_truncate 30 = .ok (.ireturn, 1) := by decide +kernel
theorem dX11_load_0 : decode cX11_load 0 = .ok (.aload_n 0, 1) := by decide +kernel
theorem dX11_load_1 : decode cX11_load 1 = .ok (.bipush (-2), 2) := by decide +kernel
theorem dX11_load_3 : decode cX11_load 3 = .ok (.putfield 13, 3) := by decide +kernel
theorem dX11_load_6 : decode cX11_load 6 = .ok (.aload_n 0, 1) := by decide +kernel
theorem dX11_load_7 : decode cX11_load 7 = .ok (.invokevirtual 177, 3) := by decide +kernel
theorem dX11_load_10 : decode cX11_load 10 = .ok (.aload_n 0, 1) := by decide +kernel
theorem dX11_load_11 : decode cX11_load 11 = .ok (.iconst 0, 1) := by decide +kernel
theorem dX11_load_12 : decode cX11_load 12 = .ok (.putfield 57, 3) := by decide +kernel
theorem dX11_load_15 : decode cX11_load 15 = .ok (.aload_n 0, 1) := by decide +kernel
theorem dX11_load_16 : decode cX11_load 16 = .ok (.getfield 81, 3) := by decide +kernel
theorem dX11_load_19 : decode cX11_load 19 = .ok (.ifCond .ne 5, 3) := by decide +kernel
theorem dX11_load_22 : decode cX11_load 22 = .ok (.iconst (-1), 1) := by decide +kernel
theorem dX11_load_23 : decode cX11_load 23 = .ok (.ireturn, 1) := by decide +kernel
theorem dX11_load_24 : decode cX11_load 24 = .ok (.iconst 0, 1) := by decide +kernel
theorem dX11_load_25 : decode cX11_load 25 = .ok (.istore_n 1, 1) := by decide +kernel
theorem dX11_load_26 : decode cX11_load 26 = .ok (.iload_n 1, 1) := by decide +kernel
theorem dX11_load_27 : decode cX11_load 27 = .ok (.sipush 400, 3) := by decide +kernel
theorem dX11_load_30 : decode cX11_load 30 = .ok (.if_icmp .ge 21, 3) := by decide +kernel
theorem dX11_load_33 : decode cX11_load 33 = .ok (.aload_n 0, 1) := by decide +kernel
theorem dX11_load_34 : decode cX11_load 34 = .ok (.getfield 17, 3) := by decide +kernel
theorem dX11_load_37 : decode cX11_load 37 = .ok (.iload_n 1, 1) := by decide +kernel
theorem dX11_load_38 : decode cX11_load 38 = .ok (.aload_n 0, 1) := by decide +kernel
theorem dX11_load_39 : decode cX11_load 39 = .ok (.getfield 21, 3) := by decide +kernel
theorem dX11_load_42 : decode cX11_load 42 = .ok (.iload_n 1, 1) := by decide +kernel
theorem dX11_load_43 : decode cX11_load 43 = .ok (.iaload, 1) := by decide +kernel
theorem dX11_load_44 : decode cX11_load 44 = .ok (.iastore, 1) := by decide +kernel
theorem dX11_load_45 : decode cX11_load 45 = .ok (.iinc 1 1, 3) := by decide +kernel
theorem dX11_load_48 : decode cX11_load 48 = .ok (.goto (-22), 3) := by decide +kernel
theorem dX11_load_51 : decode cX11_load 51 = .ok (.aload_n 0, 1) := by decide +kernel
theorem dX11_load_52 : decode cX11_load 52 = .ok (.invokevirtual 51, 3) := by decide +kernel
theorem dX11_load_55 : decode cX11_load 55 = .ok (.aload_n 0, 1) := by decide +kernel
theorem dX11_load_56 : decode cX11_load 56 = .ok (.getfield 17, 3) := by decide +kernel
theorem dX11_load_59 : decode cX11_load 59 = .ok (.iconst 0, 1) := by decide +kernel
theorem dX11_load_60 : decode cX11_load 60 = .ok (.iaload, 1) := by decide +kernel
theorem dX11_load_61 : decode cX11_load 61 = .ok (.ireturn, 1) := by decide +kernel
theorem dX11_errorPosition_0 : decode cX11_errorPosition 0 = .ok (.aload_n 0, 1) := by decide +kernel
theorem dX11_errorPosition_1 : decode cX11_errorPosition 1 = .ok (.getfield 13, 3) := by decide +kernel
theorem dX11_errorPosition_4 : decode cX11_errorPosition 4 = .ok (.ireturn, 1) := by decide +kernel
theorem dX11_begins_0 : decode cX11_begins 0 = .ok (.iconst 0, 1) := by decide +kernel
theorem dX11_begins_1 : decode cX11_begins 1 = .ok (.istore_n 1, 1) := by decide +kernel
theorem dX11_begins_2 : decode cX11_begins 2 = .ok (.iload_n 1, 1) := by decide +kernel
theorem dX11_begins_3 : decode cX11_begins 3 = .ok (.sipush 1200, 3) := by decide +kernel
theorem dX11_begins_6 : decode cX11_begins 6 = .ok (.if_icmp .ge 16, 3) := by decide +kernel
theorem dX11_begins_9 : decode cX11_begins 9 = .ok (.aload_n 0, 1) := by decide +kernel
theorem dX11_begins_10 : decode cX11_begins 10 = .ok (.getfield 24, 3) := by decide +kernel
theorem dX11_begins_13 : decode cX11_begins 13 = .ok (.iload_n 1, 1) := by decide +kernel
theorem dX11_begins_14 : decode cX11_begins 14 = .ok (.iconst 0, 1) := by decide +kernel
theorem dX11_begins_15 : decode cX11_begins 15 = .ok (.iastore, 1) := by decide +kernel
theorem dX11_begins_16 : decode cX11_begins 16 = .ok (.iinc 1 1, 3) := by decide +kernel
theorem dX11_begins_19 : decode cX11_begins 19 = .ok (.goto (-17), 3) := by decide +kernel
theorem dX11_begins_22 : decode cX11_begins 22 = .ok (.iconst 0, 1) := by decide +kernel
theorem dX11_begins_23 : decode cX11_begins 23 = .ok (.istore_n 1, 1) := by decide +kernel
theorem dX11_begins_24 : decode cX11_begins 24 = .ok (.iload_n 1, 1) := by decide +kernel
theorem dX11_begins_25 : decode cX11_begins 25 = .ok (.iconst 4, 1) := by decide +kernel
theorem dX11_begins_26 : decode cX11_begins 26 = .ok (.if_icmp .ge 19, 3) := by decide +kernel
theorem dX11_begins_29 : decode cX11_begins 29 = .ok (.aload_n 0, 1) := by decide +kernel
theorem dX11_begins_30 : decode cX11_begins 30 = .ok (.getfield 24, 3) := by decide +kernel
theorem dX11_begins_33 : decode cX11_begins 33 = .ok (.bipush 11, 2) := by decide +kernel
theorem dX11_begins_35 : decode cX11_begins 35 = .ok (.iload_n 1, 1) := by decide +kernel
theorem dX11_begins_36 : decode cX11_begins 36 = .ok (.iadd, 1) := by decide +kernel
theorem dX11_begins_37 : decode cX11_begins 37 = .ok (.iconst 1, 1) := by decide +kernel
theorem dX11_begins_38 : decode cX11_begins 38 = .ok (.iastore, 1) := by decide +kernel
theorem dX11_begins_39 : decode cX11_begins 39 = .ok (.iinc 1 1, 3) := by decide +kernel
theorem dX11_begins_42 : decode cX11_begins 42 = .ok (.goto (-18), 3) := by decide +kernel
theorem dX11_begins_45 : decode cX11_begins 45 = .ok (.iconst 0, 1) := by decide +kernel
theorem dX11_begins_46 : decode cX11_begins 46 = .ok (.istore_n 1, 1) := by decide +kernel
theorem dX11_begins_47 : decode cX11_begins 47 = .ok (.iload_n 1, 1) := by decide +kernel
theorem dX11_begins_48 : decode cX11_begins 48 = .ok (.bipush 60, 2) := by decide +kernel
theorem dX11_begins_50 : decode cX11_begins 50 = .ok (.if_icmp .ge 20, 3) := by decide +kernel
theorem dX11_begins_53 : decode cX11_begins 53 = .ok (.aload_n 0, 1) := by decide +kernel
theorem dX11_begins_54 : decode cX11_begins 54 = .ok (.getfield 24, 3) := by decide +kernel
theorem dX11_begins_57 : decode cX11_begins 57 = .ok (.bipush 90, 2) := by decide +kernel
theorem dX11_begins_59 : decode cX11_begins 59 = .ok (.iload_n 1, 1) := by decide +kernel
theorem dX11_begins_60 : decode cX11_begins 60 = .ok (.iadd, 1) := by decide +kernel
theorem dX11_begins_61 : decode cX11_begins 61 = .ok (.bipush (-2), 2) := by decide +kernel
theorem dX11_begins_63 : decode cX11_begins 63 = .ok (.iastore, 1) := by decide +kernel
theorem dX11_begins_64 : decode cX11_begins 64 = .ok (.iinc 1 1, 3) := by decide +kernel
theorem dX11_begins_67 : decode cX11_begins 67 = .ok (.goto (-20), 3) := by decide +kernel
theorem dX11_begins_70 : decode cX11_begins 70 = .ok (.aload_n 0, 1) := by decide +kernel
theorem dX11_begins_71 : decode cX11_begins 71 = .ok (.iconst 0, 1) := by decide +kernel
theorem dX11_begins_72 : decode cX11_begins 72 = .ok (.putfield 180, 3) := by decide +kernel
theorem dX11_begins_75 : decode cX11_begins 75 = .ok (.return_, 1) := by decide +kernel
theorem dX11_many_0 : decode cX11_many 0 = .ok (.aload_n 0, 1) := by decide +kernel
theorem dX11_many_1 : decode cX11_many 1 = .ok (.getfield 17, 3) := by decide +kernel
theorem dX11_many_4 : decode cX11_many 4 = .ok (.bipush 10, 2) := by decide +kernel
theorem dX11_many_6 : decode cX11_many 6 = .ok (.iload_n 1, 1) := by decide +kernel
theorem dX11_many_7 : decode cX11_many 7 = .ok (.iadd, 1) := by decide +kernel
theorem dX11_many_8 : decode cX11_many 8 = .ok (.iaload, 1) := by decide +kernel
theorem dX11_many_9 : decode cX11_many 9 = .ok (.ireturn, 1) := by decide +kernel
theorem dX11_isDevice_0 : decode cX11_isDevice 0 = .ok (.iload_n 2, 1) := by decide +kernel
theorem dX11_isDevice_1 : decode cX11_isDevice 1 = .ok (.i2l, 1) := by decide +kernel
theorem dX11_isDevice_2 : decode cX11_isDevice 2 = .ok (.lconst 0, 1) := by decide +kernel
theorem dX11_isDevice_3 : decode cX11_isDevice 3 = .ok (.aload_n 0, 1) := by decide +kernel
theorem dX11_isDevice_4 : decode cX11_isDevice 4 = .ok (.iload_n 1, 1) := by decide +kernel
theorem dX11_isDevice_5 : decode cX11_isDevice 5 = .ok (.invokevirtual 183, 3) := by decide +kernel
theorem dX11_isDevice_8 : decode cX11_isDevice 8 = .ok (.iconst 1, 1) := by decide +kernel
theorem dX11_isDevice_9 : decode cX11_isDevice 9 = .ok (.isub, 1) := by decide +kernel
theorem dX11_isDevice_10 : decode cX11_isDevice 10 = .ok (.i2l, 1) := by decide +kernel
theorem dX11_isDevice_11 : decode cX11_isDevice 11 = .ok (.invokestatic 88, 3) := by decide +kernel
theorem dX11_isDevice_14 : decode cX11_isDevice 14 = .ok (.ireturn, 1) := by decide +kernel
theorem dX11_ofDevice_0 : decode cX11_ofDevice 0 = .ok (.aload_n 0, 1) := by decide +kernel
theorem dX11_ofDevice_1 : decode cX11_ofDevice 1 = .ok (.getfield 17, 3) := by decide +kernel
theorem dX11_ofDevice_4 : decode cX11_ofDevice 4 = .ok (.sipush 140, 3) := by decide +kernel
theorem dX11_ofDevice_7 : decode cX11_ofDevice 7 = .ok (.bipush 8, 2) := by decide +kernel
theorem dX11_ofDevice_9 : decode cX11_ofDevice 9 = .ok (.aload_n 0, 1) := by decide +kernel
theorem dX11_ofDevice_10 : decode cX11_ofDevice 10 = .ok (.getfield 17, 3) := by decide +kernel
theorem dX11_ofDevice_13 : decode cX11_ofDevice 13 = .ok (.sipush 340, 3) := by decide +kernel
theorem dX11_ofDevice_16 : decode cX11_ofDevice 16 = .ok (.bipush 6, 2) := by decide +kernel
theorem dX11_ofDevice_18 : decode cX11_ofDevice 18 = .ok (.iload_n 1, 1) := by decide +kernel
theorem dX11_ofDevice_19 : decode cX11_ofDevice 19 = .ok (.imul, 1) := by decide +kernel
theorem dX11_ofDevice_20 : decode cX11_ofDevice 20 = .ok (.iadd, 1) := by decide +kernel
theorem dX11_ofDevice_21 : decode cX11_ofDevice 21 = .ok (.iload_n 2, 1) := by decide +kernel
theorem dX11_ofDevice_22 : decode cX11_ofDevice 22 = .ok (.iadd, 1) := by decide +kernel
theorem dX11_ofDevice_23 : decode cX11_ofDevice 23 = .ok (.iaload, 1) := by decide +kernel
theorem dX11_ofDevice_24 : decode cX11_ofDevice 24 = .ok (.imul, 1) := by decide +kernel
theorem dX11_ofDevice_25 : decode cX11_ofDevice 25 = .ok (.iadd, 1) := by decide +kernel
theorem dX11_ofDevice_26 : decode cX11_ofDevice 26 = .ok (.iload_n 3, 1) := by decide +kernel
theorem dX11_ofDevice_27 : decode cX11_ofDevice 27 = .ok (.iadd, 1) := by decide +kernel
theorem dX11_ofDevice_28 : decode cX11_ofDevice 28 = .ok (.iaload, 1) := by decide +kernel
theorem dX11_ofDevice_29 : decode cX11_ofDevice 29 = .ok (.ireturn, 1) := by decide +kernel
theorem dX11_isPosition_0 : decode cX11_isPosition 0 = .ok (.iload_n 1, 1) := by decide +kernel
theorem dX11_isPosition_1 : decode cX11_isPosition 1 = .ok (.i2l, 1) := by decide +kernel
theorem dX11_isPosition_2 : decode cX11_isPosition 2 = .ok (.lconst 0, 1) := by decide +kernel
theorem dX11_isPosition_3 : decode cX11_isPosition 3 = .ok (.aload_n 0, 1) := by decide +kernel
theorem dX11_isPosition_4 : decode cX11_isPosition 4 = .ok (.getfield 17, 3) := by decide +kernel
theorem dX11_isPosition_7 : decode cX11_isPosition 7 = .ok (.iconst 0, 1) := by decide +kernel
theorem dX11_isPosition_8 : decode cX11_isPosition 8 = .ok (.iaload, 1) := by decide +kernel
theorem dX11_isPosition_9 : decode cX11_isPosition 9 = .ok (.iconst 1, 1) := by decide +kernel
theorem dX11_isPosition_10 : decode cX11_isPosition 10 = .ok (.isub, 1) := by decide +kernel
theorem dX11_isPosition_11 : decode cX11_isPosition 11 = .ok (.i2l, 1) := by decide +kernel
theorem dX11_isPosition_12 : decode cX11_isPosition 12 = .ok (.invokestatic 88, 3) := by decide +kernel
theorem dX11_isPosition_15 : decode cX11_isPosition 15 = .ok (.ireturn, 1) := by decide +kernel
theorem dX11_isBag_0 : decode cX11_isBag 0 = .ok (.iload_n 1, 1) := by decide +kernel
theorem dX11_isBag_1 : decode cX11_isBag 1 = .ok (.i2l, 1) := by decide +kernel
theorem dX11_isBag_2 : decode cX11_isBag 2 = .ok (.lconst 0, 1) := by decide +kernel
theorem dX11_isBag_3 : decode cX11_isBag 3 = .ok (.aload_n 0, 1) := by decide +kernel
theorem dX11_isBag_4 : decode cX11_isBag 4 = .ok (.getfield 24, 3) := by decide +kernel
theorem dX11_isBag_7 : decode cX11_isBag 7 = .ok (.iconst 1, 1) := by decide +kernel
theorem dX11_isBag_8 : decode cX11_isBag 8 = .ok (.iaload, 1) := by decide +kernel
theorem dX11_isBag_9 : decode cX11_isBag 9 = .ok (.iconst 1, 1) := by decide +kernel
theorem dX11_isBag_10 : decode cX11_isBag 10 = .ok (.isub, 1) := by decide +kernel
theorem dX11_isBag_11 : decode cX11_isBag 11 = .ok (.i2l, 1) := by decide +kernel
theorem dX11_isBag_12 : decode cX11_isBag 12 = .ok (.invokestatic 88, 3) := by decide +kernel
theorem dX11_isBag_15 : decode cX11_isBag 15 = .ok (.ireturn, 1) := by decide +kernel
theorem dX11_isFlight_0 : decode cX11_isFlight 0 = .ok (.iload_n 1, 1) := by decide +kernel
theorem dX11_isFlight_1 : decode cX11_isFlight 1 = .ok (.i2l, 1) := by decide +kernel
theorem dX11_isFlight_2 : decode cX11_isFlight 2 = .ok (.lconst 0, 1) := by decide +kernel
theorem dX11_isFlight_3 : decode cX11_isFlight 3 = .ok (.aload_n 0, 1) := by decide +kernel
theorem dX11_isFlight_4 : decode cX11_isFlight 4 = .ok (.getfield 17, 3) := by decide +kernel
theorem dX11_isFlight_7 : decode cX11_isFlight 7 = .ok (.iconst 4, 1) := by decide +kernel
theorem dX11_isFlight_8 : decode cX11_isFlight 8 = .ok (.iaload, 1) := by decide +kernel
theorem dX11_isFlight_9 : decode cX11_isFlight 9 = .ok (.iconst 1, 1) := by decide +kernel
theorem dX11_isFlight_10 : decode cX11_isFlight 10 = .ok (.isub, 1) := by decide +kernel
theorem dX11_isFlight_11 : decode cX11_isFlight 11 = .ok (.i2l, 1) := by decide +kernel
theorem dX11_isFlight_12 : decode cX11_isFlight 12 = .ok (.invokestatic 88, 3) := by decide +kernel
theorem dX11_isFlight_15 : decode cX11_isFlight 15 = .ok (.ireturn, 1) := by decide +kernel
theorem dX11_ofFlight_0 : decode cX11_ofFlight 0 = .ok (.aload_n 0, 1) := by decide +kernel
theorem dX11_ofFlight_1 : decode cX11_ofFlight 1 = .ok (.getfield 17, 3) := by decide +kernel
theorem dX11_ofFlight_4 : decode cX11_ofFlight 4 = .ok (.sipush 290, 3) := by decide +kernel
theorem dX11_ofFlight_7 : decode cX11_ofFlight 7 = .ok (.iconst 4, 1) := by decide +kernel
theorem dX11_ofFlight_8 : decode cX11_ofFlight 8 = .ok (.iload_n 1, 1) := by decide +kernel
theorem dX11_ofFlight_9 : decode cX11_ofFlight 9 = .ok (.imul, 1) := by decide +kernel
theorem dX11_ofFlight_10 : decode cX11_ofFlight 10 = .ok (.iadd, 1) := by decide +kernel
theorem dX11_ofFlight_11 : decode cX11_ofFlight 11 = .ok (.iload_n 2, 1) := by decide +kernel
theorem dX11_ofFlight_12 : decode cX11_ofFlight 12 = .ok (.iadd, 1) := by decide +kernel
theorem dX11_ofFlight_13 : decode cX11_ofFlight 13 = .ok (.iaload, 1) := by decide +kernel
theorem dX11_ofFlight_14 : decode cX11_ofFlight 14 = .ok (.ireturn, 1) := by decide +kernel
theorem dX11_ofBag_0 : decode cX11_ofBag 0 = .ok (.aload_n 0, 1) := by decide +kernel
theorem dX11_ofBag_1 : decode cX11_ofBag 1 = .ok (.getfield 24, 3) := by decide +kernel
theorem dX11_ofBag_4 : decode cX11_ofBag 4 = .ok (.sipush 400, 3) := by decide +kernel
theorem dX11_ofBag_7 : decode cX11_ofBag 7 = .ok (.bipush 8, 2) := by decide +kernel
theorem dX11_ofBag_9 : decode cX11_ofBag 9 = .ok (.iload_n 1, 1) := by decide +kernel
theorem dX11_ofBag_10 : decode cX11_ofBag 10 = .ok (.imul, 1) := by decide +kernel
theorem dX11_ofBag_11 : decode cX11_ofBag 11 = .ok (.iadd, 1) := by decide +kernel
theorem dX11_ofBag_12 : decode cX11_ofBag 12 = .ok (.iload_n 2, 1) := by decide +kernel
theorem dX11_ofBag_13 : decode cX11_ofBag 13 = .ok (.iadd, 1) := by decide +kernel
theorem dX11_ofBag_14 : decode cX11_ofBag 14 = .ok (.iaload, 1) := by decide +kernel
theorem dX11_ofBag_15 : decode cX11_ofBag 15 = .ok (.ireturn, 1) := by decide +kernel
theorem dX11_flightIs_0 : decode cX11_flightIs 0 = .ok (.aload_n 0, 1) := by decide +kernel
theorem dX11_flightIs_1 : decode cX11_flightIs 1 = .ok (.getfield 24, 3) := by decide +kernel
theorem dX11_flightIs_4 : decode cX11_flightIs 4 = .ok (.iconst 0, 1) := by decide +kernel
theorem dX11_flightIs_5 : decode cX11_flightIs 5 = .ok (.iaload, 1) := by decide +kernel
theorem dX11_flightIs_6 : decode cX11_flightIs 6 = .ok (.istore_n 2, 1) := by decide +kernel
theorem dX11_flightIs_7 : decode cX11_flightIs 7 = .ok (.iload_n 2, 1) := by decide +kernel
theorem dX11_flightIs_8 : decode cX11_flightIs 8 = .ok (.aload_n 0, 1) := by decide +kernel
theorem dX11_flightIs_9 : decode cX11_flightIs 9 = .ok (.iload_n 1, 1) := by decide +kernel
theorem dX11_flightIs_10 : decode cX11_flightIs 10 = .ok (.iconst 2, 1) := by decide +kernel
theorem dX11_flightIs_11 : decode cX11_flightIs 11 = .ok (.invokevirtual 186, 3) := by decide +kernel
theorem dX11_flightIs_14 : decode cX11_flightIs 14 = .ok (.if_icmp .ge 7, 3) := by decide +kernel
theorem dX11_flightIs_17 : decode cX11_flightIs 17 = .ok (.iconst 0, 1) := by decide +kernel
theorem dX11_flightIs_18 : decode cX11_flightIs 18 = .ok (.goto 18, 3) := by decide +kernel
theorem dX11_flightIs_21 : decode cX11_flightIs 21 = .ok (.iload_n 2, 1) := by decide +kernel
theorem dX11_flightIs_22 : decode cX11_flightIs 22 = .ok (.aload_n 0, 1) := by decide +kernel
theorem dX11_flightIs_23 : decode cX11_flightIs 23 = .ok (.iload_n 1, 1) := by decide +kernel
theorem dX11_flightIs_24 : decode cX11_flightIs 24 = .ok (.iconst 3, 1) := by decide +kernel
theorem dX11_flightIs_25 : decode cX11_flightIs 25 = .ok (.invokevirtual 186, 3) := by decide +kernel
theorem dX11_flightIs_28 : decode cX11_flightIs 28 = .ok (.if_icmp .ge 7, 3) := by decide +kernel
theorem dX11_flightIs_31 : decode cX11_flightIs 31 = .ok (.iconst 1, 1) := by decide +kernel
theorem dX11_flightIs_32 : decode cX11_flightIs 32 = .ok (.goto 4, 3) := by decide +kernel
theorem dX11_flightIs_35 : decode cX11_flightIs 35 = .ok (.iconst 2, 1) := by decide +kernel
theorem dX11_flightIs_36 : decode cX11_flightIs 36 = .ok (.ireturn, 1) := by decide +kernel
theorem dX11_flightBy_0 : decode cX11_flightBy 0 = .ok (.iconst 0, 1) := by decide +kernel
theorem dX11_flightBy_1 : decode cX11_flightBy 1 = .ok (.istore_n 2, 1) := by decide +kernel
theorem dX11_flightBy_2 : decode cX11_flightBy 2 = .ok (.iload_n 2, 1) := by decide +kernel
theorem dX11_flightBy_3 : decode cX11_flightBy 3 = .ok (.aload_n 0, 1) := by decide +kernel
theorem dX11_flightBy_4 : decode cX11_flightBy 4 = .ok (.getfield 17, 3) := by decide +kernel
theorem dX11_flightBy_7 : decode cX11_flightBy 7 = .ok (.iconst 4, 1) := by decide +kernel
theorem dX11_flightBy_8 : decode cX11_flightBy 8 = .ok (.iaload, 1) := by decide +kernel
theorem dX11_flightBy_9 : decode cX11_flightBy 9 = .ok (.if_icmp .ge 32, 3) := by decide +kernel
theorem dX11_flightBy_12 : decode cX11_flightBy 12 = .ok (.iload_n 1, 1) := by decide +kernel
theorem dX11_flightBy_13 : decode cX11_flightBy 13 = .ok (.sipush 1000, 3) := by decide +kernel
theorem dX11_flightBy_16 : decode cX11_flightBy 16 = .ok (.if_icmp .lt 19, 3) := by decide +kernel
theorem dX11_flightBy_19 : decode cX11_flightBy 19 = .ok (.iload_n 1, 1) := by decide +kernel
theorem dX11_flightBy_20 : decode cX11_flightBy 20 = .ok (.sipush 1000, 3) := by decide +kernel
theorem dX11_flightBy_23 : decode cX11_flightBy 23 = .ok (.idiv, 1) := by decide +kernel
theorem dX11_flightBy_24 : decode cX11_flightBy 24 = .ok (.aload_n 0, 1) := by decide +kernel
theorem dX11_flightBy_25 : decode cX11_flightBy 25 = .ok (.iload_n 2, 1) := by decide +kernel
theorem dX11_flightBy_26 : decode cX11_flightBy 26 = .ok (.iconst 0, 1) := by decide +kernel
theorem dX11_flightBy_27 : decode cX11_flightBy 27 = .ok (.invokevirtual 186, 3) := by decide +kernel
theorem dX11_flightBy_30 : decode cX11_flightBy 30 = .ok (.if_icmp .ne 5, 3) := by decide +kernel
theorem dX11_flightBy_33 : decode cX11_flightBy 33 = .ok (.iload_n 2, 1) := by decide +kernel
theorem dX11_flightBy_34 : decode cX11_flightBy 34 = .ok (.ireturn, 1) := by decide +kernel
theorem dX11_flightBy_35 : decode cX11_flightBy 35 = .ok (.iinc 2 1, 3) := by decide +kernel
theorem dX11_flightBy_38 : decode cX11_flightBy 38 = .ok (.goto (-36), 3) := by decide +kernel
theorem dX11_flightBy_41 : decode cX11_flightBy 41 = .ok (.bipush (-2), 2) := by decide +kernel
theorem dX11_flightBy_43 : decode cX11_flightBy 43 = .ok (.ireturn, 1) := by decide +kernel
theorem dX11_isGood_0 : decode cX11_isGood 0 = .ok (.aload_n 0, 1) := by decide +kernel
theorem dX11_isGood_1 : decode cX11_isGood 1 = .ok (.iload_n 1, 1) := by decide +kernel
theorem dX11_isGood_2 : decode cX11_isGood 2 = .ok (.invokevirtual 189, 3) := by decide +kernel
theorem dX11_isGood_5 : decode cX11_isGood 5 = .ok (.istore_n 2, 1) := by decide +kernel
theorem dX11_isGood_6 : decode cX11_isGood 6 = .ok (.iload_n 2, 1) := by decide +kernel
theorem dX11_isGood_7 : decode cX11_isGood 7 = .ok (.ifCond .lt 16, 3) := by decide +kernel
theorem dX11_isGood_10 : decode cX11_isGood 10 = .ok (.aload_n 0, 1) := by decide +kernel
theorem dX11_isGood_11 : decode cX11_isGood 11 = .ok (.iload_n 2, 1) := by decide +kernel
theorem dX11_isGood_12 : decode cX11_isGood 12 = .ok (.invokevirtual 192, 3) := by decide +kernel
theorem dX11_isGood_15 : decode cX11_isGood 15 = .ok (.iconst 2, 1) := by decide +kernel
theorem dX11_isGood_16 : decode cX11_isGood 16 = .ok (.if_icmp .ge 7, 3) := by decide +kernel
theorem dX11_isGood_19 : decode cX11_isGood 19 = .ok (.iconst 1, 1) := by decide +kernel
theorem dX11_isGood_20 : decode cX11_isGood 20 = .ok (.goto 4, 3) := by decide +kernel
theorem dX11_isGood_23 : decode cX11_isGood 23 = .ok (.iconst 0, 1) := by decide +kernel
theorem dX11_isGood_24 : decode cX11_isGood 24 = .ok (.ireturn, 1) := by decide +kernel
theorem dX11_properOf_0 : decode cX11_properOf 0 = .ok (.aload_n 0, 1) := by decide +kernel
theorem dX11_properOf_1 : decode cX11_properOf 1 = .ok (.aload_n 0, 1) := by decide +kernel
theorem dX11_properOf_2 : decode cX11_properOf 2 = .ok (.getfield 33, 3) := by decide +kernel
theorem dX11_properOf_5 : decode cX11_properOf 5 = .ok (.iload_n 1, 1) := by decide +kernel
theorem dX11_properOf_6 : decode cX11_properOf 6 = .ok (.iaload, 1) := by decide +kernel
theorem dX11_properOf_7 : decode cX11_properOf 7 = .ok (.invokevirtual 195, 3) := by decide +kernel
theorem dX11_properOf_10 : decode cX11_properOf 10 = .ok (.ifCond .eq 12, 3) := by decide +kernel
theorem dX11_properOf_13 : decode cX11_properOf 13 = .ok (.aload_n 0, 1) := by decide +kernel
theorem dX11_properOf_14 : decode cX11_properOf 14 = .ok (.getfield 33, 3) := by decide +kernel
theorem dX11_properOf_17 : decode cX11_properOf 17 = .ok (.iload_n 1, 1) := by decide +kernel
theorem dX11_properOf_18 : decode cX11_properOf 18 = .ok (.iaload, 1) := by decide +kernel
theorem dX11_properOf_19 : decode cX11_properOf 19 = .ok (.goto 27, 3) := by decide +kernel
theorem dX11_properOf_22 : decode cX11_properOf 22 = .ok (.aload_n 0, 1) := by decide +kernel
theorem dX11_properOf_23 : decode cX11_properOf 23 = .ok (.aload_n 0, 1) := by decide +kernel
theorem dX11_properOf_24 : decode cX11_properOf 24 = .ok (.getfield 39, 3) := by decide +kernel
theorem dX11_properOf_27 : decode cX11_properOf 27 = .ok (.iload_n 1, 1) := by decide +kernel
theorem dX11_properOf_28 : decode cX11_properOf 28 = .ok (.iaload, 1) := by decide +kernel
theorem dX11_properOf_29 : decode cX11_properOf 29 = .ok (.invokevirtual 195, 3) := by decide +kernel
theorem dX11_properOf_32 : decode cX11_properOf 32 = .ok (.ifCond .eq 12, 3) := by decide +kernel
theorem dX11_properOf_35 : decode cX11_properOf 35 = .ok (.aload_n 0, 1) := by decide +kernel
theorem dX11_properOf_36 : decode cX11_properOf 36 = .ok (.getfield 39, 3) := by decide +kernel
theorem dX11_properOf_39 : decode cX11_properOf 39 = .ok (.iload_n 1, 1) := by decide +kernel
theorem dX11_properOf_40 : decode cX11_properOf 40 = .ok (.iaload, 1) := by decide +kernel
theorem dX11_properOf_41 : decode cX11_properOf 41 = .ok (.goto 5, 3) := by decide +kernel
theorem dX11_properOf_44 : decode cX11_properOf 44 = .ok (.bipush (-2), 2) := by decide +kernel
theorem dX11_properOf_46 : decode cX11_properOf 46 = .ok (.ireturn, 1) := by decide +kernel
theorem dX11_destinationAt_0 : decode cX11_destinationAt 0 = .ok (.aload_n 0, 1) := by decide +kernel
theorem dX11_destinationAt_1 : decode cX11_destinationAt 1 = .ok (.getfield 24, 3) := by decide +kernel
theorem dX11_destinationAt_4 : decode cX11_destinationAt 4 = .ok (.sipush 210, 3) := by decide +kernel
theorem dX11_destinationAt_7 : decode cX11_destinationAt 7 = .ok (.iload_n 1, 1) := by decide +kernel
theorem dX11_destinationAt_8 : decode cX11_destinationAt 8 = .ok (.iadd, 1) := by decide +kernel
theorem dX11_destinationAt_9 : decode cX11_destinationAt 9 = .ok (.iaload, 1) := by decide +kernel
theorem dX11_destinationAt_10 : decode cX11_destinationAt 10 = .ok (.istore_n 2, 1) := by decide +kernel
theorem dX11_destinationAt_11 : decode cX11_destinationAt 11 = .ok (.aload_n 0, 1) := by decide +kernel
