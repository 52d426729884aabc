/-! each instruction decoded -/
theorem d_Mo_init_0 : decode M_Mo_init.2.1 0 = .ok (.aload_n 0, 1) := by decide +kernel
theorem d_Mo_init_1 : decode M_Mo_init.2.1 1 = .ok (.invokespecial 1, 3) := by decide +kernel
theorem d_Mo_init_4 : decode M_Mo_init.2.1 4 = .ok (.aload_n 0, 1) := by decide +kernel
theorem d_Mo_init_5 : decode M_Mo_init.2.1 5 = .ok (.bipush 36, 2) := by decide +kernel
theorem d_Mo_init_7 : decode M_Mo_init.2.1 7 = .ok (.newarray .int, 2) := by decide +kernel
theorem d_Mo_init_9 : decode M_Mo_init.2.1 9 = .ok (.putfield 7, 3) := by decide +kernel
theorem d_Mo_init_12 : decode M_Mo_init.2.1 12 = .ok (.aload_n 0, 1) := by decide +kernel
theorem d_Mo_init_13 : decode M_Mo_init.2.1 13 = .ok (.bipush 36, 2) := by decide +kernel
theorem d_Mo_init_15 : decode M_Mo_init.2.1 15 = .ok (.newarray .int, 2) := by decide +kernel
theorem d_Mo_init_17 : decode M_Mo_init.2.1 17 = .ok (.putfield 13, 3) := by decide +kernel
theorem d_Mo_init_20 : decode M_Mo_init.2.1 20 = .ok (.aload_n 0, 1) := by decide +kernel
theorem d_Mo_init_21 : decode M_Mo_init.2.1 21 = .ok (.bipush 36, 2) := by decide +kernel
theorem d_Mo_init_23 : decode M_Mo_init.2.1 23 = .ok (.newarray .int, 2) := by decide +kernel
theorem d_Mo_init_25 : decode M_Mo_init.2.1 25 = .ok (.putfield 16, 3) := by decide +kernel
theorem d_Mo_init_28 : decode M_Mo_init.2.1 28 = .ok (.aload_n 0, 1) := by decide +kernel
theorem d_Mo_init_29 : decode M_Mo_init.2.1 29 = .ok (.bipush 72, 2) := by decide +kernel
theorem d_Mo_init_31 : decode M_Mo_init.2.1 31 = .ok (.newarray .boolean, 2) := by decide +kernel
theorem d_Mo_init_33 : decode M_Mo_init.2.1 33 = .ok (.putfield 19, 3) := by decide +kernel
theorem d_Mo_init_36 : decode M_Mo_init.2.1 36 = .ok (.aload_n 0, 1) := by decide +kernel
theorem d_Mo_init_37 : decode M_Mo_init.2.1 37 = .ok (.bipush 18, 2) := by decide +kernel
theorem d_Mo_init_39 : decode M_Mo_init.2.1 39 = .ok (.newarray .int, 2) := by decide +kernel
theorem d_Mo_init_41 : decode M_Mo_init.2.1 41 = .ok (.putfield 23, 3) := by decide +kernel
theorem d_Mo_init_44 : decode M_Mo_init.2.1 44 = .ok (.aload_n 0, 1) := by decide +kernel
theorem d_Mo_init_45 : decode M_Mo_init.2.1 45 = .ok (.bipush 18, 2) := by decide +kernel
theorem d_Mo_init_47 : decode M_Mo_init.2.1 47 = .ok (.newarray .int, 2) := by decide +kernel
theorem d_Mo_init_49 : decode M_Mo_init.2.1 49 = .ok (.putfield 26, 3) := by decide +kernel
theorem d_Mo_init_52 : decode M_Mo_init.2.1 52 = .ok (.aload_n 0, 1) := by decide +kernel
theorem d_Mo_init_53 : decode M_Mo_init.2.1 53 = .ok (.bipush 18, 2) := by decide +kernel
theorem d_Mo_init_55 : decode M_Mo_init.2.1 55 = .ok (.newarray .int, 2) := by decide +kernel
theorem d_Mo_init_57 : decode M_Mo_init.2.1 57 = .ok (.putfield 29, 3) := by decide +kernel
theorem d_Mo_init_60 : decode M_Mo_init.2.1 60 = .ok (.aload_n 0, 1) := by decide +kernel
theorem d_Mo_init_61 : decode M_Mo_init.2.1 61 = .ok (.bipush 18, 2) := by decide +kernel
theorem d_Mo_init_63 : decode M_Mo_init.2.1 63 = .ok (.newarray .int, 2) := by decide +kernel
theorem d_Mo_init_65 : decode M_Mo_init.2.1 65 = .ok (.putfield 32, 3) := by decide +kernel
theorem d_Mo_init_68 : decode M_Mo_init.2.1 68 = .ok (.aload_n 0, 1) := by decide +kernel
theorem d_Mo_init_69 : decode M_Mo_init.2.1 69 = .ok (.bipush 108, 2) := by decide +kernel
theorem d_Mo_init_71 : decode M_Mo_init.2.1 71 = .ok (.newarray .int, 2) := by decide +kernel
theorem d_Mo_init_73 : decode M_Mo_init.2.1 73 = .ok (.putfield 35, 3) := by decide +kernel
theorem d_Mo_init_76 : decode M_Mo_init.2.1 76 = .ok (.aload_n 0, 1) := by decide +kernel
theorem d_Mo_init_77 : decode M_Mo_init.2.1 77 = .ok (.bipush 108, 2) := by decide +kernel
theorem d_Mo_init_79 : decode M_Mo_init.2.1 79 = .ok (.newarray .int, 2) := by decide +kernel
theorem d_Mo_init_81 : decode M_Mo_init.2.1 81 = .ok (.putfield 38, 3) := by decide +kernel
theorem d_Mo_init_84 : decode M_Mo_init.2.1 84 = .ok (.aload_n 0, 1) := by decide +kernel
theorem d_Mo_init_85 : decode M_Mo_init.2.1 85 = .ok (.bipush 108, 2) := by decide +kernel
theorem d_Mo_init_87 : decode M_Mo_init.2.1 87 = .ok (.newarray .int, 2) := by decide +kernel
theorem d_Mo_init_89 : decode M_Mo_init.2.1 89 = .ok (.putfield 41, 3) := by decide +kernel
theorem d_Mo_init_92 : decode M_Mo_init.2.1 92 = .ok (.aload_n 0, 1) := by decide +kernel
theorem d_Mo_init_93 : decode M_Mo_init.2.1 93 = .ok (.bipush 108, 2) := by decide +kernel
theorem d_Mo_init_95 : decode M_Mo_init.2.1 95 = .ok (.newarray .int, 2) := by decide +kernel
theorem d_Mo_init_97 : decode M_Mo_init.2.1 97 = .ok (.putfield 44, 3) := by decide +kernel
theorem d_Mo_init_100 : decode M_Mo_init.2.1 100 = .ok (.aload_n 0, 1) := by decide +kernel
theorem d_Mo_init_101 : decode M_Mo_init.2.1 101 = .ok (.bipush 108, 2) := by decide +kernel
theorem d_Mo_init_103 : decode M_Mo_init.2.1 103 = .ok (.newarray .int, 2) := by decide +kernel
theorem d_Mo_init_105 : decode M_Mo_init.2.1 105 = .ok (.putfield 47, 3) := by decide +kernel
theorem d_Mo_init_108 : decode M_Mo_init.2.1 108 = .ok (.aload_n 0, 1) := by decide +kernel
theorem d_Mo_init_109 : decode M_Mo_init.2.1 109 = .ok (.bipush 108, 2) := by decide +kernel
theorem d_Mo_init_111 : decode M_Mo_init.2.1 111 = .ok (.newarray .boolean, 2) := by decide +kernel
theorem d_Mo_init_113 : decode M_Mo_init.2.1 113 = .ok (.putfield 50, 3) := by decide +kernel
theorem d_Mo_init_116 : decode M_Mo_init.2.1 116 = .ok (.aload_n 0, 1) := by decide +kernel
theorem d_Mo_init_117 : decode M_Mo_init.2.1 117 = .ok (.bipush 18, 2) := by decide +kernel
theorem d_Mo_init_119 : decode M_Mo_init.2.1 119 = .ok (.newarray .int, 2) := by decide +kernel
theorem d_Mo_init_121 : decode M_Mo_init.2.1 121 = .ok (.putfield 53, 3) := by decide +kernel
theorem d_Mo_init_124 : decode M_Mo_init.2.1 124 = .ok (.aload_n 0, 1) := by decide +kernel
theorem d_Mo_init_125 : decode M_Mo_init.2.1 125 = .ok (.bipush 10, 2) := by decide +kernel
theorem d_Mo_init_127 : decode M_Mo_init.2.1 127 = .ok (.newarray .int, 2) := by decide +kernel
theorem d_Mo_init_129 : decode M_Mo_init.2.1 129 = .ok (.putfield 56, 3) := by decide +kernel
theorem d_Mo_init_132 : decode M_Mo_init.2.1 132 = .ok (.aload_n 0, 1) := by decide +kernel
theorem d_Mo_init_133 : decode M_Mo_init.2.1 133 = .ok (.bipush 6, 2) := by decide +kernel
theorem d_Mo_init_135 : decode M_Mo_init.2.1 135 = .ok (.newarray .int, 2) := by decide +kernel
theorem d_Mo_init_137 : decode M_Mo_init.2.1 137 = .ok (.putfield 59, 3) := by decide +kernel
theorem d_Mo_init_140 : decode M_Mo_init.2.1 140 = .ok (.aload_n 0, 1) := by decide +kernel
theorem d_Mo_init_141 : decode M_Mo_init.2.1 141 = .ok (.bipush 6, 2) := by decide +kernel
theorem d_Mo_init_143 : decode M_Mo_init.2.1 143 = .ok (.newarray .boolean, 2) := by decide +kernel
theorem d_Mo_init_145 : decode M_Mo_init.2.1 145 = .ok (.putfield 62, 3) := by decide +kernel
theorem d_Mo_init_148 : decode M_Mo_init.2.1 148 = .ok (.aload_n 0, 1) := by decide +kernel
theorem d_Mo_init_149 : decode M_Mo_init.2.1 149 = .ok (.bipush 6, 2) := by decide +kernel
theorem d_Mo_init_151 : decode M_Mo_init.2.1 151 = .ok (.newarray .boolean, 2) := by decide +kernel
theorem d_Mo_init_153 : decode M_Mo_init.2.1 153 = .ok (.putfield 65, 3) := by decide +kernel
theorem d_Mo_init_156 : decode M_Mo_init.2.1 156 = .ok (.aload_n 0, 1) := by decide +kernel
theorem d_Mo_init_157 : decode M_Mo_init.2.1 157 = .ok (.bipush 6, 2) := by decide +kernel
theorem d_Mo_init_159 : decode M_Mo_init.2.1 159 = .ok (.newarray .int, 2) := by decide +kernel
theorem d_Mo_init_161 : decode M_Mo_init.2.1 161 = .ok (.putfield 68, 3) := by decide +kernel
theorem d_Mo_init_164 : decode M_Mo_init.2.1 164 = .ok (.aload_n 0, 1) := by decide +kernel
theorem d_Mo_init_165 : decode M_Mo_init.2.1 165 = .ok (.iconst 4, 1) := by decide +kernel
theorem d_Mo_init_166 : decode M_Mo_init.2.1 166 = .ok (.newarray .int, 2) := by decide +kernel
theorem d_Mo_init_168 : decode M_Mo_init.2.1 168 = .ok (.putfield 71, 3) := by decide +kernel
theorem d_Mo_init_171 : decode M_Mo_init.2.1 171 = .ok (.aload_n 0, 1) := by decide +kernel
theorem d_Mo_init_172 : decode M_Mo_init.2.1 172 = .ok (.iconst 4, 1) := by decide +kernel
theorem d_Mo_init_173 : decode M_Mo_init.2.1 173 = .ok (.newarray .int, 2) := by decide +kernel
theorem d_Mo_init_175 : decode M_Mo_init.2.1 175 = .ok (.putfield 74, 3) := by decide +kernel
theorem d_Mo_init_178 : decode M_Mo_init.2.1 178 = .ok (.aload_n 0, 1) := by decide +kernel
theorem d_Mo_init_179 : decode M_Mo_init.2.1 179 = .ok (.iconst 4, 1) := by decide +kernel
theorem d_Mo_init_180 : decode M_Mo_init.2.1 180 = .ok (.newarray .int, 2) := by decide +kernel
theorem d_Mo_init_182 : decode M_Mo_init.2.1 182 = .ok (.putfield 77, 3) := by decide +kernel
theorem d_Mo_init_185 : decode M_Mo_init.2.1 185 = .ok (.aload_n 0, 1) := by decide +kernel
theorem d_Mo_init_186 : decode M_Mo_init.2.1 186 = .ok (.iconst 4, 1) := by decide +kernel
theorem d_Mo_init_187 : decode M_Mo_init.2.1 187 = .ok (.newarray .int, 2) := by decide +kernel
theorem d_Mo_init_189 : decode M_Mo_init.2.1 189 = .ok (.putfield 80, 3) := by decide +kernel
theorem d_Mo_init_192 : decode M_Mo_init.2.1 192 = .ok (.aload_n 0, 1) := by decide +kernel
theorem d_Mo_init_193 : decode M_Mo_init.2.1 193 = .ok (.iconst 4, 1) := by decide +kernel
theorem d_Mo_init_194 : decode M_Mo_init.2.1 194 = .ok (.newarray .int, 2) := by decide +kernel
theorem d_Mo_init_196 : decode M_Mo_init.2.1 196 = .ok (.putfield 83, 3) := by decide +kernel
theorem d_Mo_init_199 : decode M_Mo_init.2.1 199 = .ok (.aload_n 0, 1) := by decide +kernel
theorem d_Mo_init_200 : decode M_Mo_init.2.1 200 = .ok (.bipush 24, 2) := by decide +kernel
theorem d_Mo_init_202 : decode M_Mo_init.2.1 202 = .ok (.newarray .int, 2) := by decide +kernel
theorem d_Mo_init_204 : decode M_Mo_init.2.1 204 = .ok (.putfield 86, 3) := by decide +kernel
theorem d_Mo_init_207 : decode M_Mo_init.2.1 207 = .ok (.aload_n 0, 1) := by decide +kernel
theorem d_Mo_init_208 : decode M_Mo_init.2.1 208 = .ok (.bipush 24, 2) := by decide +kernel
theorem d_Mo_init_210 : decode M_Mo_init.2.1 210 = .ok (.newarray .int, 2) := by decide +kernel
theorem d_Mo_init_212 : decode M_Mo_init.2.1 212 = .ok (.putfield 89, 3) := by decide +kernel
theorem d_Mo_init_215 : decode M_Mo_init.2.1 215 = .ok (.aload_n 0, 1) := by decide +kernel
theorem d_Mo_init_216 : decode M_Mo_init.2.1 216 = .ok (.iconst 1, 1) := by decide +kernel
theorem d_Mo_init_217 : decode M_Mo_init.2.1 217 = .ok (.putfield 92, 3) := by decide +kernel
theorem d_Mo_init_220 : decode M_Mo_init.2.1 220 = .ok (.aload_n 0, 1) := by decide +kernel
theorem d_Mo_init_221 : decode M_Mo_init.2.1 221 = .ok (.bipush 6, 2) := by decide +kernel
theorem d_Mo_init_223 : decode M_Mo_init.2.1 223 = .ok (.newarray .int, 2) := by decide +kernel
theorem d_Mo_init_225 : decode M_Mo_init.2.1 225 = .ok (.putfield 96, 3) := by decide +kernel
theorem d_Mo_init_228 : decode M_Mo_init.2.1 228 = .ok (.aload_n 0, 1) := by decide +kernel
theorem d_Mo_init_229 : decode M_Mo_init.2.1 229 = .ok (.iload_n 1, 1) := by decide +kernel
theorem d_Mo_init_230 : decode M_Mo_init.2.1 230 = .ok (.invokestatic 99, 3) := by decide +kernel
theorem d_Mo_init_233 : decode M_Mo_init.2.1 233 = .ok (.ifCond .eq 7, 3) := by decide +kernel
theorem d_Mo_init_236 : decode M_Mo_init.2.1 236 = .ok (.iload_n 1, 1) := by decide +kernel
theorem d_Mo_init_237 : decode M_Mo_init.2.1 237 = .ok (.goto 4, 3) := by decide +kernel
theorem d_Mo_init_240 : decode M_Mo_init.2.1 240 = .ok (.iconst 0, 1) := by decide +kernel
theorem d_Mo_init_241 : decode M_Mo_init.2.1 241 = .ok (.putfield 103, 3) := by decide +kernel
theorem d_Mo_init_244 : decode M_Mo_init.2.1 244 = .ok (.iconst 0, 1) := by decide +kernel
theorem d_Mo_init_245 : decode M_Mo_init.2.1 245 = .ok (.istore_n 2, 1) := by decide +kernel
theorem d_Mo_init_246 : decode M_Mo_init.2.1 246 = .ok (.iload_n 2, 1) := by decide +kernel
theorem d_Mo_init_247 : decode M_Mo_init.2.1 247 = .ok (.bipush 18, 2) := by decide +kernel
theorem d_Mo_init_249 : decode M_Mo_init.2.1 249 = .ok (.if_icmp .ge 23, 3) := by decide +kernel
theorem d_Mo_init_252 : decode M_Mo_init.2.1 252 = .ok (.aload_n 0, 1) := by decide +kernel
theorem d_Mo_init_253 : decode M_Mo_init.2.1 253 = .ok (.getfield 26, 3) := by decide +kernel
theorem d_Mo_init_256 : decode M_Mo_init.2.1 256 = .ok (.iload_n 2, 1) := by decide +kernel
theorem d_Mo_init_257 : decode M_Mo_init.2.1 257 = .ok (.iconst (-1), 1) := by decide +kernel
theorem d_Mo_init_258 : decode M_Mo_init.2.1 258 = .ok (.iastore, 1) := by decide +kernel
theorem d_Mo_init_259 : decode M_Mo_init.2.1 259 = .ok (.aload_n 0, 1) := by decide +kernel
theorem d_Mo_init_260 : decode M_Mo_init.2.1 260 = .ok (.getfield 29, 3) := by decide +kernel
theorem d_Mo_init_263 : decode M_Mo_init.2.1 263 = .ok (.iload_n 2, 1) := by decide +kernel
theorem d_Mo_init_264 : decode M_Mo_init.2.1 264 = .ok (.iconst (-1), 1) := by decide +kernel
theorem d_Mo_init_265 : decode M_Mo_init.2.1 265 = .ok (.iastore, 1) := by decide +kernel
theorem d_Mo_init_266 : decode M_Mo_init.2.1 266 = .ok (.iinc 2 1, 3) := by decide +kernel
theorem d_Mo_init_269 : decode M_Mo_init.2.1 269 = .ok (.goto (-23), 3) := by decide +kernel
theorem d_Mo_init_272 : decode M_Mo_init.2.1 272 = .ok (.iconst 0, 1) := by decide +kernel
theorem d_Mo_init_273 : decode M_Mo_init.2.1 273 = .ok (.istore_n 2, 1) := by decide +kernel
theorem d_Mo_init_274 : decode M_Mo_init.2.1 274 = .ok (.iload_n 2, 1) := by decide +kernel
theorem d_Mo_init_275 : decode M_Mo_init.2.1 275 = .ok (.bipush 108, 2) := by decide +kernel
theorem d_Mo_init_277 : decode M_Mo_init.2.1 277 = .ok (.if_icmp .ge 23, 3) := by decide +kernel
theorem d_Mo_init_280 : decode M_Mo_init.2.1 280 = .ok (.aload_n 0, 1) := by decide +kernel
theorem d_Mo_init_281 : decode M_Mo_init.2.1 281 = .ok (.getfield 35, 3) := by decide +kernel
theorem d_Mo_init_284 : decode M_Mo_init.2.1 284 = .ok (.iload_n 2, 1) := by decide +kernel
theorem d_Mo_init_285 : decode M_Mo_init.2.1 285 = .ok (.iconst (-1), 1) := by decide +kernel
theorem d_Mo_init_286 : decode M_Mo_init.2.1 286 = .ok (.iastore, 1) := by decide +kernel
theorem d_Mo_init_287 : decode M_Mo_init.2.1 287 = .ok (.aload_n 0, 1) := by decide +kernel
theorem d_Mo_init_288 : decode M_Mo_init.2.1 288 = .ok (.getfield 41, 3) := by decide +kernel
theorem d_Mo_init_291 : decode M_Mo_init.2.1 291 = .ok (.iload_n 2, 1) := by decide +kernel
theorem d_Mo_init_292 : decode M_Mo_init.2.1 292 = .ok (.iconst (-1), 1) := by decide +kernel
theorem d_Mo_init_293 : decode M_Mo_init.2.1 293 = .ok (.iastore, 1) := by decide +kernel
theorem d_Mo_init_294 : decode M_Mo_init.2.1 294 = .ok (.iinc 2 1, 3) := by decide +kernel
theorem d_Mo_init_297 : decode M_Mo_init.2.1 297 = .ok (.goto (-23), 3) := by decide +kernel
theorem d_Mo_init_300 : decode M_Mo_init.2.1 300 = .ok (.aload_n 0, 1) := by decide +kernel
theorem d_Mo_init_301 : decode M_Mo_init.2.1 301 = .ok (.invokevirtual 106, 3) := by decide +kernel
theorem d_Mo_init_304 : decode M_Mo_init.2.1 304 = .ok (.return_, 1) := by decide +kernel
theorem d_Mo_router_0 : decode M_Mo_router.2.1 0 = .ok (.iload_n 0, 1) := by decide +kernel
theorem d_Mo_router_1 : decode M_Mo_router.2.1 1 = .ok (.ifCond .lt 12, 3) := by decide +kernel
theorem d_Mo_router_4 : decode M_Mo_router.2.1 4 = .ok (.iload_n 0, 1) := by decide +kernel
theorem d_Mo_router_5 : decode M_Mo_router.2.1 5 = .ok (.iconst 5, 1) := by decide +kernel
theorem d_Mo_router_6 : decode M_Mo_router.2.1 6 = .ok (.if_icmp .gt 7, 3) := by decide +kernel
theorem d_Mo_router_9 : decode M_Mo_router.2.1 9 = .ok (.iconst 1, 1) := by decide +kernel
theorem d_Mo_router_10 : decode M_Mo_router.2.1 10 = .ok (.goto 4, 3) := by decide +kernel
theorem d_Mo_router_13 : decode M_Mo_router.2.1 13 = .ok (.iconst 0, 1) := by decide +kernel
theorem d_Mo_router_14 : decode M_Mo_router.2.1 14 = .ok (.ireturn, 1) := by decide +kernel
theorem d_Mo_ways_0 : decode M_Mo_ways.2.1 0 = .ok (.iconst 0, 1) := by decide +kernel
theorem d_Mo_ways_1 : decode M_Mo_ways.2.1 1 = .ok (.istore_n 1, 1) := by decide +kernel
theorem d_Mo_ways_2 : decode M_Mo_ways.2.1 2 = .ok (.iload_n 1, 1) := by decide +kernel
theorem d_Mo_ways_3 : decode M_Mo_ways.2.1 3 = .ok (.bipush 36, 2) := by decide +kernel
theorem d_Mo_ways_5 : decode M_Mo_ways.2.1 5 = .ok (.if_icmp .ge 47, 3) := by decide +kernel
theorem d_Mo_ways_8 : decode M_Mo_ways.2.1 8 = .ok (.aload_n 0, 1) := by decide +kernel
theorem d_Mo_ways_9 : decode M_Mo_ways.2.1 9 = .ok (.getfield 13, 3) := by decide +kernel
theorem d_Mo_ways_12 : decode M_Mo_ways.2.1 12 = .ok (.iload_n 1, 1) := by decide +kernel
theorem d_Mo_ways_13 : decode M_Mo_ways.2.1 13 = .ok (.iload_n 1, 1) := by decide +kernel
theorem d_Mo_ways_14 : decode M_Mo_ways.2.1 14 = .ok (.bipush 7, 2) := by decide +kernel
theorem d_Mo_ways_16 : decode M_Mo_ways.2.1 16 = .ok (.irem, 1) := by decide +kernel
theorem d_Mo_ways_17 : decode M_Mo_ways.2.1 17 = .ok (.ifCond .ne 7, 3) := by decide +kernel
theorem d_Mo_ways_20 : decode M_Mo_ways.2.1 20 = .ok (.iconst 0, 1) := by decide +kernel
theorem d_Mo_ways_21 : decode M_Mo_ways.2.1 21 = .ok (.goto 24, 3) := by decide +kernel
theorem d_Mo_ways_24 : decode M_Mo_ways.2.1 24 = .ok (.aload_n 0, 1) := by decide +kernel
theorem d_Mo_ways_25 : decode M_Mo_ways.2.1 25 = .ok (.getfield 7, 3) := by decide +kernel
theorem d_Mo_ways_28 : decode M_Mo_ways.2.1 28 = .ok (.iload_n 1, 1) := by decide +kernel
theorem d_Mo_ways_29 : decode M_Mo_ways.2.1 29 = .ok (.iaload, 1) := by decide +kernel
theorem d_Mo_ways_30 : decode M_Mo_ways.2.1 30 = .ok (.ifCond .le 12, 3) := by decide +kernel
theorem d_Mo_ways_33 : decode M_Mo_ways.2.1 33 = .ok (.aload_n 0, 1) := by decide +kernel
theorem d_Mo_ways_34 : decode M_Mo_ways.2.1 34 = .ok (.getfield 7, 3) := by decide +kernel
theorem d_Mo_ways_37 : decode M_Mo_ways.2.1 37 = .ok (.iload_n 1, 1) := by decide +kernel
theorem d_Mo_ways_38 : decode M_Mo_ways.2.1 38 = .ok (.iaload, 1) := by decide +kernel
theorem d_Mo_ways_39 : decode M_Mo_ways.2.1 39 = .ok (.goto 6, 3) := by decide +kernel
theorem d_Mo_ways_42 : decode M_Mo_ways.2.1 42 = .ok (.sipush 1000, 3) := by decide +kernel
theorem d_Mo_ways_45 : decode M_Mo_ways.2.1 45 = .ok (.iastore, 1) := by decide +kernel
theorem d_Mo_ways_46 : decode M_Mo_ways.2.1 46 = .ok (.iinc 1 1, 3) := by decide +kernel
theorem d_Mo_ways_49 : decode M_Mo_ways.2.1 49 = .ok (.goto (-47), 3) := by decide +kernel
theorem d_Mo_ways_52 : decode M_Mo_ways.2.1 52 = .ok (.iconst 0, 1) := by decide +kernel
theorem d_Mo_ways_53 : decode M_Mo_ways.2.1 53 = .ok (.istore_n 1, 1) := by decide +kernel
theorem d_Mo_ways_54 : decode M_Mo_ways.2.1 54 = .ok (.iload_n 1, 1) := by decide +kernel
theorem d_Mo_ways_55 : decode M_Mo_ways.2.1 55 = .ok (.bipush 6, 2) := by decide +kernel
theorem d_Mo_ways_57 : decode M_Mo_ways.2.1 57 = .ok (.if_icmp .ge 79, 3) := by decide +kernel
theorem d_Mo_ways_60 : decode M_Mo_ways.2.1 60 = .ok (.iconst 0, 1) := by decide +kernel
theorem d_Mo_ways_61 : decode M_Mo_ways.2.1 61 = .ok (.istore_n 2, 1) := by decide +kernel
theorem d_Mo_ways_62 : decode M_Mo_ways.2.1 62 = .ok (.iload_n 2, 1) := by decide +kernel
theorem d_Mo_ways_63 : decode M_Mo_ways.2.1 63 = .ok (.bipush 36, 2) := by decide +kernel
theorem d_Mo_ways_65 : decode M_Mo_ways.2.1 65 = .ok (.if_icmp .ge 65, 3) := by decide +kernel
theorem d_Mo_ways_68 : decode M_Mo_ways.2.1 68 = .ok (.aload_n 0, 1) := by decide +kernel
theorem d_Mo_ways_69 : decode M_Mo_ways.2.1 69 = .ok (.getfield 13, 3) := by decide +kernel
theorem d_Mo_ways_72 : decode M_Mo_ways.2.1 72 = .ok (.iload_n 2, 1) := by decide +kernel
theorem d_Mo_ways_73 : decode M_Mo_ways.2.1 73 = .ok (.bipush 6, 2) := by decide +kernel
theorem d_Mo_ways_75 : decode M_Mo_ways.2.1 75 = .ok (.idiv, 1) := by decide +kernel
theorem d_Mo_ways_76 : decode M_Mo_ways.2.1 76 = .ok (.bipush 6, 2) := by decide +kernel
theorem d_Mo_ways_78 : decode M_Mo_ways.2.1 78 = .ok (.imul, 1) := by decide +kernel
theorem d_Mo_ways_79 : decode M_Mo_ways.2.1 79 = .ok (.iload_n 1, 1) := by decide +kernel
theorem d_Mo_ways_80 : decode M_Mo_ways.2.1 80 = .ok (.iadd, 1) := by decide +kernel
theorem d_Mo_ways_81 : decode M_Mo_ways.2.1 81 = .ok (.iaload, 1) := by decide +kernel
theorem d_Mo_ways_82 : decode M_Mo_ways.2.1 82 = .ok (.aload_n 0, 1) := by decide +kernel
theorem d_Mo_ways_83 : decode M_Mo_ways.2.1 83 = .ok (.getfield 13, 3) := by decide +kernel
theorem d_Mo_ways_86 : decode M_Mo_ways.2.1 86 = .ok (.bipush 6, 2) := by decide +kernel
theorem d_Mo_ways_88 : decode M_Mo_ways.2.1 88 = .ok (.iload_n 1, 1) := by decide +kernel
theorem d_Mo_ways_89 : decode M_Mo_ways.2.1 89 = .ok (.imul, 1) := by decide +kernel
theorem d_Mo_ways_90 : decode M_Mo_ways.2.1 90 = .ok (.iload_n 2, 1) := by decide +kernel
theorem d_Mo_ways_91 : decode M_Mo_ways.2.1 91 = .ok (.bipush 6, 2) := by decide +kernel
theorem d_Mo_ways_93 : decode M_Mo_ways.2.1 93 = .ok (.irem, 1) := by decide +kernel
theorem d_Mo_ways_94 : decode M_Mo_ways.2.1 94 = .ok (.iadd, 1) := by decide +kernel
theorem d_Mo_ways_95 : decode M_Mo_ways.2.1 95 = .ok (.iaload, 1) := by decide +kernel
theorem d_Mo_ways_96 : decode M_Mo_ways.2.1 96 = .ok (.iadd, 1) := by decide +kernel
theorem d_Mo_ways_97 : decode M_Mo_ways.2.1 97 = .ok (.istore_n 3, 1) := by decide +kernel
theorem d_Mo_ways_98 : decode M_Mo_ways.2.1 98 = .ok (.aload_n 0, 1) := by decide +kernel
theorem d_Mo_ways_99 : decode M_Mo_ways.2.1 99 = .ok (.getfield 13, 3) := by decide +kernel
theorem d_Mo_ways_102 : decode M_Mo_ways.2.1 102 = .ok (.iload_n 2, 1) := by decide +kernel
theorem d_Mo_ways_103 : decode M_Mo_ways.2.1 103 = .ok (.iload_n 3, 1) := by decide +kernel
theorem d_Mo_ways_104 : decode M_Mo_ways.2.1 104 = .ok (.aload_n 0, 1) := by decide +kernel
theorem d_Mo_ways_105 : decode M_Mo_ways.2.1 105 = .ok (.getfield 13, 3) := by decide +kernel
theorem d_Mo_ways_108 : decode M_Mo_ways.2.1 108 = .ok (.iload_n 2, 1) := by decide +kernel
theorem d_Mo_ways_109 : decode M_Mo_ways.2.1 109 = .ok (.iaload, 1) := by decide +kernel
theorem d_Mo_ways_110 : decode M_Mo_ways.2.1 110 = .ok (.if_icmp .ge 7, 3) := by decide +kernel
theorem d_Mo_ways_113 : decode M_Mo_ways.2.1 113 = .ok (.iload_n 3, 1) := by decide +kernel
theorem d_Mo_ways_114 : decode M_Mo_ways.2.1 114 = .ok (.goto 9, 3) := by decide +kernel
theorem d_Mo_ways_117 : decode M_Mo_ways.2.1 117 = .ok (.aload_n 0, 1) := by decide +kernel
theorem d_Mo_ways_118 : decode M_Mo_ways.2.1 118 = .ok (.getfield 13, 3) := by decide +kernel
theorem d_Mo_ways_121 : decode M_Mo_ways.2.1 121 = .ok (.iload_n 2, 1) := by decide +kernel
theorem d_Mo_ways_122 : decode M_Mo_ways.2.1 122 = .ok (.iaload, 1) := by decide +kernel
theorem d_Mo_ways_123 : decode M_Mo_ways.2.1 123 = .ok (.iastore, 1) := by decide +kernel
theorem d_Mo_ways_124 : decode M_Mo_ways.2.1 124 = .ok (.iinc 2 1, 3) := by decide +kernel
theorem d_Mo_ways_127 : decode M_Mo_ways.2.1 127 = .ok (.goto (-65), 3) := by decide +kernel
theorem d_Mo_ways_130 : decode M_Mo_ways.2.1 130 = .ok (.iinc 1 1, 3) := by decide +kernel
theorem d_Mo_ways_133 : decode M_Mo_ways.2.1 133 = .ok (.goto (-79), 3) := by decide +kernel
theorem d_Mo_ways_136 : decode M_Mo_ways.2.1 136 = .ok (.iconst 0, 1) := by decide +kernel
theorem d_Mo_ways_137 : decode M_Mo_ways.2.1 137 = .ok (.istore_n 1, 1) := by decide +kernel
theorem d_Mo_ways_138 : decode M_Mo_ways.2.1 138 = .ok (.iload_n 1, 1) := by decide +kernel
theorem d_Mo_ways_139 : decode M_Mo_ways.2.1 139 = .ok (.bipush 36, 2) := by decide +kernel
theorem d_Mo_ways_141 : decode M_Mo_ways.2.1 141 = .ok (.if_icmp .ge 98, 3) := by decide +kernel
theorem d_Mo_ways_144 : decode M_Mo_ways.2.1 144 = .ok (.aload_n 0, 1) := by decide +kernel
theorem d_Mo_ways_145 : decode M_Mo_ways.2.1 145 = .ok (.getfield 16, 3) := by decide +kernel
theorem d_Mo_ways_148 : decode M_Mo_ways.2.1 148 = .ok (.iload_n 1, 1) := by decide +kernel
theorem d_Mo_ways_149 : decode M_Mo_ways.2.1 149 = .ok (.iconst (-1), 1) := by decide +kernel
theorem d_Mo_ways_150 : decode M_Mo_ways.2.1 150 = .ok (.iastore, 1) := by decide +kernel
theorem d_Mo_ways_151 : decode M_Mo_ways.2.1 151 = .ok (.iconst 5, 1) := by decide +kernel
theorem d_Mo_ways_152 : decode M_Mo_ways.2.1 152 = .ok (.istore_n 2, 1) := by decide +kernel
theorem d_Mo_ways_153 : decode M_Mo_ways.2.1 153 = .ok (.iload_n 2, 1) := by decide +kernel
theorem d_Mo_ways_154 : decode M_Mo_ways.2.1 154 = .ok (.ifCond .lt 79, 3) := by decide +kernel
theorem d_Mo_ways_157 : decode M_Mo_ways.2.1 157 = .ok (.aload_n 0, 1) := by decide +kernel
theorem d_Mo_ways_158 : decode M_Mo_ways.2.1 158 = .ok (.getfield 7, 3) := by decide +kernel
theorem d_Mo_ways_161 : decode M_Mo_ways.2.1 161 = .ok (.iload_n 1, 1) := by decide +kernel
theorem d_Mo_ways_162 : decode M_Mo_ways.2.1 162 = .ok (.bipush 6, 2) := by decide +kernel
theorem d_Mo_ways_164 : decode M_Mo_ways.2.1 164 = .ok (.idiv, 1) := by decide +kernel
theorem d_Mo_ways_165 : decode M_Mo_ways.2.1 165 = .ok (.bipush 6, 2) := by decide +kernel
theorem d_Mo_ways_167 : decode M_Mo_ways.2.1 167 = .ok (.imul, 1) := by decide +kernel
theorem d_Mo_ways_168 : decode M_Mo_ways.2.1 168 = .ok (.iload_n 2, 1) := by decide +kernel
theorem d_Mo_ways_169 : decode M_Mo_ways.2.1 169 = .ok (.iadd, 1) := by decide +kernel
theorem d_Mo_ways_170 : decode M_Mo_ways.2.1 170 = .ok (.iaload, 1) := by decide +kernel
theorem d_Mo_ways_171 : decode M_Mo_ways.2.1 171 = .ok (.istore_n 3, 1) := by decide +kernel
theorem d_Mo_ways_172 : decode M_Mo_ways.2.1 172 = .ok (.iload_n 1, 1) := by decide +kernel
theorem d_Mo_ways_173 : decode M_Mo_ways.2.1 173 = .ok (.bipush 7, 2) := by decide +kernel
theorem d_Mo_ways_175 : decode M_Mo_ways.2.1 175 = .ok (.irem, 1) := by decide +kernel
theorem d_Mo_ways_176 : decode M_Mo_ways.2.1 176 = .ok (.ifCond .eq 51, 3) := by decide +kernel
theorem d_Mo_ways_179 : decode M_Mo_ways.2.1 179 = .ok (.aload_n 0, 1) := by decide +kernel
theorem d_Mo_ways_180 : decode M_Mo_ways.2.1 180 = .ok (.getfield 13, 3) := by decide +kernel
theorem d_Mo_ways_183 : decode M_Mo_ways.2.1 183 = .ok (.iload_n 1, 1) := by decide +kernel
theorem d_Mo_ways_184 : decode M_Mo_ways.2.1 184 = .ok (.iaload, 1) := by decide +kernel
theorem d_Mo_ways_185 : decode M_Mo_ways.2.1 185 = .ok (.sipush 1000, 3) := by decide +kernel
theorem d_Mo_ways_188 : decode M_Mo_ways.2.1 188 = .ok (.if_icmp .ge 39, 3) := by decide +kernel
theorem d_Mo_ways_191 : decode M_Mo_ways.2.1 191 = .ok (.iload_n 3, 1) := by decide +kernel
theorem d_Mo_ways_192 : decode M_Mo_ways.2.1 192 = .ok (.ifCond .le 35, 3) := by decide +kernel
theorem d_Mo_ways_195 : decode M_Mo_ways.2.1 195 = .ok (.iload_n 3, 1) := by decide +kernel
theorem d_Mo_ways_196 : decode M_Mo_ways.2.1 196 = .ok (.aload_n 0, 1) := by decide +kernel
theorem d_Mo_ways_197 : decode M_Mo_ways.2.1 197 = .ok (.getfield 13, 3) := by decide +kernel
theorem d_Mo_ways_200 : decode M_Mo_ways.2.1 200 = .ok (.bipush 6, 2) := by decide +kernel
theorem d_Mo_ways_202 : decode M_Mo_ways.2.1 202 = .ok (.iload_n 2, 1) := by decide +kernel
theorem d_Mo_ways_203 : decode M_Mo_ways.2.1 203 = .ok (.imul, 1) := by decide +kernel
theorem d_Mo_ways_204 : decode M_Mo_ways.2.1 204 = .ok (.iload_n 1, 1) := by decide +kernel
theorem d_Mo_ways_205 : decode M_Mo_ways.2.1 205 = .ok (.bipush 6, 2) := by decide +kernel
theorem d_Mo_ways_207 : decode M_Mo_ways.2.1 207 = .ok (.irem, 1) := by decide +kernel
theorem d_Mo_ways_208 : decode M_Mo_ways.2.1 208 = .ok (.iadd, 1) := by decide +kernel
theorem d_Mo_ways_209 : decode M_Mo_ways.2.1 209 = .ok (.iaload, 1) := by decide +kernel
theorem d_Mo_ways_210 : decode M_Mo_ways.2.1 210 = .ok (.iadd, 1) := by decide +kernel
theorem d_Mo_ways_211 : decode M_Mo_ways.2.1 211 = .ok (.aload_n 0, 1) := by decide +kernel
theorem d_Mo_ways_212 : decode M_Mo_ways.2.1 212 = .ok (.getfield 13, 3) := by decide +kernel
theorem d_Mo_ways_215 : decode M_Mo_ways.2.1 215 = .ok (.iload_n 1, 1) := by decide +kernel
theorem d_Mo_ways_216 : decode M_Mo_ways.2.1 216 = .ok (.iaload, 1) := by decide +kernel
theorem d_Mo_ways_217 : decode M_Mo_ways.2.1 217 = .ok (.if_icmp .ne 10, 3) := by decide +kernel
theorem d_Mo_ways_220 : decode M_Mo_ways.2.1 220 = .ok (.aload_n 0, 1) := by decide +kernel
theorem d_Mo_ways_221 : decode M_Mo_ways.2.1 221 = .ok (.getfield 16, 3) := by decide +kernel
theorem d_Mo_ways_224 : decode M_Mo_ways.2.1 224 = .ok (.iload_n 1, 1) := by decide +kernel
theorem d_Mo_ways_225 : decode M_Mo_ways.2.1 225 = .ok (.iload_n 2, 1) := by decide +kernel
theorem d_Mo_ways_226 : decode M_Mo_ways.2.1 226 = .ok (.iastore, 1) := by decide +kernel
theorem d_Mo_ways_227 : decode M_Mo_ways.2.1 227 = .ok (.iinc 2 (-1), 3) := by decide +kernel
theorem d_Mo_ways_230 : decode M_Mo_ways.2.1 230 = .ok (.goto (-77), 3) := by decide +kernel
theorem d_Mo_ways_233 : decode M_Mo_ways.2.1 233 = .ok (.iinc 1 1, 3) := by decide +kernel
theorem d_Mo_ways_236 : decode M_Mo_ways.2.1 236 = .ok (.goto (-98), 3) := by decide +kernel
theorem d_Mo_ways_239 : decode M_Mo_ways.2.1 239 = .ok (.return_, 1) := by decide +kernel
theorem d_Mo_link_0 : decode M_Mo_link.2.1 0 = .ok (.iload_n 1, 1) := by decide +kernel
theorem d_Mo_link_1 : decode M_Mo_link.2.1 1 = .ok (.invokestatic 99, 3) := by decide +kernel
theorem d_Mo_link_4 : decode M_Mo_link.2.1 4 = .ok (.ifCond .eq 40, 3) := by decide +kernel
theorem d_Mo_link_7 : decode M_Mo_link.2.1 7 = .ok (.iload_n 2, 1) := by decide +kernel
theorem d_Mo_link_8 : decode M_Mo_link.2.1 8 = .ok (.invokestatic 99, 3) := by decide +kernel
theorem d_Mo_link_11 : decode M_Mo_link.2.1 11 = .ok (.ifCond .eq 33, 3) := by decide +kernel
theorem d_Mo_link_14 : decode M_Mo_link.2.1 14 = .ok (.iload_n 1, 1) := by decide +kernel
theorem d_Mo_link_15 : decode M_Mo_link.2.1 15 = .ok (.iload_n 2, 1) := by decide +kernel
theorem d_Mo_link_16 : decode M_Mo_link.2.1 16 = .ok (.if_icmp .eq 28, 3) := by decide +kernel
theorem d_Mo_link_19 : decode M_Mo_link.2.1 19 = .ok (.iload_n 3, 1) := by decide +kernel
theorem d_Mo_link_20 : decode M_Mo_link.2.1 20 = .ok (.ifCond .lt 24, 3) := by decide +kernel
theorem d_Mo_link_23 : decode M_Mo_link.2.1 23 = .ok (.iload_n 3, 1) := by decide +kernel
theorem d_Mo_link_24 : decode M_Mo_link.2.1 24 = .ok (.bipush 9, 2) := by decide +kernel
theorem d_Mo_link_26 : decode M_Mo_link.2.1 26 = .ok (.if_icmp .gt 18, 3) := by decide +kernel
theorem d_Mo_link_29 : decode M_Mo_link.2.1 29 = .ok (.aload_n 0, 1) := by decide +kernel
theorem d_Mo_link_30 : decode M_Mo_link.2.1 30 = .ok (.getfield 7, 3) := by decide +kernel
theorem d_Mo_link_33 : decode M_Mo_link.2.1 33 = .ok (.bipush 6, 2) := by decide +kernel
theorem d_Mo_link_35 : decode M_Mo_link.2.1 35 = .ok (.iload_n 1, 1) := by decide +kernel
theorem d_Mo_link_36 : decode M_Mo_link.2.1 36 = .ok (.imul, 1) := by decide +kernel
theorem d_Mo_link_37 : decode M_Mo_link.2.1 37 = .ok (.iload_n 2, 1) := by decide +kernel
theorem d_Mo_link_38 : decode M_Mo_link.2.1 38 = .ok (.iadd, 1) := by decide +kernel
theorem d_Mo_link_39 : decode M_Mo_link.2.1 39 = .ok (.iaload, 1) := by decide +kernel
theorem d_Mo_link_40 : decode M_Mo_link.2.1 40 = .ok (.iload_n 3, 1) := by decide +kernel
theorem d_Mo_link_41 : decode M_Mo_link.2.1 41 = .ok (.if_icmp .ne 5, 3) := by decide +kernel
theorem d_Mo_link_44 : decode M_Mo_link.2.1 44 = .ok (.iconst 0, 1) := by decide +kernel
theorem d_Mo_link_45 : decode M_Mo_link.2.1 45 = .ok (.ireturn, 1) := by decide +kernel
theorem d_Mo_link_46 : decode M_Mo_link.2.1 46 = .ok (.aload_n 0, 1) := by decide +kernel
theorem d_Mo_link_47 : decode M_Mo_link.2.1 47 = .ok (.getfield 7, 3) := by decide +kernel
theorem d_Mo_link_50 : decode M_Mo_link.2.1 50 = .ok (.bipush 6, 2) := by decide +kernel
theorem d_Mo_link_52 : decode M_Mo_link.2.1 52 = .ok (.iload_n 1, 1) := by decide +kernel
theorem d_Mo_link_53 : decode M_Mo_link.2.1 53 = .ok (.imul, 1) := by decide +kernel
theorem d_Mo_link_54 : decode M_Mo_link.2.1 54 = .ok (.iload_n 2, 1) := by decide +kernel
theorem d_Mo_link_55 : decode M_Mo_link.2.1 55 = .ok (.iadd, 1) := by decide +kernel
theorem d_Mo_link_56 : decode M_Mo_link.2.1 56 = .ok (.iload_n 3, 1) := by decide +kernel
theorem d_Mo_link_57 : decode M_Mo_link.2.1 57 = .ok (.iastore, 1) := by decide +kernel
theorem d_Mo_link_58 : decode M_Mo_link.2.1 58 = .ok (.aload_n 0, 1) := by decide +kernel
theorem d_Mo_link_59 : decode M_Mo_link.2.1 59 = .ok (.getfield 7, 3) := by decide +kernel
theorem d_Mo_link_62 : decode M_Mo_link.2.1 62 = .ok (.bipush 6, 2) := by decide +kernel
theorem d_Mo_link_64 : decode M_Mo_link.2.1 64 = .ok (.iload_n 2, 1) := by decide +kernel
theorem d_Mo_link_65 : decode M_Mo_link.2.1 65 = .ok (.imul, 1) := by decide +kernel
theorem d_Mo_link_66 : decode M_Mo_link.2.1 66 = .ok (.iload_n 1, 1) := by decide +kernel
theorem d_Mo_link_67 : decode M_Mo_link.2.1 67 = .ok (.iadd, 1) := by decide +kernel
theorem d_Mo_link_68 : decode M_Mo_link.2.1 68 = .ok (.iload_n 3, 1) := by decide +kernel
theorem d_Mo_link_69 : decode M_Mo_link.2.1 69 = .ok (.iastore, 1) := by decide +kernel
theorem d_Mo_link_70 : decode M_Mo_link.2.1 70 = .ok (.aload_n 0, 1) := by decide +kernel
theorem d_Mo_link_71 : decode M_Mo_link.2.1 71 = .ok (.invokevirtual 106, 3) := by decide +kernel
theorem d_Mo_link_74 : decode M_Mo_link.2.1 74 = .ok (.aload_n 0, 1) := by decide +kernel
theorem d_Mo_link_75 : decode M_Mo_link.2.1 75 = .ok (.invokevirtual 109, 3) := by decide +kernel
theorem d_Mo_link_78 : decode M_Mo_link.2.1 78 = .ok (.iconst 1, 1) := by decide +kernel
theorem d_Mo_link_79 : decode M_Mo_link.2.1 79 = .ok (.ireturn, 1) := by decide +kernel
theorem d_Mo_settle_0 : decode M_Mo_settle.2.1 0 = .ok (.iconst 0, 1) := by decide +kernel
theorem d_Mo_settle_1 : decode M_Mo_settle.2.1 1 = .ok (.istore_n 1, 1) := by decide +kernel
theorem d_Mo_settle_2 : decode M_Mo_settle.2.1 2 = .ok (.iload_n 1, 1) := by decide +kernel
theorem d_Mo_settle_3 : decode M_Mo_settle.2.1 3 = .ok (.bipush 18, 2) := by decide +kernel
theorem d_Mo_settle_5 : decode M_Mo_settle.2.1 5 = .ok (.if_icmp .ge 21, 3) := by decide +kernel
theorem d_Mo_settle_8 : decode M_Mo_settle.2.1 8 = .ok (.aload_n 0, 1) := by decide +kernel
theorem d_Mo_settle_9 : decode M_Mo_settle.2.1 9 = .ok (.getfield 32, 3) := by decide +kernel
theorem d_Mo_settle_12 : decode M_Mo_settle.2.1 12 = .ok (.iload_n 1, 1) := by decide +kernel
theorem d_Mo_settle_13 : decode M_Mo_settle.2.1 13 = .ok (.aload_n 0, 1) := by decide +kernel
theorem d_Mo_settle_14 : decode M_Mo_settle.2.1 14 = .ok (.getfield 29, 3) := by decide +kernel
theorem d_Mo_settle_17 : decode M_Mo_settle.2.1 17 = .ok (.iload_n 1, 1) := by decide +kernel
theorem d_Mo_settle_18 : decode M_Mo_settle.2.1 18 = .ok (.iaload, 1) := by decide +kernel
theorem d_Mo_settle_19 : decode M_Mo_settle.2.1 19 = .ok (.iastore, 1) := by decide +kernel
theorem d_Mo_settle_20 : decode M_Mo_settle.2.1 20 = .ok (.iinc 1 1, 3) := by decide +kernel
theorem d_Mo_settle_23 : decode M_Mo_settle.2.1 23 = .ok (.goto (-21), 3) := by decide +kernel
theorem d_Mo_settle_26 : decode M_Mo_settle.2.1 26 = .ok (.iconst 0, 1) := by decide +kernel
theorem d_Mo_settle_27 : decode M_Mo_settle.2.1 27 = .ok (.istore_n 1, 1) := by decide +kernel
theorem d_Mo_settle_28 : decode M_Mo_settle.2.1 28 = .ok (.iload_n 1, 1) := by decide +kernel
theorem d_Mo_settle_29 : decode M_Mo_settle.2.1 29 = .ok (.bipush 108, 2) := by decide +kernel
theorem d_Mo_settle_31 : decode M_Mo_settle.2.1 31 = .ok (.if_icmp .ge 66, 3) := by decide +kernel
theorem d_Mo_settle_34 : decode M_Mo_settle.2.1 34 = .ok (.aload_n 0, 1) := by decide +kernel
theorem d_Mo_settle_35 : decode M_Mo_settle.2.1 35 = .ok (.getfield 50, 3) := by decide +kernel
theorem d_Mo_settle_38 : decode M_Mo_settle.2.1 38 = .ok (.iload_n 1, 1) := by decide +kernel
theorem d_Mo_settle_39 : decode M_Mo_settle.2.1 39 = .ok (.aload_n 0, 1) := by decide +kernel
theorem d_Mo_settle_40 : decode M_Mo_settle.2.1 40 = .ok (.getfield 50, 3) := by decide +kernel
theorem d_Mo_settle_43 : decode M_Mo_settle.2.1 43 = .ok (.iload_n 1, 1) := by decide +kernel
theorem d_Mo_settle_44 : decode M_Mo_settle.2.1 44 = .ok (.baload, 1) := by decide +kernel
theorem d_Mo_settle_45 : decode M_Mo_settle.2.1 45 = .ok (.ifCond .eq 20, 3) := by decide +kernel
theorem d_Mo_settle_48 : decode M_Mo_settle.2.1 48 = .ok (.aload_n 0, 1) := by decide +kernel
theorem d_Mo_settle_49 : decode M_Mo_settle.2.1 49 = .ok (.getfield 47, 3) := by decide +kernel
theorem d_Mo_settle_52 : decode M_Mo_settle.2.1 52 = .ok (.iload_n 1, 1) := by decide +kernel
theorem d_Mo_settle_53 : decode M_Mo_settle.2.1 53 = .ok (.iaload, 1) := by decide +kernel
theorem d_Mo_settle_54 : decode M_Mo_settle.2.1 54 = .ok (.aload_n 0, 1) := by decide +kernel
theorem d_Mo_settle_55 : decode M_Mo_settle.2.1 55 = .ok (.getfield 112, 3) := by decide +kernel
theorem d_Mo_settle_58 : decode M_Mo_settle.2.1 58 = .ok (.if_icmp .le 7, 3) := by decide +kernel
theorem d_Mo_settle_61 : decode M_Mo_settle.2.1 61 = .ok (.iconst 1, 1) := by decide +kernel
theorem d_Mo_settle_62 : decode M_Mo_settle.2.1 62 = .ok (.goto 4, 3) := by decide +kernel
theorem d_Mo_settle_65 : decode M_Mo_settle.2.1 65 = .ok (.iconst 0, 1) := by decide +kernel
theorem d_Mo_settle_66 : decode M_Mo_settle.2.1 66 = .ok (.bastore, 1) := by decide +kernel
theorem d_Mo_settle_67 : decode M_Mo_settle.2.1 67 = .ok (.aload_n 0, 1) := by decide +kernel
theorem d_Mo_settle_68 : decode M_Mo_settle.2.1 68 = .ok (.getfield 38, 3) := by decide +kernel
theorem d_Mo_settle_71 : decode M_Mo_settle.2.1 71 = .ok (.iload_n 1, 1) := by decide +kernel
theorem d_Mo_settle_72 : decode M_Mo_settle.2.1 72 = .ok (.aload_n 0, 1) := by decide +kernel
theorem d_Mo_settle_73 : decode M_Mo_settle.2.1 73 = .ok (.getfield 35, 3) := by decide +kernel
theorem d_Mo_settle_76 : decode M_Mo_settle.2.1 76 = .ok (.iload_n 1, 1) := by decide +kernel
theorem d_Mo_settle_77 : decode M_Mo_settle.2.1 77 = .ok (.iaload, 1) := by decide +kernel
theorem d_Mo_settle_78 : decode M_Mo_settle.2.1 78 = .ok (.iastore, 1) := by decide +kernel
theorem d_Mo_settle_79 : decode M_Mo_settle.2.1 79 = .ok (.aload_n 0, 1) := by decide +kernel
theorem d_Mo_settle_80 : decode M_Mo_settle.2.1 80 = .ok (.getfield 44, 3) := by decide +kernel
theorem d_Mo_settle_83 : decode M_Mo_settle.2.1 83 = .ok (.iload_n 1, 1) := by decide +kernel
theorem d_Mo_settle_84 : decode M_Mo_settle.2.1 84 = .ok (.aload_n 0, 1) := by decide +kernel
theorem d_Mo_settle_85 : decode M_Mo_settle.2.1 85 = .ok (.getfield 41, 3) := by decide +kernel
theorem d_Mo_settle_88 : decode M_Mo_settle.2.1 88 = .ok (.iload_n 1, 1) := by decide +kernel
theorem d_Mo_settle_89 : decode M_Mo_settle.2.1 89 = .ok (.iaload, 1) := by decide +kernel
theorem d_Mo_settle_90 : decode M_Mo_settle.2.1 90 = .ok (.iastore, 1) := by decide +kernel
theorem d_Mo_settle_91 : decode M_Mo_settle.2.1 91 = .ok (.iinc 1 1, 3) := by decide +kernel
theorem d_Mo_settle_94 : decode M_Mo_settle.2.1 94 = .ok (.goto (-66), 3) := by decide +kernel
theorem d_Mo_settle_97 : decode M_Mo_settle.2.1 97 = .ok (.iconst 1, 1) := by decide +kernel
theorem d_Mo_settle_98 : decode M_Mo_settle.2.1 98 = .ok (.istore_n 1, 1) := by decide +kernel
theorem d_Mo_settle_99 : decode M_Mo_settle.2.1 99 = .ok (.iconst 0, 1) := by decide +kernel
theorem d_Mo_settle_100 : decode M_Mo_settle.2.1 100 = .ok (.istore_n 2, 1) := by decide +kernel
theorem d_Mo_settle_101 : decode M_Mo_settle.2.1 101 = .ok (.iload_n 2, 1) := by decide +kernel
theorem d_Mo_settle_102 : decode M_Mo_settle.2.1 102 = .ok (.bipush 100, 2) := by decide +kernel
theorem d_Mo_settle_104 : decode M_Mo_settle.2.1 104 = .ok (.if_icmp .ge 18, 3) := by decide +kernel
theorem d_Mo_settle_107 : decode M_Mo_settle.2.1 107 = .ok (.iload_n 1, 1) := by decide +kernel
theorem d_Mo_settle_108 : decode M_Mo_settle.2.1 108 = .ok (.ifCond .eq 14, 3) := by decide +kernel
theorem d_Mo_settle_111 : decode M_Mo_settle.2.1 111 = .ok (.aload_n 0, 1) := by decide +kernel
theorem d_Mo_settle_112 : decode M_Mo_settle.2.1 112 = .ok (.invokevirtual 153, 3) := by decide +kernel
theorem d_Mo_settle_115 : decode M_Mo_settle.2.1 115 = .ok (.istore_n 1, 1) := by decide +kernel
theorem d_Mo_settle_116 : decode M_Mo_settle.2.1 116 = .ok (.iinc 2 1, 3) := by decide +kernel
theorem d_Mo_settle_119 : decode M_Mo_settle.2.1 119 = .ok (.goto (-18), 3) := by decide +kernel
theorem d_Mo_settle_122 : decode M_Mo_settle.2.1 122 = .ok (.iconst 0, 1) := by decide +kernel
theorem d_Mo_settle_123 : decode M_Mo_settle.2.1 123 = .ok (.istore_n 2, 1) := by decide +kernel
theorem d_Mo_settle_124 : decode M_Mo_settle.2.1 124 = .ok (.iload_n 2, 1) := by decide +kernel
theorem d_Mo_settle_125 : decode M_Mo_settle.2.1 125 = .ok (.bipush 18, 2) := by decide +kernel
theorem d_Mo_settle_127 : decode M_Mo_settle.2.1 127 = .ok (.if_icmp .ge 29, 3) := by decide +kernel
theorem d_Mo_settle_130 : decode M_Mo_settle.2.1 130 = .ok (.aload_n 0, 1) := by decide +kernel
theorem d_Mo_settle_131 : decode M_Mo_settle.2.1 131 = .ok (.iconst 0, 1) := by decide +kernel
theorem d_Mo_settle_132 : decode M_Mo_settle.2.1 132 = .ok (.iload_n 2, 1) := by decide +kernel
theorem d_Mo_settle_133 : decode M_Mo_settle.2.1 133 = .ok (.iconst 3, 1) := by decide +kernel
theorem d_Mo_settle_134 : decode M_Mo_settle.2.1 134 = .ok (.idiv, 1) := by decide +kernel
theorem d_Mo_settle_135 : decode M_Mo_settle.2.1 135 = .ok (.aload_n 0, 1) := by decide +kernel
theorem d_Mo_settle_136 : decode M_Mo_settle.2.1 136 = .ok (.getfield 32, 3) := by decide +kernel
theorem d_Mo_settle_139 : decode M_Mo_settle.2.1 139 = .ok (.iload_n 2, 1) := by decide +kernel
theorem d_Mo_settle_140 : decode M_Mo_settle.2.1 140 = .ok (.iaload, 1) := by decide +kernel
theorem d_Mo_settle_141 : decode M_Mo_settle.2.1 141 = .ok (.aload_n 0, 1) := by decide +kernel
theorem d_Mo_settle_142 : decode M_Mo_settle.2.1 142 = .ok (.getfield 29, 3) := by decide +kernel
theorem d_Mo_settle_145 : decode M_Mo_settle.2.1 145 = .ok (.iload_n 2, 1) := by decide +kernel
theorem d_Mo_settle_146 : decode M_Mo_settle.2.1 146 = .ok (.iaload, 1) := by decide +kernel
theorem d_Mo_settle_147 : decode M_Mo_settle.2.1 147 = .ok (.invokevirtual 157, 3) := by decide +kernel
theorem d_Mo_settle_150 : decode M_Mo_settle.2.1 150 = .ok (.iinc 2 1, 3) := by decide +kernel
theorem d_Mo_settle_153 : decode M_Mo_settle.2.1 153 = .ok (.goto (-29), 3) := by decide +kernel
theorem d_Mo_settle_156 : decode M_Mo_settle.2.1 156 = .ok (.iconst 0, 1) := by decide +kernel
theorem d_Mo_settle_157 : decode M_Mo_settle.2.1 157 = .ok (.istore_n 2, 1) := by decide +kernel
theorem d_Mo_settle_158 : decode M_Mo_settle.2.1 158 = .ok (.iload_n 2, 1) := by decide +kernel
theorem d_Mo_settle_159 : decode M_Mo_settle.2.1 159 = .ok (.bipush 108, 2) := by decide +kernel
theorem d_Mo_settle_161 : decode M_Mo_settle.2.1 161 = .ok (.if_icmp .ge 51, 3) := by decide +kernel
theorem d_Mo_settle_164 : decode M_Mo_settle.2.1 164 = .ok (.aload_n 0, 1) := by decide +kernel
theorem d_Mo_settle_165 : decode M_Mo_settle.2.1 165 = .ok (.iconst 2, 1) := by decide +kernel
theorem d_Mo_settle_166 : decode M_Mo_settle.2.1 166 = .ok (.iload_n 2, 1) := by decide +kernel
theorem d_Mo_settle_167 : decode M_Mo_settle.2.1 167 = .ok (.bipush 18, 2) := by decide +kernel
theorem d_Mo_settle_169 : decode M_Mo_settle.2.1 169 = .ok (.idiv, 1) := by decide +kernel
theorem d_Mo_settle_170 : decode M_Mo_settle.2.1 170 = .ok (.aload_n 0, 1) := by decide +kernel
theorem d_Mo_settle_171 : decode M_Mo_settle.2.1 171 = .ok (.getfield 44, 3) := by decide +kernel
theorem d_Mo_settle_174 : decode M_Mo_settle.2.1 174 = .ok (.iload_n 2, 1) := by decide +kernel
theorem d_Mo_settle_175 : decode M_Mo_settle.2.1 175 = .ok (.iaload, 1) := by decide +kernel
theorem d_Mo_settle_176 : decode M_Mo_settle.2.1 176 = .ok (.aload_n 0, 1) := by decide +kernel
theorem d_Mo_settle_177 : decode M_Mo_settle.2.1 177 = .ok (.getfield 41, 3) := by decide +kernel
theorem d_Mo_settle_180 : decode M_Mo_settle.2.1 180 = .ok (.iload_n 2, 1) := by decide +kernel
theorem d_Mo_settle_181 : decode M_Mo_settle.2.1 181 = .ok (.iaload, 1) := by decide +kernel
theorem d_Mo_settle_182 : decode M_Mo_settle.2.1 182 = .ok (.invokevirtual 157, 3) := by decide +kernel
theorem d_Mo_settle_185 : decode M_Mo_settle.2.1 185 = .ok (.aload_n 0, 1) := by decide +kernel
theorem d_Mo_settle_186 : decode M_Mo_settle.2.1 186 = .ok (.iconst 4, 1) := by decide +kernel
theorem d_Mo_settle_187 : decode M_Mo_settle.2.1 187 = .ok (.iload_n 2, 1) := by decide +kernel
theorem d_Mo_settle_188 : decode M_Mo_settle.2.1 188 = .ok (.bipush 18, 2) := by decide +kernel
theorem d_Mo_settle_190 : decode M_Mo_settle.2.1 190 = .ok (.idiv, 1) := by decide +kernel
theorem d_Mo_settle_191 : decode M_Mo_settle.2.1 191 = .ok (.aload_n 0, 1) := by decide +kernel
theorem d_Mo_settle_192 : decode M_Mo_settle.2.1 192 = .ok (.getfield 38, 3) := by decide +kernel
theorem d_Mo_settle_195 : decode M_Mo_settle.2.1 195 = .ok (.iload_n 2, 1) := by decide +kernel
theorem d_Mo_settle_196 : decode M_Mo_settle.2.1 196 = .ok (.iaload, 1) := by decide +kernel
theorem d_Mo_settle_197 : decode M_Mo_settle.2.1 197 = .ok (.aload_n 0, 1) := by decide +kernel
theorem d_Mo_settle_198 : decode M_Mo_settle.2.1 198 = .ok (.getfield 35, 3) := by decide +kernel
theorem d_Mo_settle_201 : decode M_Mo_settle.2.1 201 = .ok (.iload_n 2, 1) := by decide +kernel
theorem d_Mo_settle_202 : decode M_Mo_settle.2.1 202 = .ok (.iaload, 1) := by decide +kernel
theorem d_Mo_settle_203 : decode M_Mo_settle.2.1 203 = .ok (.invokevirtual 157, 3) := by decide +kernel
theorem d_Mo_settle_206 : decode M_Mo_settle.2.1 206 = .ok (.iinc 2 1, 3) := by decide +kernel
theorem d_Mo_settle_209 : decode M_Mo_settle.2.1 209 = .ok (.goto (-51), 3) := by decide +kernel
theorem d_Mo_settle_212 : decode M_Mo_settle.2.1 212 = .ok (.return_, 1) := by decide +kernel
theorem d_Mo_round_0 : decode M_Mo_round.2.1 0 = .ok (.iconst 0, 1) := by decide +kernel
theorem d_Mo_round_1 : decode M_Mo_round.2.1 1 = .ok (.istore_n 1, 1) := by decide +kernel
theorem d_Mo_round_2 : decode M_Mo_round.2.1 2 = .ok (.iconst 0, 1) := by decide +kernel
theorem d_Mo_round_3 : decode M_Mo_round.2.1 3 = .ok (.istore_n 2, 1) := by decide +kernel
theorem d_Mo_round_4 : decode M_Mo_round.2.1 4 = .ok (.iload_n 2, 1) := by decide +kernel
theorem d_Mo_round_5 : decode M_Mo_round.2.1 5 = .ok (.bipush 18, 2) := by decide +kernel
theorem d_Mo_round_7 : decode M_Mo_round.2.1 7 = .ok (.if_icmp .ge 47, 3) := by decide +kernel
theorem d_Mo_round_10 : decode M_Mo_round.2.1 10 = .ok (.aload_n 0, 1) := by decide +kernel
theorem d_Mo_round_11 : decode M_Mo_round.2.1 11 = .ok (.iload_n 2, 1) := by decide +kernel
theorem d_Mo_round_12 : decode M_Mo_round.2.1 12 = .ok (.iconst 3, 1) := by decide +kernel
theorem d_Mo_round_13 : decode M_Mo_round.2.1 13 = .ok (.idiv, 1) := by decide +kernel
theorem d_Mo_round_14 : decode M_Mo_round.2.1 14 = .ok (.iload_n 2, 1) := by decide +kernel
theorem d_Mo_round_15 : decode M_Mo_round.2.1 15 = .ok (.iconst 3, 1) := by decide +kernel
theorem d_Mo_round_16 : decode M_Mo_round.2.1 16 = .ok (.irem, 1) := by decide +kernel
theorem d_Mo_round_17 : decode M_Mo_round.2.1 17 = .ok (.invokevirtual 144, 3) := by decide +kernel
theorem d_Mo_round_20 : decode M_Mo_round.2.1 20 = .ok (.istore_n 3, 1) := by decide +kernel
theorem d_Mo_round_21 : decode M_Mo_round.2.1 21 = .ok (.iload_n 1, 1) := by decide +kernel
theorem d_Mo_round_22 : decode M_Mo_round.2.1 22 = .ok (.ifCond .ne 13, 3) := by decide +kernel
theorem d_Mo_round_25 : decode M_Mo_round.2.1 25 = .ok (.iload_n 3, 1) := by decide +kernel
theorem d_Mo_round_26 : decode M_Mo_round.2.1 26 = .ok (.aload_n 0, 1) := by decide +kernel
theorem d_Mo_round_27 : decode M_Mo_round.2.1 27 = .ok (.getfield 29, 3) := by decide +kernel
theorem d_Mo_round_30 : decode M_Mo_round.2.1 30 = .ok (.iload_n 2, 1) := by decide +kernel
theorem d_Mo_round_31 : decode M_Mo_round.2.1 31 = .ok (.iaload, 1) := by decide +kernel
theorem d_Mo_round_32 : decode M_Mo_round.2.1 32 = .ok (.if_icmp .eq 7, 3) := by decide +kernel
theorem d_Mo_round_35 : decode M_Mo_round.2.1 35 = .ok (.iconst 1, 1) := by decide +kernel
theorem d_Mo_round_36 : decode M_Mo_round.2.1 36 = .ok (.goto 4, 3) := by decide +kernel
theorem d_Mo_round_39 : decode M_Mo_round.2.1 39 = .ok (.iconst 0, 1) := by decide +kernel
theorem d_Mo_round_40 : decode M_Mo_round.2.1 40 = .ok (.istore_n 1, 1) := by decide +kernel
theorem d_Mo_round_41 : decode M_Mo_round.2.1 41 = .ok (.aload_n 0, 1) := by decide +kernel
theorem d_Mo_round_42 : decode M_Mo_round.2.1 42 = .ok (.getfield 29, 3) := by decide +kernel
theorem d_Mo_round_45 : decode M_Mo_round.2.1 45 = .ok (.iload_n 2, 1) := by decide +kernel
theorem d_Mo_round_46 : decode M_Mo_round.2.1 46 = .ok (.iload_n 3, 1) := by decide +kernel
theorem d_Mo_round_47 : decode M_Mo_round.2.1 47 = .ok (.iastore, 1) := by decide +kernel
theorem d_Mo_round_48 : decode M_Mo_round.2.1 48 = .ok (.iinc 2 1, 3) := by decide +kernel
theorem d_Mo_round_51 : decode M_Mo_round.2.1 51 = .ok (.goto (-47), 3) := by decide +kernel
theorem d_Mo_round_54 : decode M_Mo_round.2.1 54 = .ok (.iconst 0, 1) := by decide +kernel
theorem d_Mo_round_55 : decode M_Mo_round.2.1 55 = .ok (.istore_n 2, 1) := by decide +kernel
theorem d_Mo_round_56 : decode M_Mo_round.2.1 56 = .ok (.iload_n 2, 1) := by decide +kernel
theorem d_Mo_round_57 : decode M_Mo_round.2.1 57 = .ok (.bipush 108, 2) := by decide +kernel
theorem d_Mo_round_59 : decode M_Mo_round.2.1 59 = .ok (.if_icmp .ge 82, 3) := by decide +kernel
theorem d_Mo_round_62 : decode M_Mo_round.2.1 62 = .ok (.aload_n 0, 1) := by decide +kernel
theorem d_Mo_round_63 : decode M_Mo_round.2.1 63 = .ok (.iload_n 2, 1) := by decide +kernel
theorem d_Mo_round_64 : decode M_Mo_round.2.1 64 = .ok (.bipush 18, 2) := by decide +kernel
theorem d_Mo_round_66 : decode M_Mo_round.2.1 66 = .ok (.idiv, 1) := by decide +kernel
theorem d_Mo_round_67 : decode M_Mo_round.2.1 67 = .ok (.iload_n 2, 1) := by decide +kernel
theorem d_Mo_round_68 : decode M_Mo_round.2.1 68 = .ok (.bipush 18, 2) := by decide +kernel
theorem d_Mo_round_70 : decode M_Mo_round.2.1 70 = .ok (.irem, 1) := by decide +kernel
theorem d_Mo_round_71 : decode M_Mo_round.2.1 71 = .ok (.invokevirtual 147, 3) := by decide +kernel
theorem d_Mo_round_74 : decode M_Mo_round.2.1 74 = .ok (.istore_n 3, 1) := by decide +kernel
theorem d_Mo_round_75 : decode M_Mo_round.2.1 75 = .ok (.aload_n 0, 1) := by decide +kernel
theorem d_Mo_round_76 : decode M_Mo_round.2.1 76 = .ok (.iload_n 2, 1) := by decide +kernel
theorem d_Mo_round_77 : decode M_Mo_round.2.1 77 = .ok (.bipush 18, 2) := by decide +kernel
theorem d_Mo_round_79 : decode M_Mo_round.2.1 79 = .ok (.idiv, 1) := by decide +kernel
theorem d_Mo_round_80 : decode M_Mo_round.2.1 80 = .ok (.iload_n 2, 1) := by decide +kernel
theorem d_Mo_round_81 : decode M_Mo_round.2.1 81 = .ok (.bipush 18, 2) := by decide +kernel
theorem d_Mo_round_83 : decode M_Mo_round.2.1 83 = .ok (.irem, 1) := by decide +kernel
theorem d_Mo_round_84 : decode M_Mo_round.2.1 84 = .ok (.invokevirtual 150, 3) := by decide +kernel
theorem d_Mo_round_87 : decode M_Mo_round.2.1 87 = .ok (.istore 4, 2) := by decide +kernel
theorem d_Mo_round_89 : decode M_Mo_round.2.1 89 = .ok (.iload_n 1, 1) := by decide +kernel
theorem d_Mo_round_90 : decode M_Mo_round.2.1 90 = .ok (.ifCond .ne 24, 3) := by decide +kernel
theorem d_Mo_round_93 : decode M_Mo_round.2.1 93 = .ok (.iload_n 3, 1) := by decide +kernel
theorem d_Mo_round_94 : decode M_Mo_round.2.1 94 = .ok (.aload_n 0, 1) := by decide +kernel
theorem d_Mo_round_95 : decode M_Mo_round.2.1 95 = .ok (.getfield 35, 3) := by decide +kernel
theorem d_Mo_round_98 : decode M_Mo_round.2.1 98 = .ok (.iload_n 2, 1) := by decide +kernel
theorem d_Mo_round_99 : decode M_Mo_round.2.1 99 = .ok (.iaload, 1) := by decide +kernel
theorem d_Mo_round_100 : decode M_Mo_round.2.1 100 = .ok (.if_icmp .ne 14, 3) := by decide +kernel
theorem d_Mo_round_103 : decode M_Mo_round.2.1 103 = .ok (.iload 4, 2) := by decide +kernel
theorem d_Mo_round_105 : decode M_Mo_round.2.1 105 = .ok (.aload_n 0, 1) := by decide +kernel
theorem d_Mo_round_106 : decode M_Mo_round.2.1 106 = .ok (.getfield 41, 3) := by decide +kernel
theorem d_Mo_round_109 : decode M_Mo_round.2.1 109 = .ok (.iload_n 2, 1) := by decide +kernel
theorem d_Mo_round_110 : decode M_Mo_round.2.1 110 = .ok (.iaload, 1) := by decide +kernel
theorem d_Mo_round_111 : decode M_Mo_round.2.1 111 = .ok (.if_icmp .eq 7, 3) := by decide +kernel
theorem d_Mo_round_114 : decode M_Mo_round.2.1 114 = .ok (.iconst 1, 1) := by decide +kernel
theorem d_Mo_round_115 : decode M_Mo_round.2.1 115 = .ok (.goto 4, 3) := by decide +kernel
theorem d_Mo_round_118 : decode M_Mo_round.2.1 118 = .ok (.iconst 0, 1) := by decide +kernel
theorem d_Mo_round_119 : decode M_Mo_round.2.1 119 = .ok (.istore_n 1, 1) := by decide +kernel
theorem d_Mo_round_120 : decode M_Mo_round.2.1 120 = .ok (.aload_n 0, 1) := by decide +kernel
theorem d_Mo_round_121 : decode M_Mo_round.2.1 121 = .ok (.getfield 35, 3) := by decide +kernel
theorem d_Mo_round_124 : decode M_Mo_round.2.1 124 = .ok (.iload_n 2, 1) := by decide +kernel
theorem d_Mo_round_125 : decode M_Mo_round.2.1 125 = .ok (.iload_n 3, 1) := by decide +kernel
theorem d_Mo_round_126 : decode M_Mo_round.2.1 126 = .ok (.iastore, 1) := by decide +kernel
theorem d_Mo_round_127 : decode M_Mo_round.2.1 127 = .ok (.aload_n 0, 1) := by decide +kernel
theorem d_Mo_round_128 : decode M_Mo_round.2.1 128 = .ok (.getfield 41, 3) := by decide +kernel
theorem d_Mo_round_131 : decode M_Mo_round.2.1 131 = .ok (.iload_n 2, 1) := by decide +kernel
theorem d_Mo_round_132 : decode M_Mo_round.2.1 132 = .ok (.iload 4, 2) := by decide +kernel
theorem d_Mo_round_134 : decode M_Mo_round.2.1 134 = .ok (.iastore, 1) := by decide +kernel
theorem d_Mo_round_135 : decode M_Mo_round.2.1 135 = .ok (.iinc 2 1, 3) := by decide +kernel
theorem d_Mo_round_138 : decode M_Mo_round.2.1 138 = .ok (.goto (-82), 3) := by decide +kernel
theorem d_Mo_round_141 : decode M_Mo_round.2.1 141 = .ok (.iload_n 1, 1) := by decide +kernel
theorem d_Mo_round_142 : decode M_Mo_round.2.1 142 = .ok (.ireturn, 1) := by decide +kernel
theorem d_Mo_sharedDue_0 : decode M_Mo_sharedDue.2.1 0 = .ok (.aload_n 0, 1) := by decide +kernel
theorem d_Mo_sharedDue_1 : decode M_Mo_sharedDue.2.1 1 = .ok (.iload_n 1, 1) := by decide +kernel
theorem d_Mo_sharedDue_2 : decode M_Mo_sharedDue.2.1 2 = .ok (.iload_n 2, 1) := by decide +kernel
theorem d_Mo_sharedDue_3 : decode M_Mo_sharedDue.2.1 3 = .ok (.invokevirtual 130, 3) := by decide +kernel
theorem d_Mo_sharedDue_6 : decode M_Mo_sharedDue.2.1 6 = .ok (.istore_n 3, 1) := by decide +kernel
theorem d_Mo_sharedDue_7 : decode M_Mo_sharedDue.2.1 7 = .ok (.iconst 0, 1) := by decide +kernel
theorem d_Mo_sharedDue_8 : decode M_Mo_sharedDue.2.1 8 = .ok (.istore 4, 2) := by decide +kernel
theorem d_Mo_sharedDue_10 : decode M_Mo_sharedDue.2.1 10 = .ok (.iload 4, 2) := by decide +kernel
theorem d_Mo_sharedDue_12 : decode M_Mo_sharedDue.2.1 12 = .ok (.bipush 6, 2) := by decide +kernel
theorem d_Mo_sharedDue_14 : decode M_Mo_sharedDue.2.1 14 = .ok (.if_icmp .ge 34, 3) := by decide +kernel
theorem d_Mo_sharedDue_17 : decode M_Mo_sharedDue.2.1 17 = .ok (.iload_n 3, 1) := by decide +kernel
theorem d_Mo_sharedDue_18 : decode M_Mo_sharedDue.2.1 18 = .ok (.ifCond .ne 18, 3) := by decide +kernel
theorem d_Mo_sharedDue_21 : decode M_Mo_sharedDue.2.1 21 = .ok (.aload_n 0, 1) := by decide +kernel
theorem d_Mo_sharedDue_22 : decode M_Mo_sharedDue.2.1 22 = .ok (.getfield 29, 3) := by decide +kernel
theorem d_Mo_sharedDue_25 : decode M_Mo_sharedDue.2.1 25 = .ok (.iconst 3, 1) := by decide +kernel
theorem d_Mo_sharedDue_26 : decode M_Mo_sharedDue.2.1 26 = .ok (.iload 4, 2) := by decide +kernel
theorem d_Mo_sharedDue_28 : decode M_Mo_sharedDue.2.1 28 = .ok (.imul, 1) := by decide +kernel
theorem d_Mo_sharedDue_29 : decode M_Mo_sharedDue.2.1 29 = .ok (.iload_n 2, 1) := by decide +kernel
theorem d_Mo_sharedDue_30 : decode M_Mo_sharedDue.2.1 30 = .ok (.iadd, 1) := by decide +kernel
theorem d_Mo_sharedDue_31 : decode M_Mo_sharedDue.2.1 31 = .ok (.iaload, 1) := by decide +kernel
theorem d_Mo_sharedDue_32 : decode M_Mo_sharedDue.2.1 32 = .ok (.iload_n 1, 1) := by decide +kernel
theorem d_Mo_sharedDue_33 : decode M_Mo_sharedDue.2.1 33 = .ok (.if_icmp .ne 7, 3) := by decide +kernel
theorem d_Mo_sharedDue_36 : decode M_Mo_sharedDue.2.1 36 = .ok (.iconst 1, 1) := by decide +kernel
theorem d_Mo_sharedDue_37 : decode M_Mo_sharedDue.2.1 37 = .ok (.goto 4, 3) := by decide +kernel
theorem d_Mo_sharedDue_40 : decode M_Mo_sharedDue.2.1 40 = .ok (.iconst 0, 1) := by decide +kernel
theorem d_Mo_sharedDue_41 : decode M_Mo_sharedDue.2.1 41 = .ok (.istore_n 3, 1) := by decide +kernel
theorem d_Mo_sharedDue_42 : decode M_Mo_sharedDue.2.1 42 = .ok (.iinc 4 1, 3) := by decide +kernel
theorem d_Mo_sharedDue_45 : decode M_Mo_sharedDue.2.1 45 = .ok (.goto (-35), 3) := by decide +kernel
theorem d_Mo_sharedDue_48 : decode M_Mo_sharedDue.2.1 48 = .ok (.iload_n 3, 1) := by decide +kernel
theorem d_Mo_sharedDue_49 : decode M_Mo_sharedDue.2.1 49 = .ok (.ifCond .eq 20, 3) := by decide +kernel
theorem d_Mo_sharedDue_52 : decode M_Mo_sharedDue.2.1 52 = .ok (.aload_n 0, 1) := by decide +kernel
theorem d_Mo_sharedDue_53 : decode M_Mo_sharedDue.2.1 53 = .ok (.getfield 16, 3) := by decide +kernel
theorem d_Mo_sharedDue_56 : decode M_Mo_sharedDue.2.1 56 = .ok (.bipush 6, 2) := by decide +kernel
theorem d_Mo_sharedDue_58 : decode M_Mo_sharedDue.2.1 58 = .ok (.iload_n 1, 1) := by decide +kernel
theorem d_Mo_sharedDue_59 : decode M_Mo_sharedDue.2.1 59 = .ok (.imul, 1) := by decide +kernel
theorem d_Mo_sharedDue_60 : decode M_Mo_sharedDue.2.1 60 = .ok (.aload_n 0, 1) := by decide +kernel
theorem d_Mo_sharedDue_61 : decode M_Mo_sharedDue.2.1 61 = .ok (.getfield 103, 3) := by decide +kernel
theorem d_Mo_sharedDue_64 : decode M_Mo_sharedDue.2.1 64 = .ok (.iadd, 1) := by decide +kernel
theorem d_Mo_sharedDue_65 : decode M_Mo_sharedDue.2.1 65 = .ok (.iaload, 1) := by decide +kernel
theorem d_Mo_sharedDue_66 : decode M_Mo_sharedDue.2.1 66 = .ok (.goto 4, 3) := by decide +kernel
theorem d_Mo_sharedDue_69 : decode M_Mo_sharedDue.2.1 69 = .ok (.iconst (-1), 1) := by decide +kernel
theorem d_Mo_sharedDue_70 : decode M_Mo_sharedDue.2.1 70 = .ok (.ireturn, 1) := by decide +kernel
theorem d_Mo_onLan_0 : decode M_Mo_onLan.2.1 0 = .ok (.aload_n 0, 1) := by decide +kernel
theorem d_Mo_onLan_1 : decode M_Mo_onLan.2.1 1 = .ok (.getfield 112, 3) := by decide +kernel
theorem d_Mo_onLan_4 : decode M_Mo_onLan.2.1 4 = .ok (.aload_n 0, 1) := by decide +kernel
theorem d_Mo_onLan_5 : decode M_Mo_onLan.2.1 5 = .ok (.getfield 23, 3) := by decide +kernel
theorem d_Mo_onLan_8 : decode M_Mo_onLan.2.1 8 = .ok (.iconst 3, 1) := by decide +kernel
theorem d_Mo_onLan_9 : decode M_Mo_onLan.2.1 9 = .ok (.iload_n 1, 1) := by decide +kernel
theorem d_Mo_onLan_10 : decode M_Mo_onLan.2.1 10 = .ok (.imul, 1) := by decide +kernel
theorem d_Mo_onLan_11 : decode M_Mo_onLan.2.1 11 = .ok (.iload_n 2, 1) := by decide +kernel
theorem d_Mo_onLan_12 : decode M_Mo_onLan.2.1 12 = .ok (.iadd, 1) := by decide +kernel
theorem d_Mo_onLan_13 : decode M_Mo_onLan.2.1 13 = .ok (.iaload, 1) := by decide +kernel
theorem d_Mo_onLan_14 : decode M_Mo_onLan.2.1 14 = .ok (.if_icmp .ge 7, 3) := by decide +kernel
theorem d_Mo_onLan_17 : decode M_Mo_onLan.2.1 17 = .ok (.iconst 1, 1) := by decide +kernel
theorem d_Mo_onLan_18 : decode M_Mo_onLan.2.1 18 = .ok (.goto 4, 3) := by decide +kernel
theorem d_Mo_onLan_21 : decode M_Mo_onLan.2.1 21 = .ok (.iconst 0, 1) := by decide +kernel
theorem d_Mo_onLan_22 : decode M_Mo_onLan.2.1 22 = .ok (.ireturn, 1) := by decide +kernel
theorem d_Mo_cutDue_0 : decode M_Mo_cutDue.2.1 0 = .ok (.aload_n 0, 1) := by decide +kernel
theorem d_Mo_cutDue_1 : decode M_Mo_cutDue.2.1 1 = .ok (.getfield 16, 3) := by decide +kernel
theorem d_Mo_cutDue_4 : decode M_Mo_cutDue.2.1 4 = .ok (.bipush 6, 2) := by decide +kernel
theorem d_Mo_cutDue_6 : decode M_Mo_cutDue.2.1 6 = .ok (.iload_n 1, 1) := by decide +kernel
theorem d_Mo_cutDue_7 : decode M_Mo_cutDue.2.1 7 = .ok (.imul, 1) := by decide +kernel
theorem d_Mo_cutDue_8 : decode M_Mo_cutDue.2.1 8 = .ok (.aload_n 0, 1) := by decide +kernel
theorem d_Mo_cutDue_9 : decode M_Mo_cutDue.2.1 9 = .ok (.getfield 103, 3) := by decide +kernel
theorem d_Mo_cutDue_12 : decode M_Mo_cutDue.2.1 12 = .ok (.iadd, 1) := by decide +kernel
theorem d_Mo_cutDue_13 : decode M_Mo_cutDue.2.1 13 = .ok (.iaload, 1) := by decide +kernel
theorem d_Mo_cutDue_14 : decode M_Mo_cutDue.2.1 14 = .ok (.istore_n 3, 1) := by decide +kernel
theorem d_Mo_cutDue_15 : decode M_Mo_cutDue.2.1 15 = .ok (.iload_n 3, 1) := by decide +kernel
theorem d_Mo_cutDue_16 : decode M_Mo_cutDue.2.1 16 = .ok (.ifCond .lt 19, 3) := by decide +kernel
theorem d_Mo_cutDue_19 : decode M_Mo_cutDue.2.1 19 = .ok (.aload_n 0, 1) := by decide +kernel
theorem d_Mo_cutDue_20 : decode M_Mo_cutDue.2.1 20 = .ok (.getfield 29, 3) := by decide +kernel
theorem d_Mo_cutDue_23 : decode M_Mo_cutDue.2.1 23 = .ok (.iconst 3, 1) := by decide +kernel
theorem d_Mo_cutDue_24 : decode M_Mo_cutDue.2.1 24 = .ok (.iload_n 1, 1) := by decide +kernel
theorem d_Mo_cutDue_25 : decode M_Mo_cutDue.2.1 25 = .ok (.imul, 1) := by decide +kernel
theorem d_Mo_cutDue_26 : decode M_Mo_cutDue.2.1 26 = .ok (.iload_n 2, 1) := by decide +kernel
theorem d_Mo_cutDue_27 : decode M_Mo_cutDue.2.1 27 = .ok (.iconst 3, 1) := by decide +kernel
theorem d_Mo_cutDue_28 : decode M_Mo_cutDue.2.1 28 = .ok (.irem, 1) := by decide +kernel
theorem d_Mo_cutDue_29 : decode M_Mo_cutDue.2.1 29 = .ok (.iadd, 1) := by decide +kernel
theorem d_Mo_cutDue_30 : decode M_Mo_cutDue.2.1 30 = .ok (.iaload, 1) := by decide +kernel
theorem d_Mo_cutDue_31 : decode M_Mo_cutDue.2.1 31 = .ok (.iload_n 3, 1) := by decide +kernel
theorem d_Mo_cutDue_32 : decode M_Mo_cutDue.2.1 32 = .ok (.if_icmp .eq 5, 3) := by decide +kernel
theorem d_Mo_cutDue_35 : decode M_Mo_cutDue.2.1 35 = .ok (.iconst (-1), 1) := by decide +kernel
theorem d_Mo_cutDue_36 : decode M_Mo_cutDue.2.1 36 = .ok (.ireturn, 1) := by decide +kernel
theorem d_Mo_cutDue_37 : decode M_Mo_cutDue.2.1 37 = .ok (.aload_n 0, 1) := by decide +kernel
theorem d_Mo_cutDue_38 : decode M_Mo_cutDue.2.1 38 = .ok (.iload_n 1, 1) := by decide +kernel
theorem d_Mo_cutDue_39 : decode M_Mo_cutDue.2.1 39 = .ok (.iload_n 2, 1) := by decide +kernel
theorem d_Mo_cutDue_40 : decode M_Mo_cutDue.2.1 40 = .ok (.iconst 0, 1) := by decide +kernel
theorem d_Mo_cutDue_41 : decode M_Mo_cutDue.2.1 41 = .ok (.invokevirtual 140, 3) := by decide +kernel
theorem d_Mo_cutDue_44 : decode M_Mo_cutDue.2.1 44 = .ok (.istore 4, 2) := by decide +kernel
theorem d_Mo_cutDue_46 : decode M_Mo_cutDue.2.1 46 = .ok (.aload_n 0, 1) := by decide +kernel
theorem d_Mo_cutDue_47 : decode M_Mo_cutDue.2.1 47 = .ok (.getfield 50, 3) := by decide +kernel
theorem d_Mo_cutDue_50 : decode M_Mo_cutDue.2.1 50 = .ok (.bipush 18, 2) := by decide +kernel
theorem d_Mo_cutDue_52 : decode M_Mo_cutDue.2.1 52 = .ok (.iload_n 1, 1) := by decide +kernel
theorem d_Mo_cutDue_53 : decode M_Mo_cutDue.2.1 53 = .ok (.imul, 1) := by decide +kernel
theorem d_Mo_cutDue_54 : decode M_Mo_cutDue.2.1 54 = .ok (.iload_n 2, 1) := by decide +kernel
theorem d_Mo_cutDue_55 : decode M_Mo_cutDue.2.1 55 = .ok (.iadd, 1) := by decide +kernel
theorem d_Mo_cutDue_56 : decode M_Mo_cutDue.2.1 56 = .ok (.baload, 1) := by decide +kernel
theorem d_Mo_cutDue_57 : decode M_Mo_cutDue.2.1 57 = .ok (.ifCond .eq 24, 3) := by decide +kernel
theorem d_Mo_cutDue_60 : decode M_Mo_cutDue.2.1 60 = .ok (.aload_n 0, 1) := by decide +kernel
theorem d_Mo_cutDue_61 : decode M_Mo_cutDue.2.1 61 = .ok (.getfield 16, 3) := by decide +kernel
theorem d_Mo_cutDue_64 : decode M_Mo_cutDue.2.1 64 = .ok (.bipush 6, 2) := by decide +kernel
theorem d_Mo_cutDue_66 : decode M_Mo_cutDue.2.1 66 = .ok (.iload_n 1, 1) := by decide +kernel
theorem d_Mo_cutDue_67 : decode M_Mo_cutDue.2.1 67 = .ok (.imul, 1) := by decide +kernel
theorem d_Mo_cutDue_68 : decode M_Mo_cutDue.2.1 68 = .ok (.iload_n 2, 1) := by decide +kernel
theorem d_Mo_cutDue_69 : decode M_Mo_cutDue.2.1 69 = .ok (.iconst 3, 1) := by decide +kernel
theorem d_Mo_cutDue_70 : decode M_Mo_cutDue.2.1 70 = .ok (.idiv, 1) := by decide +kernel
theorem d_Mo_cutDue_71 : decode M_Mo_cutDue.2.1 71 = .ok (.iadd, 1) := by decide +kernel
theorem d_Mo_cutDue_72 : decode M_Mo_cutDue.2.1 72 = .ok (.iaload, 1) := by decide +kernel
theorem d_Mo_cutDue_73 : decode M_Mo_cutDue.2.1 73 = .ok (.iload_n 3, 1) := by decide +kernel
theorem d_Mo_cutDue_74 : decode M_Mo_cutDue.2.1 74 = .ok (.if_icmp .eq 7, 3) := by decide +kernel
theorem d_Mo_cutDue_77 : decode M_Mo_cutDue.2.1 77 = .ok (.iconst 1, 1) := by decide +kernel
theorem d_Mo_cutDue_78 : decode M_Mo_cutDue.2.1 78 = .ok (.goto 4, 3) := by decide +kernel
theorem d_Mo_cutDue_81 : decode M_Mo_cutDue.2.1 81 = .ok (.iconst 0, 1) := by decide +kernel
theorem d_Mo_cutDue_82 : decode M_Mo_cutDue.2.1 82 = .ok (.istore 5, 2) := by decide +kernel
theorem d_Mo_cutDue_84 : decode M_Mo_cutDue.2.1 84 = .ok (.iload 4, 2) := by decide +kernel
theorem d_Mo_cutDue_86 : decode M_Mo_cutDue.2.1 86 = .ok (.ifCond .eq 8, 3) := by decide +kernel
theorem d_Mo_cutDue_89 : decode M_Mo_cutDue.2.1 89 = .ok (.iload 5, 2) := by decide +kernel
theorem d_Mo_cutDue_91 : decode M_Mo_cutDue.2.1 91 = .ok (.ifCond .eq 7, 3) := by decide +kernel
theorem d_Mo_cutDue_94 : decode M_Mo_cutDue.2.1 94 = .ok (.iload_n 3, 1) := by decide +kernel
theorem d_Mo_cutDue_95 : decode M_Mo_cutDue.2.1 95 = .ok (.goto 4, 3) := by decide +kernel
theorem d_Mo_cutDue_98 : decode M_Mo_cutDue.2.1 98 = .ok (.iconst (-1), 1) := by decide +kernel
theorem d_Mo_cutDue_99 : decode M_Mo_cutDue.2.1 99 = .ok (.ireturn, 1) := by decide +kernel
theorem d_Mo_many_0 : decode M_Mo_many.2.1 0 = .ok (.aload_n 0, 1) := by decide +kernel
theorem d_Mo_many_1 : decode M_Mo_many.2.1 1 = .ok (.iload_n 1, 1) := by decide +kernel
theorem d_Mo_many_2 : decode M_Mo_many.2.1 2 = .ok (.iload_n 2, 1) := by decide +kernel
theorem d_Mo_many_3 : decode M_Mo_many.2.1 3 = .ok (.iconst 3, 1) := by decide +kernel
theorem d_Mo_many_4 : decode M_Mo_many.2.1 4 = .ok (.irem, 1) := by decide +kernel
theorem d_Mo_many_5 : decode M_Mo_many.2.1 5 = .ok (.invokevirtual 130, 3) := by decide +kernel
theorem d_Mo_many_8 : decode M_Mo_many.2.1 8 = .ok (.ifCond .eq 7, 3) := by decide +kernel
theorem d_Mo_many_11 : decode M_Mo_many.2.1 11 = .ok (.iconst 1, 1) := by decide +kernel
theorem d_Mo_many_12 : decode M_Mo_many.2.1 12 = .ok (.goto 4, 3) := by decide +kernel
theorem d_Mo_many_15 : decode M_Mo_many.2.1 15 = .ok (.iconst 0, 1) := by decide +kernel
theorem d_Mo_many_16 : decode M_Mo_many.2.1 16 = .ok (.istore 4, 2) := by decide +kernel
theorem d_Mo_many_18 : decode M_Mo_many.2.1 18 = .ok (.iconst 0, 1) := by decide +kernel
theorem d_Mo_many_19 : decode M_Mo_many.2.1 19 = .ok (.istore 5, 2) := by decide +kernel
theorem d_Mo_many_21 : decode M_Mo_many.2.1 21 = .ok (.iload 5, 2) := by decide +kernel
theorem d_Mo_many_23 : decode M_Mo_many.2.1 23 = .ok (.bipush 6, 2) := by decide +kernel
theorem d_Mo_many_25 : decode M_Mo_many.2.1 25 = .ok (.if_icmp .ge 50, 3) := by decide +kernel
theorem d_Mo_many_28 : decode M_Mo_many.2.1 28 = .ok (.iload_n 3, 1) := by decide +kernel
theorem d_Mo_many_29 : decode M_Mo_many.2.1 29 = .ok (.ifCond .eq 14, 3) := by decide +kernel
theorem d_Mo_many_32 : decode M_Mo_many.2.1 32 = .ok (.aload_n 0, 1) := by decide +kernel
theorem d_Mo_many_33 : decode M_Mo_many.2.1 33 = .ok (.iload_n 1, 1) := by decide +kernel
theorem d_Mo_many_34 : decode M_Mo_many.2.1 34 = .ok (.iload 5, 2) := by decide +kernel
theorem d_Mo_many_36 : decode M_Mo_many.2.1 36 = .ok (.iload_n 2, 1) := by decide +kernel
theorem d_Mo_many_37 : decode M_Mo_many.2.1 37 = .ok (.invokevirtual 137, 3) := by decide +kernel
theorem d_Mo_many_40 : decode M_Mo_many.2.1 40 = .ok (.goto 11, 3) := by decide +kernel
theorem d_Mo_many_43 : decode M_Mo_many.2.1 43 = .ok (.aload_n 0, 1) := by decide +kernel
theorem d_Mo_many_44 : decode M_Mo_many.2.1 44 = .ok (.iload_n 1, 1) := by decide +kernel
theorem d_Mo_many_45 : decode M_Mo_many.2.1 45 = .ok (.iload 5, 2) := by decide +kernel
theorem d_Mo_many_47 : decode M_Mo_many.2.1 47 = .ok (.iload_n 2, 1) := by decide +kernel
theorem d_Mo_many_48 : decode M_Mo_many.2.1 48 = .ok (.invokevirtual 134, 3) := by decide +kernel
theorem d_Mo_many_51 : decode M_Mo_many.2.1 51 = .ok (.istore 6, 2) := by decide +kernel
theorem d_Mo_many_53 : decode M_Mo_many.2.1 53 = .ok (.iload 6, 2) := by decide +kernel
theorem d_Mo_many_55 : decode M_Mo_many.2.1 55 = .ok (.ifCond .eq 10, 3) := by decide +kernel
theorem d_Mo_many_58 : decode M_Mo_many.2.1 58 = .ok (.iload 4, 2) := by decide +kernel
theorem d_Mo_many_60 : decode M_Mo_many.2.1 60 = .ok (.iconst 1, 1) := by decide +kernel
theorem d_Mo_many_61 : decode M_Mo_many.2.1 61 = .ok (.iadd, 1) := by decide +kernel
theorem d_Mo_many_62 : decode M_Mo_many.2.1 62 = .ok (.goto 5, 3) := by decide +kernel
theorem d_Mo_many_65 : decode M_Mo_many.2.1 65 = .ok (.iload 4, 2) := by decide +kernel
theorem d_Mo_many_67 : decode M_Mo_many.2.1 67 = .ok (.istore 4, 2) := by decide +kernel
theorem d_Mo_many_69 : decode M_Mo_many.2.1 69 = .ok (.iinc 5 1, 3) := by decide +kernel
theorem d_Mo_many_72 : decode M_Mo_many.2.1 72 = .ok (.goto (-51), 3) := by decide +kernel
theorem d_Mo_many_75 : decode M_Mo_many.2.1 75 = .ok (.iload 4, 2) := by decide +kernel
theorem d_Mo_many_77 : decode M_Mo_many.2.1 77 = .ok (.ireturn, 1) := by decide +kernel
theorem d_Mo_outer_0 : decode M_Mo_outer.2.1 0 = .ok (.aload_n 0, 1) := by decide +kernel
theorem d_Mo_outer_1 : decode M_Mo_outer.2.1 1 = .ok (.iload_n 1, 1) := by decide +kernel
theorem d_Mo_outer_2 : decode M_Mo_outer.2.1 2 = .ok (.iload_n 2, 1) := by decide +kernel
theorem d_Mo_outer_3 : decode M_Mo_outer.2.1 3 = .ok (.iload_n 3, 1) := by decide +kernel
theorem d_Mo_outer_4 : decode M_Mo_outer.2.1 4 = .ok (.invokevirtual 134, 3) := by decide +kernel
theorem d_Mo_outer_7 : decode M_Mo_outer.2.1 7 = .ok (.ifCond .ne 18, 3) := by decide +kernel
theorem d_Mo_outer_10 : decode M_Mo_outer.2.1 10 = .ok (.aload_n 0, 1) := by decide +kernel
theorem d_Mo_outer_11 : decode M_Mo_outer.2.1 11 = .ok (.getfield 41, 3) := by decide +kernel
theorem d_Mo_outer_14 : decode M_Mo_outer.2.1 14 = .ok (.bipush 18, 2) := by decide +kernel
theorem d_Mo_outer_16 : decode M_Mo_outer.2.1 16 = .ok (.iload_n 2, 1) := by decide +kernel
theorem d_Mo_outer_17 : decode M_Mo_outer.2.1 17 = .ok (.imul, 1) := by decide +kernel
theorem d_Mo_outer_18 : decode M_Mo_outer.2.1 18 = .ok (.iload_n 3, 1) := by decide +kernel
theorem d_Mo_outer_19 : decode M_Mo_outer.2.1 19 = .ok (.iadd, 1) := by decide +kernel
theorem d_Mo_outer_20 : decode M_Mo_outer.2.1 20 = .ok (.iaload, 1) := by decide +kernel
theorem d_Mo_outer_21 : decode M_Mo_outer.2.1 21 = .ok (.iload_n 1, 1) := by decide +kernel
theorem d_Mo_outer_22 : decode M_Mo_outer.2.1 22 = .ok (.if_icmp .ne 7, 3) := by decide +kernel
theorem d_Mo_outer_25 : decode M_Mo_outer.2.1 25 = .ok (.iconst 1, 1) := by decide +kernel
theorem d_Mo_outer_26 : decode M_Mo_outer.2.1 26 = .ok (.goto 4, 3) := by decide +kernel
theorem d_Mo_outer_29 : decode M_Mo_outer.2.1 29 = .ok (.iconst 0, 1) := by decide +kernel
theorem d_Mo_outer_30 : decode M_Mo_outer.2.1 30 = .ok (.ireturn, 1) := by decide +kernel
theorem d_Mo_inner_0 : decode M_Mo_inner.2.1 0 = .ok (.aload_n 0, 1) := by decide +kernel
theorem d_Mo_inner_1 : decode M_Mo_inner.2.1 1 = .ok (.getfield 29, 3) := by decide +kernel
theorem d_Mo_inner_4 : decode M_Mo_inner.2.1 4 = .ok (.iconst 3, 1) := by decide +kernel
theorem d_Mo_inner_5 : decode M_Mo_inner.2.1 5 = .ok (.iload_n 2, 1) := by decide +kernel
theorem d_Mo_inner_6 : decode M_Mo_inner.2.1 6 = .ok (.imul, 1) := by decide +kernel
theorem d_Mo_inner_7 : decode M_Mo_inner.2.1 7 = .ok (.iload_n 3, 1) := by decide +kernel
theorem d_Mo_inner_8 : decode M_Mo_inner.2.1 8 = .ok (.iconst 3, 1) := by decide +kernel
theorem d_Mo_inner_9 : decode M_Mo_inner.2.1 9 = .ok (.irem, 1) := by decide +kernel
theorem d_Mo_inner_10 : decode M_Mo_inner.2.1 10 = .ok (.iadd, 1) := by decide +kernel
theorem d_Mo_inner_11 : decode M_Mo_inner.2.1 11 = .ok (.iaload, 1) := by decide +kernel
theorem d_Mo_inner_12 : decode M_Mo_inner.2.1 12 = .ok (.iload_n 1, 1) := by decide +kernel
theorem d_Mo_inner_13 : decode M_Mo_inner.2.1 13 = .ok (.if_icmp .ne 22, 3) := by decide +kernel
theorem d_Mo_inner_16 : decode M_Mo_inner.2.1 16 = .ok (.aload_n 0, 1) := by decide +kernel
theorem d_Mo_inner_17 : decode M_Mo_inner.2.1 17 = .ok (.getfield 35, 3) := by decide +kernel
theorem d_Mo_inner_20 : decode M_Mo_inner.2.1 20 = .ok (.bipush 18, 2) := by decide +kernel
theorem d_Mo_inner_22 : decode M_Mo_inner.2.1 22 = .ok (.iload_n 2, 1) := by decide +kernel
theorem d_Mo_inner_23 : decode M_Mo_inner.2.1 23 = .ok (.imul, 1) := by decide +kernel
theorem d_Mo_inner_24 : decode M_Mo_inner.2.1 24 = .ok (.iload_n 3, 1) := by decide +kernel
theorem d_Mo_inner_25 : decode M_Mo_inner.2.1 25 = .ok (.iadd, 1) := by decide +kernel
theorem d_Mo_inner_26 : decode M_Mo_inner.2.1 26 = .ok (.iaload, 1) := by decide +kernel
theorem d_Mo_inner_27 : decode M_Mo_inner.2.1 27 = .ok (.iload_n 1, 1) := by decide +kernel
theorem d_Mo_inner_28 : decode M_Mo_inner.2.1 28 = .ok (.if_icmp .eq 7, 3) := by decide +kernel
theorem d_Mo_inner_31 : decode M_Mo_inner.2.1 31 = .ok (.iconst 1, 1) := by decide +kernel
theorem d_Mo_inner_32 : decode M_Mo_inner.2.1 32 = .ok (.goto 4, 3) := by decide +kernel
theorem d_Mo_inner_35 : decode M_Mo_inner.2.1 35 = .ok (.iconst 0, 1) := by decide +kernel
theorem d_Mo_inner_36 : decode M_Mo_inner.2.1 36 = .ok (.ireturn, 1) := by decide +kernel
theorem d_Mo_pullDue_0 : decode M_Mo_pullDue.2.1 0 = .ok (.iconst 0, 1) := by decide +kernel
theorem d_Mo_pullDue_1 : decode M_Mo_pullDue.2.1 1 = .ok (.istore_n 3, 1) := by decide +kernel
theorem d_Mo_pullDue_2 : decode M_Mo_pullDue.2.1 2 = .ok (.iconst 0, 1) := by decide +kernel
theorem d_Mo_pullDue_3 : decode M_Mo_pullDue.2.1 3 = .ok (.istore 4, 2) := by decide +kernel
theorem d_Mo_pullDue_5 : decode M_Mo_pullDue.2.1 5 = .ok (.iload 4, 2) := by decide +kernel
theorem d_Mo_pullDue_7 : decode M_Mo_pullDue.2.1 7 = .ok (.bipush 6, 2) := by decide +kernel
theorem d_Mo_pullDue_9 : decode M_Mo_pullDue.2.1 9 = .ok (.if_icmp .ge 35, 3) := by decide +kernel
theorem d_Mo_pullDue_12 : decode M_Mo_pullDue.2.1 12 = .ok (.iload_n 3, 1) := by decide +kernel
theorem d_Mo_pullDue_13 : decode M_Mo_pullDue.2.1 13 = .ok (.ifCond .ne 19, 3) := by decide +kernel
theorem d_Mo_pullDue_16 : decode M_Mo_pullDue.2.1 16 = .ok (.aload_n 0, 1) := by decide +kernel
theorem d_Mo_pullDue_17 : decode M_Mo_pullDue.2.1 17 = .ok (.getfield 41, 3) := by decide +kernel
theorem d_Mo_pullDue_20 : decode M_Mo_pullDue.2.1 20 = .ok (.bipush 18, 2) := by decide +kernel
theorem d_Mo_pullDue_22 : decode M_Mo_pullDue.2.1 22 = .ok (.iload 4, 2) := by decide +kernel
theorem d_Mo_pullDue_24 : decode M_Mo_pullDue.2.1 24 = .ok (.imul, 1) := by decide +kernel
theorem d_Mo_pullDue_25 : decode M_Mo_pullDue.2.1 25 = .ok (.iload_n 2, 1) := by decide +kernel
theorem d_Mo_pullDue_26 : decode M_Mo_pullDue.2.1 26 = .ok (.iadd, 1) := by decide +kernel
theorem d_Mo_pullDue_27 : decode M_Mo_pullDue.2.1 27 = .ok (.iaload, 1) := by decide +kernel
theorem d_Mo_pullDue_28 : decode M_Mo_pullDue.2.1 28 = .ok (.iload_n 1, 1) := by decide +kernel
theorem d_Mo_pullDue_29 : decode M_Mo_pullDue.2.1 29 = .ok (.if_icmp .ne 7, 3) := by decide +kernel
theorem d_Mo_pullDue_32 : decode M_Mo_pullDue.2.1 32 = .ok (.iconst 1, 1) := by decide +kernel
theorem d_Mo_pullDue_33 : decode M_Mo_pullDue.2.1 33 = .ok (.goto 4, 3) := by decide +kernel
theorem d_Mo_pullDue_36 : decode M_Mo_pullDue.2.1 36 = .ok (.iconst 0, 1) := by decide +kernel
theorem d_Mo_pullDue_37 : decode M_Mo_pullDue.2.1 37 = .ok (.istore_n 3, 1) := by decide +kernel
theorem d_Mo_pullDue_38 : decode M_Mo_pullDue.2.1 38 = .ok (.iinc 4 1, 3) := by decide +kernel
theorem d_Mo_pullDue_41 : decode M_Mo_pullDue.2.1 41 = .ok (.goto (-36), 3) := by decide +kernel
theorem d_Mo_pullDue_44 : decode M_Mo_pullDue.2.1 44 = .ok (.aload_n 0, 1) := by decide +kernel
theorem d_Mo_pullDue_45 : decode M_Mo_pullDue.2.1 45 = .ok (.iload_n 1, 1) := by decide +kernel
theorem d_Mo_pullDue_46 : decode M_Mo_pullDue.2.1 46 = .ok (.iload_n 2, 1) := by decide +kernel
theorem d_Mo_pullDue_47 : decode M_Mo_pullDue.2.1 47 = .ok (.iconst 1, 1) := by decide +kernel
theorem d_Mo_pullDue_48 : decode M_Mo_pullDue.2.1 48 = .ok (.invokevirtual 140, 3) := by decide +kernel
theorem d_Mo_pullDue_51 : decode M_Mo_pullDue.2.1 51 = .ok (.istore 4, 2) := by decide +kernel
theorem d_Mo_pullDue_53 : decode M_Mo_pullDue.2.1 53 = .ok (.iload_n 3, 1) := by decide +kernel
theorem d_Mo_pullDue_54 : decode M_Mo_pullDue.2.1 54 = .ok (.ifCond .ne 26, 3) := by decide +kernel
theorem d_Mo_pullDue_57 : decode M_Mo_pullDue.2.1 57 = .ok (.aload_n 0, 1) := by decide +kernel
theorem d_Mo_pullDue_58 : decode M_Mo_pullDue.2.1 58 = .ok (.getfield 47, 3) := by decide +kernel
theorem d_Mo_pullDue_61 : decode M_Mo_pullDue.2.1 61 = .ok (.bipush 18, 2) := by decide +kernel
theorem d_Mo_pullDue_63 : decode M_Mo_pullDue.2.1 63 = .ok (.iload_n 1, 1) := by decide +kernel
theorem d_Mo_pullDue_64 : decode M_Mo_pullDue.2.1 64 = .ok (.imul, 1) := by decide +kernel
theorem d_Mo_pullDue_65 : decode M_Mo_pullDue.2.1 65 = .ok (.iload_n 2, 1) := by decide +kernel
theorem d_Mo_pullDue_66 : decode M_Mo_pullDue.2.1 66 = .ok (.iadd, 1) := by decide +kernel
theorem d_Mo_pullDue_67 : decode M_Mo_pullDue.2.1 67 = .ok (.iaload, 1) := by decide +kernel
theorem d_Mo_pullDue_68 : decode M_Mo_pullDue.2.1 68 = .ok (.aload_n 0, 1) := by decide +kernel
theorem d_Mo_pullDue_69 : decode M_Mo_pullDue.2.1 69 = .ok (.getfield 112, 3) := by decide +kernel
theorem d_Mo_pullDue_72 : decode M_Mo_pullDue.2.1 72 = .ok (.if_icmp .le 12, 3) := by decide +kernel
theorem d_Mo_pullDue_75 : decode M_Mo_pullDue.2.1 75 = .ok (.iload 4, 2) := by decide +kernel
theorem d_Mo_pullDue_77 : decode M_Mo_pullDue.2.1 77 = .ok (.ifCond .le 7, 3) := by decide +kernel
theorem d_Mo_pullDue_80 : decode M_Mo_pullDue.2.1 80 = .ok (.iconst 1, 1) := by decide +kernel
theorem d_Mo_pullDue_81 : decode M_Mo_pullDue.2.1 81 = .ok (.goto 4, 3) := by decide +kernel
theorem d_Mo_pullDue_84 : decode M_Mo_pullDue.2.1 84 = .ok (.iconst 0, 1) := by decide +kernel
theorem d_Mo_pullDue_85 : decode M_Mo_pullDue.2.1 85 = .ok (.istore_n 3, 1) := by decide +kernel
theorem d_Mo_pullDue_86 : decode M_Mo_pullDue.2.1 86 = .ok (.iload_n 3, 1) := by decide +kernel
theorem d_Mo_pullDue_87 : decode M_Mo_pullDue.2.1 87 = .ok (.ifCond .eq 19, 3) := by decide +kernel
theorem d_Mo_pullDue_90 : decode M_Mo_pullDue.2.1 90 = .ok (.aload_n 0, 1) := by decide +kernel
theorem d_Mo_pullDue_91 : decode M_Mo_pullDue.2.1 91 = .ok (.getfield 16, 3) := by decide +kernel
theorem d_Mo_pullDue_94 : decode M_Mo_pullDue.2.1 94 = .ok (.bipush 6, 2) := by decide +kernel
theorem d_Mo_pullDue_96 : decode M_Mo_pullDue.2.1 96 = .ok (.iload_n 1, 1) := by decide +kernel
theorem d_Mo_pullDue_97 : decode M_Mo_pullDue.2.1 97 = .ok (.imul, 1) := by decide +kernel
theorem d_Mo_pullDue_98 : decode M_Mo_pullDue.2.1 98 = .ok (.iload_n 2, 1) := by decide +kernel
theorem d_Mo_pullDue_99 : decode M_Mo_pullDue.2.1 99 = .ok (.iconst 3, 1) := by decide +kernel
theorem d_Mo_pullDue_100 : decode M_Mo_pullDue.2.1 100 = .ok (.idiv, 1) := by decide +kernel
theorem d_Mo_pullDue_101 : decode M_Mo_pullDue.2.1 101 = .ok (.iadd, 1) := by decide +kernel
theorem d_Mo_pullDue_102 : decode M_Mo_pullDue.2.1 102 = .ok (.iaload, 1) := by decide +kernel
theorem d_Mo_pullDue_103 : decode M_Mo_pullDue.2.1 103 = .ok (.goto 4, 3) := by decide +kernel
theorem d_Mo_pullDue_106 : decode M_Mo_pullDue.2.1 106 = .ok (.iconst (-1), 1) := by decide +kernel
theorem d_Mo_pullDue_107 : decode M_Mo_pullDue.2.1 107 = .ok (.ireturn, 1) := by decide +kernel
theorem d_Mo_tell_0 : decode M_Mo_tell.2.1 0 = .ok (.iload_n 3, 1) := by decide +kernel
theorem d_Mo_tell_1 : decode M_Mo_tell.2.1 1 = .ok (.iload 4, 2) := by decide +kernel
theorem d_Mo_tell_3 : decode M_Mo_tell.2.1 3 = .ok (.if_icmp .ne 4, 3) := by decide +kernel
theorem d_Mo_tell_6 : decode M_Mo_tell.2.1 6 = .ok (.return_, 1) := by decide +kernel
theorem d_Mo_tell_7 : decode M_Mo_tell.2.1 7 = .ok (.iload_n 3, 1) := by decide +kernel
theorem d_Mo_tell_8 : decode M_Mo_tell.2.1 8 = .ok (.ifCond .lt 35, 3) := by decide +kernel
theorem d_Mo_tell_11 : decode M_Mo_tell.2.1 11 = .ok (.aload_n 0, 1) := by decide +kernel
theorem d_Mo_tell_12 : decode M_Mo_tell.2.1 12 = .ok (.getfield 7, 3) := by decide +kernel
theorem d_Mo_tell_15 : decode M_Mo_tell.2.1 15 = .ok (.bipush 6, 2) := by decide +kernel
theorem d_Mo_tell_17 : decode M_Mo_tell.2.1 17 = .ok (.iload_n 2, 1) := by decide +kernel
theorem d_Mo_tell_18 : decode M_Mo_tell.2.1 18 = .ok (.imul, 1) := by decide +kernel
theorem d_Mo_tell_19 : decode M_Mo_tell.2.1 19 = .ok (.iload_n 3, 1) := by decide +kernel
theorem d_Mo_tell_20 : decode M_Mo_tell.2.1 20 = .ok (.iadd, 1) := by decide +kernel
theorem d_Mo_tell_21 : decode M_Mo_tell.2.1 21 = .ok (.iaload, 1) := by decide +kernel
theorem d_Mo_tell_22 : decode M_Mo_tell.2.1 22 = .ok (.ifCond .le 21, 3) := by decide +kernel
theorem d_Mo_tell_25 : decode M_Mo_tell.2.1 25 = .ok (.aload_n 0, 1) := by decide +kernel
theorem d_Mo_tell_26 : decode M_Mo_tell.2.1 26 = .ok (.getfield 56, 3) := by decide +kernel
theorem d_Mo_tell_29 : decode M_Mo_tell.2.1 29 = .ok (.iload_n 1, 1) := by decide +kernel
theorem d_Mo_tell_30 : decode M_Mo_tell.2.1 30 = .ok (.iconst 1, 1) := by decide +kernel
theorem d_Mo_tell_31 : decode M_Mo_tell.2.1 31 = .ok (.iadd, 1) := by decide +kernel
theorem d_Mo_tell_32 : decode M_Mo_tell.2.1 32 = .ok (.aload_n 0, 1) := by decide +kernel
theorem d_Mo_tell_33 : decode M_Mo_tell.2.1 33 = .ok (.getfield 56, 3) := by decide +kernel
theorem d_Mo_tell_36 : decode M_Mo_tell.2.1 36 = .ok (.iload_n 1, 1) := by decide +kernel
theorem d_Mo_tell_37 : decode M_Mo_tell.2.1 37 = .ok (.iconst 1, 1) := by decide +kernel
theorem d_Mo_tell_38 : decode M_Mo_tell.2.1 38 = .ok (.iadd, 1) := by decide +kernel
theorem d_Mo_tell_39 : decode M_Mo_tell.2.1 39 = .ok (.iaload, 1) := by decide +kernel
theorem d_Mo_tell_40 : decode M_Mo_tell.2.1 40 = .ok (.iconst 1, 1) := by decide +kernel
theorem d_Mo_tell_41 : decode M_Mo_tell.2.1 41 = .ok (.iadd, 1) := by decide +kernel
theorem d_Mo_tell_42 : decode M_Mo_tell.2.1 42 = .ok (.iastore, 1) := by decide +kernel
theorem d_Mo_tell_43 : decode M_Mo_tell.2.1 43 = .ok (.iload 4, 2) := by decide +kernel
theorem d_Mo_tell_45 : decode M_Mo_tell.2.1 45 = .ok (.ifCond .lt 17, 3) := by decide +kernel
theorem d_Mo_tell_48 : decode M_Mo_tell.2.1 48 = .ok (.aload_n 0, 1) := by decide +kernel
theorem d_Mo_tell_49 : decode M_Mo_tell.2.1 49 = .ok (.getfield 56, 3) := by decide +kernel
theorem d_Mo_tell_52 : decode M_Mo_tell.2.1 52 = .ok (.iload_n 1, 1) := by decide +kernel
theorem d_Mo_tell_53 : decode M_Mo_tell.2.1 53 = .ok (.aload_n 0, 1) := by decide +kernel
theorem d_Mo_tell_54 : decode M_Mo_tell.2.1 54 = .ok (.getfield 56, 3) := by decide +kernel
theorem d_Mo_tell_57 : decode M_Mo_tell.2.1 57 = .ok (.iload_n 1, 1) := by decide +kernel
theorem d_Mo_tell_58 : decode M_Mo_tell.2.1 58 = .ok (.iaload, 1) := by decide +kernel
theorem d_Mo_tell_59 : decode M_Mo_tell.2.1 59 = .ok (.iconst 1, 1) := by decide +kernel
theorem d_Mo_tell_60 : decode M_Mo_tell.2.1 60 = .ok (.iadd, 1) := by decide +kernel
theorem d_Mo_tell_61 : decode M_Mo_tell.2.1 61 = .ok (.iastore, 1) := by decide +kernel
theorem d_Mo_tell_62 : decode M_Mo_tell.2.1 62 = .ok (.return_, 1) := by decide +kernel
theorem d_Mo_distance_0 : decode M_Mo_distance.2.1 0 = .ok (.iload_n 1, 1) := by decide +kernel
theorem d_Mo_distance_1 : decode M_Mo_distance.2.1 1 = .ok (.invokestatic 99, 3) := by decide +kernel
theorem d_Mo_distance_4 : decode M_Mo_distance.2.1 4 = .ok (.ifCond .eq 27, 3) := by decide +kernel
theorem d_Mo_distance_7 : decode M_Mo_distance.2.1 7 = .ok (.iload_n 2, 1) := by decide +kernel
theorem d_Mo_distance_8 : decode M_Mo_distance.2.1 8 = .ok (.invokestatic 99, 3) := by decide +kernel
theorem d_Mo_distance_11 : decode M_Mo_distance.2.1 11 = .ok (.ifCond .eq 20, 3) := by decide +kernel
theorem d_Mo_distance_14 : decode M_Mo_distance.2.1 14 = .ok (.aload_n 0, 1) := by decide +kernel
theorem d_Mo_distance_15 : decode M_Mo_distance.2.1 15 = .ok (.getfield 13, 3) := by decide +kernel
theorem d_Mo_distance_18 : decode M_Mo_distance.2.1 18 = .ok (.bipush 6, 2) := by decide +kernel
theorem d_Mo_distance_20 : decode M_Mo_distance.2.1 20 = .ok (.iload_n 1, 1) := by decide +kernel
theorem d_Mo_distance_21 : decode M_Mo_distance.2.1 21 = .ok (.imul, 1) := by decide +kernel
theorem d_Mo_distance_22 : decode M_Mo_distance.2.1 22 = .ok (.iload_n 2, 1) := by decide +kernel
theorem d_Mo_distance_23 : decode M_Mo_distance.2.1 23 = .ok (.iadd, 1) := by decide +kernel
theorem d_Mo_distance_24 : decode M_Mo_distance.2.1 24 = .ok (.iaload, 1) := by decide +kernel
theorem d_Mo_distance_25 : decode M_Mo_distance.2.1 25 = .ok (.sipush 1000, 3) := by decide +kernel
theorem d_Mo_distance_28 : decode M_Mo_distance.2.1 28 = .ok (.if_icmp .lt 7, 3) := by decide +kernel
theorem d_Mo_distance_31 : decode M_Mo_distance.2.1 31 = .ok (.iconst (-1), 1) := by decide +kernel
theorem d_Mo_distance_32 : decode M_Mo_distance.2.1 32 = .ok (.goto 14, 3) := by decide +kernel
theorem d_Mo_distance_35 : decode M_Mo_distance.2.1 35 = .ok (.aload_n 0, 1) := by decide +kernel
theorem d_Mo_distance_36 : decode M_Mo_distance.2.1 36 = .ok (.getfield 13, 3) := by decide +kernel
theorem d_Mo_distance_39 : decode M_Mo_distance.2.1 39 = .ok (.bipush 6, 2) := by decide +kernel
theorem d_Mo_distance_41 : decode M_Mo_distance.2.1 41 = .ok (.iload_n 1, 1) := by decide +kernel
theorem d_Mo_distance_42 : decode M_Mo_distance.2.1 42 = .ok (.imul, 1) := by decide +kernel
theorem d_Mo_distance_43 : decode M_Mo_distance.2.1 43 = .ok (.iload_n 2, 1) := by decide +kernel
theorem d_Mo_distance_44 : decode M_Mo_distance.2.1 44 = .ok (.iadd, 1) := by decide +kernel
theorem d_Mo_distance_45 : decode M_Mo_distance.2.1 45 = .ok (.iaload, 1) := by decide +kernel
theorem d_Mo_distance_46 : decode M_Mo_distance.2.1 46 = .ok (.ireturn, 1) := by decide +kernel
theorem d_Mo_hop_0 : decode M_Mo_hop.2.1 0 = .ok (.iload_n 1, 1) := by decide +kernel
theorem d_Mo_hop_1 : decode M_Mo_hop.2.1 1 = .ok (.invokestatic 99, 3) := by decide +kernel
theorem d_Mo_hop_4 : decode M_Mo_hop.2.1 4 = .ok (.ifCond .eq 24, 3) := by decide +kernel
theorem d_Mo_hop_7 : decode M_Mo_hop.2.1 7 = .ok (.iload_n 2, 1) := by decide +kernel
theorem d_Mo_hop_8 : decode M_Mo_hop.2.1 8 = .ok (.invokestatic 99, 3) := by decide +kernel
theorem d_Mo_hop_11 : decode M_Mo_hop.2.1 11 = .ok (.ifCond .eq 17, 3) := by decide +kernel
theorem d_Mo_hop_14 : decode M_Mo_hop.2.1 14 = .ok (.aload_n 0, 1) := by decide +kernel
theorem d_Mo_hop_15 : decode M_Mo_hop.2.1 15 = .ok (.getfield 16, 3) := by decide +kernel
theorem d_Mo_hop_18 : decode M_Mo_hop.2.1 18 = .ok (.bipush 6, 2) := by decide +kernel
theorem d_Mo_hop_20 : decode M_Mo_hop.2.1 20 = .ok (.iload_n 1, 1) := by decide +kernel
theorem d_Mo_hop_21 : decode M_Mo_hop.2.1 21 = .ok (.imul, 1) := by decide +kernel
theorem d_Mo_hop_22 : decode M_Mo_hop.2.1 22 = .ok (.iload_n 2, 1) := by decide +kernel
theorem d_Mo_hop_23 : decode M_Mo_hop.2.1 23 = .ok (.iadd, 1) := by decide +kernel
theorem d_Mo_hop_24 : decode M_Mo_hop.2.1 24 = .ok (.iaload, 1) := by decide +kernel
theorem d_Mo_hop_25 : decode M_Mo_hop.2.1 25 = .ok (.goto 4, 3) := by decide +kernel
theorem d_Mo_hop_28 : decode M_Mo_hop.2.1 28 = .ok (.iconst (-1), 1) := by decide +kernel
theorem d_Mo_hop_29 : decode M_Mo_hop.2.1 29 = .ok (.ireturn, 1) := by decide +kernel
theorem d_Mo_join_0 : decode M_Mo_join.2.1 0 = .ok (.aload_n 0, 1) := by decide +kernel
theorem d_Mo_join_1 : decode M_Mo_join.2.1 1 = .ok (.iload_n 1, 1) := by decide +kernel
theorem d_Mo_join_2 : decode M_Mo_join.2.1 2 = .ok (.iload_n 2, 1) := by decide +kernel
theorem d_Mo_join_3 : decode M_Mo_join.2.1 3 = .ok (.iload_n 3, 1) := by decide +kernel
theorem d_Mo_join_4 : decode M_Mo_join.2.1 4 = .ok (.invokevirtual 118, 3) := by decide +kernel
theorem d_Mo_join_7 : decode M_Mo_join.2.1 7 = .ok (.ifCond .eq 21, 3) := by decide +kernel
theorem d_Mo_join_10 : decode M_Mo_join.2.1 10 = .ok (.aload_n 0, 1) := by decide +kernel
theorem d_Mo_join_11 : decode M_Mo_join.2.1 11 = .ok (.getfield 19, 3) := by decide +kernel
theorem d_Mo_join_14 : decode M_Mo_join.2.1 14 = .ok (.bipush 12, 2) := by decide +kernel
theorem d_Mo_join_16 : decode M_Mo_join.2.1 16 = .ok (.iload_n 1, 1) := by decide +kernel
theorem d_Mo_join_17 : decode M_Mo_join.2.1 17 = .ok (.imul, 1) := by decide +kernel
theorem d_Mo_join_18 : decode M_Mo_join.2.1 18 = .ok (.iconst 3, 1) := by decide +kernel
theorem d_Mo_join_19 : decode M_Mo_join.2.1 19 = .ok (.iload_n 2, 1) := by decide +kernel
theorem d_Mo_join_20 : decode M_Mo_join.2.1 20 = .ok (.imul, 1) := by decide +kernel
theorem d_Mo_join_21 : decode M_Mo_join.2.1 21 = .ok (.iadd, 1) := by decide +kernel
theorem d_Mo_join_22 : decode M_Mo_join.2.1 22 = .ok (.iload_n 3, 1) := by decide +kernel
theorem d_Mo_join_23 : decode M_Mo_join.2.1 23 = .ok (.iadd, 1) := by decide +kernel
theorem d_Mo_join_24 : decode M_Mo_join.2.1 24 = .ok (.baload, 1) := by decide +kernel
theorem d_Mo_join_25 : decode M_Mo_join.2.1 25 = .ok (.ifCond .eq 5, 3) := by decide +kernel
theorem d_Mo_join_28 : decode M_Mo_join.2.1 28 = .ok (.iconst 0, 1) := by decide +kernel
theorem d_Mo_join_29 : decode M_Mo_join.2.1 29 = .ok (.ireturn, 1) := by decide +kernel
theorem d_Mo_join_30 : decode M_Mo_join.2.1 30 = .ok (.aload_n 0, 1) := by decide +kernel
theorem d_Mo_join_31 : decode M_Mo_join.2.1 31 = .ok (.getfield 19, 3) := by decide +kernel
theorem d_Mo_join_34 : decode M_Mo_join.2.1 34 = .ok (.bipush 12, 2) := by decide +kernel
theorem d_Mo_join_36 : decode M_Mo_join.2.1 36 = .ok (.iload_n 1, 1) := by decide +kernel
theorem d_Mo_join_37 : decode M_Mo_join.2.1 37 = .ok (.imul, 1) := by decide +kernel
theorem d_Mo_join_38 : decode M_Mo_join.2.1 38 = .ok (.iconst 3, 1) := by decide +kernel
theorem d_Mo_join_39 : decode M_Mo_join.2.1 39 = .ok (.iload_n 2, 1) := by decide +kernel
theorem d_Mo_join_40 : decode M_Mo_join.2.1 40 = .ok (.imul, 1) := by decide +kernel
theorem d_Mo_join_41 : decode M_Mo_join.2.1 41 = .ok (.iadd, 1) := by decide +kernel
theorem d_Mo_join_42 : decode M_Mo_join.2.1 42 = .ok (.iload_n 3, 1) := by decide +kernel
theorem d_Mo_join_43 : decode M_Mo_join.2.1 43 = .ok (.iadd, 1) := by decide +kernel
theorem d_Mo_join_44 : decode M_Mo_join.2.1 44 = .ok (.iconst 1, 1) := by decide +kernel
theorem d_Mo_join_45 : decode M_Mo_join.2.1 45 = .ok (.bastore, 1) := by decide +kernel
theorem d_Mo_join_46 : decode M_Mo_join.2.1 46 = .ok (.aload_n 0, 1) := by decide +kernel
theorem d_Mo_join_47 : decode M_Mo_join.2.1 47 = .ok (.iload_n 1, 1) := by decide +kernel
theorem d_Mo_join_48 : decode M_Mo_join.2.1 48 = .ok (.iload_n 2, 1) := by decide +kernel
theorem d_Mo_join_49 : decode M_Mo_join.2.1 49 = .ok (.iload_n 3, 1) := by decide +kernel
theorem d_Mo_join_50 : decode M_Mo_join.2.1 50 = .ok (.invokevirtual 122, 3) := by decide +kernel
theorem d_Mo_join_53 : decode M_Mo_join.2.1 53 = .ok (.aload_n 0, 1) := by decide +kernel
theorem d_Mo_join_54 : decode M_Mo_join.2.1 54 = .ok (.invokevirtual 109, 3) := by decide +kernel
theorem d_Mo_join_57 : decode M_Mo_join.2.1 57 = .ok (.iconst 1, 1) := by decide +kernel
theorem d_Mo_join_58 : decode M_Mo_join.2.1 58 = .ok (.ireturn, 1) := by decide +kernel
theorem d_Mo_isHost_0 : decode M_Mo_isHost.2.1 0 = .ok (.iload_n 1, 1) := by decide +kernel
theorem d_Mo_isHost_1 : decode M_Mo_isHost.2.1 1 = .ok (.invokestatic 99, 3) := by decide +kernel
theorem d_Mo_isHost_4 : decode M_Mo_isHost.2.1 4 = .ok (.ifCond .eq 23, 3) := by decide +kernel
theorem d_Mo_isHost_7 : decode M_Mo_isHost.2.1 7 = .ok (.iload_n 2, 1) := by decide +kernel
theorem d_Mo_isHost_8 : decode M_Mo_isHost.2.1 8 = .ok (.ifCond .lt 19, 3) := by decide +kernel
theorem d_Mo_isHost_11 : decode M_Mo_isHost.2.1 11 = .ok (.iload_n 2, 1) := by decide +kernel
theorem d_Mo_isHost_12 : decode M_Mo_isHost.2.1 12 = .ok (.iconst 3, 1) := by decide +kernel
theorem d_Mo_isHost_13 : decode M_Mo_isHost.2.1 13 = .ok (.if_icmp .gt 14, 3) := by decide +kernel
theorem d_Mo_isHost_16 : decode M_Mo_isHost.2.1 16 = .ok (.iload_n 3, 1) := by decide +kernel
theorem d_Mo_isHost_17 : decode M_Mo_isHost.2.1 17 = .ok (.invokestatic 115, 3) := by decide +kernel
theorem d_Mo_isHost_20 : decode M_Mo_isHost.2.1 20 = .ok (.ifCond .eq 7, 3) := by decide +kernel
theorem d_Mo_isHost_23 : decode M_Mo_isHost.2.1 23 = .ok (.iconst 1, 1) := by decide +kernel
theorem d_Mo_isHost_24 : decode M_Mo_isHost.2.1 24 = .ok (.goto 4, 3) := by decide +kernel
theorem d_Mo_isHost_27 : decode M_Mo_isHost.2.1 27 = .ok (.iconst 0, 1) := by decide +kernel
theorem d_Mo_isHost_28 : decode M_Mo_isHost.2.1 28 = .ok (.ireturn, 1) := by decide +kernel
theorem d_Mo_isGroup_0 : decode M_Mo_isGroup.2.1 0 = .ok (.iload_n 0, 1) := by decide +kernel
theorem d_Mo_isGroup_1 : decode M_Mo_isGroup.2.1 1 = .ok (.ifCond .lt 12, 3) := by decide +kernel
theorem d_Mo_isGroup_4 : decode M_Mo_isGroup.2.1 4 = .ok (.iload_n 0, 1) := by decide +kernel
theorem d_Mo_isGroup_5 : decode M_Mo_isGroup.2.1 5 = .ok (.iconst 2, 1) := by decide +kernel
theorem d_Mo_isGroup_6 : decode M_Mo_isGroup.2.1 6 = .ok (.if_icmp .gt 7, 3) := by decide +kernel
theorem d_Mo_isGroup_9 : decode M_Mo_isGroup.2.1 9 = .ok (.iconst 1, 1) := by decide +kernel
theorem d_Mo_isGroup_10 : decode M_Mo_isGroup.2.1 10 = .ok (.goto 4, 3) := by decide +kernel
theorem d_Mo_isGroup_13 : decode M_Mo_isGroup.2.1 13 = .ok (.iconst 0, 1) := by decide +kernel
theorem d_Mo_isGroup_14 : decode M_Mo_isGroup.2.1 14 = .ok (.ireturn, 1) := by decide +kernel
theorem d_Mo_report_0 : decode M_Mo_report.2.1 0 = .ok (.aload_n 0, 1) := by decide +kernel
theorem d_Mo_report_1 : decode M_Mo_report.2.1 1 = .ok (.getfield 23, 3) := by decide +kernel
theorem d_Mo_report_4 : decode M_Mo_report.2.1 4 = .ok (.iconst 3, 1) := by decide +kernel
theorem d_Mo_report_5 : decode M_Mo_report.2.1 5 = .ok (.iload_n 1, 1) := by decide +kernel
theorem d_Mo_report_6 : decode M_Mo_report.2.1 6 = .ok (.imul, 1) := by decide +kernel
theorem d_Mo_report_7 : decode M_Mo_report.2.1 7 = .ok (.iload_n 3, 1) := by decide +kernel
theorem d_Mo_report_8 : decode M_Mo_report.2.1 8 = .ok (.iadd, 1) := by decide +kernel
theorem d_Mo_report_9 : decode M_Mo_report.2.1 9 = .ok (.aload_n 0, 1) := by decide +kernel
theorem d_Mo_report_10 : decode M_Mo_report.2.1 10 = .ok (.getfield 112, 3) := by decide +kernel
theorem d_Mo_report_13 : decode M_Mo_report.2.1 13 = .ok (.bipush 12, 2) := by decide +kernel
theorem d_Mo_report_15 : decode M_Mo_report.2.1 15 = .ok (.iadd, 1) := by decide +kernel
theorem d_Mo_report_16 : decode M_Mo_report.2.1 16 = .ok (.iastore, 1) := by decide +kernel
theorem d_Mo_report_17 : decode M_Mo_report.2.1 17 = .ok (.aload_n 0, 1) := by decide +kernel
theorem d_Mo_report_18 : decode M_Mo_report.2.1 18 = .ok (.getfield 26, 3) := by decide +kernel
theorem d_Mo_report_21 : decode M_Mo_report.2.1 21 = .ok (.iconst 3, 1) := by decide +kernel
theorem d_Mo_report_22 : decode M_Mo_report.2.1 22 = .ok (.iload_n 1, 1) := by decide +kernel
theorem d_Mo_report_23 : decode M_Mo_report.2.1 23 = .ok (.imul, 1) := by decide +kernel
theorem d_Mo_report_24 : decode M_Mo_report.2.1 24 = .ok (.iload_n 3, 1) := by decide +kernel
theorem d_Mo_report_25 : decode M_Mo_report.2.1 25 = .ok (.iadd, 1) := by decide +kernel
theorem d_Mo_report_26 : decode M_Mo_report.2.1 26 = .ok (.iload_n 2, 1) := by decide +kernel
theorem d_Mo_report_27 : decode M_Mo_report.2.1 27 = .ok (.iastore, 1) := by decide +kernel
theorem d_Mo_report_28 : decode M_Mo_report.2.1 28 = .ok (.return_, 1) := by decide +kernel
theorem d_Mo_leave_0 : decode M_Mo_leave.2.1 0 = .ok (.aload_n 0, 1) := by decide +kernel
theorem d_Mo_leave_1 : decode M_Mo_leave.2.1 1 = .ok (.iload_n 1, 1) := by decide +kernel
theorem d_Mo_leave_2 : decode M_Mo_leave.2.1 2 = .ok (.iload_n 2, 1) := by decide +kernel
theorem d_Mo_leave_3 : decode M_Mo_leave.2.1 3 = .ok (.iload_n 3, 1) := by decide +kernel
theorem d_Mo_leave_4 : decode M_Mo_leave.2.1 4 = .ok (.invokevirtual 118, 3) := by decide +kernel
theorem d_Mo_leave_7 : decode M_Mo_leave.2.1 7 = .ok (.ifCond .eq 21, 3) := by decide +kernel
theorem d_Mo_leave_10 : decode M_Mo_leave.2.1 10 = .ok (.aload_n 0, 1) := by decide +kernel
theorem d_Mo_leave_11 : decode M_Mo_leave.2.1 11 = .ok (.getfield 19, 3) := by decide +kernel
theorem d_Mo_leave_14 : decode M_Mo_leave.2.1 14 = .ok (.bipush 12, 2) := by decide +kernel
theorem d_Mo_leave_16 : decode M_Mo_leave.2.1 16 = .ok (.iload_n 1, 1) := by decide +kernel
theorem d_Mo_leave_17 : decode M_Mo_leave.2.1 17 = .ok (.imul, 1) := by decide +kernel
theorem d_Mo_leave_18 : decode M_Mo_leave.2.1 18 = .ok (.iconst 3, 1) := by decide +kernel
theorem d_Mo_leave_19 : decode M_Mo_leave.2.1 19 = .ok (.iload_n 2, 1) := by decide +kernel
theorem d_Mo_leave_20 : decode M_Mo_leave.2.1 20 = .ok (.imul, 1) := by decide +kernel
theorem d_Mo_leave_21 : decode M_Mo_leave.2.1 21 = .ok (.iadd, 1) := by decide +kernel
theorem d_Mo_leave_22 : decode M_Mo_leave.2.1 22 = .ok (.iload_n 3, 1) := by decide +kernel
theorem d_Mo_leave_23 : decode M_Mo_leave.2.1 23 = .ok (.iadd, 1) := by decide +kernel
theorem d_Mo_leave_24 : decode M_Mo_leave.2.1 24 = .ok (.baload, 1) := by decide +kernel
theorem d_Mo_leave_25 : decode M_Mo_leave.2.1 25 = .ok (.ifCond .ne 5, 3) := by decide +kernel
theorem d_Mo_leave_28 : decode M_Mo_leave.2.1 28 = .ok (.iconst 0, 1) := by decide +kernel
theorem d_Mo_leave_29 : decode M_Mo_leave.2.1 29 = .ok (.ireturn, 1) := by decide +kernel
theorem d_Mo_leave_30 : decode M_Mo_leave.2.1 30 = .ok (.aload_n 0, 1) := by decide +kernel
theorem d_Mo_leave_31 : decode M_Mo_leave.2.1 31 = .ok (.getfield 19, 3) := by decide +kernel
theorem d_Mo_leave_34 : decode M_Mo_leave.2.1 34 = .ok (.bipush 12, 2) := by decide +kernel
theorem d_Mo_leave_36 : decode M_Mo_leave.2.1 36 = .ok (.iload_n 1, 1) := by decide +kernel
theorem d_Mo_leave_37 : decode M_Mo_leave.2.1 37 = .ok (.imul, 1) := by decide +kernel
theorem d_Mo_leave_38 : decode M_Mo_leave.2.1 38 = .ok (.iconst 3, 1) := by decide +kernel
theorem d_Mo_leave_39 : decode M_Mo_leave.2.1 39 = .ok (.iload_n 2, 1) := by decide +kernel
theorem d_Mo_leave_40 : decode M_Mo_leave.2.1 40 = .ok (.imul, 1) := by decide +kernel
theorem d_Mo_leave_41 : decode M_Mo_leave.2.1 41 = .ok (.iadd, 1) := by decide +kernel
theorem d_Mo_leave_42 : decode M_Mo_leave.2.1 42 = .ok (.iload_n 3, 1) := by decide +kernel
theorem d_Mo_leave_43 : decode M_Mo_leave.2.1 43 = .ok (.iadd, 1) := by decide +kernel
theorem d_Mo_leave_44 : decode M_Mo_leave.2.1 44 = .ok (.iconst 0, 1) := by decide +kernel
theorem d_Mo_leave_45 : decode M_Mo_leave.2.1 45 = .ok (.bastore, 1) := by decide +kernel
theorem d_Mo_leave_46 : decode M_Mo_leave.2.1 46 = .ok (.iconst 3, 1) := by decide +kernel
theorem d_Mo_leave_47 : decode M_Mo_leave.2.1 47 = .ok (.iload_n 1, 1) := by decide +kernel
theorem d_Mo_leave_48 : decode M_Mo_leave.2.1 48 = .ok (.imul, 1) := by decide +kernel
theorem d_Mo_leave_49 : decode M_Mo_leave.2.1 49 = .ok (.iload_n 3, 1) := by decide +kernel
theorem d_Mo_leave_50 : decode M_Mo_leave.2.1 50 = .ok (.iadd, 1) := by decide +kernel
theorem d_Mo_leave_51 : decode M_Mo_leave.2.1 51 = .ok (.istore 5, 2) := by decide +kernel
theorem d_Mo_leave_53 : decode M_Mo_leave.2.1 53 = .ok (.iload 4, 2) := by decide +kernel
theorem d_Mo_leave_55 : decode M_Mo_leave.2.1 55 = .ok (.ifCond .eq 85, 3) := by decide +kernel
theorem d_Mo_leave_58 : decode M_Mo_leave.2.1 58 = .ok (.aload_n 0, 1) := by decide +kernel
theorem d_Mo_leave_59 : decode M_Mo_leave.2.1 59 = .ok (.getfield 26, 3) := by decide +kernel
theorem d_Mo_leave_62 : decode M_Mo_leave.2.1 62 = .ok (.iload 5, 2) := by decide +kernel
theorem d_Mo_leave_64 : decode M_Mo_leave.2.1 64 = .ok (.iaload, 1) := by decide +kernel
theorem d_Mo_leave_65 : decode M_Mo_leave.2.1 65 = .ok (.iload_n 2, 1) := by decide +kernel
theorem d_Mo_leave_66 : decode M_Mo_leave.2.1 66 = .ok (.if_icmp .ne 74, 3) := by decide +kernel
theorem d_Mo_leave_69 : decode M_Mo_leave.2.1 69 = .ok (.aload_n 0, 1) := by decide +kernel
theorem d_Mo_leave_70 : decode M_Mo_leave.2.1 70 = .ok (.iload_n 1, 1) := by decide +kernel
theorem d_Mo_leave_71 : decode M_Mo_leave.2.1 71 = .ok (.iload_n 3, 1) := by decide +kernel
theorem d_Mo_leave_72 : decode M_Mo_leave.2.1 72 = .ok (.invokevirtual 126, 3) := by decide +kernel
theorem d_Mo_leave_75 : decode M_Mo_leave.2.1 75 = .ok (.istore 6, 2) := by decide +kernel
theorem d_Mo_leave_77 : decode M_Mo_leave.2.1 77 = .ok (.iload 6, 2) := by decide +kernel
theorem d_Mo_leave_79 : decode M_Mo_leave.2.1 79 = .ok (.ifCond .lt 14, 3) := by decide +kernel
theorem d_Mo_leave_82 : decode M_Mo_leave.2.1 82 = .ok (.aload_n 0, 1) := by decide +kernel
theorem d_Mo_leave_83 : decode M_Mo_leave.2.1 83 = .ok (.iload_n 1, 1) := by decide +kernel
theorem d_Mo_leave_84 : decode M_Mo_leave.2.1 84 = .ok (.iload 6, 2) := by decide +kernel
theorem d_Mo_leave_86 : decode M_Mo_leave.2.1 86 = .ok (.iload_n 3, 1) := by decide +kernel
theorem d_Mo_leave_87 : decode M_Mo_leave.2.1 87 = .ok (.invokevirtual 122, 3) := by decide +kernel
theorem d_Mo_leave_90 : decode M_Mo_leave.2.1 90 = .ok (.goto 50, 3) := by decide +kernel
theorem d_Mo_leave_93 : decode M_Mo_leave.2.1 93 = .ok (.aload_n 0, 1) := by decide +kernel
theorem d_Mo_leave_94 : decode M_Mo_leave.2.1 94 = .ok (.getfield 26, 3) := by decide +kernel
theorem d_Mo_leave_97 : decode M_Mo_leave.2.1 97 = .ok (.iload 5, 2) := by decide +kernel
theorem d_Mo_leave_99 : decode M_Mo_leave.2.1 99 = .ok (.iconst (-1), 1) := by decide +kernel
theorem d_Mo_leave_100 : decode M_Mo_leave.2.1 100 = .ok (.iastore, 1) := by decide +kernel
theorem d_Mo_leave_101 : decode M_Mo_leave.2.1 101 = .ok (.aload_n 0, 1) := by decide +kernel
theorem d_Mo_leave_102 : decode M_Mo_leave.2.1 102 = .ok (.getfield 23, 3) := by decide +kernel
theorem d_Mo_leave_105 : decode M_Mo_leave.2.1 105 = .ok (.iload 5, 2) := by decide +kernel
theorem d_Mo_leave_107 : decode M_Mo_leave.2.1 107 = .ok (.aload_n 0, 1) := by decide +kernel
theorem d_Mo_leave_108 : decode M_Mo_leave.2.1 108 = .ok (.getfield 23, 3) := by decide +kernel
theorem d_Mo_leave_111 : decode M_Mo_leave.2.1 111 = .ok (.iload 5, 2) := by decide +kernel
theorem d_Mo_leave_113 : decode M_Mo_leave.2.1 113 = .ok (.iaload, 1) := by decide +kernel
theorem d_Mo_leave_114 : decode M_Mo_leave.2.1 114 = .ok (.aload_n 0, 1) := by decide +kernel
theorem d_Mo_leave_115 : decode M_Mo_leave.2.1 115 = .ok (.getfield 112, 3) := by decide +kernel
theorem d_Mo_leave_118 : decode M_Mo_leave.2.1 118 = .ok (.iconst 2, 1) := by decide +kernel
theorem d_Mo_leave_119 : decode M_Mo_leave.2.1 119 = .ok (.iadd, 1) := by decide +kernel
theorem d_Mo_leave_120 : decode M_Mo_leave.2.1 120 = .ok (.if_icmp .le 12, 3) := by decide +kernel
theorem d_Mo_leave_123 : decode M_Mo_leave.2.1 123 = .ok (.aload_n 0, 1) := by decide +kernel
theorem d_Mo_leave_124 : decode M_Mo_leave.2.1 124 = .ok (.getfield 112, 3) := by decide +kernel
theorem d_Mo_leave_127 : decode M_Mo_leave.2.1 127 = .ok (.iconst 2, 1) := by decide +kernel
theorem d_Mo_leave_128 : decode M_Mo_leave.2.1 128 = .ok (.iadd, 1) := by decide +kernel
theorem d_Mo_leave_129 : decode M_Mo_leave.2.1 129 = .ok (.goto 10, 3) := by decide +kernel
theorem d_Mo_leave_132 : decode M_Mo_leave.2.1 132 = .ok (.aload_n 0, 1) := by decide +kernel
theorem d_Mo_leave_133 : decode M_Mo_leave.2.1 133 = .ok (.getfield 23, 3) := by decide +kernel
theorem d_Mo_leave_136 : decode M_Mo_leave.2.1 136 = .ok (.iload 5, 2) := by decide +kernel
theorem d_Mo_leave_138 : decode M_Mo_leave.2.1 138 = .ok (.iaload, 1) := by decide +kernel
theorem d_Mo_leave_139 : decode M_Mo_leave.2.1 139 = .ok (.iastore, 1) := by decide +kernel
theorem d_Mo_leave_140 : decode M_Mo_leave.2.1 140 = .ok (.aload_n 0, 1) := by decide +kernel
theorem d_Mo_leave_141 : decode M_Mo_leave.2.1 141 = .ok (.invokevirtual 109, 3) := by decide +kernel
theorem d_Mo_leave_144 : decode M_Mo_leave.2.1 144 = .ok (.iconst 1, 1) := by decide +kernel
theorem d_Mo_leave_145 : decode M_Mo_leave.2.1 145 = .ok (.ireturn, 1) := by decide +kernel
theorem d_Mo_lowest_0 : decode M_Mo_lowest.2.1 0 = .ok (.iconst 0, 1) := by decide +kernel
theorem d_Mo_lowest_1 : decode M_Mo_lowest.2.1 1 = .ok (.istore_n 3, 1) := by decide +kernel
theorem d_Mo_lowest_2 : decode M_Mo_lowest.2.1 2 = .ok (.iload_n 3, 1) := by decide +kernel
theorem d_Mo_lowest_3 : decode M_Mo_lowest.2.1 3 = .ok (.iconst 4, 1) := by decide +kernel
theorem d_Mo_lowest_4 : decode M_Mo_lowest.2.1 4 = .ok (.if_icmp .ge 29, 3) := by decide +kernel
theorem d_Mo_lowest_7 : decode M_Mo_lowest.2.1 7 = .ok (.aload_n 0, 1) := by decide +kernel
theorem d_Mo_lowest_8 : decode M_Mo_lowest.2.1 8 = .ok (.getfield 19, 3) := by decide +kernel
theorem d_Mo_lowest_11 : decode M_Mo_lowest.2.1 11 = .ok (.bipush 12, 2) := by decide +kernel
theorem d_Mo_lowest_13 : decode M_Mo_lowest.2.1 13 = .ok (.iload_n 1, 1) := by decide +kernel
theorem d_Mo_lowest_14 : decode M_Mo_lowest.2.1 14 = .ok (.imul, 1) := by decide +kernel
theorem d_Mo_lowest_15 : decode M_Mo_lowest.2.1 15 = .ok (.iconst 3, 1) := by decide +kernel
theorem d_Mo_lowest_16 : decode M_Mo_lowest.2.1 16 = .ok (.iload_n 3, 1) := by decide +kernel
theorem d_Mo_lowest_17 : decode M_Mo_lowest.2.1 17 = .ok (.imul, 1) := by decide +kernel
theorem d_Mo_lowest_18 : decode M_Mo_lowest.2.1 18 = .ok (.iadd, 1) := by decide +kernel
theorem d_Mo_lowest_19 : decode M_Mo_lowest.2.1 19 = .ok (.iload_n 2, 1) := by decide +kernel
theorem d_Mo_lowest_20 : decode M_Mo_lowest.2.1 20 = .ok (.iadd, 1) := by decide +kernel
theorem d_Mo_lowest_21 : decode M_Mo_lowest.2.1 21 = .ok (.baload, 1) := by decide +kernel
theorem d_Mo_lowest_22 : decode M_Mo_lowest.2.1 22 = .ok (.ifCond .eq 5, 3) := by decide +kernel
theorem d_Mo_lowest_25 : decode M_Mo_lowest.2.1 25 = .ok (.iload_n 3, 1) := by decide +kernel
theorem d_Mo_lowest_26 : decode M_Mo_lowest.2.1 26 = .ok (.ireturn, 1) := by decide +kernel
theorem d_Mo_lowest_27 : decode M_Mo_lowest.2.1 27 = .ok (.iinc 3 1, 3) := by decide +kernel
theorem d_Mo_lowest_30 : decode M_Mo_lowest.2.1 30 = .ok (.goto (-28), 3) := by decide +kernel
theorem d_Mo_lowest_33 : decode M_Mo_lowest.2.1 33 = .ok (.iconst (-1), 1) := by decide +kernel
theorem d_Mo_lowest_34 : decode M_Mo_lowest.2.1 34 = .ok (.ireturn, 1) := by decide +kernel
theorem d_Mo_marked_0 : decode M_Mo_marked.2.1 0 = .ok (.iload_n 1, 1) := by decide +kernel
theorem d_Mo_marked_1 : decode M_Mo_marked.2.1 1 = .ok (.invokestatic 99, 3) := by decide +kernel
theorem d_Mo_marked_4 : decode M_Mo_marked.2.1 4 = .ok (.ifCond .eq 10, 3) := by decide +kernel
theorem d_Mo_marked_7 : decode M_Mo_marked.2.1 7 = .ok (.iload_n 2, 1) := by decide +kernel
theorem d_Mo_marked_8 : decode M_Mo_marked.2.1 8 = .ok (.invokestatic 115, 3) := by decide +kernel
theorem d_Mo_marked_11 : decode M_Mo_marked.2.1 11 = .ok (.ifCond .ne 5, 3) := by decide +kernel
theorem d_Mo_marked_14 : decode M_Mo_marked.2.1 14 = .ok (.iconst (-1), 1) := by decide +kernel
theorem d_Mo_marked_15 : decode M_Mo_marked.2.1 15 = .ok (.ireturn, 1) := by decide +kernel
theorem d_Mo_marked_16 : decode M_Mo_marked.2.1 16 = .ok (.aload_n 0, 1) := by decide +kernel
theorem d_Mo_marked_17 : decode M_Mo_marked.2.1 17 = .ok (.iload_n 1, 1) := by decide +kernel
theorem d_Mo_marked_18 : decode M_Mo_marked.2.1 18 = .ok (.iload_n 2, 1) := by decide +kernel
theorem d_Mo_marked_19 : decode M_Mo_marked.2.1 19 = .ok (.invokevirtual 130, 3) := by decide +kernel
theorem d_Mo_marked_22 : decode M_Mo_marked.2.1 22 = .ok (.ifCond .eq 21, 3) := by decide +kernel
theorem d_Mo_marked_25 : decode M_Mo_marked.2.1 25 = .ok (.aload_n 0, 1) := by decide +kernel
theorem d_Mo_marked_26 : decode M_Mo_marked.2.1 26 = .ok (.getfield 23, 3) := by decide +kernel
theorem d_Mo_marked_29 : decode M_Mo_marked.2.1 29 = .ok (.iconst 3, 1) := by decide +kernel
theorem d_Mo_marked_30 : decode M_Mo_marked.2.1 30 = .ok (.iload_n 1, 1) := by decide +kernel
theorem d_Mo_marked_31 : decode M_Mo_marked.2.1 31 = .ok (.imul, 1) := by decide +kernel
theorem d_Mo_marked_32 : decode M_Mo_marked.2.1 32 = .ok (.iload_n 2, 1) := by decide +kernel
theorem d_Mo_marked_33 : decode M_Mo_marked.2.1 33 = .ok (.iadd, 1) := by decide +kernel
theorem d_Mo_marked_34 : decode M_Mo_marked.2.1 34 = .ok (.iaload, 1) := by decide +kernel
theorem d_Mo_marked_35 : decode M_Mo_marked.2.1 35 = .ok (.aload_n 0, 1) := by decide +kernel
theorem d_Mo_marked_36 : decode M_Mo_marked.2.1 36 = .ok (.getfield 112, 3) := by decide +kernel
theorem d_Mo_marked_39 : decode M_Mo_marked.2.1 39 = .ok (.isub, 1) := by decide +kernel
theorem d_Mo_marked_40 : decode M_Mo_marked.2.1 40 = .ok (.goto 4, 3) := by decide +kernel
theorem d_Mo_marked_43 : decode M_Mo_marked.2.1 43 = .ok (.iconst 0, 1) := by decide +kernel
theorem d_Mo_marked_44 : decode M_Mo_marked.2.1 44 = .ok (.ireturn, 1) := by decide +kernel
theorem d_Mo_pass_0 : decode M_Mo_pass.2.1 0 = .ok (.iload_n 1, 1) := by decide +kernel
theorem d_Mo_pass_1 : decode M_Mo_pass.2.1 1 = .ok (.iconst 1, 1) := by decide +kernel
theorem d_Mo_pass_2 : decode M_Mo_pass.2.1 2 = .ok (.if_icmp .lt 9, 3) := by decide +kernel
theorem d_Mo_pass_5 : decode M_Mo_pass.2.1 5 = .ok (.iload_n 1, 1) := by decide +kernel
theorem d_Mo_pass_6 : decode M_Mo_pass.2.1 6 = .ok (.bipush 10, 2) := by decide +kernel
theorem d_Mo_pass_8 : decode M_Mo_pass.2.1 8 = .ok (.if_icmp .le 5, 3) := by decide +kernel
theorem d_Mo_pass_11 : decode M_Mo_pass.2.1 11 = .ok (.iconst 0, 1) := by decide +kernel
theorem d_Mo_pass_12 : decode M_Mo_pass.2.1 12 = .ok (.ireturn, 1) := by decide +kernel
