/-! each instruction decoded -/
theorem d_Lw_cell_0 : decode M_Lw_cell.2.1 0 = .ok (.iload_n 1, 1) := by decide +kernel
theorem d_Lw_cell_1 : decode M_Lw_cell.2.1 1 = .ok (.aload_n 0, 1) := by decide +kernel
theorem d_Lw_cell_2 : decode M_Lw_cell.2.1 2 = .ok (.arraylength, 1) := by decide +kernel
theorem d_Lw_cell_3 : decode M_Lw_cell.2.1 3 = .ok (.if_icmp .ge 9, 3) := by decide +kernel
theorem d_Lw_cell_6 : decode M_Lw_cell.2.1 6 = .ok (.aload_n 0, 1) := by decide +kernel
theorem d_Lw_cell_7 : decode M_Lw_cell.2.1 7 = .ok (.iload_n 1, 1) := by decide +kernel
theorem d_Lw_cell_8 : decode M_Lw_cell.2.1 8 = .ok (.iaload, 1) := by decide +kernel
theorem d_Lw_cell_9 : decode M_Lw_cell.2.1 9 = .ok (.goto 4, 3) := by decide +kernel
theorem d_Lw_cell_12 : decode M_Lw_cell.2.1 12 = .ok (.iconst 0, 1) := by decide +kernel
theorem d_Lw_cell_13 : decode M_Lw_cell.2.1 13 = .ok (.ireturn, 1) := by decide +kernel
theorem d_Lw_law_0 : decode M_Lw_law.2.1 0 = .ok (.new 7, 3) := by decide +kernel
theorem d_Lw_law_3 : decode M_Lw_law.2.1 3 = .ok (.dup, 1) := by decide +kernel
theorem d_Lw_law_4 : decode M_Lw_law.2.1 4 = .ok (.aload_n 0, 1) := by decide +kernel
theorem d_Lw_law_5 : decode M_Lw_law.2.1 5 = .ok (.iconst 0, 1) := by decide +kernel
theorem d_Lw_law_6 : decode M_Lw_law.2.1 6 = .ok (.invokestatic 9, 3) := by decide +kernel
theorem d_Lw_law_9 : decode M_Lw_law.2.1 9 = .ok (.invokespecial 15, 3) := by decide +kernel
theorem d_Lw_law_12 : decode M_Lw_law.2.1 12 = .ok (.astore_n 1, 1) := by decide +kernel
theorem d_Lw_law_13 : decode M_Lw_law.2.1 13 = .ok (.new 18, 3) := by decide +kernel
theorem d_Lw_law_16 : decode M_Lw_law.2.1 16 = .ok (.dup, 1) := by decide +kernel
theorem d_Lw_law_17 : decode M_Lw_law.2.1 17 = .ok (.aload_n 0, 1) := by decide +kernel
theorem d_Lw_law_18 : decode M_Lw_law.2.1 18 = .ok (.iconst 0, 1) := by decide +kernel
theorem d_Lw_law_19 : decode M_Lw_law.2.1 19 = .ok (.invokestatic 9, 3) := by decide +kernel
theorem d_Lw_law_22 : decode M_Lw_law.2.1 22 = .ok (.invokespecial 20, 3) := by decide +kernel
theorem d_Lw_law_25 : decode M_Lw_law.2.1 25 = .ok (.astore_n 2, 1) := by decide +kernel
theorem d_Lw_law_26 : decode M_Lw_law.2.1 26 = .ok (.iconst 1, 1) := by decide +kernel
theorem d_Lw_law_27 : decode M_Lw_law.2.1 27 = .ok (.istore_n 3, 1) := by decide +kernel
theorem d_Lw_law_28 : decode M_Lw_law.2.1 28 = .ok (.iload_n 3, 1) := by decide +kernel
theorem d_Lw_law_29 : decode M_Lw_law.2.1 29 = .ok (.aload_n 0, 1) := by decide +kernel
theorem d_Lw_law_30 : decode M_Lw_law.2.1 30 = .ok (.arraylength, 1) := by decide +kernel
theorem d_Lw_law_31 : decode M_Lw_law.2.1 31 = .ok (.iconst 5, 1) := by decide +kernel
theorem d_Lw_law_32 : decode M_Lw_law.2.1 32 = .ok (.isub, 1) := by decide +kernel
theorem d_Lw_law_33 : decode M_Lw_law.2.1 33 = .ok (.if_icmp .gt 725, 3) := by decide +kernel
theorem d_Lw_law_36 : decode M_Lw_law.2.1 36 = .ok (.aload_n 0, 1) := by decide +kernel
theorem d_Lw_law_37 : decode M_Lw_law.2.1 37 = .ok (.iload_n 3, 1) := by decide +kernel
theorem d_Lw_law_38 : decode M_Lw_law.2.1 38 = .ok (.iaload, 1) := by decide +kernel
theorem d_Lw_law_39 : decode M_Lw_law.2.1 39 = .ok (.bipush 31, 2) := by decide +kernel
theorem d_Lw_law_41 : decode M_Lw_law.2.1 41 = .ok (.iand, 1) := by decide +kernel
theorem d_Lw_law_42 : decode M_Lw_law.2.1 42 = .ok (.tableswitch 710 0 19 #[94, 137, 170, 203, 246, 315, 348, 371, 404, 417, 430, 443, 456, 489, 532, 555, 588, 631, 654, 677], 94) := by decide +kernel
theorem d_Lw_law_136 : decode M_Lw_law.2.1 136 = .ok (.aload_n 1, 1) := by decide +kernel
theorem d_Lw_law_137 : decode M_Lw_law.2.1 137 = .ok (.aload_n 0, 1) := by decide +kernel
theorem d_Lw_law_138 : decode M_Lw_law.2.1 138 = .ok (.iload_n 3, 1) := by decide +kernel
theorem d_Lw_law_139 : decode M_Lw_law.2.1 139 = .ok (.iconst 1, 1) := by decide +kernel
theorem d_Lw_law_140 : decode M_Lw_law.2.1 140 = .ok (.iadd, 1) := by decide +kernel
theorem d_Lw_law_141 : decode M_Lw_law.2.1 141 = .ok (.iaload, 1) := by decide +kernel
theorem d_Lw_law_142 : decode M_Lw_law.2.1 142 = .ok (.aload_n 0, 1) := by decide +kernel
theorem d_Lw_law_143 : decode M_Lw_law.2.1 143 = .ok (.iload_n 3, 1) := by decide +kernel
theorem d_Lw_law_144 : decode M_Lw_law.2.1 144 = .ok (.iconst 2, 1) := by decide +kernel
theorem d_Lw_law_145 : decode M_Lw_law.2.1 145 = .ok (.iadd, 1) := by decide +kernel
theorem d_Lw_law_146 : decode M_Lw_law.2.1 146 = .ok (.iaload, 1) := by decide +kernel
theorem d_Lw_law_147 : decode M_Lw_law.2.1 147 = .ok (.aload_n 0, 1) := by decide +kernel
theorem d_Lw_law_148 : decode M_Lw_law.2.1 148 = .ok (.iload_n 3, 1) := by decide +kernel
theorem d_Lw_law_149 : decode M_Lw_law.2.1 149 = .ok (.iconst 3, 1) := by decide +kernel
theorem d_Lw_law_150 : decode M_Lw_law.2.1 150 = .ok (.iadd, 1) := by decide +kernel
theorem d_Lw_law_151 : decode M_Lw_law.2.1 151 = .ok (.iaload, 1) := by decide +kernel
theorem d_Lw_law_152 : decode M_Lw_law.2.1 152 = .ok (.invokevirtual 21, 3) := by decide +kernel
theorem d_Lw_law_155 : decode M_Lw_law.2.1 155 = .ok (.aload_n 2, 1) := by decide +kernel
theorem d_Lw_law_156 : decode M_Lw_law.2.1 156 = .ok (.aload_n 0, 1) := by decide +kernel
theorem d_Lw_law_157 : decode M_Lw_law.2.1 157 = .ok (.iload_n 3, 1) := by decide +kernel
theorem d_Lw_law_158 : decode M_Lw_law.2.1 158 = .ok (.iconst 1, 1) := by decide +kernel
theorem d_Lw_law_159 : decode M_Lw_law.2.1 159 = .ok (.iadd, 1) := by decide +kernel
theorem d_Lw_law_160 : decode M_Lw_law.2.1 160 = .ok (.iaload, 1) := by decide +kernel
theorem d_Lw_law_161 : decode M_Lw_law.2.1 161 = .ok (.aload_n 0, 1) := by decide +kernel
theorem d_Lw_law_162 : decode M_Lw_law.2.1 162 = .ok (.iload_n 3, 1) := by decide +kernel
theorem d_Lw_law_163 : decode M_Lw_law.2.1 163 = .ok (.iconst 2, 1) := by decide +kernel
theorem d_Lw_law_164 : decode M_Lw_law.2.1 164 = .ok (.iadd, 1) := by decide +kernel
theorem d_Lw_law_165 : decode M_Lw_law.2.1 165 = .ok (.iaload, 1) := by decide +kernel
theorem d_Lw_law_166 : decode M_Lw_law.2.1 166 = .ok (.aload_n 0, 1) := by decide +kernel
theorem d_Lw_law_167 : decode M_Lw_law.2.1 167 = .ok (.iload_n 3, 1) := by decide +kernel
theorem d_Lw_law_168 : decode M_Lw_law.2.1 168 = .ok (.iconst 3, 1) := by decide +kernel
theorem d_Lw_law_169 : decode M_Lw_law.2.1 169 = .ok (.iadd, 1) := by decide +kernel
theorem d_Lw_law_170 : decode M_Lw_law.2.1 170 = .ok (.iaload, 1) := by decide +kernel
theorem d_Lw_law_171 : decode M_Lw_law.2.1 171 = .ok (.invokevirtual 25, 3) := by decide +kernel
theorem d_Lw_law_174 : decode M_Lw_law.2.1 174 = .ok (.if_icmp .eq 578, 3) := by decide +kernel
theorem d_Lw_law_177 : decode M_Lw_law.2.1 177 = .ok (.iconst 0, 1) := by decide +kernel
theorem d_Lw_law_178 : decode M_Lw_law.2.1 178 = .ok (.ireturn, 1) := by decide +kernel
theorem d_Lw_law_179 : decode M_Lw_law.2.1 179 = .ok (.aload_n 1, 1) := by decide +kernel
theorem d_Lw_law_180 : decode M_Lw_law.2.1 180 = .ok (.aload_n 0, 1) := by decide +kernel
theorem d_Lw_law_181 : decode M_Lw_law.2.1 181 = .ok (.iload_n 3, 1) := by decide +kernel
theorem d_Lw_law_182 : decode M_Lw_law.2.1 182 = .ok (.iconst 1, 1) := by decide +kernel
theorem d_Lw_law_183 : decode M_Lw_law.2.1 183 = .ok (.iadd, 1) := by decide +kernel
theorem d_Lw_law_184 : decode M_Lw_law.2.1 184 = .ok (.iaload, 1) := by decide +kernel
theorem d_Lw_law_185 : decode M_Lw_law.2.1 185 = .ok (.aload_n 0, 1) := by decide +kernel
theorem d_Lw_law_186 : decode M_Lw_law.2.1 186 = .ok (.iload_n 3, 1) := by decide +kernel
theorem d_Lw_law_187 : decode M_Lw_law.2.1 187 = .ok (.iconst 2, 1) := by decide +kernel
theorem d_Lw_law_188 : decode M_Lw_law.2.1 188 = .ok (.iadd, 1) := by decide +kernel
theorem d_Lw_law_189 : decode M_Lw_law.2.1 189 = .ok (.iaload, 1) := by decide +kernel
theorem d_Lw_law_190 : decode M_Lw_law.2.1 190 = .ok (.invokevirtual 26, 3) := by decide +kernel
theorem d_Lw_law_193 : decode M_Lw_law.2.1 193 = .ok (.aload_n 2, 1) := by decide +kernel
theorem d_Lw_law_194 : decode M_Lw_law.2.1 194 = .ok (.aload_n 0, 1) := by decide +kernel
theorem d_Lw_law_195 : decode M_Lw_law.2.1 195 = .ok (.iload_n 3, 1) := by decide +kernel
theorem d_Lw_law_196 : decode M_Lw_law.2.1 196 = .ok (.iconst 1, 1) := by decide +kernel
theorem d_Lw_law_197 : decode M_Lw_law.2.1 197 = .ok (.iadd, 1) := by decide +kernel
theorem d_Lw_law_198 : decode M_Lw_law.2.1 198 = .ok (.iaload, 1) := by decide +kernel
theorem d_Lw_law_199 : decode M_Lw_law.2.1 199 = .ok (.aload_n 0, 1) := by decide +kernel
theorem d_Lw_law_200 : decode M_Lw_law.2.1 200 = .ok (.iload_n 3, 1) := by decide +kernel
theorem d_Lw_law_201 : decode M_Lw_law.2.1 201 = .ok (.iconst 2, 1) := by decide +kernel
theorem d_Lw_law_202 : decode M_Lw_law.2.1 202 = .ok (.iadd, 1) := by decide +kernel
theorem d_Lw_law_203 : decode M_Lw_law.2.1 203 = .ok (.iaload, 1) := by decide +kernel
theorem d_Lw_law_204 : decode M_Lw_law.2.1 204 = .ok (.invokevirtual 30, 3) := by decide +kernel
theorem d_Lw_law_207 : decode M_Lw_law.2.1 207 = .ok (.if_icmp .eq 545, 3) := by decide +kernel
theorem d_Lw_law_210 : decode M_Lw_law.2.1 210 = .ok (.iconst 0, 1) := by decide +kernel
theorem d_Lw_law_211 : decode M_Lw_law.2.1 211 = .ok (.ireturn, 1) := by decide +kernel
theorem d_Lw_law_212 : decode M_Lw_law.2.1 212 = .ok (.aload_n 1, 1) := by decide +kernel
theorem d_Lw_law_213 : decode M_Lw_law.2.1 213 = .ok (.aload_n 0, 1) := by decide +kernel
theorem d_Lw_law_214 : decode M_Lw_law.2.1 214 = .ok (.iload_n 3, 1) := by decide +kernel
theorem d_Lw_law_215 : decode M_Lw_law.2.1 215 = .ok (.iconst 1, 1) := by decide +kernel
theorem d_Lw_law_216 : decode M_Lw_law.2.1 216 = .ok (.iadd, 1) := by decide +kernel
theorem d_Lw_law_217 : decode M_Lw_law.2.1 217 = .ok (.iaload, 1) := by decide +kernel
theorem d_Lw_law_218 : decode M_Lw_law.2.1 218 = .ok (.aload_n 0, 1) := by decide +kernel
theorem d_Lw_law_219 : decode M_Lw_law.2.1 219 = .ok (.iload_n 3, 1) := by decide +kernel
theorem d_Lw_law_220 : decode M_Lw_law.2.1 220 = .ok (.iconst 2, 1) := by decide +kernel
theorem d_Lw_law_221 : decode M_Lw_law.2.1 221 = .ok (.iadd, 1) := by decide +kernel
theorem d_Lw_law_222 : decode M_Lw_law.2.1 222 = .ok (.iaload, 1) := by decide +kernel
theorem d_Lw_law_223 : decode M_Lw_law.2.1 223 = .ok (.invokevirtual 31, 3) := by decide +kernel
theorem d_Lw_law_226 : decode M_Lw_law.2.1 226 = .ok (.aload_n 2, 1) := by decide +kernel
theorem d_Lw_law_227 : decode M_Lw_law.2.1 227 = .ok (.aload_n 0, 1) := by decide +kernel
theorem d_Lw_law_228 : decode M_Lw_law.2.1 228 = .ok (.iload_n 3, 1) := by decide +kernel
theorem d_Lw_law_229 : decode M_Lw_law.2.1 229 = .ok (.iconst 1, 1) := by decide +kernel
theorem d_Lw_law_230 : decode M_Lw_law.2.1 230 = .ok (.iadd, 1) := by decide +kernel
theorem d_Lw_law_231 : decode M_Lw_law.2.1 231 = .ok (.iaload, 1) := by decide +kernel
theorem d_Lw_law_232 : decode M_Lw_law.2.1 232 = .ok (.aload_n 0, 1) := by decide +kernel
theorem d_Lw_law_233 : decode M_Lw_law.2.1 233 = .ok (.iload_n 3, 1) := by decide +kernel
theorem d_Lw_law_234 : decode M_Lw_law.2.1 234 = .ok (.iconst 2, 1) := by decide +kernel
theorem d_Lw_law_235 : decode M_Lw_law.2.1 235 = .ok (.iadd, 1) := by decide +kernel
theorem d_Lw_law_236 : decode M_Lw_law.2.1 236 = .ok (.iaload, 1) := by decide +kernel
theorem d_Lw_law_237 : decode M_Lw_law.2.1 237 = .ok (.invokevirtual 34, 3) := by decide +kernel
theorem d_Lw_law_240 : decode M_Lw_law.2.1 240 = .ok (.if_icmp .eq 512, 3) := by decide +kernel
theorem d_Lw_law_243 : decode M_Lw_law.2.1 243 = .ok (.iconst 0, 1) := by decide +kernel
theorem d_Lw_law_244 : decode M_Lw_law.2.1 244 = .ok (.ireturn, 1) := by decide +kernel
theorem d_Lw_law_245 : decode M_Lw_law.2.1 245 = .ok (.aload_n 1, 1) := by decide +kernel
theorem d_Lw_law_246 : decode M_Lw_law.2.1 246 = .ok (.aload_n 0, 1) := by decide +kernel
theorem d_Lw_law_247 : decode M_Lw_law.2.1 247 = .ok (.iload_n 3, 1) := by decide +kernel
theorem d_Lw_law_248 : decode M_Lw_law.2.1 248 = .ok (.iconst 1, 1) := by decide +kernel
theorem d_Lw_law_249 : decode M_Lw_law.2.1 249 = .ok (.iadd, 1) := by decide +kernel
theorem d_Lw_law_250 : decode M_Lw_law.2.1 250 = .ok (.iaload, 1) := by decide +kernel
theorem d_Lw_law_251 : decode M_Lw_law.2.1 251 = .ok (.aload_n 0, 1) := by decide +kernel
theorem d_Lw_law_252 : decode M_Lw_law.2.1 252 = .ok (.iload_n 3, 1) := by decide +kernel
theorem d_Lw_law_253 : decode M_Lw_law.2.1 253 = .ok (.iconst 2, 1) := by decide +kernel
theorem d_Lw_law_254 : decode M_Lw_law.2.1 254 = .ok (.iadd, 1) := by decide +kernel
theorem d_Lw_law_255 : decode M_Lw_law.2.1 255 = .ok (.iaload, 1) := by decide +kernel
theorem d_Lw_law_256 : decode M_Lw_law.2.1 256 = .ok (.aload_n 0, 1) := by decide +kernel
theorem d_Lw_law_257 : decode M_Lw_law.2.1 257 = .ok (.iload_n 3, 1) := by decide +kernel
theorem d_Lw_law_258 : decode M_Lw_law.2.1 258 = .ok (.iconst 3, 1) := by decide +kernel
theorem d_Lw_law_259 : decode M_Lw_law.2.1 259 = .ok (.iadd, 1) := by decide +kernel
theorem d_Lw_law_260 : decode M_Lw_law.2.1 260 = .ok (.iaload, 1) := by decide +kernel
theorem d_Lw_law_261 : decode M_Lw_law.2.1 261 = .ok (.invokevirtual 35, 3) := by decide +kernel
theorem d_Lw_law_264 : decode M_Lw_law.2.1 264 = .ok (.aload_n 2, 1) := by decide +kernel
theorem d_Lw_law_265 : decode M_Lw_law.2.1 265 = .ok (.aload_n 0, 1) := by decide +kernel
theorem d_Lw_law_266 : decode M_Lw_law.2.1 266 = .ok (.iload_n 3, 1) := by decide +kernel
theorem d_Lw_law_267 : decode M_Lw_law.2.1 267 = .ok (.iconst 1, 1) := by decide +kernel
theorem d_Lw_law_268 : decode M_Lw_law.2.1 268 = .ok (.iadd, 1) := by decide +kernel
theorem d_Lw_law_269 : decode M_Lw_law.2.1 269 = .ok (.iaload, 1) := by decide +kernel
theorem d_Lw_law_270 : decode M_Lw_law.2.1 270 = .ok (.aload_n 0, 1) := by decide +kernel
theorem d_Lw_law_271 : decode M_Lw_law.2.1 271 = .ok (.iload_n 3, 1) := by decide +kernel
theorem d_Lw_law_272 : decode M_Lw_law.2.1 272 = .ok (.iconst 2, 1) := by decide +kernel
theorem d_Lw_law_273 : decode M_Lw_law.2.1 273 = .ok (.iadd, 1) := by decide +kernel
theorem d_Lw_law_274 : decode M_Lw_law.2.1 274 = .ok (.iaload, 1) := by decide +kernel
theorem d_Lw_law_275 : decode M_Lw_law.2.1 275 = .ok (.aload_n 0, 1) := by decide +kernel
theorem d_Lw_law_276 : decode M_Lw_law.2.1 276 = .ok (.iload_n 3, 1) := by decide +kernel
theorem d_Lw_law_277 : decode M_Lw_law.2.1 277 = .ok (.iconst 3, 1) := by decide +kernel
theorem d_Lw_law_278 : decode M_Lw_law.2.1 278 = .ok (.iadd, 1) := by decide +kernel
theorem d_Lw_law_279 : decode M_Lw_law.2.1 279 = .ok (.iaload, 1) := by decide +kernel
theorem d_Lw_law_280 : decode M_Lw_law.2.1 280 = .ok (.invokevirtual 38, 3) := by decide +kernel
theorem d_Lw_law_283 : decode M_Lw_law.2.1 283 = .ok (.if_icmp .eq 469, 3) := by decide +kernel
theorem d_Lw_law_286 : decode M_Lw_law.2.1 286 = .ok (.iconst 0, 1) := by decide +kernel
theorem d_Lw_law_287 : decode M_Lw_law.2.1 287 = .ok (.ireturn, 1) := by decide +kernel
theorem d_Lw_law_288 : decode M_Lw_law.2.1 288 = .ok (.aload_n 1, 1) := by decide +kernel
theorem d_Lw_law_289 : decode M_Lw_law.2.1 289 = .ok (.aload_n 0, 1) := by decide +kernel
theorem d_Lw_law_290 : decode M_Lw_law.2.1 290 = .ok (.iload_n 3, 1) := by decide +kernel
theorem d_Lw_law_291 : decode M_Lw_law.2.1 291 = .ok (.iconst 1, 1) := by decide +kernel
theorem d_Lw_law_292 : decode M_Lw_law.2.1 292 = .ok (.iadd, 1) := by decide +kernel
theorem d_Lw_law_293 : decode M_Lw_law.2.1 293 = .ok (.iaload, 1) := by decide +kernel
theorem d_Lw_law_294 : decode M_Lw_law.2.1 294 = .ok (.aload_n 0, 1) := by decide +kernel
theorem d_Lw_law_295 : decode M_Lw_law.2.1 295 = .ok (.iload_n 3, 1) := by decide +kernel
theorem d_Lw_law_296 : decode M_Lw_law.2.1 296 = .ok (.iconst 2, 1) := by decide +kernel
theorem d_Lw_law_297 : decode M_Lw_law.2.1 297 = .ok (.iadd, 1) := by decide +kernel
theorem d_Lw_law_298 : decode M_Lw_law.2.1 298 = .ok (.iaload, 1) := by decide +kernel
theorem d_Lw_law_299 : decode M_Lw_law.2.1 299 = .ok (.aload_n 0, 1) := by decide +kernel
theorem d_Lw_law_300 : decode M_Lw_law.2.1 300 = .ok (.iload_n 3, 1) := by decide +kernel
theorem d_Lw_law_301 : decode M_Lw_law.2.1 301 = .ok (.iconst 3, 1) := by decide +kernel
theorem d_Lw_law_302 : decode M_Lw_law.2.1 302 = .ok (.iadd, 1) := by decide +kernel
theorem d_Lw_law_303 : decode M_Lw_law.2.1 303 = .ok (.iaload, 1) := by decide +kernel
theorem d_Lw_law_304 : decode M_Lw_law.2.1 304 = .ok (.aload_n 0, 1) := by decide +kernel
theorem d_Lw_law_305 : decode M_Lw_law.2.1 305 = .ok (.iload_n 3, 1) := by decide +kernel
theorem d_Lw_law_306 : decode M_Lw_law.2.1 306 = .ok (.iconst 4, 1) := by decide +kernel
theorem d_Lw_law_307 : decode M_Lw_law.2.1 307 = .ok (.iadd, 1) := by decide +kernel
theorem d_Lw_law_308 : decode M_Lw_law.2.1 308 = .ok (.iaload, 1) := by decide +kernel
theorem d_Lw_law_309 : decode M_Lw_law.2.1 309 = .ok (.ifCond .eq 7, 3) := by decide +kernel
theorem d_Lw_law_312 : decode M_Lw_law.2.1 312 = .ok (.iconst 1, 1) := by decide +kernel
theorem d_Lw_law_313 : decode M_Lw_law.2.1 313 = .ok (.goto 4, 3) := by decide +kernel
theorem d_Lw_law_316 : decode M_Lw_law.2.1 316 = .ok (.iconst 0, 1) := by decide +kernel
theorem d_Lw_law_317 : decode M_Lw_law.2.1 317 = .ok (.invokevirtual 39, 3) := by decide +kernel
theorem d_Lw_law_320 : decode M_Lw_law.2.1 320 = .ok (.aload_n 2, 1) := by decide +kernel
theorem d_Lw_law_321 : decode M_Lw_law.2.1 321 = .ok (.aload_n 0, 1) := by decide +kernel
theorem d_Lw_law_322 : decode M_Lw_law.2.1 322 = .ok (.iload_n 3, 1) := by decide +kernel
theorem d_Lw_law_323 : decode M_Lw_law.2.1 323 = .ok (.iconst 1, 1) := by decide +kernel
theorem d_Lw_law_324 : decode M_Lw_law.2.1 324 = .ok (.iadd, 1) := by decide +kernel
theorem d_Lw_law_325 : decode M_Lw_law.2.1 325 = .ok (.iaload, 1) := by decide +kernel
theorem d_Lw_law_326 : decode M_Lw_law.2.1 326 = .ok (.aload_n 0, 1) := by decide +kernel
theorem d_Lw_law_327 : decode M_Lw_law.2.1 327 = .ok (.iload_n 3, 1) := by decide +kernel
theorem d_Lw_law_328 : decode M_Lw_law.2.1 328 = .ok (.iconst 2, 1) := by decide +kernel
theorem d_Lw_law_329 : decode M_Lw_law.2.1 329 = .ok (.iadd, 1) := by decide +kernel
theorem d_Lw_law_330 : decode M_Lw_law.2.1 330 = .ok (.iaload, 1) := by decide +kernel
theorem d_Lw_law_331 : decode M_Lw_law.2.1 331 = .ok (.aload_n 0, 1) := by decide +kernel
theorem d_Lw_law_332 : decode M_Lw_law.2.1 332 = .ok (.iload_n 3, 1) := by decide +kernel
theorem d_Lw_law_333 : decode M_Lw_law.2.1 333 = .ok (.iconst 3, 1) := by decide +kernel
theorem d_Lw_law_334 : decode M_Lw_law.2.1 334 = .ok (.iadd, 1) := by decide +kernel
theorem d_Lw_law_335 : decode M_Lw_law.2.1 335 = .ok (.iaload, 1) := by decide +kernel
theorem d_Lw_law_336 : decode M_Lw_law.2.1 336 = .ok (.aload_n 0, 1) := by decide +kernel
theorem d_Lw_law_337 : decode M_Lw_law.2.1 337 = .ok (.iload_n 3, 1) := by decide +kernel
theorem d_Lw_law_338 : decode M_Lw_law.2.1 338 = .ok (.iconst 4, 1) := by decide +kernel
theorem d_Lw_law_339 : decode M_Lw_law.2.1 339 = .ok (.iadd, 1) := by decide +kernel
theorem d_Lw_law_340 : decode M_Lw_law.2.1 340 = .ok (.iaload, 1) := by decide +kernel
theorem d_Lw_law_341 : decode M_Lw_law.2.1 341 = .ok (.ifCond .eq 7, 3) := by decide +kernel
theorem d_Lw_law_344 : decode M_Lw_law.2.1 344 = .ok (.iconst 1, 1) := by decide +kernel
theorem d_Lw_law_345 : decode M_Lw_law.2.1 345 = .ok (.goto 4, 3) := by decide +kernel
theorem d_Lw_law_348 : decode M_Lw_law.2.1 348 = .ok (.iconst 0, 1) := by decide +kernel
theorem d_Lw_law_349 : decode M_Lw_law.2.1 349 = .ok (.invokevirtual 43, 3) := by decide +kernel
theorem d_Lw_law_352 : decode M_Lw_law.2.1 352 = .ok (.if_icmp .eq 400, 3) := by decide +kernel
theorem d_Lw_law_355 : decode M_Lw_law.2.1 355 = .ok (.iconst 0, 1) := by decide +kernel
theorem d_Lw_law_356 : decode M_Lw_law.2.1 356 = .ok (.ireturn, 1) := by decide +kernel
theorem d_Lw_law_357 : decode M_Lw_law.2.1 357 = .ok (.aload_n 1, 1) := by decide +kernel
theorem d_Lw_law_358 : decode M_Lw_law.2.1 358 = .ok (.aload_n 0, 1) := by decide +kernel
theorem d_Lw_law_359 : decode M_Lw_law.2.1 359 = .ok (.iload_n 3, 1) := by decide +kernel
theorem d_Lw_law_360 : decode M_Lw_law.2.1 360 = .ok (.iconst 1, 1) := by decide +kernel
theorem d_Lw_law_361 : decode M_Lw_law.2.1 361 = .ok (.iadd, 1) := by decide +kernel
theorem d_Lw_law_362 : decode M_Lw_law.2.1 362 = .ok (.iaload, 1) := by decide +kernel
theorem d_Lw_law_363 : decode M_Lw_law.2.1 363 = .ok (.aload_n 0, 1) := by decide +kernel
theorem d_Lw_law_364 : decode M_Lw_law.2.1 364 = .ok (.iload_n 3, 1) := by decide +kernel
theorem d_Lw_law_365 : decode M_Lw_law.2.1 365 = .ok (.iconst 2, 1) := by decide +kernel
theorem d_Lw_law_366 : decode M_Lw_law.2.1 366 = .ok (.iadd, 1) := by decide +kernel
theorem d_Lw_law_367 : decode M_Lw_law.2.1 367 = .ok (.iaload, 1) := by decide +kernel
theorem d_Lw_law_368 : decode M_Lw_law.2.1 368 = .ok (.invokevirtual 44, 3) := by decide +kernel
theorem d_Lw_law_371 : decode M_Lw_law.2.1 371 = .ok (.aload_n 2, 1) := by decide +kernel
theorem d_Lw_law_372 : decode M_Lw_law.2.1 372 = .ok (.aload_n 0, 1) := by decide +kernel
theorem d_Lw_law_373 : decode M_Lw_law.2.1 373 = .ok (.iload_n 3, 1) := by decide +kernel
theorem d_Lw_law_374 : decode M_Lw_law.2.1 374 = .ok (.iconst 1, 1) := by decide +kernel
theorem d_Lw_law_375 : decode M_Lw_law.2.1 375 = .ok (.iadd, 1) := by decide +kernel
theorem d_Lw_law_376 : decode M_Lw_law.2.1 376 = .ok (.iaload, 1) := by decide +kernel
theorem d_Lw_law_377 : decode M_Lw_law.2.1 377 = .ok (.aload_n 0, 1) := by decide +kernel
theorem d_Lw_law_378 : decode M_Lw_law.2.1 378 = .ok (.iload_n 3, 1) := by decide +kernel
theorem d_Lw_law_379 : decode M_Lw_law.2.1 379 = .ok (.iconst 2, 1) := by decide +kernel
theorem d_Lw_law_380 : decode M_Lw_law.2.1 380 = .ok (.iadd, 1) := by decide +kernel
theorem d_Lw_law_381 : decode M_Lw_law.2.1 381 = .ok (.iaload, 1) := by decide +kernel
theorem d_Lw_law_382 : decode M_Lw_law.2.1 382 = .ok (.invokevirtual 47, 3) := by decide +kernel
theorem d_Lw_law_385 : decode M_Lw_law.2.1 385 = .ok (.if_icmp .eq 367, 3) := by decide +kernel
theorem d_Lw_law_388 : decode M_Lw_law.2.1 388 = .ok (.iconst 0, 1) := by decide +kernel
theorem d_Lw_law_389 : decode M_Lw_law.2.1 389 = .ok (.ireturn, 1) := by decide +kernel
theorem d_Lw_law_390 : decode M_Lw_law.2.1 390 = .ok (.aload_n 1, 1) := by decide +kernel
theorem d_Lw_law_391 : decode M_Lw_law.2.1 391 = .ok (.aload_n 0, 1) := by decide +kernel
theorem d_Lw_law_392 : decode M_Lw_law.2.1 392 = .ok (.iload_n 3, 1) := by decide +kernel
theorem d_Lw_law_393 : decode M_Lw_law.2.1 393 = .ok (.iconst 1, 1) := by decide +kernel
theorem d_Lw_law_394 : decode M_Lw_law.2.1 394 = .ok (.iadd, 1) := by decide +kernel
theorem d_Lw_law_395 : decode M_Lw_law.2.1 395 = .ok (.iaload, 1) := by decide +kernel
theorem d_Lw_law_396 : decode M_Lw_law.2.1 396 = .ok (.invokevirtual 48, 3) := by decide +kernel
theorem d_Lw_law_399 : decode M_Lw_law.2.1 399 = .ok (.aload_n 2, 1) := by decide +kernel
theorem d_Lw_law_400 : decode M_Lw_law.2.1 400 = .ok (.aload_n 0, 1) := by decide +kernel
theorem d_Lw_law_401 : decode M_Lw_law.2.1 401 = .ok (.iload_n 3, 1) := by decide +kernel
theorem d_Lw_law_402 : decode M_Lw_law.2.1 402 = .ok (.iconst 1, 1) := by decide +kernel
theorem d_Lw_law_403 : decode M_Lw_law.2.1 403 = .ok (.iadd, 1) := by decide +kernel
theorem d_Lw_law_404 : decode M_Lw_law.2.1 404 = .ok (.iaload, 1) := by decide +kernel
theorem d_Lw_law_405 : decode M_Lw_law.2.1 405 = .ok (.invokevirtual 52, 3) := by decide +kernel
theorem d_Lw_law_408 : decode M_Lw_law.2.1 408 = .ok (.if_icmp .eq 344, 3) := by decide +kernel
theorem d_Lw_law_411 : decode M_Lw_law.2.1 411 = .ok (.iconst 0, 1) := by decide +kernel
theorem d_Lw_law_412 : decode M_Lw_law.2.1 412 = .ok (.ireturn, 1) := by decide +kernel
theorem d_Lw_law_413 : decode M_Lw_law.2.1 413 = .ok (.aload_n 1, 1) := by decide +kernel
theorem d_Lw_law_414 : decode M_Lw_law.2.1 414 = .ok (.aload_n 0, 1) := by decide +kernel
theorem d_Lw_law_415 : decode M_Lw_law.2.1 415 = .ok (.iload_n 3, 1) := by decide +kernel
theorem d_Lw_law_416 : decode M_Lw_law.2.1 416 = .ok (.iconst 1, 1) := by decide +kernel
theorem d_Lw_law_417 : decode M_Lw_law.2.1 417 = .ok (.iadd, 1) := by decide +kernel
theorem d_Lw_law_418 : decode M_Lw_law.2.1 418 = .ok (.iaload, 1) := by decide +kernel
theorem d_Lw_law_419 : decode M_Lw_law.2.1 419 = .ok (.aload_n 0, 1) := by decide +kernel
theorem d_Lw_law_420 : decode M_Lw_law.2.1 420 = .ok (.iload_n 3, 1) := by decide +kernel
theorem d_Lw_law_421 : decode M_Lw_law.2.1 421 = .ok (.iconst 2, 1) := by decide +kernel
theorem d_Lw_law_422 : decode M_Lw_law.2.1 422 = .ok (.iadd, 1) := by decide +kernel
theorem d_Lw_law_423 : decode M_Lw_law.2.1 423 = .ok (.iaload, 1) := by decide +kernel
theorem d_Lw_law_424 : decode M_Lw_law.2.1 424 = .ok (.invokevirtual 53, 3) := by decide +kernel
theorem d_Lw_law_427 : decode M_Lw_law.2.1 427 = .ok (.aload_n 2, 1) := by decide +kernel
theorem d_Lw_law_428 : decode M_Lw_law.2.1 428 = .ok (.aload_n 0, 1) := by decide +kernel
theorem d_Lw_law_429 : decode M_Lw_law.2.1 429 = .ok (.iload_n 3, 1) := by decide +kernel
theorem d_Lw_law_430 : decode M_Lw_law.2.1 430 = .ok (.iconst 1, 1) := by decide +kernel
theorem d_Lw_law_431 : decode M_Lw_law.2.1 431 = .ok (.iadd, 1) := by decide +kernel
theorem d_Lw_law_432 : decode M_Lw_law.2.1 432 = .ok (.iaload, 1) := by decide +kernel
theorem d_Lw_law_433 : decode M_Lw_law.2.1 433 = .ok (.aload_n 0, 1) := by decide +kernel
theorem d_Lw_law_434 : decode M_Lw_law.2.1 434 = .ok (.iload_n 3, 1) := by decide +kernel
theorem d_Lw_law_435 : decode M_Lw_law.2.1 435 = .ok (.iconst 2, 1) := by decide +kernel
theorem d_Lw_law_436 : decode M_Lw_law.2.1 436 = .ok (.iadd, 1) := by decide +kernel
theorem d_Lw_law_437 : decode M_Lw_law.2.1 437 = .ok (.iaload, 1) := by decide +kernel
theorem d_Lw_law_438 : decode M_Lw_law.2.1 438 = .ok (.invokevirtual 56, 3) := by decide +kernel
theorem d_Lw_law_441 : decode M_Lw_law.2.1 441 = .ok (.if_icmp .eq 311, 3) := by decide +kernel
theorem d_Lw_law_444 : decode M_Lw_law.2.1 444 = .ok (.iconst 0, 1) := by decide +kernel
theorem d_Lw_law_445 : decode M_Lw_law.2.1 445 = .ok (.ireturn, 1) := by decide +kernel
theorem d_Lw_law_446 : decode M_Lw_law.2.1 446 = .ok (.aload_n 1, 1) := by decide +kernel
theorem d_Lw_law_447 : decode M_Lw_law.2.1 447 = .ok (.invokevirtual 57, 3) := by decide +kernel
theorem d_Lw_law_450 : decode M_Lw_law.2.1 450 = .ok (.aload_n 2, 1) := by decide +kernel
theorem d_Lw_law_451 : decode M_Lw_law.2.1 451 = .ok (.invokevirtual 61, 3) := by decide +kernel
theorem d_Lw_law_454 : decode M_Lw_law.2.1 454 = .ok (.if_icmp .eq 298, 3) := by decide +kernel
theorem d_Lw_law_457 : decode M_Lw_law.2.1 457 = .ok (.iconst 0, 1) := by decide +kernel
theorem d_Lw_law_458 : decode M_Lw_law.2.1 458 = .ok (.ireturn, 1) := by decide +kernel
theorem d_Lw_law_459 : decode M_Lw_law.2.1 459 = .ok (.aload_n 1, 1) := by decide +kernel
theorem d_Lw_law_460 : decode M_Lw_law.2.1 460 = .ok (.invokevirtual 62, 3) := by decide +kernel
theorem d_Lw_law_463 : decode M_Lw_law.2.1 463 = .ok (.aload_n 2, 1) := by decide +kernel
theorem d_Lw_law_464 : decode M_Lw_law.2.1 464 = .ok (.invokevirtual 65, 3) := by decide +kernel
theorem d_Lw_law_467 : decode M_Lw_law.2.1 467 = .ok (.if_icmp .eq 285, 3) := by decide +kernel
theorem d_Lw_law_470 : decode M_Lw_law.2.1 470 = .ok (.iconst 0, 1) := by decide +kernel
theorem d_Lw_law_471 : decode M_Lw_law.2.1 471 = .ok (.ireturn, 1) := by decide +kernel
theorem d_Lw_law_472 : decode M_Lw_law.2.1 472 = .ok (.aload_n 1, 1) := by decide +kernel
theorem d_Lw_law_473 : decode M_Lw_law.2.1 473 = .ok (.invokevirtual 66, 3) := by decide +kernel
theorem d_Lw_law_476 : decode M_Lw_law.2.1 476 = .ok (.aload_n 2, 1) := by decide +kernel
theorem d_Lw_law_477 : decode M_Lw_law.2.1 477 = .ok (.invokevirtual 69, 3) := by decide +kernel
theorem d_Lw_law_480 : decode M_Lw_law.2.1 480 = .ok (.if_icmp .eq 272, 3) := by decide +kernel
theorem d_Lw_law_483 : decode M_Lw_law.2.1 483 = .ok (.iconst 0, 1) := by decide +kernel
theorem d_Lw_law_484 : decode M_Lw_law.2.1 484 = .ok (.ireturn, 1) := by decide +kernel
theorem d_Lw_law_485 : decode M_Lw_law.2.1 485 = .ok (.aload_n 1, 1) := by decide +kernel
theorem d_Lw_law_486 : decode M_Lw_law.2.1 486 = .ok (.invokevirtual 70, 3) := by decide +kernel
theorem d_Lw_law_489 : decode M_Lw_law.2.1 489 = .ok (.aload_n 2, 1) := by decide +kernel
theorem d_Lw_law_490 : decode M_Lw_law.2.1 490 = .ok (.invokevirtual 73, 3) := by decide +kernel
theorem d_Lw_law_493 : decode M_Lw_law.2.1 493 = .ok (.if_icmp .eq 259, 3) := by decide +kernel
theorem d_Lw_law_496 : decode M_Lw_law.2.1 496 = .ok (.iconst 0, 1) := by decide +kernel
theorem d_Lw_law_497 : decode M_Lw_law.2.1 497 = .ok (.ireturn, 1) := by decide +kernel
theorem d_Lw_law_498 : decode M_Lw_law.2.1 498 = .ok (.aload_n 1, 1) := by decide +kernel
theorem d_Lw_law_499 : decode M_Lw_law.2.1 499 = .ok (.aload_n 0, 1) := by decide +kernel
theorem d_Lw_law_500 : decode M_Lw_law.2.1 500 = .ok (.iload_n 3, 1) := by decide +kernel
theorem d_Lw_law_501 : decode M_Lw_law.2.1 501 = .ok (.iconst 1, 1) := by decide +kernel
theorem d_Lw_law_502 : decode M_Lw_law.2.1 502 = .ok (.iadd, 1) := by decide +kernel
theorem d_Lw_law_503 : decode M_Lw_law.2.1 503 = .ok (.iaload, 1) := by decide +kernel
theorem d_Lw_law_504 : decode M_Lw_law.2.1 504 = .ok (.aload_n 0, 1) := by decide +kernel
theorem d_Lw_law_505 : decode M_Lw_law.2.1 505 = .ok (.iload_n 3, 1) := by decide +kernel
theorem d_Lw_law_506 : decode M_Lw_law.2.1 506 = .ok (.iconst 2, 1) := by decide +kernel
theorem d_Lw_law_507 : decode M_Lw_law.2.1 507 = .ok (.iadd, 1) := by decide +kernel
theorem d_Lw_law_508 : decode M_Lw_law.2.1 508 = .ok (.iaload, 1) := by decide +kernel
theorem d_Lw_law_509 : decode M_Lw_law.2.1 509 = .ok (.invokevirtual 74, 3) := by decide +kernel
theorem d_Lw_law_512 : decode M_Lw_law.2.1 512 = .ok (.aload_n 2, 1) := by decide +kernel
theorem d_Lw_law_513 : decode M_Lw_law.2.1 513 = .ok (.aload_n 0, 1) := by decide +kernel
theorem d_Lw_law_514 : decode M_Lw_law.2.1 514 = .ok (.iload_n 3, 1) := by decide +kernel
theorem d_Lw_law_515 : decode M_Lw_law.2.1 515 = .ok (.iconst 1, 1) := by decide +kernel
theorem d_Lw_law_516 : decode M_Lw_law.2.1 516 = .ok (.iadd, 1) := by decide +kernel
theorem d_Lw_law_517 : decode M_Lw_law.2.1 517 = .ok (.iaload, 1) := by decide +kernel
theorem d_Lw_law_518 : decode M_Lw_law.2.1 518 = .ok (.aload_n 0, 1) := by decide +kernel
theorem d_Lw_law_519 : decode M_Lw_law.2.1 519 = .ok (.iload_n 3, 1) := by decide +kernel
theorem d_Lw_law_520 : decode M_Lw_law.2.1 520 = .ok (.iconst 2, 1) := by decide +kernel
theorem d_Lw_law_521 : decode M_Lw_law.2.1 521 = .ok (.iadd, 1) := by decide +kernel
theorem d_Lw_law_522 : decode M_Lw_law.2.1 522 = .ok (.iaload, 1) := by decide +kernel
theorem d_Lw_law_523 : decode M_Lw_law.2.1 523 = .ok (.invokevirtual 77, 3) := by decide +kernel
theorem d_Lw_law_526 : decode M_Lw_law.2.1 526 = .ok (.if_icmp .eq 226, 3) := by decide +kernel
theorem d_Lw_law_529 : decode M_Lw_law.2.1 529 = .ok (.iconst 0, 1) := by decide +kernel
theorem d_Lw_law_530 : decode M_Lw_law.2.1 530 = .ok (.ireturn, 1) := by decide +kernel
theorem d_Lw_law_531 : decode M_Lw_law.2.1 531 = .ok (.aload_n 1, 1) := by decide +kernel
theorem d_Lw_law_532 : decode M_Lw_law.2.1 532 = .ok (.aload_n 0, 1) := by decide +kernel
theorem d_Lw_law_533 : decode M_Lw_law.2.1 533 = .ok (.iload_n 3, 1) := by decide +kernel
theorem d_Lw_law_534 : decode M_Lw_law.2.1 534 = .ok (.iconst 1, 1) := by decide +kernel
theorem d_Lw_law_535 : decode M_Lw_law.2.1 535 = .ok (.iadd, 1) := by decide +kernel
theorem d_Lw_law_536 : decode M_Lw_law.2.1 536 = .ok (.iaload, 1) := by decide +kernel
theorem d_Lw_law_537 : decode M_Lw_law.2.1 537 = .ok (.aload_n 0, 1) := by decide +kernel
theorem d_Lw_law_538 : decode M_Lw_law.2.1 538 = .ok (.iload_n 3, 1) := by decide +kernel
theorem d_Lw_law_539 : decode M_Lw_law.2.1 539 = .ok (.iconst 2, 1) := by decide +kernel
theorem d_Lw_law_540 : decode M_Lw_law.2.1 540 = .ok (.iadd, 1) := by decide +kernel
theorem d_Lw_law_541 : decode M_Lw_law.2.1 541 = .ok (.iaload, 1) := by decide +kernel
theorem d_Lw_law_542 : decode M_Lw_law.2.1 542 = .ok (.aload_n 0, 1) := by decide +kernel
theorem d_Lw_law_543 : decode M_Lw_law.2.1 543 = .ok (.iload_n 3, 1) := by decide +kernel
theorem d_Lw_law_544 : decode M_Lw_law.2.1 544 = .ok (.iconst 3, 1) := by decide +kernel
theorem d_Lw_law_545 : decode M_Lw_law.2.1 545 = .ok (.iadd, 1) := by decide +kernel
theorem d_Lw_law_546 : decode M_Lw_law.2.1 546 = .ok (.iaload, 1) := by decide +kernel
theorem d_Lw_law_547 : decode M_Lw_law.2.1 547 = .ok (.invokevirtual 78, 3) := by decide +kernel
theorem d_Lw_law_550 : decode M_Lw_law.2.1 550 = .ok (.aload_n 2, 1) := by decide +kernel
theorem d_Lw_law_551 : decode M_Lw_law.2.1 551 = .ok (.aload_n 0, 1) := by decide +kernel
theorem d_Lw_law_552 : decode M_Lw_law.2.1 552 = .ok (.iload_n 3, 1) := by decide +kernel
theorem d_Lw_law_553 : decode M_Lw_law.2.1 553 = .ok (.iconst 1, 1) := by decide +kernel
theorem d_Lw_law_554 : decode M_Lw_law.2.1 554 = .ok (.iadd, 1) := by decide +kernel
theorem d_Lw_law_555 : decode M_Lw_law.2.1 555 = .ok (.iaload, 1) := by decide +kernel
theorem d_Lw_law_556 : decode M_Lw_law.2.1 556 = .ok (.aload_n 0, 1) := by decide +kernel
theorem d_Lw_law_557 : decode M_Lw_law.2.1 557 = .ok (.iload_n 3, 1) := by decide +kernel
theorem d_Lw_law_558 : decode M_Lw_law.2.1 558 = .ok (.iconst 2, 1) := by decide +kernel
theorem d_Lw_law_559 : decode M_Lw_law.2.1 559 = .ok (.iadd, 1) := by decide +kernel
theorem d_Lw_law_560 : decode M_Lw_law.2.1 560 = .ok (.iaload, 1) := by decide +kernel
theorem d_Lw_law_561 : decode M_Lw_law.2.1 561 = .ok (.aload_n 0, 1) := by decide +kernel
theorem d_Lw_law_562 : decode M_Lw_law.2.1 562 = .ok (.iload_n 3, 1) := by decide +kernel
theorem d_Lw_law_563 : decode M_Lw_law.2.1 563 = .ok (.iconst 3, 1) := by decide +kernel
theorem d_Lw_law_564 : decode M_Lw_law.2.1 564 = .ok (.iadd, 1) := by decide +kernel
theorem d_Lw_law_565 : decode M_Lw_law.2.1 565 = .ok (.iaload, 1) := by decide +kernel
theorem d_Lw_law_566 : decode M_Lw_law.2.1 566 = .ok (.invokevirtual 82, 3) := by decide +kernel
theorem d_Lw_law_569 : decode M_Lw_law.2.1 569 = .ok (.if_icmp .eq 183, 3) := by decide +kernel
theorem d_Lw_law_572 : decode M_Lw_law.2.1 572 = .ok (.iconst 0, 1) := by decide +kernel
theorem d_Lw_law_573 : decode M_Lw_law.2.1 573 = .ok (.ireturn, 1) := by decide +kernel
theorem d_Lw_law_574 : decode M_Lw_law.2.1 574 = .ok (.aload_n 1, 1) := by decide +kernel
theorem d_Lw_law_575 : decode M_Lw_law.2.1 575 = .ok (.aload_n 0, 1) := by decide +kernel
theorem d_Lw_law_576 : decode M_Lw_law.2.1 576 = .ok (.iload_n 3, 1) := by decide +kernel
theorem d_Lw_law_577 : decode M_Lw_law.2.1 577 = .ok (.iconst 1, 1) := by decide +kernel
theorem d_Lw_law_578 : decode M_Lw_law.2.1 578 = .ok (.iadd, 1) := by decide +kernel
theorem d_Lw_law_579 : decode M_Lw_law.2.1 579 = .ok (.iaload, 1) := by decide +kernel
theorem d_Lw_law_580 : decode M_Lw_law.2.1 580 = .ok (.invokevirtual 83, 3) := by decide +kernel
theorem d_Lw_law_583 : decode M_Lw_law.2.1 583 = .ok (.aload_n 2, 1) := by decide +kernel
theorem d_Lw_law_584 : decode M_Lw_law.2.1 584 = .ok (.aload_n 0, 1) := by decide +kernel
theorem d_Lw_law_585 : decode M_Lw_law.2.1 585 = .ok (.iload_n 3, 1) := by decide +kernel
theorem d_Lw_law_586 : decode M_Lw_law.2.1 586 = .ok (.iconst 1, 1) := by decide +kernel
theorem d_Lw_law_587 : decode M_Lw_law.2.1 587 = .ok (.iadd, 1) := by decide +kernel
theorem d_Lw_law_588 : decode M_Lw_law.2.1 588 = .ok (.iaload, 1) := by decide +kernel
theorem d_Lw_law_589 : decode M_Lw_law.2.1 589 = .ok (.invokevirtual 87, 3) := by decide +kernel
theorem d_Lw_law_592 : decode M_Lw_law.2.1 592 = .ok (.if_icmp .eq 160, 3) := by decide +kernel
theorem d_Lw_law_595 : decode M_Lw_law.2.1 595 = .ok (.iconst 0, 1) := by decide +kernel
theorem d_Lw_law_596 : decode M_Lw_law.2.1 596 = .ok (.ireturn, 1) := by decide +kernel
theorem d_Lw_law_597 : decode M_Lw_law.2.1 597 = .ok (.aload_n 1, 1) := by decide +kernel
theorem d_Lw_law_598 : decode M_Lw_law.2.1 598 = .ok (.aload_n 0, 1) := by decide +kernel
theorem d_Lw_law_599 : decode M_Lw_law.2.1 599 = .ok (.iload_n 3, 1) := by decide +kernel
theorem d_Lw_law_600 : decode M_Lw_law.2.1 600 = .ok (.iconst 1, 1) := by decide +kernel
theorem d_Lw_law_601 : decode M_Lw_law.2.1 601 = .ok (.iadd, 1) := by decide +kernel
theorem d_Lw_law_602 : decode M_Lw_law.2.1 602 = .ok (.iaload, 1) := by decide +kernel
theorem d_Lw_law_603 : decode M_Lw_law.2.1 603 = .ok (.aload_n 0, 1) := by decide +kernel
theorem d_Lw_law_604 : decode M_Lw_law.2.1 604 = .ok (.iload_n 3, 1) := by decide +kernel
theorem d_Lw_law_605 : decode M_Lw_law.2.1 605 = .ok (.iconst 2, 1) := by decide +kernel
theorem d_Lw_law_606 : decode M_Lw_law.2.1 606 = .ok (.iadd, 1) := by decide +kernel
theorem d_Lw_law_607 : decode M_Lw_law.2.1 607 = .ok (.iaload, 1) := by decide +kernel
theorem d_Lw_law_608 : decode M_Lw_law.2.1 608 = .ok (.invokevirtual 88, 3) := by decide +kernel
theorem d_Lw_law_611 : decode M_Lw_law.2.1 611 = .ok (.aload_n 2, 1) := by decide +kernel
theorem d_Lw_law_612 : decode M_Lw_law.2.1 612 = .ok (.aload_n 0, 1) := by decide +kernel
theorem d_Lw_law_613 : decode M_Lw_law.2.1 613 = .ok (.iload_n 3, 1) := by decide +kernel
theorem d_Lw_law_614 : decode M_Lw_law.2.1 614 = .ok (.iconst 1, 1) := by decide +kernel
theorem d_Lw_law_615 : decode M_Lw_law.2.1 615 = .ok (.iadd, 1) := by decide +kernel
theorem d_Lw_law_616 : decode M_Lw_law.2.1 616 = .ok (.iaload, 1) := by decide +kernel
theorem d_Lw_law_617 : decode M_Lw_law.2.1 617 = .ok (.aload_n 0, 1) := by decide +kernel
theorem d_Lw_law_618 : decode M_Lw_law.2.1 618 = .ok (.iload_n 3, 1) := by decide +kernel
theorem d_Lw_law_619 : decode M_Lw_law.2.1 619 = .ok (.iconst 2, 1) := by decide +kernel
theorem d_Lw_law_620 : decode M_Lw_law.2.1 620 = .ok (.iadd, 1) := by decide +kernel
theorem d_Lw_law_621 : decode M_Lw_law.2.1 621 = .ok (.iaload, 1) := by decide +kernel
theorem d_Lw_law_622 : decode M_Lw_law.2.1 622 = .ok (.invokevirtual 92, 3) := by decide +kernel
theorem d_Lw_law_625 : decode M_Lw_law.2.1 625 = .ok (.if_icmp .eq 127, 3) := by decide +kernel
theorem d_Lw_law_628 : decode M_Lw_law.2.1 628 = .ok (.iconst 0, 1) := by decide +kernel
theorem d_Lw_law_629 : decode M_Lw_law.2.1 629 = .ok (.ireturn, 1) := by decide +kernel
theorem d_Lw_law_630 : decode M_Lw_law.2.1 630 = .ok (.aload_n 1, 1) := by decide +kernel
theorem d_Lw_law_631 : decode M_Lw_law.2.1 631 = .ok (.aload_n 0, 1) := by decide +kernel
theorem d_Lw_law_632 : decode M_Lw_law.2.1 632 = .ok (.iload_n 3, 1) := by decide +kernel
theorem d_Lw_law_633 : decode M_Lw_law.2.1 633 = .ok (.iconst 1, 1) := by decide +kernel
theorem d_Lw_law_634 : decode M_Lw_law.2.1 634 = .ok (.iadd, 1) := by decide +kernel
theorem d_Lw_law_635 : decode M_Lw_law.2.1 635 = .ok (.iaload, 1) := by decide +kernel
theorem d_Lw_law_636 : decode M_Lw_law.2.1 636 = .ok (.aload_n 0, 1) := by decide +kernel
theorem d_Lw_law_637 : decode M_Lw_law.2.1 637 = .ok (.iload_n 3, 1) := by decide +kernel
theorem d_Lw_law_638 : decode M_Lw_law.2.1 638 = .ok (.iconst 2, 1) := by decide +kernel
theorem d_Lw_law_639 : decode M_Lw_law.2.1 639 = .ok (.iadd, 1) := by decide +kernel
theorem d_Lw_law_640 : decode M_Lw_law.2.1 640 = .ok (.iaload, 1) := by decide +kernel
theorem d_Lw_law_641 : decode M_Lw_law.2.1 641 = .ok (.aload_n 0, 1) := by decide +kernel
theorem d_Lw_law_642 : decode M_Lw_law.2.1 642 = .ok (.iload_n 3, 1) := by decide +kernel
theorem d_Lw_law_643 : decode M_Lw_law.2.1 643 = .ok (.iconst 3, 1) := by decide +kernel
theorem d_Lw_law_644 : decode M_Lw_law.2.1 644 = .ok (.iadd, 1) := by decide +kernel
theorem d_Lw_law_645 : decode M_Lw_law.2.1 645 = .ok (.iaload, 1) := by decide +kernel
theorem d_Lw_law_646 : decode M_Lw_law.2.1 646 = .ok (.invokevirtual 93, 3) := by decide +kernel
theorem d_Lw_law_649 : decode M_Lw_law.2.1 649 = .ok (.aload_n 2, 1) := by decide +kernel
theorem d_Lw_law_650 : decode M_Lw_law.2.1 650 = .ok (.aload_n 0, 1) := by decide +kernel
theorem d_Lw_law_651 : decode M_Lw_law.2.1 651 = .ok (.iload_n 3, 1) := by decide +kernel
theorem d_Lw_law_652 : decode M_Lw_law.2.1 652 = .ok (.iconst 1, 1) := by decide +kernel
theorem d_Lw_law_653 : decode M_Lw_law.2.1 653 = .ok (.iadd, 1) := by decide +kernel
theorem d_Lw_law_654 : decode M_Lw_law.2.1 654 = .ok (.iaload, 1) := by decide +kernel
theorem d_Lw_law_655 : decode M_Lw_law.2.1 655 = .ok (.aload_n 0, 1) := by decide +kernel
theorem d_Lw_law_656 : decode M_Lw_law.2.1 656 = .ok (.iload_n 3, 1) := by decide +kernel
theorem d_Lw_law_657 : decode M_Lw_law.2.1 657 = .ok (.iconst 2, 1) := by decide +kernel
theorem d_Lw_law_658 : decode M_Lw_law.2.1 658 = .ok (.iadd, 1) := by decide +kernel
theorem d_Lw_law_659 : decode M_Lw_law.2.1 659 = .ok (.iaload, 1) := by decide +kernel
theorem d_Lw_law_660 : decode M_Lw_law.2.1 660 = .ok (.aload_n 0, 1) := by decide +kernel
theorem d_Lw_law_661 : decode M_Lw_law.2.1 661 = .ok (.iload_n 3, 1) := by decide +kernel
theorem d_Lw_law_662 : decode M_Lw_law.2.1 662 = .ok (.iconst 3, 1) := by decide +kernel
theorem d_Lw_law_663 : decode M_Lw_law.2.1 663 = .ok (.iadd, 1) := by decide +kernel
theorem d_Lw_law_664 : decode M_Lw_law.2.1 664 = .ok (.iaload, 1) := by decide +kernel
theorem d_Lw_law_665 : decode M_Lw_law.2.1 665 = .ok (.invokevirtual 96, 3) := by decide +kernel
theorem d_Lw_law_668 : decode M_Lw_law.2.1 668 = .ok (.if_icmp .eq 84, 3) := by decide +kernel
theorem d_Lw_law_671 : decode M_Lw_law.2.1 671 = .ok (.iconst 0, 1) := by decide +kernel
theorem d_Lw_law_672 : decode M_Lw_law.2.1 672 = .ok (.ireturn, 1) := by decide +kernel
theorem d_Lw_law_673 : decode M_Lw_law.2.1 673 = .ok (.aload_n 1, 1) := by decide +kernel
theorem d_Lw_law_674 : decode M_Lw_law.2.1 674 = .ok (.aload_n 0, 1) := by decide +kernel
theorem d_Lw_law_675 : decode M_Lw_law.2.1 675 = .ok (.iload_n 3, 1) := by decide +kernel
theorem d_Lw_law_676 : decode M_Lw_law.2.1 676 = .ok (.iconst 1, 1) := by decide +kernel
theorem d_Lw_law_677 : decode M_Lw_law.2.1 677 = .ok (.iadd, 1) := by decide +kernel
theorem d_Lw_law_678 : decode M_Lw_law.2.1 678 = .ok (.iaload, 1) := by decide +kernel
theorem d_Lw_law_679 : decode M_Lw_law.2.1 679 = .ok (.invokevirtual 97, 3) := by decide +kernel
theorem d_Lw_law_682 : decode M_Lw_law.2.1 682 = .ok (.aload_n 2, 1) := by decide +kernel
theorem d_Lw_law_683 : decode M_Lw_law.2.1 683 = .ok (.aload_n 0, 1) := by decide +kernel
theorem d_Lw_law_684 : decode M_Lw_law.2.1 684 = .ok (.iload_n 3, 1) := by decide +kernel
theorem d_Lw_law_685 : decode M_Lw_law.2.1 685 = .ok (.iconst 1, 1) := by decide +kernel
theorem d_Lw_law_686 : decode M_Lw_law.2.1 686 = .ok (.iadd, 1) := by decide +kernel
theorem d_Lw_law_687 : decode M_Lw_law.2.1 687 = .ok (.iaload, 1) := by decide +kernel
theorem d_Lw_law_688 : decode M_Lw_law.2.1 688 = .ok (.invokevirtual 100, 3) := by decide +kernel
theorem d_Lw_law_691 : decode M_Lw_law.2.1 691 = .ok (.if_icmp .eq 61, 3) := by decide +kernel
theorem d_Lw_law_694 : decode M_Lw_law.2.1 694 = .ok (.iconst 0, 1) := by decide +kernel
theorem d_Lw_law_695 : decode M_Lw_law.2.1 695 = .ok (.ireturn, 1) := by decide +kernel
theorem d_Lw_law_696 : decode M_Lw_law.2.1 696 = .ok (.aload_n 1, 1) := by decide +kernel
theorem d_Lw_law_697 : decode M_Lw_law.2.1 697 = .ok (.aload_n 0, 1) := by decide +kernel
theorem d_Lw_law_698 : decode M_Lw_law.2.1 698 = .ok (.iload_n 3, 1) := by decide +kernel
theorem d_Lw_law_699 : decode M_Lw_law.2.1 699 = .ok (.iconst 1, 1) := by decide +kernel
theorem d_Lw_law_700 : decode M_Lw_law.2.1 700 = .ok (.iadd, 1) := by decide +kernel
theorem d_Lw_law_701 : decode M_Lw_law.2.1 701 = .ok (.iaload, 1) := by decide +kernel
theorem d_Lw_law_702 : decode M_Lw_law.2.1 702 = .ok (.invokevirtual 101, 3) := by decide +kernel
theorem d_Lw_law_705 : decode M_Lw_law.2.1 705 = .ok (.aload_n 2, 1) := by decide +kernel
theorem d_Lw_law_706 : decode M_Lw_law.2.1 706 = .ok (.aload_n 0, 1) := by decide +kernel
theorem d_Lw_law_707 : decode M_Lw_law.2.1 707 = .ok (.iload_n 3, 1) := by decide +kernel
theorem d_Lw_law_708 : decode M_Lw_law.2.1 708 = .ok (.iconst 1, 1) := by decide +kernel
theorem d_Lw_law_709 : decode M_Lw_law.2.1 709 = .ok (.iadd, 1) := by decide +kernel
theorem d_Lw_law_710 : decode M_Lw_law.2.1 710 = .ok (.iaload, 1) := by decide +kernel
theorem d_Lw_law_711 : decode M_Lw_law.2.1 711 = .ok (.invokevirtual 104, 3) := by decide +kernel
theorem d_Lw_law_714 : decode M_Lw_law.2.1 714 = .ok (.if_icmp .eq 38, 3) := by decide +kernel
theorem d_Lw_law_717 : decode M_Lw_law.2.1 717 = .ok (.iconst 0, 1) := by decide +kernel
theorem d_Lw_law_718 : decode M_Lw_law.2.1 718 = .ok (.ireturn, 1) := by decide +kernel
theorem d_Lw_law_719 : decode M_Lw_law.2.1 719 = .ok (.aload_n 1, 1) := by decide +kernel
theorem d_Lw_law_720 : decode M_Lw_law.2.1 720 = .ok (.aload_n 0, 1) := by decide +kernel
theorem d_Lw_law_721 : decode M_Lw_law.2.1 721 = .ok (.iload_n 3, 1) := by decide +kernel
theorem d_Lw_law_722 : decode M_Lw_law.2.1 722 = .ok (.iconst 1, 1) := by decide +kernel
theorem d_Lw_law_723 : decode M_Lw_law.2.1 723 = .ok (.iadd, 1) := by decide +kernel
theorem d_Lw_law_724 : decode M_Lw_law.2.1 724 = .ok (.iaload, 1) := by decide +kernel
theorem d_Lw_law_725 : decode M_Lw_law.2.1 725 = .ok (.aload_n 0, 1) := by decide +kernel
theorem d_Lw_law_726 : decode M_Lw_law.2.1 726 = .ok (.iload_n 3, 1) := by decide +kernel
theorem d_Lw_law_727 : decode M_Lw_law.2.1 727 = .ok (.iconst 2, 1) := by decide +kernel
theorem d_Lw_law_728 : decode M_Lw_law.2.1 728 = .ok (.iadd, 1) := by decide +kernel
theorem d_Lw_law_729 : decode M_Lw_law.2.1 729 = .ok (.iaload, 1) := by decide +kernel
theorem d_Lw_law_730 : decode M_Lw_law.2.1 730 = .ok (.invokevirtual 105, 3) := by decide +kernel
theorem d_Lw_law_733 : decode M_Lw_law.2.1 733 = .ok (.aload_n 2, 1) := by decide +kernel
theorem d_Lw_law_734 : decode M_Lw_law.2.1 734 = .ok (.aload_n 0, 1) := by decide +kernel
theorem d_Lw_law_735 : decode M_Lw_law.2.1 735 = .ok (.iload_n 3, 1) := by decide +kernel
theorem d_Lw_law_736 : decode M_Lw_law.2.1 736 = .ok (.iconst 1, 1) := by decide +kernel
theorem d_Lw_law_737 : decode M_Lw_law.2.1 737 = .ok (.iadd, 1) := by decide +kernel
theorem d_Lw_law_738 : decode M_Lw_law.2.1 738 = .ok (.iaload, 1) := by decide +kernel
theorem d_Lw_law_739 : decode M_Lw_law.2.1 739 = .ok (.aload_n 0, 1) := by decide +kernel
theorem d_Lw_law_740 : decode M_Lw_law.2.1 740 = .ok (.iload_n 3, 1) := by decide +kernel
theorem d_Lw_law_741 : decode M_Lw_law.2.1 741 = .ok (.iconst 2, 1) := by decide +kernel
theorem d_Lw_law_742 : decode M_Lw_law.2.1 742 = .ok (.iadd, 1) := by decide +kernel
theorem d_Lw_law_743 : decode M_Lw_law.2.1 743 = .ok (.iaload, 1) := by decide +kernel
theorem d_Lw_law_744 : decode M_Lw_law.2.1 744 = .ok (.invokevirtual 108, 3) := by decide +kernel
theorem d_Lw_law_747 : decode M_Lw_law.2.1 747 = .ok (.if_icmp .eq 5, 3) := by decide +kernel
theorem d_Lw_law_750 : decode M_Lw_law.2.1 750 = .ok (.iconst 0, 1) := by decide +kernel
theorem d_Lw_law_751 : decode M_Lw_law.2.1 751 = .ok (.ireturn, 1) := by decide +kernel
theorem d_Lw_law_752 : decode M_Lw_law.2.1 752 = .ok (.iinc 3 5, 3) := by decide +kernel
theorem d_Lw_law_755 : decode M_Lw_law.2.1 755 = .ok (.goto (-727), 3) := by decide +kernel
theorem d_Lw_law_758 : decode M_Lw_law.2.1 758 = .ok (.iconst 1, 1) := by decide +kernel
theorem d_Lw_law_759 : decode M_Lw_law.2.1 759 = .ok (.ireturn, 1) := by decide +kernel
