theorem dXL_cell_0 : decode cXL_cell 0 = .ok (.iload_n 1, 1) := by decide +kernel
theorem dXL_cell_1 : decode cXL_cell 1 = .ok (.aload_n 0, 1) := by decide +kernel
theorem dXL_cell_2 : decode cXL_cell 2 = .ok (.arraylength, 1) := by decide +kernel
theorem dXL_cell_3 : decode cXL_cell 3 = .ok (.if_icmp .ge 9, 3) := by decide +kernel
theorem dXL_cell_6 : decode cXL_cell 6 = .ok (.aload_n 0, 1) := by decide +kernel
theorem dXL_cell_7 : decode cXL_cell 7 = .ok (.iload_n 1, 1) := by decide +kernel
theorem dXL_cell_8 : decode cXL_cell 8 = .ok (.iaload, 1) := by decide +kernel
theorem dXL_cell_9 : decode cXL_cell 9 = .ok (.goto 4, 3) := by decide +kernel
theorem dXL_cell_12 : decode cXL_cell 12 = .ok (.iconst 0, 1) := by decide +kernel
theorem dXL_cell_13 : decode cXL_cell 13 = .ok (.ireturn, 1) := by decide +kernel
theorem dXL_law_0 : decode cXL_law 0 = .ok (.new 7, 3) := by decide +kernel
theorem dXL_law_3 : decode cXL_law 3 = .ok (.dup, 1) := by decide +kernel
theorem dXL_law_4 : decode cXL_law 4 = .ok (.aload_n 0, 1) := by decide +kernel
theorem dXL_law_5 : decode cXL_law 5 = .ok (.iconst 0, 1) := by decide +kernel
theorem dXL_law_6 : decode cXL_law 6 = .ok (.invokestatic 9, 3) := by decide +kernel
theorem dXL_law_9 : decode cXL_law 9 = .ok (.aload_n 0, 1) := by decide +kernel
theorem dXL_law_10 : decode cXL_law 10 = .ok (.iconst 1, 1) := by decide +kernel
theorem dXL_law_11 : decode cXL_law 11 = .ok (.invokestatic 9, 3) := by decide +kernel
theorem dXL_law_14 : decode cXL_law 14 = .ok (.invokespecial 15, 3) := by decide +kernel
theorem dXL_law_17 : decode cXL_law 17 = .ok (.astore_n 1, 1) := by decide +kernel
theorem dXL_law_18 : decode cXL_law 18 = .ok (.new 18, 3) := by decide +kernel
theorem dXL_law_21 : decode cXL_law 21 = .ok (.dup, 1) := by decide +kernel
theorem dXL_law_22 : decode cXL_law 22 = .ok (.aload_n 0, 1) := by decide +kernel
theorem dXL_law_23 : decode cXL_law 23 = .ok (.iconst 0, 1) := by decide +kernel
theorem dXL_law_24 : decode cXL_law 24 = .ok (.invokestatic 9, 3) := by decide +kernel
theorem dXL_law_27 : decode cXL_law 27 = .ok (.aload_n 0, 1) := by decide +kernel
theorem dXL_law_28 : decode cXL_law 28 = .ok (.iconst 1, 1) := by decide +kernel
theorem dXL_law_29 : decode cXL_law 29 = .ok (.invokestatic 9, 3) := by decide +kernel
theorem dXL_law_32 : decode cXL_law 32 = .ok (.invokespecial 20, 3) := by decide +kernel
theorem dXL_law_35 : decode cXL_law 35 = .ok (.astore_n 2, 1) := by decide +kernel
theorem dXL_law_36 : decode cXL_law 36 = .ok (.iconst 2, 1) := by decide +kernel
theorem dXL_law_37 : decode cXL_law 37 = .ok (.istore_n 3, 1) := by decide +kernel
theorem dXL_law_38 : decode cXL_law 38 = .ok (.iload_n 3, 1) := by decide +kernel
theorem dXL_law_39 : decode cXL_law 39 = .ok (.aload_n 0, 1) := by decide +kernel
theorem dXL_law_40 : decode cXL_law 40 = .ok (.arraylength, 1) := by decide +kernel
theorem dXL_law_41 : decode cXL_law 41 = .ok (.bipush 6, 2) := by decide +kernel
theorem dXL_law_43 : decode cXL_law 43 = .ok (.isub, 1) := by decide +kernel
theorem dXL_law_44 : decode cXL_law 44 = .ok (.if_icmp .gt 498, 3) := by decide +kernel
theorem dXL_law_47 : decode cXL_law 47 = .ok (.aload_n 0, 1) := by decide +kernel
theorem dXL_law_48 : decode cXL_law 48 = .ok (.iload_n 3, 1) := by decide +kernel
theorem dXL_law_49 : decode cXL_law 49 = .ok (.iaload, 1) := by decide +kernel
theorem dXL_law_50 : decode cXL_law 50 = .ok (.bipush 15, 2) := by decide +kernel
theorem dXL_law_52 : decode cXL_law 52 = .ok (.iand, 1) := by decide +kernel
theorem dXL_law_53 : decode cXL_law 53 = .ok (.tableswitch 483 0 13 #[71, 134, 177, 230, 263, 296, 329, 352, 365, 378, 391, 404, 427, 450], 71) := by decide +kernel
theorem dXL_law_124 : decode cXL_law 124 = .ok (.aload_n 1, 1) := by decide +kernel
theorem dXL_law_125 : decode cXL_law 125 = .ok (.aload_n 0, 1) := by decide +kernel
theorem dXL_law_126 : decode cXL_law 126 = .ok (.iload_n 3, 1) := by decide +kernel
theorem dXL_law_127 : decode cXL_law 127 = .ok (.iconst 1, 1) := by decide +kernel
theorem dXL_law_128 : decode cXL_law 128 = .ok (.iadd, 1) := by decide +kernel
theorem dXL_law_129 : decode cXL_law 129 = .ok (.iaload, 1) := by decide +kernel
theorem dXL_law_130 : decode cXL_law 130 = .ok (.aload_n 0, 1) := by decide +kernel
theorem dXL_law_131 : decode cXL_law 131 = .ok (.iload_n 3, 1) := by decide +kernel
theorem dXL_law_132 : decode cXL_law 132 = .ok (.iconst 2, 1) := by decide +kernel
theorem dXL_law_133 : decode cXL_law 133 = .ok (.iadd, 1) := by decide +kernel
theorem dXL_law_134 : decode cXL_law 134 = .ok (.iaload, 1) := by decide +kernel
theorem dXL_law_135 : decode cXL_law 135 = .ok (.aload_n 0, 1) := by decide +kernel
theorem dXL_law_136 : decode cXL_law 136 = .ok (.iload_n 3, 1) := by decide +kernel
theorem dXL_law_137 : decode cXL_law 137 = .ok (.iconst 3, 1) := by decide +kernel
theorem dXL_law_138 : decode cXL_law 138 = .ok (.iadd, 1) := by decide +kernel
theorem dXL_law_139 : decode cXL_law 139 = .ok (.iaload, 1) := by decide +kernel
theorem dXL_law_140 : decode cXL_law 140 = .ok (.aload_n 0, 1) := by decide +kernel
theorem dXL_law_141 : decode cXL_law 141 = .ok (.iload_n 3, 1) := by decide +kernel
theorem dXL_law_142 : decode cXL_law 142 = .ok (.iconst 4, 1) := by decide +kernel
theorem dXL_law_143 : decode cXL_law 143 = .ok (.iadd, 1) := by decide +kernel
theorem dXL_law_144 : decode cXL_law 144 = .ok (.iaload, 1) := by decide +kernel
theorem dXL_law_145 : decode cXL_law 145 = .ok (.aload_n 0, 1) := by decide +kernel
theorem dXL_law_146 : decode cXL_law 146 = .ok (.iload_n 3, 1) := by decide +kernel
theorem dXL_law_147 : decode cXL_law 147 = .ok (.iconst 5, 1) := by decide +kernel
theorem dXL_law_148 : decode cXL_law 148 = .ok (.iadd, 1) := by decide +kernel
theorem dXL_law_149 : decode cXL_law 149 = .ok (.iaload, 1) := by decide +kernel
theorem dXL_law_150 : decode cXL_law 150 = .ok (.invokevirtual 21, 3) := by decide +kernel
theorem dXL_law_153 : decode cXL_law 153 = .ok (.aload_n 2, 1) := by decide +kernel
theorem dXL_law_154 : decode cXL_law 154 = .ok (.aload_n 0, 1) := by decide +kernel
theorem dXL_law_155 : decode cXL_law 155 = .ok (.iload_n 3, 1) := by decide +kernel
theorem dXL_law_156 : decode cXL_law 156 = .ok (.iconst 1, 1) := by decide +kernel
theorem dXL_law_157 : decode cXL_law 157 = .ok (.iadd, 1) := by decide +kernel
theorem dXL_law_158 : decode cXL_law 158 = .ok (.iaload, 1) := by decide +kernel
theorem dXL_law_159 : decode cXL_law 159 = .ok (.aload_n 0, 1) := by decide +kernel
theorem dXL_law_160 : decode cXL_law 160 = .ok (.iload_n 3, 1) := by decide +kernel
theorem dXL_law_161 : decode cXL_law 161 = .ok (.iconst 2, 1) := by decide +kernel
theorem dXL_law_162 : decode cXL_law 162 = .ok (.iadd, 1) := by decide +kernel
theorem dXL_law_163 : decode cXL_law 163 = .ok (.iaload, 1) := by decide +kernel
theorem dXL_law_164 : decode cXL_law 164 = .ok (.aload_n 0, 1) := by decide +kernel
theorem dXL_law_165 : decode cXL_law 165 = .ok (.iload_n 3, 1) := by decide +kernel
theorem dXL_law_166 : decode cXL_law 166 = .ok (.iconst 3, 1) := by decide +kernel
theorem dXL_law_167 : decode cXL_law 167 = .ok (.iadd, 1) := by decide +kernel
theorem dXL_law_168 : decode cXL_law 168 = .ok (.iaload, 1) := by decide +kernel
theorem dXL_law_169 : decode cXL_law 169 = .ok (.aload_n 0, 1) := by decide +kernel
theorem dXL_law_170 : decode cXL_law 170 = .ok (.iload_n 3, 1) := by decide +kernel
theorem dXL_law_171 : decode cXL_law 171 = .ok (.iconst 4, 1) := by decide +kernel
theorem dXL_law_172 : decode cXL_law 172 = .ok (.iadd, 1) := by decide +kernel
theorem dXL_law_173 : decode cXL_law 173 = .ok (.iaload, 1) := by decide +kernel
theorem dXL_law_174 : decode cXL_law 174 = .ok (.aload_n 0, 1) := by decide +kernel
theorem dXL_law_175 : decode cXL_law 175 = .ok (.iload_n 3, 1) := by decide +kernel
theorem dXL_law_176 : decode cXL_law 176 = .ok (.iconst 5, 1) := by decide +kernel
theorem dXL_law_177 : decode cXL_law 177 = .ok (.iadd, 1) := by decide +kernel
theorem dXL_law_178 : decode cXL_law 178 = .ok (.iaload, 1) := by decide +kernel
theorem dXL_law_179 : decode cXL_law 179 = .ok (.invokevirtual 25, 3) := by decide +kernel
theorem dXL_law_182 : decode cXL_law 182 = .ok (.if_icmp .eq 354, 3) := by decide +kernel
theorem dXL_law_185 : decode cXL_law 185 = .ok (.iconst 0, 1) := by decide +kernel
theorem dXL_law_186 : decode cXL_law 186 = .ok (.ireturn, 1) := by decide +kernel
theorem dXL_law_187 : decode cXL_law 187 = .ok (.aload_n 1, 1) := by decide +kernel
theorem dXL_law_188 : decode cXL_law 188 = .ok (.aload_n 0, 1) := by decide +kernel
theorem dXL_law_189 : decode cXL_law 189 = .ok (.iload_n 3, 1) := by decide +kernel
theorem dXL_law_190 : decode cXL_law 190 = .ok (.iconst 1, 1) := by decide +kernel
theorem dXL_law_191 : decode cXL_law 191 = .ok (.iadd, 1) := by decide +kernel
theorem dXL_law_192 : decode cXL_law 192 = .ok (.iaload, 1) := by decide +kernel
theorem dXL_law_193 : decode cXL_law 193 = .ok (.aload_n 0, 1) := by decide +kernel
theorem dXL_law_194 : decode cXL_law 194 = .ok (.iload_n 3, 1) := by decide +kernel
theorem dXL_law_195 : decode cXL_law 195 = .ok (.iconst 2, 1) := by decide +kernel
theorem dXL_law_196 : decode cXL_law 196 = .ok (.iadd, 1) := by decide +kernel
theorem dXL_law_197 : decode cXL_law 197 = .ok (.iaload, 1) := by decide +kernel
theorem dXL_law_198 : decode cXL_law 198 = .ok (.aload_n 0, 1) := by decide +kernel
theorem dXL_law_199 : decode cXL_law 199 = .ok (.iload_n 3, 1) := by decide +kernel
theorem dXL_law_200 : decode cXL_law 200 = .ok (.iconst 3, 1) := by decide +kernel
theorem dXL_law_201 : decode cXL_law 201 = .ok (.iadd, 1) := by decide +kernel
theorem dXL_law_202 : decode cXL_law 202 = .ok (.iaload, 1) := by decide +kernel
theorem dXL_law_203 : decode cXL_law 203 = .ok (.invokevirtual 26, 3) := by decide +kernel
theorem dXL_law_206 : decode cXL_law 206 = .ok (.aload_n 2, 1) := by decide +kernel
theorem dXL_law_207 : decode cXL_law 207 = .ok (.aload_n 0, 1) := by decide +kernel
theorem dXL_law_208 : decode cXL_law 208 = .ok (.iload_n 3, 1) := by decide +kernel
theorem dXL_law_209 : decode cXL_law 209 = .ok (.iconst 1, 1) := by decide +kernel
theorem dXL_law_210 : decode cXL_law 210 = .ok (.iadd, 1) := by decide +kernel
theorem dXL_law_211 : decode cXL_law 211 = .ok (.iaload, 1) := by decide +kernel
theorem dXL_law_212 : decode cXL_law 212 = .ok (.aload_n 0, 1) := by decide +kernel
theorem dXL_law_213 : decode cXL_law 213 = .ok (.iload_n 3, 1) := by decide +kernel
theorem dXL_law_214 : decode cXL_law 214 = .ok (.iconst 2, 1) := by decide +kernel
theorem dXL_law_215 : decode cXL_law 215 = .ok (.iadd, 1) := by decide +kernel
theorem dXL_law_216 : decode cXL_law 216 = .ok (.iaload, 1) := by decide +kernel
theorem dXL_law_217 : decode cXL_law 217 = .ok (.aload_n 0, 1) := by decide +kernel
theorem dXL_law_218 : decode cXL_law 218 = .ok (.iload_n 3, 1) := by decide +kernel
theorem dXL_law_219 : decode cXL_law 219 = .ok (.iconst 3, 1) := by decide +kernel
theorem dXL_law_220 : decode cXL_law 220 = .ok (.iadd, 1) := by decide +kernel
theorem dXL_law_221 : decode cXL_law 221 = .ok (.iaload, 1) := by decide +kernel
theorem dXL_law_222 : decode cXL_law 222 = .ok (.invokevirtual 30, 3) := by decide +kernel
theorem dXL_law_225 : decode cXL_law 225 = .ok (.if_icmp .eq 311, 3) := by decide +kernel
theorem dXL_law_228 : decode cXL_law 228 = .ok (.iconst 0, 1) := by decide +kernel
theorem dXL_law_229 : decode cXL_law 229 = .ok (.ireturn, 1) := by decide +kernel
theorem dXL_law_230 : decode cXL_law 230 = .ok (.aload_n 1, 1) := by decide +kernel
theorem dXL_law_231 : decode cXL_law 231 = .ok (.aload_n 0, 1) := by decide +kernel
theorem dXL_law_232 : decode cXL_law 232 = .ok (.iload_n 3, 1) := by decide +kernel
theorem dXL_law_233 : decode cXL_law 233 = .ok (.iconst 1, 1) := by decide +kernel
theorem dXL_law_234 : decode cXL_law 234 = .ok (.iadd, 1) := by decide +kernel
theorem dXL_law_235 : decode cXL_law 235 = .ok (.iaload, 1) := by decide +kernel
theorem dXL_law_236 : decode cXL_law 236 = .ok (.aload_n 0, 1) := by decide +kernel
theorem dXL_law_237 : decode cXL_law 237 = .ok (.iload_n 3, 1) := by decide +kernel
theorem dXL_law_238 : decode cXL_law 238 = .ok (.iconst 2, 1) := by decide +kernel
theorem dXL_law_239 : decode cXL_law 239 = .ok (.iadd, 1) := by decide +kernel
theorem dXL_law_240 : decode cXL_law 240 = .ok (.iaload, 1) := by decide +kernel
theorem dXL_law_241 : decode cXL_law 241 = .ok (.aload_n 0, 1) := by decide +kernel
theorem dXL_law_242 : decode cXL_law 242 = .ok (.iload_n 3, 1) := by decide +kernel
theorem dXL_law_243 : decode cXL_law 243 = .ok (.iconst 3, 1) := by decide +kernel
theorem dXL_law_244 : decode cXL_law 244 = .ok (.iadd, 1) := by decide +kernel
theorem dXL_law_245 : decode cXL_law 245 = .ok (.iaload, 1) := by decide +kernel
theorem dXL_law_246 : decode cXL_law 246 = .ok (.aload_n 0, 1) := by decide +kernel
theorem dXL_law_247 : decode cXL_law 247 = .ok (.iload_n 3, 1) := by decide +kernel
theorem dXL_law_248 : decode cXL_law 248 = .ok (.iconst 4, 1) := by decide +kernel
theorem dXL_law_249 : decode cXL_law 249 = .ok (.iadd, 1) := by decide +kernel
theorem dXL_law_250 : decode cXL_law 250 = .ok (.iaload, 1) := by decide +kernel
theorem dXL_law_251 : decode cXL_law 251 = .ok (.invokevirtual 31, 3) := by decide +kernel
theorem dXL_law_254 : decode cXL_law 254 = .ok (.aload_n 2, 1) := by decide +kernel
theorem dXL_law_255 : decode cXL_law 255 = .ok (.aload_n 0, 1) := by decide +kernel
theorem dXL_law_256 : decode cXL_law 256 = .ok (.iload_n 3, 1) := by decide +kernel
theorem dXL_law_257 : decode cXL_law 257 = .ok (.iconst 1, 1) := by decide +kernel
theorem dXL_law_258 : decode cXL_law 258 = .ok (.iadd, 1) := by decide +kernel
theorem dXL_law_259 : decode cXL_law 259 = .ok (.iaload, 1) := by decide +kernel
theorem dXL_law_260 : decode cXL_law 260 = .ok (.aload_n 0, 1) := by decide +kernel
theorem dXL_law_261 : decode cXL_law 261 = .ok (.iload_n 3, 1) := by decide +kernel
theorem dXL_law_262 : decode cXL_law 262 = .ok (.iconst 2, 1) := by decide +kernel
theorem dXL_law_263 : decode cXL_law 263 = .ok (.iadd, 1) := by decide +kernel
theorem dXL_law_264 : decode cXL_law 264 = .ok (.iaload, 1) := by decide +kernel
theorem dXL_law_265 : decode cXL_law 265 = .ok (.aload_n 0, 1) := by decide +kernel
theorem dXL_law_266 : decode cXL_law 266 = .ok (.iload_n 3, 1) := by decide +kernel
theorem dXL_law_267 : decode cXL_law 267 = .ok (.iconst 3, 1) := by decide +kernel
theorem dXL_law_268 : decode cXL_law 268 = .ok (.iadd, 1) := by decide +kernel
theorem dXL_law_269 : decode cXL_law 269 = .ok (.iaload, 1) := by decide +kernel
theorem dXL_law_270 : decode cXL_law 270 = .ok (.aload_n 0, 1) := by decide +kernel
theorem dXL_law_271 : decode cXL_law 271 = .ok (.iload_n 3, 1) := by decide +kernel
theorem dXL_law_272 : decode cXL_law 272 = .ok (.iconst 4, 1) := by decide +kernel
theorem dXL_law_273 : decode cXL_law 273 = .ok (.iadd, 1) := by decide +kernel
theorem dXL_law_274 : decode cXL_law 274 = .ok (.iaload, 1) := by decide +kernel
theorem dXL_law_275 : decode cXL_law 275 = .ok (.invokevirtual 35, 3) := by decide +kernel
theorem dXL_law_278 : decode cXL_law 278 = .ok (.if_icmp .eq 258, 3) := by decide +kernel
theorem dXL_law_281 : decode cXL_law 281 = .ok (.iconst 0, 1) := by decide +kernel
theorem dXL_law_282 : decode cXL_law 282 = .ok (.ireturn, 1) := by decide +kernel
theorem dXL_law_283 : decode cXL_law 283 = .ok (.aload_n 1, 1) := by decide +kernel
theorem dXL_law_284 : decode cXL_law 284 = .ok (.aload_n 0, 1) := by decide +kernel
theorem dXL_law_285 : decode cXL_law 285 = .ok (.iload_n 3, 1) := by decide +kernel
theorem dXL_law_286 : decode cXL_law 286 = .ok (.iconst 1, 1) := by decide +kernel
theorem dXL_law_287 : decode cXL_law 287 = .ok (.iadd, 1) := by decide +kernel
theorem dXL_law_288 : decode cXL_law 288 = .ok (.iaload, 1) := by decide +kernel
theorem dXL_law_289 : decode cXL_law 289 = .ok (.aload_n 0, 1) := by decide +kernel
theorem dXL_law_290 : decode cXL_law 290 = .ok (.iload_n 3, 1) := by decide +kernel
theorem dXL_law_291 : decode cXL_law 291 = .ok (.iconst 2, 1) := by decide +kernel
theorem dXL_law_292 : decode cXL_law 292 = .ok (.iadd, 1) := by decide +kernel
theorem dXL_law_293 : decode cXL_law 293 = .ok (.iaload, 1) := by decide +kernel
theorem dXL_law_294 : decode cXL_law 294 = .ok (.invokevirtual 36, 3) := by decide +kernel
theorem dXL_law_297 : decode cXL_law 297 = .ok (.aload_n 2, 1) := by decide +kernel
theorem dXL_law_298 : decode cXL_law 298 = .ok (.aload_n 0, 1) := by decide +kernel
theorem dXL_law_299 : decode cXL_law 299 = .ok (.iload_n 3, 1) := by decide +kernel
theorem dXL_law_300 : decode cXL_law 300 = .ok (.iconst 1, 1) := by decide +kernel
theorem dXL_law_301 : decode cXL_law 301 = .ok (.iadd, 1) := by decide +kernel
theorem dXL_law_302 : decode cXL_law 302 = .ok (.iaload, 1) := by decide +kernel
theorem dXL_law_303 : decode cXL_law 303 = .ok (.aload_n 0, 1) := by decide +kernel
theorem dXL_law_304 : decode cXL_law 304 = .ok (.iload_n 3, 1) := by decide +kernel
theorem dXL_law_305 : decode cXL_law 305 = .ok (.iconst 2, 1) := by decide +kernel
theorem dXL_law_306 : decode cXL_law 306 = .ok (.iadd, 1) := by decide +kernel
theorem dXL_law_307 : decode cXL_law 307 = .ok (.iaload, 1) := by decide +kernel
theorem dXL_law_308 : decode cXL_law 308 = .ok (.invokevirtual 40, 3) := by decide +kernel
theorem dXL_law_311 : decode cXL_law 311 = .ok (.if_icmp .eq 225, 3) := by decide +kernel
theorem dXL_law_314 : decode cXL_law 314 = .ok (.iconst 0, 1) := by decide +kernel
theorem dXL_law_315 : decode cXL_law 315 = .ok (.ireturn, 1) := by decide +kernel
theorem dXL_law_316 : decode cXL_law 316 = .ok (.aload_n 1, 1) := by decide +kernel
theorem dXL_law_317 : decode cXL_law 317 = .ok (.aload_n 0, 1) := by decide +kernel
theorem dXL_law_318 : decode cXL_law 318 = .ok (.iload_n 3, 1) := by decide +kernel
theorem dXL_law_319 : decode cXL_law 319 = .ok (.iconst 1, 1) := by decide +kernel
theorem dXL_law_320 : decode cXL_law 320 = .ok (.iadd, 1) := by decide +kernel
theorem dXL_law_321 : decode cXL_law 321 = .ok (.iaload, 1) := by decide +kernel
theorem dXL_law_322 : decode cXL_law 322 = .ok (.aload_n 0, 1) := by decide +kernel
theorem dXL_law_323 : decode cXL_law 323 = .ok (.iload_n 3, 1) := by decide +kernel
theorem dXL_law_324 : decode cXL_law 324 = .ok (.iconst 2, 1) := by decide +kernel
theorem dXL_law_325 : decode cXL_law 325 = .ok (.iadd, 1) := by decide +kernel
theorem dXL_law_326 : decode cXL_law 326 = .ok (.iaload, 1) := by decide +kernel
theorem dXL_law_327 : decode cXL_law 327 = .ok (.invokevirtual 41, 3) := by decide +kernel
theorem dXL_law_330 : decode cXL_law 330 = .ok (.aload_n 2, 1) := by decide +kernel
theorem dXL_law_331 : decode cXL_law 331 = .ok (.aload_n 0, 1) := by decide +kernel
theorem dXL_law_332 : decode cXL_law 332 = .ok (.iload_n 3, 1) := by decide +kernel
theorem dXL_law_333 : decode cXL_law 333 = .ok (.iconst 1, 1) := by decide +kernel
theorem dXL_law_334 : decode cXL_law 334 = .ok (.iadd, 1) := by decide +kernel
theorem dXL_law_335 : decode cXL_law 335 = .ok (.iaload, 1) := by decide +kernel
theorem dXL_law_336 : decode cXL_law 336 = .ok (.aload_n 0, 1) := by decide +kernel
theorem dXL_law_337 : decode cXL_law 337 = .ok (.iload_n 3, 1) := by decide +kernel
theorem dXL_law_338 : decode cXL_law 338 = .ok (.iconst 2, 1) := by decide +kernel
theorem dXL_law_339 : decode cXL_law 339 = .ok (.iadd, 1) := by decide +kernel
theorem dXL_law_340 : decode cXL_law 340 = .ok (.iaload, 1) := by decide +kernel
theorem dXL_law_341 : decode cXL_law 341 = .ok (.invokevirtual 44, 3) := by decide +kernel
theorem dXL_law_344 : decode cXL_law 344 = .ok (.if_icmp .eq 192, 3) := by decide +kernel
theorem dXL_law_347 : decode cXL_law 347 = .ok (.iconst 0, 1) := by decide +kernel
theorem dXL_law_348 : decode cXL_law 348 = .ok (.ireturn, 1) := by decide +kernel
theorem dXL_law_349 : decode cXL_law 349 = .ok (.aload_n 1, 1) := by decide +kernel
theorem dXL_law_350 : decode cXL_law 350 = .ok (.aload_n 0, 1) := by decide +kernel
theorem dXL_law_351 : decode cXL_law 351 = .ok (.iload_n 3, 1) := by decide +kernel
theorem dXL_law_352 : decode cXL_law 352 = .ok (.iconst 1, 1) := by decide +kernel
theorem dXL_law_353 : decode cXL_law 353 = .ok (.iadd, 1) := by decide +kernel
theorem dXL_law_354 : decode cXL_law 354 = .ok (.iaload, 1) := by decide +kernel
theorem dXL_law_355 : decode cXL_law 355 = .ok (.aload_n 0, 1) := by decide +kernel
theorem dXL_law_356 : decode cXL_law 356 = .ok (.iload_n 3, 1) := by decide +kernel
theorem dXL_law_357 : decode cXL_law 357 = .ok (.iconst 2, 1) := by decide +kernel
theorem dXL_law_358 : decode cXL_law 358 = .ok (.iadd, 1) := by decide +kernel
theorem dXL_law_359 : decode cXL_law 359 = .ok (.iaload, 1) := by decide +kernel
theorem dXL_law_360 : decode cXL_law 360 = .ok (.invokevirtual 45, 3) := by decide +kernel
theorem dXL_law_363 : decode cXL_law 363 = .ok (.aload_n 2, 1) := by decide +kernel
theorem dXL_law_364 : decode cXL_law 364 = .ok (.aload_n 0, 1) := by decide +kernel
theorem dXL_law_365 : decode cXL_law 365 = .ok (.iload_n 3, 1) := by decide +kernel
theorem dXL_law_366 : decode cXL_law 366 = .ok (.iconst 1, 1) := by decide +kernel
theorem dXL_law_367 : decode cXL_law 367 = .ok (.iadd, 1) := by decide +kernel
theorem dXL_law_368 : decode cXL_law 368 = .ok (.iaload, 1) := by decide +kernel
theorem dXL_law_369 : decode cXL_law 369 = .ok (.aload_n 0, 1) := by decide +kernel
theorem dXL_law_370 : decode cXL_law 370 = .ok (.iload_n 3, 1) := by decide +kernel
theorem dXL_law_371 : decode cXL_law 371 = .ok (.iconst 2, 1) := by decide +kernel
theorem dXL_law_372 : decode cXL_law 372 = .ok (.iadd, 1) := by decide +kernel
theorem dXL_law_373 : decode cXL_law 373 = .ok (.iaload, 1) := by decide +kernel
theorem dXL_law_374 : decode cXL_law 374 = .ok (.invokevirtual 48, 3) := by decide +kernel
theorem dXL_law_377 : decode cXL_law 377 = .ok (.if_icmp .eq 159, 3) := by decide +kernel
theorem dXL_law_380 : decode cXL_law 380 = .ok (.iconst 0, 1) := by decide +kernel
theorem dXL_law_381 : decode cXL_law 381 = .ok (.ireturn, 1) := by decide +kernel
theorem dXL_law_382 : decode cXL_law 382 = .ok (.aload_n 1, 1) := by decide +kernel
theorem dXL_law_383 : decode cXL_law 383 = .ok (.aload_n 0, 1) := by decide +kernel
theorem dXL_law_384 : decode cXL_law 384 = .ok (.iload_n 3, 1) := by decide +kernel
theorem dXL_law_385 : decode cXL_law 385 = .ok (.iconst 1, 1) := by decide +kernel
theorem dXL_law_386 : decode cXL_law 386 = .ok (.iadd, 1) := by decide +kernel
theorem dXL_law_387 : decode cXL_law 387 = .ok (.iaload, 1) := by decide +kernel
theorem dXL_law_388 : decode cXL_law 388 = .ok (.invokevirtual 49, 3) := by decide +kernel
theorem dXL_law_391 : decode cXL_law 391 = .ok (.aload_n 2, 1) := by decide +kernel
theorem dXL_law_392 : decode cXL_law 392 = .ok (.aload_n 0, 1) := by decide +kernel
theorem dXL_law_393 : decode cXL_law 393 = .ok (.iload_n 3, 1) := by decide +kernel
theorem dXL_law_394 : decode cXL_law 394 = .ok (.iconst 1, 1) := by decide +kernel
theorem dXL_law_395 : decode cXL_law 395 = .ok (.iadd, 1) := by decide +kernel
theorem dXL_law_396 : decode cXL_law 396 = .ok (.iaload, 1) := by decide +kernel
theorem dXL_law_397 : decode cXL_law 397 = .ok (.invokevirtual 53, 3) := by decide +kernel
theorem dXL_law_400 : decode cXL_law 400 = .ok (.if_icmp .eq 136, 3) := by decide +kernel
theorem dXL_law_403 : decode cXL_law 403 = .ok (.iconst 0, 1) := by decide +kernel
theorem dXL_law_404 : decode cXL_law 404 = .ok (.ireturn, 1) := by decide +kernel
theorem dXL_law_405 : decode cXL_law 405 = .ok (.aload_n 1, 1) := by decide +kernel
theorem dXL_law_406 : decode cXL_law 406 = .ok (.invokevirtual 54, 3) := by decide +kernel
theorem dXL_law_409 : decode cXL_law 409 = .ok (.aload_n 2, 1) := by decide +kernel
theorem dXL_law_410 : decode cXL_law 410 = .ok (.invokevirtual 58, 3) := by decide +kernel
theorem dXL_law_413 : decode cXL_law 413 = .ok (.if_icmp .eq 123, 3) := by decide +kernel
theorem dXL_law_416 : decode cXL_law 416 = .ok (.iconst 0, 1) := by decide +kernel
theorem dXL_law_417 : decode cXL_law 417 = .ok (.ireturn, 1) := by decide +kernel
theorem dXL_law_418 : decode cXL_law 418 = .ok (.aload_n 1, 1) := by decide +kernel
theorem dXL_law_419 : decode cXL_law 419 = .ok (.invokevirtual 59, 3) := by decide +kernel
theorem dXL_law_422 : decode cXL_law 422 = .ok (.aload_n 2, 1) := by decide +kernel
theorem dXL_law_423 : decode cXL_law 423 = .ok (.invokevirtual 62, 3) := by decide +kernel
theorem dXL_law_426 : decode cXL_law 426 = .ok (.if_icmp .eq 110, 3) := by decide +kernel
theorem dXL_law_429 : decode cXL_law 429 = .ok (.iconst 0, 1) := by decide +kernel
theorem dXL_law_430 : decode cXL_law 430 = .ok (.ireturn, 1) := by decide +kernel
theorem dXL_law_431 : decode cXL_law 431 = .ok (.aload_n 1, 1) := by decide +kernel
theorem dXL_law_432 : decode cXL_law 432 = .ok (.invokevirtual 63, 3) := by decide +kernel
theorem dXL_law_435 : decode cXL_law 435 = .ok (.aload_n 2, 1) := by decide +kernel
theorem dXL_law_436 : decode cXL_law 436 = .ok (.invokevirtual 66, 3) := by decide +kernel
theorem dXL_law_439 : decode cXL_law 439 = .ok (.if_icmp .eq 97, 3) := by decide +kernel
theorem dXL_law_442 : decode cXL_law 442 = .ok (.iconst 0, 1) := by decide +kernel
theorem dXL_law_443 : decode cXL_law 443 = .ok (.ireturn, 1) := by decide +kernel
theorem dXL_law_444 : decode cXL_law 444 = .ok (.aload_n 1, 1) := by decide +kernel
theorem dXL_law_445 : decode cXL_law 445 = .ok (.invokevirtual 67, 3) := by decide +kernel
theorem dXL_law_448 : decode cXL_law 448 = .ok (.aload_n 2, 1) := by decide +kernel
theorem dXL_law_449 : decode cXL_law 449 = .ok (.invokevirtual 70, 3) := by decide +kernel
theorem dXL_law_452 : decode cXL_law 452 = .ok (.if_icmp .eq 84, 3) := by decide +kernel
theorem dXL_law_455 : decode cXL_law 455 = .ok (.iconst 0, 1) := by decide +kernel
theorem dXL_law_456 : decode cXL_law 456 = .ok (.ireturn, 1) := by decide +kernel
theorem dXL_law_457 : decode cXL_law 457 = .ok (.aload_n 1, 1) := by decide +kernel
theorem dXL_law_458 : decode cXL_law 458 = .ok (.aload_n 0, 1) := by decide +kernel
theorem dXL_law_459 : decode cXL_law 459 = .ok (.iload_n 3, 1) := by decide +kernel
theorem dXL_law_460 : decode cXL_law 460 = .ok (.iconst 1, 1) := by decide +kernel
theorem dXL_law_461 : decode cXL_law 461 = .ok (.iadd, 1) := by decide +kernel
theorem dXL_law_462 : decode cXL_law 462 = .ok (.iaload, 1) := by decide +kernel
theorem dXL_law_463 : decode cXL_law 463 = .ok (.invokevirtual 71, 3) := by decide +kernel
theorem dXL_law_466 : decode cXL_law 466 = .ok (.aload_n 2, 1) := by decide +kernel
theorem dXL_law_467 : decode cXL_law 467 = .ok (.aload_n 0, 1) := by decide +kernel
theorem dXL_law_468 : decode cXL_law 468 = .ok (.iload_n 3, 1) := by decide +kernel
theorem dXL_law_469 : decode cXL_law 469 = .ok (.iconst 1, 1) := by decide +kernel
theorem dXL_law_470 : decode cXL_law 470 = .ok (.iadd, 1) := by decide +kernel
theorem dXL_law_471 : decode cXL_law 471 = .ok (.iaload, 1) := by decide +kernel
theorem dXL_law_472 : decode cXL_law 472 = .ok (.invokevirtual 74, 3) := by decide +kernel
theorem dXL_law_475 : decode cXL_law 475 = .ok (.if_icmp .eq 61, 3) := by decide +kernel
theorem dXL_law_478 : decode cXL_law 478 = .ok (.iconst 0, 1) := by decide +kernel
theorem dXL_law_479 : decode cXL_law 479 = .ok (.ireturn, 1) := by decide +kernel
theorem dXL_law_480 : decode cXL_law 480 = .ok (.aload_n 1, 1) := by decide +kernel
theorem dXL_law_481 : decode cXL_law 481 = .ok (.aload_n 0, 1) := by decide +kernel
theorem dXL_law_482 : decode cXL_law 482 = .ok (.iload_n 3, 1) := by decide +kernel
theorem dXL_law_483 : decode cXL_law 483 = .ok (.iconst 1, 1) := by decide +kernel
theorem dXL_law_484 : decode cXL_law 484 = .ok (.iadd, 1) := by decide +kernel
theorem dXL_law_485 : decode cXL_law 485 = .ok (.iaload, 1) := by decide +kernel
theorem dXL_law_486 : decode cXL_law 486 = .ok (.invokevirtual 75, 3) := by decide +kernel
theorem dXL_law_489 : decode cXL_law 489 = .ok (.aload_n 2, 1) := by decide +kernel
theorem dXL_law_490 : decode cXL_law 490 = .ok (.aload_n 0, 1) := by decide +kernel
theorem dXL_law_491 : decode cXL_law 491 = .ok (.iload_n 3, 1) := by decide +kernel
theorem dXL_law_492 : decode cXL_law 492 = .ok (.iconst 1, 1) := by decide +kernel
theorem dXL_law_493 : decode cXL_law 493 = .ok (.iadd, 1) := by decide +kernel
theorem dXL_law_494 : decode cXL_law 494 = .ok (.iaload, 1) := by decide +kernel
theorem dXL_law_495 : decode cXL_law 495 = .ok (.invokevirtual 78, 3) := by decide +kernel
theorem dXL_law_498 : decode cXL_law 498 = .ok (.if_icmp .eq 38, 3) := by decide +kernel
theorem dXL_law_501 : decode cXL_law 501 = .ok (.iconst 0, 1) := by decide +kernel
theorem dXL_law_502 : decode cXL_law 502 = .ok (.ireturn, 1) := by decide +kernel
theorem dXL_law_503 : decode cXL_law 503 = .ok (.aload_n 1, 1) := by decide +kernel
theorem dXL_law_504 : decode cXL_law 504 = .ok (.aload_n 0, 1) := by decide +kernel
theorem dXL_law_505 : decode cXL_law 505 = .ok (.iload_n 3, 1) := by decide +kernel
theorem dXL_law_506 : decode cXL_law 506 = .ok (.iconst 1, 1) := by decide +kernel
theorem dXL_law_507 : decode cXL_law 507 = .ok (.iadd, 1) := by decide +kernel
theorem dXL_law_508 : decode cXL_law 508 = .ok (.iaload, 1) := by decide +kernel
theorem dXL_law_509 : decode cXL_law 509 = .ok (.aload_n 0, 1) := by decide +kernel
theorem dXL_law_510 : decode cXL_law 510 = .ok (.iload_n 3, 1) := by decide +kernel
theorem dXL_law_511 : decode cXL_law 511 = .ok (.iconst 2, 1) := by decide +kernel
theorem dXL_law_512 : decode cXL_law 512 = .ok (.iadd, 1) := by decide +kernel
theorem dXL_law_513 : decode cXL_law 513 = .ok (.iaload, 1) := by decide +kernel
theorem dXL_law_514 : decode cXL_law 514 = .ok (.invokevirtual 79, 3) := by decide +kernel
theorem dXL_law_517 : decode cXL_law 517 = .ok (.aload_n 2, 1) := by decide +kernel
theorem dXL_law_518 : decode cXL_law 518 = .ok (.aload_n 0, 1) := by decide +kernel
theorem dXL_law_519 : decode cXL_law 519 = .ok (.iload_n 3, 1) := by decide +kernel
theorem dXL_law_520 : decode cXL_law 520 = .ok (.iconst 1, 1) := by decide +kernel
theorem dXL_law_521 : decode cXL_law 521 = .ok (.iadd, 1) := by decide +kernel
theorem dXL_law_522 : decode cXL_law 522 = .ok (.iaload, 1) := by decide +kernel
theorem dXL_law_523 : decode cXL_law 523 = .ok (.aload_n 0, 1) := by decide +kernel
theorem dXL_law_524 : decode cXL_law 524 = .ok (.iload_n 3, 1) := by decide +kernel
theorem dXL_law_525 : decode cXL_law 525 = .ok (.iconst 2, 1) := by decide +kernel
theorem dXL_law_526 : decode cXL_law 526 = .ok (.iadd, 1) := by decide +kernel
theorem dXL_law_527 : decode cXL_law 527 = .ok (.iaload, 1) := by decide +kernel
theorem dXL_law_528 : decode cXL_law 528 = .ok (.invokevirtual 82, 3) := by decide +kernel
theorem dXL_law_531 : decode cXL_law 531 = .ok (.if_icmp .eq 5, 3) := by decide +kernel
theorem dXL_law_534 : decode cXL_law 534 = .ok (.iconst 0, 1) := by decide +kernel
theorem dXL_law_535 : decode cXL_law 535 = .ok (.ireturn, 1) := by decide +kernel
theorem dXL_law_536 : decode cXL_law 536 = .ok (.iinc 3 6, 3) := by decide +kernel
theorem dXL_law_539 : decode cXL_law 539 = .ok (.goto (-501), 3) := by decide +kernel
theorem dXL_law_542 : decode cXL_law 542 = .ok (.iconst 1, 1) := by decide +kernel
theorem dXL_law_543 : decode cXL_law 543 = .ok (.ireturn, 1) := by decide +kernel
