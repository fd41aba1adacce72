theorem dX8_cell_1 : decode cX8_cell 1 = .ok (.bipush 40, 2) := by decide +kernel
theorem dX8_cell_3 : decode cX8_cell 3 = .ok (.iload_n 2, 1) := by decide +kernel
theorem dX8_cell_4 : decode cX8_cell 4 = .ok (.imul, 1) := by decide +kernel
theorem dX8_cell_5 : decode cX8_cell 5 = .ok (.iload_n 3, 1) := by decide +kernel
theorem dX8_cell_6 : decode cX8_cell 6 = .ok (.iadd, 1) := by decide +kernel
theorem dX8_cell_7 : decode cX8_cell 7 = .ok (.imul, 1) := by decide +kernel
theorem dX8_cell_8 : decode cX8_cell 8 = .ok (.istore 5, 2) := by decide +kernel
theorem dX8_cell_10 : decode cX8_cell 10 = .ok (.iload 5, 2) := by decide +kernel
theorem dX8_cell_12 : decode cX8_cell 12 = .ok (.iconst 1, 1) := by decide +kernel
theorem dX8_cell_13 : decode cX8_cell 13 = .ok (.iadd, 1) := by decide +kernel
theorem dX8_cell_14 : decode cX8_cell 14 = .ok (.istore 6, 2) := by decide +kernel
theorem dX8_cell_16 : decode cX8_cell 16 = .ok (.iload 5, 2) := by decide +kernel
theorem dX8_cell_18 : decode cX8_cell 18 = .ok (.bipush 80, 2) := by decide +kernel
theorem dX8_cell_20 : decode cX8_cell 20 = .ok (.iadd, 1) := by decide +kernel
theorem dX8_cell_21 : decode cX8_cell 21 = .ok (.istore 7, 2) := by decide +kernel
theorem dX8_cell_23 : decode cX8_cell 23 = .ok (.iload 5, 2) := by decide +kernel
theorem dX8_cell_25 : decode cX8_cell 25 = .ok (.iconst 3, 1) := by decide +kernel
theorem dX8_cell_26 : decode cX8_cell 26 = .ok (.iadd, 1) := by decide +kernel
theorem dX8_cell_27 : decode cX8_cell 27 = .ok (.istore 8, 2) := by decide +kernel
theorem dX8_cell_29 : decode cX8_cell 29 = .ok (.aload_n 0, 1) := by decide +kernel
theorem dX8_cell_30 : decode cX8_cell 30 = .ok (.iload_n 1, 1) := by decide +kernel
theorem dX8_cell_31 : decode cX8_cell 31 = .ok (.iload_n 2, 1) := by decide +kernel
theorem dX8_cell_32 : decode cX8_cell 32 = .ok (.iload_n 3, 1) := by decide +kernel
theorem dX8_cell_33 : decode cX8_cell 33 = .ok (.invokevirtual 127, 3) := by decide +kernel
theorem dX8_cell_36 : decode cX8_cell 36 = .ok (.iload 4, 2) := by decide +kernel
theorem dX8_cell_38 : decode cX8_cell 38 = .ok (.if_icmp .lt 7, 3) := by decide +kernel
theorem dX8_cell_41 : decode cX8_cell 41 = .ok (.iconst 1, 1) := by decide +kernel
theorem dX8_cell_42 : decode cX8_cell 42 = .ok (.goto 4, 3) := by decide +kernel
theorem dX8_cell_45 : decode cX8_cell 45 = .ok (.iconst 0, 1) := by decide +kernel
theorem dX8_cell_46 : decode cX8_cell 46 = .ok (.istore 9, 2) := by decide +kernel
theorem dX8_cell_48 : decode cX8_cell 48 = .ok (.aload_n 0, 1) := by decide +kernel
theorem dX8_cell_49 : decode cX8_cell 49 = .ok (.iload_n 1, 1) := by decide +kernel
theorem dX8_cell_50 : decode cX8_cell 50 = .ok (.iload_n 2, 1) := by decide +kernel
theorem dX8_cell_51 : decode cX8_cell 51 = .ok (.iload_n 3, 1) := by decide +kernel
theorem dX8_cell_52 : decode cX8_cell 52 = .ok (.iconst 1, 1) := by decide +kernel
theorem dX8_cell_53 : decode cX8_cell 53 = .ok (.iadd, 1) := by decide +kernel
theorem dX8_cell_54 : decode cX8_cell 54 = .ok (.invokevirtual 127, 3) := by decide +kernel
theorem dX8_cell_57 : decode cX8_cell 57 = .ok (.iload 4, 2) := by decide +kernel
theorem dX8_cell_59 : decode cX8_cell 59 = .ok (.if_icmp .lt 7, 3) := by decide +kernel
theorem dX8_cell_62 : decode cX8_cell 62 = .ok (.iconst 1, 1) := by decide +kernel
theorem dX8_cell_63 : decode cX8_cell 63 = .ok (.goto 4, 3) := by decide +kernel
theorem dX8_cell_66 : decode cX8_cell 66 = .ok (.iconst 0, 1) := by decide +kernel
theorem dX8_cell_67 : decode cX8_cell 67 = .ok (.istore 10, 2) := by decide +kernel
theorem dX8_cell_69 : decode cX8_cell 69 = .ok (.aload_n 0, 1) := by decide +kernel
theorem dX8_cell_70 : decode cX8_cell 70 = .ok (.iload_n 1, 1) := by decide +kernel
theorem dX8_cell_71 : decode cX8_cell 71 = .ok (.iload_n 2, 1) := by decide +kernel
theorem dX8_cell_72 : decode cX8_cell 72 = .ok (.iconst 1, 1) := by decide +kernel
theorem dX8_cell_73 : decode cX8_cell 73 = .ok (.iadd, 1) := by decide +kernel
theorem dX8_cell_74 : decode cX8_cell 74 = .ok (.iload_n 3, 1) := by decide +kernel
theorem dX8_cell_75 : decode cX8_cell 75 = .ok (.invokevirtual 127, 3) := by decide +kernel
theorem dX8_cell_78 : decode cX8_cell 78 = .ok (.iload 4, 2) := by decide +kernel
theorem dX8_cell_80 : decode cX8_cell 80 = .ok (.if_icmp .lt 7, 3) := by decide +kernel
theorem dX8_cell_83 : decode cX8_cell 83 = .ok (.iconst 1, 1) := by decide +kernel
theorem dX8_cell_84 : decode cX8_cell 84 = .ok (.goto 4, 3) := by decide +kernel
theorem dX8_cell_87 : decode cX8_cell 87 = .ok (.iconst 0, 1) := by decide +kernel
theorem dX8_cell_88 : decode cX8_cell 88 = .ok (.istore 11, 2) := by decide +kernel
theorem dX8_cell_90 : decode cX8_cell 90 = .ok (.aload_n 0, 1) := by decide +kernel
theorem dX8_cell_91 : decode cX8_cell 91 = .ok (.iload_n 1, 1) := by decide +kernel
theorem dX8_cell_92 : decode cX8_cell 92 = .ok (.iload_n 2, 1) := by decide +kernel
theorem dX8_cell_93 : decode cX8_cell 93 = .ok (.iconst 1, 1) := by decide +kernel
theorem dX8_cell_94 : decode cX8_cell 94 = .ok (.iadd, 1) := by decide +kernel
theorem dX8_cell_95 : decode cX8_cell 95 = .ok (.iload_n 3, 1) := by decide +kernel
theorem dX8_cell_96 : decode cX8_cell 96 = .ok (.iconst 1, 1) := by decide +kernel
theorem dX8_cell_97 : decode cX8_cell 97 = .ok (.iadd, 1) := by decide +kernel
theorem dX8_cell_98 : decode cX8_cell 98 = .ok (.invokevirtual 127, 3) := by decide +kernel
theorem dX8_cell_101 : decode cX8_cell 101 = .ok (.iload 4, 2) := by decide +kernel
theorem dX8_cell_103 : decode cX8_cell 103 = .ok (.if_icmp .lt 7, 3) := by decide +kernel
theorem dX8_cell_106 : decode cX8_cell 106 = .ok (.iconst 1, 1) := by decide +kernel
theorem dX8_cell_107 : decode cX8_cell 107 = .ok (.goto 4, 3) := by decide +kernel
theorem dX8_cell_110 : decode cX8_cell 110 = .ok (.iconst 0, 1) := by decide +kernel
theorem dX8_cell_111 : decode cX8_cell 111 = .ok (.istore 12, 2) := by decide +kernel
theorem dX8_cell_113 : decode cX8_cell 113 = .ok (.iload 9, 2) := by decide +kernel
theorem dX8_cell_115 : decode cX8_cell 115 = .ok (.iload 10, 2) := by decide +kernel
theorem dX8_cell_117 : decode cX8_cell 117 = .ok (.if_icmp .eq 144, 3) := by decide +kernel
theorem dX8_cell_120 : decode cX8_cell 120 = .ok (.iload 9, 2) := by decide +kernel
theorem dX8_cell_122 : decode cX8_cell 122 = .ok (.iload 11, 2) := by decide +kernel
theorem dX8_cell_124 : decode cX8_cell 124 = .ok (.if_icmp .eq 137, 3) := by decide +kernel
theorem dX8_cell_127 : decode cX8_cell 127 = .ok (.iload 10, 2) := by decide +kernel
theorem dX8_cell_129 : decode cX8_cell 129 = .ok (.iload 12, 2) := by decide +kernel
theorem dX8_cell_131 : decode cX8_cell 131 = .ok (.if_icmp .eq 130, 3) := by decide +kernel
theorem dX8_cell_134 : decode cX8_cell 134 = .ok (.iload 11, 2) := by decide +kernel
theorem dX8_cell_136 : decode cX8_cell 136 = .ok (.iload 12, 2) := by decide +kernel
theorem dX8_cell_138 : decode cX8_cell 138 = .ok (.if_icmp .eq 123, 3) := by decide +kernel
theorem dX8_cell_141 : decode cX8_cell 141 = .ok (.aload_n 0, 1) := by decide +kernel
theorem dX8_cell_142 : decode cX8_cell 142 = .ok (.iload_n 1, 1) := by decide +kernel
theorem dX8_cell_143 : decode cX8_cell 143 = .ok (.iload_n 2, 1) := by decide +kernel
theorem dX8_cell_144 : decode cX8_cell 144 = .ok (.iload_n 3, 1) := by decide +kernel
theorem dX8_cell_145 : decode cX8_cell 145 = .ok (.invokevirtual 127, 3) := by decide +kernel
theorem dX8_cell_148 : decode cX8_cell 148 = .ok (.i2l, 1) := by decide +kernel
theorem dX8_cell_149 : decode cX8_cell 149 = .ok (.aload_n 0, 1) := by decide +kernel
theorem dX8_cell_150 : decode cX8_cell 150 = .ok (.iload_n 1, 1) := by decide +kernel
theorem dX8_cell_151 : decode cX8_cell 151 = .ok (.iload_n 2, 1) := by decide +kernel
theorem dX8_cell_152 : decode cX8_cell 152 = .ok (.iload_n 3, 1) := by decide +kernel
theorem dX8_cell_153 : decode cX8_cell 153 = .ok (.iconst 1, 1) := by decide +kernel
theorem dX8_cell_154 : decode cX8_cell 154 = .ok (.iadd, 1) := by decide +kernel
theorem dX8_cell_155 : decode cX8_cell 155 = .ok (.invokevirtual 127, 3) := by decide +kernel
theorem dX8_cell_158 : decode cX8_cell 158 = .ok (.i2l, 1) := by decide +kernel
theorem dX8_cell_159 : decode cX8_cell 159 = .ok (.ladd, 1) := by decide +kernel
theorem dX8_cell_160 : decode cX8_cell 160 = .ok (.aload_n 0, 1) := by decide +kernel
theorem dX8_cell_161 : decode cX8_cell 161 = .ok (.iload_n 1, 1) := by decide +kernel
theorem dX8_cell_162 : decode cX8_cell 162 = .ok (.iload_n 2, 1) := by decide +kernel
theorem dX8_cell_163 : decode cX8_cell 163 = .ok (.iconst 1, 1) := by decide +kernel
theorem dX8_cell_164 : decode cX8_cell 164 = .ok (.iadd, 1) := by decide +kernel
theorem dX8_cell_165 : decode cX8_cell 165 = .ok (.iload_n 3, 1) := by decide +kernel
theorem dX8_cell_166 : decode cX8_cell 166 = .ok (.invokevirtual 127, 3) := by decide +kernel
theorem dX8_cell_169 : decode cX8_cell 169 = .ok (.i2l, 1) := by decide +kernel
theorem dX8_cell_170 : decode cX8_cell 170 = .ok (.ladd, 1) := by decide +kernel
theorem dX8_cell_171 : decode cX8_cell 171 = .ok (.aload_n 0, 1) := by decide +kernel
theorem dX8_cell_172 : decode cX8_cell 172 = .ok (.iload_n 1, 1) := by decide +kernel
theorem dX8_cell_173 : decode cX8_cell 173 = .ok (.iload_n 2, 1) := by decide +kernel
theorem dX8_cell_174 : decode cX8_cell 174 = .ok (.iconst 1, 1) := by decide +kernel
theorem dX8_cell_175 : decode cX8_cell 175 = .ok (.iadd, 1) := by decide +kernel
theorem dX8_cell_176 : decode cX8_cell 176 = .ok (.iload_n 3, 1) := by decide +kernel
theorem dX8_cell_177 : decode cX8_cell 177 = .ok (.iconst 1, 1) := by decide +kernel
theorem dX8_cell_178 : decode cX8_cell 178 = .ok (.iadd, 1) := by decide +kernel
theorem dX8_cell_179 : decode cX8_cell 179 = .ok (.invokevirtual 127, 3) := by decide +kernel
theorem dX8_cell_182 : decode cX8_cell 182 = .ok (.i2l, 1) := by decide +kernel
theorem dX8_cell_183 : decode cX8_cell 183 = .ok (.ladd, 1) := by decide +kernel
theorem dX8_cell_184 : decode cX8_cell 184 = .ok (.lstore 13, 2) := by decide +kernel
theorem dX8_cell_186 : decode cX8_cell 186 = .ok (.lload 13, 2) := by decide +kernel
theorem dX8_cell_188 : decode cX8_cell 188 = .ok (.ldc2_w 150, 3) := by decide +kernel
theorem dX8_cell_191 : decode cX8_cell 191 = .ok (.iload 4, 2) := by decide +kernel
theorem dX8_cell_193 : decode cX8_cell 193 = .ok (.i2l, 1) := by decide +kernel
theorem dX8_cell_194 : decode cX8_cell 194 = .ok (.lmul, 1) := by decide +kernel
theorem dX8_cell_195 : decode cX8_cell 195 = .ok (.lcmp, 1) := by decide +kernel
theorem dX8_cell_196 : decode cX8_cell 196 = .ok (.ifCond .lt 7, 3) := by decide +kernel
theorem dX8_cell_199 : decode cX8_cell 199 = .ok (.iconst 1, 1) := by decide +kernel
theorem dX8_cell_200 : decode cX8_cell 200 = .ok (.goto 4, 3) := by decide +kernel
theorem dX8_cell_203 : decode cX8_cell 203 = .ok (.iconst 0, 1) := by decide +kernel
theorem dX8_cell_204 : decode cX8_cell 204 = .ok (.istore 15, 2) := by decide +kernel
theorem dX8_cell_206 : decode cX8_cell 206 = .ok (.iload 9, 2) := by decide +kernel
theorem dX8_cell_208 : decode cX8_cell 208 = .ok (.iload 15, 2) := by decide +kernel
theorem dX8_cell_210 : decode cX8_cell 210 = .ok (.if_icmp .eq 28, 3) := by decide +kernel
theorem dX8_cell_213 : decode cX8_cell 213 = .ok (.aload_n 0, 1) := by decide +kernel
theorem dX8_cell_214 : decode cX8_cell 214 = .ok (.iload_n 1, 1) := by decide +kernel
theorem dX8_cell_215 : decode cX8_cell 215 = .ok (.iload 5, 2) := by decide +kernel
theorem dX8_cell_217 : decode cX8_cell 217 = .ok (.iload 6, 2) := by decide +kernel
theorem dX8_cell_219 : decode cX8_cell 219 = .ok (.iload 4, 2) := by decide +kernel
theorem dX8_cell_221 : decode cX8_cell 221 = .ok (.invokevirtual 152, 3) := by decide +kernel
theorem dX8_cell_224 : decode cX8_cell 224 = .ok (.aload_n 0, 1) := by decide +kernel
theorem dX8_cell_225 : decode cX8_cell 225 = .ok (.iload_n 1, 1) := by decide +kernel
theorem dX8_cell_226 : decode cX8_cell 226 = .ok (.iload 8, 2) := by decide +kernel
theorem dX8_cell_228 : decode cX8_cell 228 = .ok (.iload 7, 2) := by decide +kernel
theorem dX8_cell_230 : decode cX8_cell 230 = .ok (.iload 4, 2) := by decide +kernel
theorem dX8_cell_232 : decode cX8_cell 232 = .ok (.invokevirtual 152, 3) := by decide +kernel
theorem dX8_cell_235 : decode cX8_cell 235 = .ok (.goto 25, 3) := by decide +kernel
theorem dX8_cell_238 : decode cX8_cell 238 = .ok (.aload_n 0, 1) := by decide +kernel
theorem dX8_cell_239 : decode cX8_cell 239 = .ok (.iload_n 1, 1) := by decide +kernel
theorem dX8_cell_240 : decode cX8_cell 240 = .ok (.iload 5, 2) := by decide +kernel
theorem dX8_cell_242 : decode cX8_cell 242 = .ok (.iload 8, 2) := by decide +kernel
theorem dX8_cell_244 : decode cX8_cell 244 = .ok (.iload 4, 2) := by decide +kernel
theorem dX8_cell_246 : decode cX8_cell 246 = .ok (.invokevirtual 152, 3) := by decide +kernel
theorem dX8_cell_249 : decode cX8_cell 249 = .ok (.aload_n 0, 1) := by decide +kernel
theorem dX8_cell_250 : decode cX8_cell 250 = .ok (.iload_n 1, 1) := by decide +kernel
theorem dX8_cell_251 : decode cX8_cell 251 = .ok (.iload 6, 2) := by decide +kernel
theorem dX8_cell_253 : decode cX8_cell 253 = .ok (.iload 7, 2) := by decide +kernel
theorem dX8_cell_255 : decode cX8_cell 255 = .ok (.iload 4, 2) := by decide +kernel
theorem dX8_cell_257 : decode cX8_cell 257 = .ok (.invokevirtual 152, 3) := by decide +kernel
theorem dX8_cell_260 : decode cX8_cell 260 = .ok (.return_, 1) := by decide +kernel
theorem dX8_cell_261 : decode cX8_cell 261 = .ok (.iconst (-1), 1) := by decide +kernel
theorem dX8_cell_262 : decode cX8_cell 262 = .ok (.istore 13, 2) := by decide +kernel
theorem dX8_cell_264 : decode cX8_cell 264 = .ok (.iconst (-1), 1) := by decide +kernel
theorem dX8_cell_265 : decode cX8_cell 265 = .ok (.istore 14, 2) := by decide +kernel
theorem dX8_cell_267 : decode cX8_cell 267 = .ok (.iload 9, 2) := by decide +kernel
theorem dX8_cell_269 : decode cX8_cell 269 = .ok (.iload 10, 2) := by decide +kernel
theorem dX8_cell_271 : decode cX8_cell 271 = .ok (.if_icmp .eq 7, 3) := by decide +kernel
theorem dX8_cell_274 : decode cX8_cell 274 = .ok (.iload 5, 2) := by decide +kernel
theorem dX8_cell_276 : decode cX8_cell 276 = .ok (.istore 13, 2) := by decide +kernel
theorem dX8_cell_278 : decode cX8_cell 278 = .ok (.iload 9, 2) := by decide +kernel
theorem dX8_cell_280 : decode cX8_cell 280 = .ok (.iload 11, 2) := by decide +kernel
theorem dX8_cell_282 : decode cX8_cell 282 = .ok (.if_icmp .eq 11, 3) := by decide +kernel
theorem dX8_cell_285 : decode cX8_cell 285 = .ok (.iload 13, 2) := by decide +kernel
theorem dX8_cell_287 : decode cX8_cell 287 = .ok (.istore 14, 2) := by decide +kernel
theorem dX8_cell_289 : decode cX8_cell 289 = .ok (.iload 6, 2) := by decide +kernel
theorem dX8_cell_291 : decode cX8_cell 291 = .ok (.istore 13, 2) := by decide +kernel
theorem dX8_cell_293 : decode cX8_cell 293 = .ok (.iload 10, 2) := by decide +kernel
theorem dX8_cell_295 : decode cX8_cell 295 = .ok (.iload 12, 2) := by decide +kernel
theorem dX8_cell_297 : decode cX8_cell 297 = .ok (.if_icmp .eq 11, 3) := by decide +kernel
theorem dX8_cell_300 : decode cX8_cell 300 = .ok (.iload 13, 2) := by decide +kernel
theorem dX8_cell_302 : decode cX8_cell 302 = .ok (.istore 14, 2) := by decide +kernel
theorem dX8_cell_304 : decode cX8_cell 304 = .ok (.iload 8, 2) := by decide +kernel
theorem dX8_cell_306 : decode cX8_cell 306 = .ok (.istore 13, 2) := by decide +kernel
theorem dX8_cell_308 : decode cX8_cell 308 = .ok (.iload 11, 2) := by decide +kernel
theorem dX8_cell_310 : decode cX8_cell 310 = .ok (.iload 12, 2) := by decide +kernel
theorem dX8_cell_312 : decode cX8_cell 312 = .ok (.if_icmp .eq 11, 3) := by decide +kernel
theorem dX8_cell_315 : decode cX8_cell 315 = .ok (.iload 13, 2) := by decide +kernel
theorem dX8_cell_317 : decode cX8_cell 317 = .ok (.istore 14, 2) := by decide +kernel
theorem dX8_cell_319 : decode cX8_cell 319 = .ok (.iload 7, 2) := by decide +kernel
theorem dX8_cell_321 : decode cX8_cell 321 = .ok (.istore 13, 2) := by decide +kernel
theorem dX8_cell_323 : decode cX8_cell 323 = .ok (.iload 13, 2) := by decide +kernel
theorem dX8_cell_325 : decode cX8_cell 325 = .ok (.ifCond .lt 19, 3) := by decide +kernel
theorem dX8_cell_328 : decode cX8_cell 328 = .ok (.iload 14, 2) := by decide +kernel
theorem dX8_cell_330 : decode cX8_cell 330 = .ok (.ifCond .lt 14, 3) := by decide +kernel
theorem dX8_cell_333 : decode cX8_cell 333 = .ok (.aload_n 0, 1) := by decide +kernel
theorem dX8_cell_334 : decode cX8_cell 334 = .ok (.iload_n 1, 1) := by decide +kernel
theorem dX8_cell_335 : decode cX8_cell 335 = .ok (.iload 13, 2) := by decide +kernel
theorem dX8_cell_337 : decode cX8_cell 337 = .ok (.iload 14, 2) := by decide +kernel
theorem dX8_cell_339 : decode cX8_cell 339 = .ok (.iload 4, 2) := by decide +kernel
theorem dX8_cell_341 : decode cX8_cell 341 = .ok (.invokevirtual 152, 3) := by decide +kernel
theorem dX8_cell_344 : decode cX8_cell 344 = .ok (.return_, 1) := by decide +kernel
set_option maxRecDepth 20000 in
theorem ggX8_contour_X8_isGrid : GoodIn wsX8_contour wsX8_isGrid := goodIn_r _ [13, 14, 15, 12, 16] (by decide +kernel) (by decide +kernel)
set_option maxRecDepth 20000 in
theorem gX8_contour_X8_isGrid : GoodIn wsX8_contour (va_wsS RX8 103 yX8_isGrid wsX8_isGrid) := goodIn_app (goodIn_of _ (by decide +kernel)) ggX8_contour_X8_isGrid
set_option maxRecDepth 20000 in
theorem ggX8_contour_X8_linesOf : GoodIn wsX8_contour wsX8_linesOf := goodIn_r _ [20, 21, 22, 23, 24, 25, 26, 27, 12, 28, 29, 30, 31, 32, 6, 14, 15, 16, 33, 34, 35, 36, 37, 38, 39, 40, 41, 42, 43, 44, 45, 46, 47, 48, 49, 50, 51, 52, 53, 54, 55, 56, 57, 58, 59, 60, 1, 2, 61, 62, 63, 64, 9, 65, 66, 67, 88, 89, 90, 91, 92, 93, 94, 95, 96, 97, 98, 99, 100, 101, 102, 103, 104, 105, 106, 107, 108, 109, 110, 111, 112, 113, 114, 115, 116, 117, 118, 119, 120] (by decide +kernel) (by decide +kernel)
set_option maxRecDepth 20000 in
theorem gX8_contour_X8_linesOf : GoodIn wsX8_contour (wsV RX8 165 RX8 yX8_linesOf wsX8_linesOf) := goodIn_app (goodIn_of _ (by decide +kernel)) ggX8_contour_X8_linesOf
set_option maxRecDepth 20000 in
theorem ggX8_contour_X8_surrounds : GoodIn wsX8_contour wsX8_surrounds := goodIn_r _ [71, 72, 73, 74, 9, 63, 64, 5, 65, 66, 62, 75, 76, 77, 12, 78, 88, 89, 90, 91, 92, 93, 94, 95, 96, 97, 98, 99, 100, 101, 102, 103, 104, 105, 106, 107, 108, 109, 110, 111, 112, 113, 114, 115, 116, 117, 118, 119, 120] (by decide +kernel) (by decide +kernel)
set_option maxRecDepth 20000 in
theorem gX8_contour_X8_surrounds : GoodIn wsX8_contour (wsV RX8 169 RX8 yX8_surrounds wsX8_surrounds) := goodIn_app (goodIn_of _ (by decide +kernel)) ggX8_contour_X8_surrounds
set_option maxRecDepth 20000 in
theorem ggX8_contour_X8_parentOf : GoodIn wsX8_contour wsX8_parentOf := goodIn_r _ [82, 1, 73, 62, 83, 84, 85, 12, 86, 9, 72, 87, 74, 88, 89, 90, 91, 92, 93, 94, 95, 96, 97, 98, 99, 100, 101, 102, 103, 104, 105, 106, 107, 108, 109, 110, 111, 112, 113, 114, 115, 116, 117, 118, 119, 120] (by decide +kernel) (by decide +kernel)
set_option maxRecDepth 20000 in
theorem gX8_contour_X8_parentOf : GoodIn wsX8_contour (wsV RX8 173 RX8 yX8_parentOf wsX8_parentOf) := goodIn_app (goodIn_of _ (by decide +kernel)) ggX8_contour_X8_parentOf
theorem dX8_contour_0 : decode cX8_contour 0 = .ok (.iload_n 1, 1) := by decide +kernel
theorem dX8_contour_1 : decode cX8_contour 1 = .ok (.invokestatic 103, 3) := by decide +kernel
theorem dX8_contour_4 : decode cX8_contour 4 = .ok (.ifCond .ne 5, 3) := by decide +kernel
theorem dX8_contour_7 : decode cX8_contour 7 = .ok (.iconst (-1), 1) := by decide +kernel
theorem dX8_contour_8 : decode cX8_contour 8 = .ok (.ireturn, 1) := by decide +kernel
theorem dX8_contour_9 : decode cX8_contour 9 = .ok (.aload_n 0, 1) := by decide +kernel
theorem dX8_contour_10 : decode cX8_contour 10 = .ok (.iconst 0, 1) := by decide +kernel
theorem dX8_contour_11 : decode cX8_contour 11 = .ok (.putfield 156, 3) := by decide +kernel
theorem dX8_contour_14 : decode cX8_contour 14 = .ok (.aload_n 0, 1) := by decide +kernel
theorem dX8_contour_15 : decode cX8_contour 15 = .ok (.iconst 0, 1) := by decide +kernel
theorem dX8_contour_16 : decode cX8_contour 16 = .ok (.putfield 159, 3) := by decide +kernel
theorem dX8_contour_19 : decode cX8_contour 19 = .ok (.aload_n 0, 1) := by decide +kernel
theorem dX8_contour_20 : decode cX8_contour 20 = .ok (.aload_n 0, 1) := by decide +kernel
theorem dX8_contour_21 : decode cX8_contour 21 = .ok (.getfield 7, 3) := by decide +kernel
theorem dX8_contour_24 : decode cX8_contour 24 = .ok (.iload_n 1, 1) := by decide +kernel
theorem dX8_contour_25 : decode cX8_contour 25 = .ok (.iaload, 1) := by decide +kernel
theorem dX8_contour_26 : decode cX8_contour 26 = .ok (.putfield 162, 3) := by decide +kernel
theorem dX8_contour_29 : decode cX8_contour 29 = .ok (.iconst 0, 1) := by decide +kernel
theorem dX8_contour_30 : decode cX8_contour 30 = .ok (.istore_n 2, 1) := by decide +kernel
theorem dX8_contour_31 : decode cX8_contour 31 = .ok (.iload_n 2, 1) := by decide +kernel
theorem dX8_contour_32 : decode cX8_contour 32 = .ok (.sipush 1280, 3) := by decide +kernel
theorem dX8_contour_35 : decode cX8_contour 35 = .ok (.if_icmp .ge 27, 3) := by decide +kernel
theorem dX8_contour_38 : decode cX8_contour 38 = .ok (.aload_n 0, 1) := by decide +kernel
theorem dX8_contour_39 : decode cX8_contour 39 = .ok (.getfield 66, 3) := by decide +kernel
theorem dX8_contour_42 : decode cX8_contour 42 = .ok (.iload_n 2, 1) := by decide +kernel
theorem dX8_contour_43 : decode cX8_contour 43 = .ok (.aload_n 0, 1) := by decide +kernel
theorem dX8_contour_44 : decode cX8_contour 44 = .ok (.getfield 22, 3) := by decide +kernel
theorem dX8_contour_47 : decode cX8_contour 47 = .ok (.sipush 1280, 3) := by decide +kernel
theorem dX8_contour_50 : decode cX8_contour 50 = .ok (.iload_n 1, 1) := by decide +kernel
theorem dX8_contour_51 : decode cX8_contour 51 = .ok (.imul, 1) := by decide +kernel
theorem dX8_contour_52 : decode cX8_contour 52 = .ok (.iload_n 2, 1) := by decide +kernel
theorem dX8_contour_53 : decode cX8_contour 53 = .ok (.iadd, 1) := by decide +kernel
theorem dX8_contour_54 : decode cX8_contour 54 = .ok (.baload, 1) := by decide +kernel
theorem dX8_contour_55 : decode cX8_contour 55 = .ok (.bastore, 1) := by decide +kernel
theorem dX8_contour_56 : decode cX8_contour 56 = .ok (.iinc 2 1, 3) := by decide +kernel
theorem dX8_contour_59 : decode cX8_contour 59 = .ok (.goto (-28), 3) := by decide +kernel
theorem dX8_contour_62 : decode cX8_contour 62 = .ok (.iconst 1, 1) := by decide +kernel
theorem dX8_contour_63 : decode cX8_contour 63 = .ok (.istore_n 2, 1) := by decide +kernel
theorem dX8_contour_64 : decode cX8_contour 64 = .ok (.iconst 0, 1) := by decide +kernel
theorem dX8_contour_65 : decode cX8_contour 65 = .ok (.istore_n 3, 1) := by decide +kernel
theorem dX8_contour_66 : decode cX8_contour 66 = .ok (.iload_n 3, 1) := by decide +kernel
theorem dX8_contour_67 : decode cX8_contour 67 = .ok (.aload_n 0, 1) := by decide +kernel
theorem dX8_contour_68 : decode cX8_contour 68 = .ok (.getfield 135, 3) := by decide +kernel
theorem dX8_contour_71 : decode cX8_contour 71 = .ok (.if_icmp .ge 20, 3) := by decide +kernel
theorem dX8_contour_74 : decode cX8_contour 74 = .ok (.iload_n 2, 1) := by decide +kernel
theorem dX8_contour_75 : decode cX8_contour 75 = .ok (.ifCond .eq 16, 3) := by decide +kernel
theorem dX8_contour_78 : decode cX8_contour 78 = .ok (.aload_n 0, 1) := by decide +kernel
theorem dX8_contour_79 : decode cX8_contour 79 = .ok (.iload_n 1, 1) := by decide +kernel
theorem dX8_contour_80 : decode cX8_contour 80 = .ok (.iload_n 3, 1) := by decide +kernel
theorem dX8_contour_81 : decode cX8_contour 81 = .ok (.invokevirtual 165, 3) := by decide +kernel
theorem dX8_contour_84 : decode cX8_contour 84 = .ok (.istore_n 2, 1) := by decide +kernel
theorem dX8_contour_85 : decode cX8_contour 85 = .ok (.iinc 3 1, 3) := by decide +kernel
theorem dX8_contour_88 : decode cX8_contour 88 = .ok (.goto (-22), 3) := by decide +kernel
theorem dX8_contour_91 : decode cX8_contour 91 = .ok (.iconst 0, 1) := by decide +kernel
theorem dX8_contour_92 : decode cX8_contour 92 = .ok (.istore_n 3, 1) := by decide +kernel
theorem dX8_contour_93 : decode cX8_contour 93 = .ok (.iload_n 3, 1) := by decide +kernel
theorem dX8_contour_94 : decode cX8_contour 94 = .ok (.aload_n 0, 1) := by decide +kernel
theorem dX8_contour_95 : decode cX8_contour 95 = .ok (.getfield 156, 3) := by decide +kernel
theorem dX8_contour_98 : decode cX8_contour 98 = .ok (.if_icmp .ge 14, 3) := by decide +kernel
theorem dX8_contour_101 : decode cX8_contour 101 = .ok (.aload_n 0, 1) := by decide +kernel
theorem dX8_contour_102 : decode cX8_contour 102 = .ok (.iload_n 3, 1) := by decide +kernel
theorem dX8_contour_103 : decode cX8_contour 103 = .ok (.invokevirtual 169, 3) := by decide +kernel
theorem dX8_contour_106 : decode cX8_contour 106 = .ok (.iinc 3 1, 3) := by decide +kernel
theorem dX8_contour_109 : decode cX8_contour 109 = .ok (.goto (-16), 3) := by decide +kernel
theorem dX8_contour_112 : decode cX8_contour 112 = .ok (.iconst 0, 1) := by decide +kernel
theorem dX8_contour_113 : decode cX8_contour 113 = .ok (.istore_n 3, 1) := by decide +kernel
theorem dX8_contour_114 : decode cX8_contour 114 = .ok (.iload_n 3, 1) := by decide +kernel
theorem dX8_contour_115 : decode cX8_contour 115 = .ok (.aload_n 0, 1) := by decide +kernel
theorem dX8_contour_116 : decode cX8_contour 116 = .ok (.getfield 156, 3) := by decide +kernel
theorem dX8_contour_119 : decode cX8_contour 119 = .ok (.if_icmp .ge 33, 3) := by decide +kernel
theorem dX8_contour_122 : decode cX8_contour 122 = .ok (.aload_n 0, 1) := by decide +kernel
theorem dX8_contour_123 : decode cX8_contour 123 = .ok (.getfield 47, 3) := by decide +kernel
theorem dX8_contour_126 : decode cX8_contour 126 = .ok (.iload_n 3, 1) := by decide +kernel
theorem dX8_contour_127 : decode cX8_contour 127 = .ok (.aload_n 0, 1) := by decide +kernel
theorem dX8_contour_128 : decode cX8_contour 128 = .ok (.getfield 41, 3) := by decide +kernel
theorem dX8_contour_131 : decode cX8_contour 131 = .ok (.iload_n 3, 1) := by decide +kernel
theorem dX8_contour_132 : decode cX8_contour 132 = .ok (.baload, 1) := by decide +kernel
theorem dX8_contour_133 : decode cX8_contour 133 = .ok (.ifCond .eq 11, 3) := by decide +kernel
theorem dX8_contour_136 : decode cX8_contour 136 = .ok (.aload_n 0, 1) := by decide +kernel
theorem dX8_contour_137 : decode cX8_contour 137 = .ok (.iload_n 3, 1) := by decide +kernel
theorem dX8_contour_138 : decode cX8_contour 138 = .ok (.invokevirtual 173, 3) := by decide +kernel
theorem dX8_contour_141 : decode cX8_contour 141 = .ok (.goto 4, 3) := by decide +kernel
theorem dX8_contour_144 : decode cX8_contour 144 = .ok (.iconst (-1), 1) := by decide +kernel
theorem dX8_contour_145 : decode cX8_contour 145 = .ok (.iastore, 1) := by decide +kernel
theorem dX8_contour_146 : decode cX8_contour 146 = .ok (.iinc 3 1, 3) := by decide +kernel
theorem dX8_contour_149 : decode cX8_contour 149 = .ok (.goto (-35), 3) := by decide +kernel
theorem dX8_contour_152 : decode cX8_contour 152 = .ok (.aload_n 0, 1) := by decide +kernel
theorem dX8_contour_153 : decode cX8_contour 153 = .ok (.getfield 156, 3) := by decide +kernel
theorem dX8_contour_156 : decode cX8_contour 156 = .ok (.ireturn, 1) := by decide +kernel
set_option maxRecDepth 20000 in
theorem ggX8_linesOf_X8_isWhole : GoodIn wsX8_linesOf wsX8_isWhole := goodIn_r _ [9, 10, 11, 12, 8, 13, 14, 15, 16, 17, 56, 57, 58, 59, 60, 61, 62, 63, 64, 65, 66, 67, 68, 69, 70, 71, 72, 73, 74, 75, 76, 77, 78, 79, 80, 81, 82, 83, 84, 85, 86, 87, 88] (by decide +kernel) (by decide +kernel)
set_option maxRecDepth 20000 in
theorem gX8_linesOf_X8_isWhole : GoodIn wsX8_linesOf (wsV RX8 176 RX8 yX8_isWhole wsX8_isWhole) := goodIn_app (goodIn_of _ (by decide +kernel)) ggX8_linesOf_X8_isWhole
set_option maxRecDepth 20000 in
theorem ggX8_linesOf_X8_cell : GoodIn wsX8_linesOf wsX8_cell := goodIn_r _ [21, 22, 23, 24, 25, 8, 26, 27, 28, 29, 30, 31, 2, 3, 32, 33, 34, 35, 36, 37, 38, 39, 40, 41, 56, 57, 58, 59, 60, 61, 62, 63, 64, 65, 66, 67, 68, 69, 70, 71, 72, 73, 74, 75, 76, 77, 78, 79, 80, 81, 82, 83, 84, 85, 86, 87, 88] (by decide +kernel) (by decide +kernel)
set_option maxRecDepth 20000 in
theorem gX8_linesOf_X8_cell : GoodIn wsX8_linesOf (wsV RX8 179 RX8 yX8_cell wsX8_cell) := goodIn_app (goodIn_of _ (by decide +kernel)) ggX8_linesOf_X8_cell
set_option maxRecDepth 20000 in
theorem ggX8_linesOf_X8_tellLine : GoodIn wsX8_linesOf wsX8_tellLine := goodIn_r _ [45, 2, 46, 47, 48, 49, 1, 50, 51, 52, 4, 53, 54, 55, 23, 24, 25, 8, 26, 27, 56, 57, 58, 59, 60, 61, 62, 63, 64, 65, 66, 67, 68, 69, 70, 71, 72, 73, 74, 75, 76, 77, 78, 79, 80, 81, 82, 83, 84, 85, 86, 87, 88] (by decide +kernel) (by decide +kernel)
set_option maxRecDepth 20000 in
theorem gX8_linesOf_X8_tellLine : GoodIn wsX8_linesOf (wsV RX8 182 RX8 yX8_tellLine wsX8_tellLine) := goodIn_app (goodIn_of _ (by decide +kernel)) ggX8_linesOf_X8_tellLine
theorem dX8_linesOf_0 : decode cX8_linesOf 0 = .ok (.sipush 1024, 3) := by decide +kernel
theorem dX8_linesOf_3 : decode cX8_linesOf 3 = .ok (.aload_n 0, 1) := by decide +kernel
theorem dX8_linesOf_4 : decode cX8_linesOf 4 = .ok (.getfield 26, 3) := by decide +kernel
theorem dX8_linesOf_7 : decode cX8_linesOf 7 = .ok (.iload_n 2, 1) := by decide +kernel
theorem dX8_linesOf_8 : decode cX8_linesOf 8 = .ok (.iaload, 1) := by decide +kernel
theorem dX8_linesOf_9 : decode cX8_linesOf 9 = .ok (.imul, 1) := by decide +kernel
theorem dX8_linesOf_10 : decode cX8_linesOf 10 = .ok (.istore_n 3, 1) := by decide +kernel
theorem dX8_linesOf_11 : decode cX8_linesOf 11 = .ok (.iconst 0, 1) := by decide +kernel
theorem dX8_linesOf_12 : decode cX8_linesOf 12 = .ok (.istore 4, 2) := by decide +kernel
theorem dX8_linesOf_14 : decode cX8_linesOf 14 = .ok (.iload 4, 2) := by decide +kernel
theorem dX8_linesOf_16 : decode cX8_linesOf 16 = .ok (.sipush 2560, 3) := by decide +kernel
theorem dX8_linesOf_19 : decode cX8_linesOf 19 = .ok (.if_icmp .ge 33, 3) := by decide +kernel
theorem dX8_linesOf_22 : decode cX8_linesOf 22 = .ok (.aload_n 0, 1) := by decide +kernel
theorem dX8_linesOf_23 : decode cX8_linesOf 23 = .ok (.getfield 69, 3) := by decide +kernel
theorem dX8_linesOf_26 : decode cX8_linesOf 26 = .ok (.iload 4, 2) := by decide +kernel
theorem dX8_linesOf_28 : decode cX8_linesOf 28 = .ok (.iconst (-1), 1) := by decide +kernel
theorem dX8_linesOf_29 : decode cX8_linesOf 29 = .ok (.iastore, 1) := by decide +kernel
theorem dX8_linesOf_30 : decode cX8_linesOf 30 = .ok (.aload_n 0, 1) := by decide +kernel
theorem dX8_linesOf_31 : decode cX8_linesOf 31 = .ok (.getfield 72, 3) := by decide +kernel
theorem dX8_linesOf_34 : decode cX8_linesOf 34 = .ok (.iload 4, 2) := by decide +kernel
theorem dX8_linesOf_36 : decode cX8_linesOf 36 = .ok (.iconst 0, 1) := by decide +kernel
theorem dX8_linesOf_37 : decode cX8_linesOf 37 = .ok (.bastore, 1) := by decide +kernel
theorem dX8_linesOf_38 : decode cX8_linesOf 38 = .ok (.aload_n 0, 1) := by decide +kernel
theorem dX8_linesOf_39 : decode cX8_linesOf 39 = .ok (.getfield 75, 3) := by decide +kernel
theorem dX8_linesOf_42 : decode cX8_linesOf 42 = .ok (.iload 4, 2) := by decide +kernel
theorem dX8_linesOf_44 : decode cX8_linesOf 44 = .ok (.iconst 0, 1) := by decide +kernel
theorem dX8_linesOf_45 : decode cX8_linesOf 45 = .ok (.bastore, 1) := by decide +kernel
theorem dX8_linesOf_46 : decode cX8_linesOf 46 = .ok (.iinc 4 1, 3) := by decide +kernel
theorem dX8_linesOf_49 : decode cX8_linesOf 49 = .ok (.goto (-35), 3) := by decide +kernel
theorem dX8_linesOf_52 : decode cX8_linesOf 52 = .ok (.iconst 0, 1) := by decide +kernel
theorem dX8_linesOf_53 : decode cX8_linesOf 53 = .ok (.istore 4, 2) := by decide +kernel
theorem dX8_linesOf_55 : decode cX8_linesOf 55 = .ok (.iload 4, 2) := by decide +kernel
theorem dX8_linesOf_57 : decode cX8_linesOf 57 = .ok (.bipush 31, 2) := by decide +kernel
theorem dX8_linesOf_59 : decode cX8_linesOf 59 = .ok (.if_icmp .ge 47, 3) := by decide +kernel
theorem dX8_linesOf_62 : decode cX8_linesOf 62 = .ok (.iconst 0, 1) := by decide +kernel
theorem dX8_linesOf_63 : decode cX8_linesOf 63 = .ok (.istore 5, 2) := by decide +kernel
theorem dX8_linesOf_65 : decode cX8_linesOf 65 = .ok (.iload 5, 2) := by decide +kernel
theorem dX8_linesOf_67 : decode cX8_linesOf 67 = .ok (.bipush 39, 2) := by decide +kernel
theorem dX8_linesOf_69 : decode cX8_linesOf 69 = .ok (.if_icmp .ge 31, 3) := by decide +kernel
theorem dX8_linesOf_72 : decode cX8_linesOf 72 = .ok (.aload_n 0, 1) := by decide +kernel
theorem dX8_linesOf_73 : decode cX8_linesOf 73 = .ok (.iload_n 1, 1) := by decide +kernel
theorem dX8_linesOf_74 : decode cX8_linesOf 74 = .ok (.iload 4, 2) := by decide +kernel
theorem dX8_linesOf_76 : decode cX8_linesOf 76 = .ok (.iload 5, 2) := by decide +kernel
theorem dX8_linesOf_78 : decode cX8_linesOf 78 = .ok (.invokevirtual 176, 3) := by decide +kernel
theorem dX8_linesOf_81 : decode cX8_linesOf 81 = .ok (.ifCond .eq 13, 3) := by decide +kernel
theorem dX8_linesOf_84 : decode cX8_linesOf 84 = .ok (.aload_n 0, 1) := by decide +kernel
theorem dX8_linesOf_85 : decode cX8_linesOf 85 = .ok (.iload_n 1, 1) := by decide +kernel
theorem dX8_linesOf_86 : decode cX8_linesOf 86 = .ok (.iload 4, 2) := by decide +kernel
theorem dX8_linesOf_88 : decode cX8_linesOf 88 = .ok (.iload 5, 2) := by decide +kernel
theorem dX8_linesOf_90 : decode cX8_linesOf 90 = .ok (.iload_n 3, 1) := by decide +kernel
theorem dX8_linesOf_91 : decode cX8_linesOf 91 = .ok (.invokevirtual 179, 3) := by decide +kernel
theorem dX8_linesOf_94 : decode cX8_linesOf 94 = .ok (.iinc 5 1, 3) := by decide +kernel
theorem dX8_linesOf_97 : decode cX8_linesOf 97 = .ok (.goto (-32), 3) := by decide +kernel
theorem dX8_linesOf_100 : decode cX8_linesOf 100 = .ok (.iinc 4 1, 3) := by decide +kernel
theorem dX8_linesOf_103 : decode cX8_linesOf 103 = .ok (.goto (-48), 3) := by decide +kernel
theorem dX8_linesOf_106 : decode cX8_linesOf 106 = .ok (.iconst 1, 1) := by decide +kernel
theorem dX8_linesOf_107 : decode cX8_linesOf 107 = .ok (.istore 4, 2) := by decide +kernel
theorem dX8_linesOf_109 : decode cX8_linesOf 109 = .ok (.iconst 0, 1) := by decide +kernel
theorem dX8_linesOf_110 : decode cX8_linesOf 110 = .ok (.istore 5, 2) := by decide +kernel
theorem dX8_linesOf_112 : decode cX8_linesOf 112 = .ok (.iload 5, 2) := by decide +kernel
theorem dX8_linesOf_114 : decode cX8_linesOf 114 = .ok (.sipush 2560, 3) := by decide +kernel
theorem dX8_linesOf_117 : decode cX8_linesOf 117 = .ok (.if_icmp .ge 45, 3) := by decide +kernel
theorem dX8_linesOf_120 : decode cX8_linesOf 120 = .ok (.iload 4, 2) := by decide +kernel
theorem dX8_linesOf_122 : decode cX8_linesOf 122 = .ok (.ifCond .eq 40, 3) := by decide +kernel
theorem dX8_linesOf_125 : decode cX8_linesOf 125 = .ok (.aload_n 0, 1) := by decide +kernel
theorem dX8_linesOf_126 : decode cX8_linesOf 126 = .ok (.getfield 69, 3) := by decide +kernel
theorem dX8_linesOf_129 : decode cX8_linesOf 129 = .ok (.iload 5, 2) := by decide +kernel
theorem dX8_linesOf_131 : decode cX8_linesOf 131 = .ok (.iaload, 1) := by decide +kernel
theorem dX8_linesOf_132 : decode cX8_linesOf 132 = .ok (.ifCond .lt 24, 3) := by decide +kernel
theorem dX8_linesOf_135 : decode cX8_linesOf 135 = .ok (.aload_n 0, 1) := by decide +kernel
theorem dX8_linesOf_136 : decode cX8_linesOf 136 = .ok (.getfield 72, 3) := by decide +kernel
theorem dX8_linesOf_139 : decode cX8_linesOf 139 = .ok (.iload 5, 2) := by decide +kernel
theorem dX8_linesOf_141 : decode cX8_linesOf 141 = .ok (.baload, 1) := by decide +kernel
theorem dX8_linesOf_142 : decode cX8_linesOf 142 = .ok (.ifCond .ne 14, 3) := by decide +kernel
theorem dX8_linesOf_145 : decode cX8_linesOf 145 = .ok (.aload_n 0, 1) := by decide +kernel
theorem dX8_linesOf_146 : decode cX8_linesOf 146 = .ok (.iload_n 1, 1) := by decide +kernel
theorem dX8_linesOf_147 : decode cX8_linesOf 147 = .ok (.iload_n 2, 1) := by decide +kernel
theorem dX8_linesOf_148 : decode cX8_linesOf 148 = .ok (.iload 5, 2) := by decide +kernel
theorem dX8_linesOf_150 : decode cX8_linesOf 150 = .ok (.iconst 0, 1) := by decide +kernel
theorem dX8_linesOf_151 : decode cX8_linesOf 151 = .ok (.invokevirtual 182, 3) := by decide +kernel
theorem dX8_linesOf_154 : decode cX8_linesOf 154 = .ok (.istore 4, 2) := by decide +kernel
theorem dX8_linesOf_156 : decode cX8_linesOf 156 = .ok (.iinc 5 1, 3) := by decide +kernel
theorem dX8_linesOf_159 : decode cX8_linesOf 159 = .ok (.goto (-47), 3) := by decide +kernel
theorem dX8_linesOf_162 : decode cX8_linesOf 162 = .ok (.iconst 0, 1) := by decide +kernel
theorem dX8_linesOf_163 : decode cX8_linesOf 163 = .ok (.istore 5, 2) := by decide +kernel
theorem dX8_linesOf_165 : decode cX8_linesOf 165 = .ok (.iload 5, 2) := by decide +kernel
theorem dX8_linesOf_167 : decode cX8_linesOf 167 = .ok (.sipush 2560, 3) := by decide +kernel
theorem dX8_linesOf_170 : decode cX8_linesOf 170 = .ok (.if_icmp .ge 45, 3) := by decide +kernel
theorem dX8_linesOf_173 : decode cX8_linesOf 173 = .ok (.iload 4, 2) := by decide +kernel
theorem dX8_linesOf_175 : decode cX8_linesOf 175 = .ok (.ifCond .eq 40, 3) := by decide +kernel
theorem dX8_linesOf_178 : decode cX8_linesOf 178 = .ok (.aload_n 0, 1) := by decide +kernel
theorem dX8_linesOf_179 : decode cX8_linesOf 179 = .ok (.getfield 69, 3) := by decide +kernel
theorem dX8_linesOf_182 : decode cX8_linesOf 182 = .ok (.iload 5, 2) := by decide +kernel
theorem dX8_linesOf_184 : decode cX8_linesOf 184 = .ok (.iaload, 1) := by decide +kernel
theorem dX8_linesOf_185 : decode cX8_linesOf 185 = .ok (.ifCond .lt 24, 3) := by decide +kernel
theorem dX8_linesOf_188 : decode cX8_linesOf 188 = .ok (.aload_n 0, 1) := by decide +kernel
theorem dX8_linesOf_189 : decode cX8_linesOf 189 = .ok (.getfield 75, 3) := by decide +kernel
theorem dX8_linesOf_192 : decode cX8_linesOf 192 = .ok (.iload 5, 2) := by decide +kernel
theorem dX8_linesOf_194 : decode cX8_linesOf 194 = .ok (.baload, 1) := by decide +kernel
theorem dX8_linesOf_195 : decode cX8_linesOf 195 = .ok (.ifCond .ne 14, 3) := by decide +kernel
theorem dX8_linesOf_198 : decode cX8_linesOf 198 = .ok (.aload_n 0, 1) := by decide +kernel
theorem dX8_linesOf_199 : decode cX8_linesOf 199 = .ok (.iload_n 1, 1) := by decide +kernel
theorem dX8_linesOf_200 : decode cX8_linesOf 200 = .ok (.iload_n 2, 1) := by decide +kernel
theorem dX8_linesOf_201 : decode cX8_linesOf 201 = .ok (.iload 5, 2) := by decide +kernel
theorem dX8_linesOf_203 : decode cX8_linesOf 203 = .ok (.iconst 1, 1) := by decide +kernel
theorem dX8_linesOf_204 : decode cX8_linesOf 204 = .ok (.invokevirtual 182, 3) := by decide +kernel
theorem dX8_linesOf_207 : decode cX8_linesOf 207 = .ok (.istore 4, 2) := by decide +kernel
theorem dX8_linesOf_209 : decode cX8_linesOf 209 = .ok (.iinc 5 1, 3) := by decide +kernel
theorem dX8_linesOf_212 : decode cX8_linesOf 212 = .ok (.goto (-47), 3) := by decide +kernel
theorem dX8_linesOf_215 : decode cX8_linesOf 215 = .ok (.iload 4, 2) := by decide +kernel
theorem dX8_linesOf_217 : decode cX8_linesOf 217 = .ok (.ireturn, 1) := by decide +kernel
set_option maxRecDepth 20000 in
theorem ggX8_tellLine_X8_h : GoodIn wsX8_tellLine wsX8_h := goodIn_r _ [18, 19, 20, 21, 22, 23, 24, 25, 26, 27, 28, 29, 30, 31, 32, 33, 34, 35, 36, 37, 38, 39, 40, 41, 42, 43, 44, 45, 46, 47, 48, 49, 50, 51, 52] (by decide +kernel) (by decide +kernel)
set_option maxRecDepth 20000 in
theorem gX8_tellLine_X8_h : GoodIn wsX8_tellLine (wsV RX8 127 RX8 yX8_h wsX8_h) := goodIn_app (goodIn_of _ (by decide +kernel)) ggX8_tellLine_X8_h
theorem dX8_tellLine_0 : decode cX8_tellLine 0 = .ok (.iconst 0, 1) := by decide +kernel
theorem dX8_tellLine_1 : decode cX8_tellLine 1 = .ok (.istore 5, 2) := by decide +kernel
theorem dX8_tellLine_3 : decode cX8_tellLine 3 = .ok (.iload_n 3, 1) := by decide +kernel
theorem dX8_tellLine_4 : decode cX8_tellLine 4 = .ok (.istore 6, 2) := by decide +kernel
theorem dX8_tellLine_6 : decode cX8_tellLine 6 = .ok (.iconst 1, 1) := by decide +kernel
theorem dX8_tellLine_7 : decode cX8_tellLine 7 = .ok (.istore 7, 2) := by decide +kernel
theorem dX8_tellLine_9 : decode cX8_tellLine 9 = .ok (.iload 7, 2) := by decide +kernel
theorem dX8_tellLine_11 : decode cX8_tellLine 11 = .ok (.ifCond .eq 36, 3) := by decide +kernel
theorem dX8_tellLine_14 : decode cX8_tellLine 14 = .ok (.iinc 5 1, 3) := by decide +kernel
theorem dX8_tellLine_17 : decode cX8_tellLine 17 = .ok (.aload_n 0, 1) := by decide +kernel
theorem dX8_tellLine_18 : decode cX8_tellLine 18 = .ok (.getfield 69, 3) := by decide +kernel
theorem dX8_tellLine_21 : decode cX8_tellLine 21 = .ok (.iload 6, 2) := by decide +kernel
theorem dX8_tellLine_23 : decode cX8_tellLine 23 = .ok (.iaload, 1) := by decide +kernel
theorem dX8_tellLine_24 : decode cX8_tellLine 24 = .ok (.istore 6, 2) := by decide +kernel
theorem dX8_tellLine_26 : decode cX8_tellLine 26 = .ok (.iload 6, 2) := by decide +kernel
theorem dX8_tellLine_28 : decode cX8_tellLine 28 = .ok (.ifCond .lt 13, 3) := by decide +kernel
theorem dX8_tellLine_31 : decode cX8_tellLine 31 = .ok (.iload 6, 2) := by decide +kernel
theorem dX8_tellLine_33 : decode cX8_tellLine 33 = .ok (.iload_n 3, 1) := by decide +kernel
theorem dX8_tellLine_34 : decode cX8_tellLine 34 = .ok (.if_icmp .eq 7, 3) := by decide +kernel
theorem dX8_tellLine_37 : decode cX8_tellLine 37 = .ok (.iconst 1, 1) := by decide +kernel
theorem dX8_tellLine_38 : decode cX8_tellLine 38 = .ok (.goto 4, 3) := by decide +kernel
theorem dX8_tellLine_41 : decode cX8_tellLine 41 = .ok (.iconst 0, 1) := by decide +kernel
theorem dX8_tellLine_42 : decode cX8_tellLine 42 = .ok (.istore 7, 2) := by decide +kernel
theorem dX8_tellLine_44 : decode cX8_tellLine 44 = .ok (.goto (-35), 3) := by decide +kernel
theorem dX8_tellLine_47 : decode cX8_tellLine 47 = .ok (.aload_n 0, 1) := by decide +kernel
theorem dX8_tellLine_48 : decode cX8_tellLine 48 = .ok (.getfield 156, 3) := by decide +kernel
theorem dX8_tellLine_51 : decode cX8_tellLine 51 = .ok (.sipush 400, 3) := by decide +kernel
theorem dX8_tellLine_54 : decode cX8_tellLine 54 = .ok (.if_icmp .eq 16, 3) := by decide +kernel
theorem dX8_tellLine_57 : decode cX8_tellLine 57 = .ok (.aload_n 0, 1) := by decide +kernel
theorem dX8_tellLine_58 : decode cX8_tellLine 58 = .ok (.getfield 159, 3) := by decide +kernel
theorem dX8_tellLine_61 : decode cX8_tellLine 61 = .ok (.iload 5, 2) := by decide +kernel
theorem dX8_tellLine_63 : decode cX8_tellLine 63 = .ok (.iadd, 1) := by decide +kernel
theorem dX8_tellLine_64 : decode cX8_tellLine 64 = .ok (.sipush 8000, 3) := by decide +kernel
theorem dX8_tellLine_67 : decode cX8_tellLine 67 = .ok (.if_icmp .le 5, 3) := by decide +kernel
theorem dX8_tellLine_70 : decode cX8_tellLine 70 = .ok (.iconst 0, 1) := by decide +kernel
theorem dX8_tellLine_71 : decode cX8_tellLine 71 = .ok (.ireturn, 1) := by decide +kernel
theorem dX8_tellLine_72 : decode cX8_tellLine 72 = .ok (.aload_n 0, 1) := by decide +kernel
theorem dX8_tellLine_73 : decode cX8_tellLine 73 = .ok (.getfield 29, 3) := by decide +kernel
theorem dX8_tellLine_76 : decode cX8_tellLine 76 = .ok (.aload_n 0, 1) := by decide +kernel
theorem dX8_tellLine_77 : decode cX8_tellLine 77 = .ok (.getfield 156, 3) := by decide +kernel
theorem dX8_tellLine_80 : decode cX8_tellLine 80 = .ok (.iload_n 2, 1) := by decide +kernel
theorem dX8_tellLine_81 : decode cX8_tellLine 81 = .ok (.iastore, 1) := by decide +kernel
theorem dX8_tellLine_82 : decode cX8_tellLine 82 = .ok (.aload_n 0, 1) := by decide +kernel
theorem dX8_tellLine_83 : decode cX8_tellLine 83 = .ok (.getfield 32, 3) := by decide +kernel
theorem dX8_tellLine_86 : decode cX8_tellLine 86 = .ok (.aload_n 0, 1) := by decide +kernel
theorem dX8_tellLine_87 : decode cX8_tellLine 87 = .ok (.getfield 156, 3) := by decide +kernel
theorem dX8_tellLine_90 : decode cX8_tellLine 90 = .ok (.sipush 1024, 3) := by decide +kernel
theorem dX8_tellLine_93 : decode cX8_tellLine 93 = .ok (.aload_n 0, 1) := by decide +kernel
theorem dX8_tellLine_94 : decode cX8_tellLine 94 = .ok (.getfield 26, 3) := by decide +kernel
theorem dX8_tellLine_97 : decode cX8_tellLine 97 = .ok (.iload_n 2, 1) := by decide +kernel
theorem dX8_tellLine_98 : decode cX8_tellLine 98 = .ok (.iaload, 1) := by decide +kernel
theorem dX8_tellLine_99 : decode cX8_tellLine 99 = .ok (.imul, 1) := by decide +kernel
theorem dX8_tellLine_100 : decode cX8_tellLine 100 = .ok (.iastore, 1) := by decide +kernel
theorem dX8_tellLine_101 : decode cX8_tellLine 101 = .ok (.aload_n 0, 1) := by decide +kernel
theorem dX8_tellLine_102 : decode cX8_tellLine 102 = .ok (.getfield 35, 3) := by decide +kernel
theorem dX8_tellLine_105 : decode cX8_tellLine 105 = .ok (.aload_n 0, 1) := by decide +kernel
theorem dX8_tellLine_106 : decode cX8_tellLine 106 = .ok (.getfield 156, 3) := by decide +kernel
theorem dX8_tellLine_109 : decode cX8_tellLine 109 = .ok (.aload_n 0, 1) := by decide +kernel
theorem dX8_tellLine_110 : decode cX8_tellLine 110 = .ok (.getfield 159, 3) := by decide +kernel
theorem dX8_tellLine_113 : decode cX8_tellLine 113 = .ok (.iastore, 1) := by decide +kernel
theorem dX8_tellLine_114 : decode cX8_tellLine 114 = .ok (.aload_n 0, 1) := by decide +kernel
theorem dX8_tellLine_115 : decode cX8_tellLine 115 = .ok (.getfield 38, 3) := by decide +kernel
theorem dX8_tellLine_118 : decode cX8_tellLine 118 = .ok (.aload_n 0, 1) := by decide +kernel
theorem dX8_tellLine_119 : decode cX8_tellLine 119 = .ok (.getfield 156, 3) := by decide +kernel
theorem dX8_tellLine_122 : decode cX8_tellLine 122 = .ok (.iload 5, 2) := by decide +kernel
theorem dX8_tellLine_124 : decode cX8_tellLine 124 = .ok (.iastore, 1) := by decide +kernel
theorem dX8_tellLine_125 : decode cX8_tellLine 125 = .ok (.aload_n 0, 1) := by decide +kernel
theorem dX8_tellLine_126 : decode cX8_tellLine 126 = .ok (.getfield 41, 3) := by decide +kernel
theorem dX8_tellLine_129 : decode cX8_tellLine 129 = .ok (.aload_n 0, 1) := by decide +kernel
theorem dX8_tellLine_130 : decode cX8_tellLine 130 = .ok (.getfield 156, 3) := by decide +kernel
theorem dX8_tellLine_133 : decode cX8_tellLine 133 = .ok (.iload 4, 2) := by decide +kernel
theorem dX8_tellLine_135 : decode cX8_tellLine 135 = .ok (.bastore, 1) := by decide +kernel
theorem dX8_tellLine_136 : decode cX8_tellLine 136 = .ok (.aload_n 0, 1) := by decide +kernel
theorem dX8_tellLine_137 : decode cX8_tellLine 137 = .ok (.dup, 1) := by decide +kernel
theorem dX8_tellLine_138 : decode cX8_tellLine 138 = .ok (.getfield 156, 3) := by decide +kernel
theorem dX8_tellLine_141 : decode cX8_tellLine 141 = .ok (.iconst 1, 1) := by decide +kernel
theorem dX8_tellLine_142 : decode cX8_tellLine 142 = .ok (.iadd, 1) := by decide +kernel
theorem dX8_tellLine_143 : decode cX8_tellLine 143 = .ok (.putfield 156, 3) := by decide +kernel
theorem dX8_tellLine_146 : decode cX8_tellLine 146 = .ok (.iload_n 3, 1) := by decide +kernel
theorem dX8_tellLine_147 : decode cX8_tellLine 147 = .ok (.istore 6, 2) := by decide +kernel
theorem dX8_tellLine_149 : decode cX8_tellLine 149 = .ok (.iconst 0, 1) := by decide +kernel
theorem dX8_tellLine_150 : decode cX8_tellLine 150 = .ok (.istore 8, 2) := by decide +kernel
theorem dX8_tellLine_152 : decode cX8_tellLine 152 = .ok (.iload 8, 2) := by decide +kernel
theorem dX8_tellLine_154 : decode cX8_tellLine 154 = .ok (.iload 5, 2) := by decide +kernel
theorem dX8_tellLine_156 : decode cX8_tellLine 156 = .ok (.if_icmp .ge 122, 3) := by decide +kernel
theorem dX8_tellLine_159 : decode cX8_tellLine 159 = .ok (.aload_n 0, 1) := by decide +kernel
theorem dX8_tellLine_160 : decode cX8_tellLine 160 = .ok (.getfield 75, 3) := by decide +kernel
theorem dX8_tellLine_163 : decode cX8_tellLine 163 = .ok (.iload 6, 2) := by decide +kernel
theorem dX8_tellLine_165 : decode cX8_tellLine 165 = .ok (.iconst 1, 1) := by decide +kernel
theorem dX8_tellLine_166 : decode cX8_tellLine 166 = .ok (.bastore, 1) := by decide +kernel
theorem dX8_tellLine_167 : decode cX8_tellLine 167 = .ok (.iload 6, 2) := by decide +kernel
theorem dX8_tellLine_169 : decode cX8_tellLine 169 = .ok (.bipush 80, 2) := by decide +kernel
theorem dX8_tellLine_171 : decode cX8_tellLine 171 = .ok (.idiv, 1) := by decide +kernel
theorem dX8_tellLine_172 : decode cX8_tellLine 172 = .ok (.istore 9, 2) := by decide +kernel
theorem dX8_tellLine_174 : decode cX8_tellLine 174 = .ok (.iload 6, 2) := by decide +kernel
theorem dX8_tellLine_176 : decode cX8_tellLine 176 = .ok (.iconst 2, 1) := by decide +kernel
theorem dX8_tellLine_177 : decode cX8_tellLine 177 = .ok (.idiv, 1) := by decide +kernel
theorem dX8_tellLine_178 : decode cX8_tellLine 178 = .ok (.bipush 40, 2) := by decide +kernel
theorem dX8_tellLine_180 : decode cX8_tellLine 180 = .ok (.irem, 1) := by decide +kernel
theorem dX8_tellLine_181 : decode cX8_tellLine 181 = .ok (.istore 10, 2) := by decide +kernel
theorem dX8_tellLine_183 : decode cX8_tellLine 183 = .ok (.aload_n 0, 1) := by decide +kernel
theorem dX8_tellLine_184 : decode cX8_tellLine 184 = .ok (.getfield 57, 3) := by decide +kernel
theorem dX8_tellLine_187 : decode cX8_tellLine 187 = .ok (.aload_n 0, 1) := by decide +kernel
theorem dX8_tellLine_188 : decode cX8_tellLine 188 = .ok (.getfield 159, 3) := by decide +kernel
theorem dX8_tellLine_191 : decode cX8_tellLine 191 = .ok (.iload 6, 2) := by decide +kernel
theorem dX8_tellLine_193 : decode cX8_tellLine 193 = .ok (.iastore, 1) := by decide +kernel
theorem dX8_tellLine_194 : decode cX8_tellLine 194 = .ok (.aload_n 0, 1) := by decide +kernel
theorem dX8_tellLine_195 : decode cX8_tellLine 195 = .ok (.getfield 60, 3) := by decide +kernel
theorem dX8_tellLine_198 : decode cX8_tellLine 198 = .ok (.aload_n 0, 1) := by decide +kernel
theorem dX8_tellLine_199 : decode cX8_tellLine 199 = .ok (.getfield 159, 3) := by decide +kernel
theorem dX8_tellLine_202 : decode cX8_tellLine 202 = .ok (.aload_n 0, 1) := by decide +kernel
theorem dX8_tellLine_203 : decode cX8_tellLine 203 = .ok (.iload_n 1, 1) := by decide +kernel
theorem dX8_tellLine_204 : decode cX8_tellLine 204 = .ok (.iload 9, 2) := by decide +kernel
theorem dX8_tellLine_206 : decode cX8_tellLine 206 = .ok (.iload 10, 2) := by decide +kernel
theorem dX8_tellLine_208 : decode cX8_tellLine 208 = .ok (.invokevirtual 127, 3) := by decide +kernel
theorem dX8_tellLine_211 : decode cX8_tellLine 211 = .ok (.iastore, 1) := by decide +kernel
theorem dX8_tellLine_212 : decode cX8_tellLine 212 = .ok (.aload_n 0, 1) := by decide +kernel
theorem dX8_tellLine_213 : decode cX8_tellLine 213 = .ok (.getfield 63, 3) := by decide +kernel
theorem dX8_tellLine_216 : decode cX8_tellLine 216 = .ok (.aload_n 0, 1) := by decide +kernel
theorem dX8_tellLine_217 : decode cX8_tellLine 217 = .ok (.getfield 159, 3) := by decide +kernel
theorem dX8_tellLine_220 : decode cX8_tellLine 220 = .ok (.iload 6, 2) := by decide +kernel
theorem dX8_tellLine_222 : decode cX8_tellLine 222 = .ok (.iconst 2, 1) := by decide +kernel
theorem dX8_tellLine_223 : decode cX8_tellLine 223 = .ok (.irem, 1) := by decide +kernel
theorem dX8_tellLine_224 : decode cX8_tellLine 224 = .ok (.ifCond .ne 17, 3) := by decide +kernel
theorem dX8_tellLine_227 : decode cX8_tellLine 227 = .ok (.aload_n 0, 1) := by decide +kernel
theorem dX8_tellLine_228 : decode cX8_tellLine 228 = .ok (.iload_n 1, 1) := by decide +kernel
theorem dX8_tellLine_229 : decode cX8_tellLine 229 = .ok (.iload 9, 2) := by decide +kernel
theorem dX8_tellLine_231 : decode cX8_tellLine 231 = .ok (.iload 10, 2) := by decide +kernel
theorem dX8_tellLine_233 : decode cX8_tellLine 233 = .ok (.iconst 1, 1) := by decide +kernel
theorem dX8_tellLine_234 : decode cX8_tellLine 234 = .ok (.iadd, 1) := by decide +kernel
theorem dX8_tellLine_235 : decode cX8_tellLine 235 = .ok (.invokevirtual 127, 3) := by decide +kernel
theorem dX8_tellLine_238 : decode cX8_tellLine 238 = .ok (.goto 14, 3) := by decide +kernel
theorem dX8_tellLine_241 : decode cX8_tellLine 241 = .ok (.aload_n 0, 1) := by decide +kernel
theorem dX8_tellLine_242 : decode cX8_tellLine 242 = .ok (.iload_n 1, 1) := by decide +kernel
theorem dX8_tellLine_243 : decode cX8_tellLine 243 = .ok (.iload 9, 2) := by decide +kernel
theorem dX8_tellLine_245 : decode cX8_tellLine 245 = .ok (.iconst 1, 1) := by decide +kernel
theorem dX8_tellLine_246 : decode cX8_tellLine 246 = .ok (.iadd, 1) := by decide +kernel
theorem dX8_tellLine_247 : decode cX8_tellLine 247 = .ok (.iload 10, 2) := by decide +kernel
theorem dX8_tellLine_249 : decode cX8_tellLine 249 = .ok (.invokevirtual 127, 3) := by decide +kernel
theorem dX8_tellLine_252 : decode cX8_tellLine 252 = .ok (.iastore, 1) := by decide +kernel
theorem dX8_tellLine_253 : decode cX8_tellLine 253 = .ok (.aload_n 0, 1) := by decide +kernel
theorem dX8_tellLine_254 : decode cX8_tellLine 254 = .ok (.dup, 1) := by decide +kernel
theorem dX8_tellLine_255 : decode cX8_tellLine 255 = .ok (.getfield 159, 3) := by decide +kernel
theorem dX8_tellLine_258 : decode cX8_tellLine 258 = .ok (.iconst 1, 1) := by decide +kernel
theorem dX8_tellLine_259 : decode cX8_tellLine 259 = .ok (.iadd, 1) := by decide +kernel
theorem dX8_tellLine_260 : decode cX8_tellLine 260 = .ok (.putfield 159, 3) := by decide +kernel
theorem dX8_tellLine_263 : decode cX8_tellLine 263 = .ok (.aload_n 0, 1) := by decide +kernel
theorem dX8_tellLine_264 : decode cX8_tellLine 264 = .ok (.getfield 69, 3) := by decide +kernel
theorem dX8_tellLine_267 : decode cX8_tellLine 267 = .ok (.iload 6, 2) := by decide +kernel
theorem dX8_tellLine_269 : decode cX8_tellLine 269 = .ok (.iaload, 1) := by decide +kernel
theorem dX8_tellLine_270 : decode cX8_tellLine 270 = .ok (.istore 6, 2) := by decide +kernel
theorem dX8_tellLine_272 : decode cX8_tellLine 272 = .ok (.iinc 8 1, 3) := by decide +kernel
theorem dX8_tellLine_275 : decode cX8_tellLine 275 = .ok (.goto (-123), 3) := by decide +kernel
theorem dX8_tellLine_278 : decode cX8_tellLine 278 = .ok (.iconst 1, 1) := by decide +kernel
theorem dX8_tellLine_279 : decode cX8_tellLine 279 = .ok (.ireturn, 1) := by decide +kernel
theorem dX8_isIn_0 : decode cX8_isIn 0 = .ok (.aload_n 0, 1) := by decide +kernel
theorem dX8_isIn_1 : decode cX8_isIn 1 = .ok (.getfield 53, 3) := by decide +kernel
theorem dX8_isIn_4 : decode cX8_isIn 4 = .ok (.bipush 20, 2) := by decide +kernel
theorem dX8_isIn_6 : decode cX8_isIn 6 = .ok (.iload_n 1, 1) := by decide +kernel
theorem dX8_isIn_7 : decode cX8_isIn 7 = .ok (.imul, 1) := by decide +kernel
theorem dX8_isIn_8 : decode cX8_isIn 8 = .ok (.iload_n 2, 1) := by decide +kernel
theorem dX8_isIn_9 : decode cX8_isIn 9 = .ok (.bipush 64, 2) := by decide +kernel
theorem dX8_isIn_11 : decode cX8_isIn 11 = .ok (.idiv, 1) := by decide +kernel
theorem dX8_isIn_12 : decode cX8_isIn 12 = .ok (.iadd, 1) := by decide +kernel
theorem dX8_isIn_13 : decode cX8_isIn 13 = .ok (.laload, 1) := by decide +kernel
theorem dX8_isIn_14 : decode cX8_isIn 14 = .ok (.iload_n 2, 1) := by decide +kernel
theorem dX8_isIn_15 : decode cX8_isIn 15 = .ok (.bipush 64, 2) := by decide +kernel
theorem dX8_isIn_17 : decode cX8_isIn 17 = .ok (.irem, 1) := by decide +kernel
theorem dX8_isIn_18 : decode cX8_isIn 18 = .ok (.lshr, 1) := by decide +kernel
theorem dX8_isIn_19 : decode cX8_isIn 19 = .ok (.lconst 1, 1) := by decide +kernel
theorem dX8_isIn_20 : decode cX8_isIn 20 = .ok (.land, 1) := by decide +kernel
theorem dX8_isIn_21 : decode cX8_isIn 21 = .ok (.lconst 1, 1) := by decide +kernel
theorem dX8_isIn_22 : decode cX8_isIn 22 = .ok (.lcmp, 1) := by decide +kernel
theorem dX8_isIn_23 : decode cX8_isIn 23 = .ok (.ifCond .ne 7, 3) := by decide +kernel
theorem dX8_isIn_26 : decode cX8_isIn 26 = .ok (.iconst 1, 1) := by decide +kernel
theorem dX8_isIn_27 : decode cX8_isIn 27 = .ok (.goto 4, 3) := by decide +kernel
theorem dX8_isIn_30 : decode cX8_isIn 30 = .ok (.iconst 0, 1) := by decide +kernel
theorem dX8_isIn_31 : decode cX8_isIn 31 = .ok (.ireturn, 1) := by decide +kernel
set_option maxRecDepth 20000 in
theorem ggX8_surrounds_X8_isIn : GoodIn wsX8_surrounds wsX8_isIn := goodIn_r _ [15, 1, 16, 17, 18, 19, 20, 21, 22, 23, 24, 25, 26, 27, 28, 29, 30, 31, 32, 33, 34, 35, 36, 37, 38, 39, 40, 41, 42, 43, 44, 45, 46, 47, 48] (by decide +kernel) (by decide +kernel)
set_option maxRecDepth 20000 in
theorem gX8_surrounds_X8_isIn : GoodIn wsX8_surrounds (wsV RX8 186 RX8 yX8_isIn wsX8_isIn) := goodIn_app (goodIn_of _ (by decide +kernel)) ggX8_surrounds_X8_isIn
theorem dX8_surrounds_0 : decode cX8_surrounds 0 = .ok (.iconst 0, 1) := by decide +kernel
theorem dX8_surrounds_1 : decode cX8_surrounds 1 = .ok (.istore_n 2, 1) := by decide +kernel
theorem dX8_surrounds_2 : decode cX8_surrounds 2 = .ok (.iload_n 2, 1) := by decide +kernel
theorem dX8_surrounds_3 : decode cX8_surrounds 3 = .ok (.bipush 20, 2) := by decide +kernel
theorem dX8_surrounds_5 : decode cX8_surrounds 5 = .ok (.if_icmp .ge 21, 3) := by decide +kernel
theorem dX8_surrounds_8 : decode cX8_surrounds 8 = .ok (.aload_n 0, 1) := by decide +kernel
theorem dX8_surrounds_9 : decode cX8_surrounds 9 = .ok (.getfield 53, 3) := by decide +kernel
theorem dX8_surrounds_12 : decode cX8_surrounds 12 = .ok (.bipush 20, 2) := by decide +kernel
theorem dX8_surrounds_14 : decode cX8_surrounds 14 = .ok (.iload_n 1, 1) := by decide +kernel
theorem dX8_surrounds_15 : decode cX8_surrounds 15 = .ok (.imul, 1) := by decide +kernel
theorem dX8_surrounds_16 : decode cX8_surrounds 16 = .ok (.iload_n 2, 1) := by decide +kernel
theorem dX8_surrounds_17 : decode cX8_surrounds 17 = .ok (.iadd, 1) := by decide +kernel
theorem dX8_surrounds_18 : decode cX8_surrounds 18 = .ok (.lconst 0, 1) := by decide +kernel
theorem dX8_surrounds_19 : decode cX8_surrounds 19 = .ok (.lastore, 1) := by decide +kernel
theorem dX8_surrounds_20 : decode cX8_surrounds 20 = .ok (.iinc 2 1, 3) := by decide +kernel
theorem dX8_surrounds_23 : decode cX8_surrounds 23 = .ok (.goto (-21), 3) := by decide +kernel
theorem dX8_surrounds_26 : decode cX8_surrounds 26 = .ok (.aload_n 0, 1) := by decide +kernel
theorem dX8_surrounds_27 : decode cX8_surrounds 27 = .ok (.getfield 44, 3) := by decide +kernel
theorem dX8_surrounds_30 : decode cX8_surrounds 30 = .ok (.iload_n 1, 1) := by decide +kernel
theorem dX8_surrounds_31 : decode cX8_surrounds 31 = .ok (.iconst 0, 1) := by decide +kernel
theorem dX8_surrounds_32 : decode cX8_surrounds 32 = .ok (.iastore, 1) := by decide +kernel
theorem dX8_surrounds_33 : decode cX8_surrounds 33 = .ok (.aload_n 0, 1) := by decide +kernel
theorem dX8_surrounds_34 : decode cX8_surrounds 34 = .ok (.getfield 50, 3) := by decide +kernel
theorem dX8_surrounds_37 : decode cX8_surrounds 37 = .ok (.iload_n 1, 1) := by decide +kernel
theorem dX8_surrounds_38 : decode cX8_surrounds 38 = .ok (.iconst 0, 1) := by decide +kernel
theorem dX8_surrounds_39 : decode cX8_surrounds 39 = .ok (.bastore, 1) := by decide +kernel
theorem dX8_surrounds_40 : decode cX8_surrounds 40 = .ok (.aload_n 0, 1) := by decide +kernel
theorem dX8_surrounds_41 : decode cX8_surrounds 41 = .ok (.getfield 41, 3) := by decide +kernel
theorem dX8_surrounds_44 : decode cX8_surrounds 44 = .ok (.iload_n 1, 1) := by decide +kernel
theorem dX8_surrounds_45 : decode cX8_surrounds 45 = .ok (.baload, 1) := by decide +kernel
theorem dX8_surrounds_46 : decode cX8_surrounds 46 = .ok (.ifCond .ne 4, 3) := by decide +kernel
theorem dX8_surrounds_49 : decode cX8_surrounds 49 = .ok (.return_, 1) := by decide +kernel
theorem dX8_surrounds_50 : decode cX8_surrounds 50 = .ok (.iconst 0, 1) := by decide +kernel
theorem dX8_surrounds_51 : decode cX8_surrounds 51 = .ok (.istore_n 2, 1) := by decide +kernel
theorem dX8_surrounds_52 : decode cX8_surrounds 52 = .ok (.iload_n 2, 1) := by decide +kernel
theorem dX8_surrounds_53 : decode cX8_surrounds 53 = .ok (.sipush 1280, 3) := by decide +kernel
theorem dX8_surrounds_56 : decode cX8_surrounds 56 = .ok (.if_icmp .ge 153, 3) := by decide +kernel
theorem dX8_surrounds_59 : decode cX8_surrounds 59 = .ok (.iconst 0, 1) := by decide +kernel
theorem dX8_surrounds_60 : decode cX8_surrounds 60 = .ok (.istore_n 3, 1) := by decide +kernel
theorem dX8_surrounds_61 : decode cX8_surrounds 61 = .ok (.aload_n 0, 1) := by decide +kernel
theorem dX8_surrounds_62 : decode cX8_surrounds 62 = .ok (.getfield 35, 3) := by decide +kernel
theorem dX8_surrounds_65 : decode cX8_surrounds 65 = .ok (.iload_n 1, 1) := by decide +kernel
theorem dX8_surrounds_66 : decode cX8_surrounds 66 = .ok (.iaload, 1) := by decide +kernel
theorem dX8_surrounds_67 : decode cX8_surrounds 67 = .ok (.istore 4, 2) := by decide +kernel
theorem dX8_surrounds_69 : decode cX8_surrounds 69 = .ok (.iload 4, 2) := by decide +kernel
theorem dX8_surrounds_71 : decode cX8_surrounds 71 = .ok (.aload_n 0, 1) := by decide +kernel
theorem dX8_surrounds_72 : decode cX8_surrounds 72 = .ok (.getfield 35, 3) := by decide +kernel
theorem dX8_surrounds_75 : decode cX8_surrounds 75 = .ok (.iload_n 1, 1) := by decide +kernel
theorem dX8_surrounds_76 : decode cX8_surrounds 76 = .ok (.iaload, 1) := by decide +kernel
theorem dX8_surrounds_77 : decode cX8_surrounds 77 = .ok (.aload_n 0, 1) := by decide +kernel
theorem dX8_surrounds_78 : decode cX8_surrounds 78 = .ok (.getfield 38, 3) := by decide +kernel
theorem dX8_surrounds_81 : decode cX8_surrounds 81 = .ok (.iload_n 1, 1) := by decide +kernel
theorem dX8_surrounds_82 : decode cX8_surrounds 82 = .ok (.iaload, 1) := by decide +kernel
theorem dX8_surrounds_83 : decode cX8_surrounds 83 = .ok (.iadd, 1) := by decide +kernel
theorem dX8_surrounds_84 : decode cX8_surrounds 84 = .ok (.if_icmp .ge 67, 3) := by decide +kernel
theorem dX8_surrounds_87 : decode cX8_surrounds 87 = .ok (.aload_n 0, 1) := by decide +kernel
theorem dX8_surrounds_88 : decode cX8_surrounds 88 = .ok (.getfield 66, 3) := by decide +kernel
theorem dX8_surrounds_91 : decode cX8_surrounds 91 = .ok (.iload_n 2, 1) := by decide +kernel
theorem dX8_surrounds_92 : decode cX8_surrounds 92 = .ok (.baload, 1) := by decide +kernel
theorem dX8_surrounds_93 : decode cX8_surrounds 93 = .ok (.ifCond .eq 58, 3) := by decide +kernel
theorem dX8_surrounds_96 : decode cX8_surrounds 96 = .ok (.aload_n 0, 1) := by decide +kernel
theorem dX8_surrounds_97 : decode cX8_surrounds 97 = .ok (.getfield 57, 3) := by decide +kernel
theorem dX8_surrounds_100 : decode cX8_surrounds 100 = .ok (.iload 4, 2) := by decide +kernel
theorem dX8_surrounds_102 : decode cX8_surrounds 102 = .ok (.iaload, 1) := by decide +kernel
theorem dX8_surrounds_103 : decode cX8_surrounds 103 = .ok (.iconst 2, 1) := by decide +kernel
theorem dX8_surrounds_104 : decode cX8_surrounds 104 = .ok (.idiv, 1) := by decide +kernel
theorem dX8_surrounds_105 : decode cX8_surrounds 105 = .ok (.istore 5, 2) := by decide +kernel
theorem dX8_surrounds_107 : decode cX8_surrounds 107 = .ok (.iload_n 3, 1) := by decide +kernel
theorem dX8_surrounds_108 : decode cX8_surrounds 108 = .ok (.aload_n 0, 1) := by decide +kernel
theorem dX8_surrounds_109 : decode cX8_surrounds 109 = .ok (.getfield 57, 3) := by decide +kernel
theorem dX8_surrounds_112 : decode cX8_surrounds 112 = .ok (.iload 4, 2) := by decide +kernel
theorem dX8_surrounds_114 : decode cX8_surrounds 114 = .ok (.iaload, 1) := by decide +kernel
theorem dX8_surrounds_115 : decode cX8_surrounds 115 = .ok (.iconst 2, 1) := by decide +kernel
theorem dX8_surrounds_116 : decode cX8_surrounds 116 = .ok (.irem, 1) := by decide +kernel
theorem dX8_surrounds_117 : decode cX8_surrounds 117 = .ok (.ifCond .ne 25, 3) := by decide +kernel
theorem dX8_surrounds_120 : decode cX8_surrounds 120 = .ok (.iload 5, 2) := by decide +kernel
theorem dX8_surrounds_122 : decode cX8_surrounds 122 = .ok (.bipush 40, 2) := by decide +kernel
theorem dX8_surrounds_124 : decode cX8_surrounds 124 = .ok (.idiv, 1) := by decide +kernel
theorem dX8_surrounds_125 : decode cX8_surrounds 125 = .ok (.iload_n 2, 1) := by decide +kernel
theorem dX8_surrounds_126 : decode cX8_surrounds 126 = .ok (.bipush 40, 2) := by decide +kernel
theorem dX8_surrounds_128 : decode cX8_surrounds 128 = .ok (.idiv, 1) := by decide +kernel
theorem dX8_surrounds_129 : decode cX8_surrounds 129 = .ok (.if_icmp .ne 13, 3) := by decide +kernel
theorem dX8_surrounds_132 : decode cX8_surrounds 132 = .ok (.iload 5, 2) := by decide +kernel
theorem dX8_surrounds_134 : decode cX8_surrounds 134 = .ok (.iload_n 2, 1) := by decide +kernel
theorem dX8_surrounds_135 : decode cX8_surrounds 135 = .ok (.if_icmp .ge 7, 3) := by decide +kernel
theorem dX8_surrounds_138 : decode cX8_surrounds 138 = .ok (.iconst 1, 1) := by decide +kernel
theorem dX8_surrounds_139 : decode cX8_surrounds 139 = .ok (.goto 4, 3) := by decide +kernel
theorem dX8_surrounds_142 : decode cX8_surrounds 142 = .ok (.iconst 0, 1) := by decide +kernel
theorem dX8_surrounds_143 : decode cX8_surrounds 143 = .ok (.iadd, 1) := by decide +kernel
theorem dX8_surrounds_144 : decode cX8_surrounds 144 = .ok (.istore_n 3, 1) := by decide +kernel
theorem dX8_surrounds_145 : decode cX8_surrounds 145 = .ok (.iinc 4 1, 3) := by decide +kernel
theorem dX8_surrounds_148 : decode cX8_surrounds 148 = .ok (.goto (-79), 3) := by decide +kernel
theorem dX8_surrounds_151 : decode cX8_surrounds 151 = .ok (.iload_n 3, 1) := by decide +kernel
theorem dX8_surrounds_152 : decode cX8_surrounds 152 = .ok (.iconst 2, 1) := by decide +kernel
theorem dX8_surrounds_153 : decode cX8_surrounds 153 = .ok (.irem, 1) := by decide +kernel
theorem dX8_surrounds_154 : decode cX8_surrounds 154 = .ok (.iconst 1, 1) := by decide +kernel
theorem dX8_surrounds_155 : decode cX8_surrounds 155 = .ok (.if_icmp .ne 48, 3) := by decide +kernel
theorem dX8_surrounds_158 : decode cX8_surrounds 158 = .ok (.aload_n 0, 1) := by decide +kernel
theorem dX8_surrounds_159 : decode cX8_surrounds 159 = .ok (.getfield 53, 3) := by decide +kernel
theorem dX8_surrounds_162 : decode cX8_surrounds 162 = .ok (.bipush 20, 2) := by decide +kernel
theorem dX8_surrounds_164 : decode cX8_surrounds 164 = .ok (.iload_n 1, 1) := by decide +kernel
theorem dX8_surrounds_165 : decode cX8_surrounds 165 = .ok (.imul, 1) := by decide +kernel
theorem dX8_surrounds_166 : decode cX8_surrounds 166 = .ok (.iload_n 2, 1) := by decide +kernel
theorem dX8_surrounds_167 : decode cX8_surrounds 167 = .ok (.bipush 64, 2) := by decide +kernel
theorem dX8_surrounds_169 : decode cX8_surrounds 169 = .ok (.idiv, 1) := by decide +kernel
theorem dX8_surrounds_170 : decode cX8_surrounds 170 = .ok (.iadd, 1) := by decide +kernel
theorem dX8_surrounds_171 : decode cX8_surrounds 171 = .ok (.aload_n 0, 1) := by decide +kernel
theorem dX8_surrounds_172 : decode cX8_surrounds 172 = .ok (.getfield 53, 3) := by decide +kernel
theorem dX8_surrounds_175 : decode cX8_surrounds 175 = .ok (.bipush 20, 2) := by decide +kernel
theorem dX8_surrounds_177 : decode cX8_surrounds 177 = .ok (.iload_n 1, 1) := by decide +kernel
theorem dX8_surrounds_178 : decode cX8_surrounds 178 = .ok (.imul, 1) := by decide +kernel
theorem dX8_surrounds_179 : decode cX8_surrounds 179 = .ok (.iload_n 2, 1) := by decide +kernel
theorem dX8_surrounds_180 : decode cX8_surrounds 180 = .ok (.bipush 64, 2) := by decide +kernel
theorem dX8_surrounds_182 : decode cX8_surrounds 182 = .ok (.idiv, 1) := by decide +kernel
theorem dX8_surrounds_183 : decode cX8_surrounds 183 = .ok (.iadd, 1) := by decide +kernel
theorem dX8_surrounds_184 : decode cX8_surrounds 184 = .ok (.laload, 1) := by decide +kernel
theorem dX8_surrounds_185 : decode cX8_surrounds 185 = .ok (.lconst 1, 1) := by decide +kernel
theorem dX8_surrounds_186 : decode cX8_surrounds 186 = .ok (.iload_n 2, 1) := by decide +kernel
theorem dX8_surrounds_187 : decode cX8_surrounds 187 = .ok (.bipush 64, 2) := by decide +kernel
theorem dX8_surrounds_189 : decode cX8_surrounds 189 = .ok (.irem, 1) := by decide +kernel
theorem dX8_surrounds_190 : decode cX8_surrounds 190 = .ok (.lshl, 1) := by decide +kernel
theorem dX8_surrounds_191 : decode cX8_surrounds 191 = .ok (.lor, 1) := by decide +kernel
theorem dX8_surrounds_192 : decode cX8_surrounds 192 = .ok (.lastore, 1) := by decide +kernel
theorem dX8_surrounds_193 : decode cX8_surrounds 193 = .ok (.aload_n 0, 1) := by decide +kernel
theorem dX8_surrounds_194 : decode cX8_surrounds 194 = .ok (.getfield 44, 3) := by decide +kernel
theorem dX8_surrounds_197 : decode cX8_surrounds 197 = .ok (.iload_n 1, 1) := by decide +kernel
theorem dX8_surrounds_198 : decode cX8_surrounds 198 = .ok (.dup2, 1) := by decide +kernel
theorem dX8_surrounds_199 : decode cX8_surrounds 199 = .ok (.iaload, 1) := by decide +kernel
theorem dX8_surrounds_200 : decode cX8_surrounds 200 = .ok (.iconst 1, 1) := by decide +kernel
theorem dX8_surrounds_201 : decode cX8_surrounds 201 = .ok (.iadd, 1) := by decide +kernel
theorem dX8_surrounds_202 : decode cX8_surrounds 202 = .ok (.iastore, 1) := by decide +kernel
theorem dX8_surrounds_203 : decode cX8_surrounds 203 = .ok (.iinc 2 1, 3) := by decide +kernel
theorem dX8_surrounds_206 : decode cX8_surrounds 206 = .ok (.goto (-154), 3) := by decide +kernel
theorem dX8_surrounds_209 : decode cX8_surrounds 209 = .ok (.aload_n 0, 1) := by decide +kernel
theorem dX8_surrounds_210 : decode cX8_surrounds 210 = .ok (.getfield 35, 3) := by decide +kernel
theorem dX8_surrounds_213 : decode cX8_surrounds 213 = .ok (.iload_n 1, 1) := by decide +kernel
theorem dX8_surrounds_214 : decode cX8_surrounds 214 = .ok (.iaload, 1) := by decide +kernel
theorem dX8_surrounds_215 : decode cX8_surrounds 215 = .ok (.istore_n 2, 1) := by decide +kernel
theorem dX8_surrounds_216 : decode cX8_surrounds 216 = .ok (.aload_n 0, 1) := by decide +kernel
theorem dX8_surrounds_217 : decode cX8_surrounds 217 = .ok (.getfield 57, 3) := by decide +kernel
theorem dX8_surrounds_220 : decode cX8_surrounds 220 = .ok (.iload_n 2, 1) := by decide +kernel
theorem dX8_surrounds_221 : decode cX8_surrounds 221 = .ok (.iaload, 1) := by decide +kernel
theorem dX8_surrounds_222 : decode cX8_surrounds 222 = .ok (.iconst 2, 1) := by decide +kernel
theorem dX8_surrounds_223 : decode cX8_surrounds 223 = .ok (.idiv, 1) := by decide +kernel
theorem dX8_surrounds_224 : decode cX8_surrounds 224 = .ok (.istore_n 3, 1) := by decide +kernel
theorem dX8_surrounds_225 : decode cX8_surrounds 225 = .ok (.aload_n 0, 1) := by decide +kernel
theorem dX8_surrounds_226 : decode cX8_surrounds 226 = .ok (.getfield 60, 3) := by decide +kernel
theorem dX8_surrounds_229 : decode cX8_surrounds 229 = .ok (.iload_n 2, 1) := by decide +kernel
theorem dX8_surrounds_230 : decode cX8_surrounds 230 = .ok (.iaload, 1) := by decide +kernel
theorem dX8_surrounds_231 : decode cX8_surrounds 231 = .ok (.aload_n 0, 1) := by decide +kernel
theorem dX8_surrounds_232 : decode cX8_surrounds 232 = .ok (.getfield 32, 3) := by decide +kernel
theorem dX8_surrounds_235 : decode cX8_surrounds 235 = .ok (.iload_n 1, 1) := by decide +kernel
theorem dX8_surrounds_236 : decode cX8_surrounds 236 = .ok (.iaload, 1) := by decide +kernel
theorem dX8_surrounds_237 : decode cX8_surrounds 237 = .ok (.if_icmp .lt 7, 3) := by decide +kernel
theorem dX8_surrounds_240 : decode cX8_surrounds 240 = .ok (.iload_n 3, 1) := by decide +kernel
theorem dX8_surrounds_241 : decode cX8_surrounds 241 = .ok (.goto 24, 3) := by decide +kernel
theorem dX8_surrounds_244 : decode cX8_surrounds 244 = .ok (.aload_n 0, 1) := by decide +kernel
theorem dX8_surrounds_245 : decode cX8_surrounds 245 = .ok (.getfield 57, 3) := by decide +kernel
theorem dX8_surrounds_248 : decode cX8_surrounds 248 = .ok (.iload_n 2, 1) := by decide +kernel
theorem dX8_surrounds_249 : decode cX8_surrounds 249 = .ok (.iaload, 1) := by decide +kernel
theorem dX8_surrounds_250 : decode cX8_surrounds 250 = .ok (.iconst 2, 1) := by decide +kernel
theorem dX8_surrounds_251 : decode cX8_surrounds 251 = .ok (.irem, 1) := by decide +kernel
theorem dX8_surrounds_252 : decode cX8_surrounds 252 = .ok (.ifCond .ne 9, 3) := by decide +kernel
theorem dX8_surrounds_255 : decode cX8_surrounds 255 = .ok (.iload_n 3, 1) := by decide +kernel
theorem dX8_surrounds_256 : decode cX8_surrounds 256 = .ok (.iconst 1, 1) := by decide +kernel
theorem dX8_surrounds_257 : decode cX8_surrounds 257 = .ok (.iadd, 1) := by decide +kernel
theorem dX8_surrounds_258 : decode cX8_surrounds 258 = .ok (.goto 7, 3) := by decide +kernel
theorem dX8_surrounds_261 : decode cX8_surrounds 261 = .ok (.iload_n 3, 1) := by decide +kernel
theorem dX8_surrounds_262 : decode cX8_surrounds 262 = .ok (.bipush 40, 2) := by decide +kernel
theorem dX8_surrounds_264 : decode cX8_surrounds 264 = .ok (.iadd, 1) := by decide +kernel
theorem dX8_surrounds_265 : decode cX8_surrounds 265 = .ok (.istore 4, 2) := by decide +kernel
theorem dX8_surrounds_267 : decode cX8_surrounds 267 = .ok (.aload_n 0, 1) := by decide +kernel
theorem dX8_surrounds_268 : decode cX8_surrounds 268 = .ok (.getfield 50, 3) := by decide +kernel
theorem dX8_surrounds_271 : decode cX8_surrounds 271 = .ok (.iload_n 1, 1) := by decide +kernel
theorem dX8_surrounds_272 : decode cX8_surrounds 272 = .ok (.aload_n 0, 1) := by decide +kernel
theorem dX8_surrounds_273 : decode cX8_surrounds 273 = .ok (.iload_n 1, 1) := by decide +kernel
theorem dX8_surrounds_274 : decode cX8_surrounds 274 = .ok (.iload 4, 2) := by decide +kernel
theorem dX8_surrounds_276 : decode cX8_surrounds 276 = .ok (.invokevirtual 186, 3) := by decide +kernel
theorem dX8_surrounds_279 : decode cX8_surrounds 279 = .ok (.bastore, 1) := by decide +kernel
theorem dX8_surrounds_280 : decode cX8_surrounds 280 = .ok (.return_, 1) := by decide +kernel
theorem dX8_isAround_0 : decode cX8_isAround 0 = .ok (.aload_n 0, 1) := by decide +kernel
theorem dX8_isAround_1 : decode cX8_isAround 1 = .ok (.getfield 41, 3) := by decide +kernel
theorem dX8_isAround_4 : decode cX8_isAround 4 = .ok (.iload_n 1, 1) := by decide +kernel
theorem dX8_isAround_5 : decode cX8_isAround 5 = .ok (.baload, 1) := by decide +kernel
theorem dX8_isAround_6 : decode cX8_isAround 6 = .ok (.ifCond .eq 8, 3) := by decide +kernel
theorem dX8_isAround_9 : decode cX8_isAround 9 = .ok (.iload_n 1, 1) := by decide +kernel
theorem dX8_isAround_10 : decode cX8_isAround 10 = .ok (.iload_n 2, 1) := by decide +kernel
theorem dX8_isAround_11 : decode cX8_isAround 11 = .ok (.if_icmp .ne 5, 3) := by decide +kernel
theorem dX8_isAround_14 : decode cX8_isAround 14 = .ok (.iconst 0, 1) := by decide +kernel
theorem dX8_isAround_15 : decode cX8_isAround 15 = .ok (.ireturn, 1) := by decide +kernel
theorem dX8_isAround_16 : decode cX8_isAround 16 = .ok (.iconst 0, 1) := by decide +kernel
theorem dX8_isAround_17 : decode cX8_isAround 17 = .ok (.istore_n 3, 1) := by decide +kernel
theorem dX8_isAround_18 : decode cX8_isAround 18 = .ok (.iload_n 3, 1) := by decide +kernel
theorem dX8_isAround_19 : decode cX8_isAround 19 = .ok (.bipush 20, 2) := by decide +kernel
theorem dX8_isAround_21 : decode cX8_isAround 21 = .ok (.if_icmp .ge 43, 3) := by decide +kernel
theorem dX8_isAround_24 : decode cX8_isAround 24 = .ok (.aload_n 0, 1) := by decide +kernel
theorem dX8_isAround_25 : decode cX8_isAround 25 = .ok (.getfield 53, 3) := by decide +kernel
theorem dX8_isAround_28 : decode cX8_isAround 28 = .ok (.bipush 20, 2) := by decide +kernel
theorem dX8_isAround_30 : decode cX8_isAround 30 = .ok (.iload_n 2, 1) := by decide +kernel
theorem dX8_isAround_31 : decode cX8_isAround 31 = .ok (.imul, 1) := by decide +kernel
theorem dX8_isAround_32 : decode cX8_isAround 32 = .ok (.iload_n 3, 1) := by decide +kernel
theorem dX8_isAround_33 : decode cX8_isAround 33 = .ok (.iadd, 1) := by decide +kernel
theorem dX8_isAround_34 : decode cX8_isAround 34 = .ok (.laload, 1) := by decide +kernel
theorem dX8_isAround_35 : decode cX8_isAround 35 = .ok (.aload_n 0, 1) := by decide +kernel
theorem dX8_isAround_36 : decode cX8_isAround 36 = .ok (.getfield 53, 3) := by decide +kernel
theorem dX8_isAround_39 : decode cX8_isAround 39 = .ok (.bipush 20, 2) := by decide +kernel
theorem dX8_isAround_41 : decode cX8_isAround 41 = .ok (.iload_n 1, 1) := by decide +kernel
theorem dX8_isAround_42 : decode cX8_isAround 42 = .ok (.imul, 1) := by decide +kernel
theorem dX8_isAround_43 : decode cX8_isAround 43 = .ok (.iload_n 3, 1) := by decide +kernel
theorem dX8_isAround_44 : decode cX8_isAround 44 = .ok (.iadd, 1) := by decide +kernel
theorem dX8_isAround_45 : decode cX8_isAround 45 = .ok (.laload, 1) := by decide +kernel
theorem dX8_isAround_46 : decode cX8_isAround 46 = .ok (.ldc2_w 189, 3) := by decide +kernel
theorem dX8_isAround_49 : decode cX8_isAround 49 = .ok (.lxor, 1) := by decide +kernel
theorem dX8_isAround_50 : decode cX8_isAround 50 = .ok (.land, 1) := by decide +kernel
theorem dX8_isAround_51 : decode cX8_isAround 51 = .ok (.lconst 0, 1) := by decide +kernel
theorem dX8_isAround_52 : decode cX8_isAround 52 = .ok (.lcmp, 1) := by decide +kernel
theorem dX8_isAround_53 : decode cX8_isAround 53 = .ok (.ifCond .eq 5, 3) := by decide +kernel
theorem dX8_isAround_56 : decode cX8_isAround 56 = .ok (.iconst 0, 1) := by decide +kernel
theorem dX8_isAround_57 : decode cX8_isAround 57 = .ok (.ireturn, 1) := by decide +kernel
theorem dX8_isAround_58 : decode cX8_isAround 58 = .ok (.iinc 3 1, 3) := by decide +kernel
theorem dX8_isAround_61 : decode cX8_isAround 61 = .ok (.goto (-43), 3) := by decide +kernel
theorem dX8_isAround_64 : decode cX8_isAround 64 = .ok (.aload_n 0, 1) := by decide +kernel
theorem dX8_isAround_65 : decode cX8_isAround 65 = .ok (.getfield 44, 3) := by decide +kernel
theorem dX8_isAround_68 : decode cX8_isAround 68 = .ok (.iload_n 1, 1) := by decide +kernel
theorem dX8_isAround_69 : decode cX8_isAround 69 = .ok (.iaload, 1) := by decide +kernel
theorem dX8_isAround_70 : decode cX8_isAround 70 = .ok (.aload_n 0, 1) := by decide +kernel
theorem dX8_isAround_71 : decode cX8_isAround 71 = .ok (.getfield 44, 3) := by decide +kernel
theorem dX8_isAround_74 : decode cX8_isAround 74 = .ok (.iload_n 2, 1) := by decide +kernel
theorem dX8_isAround_75 : decode cX8_isAround 75 = .ok (.iaload, 1) := by decide +kernel
theorem dX8_isAround_76 : decode cX8_isAround 76 = .ok (.if_icmp .eq 5, 3) := by decide +kernel
theorem dX8_isAround_79 : decode cX8_isAround 79 = .ok (.iconst 1, 1) := by decide +kernel
theorem dX8_isAround_80 : decode cX8_isAround 80 = .ok (.ireturn, 1) := by decide +kernel
theorem dX8_isAround_81 : decode cX8_isAround 81 = .ok (.aload_n 0, 1) := by decide +kernel
theorem dX8_isAround_82 : decode cX8_isAround 82 = .ok (.getfield 50, 3) := by decide +kernel
theorem dX8_isAround_85 : decode cX8_isAround 85 = .ok (.iload_n 1, 1) := by decide +kernel
theorem dX8_isAround_86 : decode cX8_isAround 86 = .ok (.baload, 1) := by decide +kernel
theorem dX8_isAround_87 : decode cX8_isAround 87 = .ok (.ifCond .eq 26, 3) := by decide +kernel
theorem dX8_isAround_90 : decode cX8_isAround 90 = .ok (.aload_n 0, 1) := by decide +kernel
theorem dX8_isAround_91 : decode cX8_isAround 91 = .ok (.getfield 32, 3) := by decide +kernel
theorem dX8_isAround_94 : decode cX8_isAround 94 = .ok (.iload_n 1, 1) := by decide +kernel
theorem dX8_isAround_95 : decode cX8_isAround 95 = .ok (.iaload, 1) := by decide +kernel
theorem dX8_isAround_96 : decode cX8_isAround 96 = .ok (.aload_n 0, 1) := by decide +kernel
theorem dX8_isAround_97 : decode cX8_isAround 97 = .ok (.getfield 32, 3) := by decide +kernel
theorem dX8_isAround_100 : decode cX8_isAround 100 = .ok (.iload_n 2, 1) := by decide +kernel
theorem dX8_isAround_101 : decode cX8_isAround 101 = .ok (.iaload, 1) := by decide +kernel
theorem dX8_isAround_102 : decode cX8_isAround 102 = .ok (.if_icmp .ge 7, 3) := by decide +kernel
theorem dX8_isAround_105 : decode cX8_isAround 105 = .ok (.iconst 1, 1) := by decide +kernel
theorem dX8_isAround_106 : decode cX8_isAround 106 = .ok (.goto 27, 3) := by decide +kernel
theorem dX8_isAround_109 : decode cX8_isAround 109 = .ok (.iconst 0, 1) := by decide +kernel
theorem dX8_isAround_110 : decode cX8_isAround 110 = .ok (.goto 23, 3) := by decide +kernel
theorem dX8_isAround_113 : decode cX8_isAround 113 = .ok (.aload_n 0, 1) := by decide +kernel
theorem dX8_isAround_114 : decode cX8_isAround 114 = .ok (.getfield 32, 3) := by decide +kernel
theorem dX8_isAround_117 : decode cX8_isAround 117 = .ok (.iload_n 1, 1) := by decide +kernel
theorem dX8_isAround_118 : decode cX8_isAround 118 = .ok (.iaload, 1) := by decide +kernel
theorem dX8_isAround_119 : decode cX8_isAround 119 = .ok (.aload_n 0, 1) := by decide +kernel
theorem dX8_isAround_120 : decode cX8_isAround 120 = .ok (.getfield 32, 3) := by decide +kernel
theorem dX8_isAround_123 : decode cX8_isAround 123 = .ok (.iload_n 2, 1) := by decide +kernel
theorem dX8_isAround_124 : decode cX8_isAround 124 = .ok (.iaload, 1) := by decide +kernel
theorem dX8_isAround_125 : decode cX8_isAround 125 = .ok (.if_icmp .le 7, 3) := by decide +kernel
theorem dX8_isAround_128 : decode cX8_isAround 128 = .ok (.iconst 1, 1) := by decide +kernel
theorem dX8_isAround_129 : decode cX8_isAround 129 = .ok (.goto 4, 3) := by decide +kernel
theorem dX8_isAround_132 : decode cX8_isAround 132 = .ok (.iconst 0, 1) := by decide +kernel
theorem dX8_isAround_133 : decode cX8_isAround 133 = .ok (.ireturn, 1) := by decide +kernel
set_option maxRecDepth 20000 in
theorem ggX8_parentOf_X8_isAround : GoodIn wsX8_parentOf wsX8_isAround := goodIn_r _ [8, 9, 10, 11, 2, 12, 3, 13, 14, 15, 16, 17, 18, 19, 20, 21, 22, 23, 24, 25, 26, 27, 28, 29, 30, 31, 32, 33, 34, 35, 36, 37, 38, 39, 40, 41, 42, 43, 44, 45] (by decide +kernel) (by decide +kernel)
set_option maxRecDepth 20000 in
theorem gX8_parentOf_X8_isAround : GoodIn wsX8_parentOf (wsV RX8 191 RX8 yX8_isAround wsX8_isAround) := goodIn_app (goodIn_of _ (by decide +kernel)) ggX8_parentOf_X8_isAround
theorem dX8_parentOf_0 : decode cX8_parentOf 0 = .ok (.iconst (-1), 1) := by decide +kernel
theorem dX8_parentOf_1 : decode cX8_parentOf 1 = .ok (.istore_n 2, 1) := by decide +kernel
theorem dX8_parentOf_2 : decode cX8_parentOf 2 = .ok (.iconst 0, 1) := by decide +kernel
theorem dX8_parentOf_3 : decode cX8_parentOf 3 = .ok (.istore_n 3, 1) := by decide +kernel
theorem dX8_parentOf_4 : decode cX8_parentOf 4 = .ok (.iload_n 3, 1) := by decide +kernel
theorem dX8_parentOf_5 : decode cX8_parentOf 5 = .ok (.aload_n 0, 1) := by decide +kernel
theorem dX8_parentOf_6 : decode cX8_parentOf 6 = .ok (.getfield 156, 3) := by decide +kernel
theorem dX8_parentOf_9 : decode cX8_parentOf 9 = .ok (.if_icmp .ge 144, 3) := by decide +kernel
theorem dX8_parentOf_12 : decode cX8_parentOf 12 = .ok (.aload_n 0, 1) := by decide +kernel
theorem dX8_parentOf_13 : decode cX8_parentOf 13 = .ok (.iload_n 3, 1) := by decide +kernel
theorem dX8_parentOf_14 : decode cX8_parentOf 14 = .ok (.iload_n 1, 1) := by decide +kernel
theorem dX8_parentOf_15 : decode cX8_parentOf 15 = .ok (.invokevirtual 191, 3) := by decide +kernel
theorem dX8_parentOf_18 : decode cX8_parentOf 18 = .ok (.ifCond .ne 6, 3) := by decide +kernel
theorem dX8_parentOf_21 : decode cX8_parentOf 21 = .ok (.goto 126, 3) := by decide +kernel
theorem dX8_parentOf_24 : decode cX8_parentOf 24 = .ok (.iload_n 2, 1) := by decide +kernel
theorem dX8_parentOf_25 : decode cX8_parentOf 25 = .ok (.ifCond .lt 18, 3) := by decide +kernel
theorem dX8_parentOf_28 : decode cX8_parentOf 28 = .ok (.aload_n 0, 1) := by decide +kernel
theorem dX8_parentOf_29 : decode cX8_parentOf 29 = .ok (.getfield 44, 3) := by decide +kernel
theorem dX8_parentOf_32 : decode cX8_parentOf 32 = .ok (.iload_n 3, 1) := by decide +kernel
