
-- == X9_init ==
theorem dX9_init_0 : xd cX9_init 0 (.aload_n 0) 1 1 := ⟨by decide +kernel, rfl⟩
theorem dX9_init_1 : xd cX9_init 1 (.invokespecial 1) 3 4 := ⟨by decide +kernel, rfl⟩
theorem dX9_init_4 : xd cX9_init 4 (.aload_n 0) 1 5 := ⟨by decide +kernel, rfl⟩
theorem dX9_init_5 : xd cX9_init 5 (.sipush 919) 3 8 := ⟨by decide +kernel, rfl⟩
theorem dX9_init_8 : xd cX9_init 8 (.newarray .int) 2 10 := ⟨by decide +kernel, rfl⟩
theorem dX9_init_10 : xd cX9_init 10 (.putfield 7) 3 13 := ⟨by decide +kernel, rfl⟩
theorem dX9_init_13 : xd cX9_init 13 (.aload_n 0) 1 14 := ⟨by decide +kernel, rfl⟩
theorem dX9_init_14 : xd cX9_init 14 (.sipush 919) 3 17 := ⟨by decide +kernel, rfl⟩
theorem dX9_init_17 : xd cX9_init 17 (.newarray .int) 2 19 := ⟨by decide +kernel, rfl⟩
theorem dX9_init_19 : xd cX9_init 19 (.putfield 13) 3 22 := ⟨by decide +kernel, rfl⟩
theorem dX9_init_22 : xd cX9_init 22 (.aload_n 0) 1 23 := ⟨by decide +kernel, rfl⟩
theorem dX9_init_23 : xd cX9_init 23 (.bipush 8) 2 25 := ⟨by decide +kernel, rfl⟩
theorem dX9_init_25 : xd cX9_init 25 (.newarray .int) 2 27 := ⟨by decide +kernel, rfl⟩
theorem dX9_init_27 : xd cX9_init 27 (.putfield 16) 3 30 := ⟨by decide +kernel, rfl⟩
theorem dX9_init_30 : xd cX9_init 30 (.aload_n 0) 1 31 := ⟨by decide +kernel, rfl⟩
theorem dX9_init_31 : xd cX9_init 31 (.sipush 495) 3 34 := ⟨by decide +kernel, rfl⟩
theorem dX9_init_34 : xd cX9_init 34 (.newarray .int) 2 36 := ⟨by decide +kernel, rfl⟩
theorem dX9_init_36 : xd cX9_init 36 (.putfield 19) 3 39 := ⟨by decide +kernel, rfl⟩
theorem dX9_init_39 : xd cX9_init 39 (.aload_n 0) 1 40 := ⟨by decide +kernel, rfl⟩
theorem dX9_init_40 : xd cX9_init 40 (.sipush 4096) 3 43 := ⟨by decide +kernel, rfl⟩
theorem dX9_init_43 : xd cX9_init 43 (.newarray .int) 2 45 := ⟨by decide +kernel, rfl⟩
theorem dX9_init_45 : xd cX9_init 45 (.putfield 22) 3 48 := ⟨by decide +kernel, rfl⟩
theorem dX9_init_48 : xd cX9_init 48 (.aload_n 0) 1 49 := ⟨by decide +kernel, rfl⟩
theorem dX9_init_49 : xd cX9_init 49 (.sipush 4096) 3 52 := ⟨by decide +kernel, rfl⟩
theorem dX9_init_52 : xd cX9_init 52 (.newarray .int) 2 54 := ⟨by decide +kernel, rfl⟩
theorem dX9_init_54 : xd cX9_init 54 (.putfield 25) 3 57 := ⟨by decide +kernel, rfl⟩
theorem dX9_init_57 : xd cX9_init 57 (.aload_n 0) 1 58 := ⟨by decide +kernel, rfl⟩
theorem dX9_init_58 : xd cX9_init 58 (.sipush 2475) 3 61 := ⟨by decide +kernel, rfl⟩
theorem dX9_init_61 : xd cX9_init 61 (.newarray .int) 2 63 := ⟨by decide +kernel, rfl⟩
theorem dX9_init_63 : xd cX9_init 63 (.putfield 28) 3 66 := ⟨by decide +kernel, rfl⟩
theorem dX9_init_66 : xd cX9_init 66 (.aload_n 0) 1 67 := ⟨by decide +kernel, rfl⟩
theorem dX9_init_67 : xd cX9_init 67 (.bipush 60) 2 69 := ⟨by decide +kernel, rfl⟩
theorem dX9_init_69 : xd cX9_init 69 (.newarray .int) 2 71 := ⟨by decide +kernel, rfl⟩
theorem dX9_init_71 : xd cX9_init 71 (.putfield 31) 3 74 := ⟨by decide +kernel, rfl⟩
theorem dX9_init_74 : xd cX9_init 74 (.aload_n 0) 1 75 := ⟨by decide +kernel, rfl⟩
theorem dX9_init_75 : xd cX9_init 75 (.iconst 4) 1 76 := ⟨by decide +kernel, rfl⟩
theorem dX9_init_76 : xd cX9_init 76 (.newarray .int) 2 78 := ⟨by decide +kernel, rfl⟩
theorem dX9_init_78 : xd cX9_init 78 .dup 1 79 := ⟨by decide +kernel, rfl⟩
theorem dX9_init_79 : xd cX9_init 79 (.iconst 0) 1 80 := ⟨by decide +kernel, rfl⟩
theorem dX9_init_80 : xd cX9_init 80 (.iconst (-1)) 1 81 := ⟨by decide +kernel, rfl⟩
theorem dX9_init_81 : xd cX9_init 81 .iastore 1 82 := ⟨by decide +kernel, rfl⟩
theorem dX9_init_82 : xd cX9_init 82 .dup 1 83 := ⟨by decide +kernel, rfl⟩
theorem dX9_init_83 : xd cX9_init 83 (.iconst 1) 1 84 := ⟨by decide +kernel, rfl⟩
theorem dX9_init_84 : xd cX9_init 84 (.iconst (-1)) 1 85 := ⟨by decide +kernel, rfl⟩
theorem dX9_init_85 : xd cX9_init 85 .iastore 1 86 := ⟨by decide +kernel, rfl⟩
theorem dX9_init_86 : xd cX9_init 86 .dup 1 87 := ⟨by decide +kernel, rfl⟩
theorem dX9_init_87 : xd cX9_init 87 (.iconst 2) 1 88 := ⟨by decide +kernel, rfl⟩
theorem dX9_init_88 : xd cX9_init 88 (.iconst (-1)) 1 89 := ⟨by decide +kernel, rfl⟩
theorem dX9_init_89 : xd cX9_init 89 .iastore 1 90 := ⟨by decide +kernel, rfl⟩
theorem dX9_init_90 : xd cX9_init 90 .dup 1 91 := ⟨by decide +kernel, rfl⟩
theorem dX9_init_91 : xd cX9_init 91 (.iconst 3) 1 92 := ⟨by decide +kernel, rfl⟩
theorem dX9_init_92 : xd cX9_init 92 (.iconst (-1)) 1 93 := ⟨by decide +kernel, rfl⟩
theorem dX9_init_93 : xd cX9_init 93 .iastore 1 94 := ⟨by decide +kernel, rfl⟩
theorem dX9_init_94 : xd cX9_init 94 (.putfield 34) 3 97 := ⟨by decide +kernel, rfl⟩
theorem dX9_init_97 : xd cX9_init 97 (.aload_n 0) 1 98 := ⟨by decide +kernel, rfl⟩
theorem dX9_init_98 : xd cX9_init 98 (.iconst 4) 1 99 := ⟨by decide +kernel, rfl⟩
theorem dX9_init_99 : xd cX9_init 99 (.newarray .int) 2 101 := ⟨by decide +kernel, rfl⟩
theorem dX9_init_101 : xd cX9_init 101 (.putfield 37) 3 104 := ⟨by decide +kernel, rfl⟩
theorem dX9_init_104 : xd cX9_init 104 (.aload_n 0) 1 105 := ⟨by decide +kernel, rfl⟩
theorem dX9_init_105 : xd cX9_init 105 (.sipush 160) 3 108 := ⟨by decide +kernel, rfl⟩
theorem dX9_init_108 : xd cX9_init 108 (.newarray .long) 2 110 := ⟨by decide +kernel, rfl⟩
theorem dX9_init_110 : xd cX9_init 110 (.putfield 40) 3 113 := ⟨by decide +kernel, rfl⟩
theorem dX9_init_113 : xd cX9_init 113 (.aload_n 0) 1 114 := ⟨by decide +kernel, rfl⟩
theorem dX9_init_114 : xd cX9_init 114 (.iconst 1) 1 115 := ⟨by decide +kernel, rfl⟩
theorem dX9_init_115 : xd cX9_init 115 (.putfield 44) 3 118 := ⟨by decide +kernel, rfl⟩
theorem dX9_init_118 : xd cX9_init 118 (.aload_n 0) 1 119 := ⟨by decide +kernel, rfl⟩
theorem dX9_init_119 : xd cX9_init 119 (.iconst 1) 1 120 := ⟨by decide +kernel, rfl⟩
theorem dX9_init_120 : xd cX9_init 120 (.putfield 48) 3 123 := ⟨by decide +kernel, rfl⟩
theorem dX9_init_123 : xd cX9_init 123 (.aload_n 0) 1 124 := ⟨by decide +kernel, rfl⟩
theorem dX9_init_124 : xd cX9_init 124 (.iconst 1) 1 125 := ⟨by decide +kernel, rfl⟩
theorem dX9_init_125 : xd cX9_init 125 (.putfield 51) 3 128 := ⟨by decide +kernel, rfl⟩
theorem dX9_init_128 : xd cX9_init 128 (.aload_n 0) 1 129 := ⟨by decide +kernel, rfl⟩
theorem dX9_init_129 : xd cX9_init 129 (.sipush 495) 3 132 := ⟨by decide +kernel, rfl⟩
theorem dX9_init_132 : xd cX9_init 132 (.newarray .int) 2 134 := ⟨by decide +kernel, rfl⟩
theorem dX9_init_134 : xd cX9_init 134 (.putfield 54) 3 137 := ⟨by decide +kernel, rfl⟩
theorem dX9_init_137 : xd cX9_init 137 (.aload_n 0) 1 138 := ⟨by decide +kernel, rfl⟩
theorem dX9_init_138 : xd cX9_init 138 (.sipush 495) 3 141 := ⟨by decide +kernel, rfl⟩
theorem dX9_init_141 : xd cX9_init 141 (.newarray .int) 2 143 := ⟨by decide +kernel, rfl⟩
theorem dX9_init_143 : xd cX9_init 143 (.putfield 57) 3 146 := ⟨by decide +kernel, rfl⟩
theorem dX9_init_146 : xd cX9_init 146 (.aload_n 0) 1 147 := ⟨by decide +kernel, rfl⟩
theorem dX9_init_147 : xd cX9_init 147 (.bipush 12) 2 149 := ⟨by decide +kernel, rfl⟩
theorem dX9_init_149 : xd cX9_init 149 (.newarray .int) 2 151 := ⟨by decide +kernel, rfl⟩
theorem dX9_init_151 : xd cX9_init 151 (.putfield 60) 3 154 := ⟨by decide +kernel, rfl⟩
theorem dX9_init_154 : xd cX9_init 154 (.aload_n 0) 1 155 := ⟨by decide +kernel, rfl⟩
theorem dX9_init_155 : xd cX9_init 155 (.sipush 1485) 3 158 := ⟨by decide +kernel, rfl⟩
theorem dX9_init_158 : xd cX9_init 158 (.newarray .int) 2 160 := ⟨by decide +kernel, rfl⟩
theorem dX9_init_160 : xd cX9_init 160 (.putfield 63) 3 163 := ⟨by decide +kernel, rfl⟩
theorem dX9_init_163 : xd cX9_init 163 (.aload_n 0) 1 164 := ⟨by decide +kernel, rfl⟩
theorem dX9_init_164 : xd cX9_init 164 (.sipush 495) 3 167 := ⟨by decide +kernel, rfl⟩
theorem dX9_init_167 : xd cX9_init 167 (.newarray .int) 2 169 := ⟨by decide +kernel, rfl⟩
theorem dX9_init_169 : xd cX9_init 169 (.putfield 66) 3 172 := ⟨by decide +kernel, rfl⟩
theorem dX9_init_172 : xd cX9_init 172 (.aload_n 0) 1 173 := ⟨by decide +kernel, rfl⟩
theorem dX9_init_173 : xd cX9_init 173 (.sipush 495) 3 176 := ⟨by decide +kernel, rfl⟩
theorem dX9_init_176 : xd cX9_init 176 (.newarray .boolean) 2 178 := ⟨by decide +kernel, rfl⟩
theorem dX9_init_178 : xd cX9_init 178 (.putfield 69) 3 181 := ⟨by decide +kernel, rfl⟩
theorem dX9_init_181 : xd cX9_init 181 (.aload_n 0) 1 182 := ⟨by decide +kernel, rfl⟩
theorem dX9_init_182 : xd cX9_init 182 (.sipush 495) 3 185 := ⟨by decide +kernel, rfl⟩
theorem dX9_init_185 : xd cX9_init 185 (.newarray .int) 2 187 := ⟨by decide +kernel, rfl⟩
theorem dX9_init_187 : xd cX9_init 187 (.putfield 73) 3 190 := ⟨by decide +kernel, rfl⟩
theorem dX9_init_190 : xd cX9_init 190 (.aload_n 0) 1 191 := ⟨by decide +kernel, rfl⟩
theorem dX9_init_191 : xd cX9_init 191 (.iconst 5) 1 192 := ⟨by decide +kernel, rfl⟩
theorem dX9_init_192 : xd cX9_init 192 (.newarray .int) 2 194 := ⟨by decide +kernel, rfl⟩
theorem dX9_init_194 : xd cX9_init 194 (.putfield 76) 3 197 := ⟨by decide +kernel, rfl⟩
theorem dX9_init_197 : xd cX9_init 197 (.iconst 0) 1 198 := ⟨by decide +kernel, rfl⟩
theorem dX9_init_198 : xd cX9_init 198 (.istore_n 1) 1 199 := ⟨by decide +kernel, rfl⟩
theorem dX9_init_199 : xd cX9_init 199 (.iconst 1) 1 200 := ⟨by decide +kernel, rfl⟩
theorem dX9_init_200 : xd cX9_init 200 (.istore_n 2) 1 201 := ⟨by decide +kernel, rfl⟩
theorem dX9_init_201 : xd cX9_init 201 (.iload_n 2) 1 202 := ⟨by decide +kernel, rfl⟩
theorem dX9_init_202 : xd cX9_init 202 (.sipush 4096) 3 205 := ⟨by decide +kernel, rfl⟩
theorem dX9_init_205 : xj cX9_init 205 (.if_icmp .ge) 208 283 := ⟨78, by decide +kernel, rfl, by decide⟩
theorem dX9_init_208 : xd cX9_init 208 (.aload_n 0) 1 209 := ⟨by decide +kernel, rfl⟩
theorem dX9_init_209 : xd cX9_init 209 (.getfield 25) 3 212 := ⟨by decide +kernel, rfl⟩
theorem dX9_init_212 : xd cX9_init 212 (.iload_n 2) 1 213 := ⟨by decide +kernel, rfl⟩
theorem dX9_init_213 : xd cX9_init 213 (.aload_n 0) 1 214 := ⟨by decide +kernel, rfl⟩
theorem dX9_init_214 : xd cX9_init 214 (.getfield 25) 3 217 := ⟨by decide +kernel, rfl⟩
theorem dX9_init_217 : xd cX9_init 217 (.iload_n 2) 1 218 := ⟨by decide +kernel, rfl⟩
theorem dX9_init_218 : xd cX9_init 218 (.iconst 1) 1 219 := ⟨by decide +kernel, rfl⟩
theorem dX9_init_219 : xd cX9_init 219 .ishr 1 220 := ⟨by decide +kernel, rfl⟩
theorem dX9_init_220 : xd cX9_init 220 .iaload 1 221 := ⟨by decide +kernel, rfl⟩
theorem dX9_init_221 : xd cX9_init 221 (.iload_n 2) 1 222 := ⟨by decide +kernel, rfl⟩
theorem dX9_init_222 : xd cX9_init 222 (.iconst 1) 1 223 := ⟨by decide +kernel, rfl⟩
theorem dX9_init_223 : xd cX9_init 223 .iand 1 224 := ⟨by decide +kernel, rfl⟩
theorem dX9_init_224 : xd cX9_init 224 .iadd 1 225 := ⟨by decide +kernel, rfl⟩
theorem dX9_init_225 : xd cX9_init 225 .iastore 1 226 := ⟨by decide +kernel, rfl⟩
theorem dX9_init_226 : xd cX9_init 226 (.aload_n 0) 1 227 := ⟨by decide +kernel, rfl⟩
theorem dX9_init_227 : xd cX9_init 227 (.getfield 25) 3 230 := ⟨by decide +kernel, rfl⟩
theorem dX9_init_230 : xd cX9_init 230 (.iload_n 2) 1 231 := ⟨by decide +kernel, rfl⟩
theorem dX9_init_231 : xd cX9_init 231 .iaload 1 232 := ⟨by decide +kernel, rfl⟩
theorem dX9_init_232 : xd cX9_init 232 (.iconst 4) 1 233 := ⟨by decide +kernel, rfl⟩
theorem dX9_init_233 : xj cX9_init 233 (.if_icmp .ne) 236 240 := ⟨7, by decide +kernel, rfl, by decide⟩
theorem dX9_init_236 : xd cX9_init 236 (.iconst 1) 1 237 := ⟨by decide +kernel, rfl⟩
theorem dX9_init_237 : xj cX9_init 237 .goto 240 241 := ⟨4, by decide +kernel, rfl, by decide⟩
theorem dX9_init_240 : xd cX9_init 240 (.iconst 0) 1 241 := ⟨by decide +kernel, rfl⟩
theorem dX9_init_241 : xd cX9_init 241 (.istore_n 3) 1 242 := ⟨by decide +kernel, rfl⟩
theorem dX9_init_242 : xd cX9_init 242 (.aload_n 0) 1 243 := ⟨by decide +kernel, rfl⟩
theorem dX9_init_243 : xd cX9_init 243 (.getfield 22) 3 246 := ⟨by decide +kernel, rfl⟩
theorem dX9_init_246 : xd cX9_init 246 (.iload_n 2) 1 247 := ⟨by decide +kernel, rfl⟩
theorem dX9_init_247 : xd cX9_init 247 (.iload_n 3) 1 248 := ⟨by decide +kernel, rfl⟩
theorem dX9_init_248 : xj cX9_init 248 (.ifCond .eq) 251 255 := ⟨7, by decide +kernel, rfl, by decide⟩
theorem dX9_init_251 : xd cX9_init 251 (.iload_n 1) 1 252 := ⟨by decide +kernel, rfl⟩
theorem dX9_init_252 : xj cX9_init 252 .goto 255 256 := ⟨4, by decide +kernel, rfl, by decide⟩
theorem dX9_init_255 : xd cX9_init 255 (.iconst (-1)) 1 256 := ⟨by decide +kernel, rfl⟩
theorem dX9_init_256 : xd cX9_init 256 .iastore 1 257 := ⟨by decide +kernel, rfl⟩
theorem dX9_init_257 : xd cX9_init 257 (.iload_n 3) 1 258 := ⟨by decide +kernel, rfl⟩
theorem dX9_init_258 : xj cX9_init 258 (.ifCond .eq) 261 277 := ⟨19, by decide +kernel, rfl, by decide⟩
theorem dX9_init_261 : xd cX9_init 261 (.aload_n 0) 1 262 := ⟨by decide +kernel, rfl⟩
theorem dX9_init_262 : xd cX9_init 262 (.getfield 19) 3 265 := ⟨by decide +kernel, rfl⟩
theorem dX9_init_265 : xd cX9_init 265 (.iload_n 1) 1 266 := ⟨by decide +kernel, rfl⟩
theorem dX9_init_266 : xd cX9_init 266 (.iload_n 2) 1 267 := ⟨by decide +kernel, rfl⟩
theorem dX9_init_267 : xd cX9_init 267 .iastore 1 268 := ⟨by decide +kernel, rfl⟩
theorem dX9_init_268 : xd cX9_init 268 (.aload_n 0) 1 269 := ⟨by decide +kernel, rfl⟩
theorem dX9_init_269 : xd cX9_init 269 (.iload_n 1) 1 270 := ⟨by decide +kernel, rfl⟩
theorem dX9_init_270 : xd cX9_init 270 (.iload_n 2) 1 271 := ⟨by decide +kernel, rfl⟩
theorem dX9_init_271 : xd cX9_init 271 (.invokevirtual 79) 3 274 := ⟨by decide +kernel, rfl⟩
theorem dX9_init_274 : xd cX9_init 274 (.iinc 1 1) 3 277 := ⟨by decide +kernel, rfl⟩
theorem dX9_init_277 : xd cX9_init 277 (.iinc 2 1) 3 280 := ⟨by decide +kernel, rfl⟩
theorem dX9_init_280 : xj cX9_init 280 .goto 283 201 := ⟨(-79), by decide +kernel, rfl, by decide⟩
theorem dX9_init_283 : xd cX9_init 283 (.aload_n 0) 1 284 := ⟨by decide +kernel, rfl⟩
theorem dX9_init_284 : xd cX9_init 284 (.getfield 22) 3 287 := ⟨by decide +kernel, rfl⟩
theorem dX9_init_287 : xd cX9_init 287 (.iconst 0) 1 288 := ⟨by decide +kernel, rfl⟩
theorem dX9_init_288 : xd cX9_init 288 (.iconst (-1)) 1 289 := ⟨by decide +kernel, rfl⟩
theorem dX9_init_289 : xd cX9_init 289 .iastore 1 290 := ⟨by decide +kernel, rfl⟩
theorem dX9_init_290 : xd cX9_init 290 (.aload_n 0) 1 291 := ⟨by decide +kernel, rfl⟩
theorem dX9_init_291 : xd cX9_init 291 (.getfield 7) 3 294 := ⟨by decide +kernel, rfl⟩
theorem dX9_init_294 : xd cX9_init 294 (.iconst 2) 1 295 := ⟨by decide +kernel, rfl⟩
theorem dX9_init_295 : xd cX9_init 295 (.iconst 1) 1 296 := ⟨by decide +kernel, rfl⟩
theorem dX9_init_296 : xd cX9_init 296 .iastore 1 297 := ⟨by decide +kernel, rfl⟩
theorem dX9_init_297 : xd cX9_init 297 (.aload_n 0) 1 298 := ⟨by decide +kernel, rfl⟩
theorem dX9_init_298 : xd cX9_init 298 (.getfield 7) 3 301 := ⟨by decide +kernel, rfl⟩
theorem dX9_init_301 : xd cX9_init 301 (.bipush 10) 2 303 := ⟨by decide +kernel, rfl⟩
theorem dX9_init_303 : xd cX9_init 303 (.iconst 1) 1 304 := ⟨by decide +kernel, rfl⟩
theorem dX9_init_304 : xd cX9_init 304 .iastore 1 305 := ⟨by decide +kernel, rfl⟩
theorem dX9_init_305 : xd cX9_init 305 (.aload_n 0) 1 306 := ⟨by decide +kernel, rfl⟩
theorem dX9_init_306 : xd cX9_init 306 (.getfield 7) 3 309 := ⟨by decide +kernel, rfl⟩
theorem dX9_init_309 : xd cX9_init 309 (.bipush 11) 2 311 := ⟨by decide +kernel, rfl⟩
theorem dX9_init_311 : xd cX9_init 311 (.bipush 50) 2 313 := ⟨by decide +kernel, rfl⟩
theorem dX9_init_313 : xd cX9_init 313 .iastore 1 314 := ⟨by decide +kernel, rfl⟩
theorem dX9_init_314 : xd cX9_init 314 (.aload_n 0) 1 315 := ⟨by decide +kernel, rfl⟩
theorem dX9_init_315 : xd cX9_init 315 (.getfield 7) 3 318 := ⟨by decide +kernel, rfl⟩
theorem dX9_init_318 : xd cX9_init 318 (.bipush 12) 2 320 := ⟨by decide +kernel, rfl⟩
theorem dX9_init_320 : xd cX9_init 320 (.bipush 60) 2 322 := ⟨by decide +kernel, rfl⟩
theorem dX9_init_322 : xd cX9_init 322 .iastore 1 323 := ⟨by decide +kernel, rfl⟩
theorem dX9_init_323 : xd cX9_init 323 (.aload_n 0) 1 324 := ⟨by decide +kernel, rfl⟩
theorem dX9_init_324 : xd cX9_init 324 (.getfield 7) 3 327 := ⟨by decide +kernel, rfl⟩
theorem dX9_init_327 : xd cX9_init 327 (.bipush 13) 2 329 := ⟨by decide +kernel, rfl⟩
theorem dX9_init_329 : xd cX9_init 329 (.bipush 30) 2 331 := ⟨by decide +kernel, rfl⟩
theorem dX9_init_331 : xd cX9_init 331 .iastore 1 332 := ⟨by decide +kernel, rfl⟩
theorem dX9_init_332 : xd cX9_init 332 (.aload_n 0) 1 333 := ⟨by decide +kernel, rfl⟩
theorem dX9_init_333 : xd cX9_init 333 (.getfield 7) 3 336 := ⟨by decide +kernel, rfl⟩
theorem dX9_init_336 : xd cX9_init 336 (.bipush 14) 2 338 := ⟨by decide +kernel, rfl⟩
theorem dX9_init_338 : xd cX9_init 338 (.bipush 10) 2 340 := ⟨by decide +kernel, rfl⟩
theorem dX9_init_340 : xd cX9_init 340 .iastore 1 341 := ⟨by decide +kernel, rfl⟩
theorem dX9_init_341 : xd cX9_init 341 .return_ 1 342 := ⟨by decide +kernel, rfl⟩

set_option maxRecDepth 100000 in
set_option maxHeartbeats 4000000 in
theorem ct_X9_init (l : Launch) (g : XG) (a : Nat) : Ct l g 4 19 17213 yX9_init cX9_init 4 none [.ref a] [(a, .inr (9, [.null, .null, .int 0, .null, .null, .null, .null, .null, .null, .int 0, .null, .null, .null, .int 0, .int 0, .int 0, .int 0, .int 0, .int 0, .int 0, .int 0, .null, .null, .null, .int 0, .null, .null, .null, .null, .null]))] (fun vv_ ww_ => ∃ (r1_ : Nat) (r2_ : Nat) (r3_ : Nat) (r4_ : Nat) (r5_ : Nat) (r6_ : Nat) (r7_ : Nat) (r8_ : Nat) (r9_ : Nat) (r10_ : Nat) (r11_ : Nat) (r12_ : Nat) (r13_ : Nat) (r14_ : Nat) (r15_ : Nat) (r16_ : Nat) (r17_ : Nat) (r18_ : Nat) (r19_ : Nat), vv_ = none ∧ ww_ = [(a, .inr (9, [.ref r1_, .ref r2_, .int 0, .ref r3_, .ref r4_, .ref r5_, .ref r6_, .ref r7_, .ref r8_, .int 0, .ref r9_, .ref r10_, .ref r11_, .int 0, .int 0, .int 0, .int 0, .int 0, .int 1, .int 1, .int 1, .ref r12_, .ref r13_, .ref r14_, .int 0, .ref r15_, .ref r16_, .ref r17_, .ref r18_, .ref r19_])), (r1_, .inl (g.2.1 0, 919, .inl (msF 0 0 1 0 0 0 rfN (fun _ => 0) (fun _ => 0) (fun _ => 0) (fun _ => 0) (fun _ => 0)))), (r2_, .inl (g.2.1 0, 919, .inl (fun _ => 0))), (r3_, .inl (g.2.1 0, 8, .inl (nIf (fnF (fun _ => 0))))), (r4_, .inl (g.2.1 0, 495, .inl (nIf rowB))), (r5_, .inl (g.2.1 0, 4096, .inl plI)), (r6_, .inl (g.2.1 0, 4096, .inl (nIf popN))), (r7_, .inl (g.2.1 0, 2475, .inl (nIf fcN))), (r8_, .inl (g.2.1 0, 60, .inl (fun _ => 0))), (r9_, .inl (g.2.1 0, 4, .inl (fun _ => -1))), (r10_, .inl (g.2.1 0, 4, .inl (fun _ => 0))), (r11_, .inl (g.2.1 2, 160, .inr (.inl (fun _ => 0)))), (r12_, .inl (g.2.1 0, 495, .inl (fun _ => 0))), (r13_, .inl (g.2.1 0, 495, .inl (fun _ => 0))), (r14_, .inl (g.2.1 0, 12, .inl (fun _ => 0))), (r15_, .inl (g.2.1 0, 1485, .inl (fun _ => 0))), (r16_, .inl (g.2.1 0, 495, .inl (fun _ => 0))), (r17_, .inl (g.2.1 3, 495, .inl (fun _ => 0))), (r18_, .inl (g.2.1 0, 495, .inl (fun _ => 0))), (r19_, .inl (g.2.1 0, 5, .inl (fun _ => 0)))]) := by
  refine Ct.ofX (lv := [some (.ref a), none, none, none]) (by decide) rfl (Nat.le_of_ble_eq_true rfl) (fun κ => ?_)
  generalize hQ : xQ κ g 19 17213 _ = Q
  refine x_aload_n dX9_init_0 rfl ?_
  refine x_objInit dX9_init_1 ml_X9_1 (Nat.le_of_ble_eq_true rfl) (by decide) ?_
  refine x_aload_n dX9_init_4 rfl ?_
  refine x_sipush 919 dX9_init_5 (by decide) ?_
  refine x_newa (a0 := (919, .inl (fun _ => 0))) dX9_init_8 0 ac_int rfl rfl (fun _ _ => rfl) (fun _ => rfl) (by decide) (by decide) (Nat.le_of_ble_eq_true rfl) (Nat.le_of_ble_eq_true rfl) (Nat.le_of_ble_eq_true rfl) (fun q1 => ?_)
  refine x_putF (ws' := [(a, .inr (9, [.ref q1, .null, .int 0, .null, .null, .null, .null, .null, .null, .int 0, .null, .null, .null, .int 0, .int 0, .int 0, .int 0, .int 0, .int 0, .int 0, .int 0, .null, .null, .null, .int 0, .null, .null, .null, .null, .null])), (q1, .inl (g.2.1 0, 919, .inl (fun _ => 0)))]) dX9_init_10 0 0 inX9 tyX9_ok nmX9 fl_X9_7 rfl rfl (by decide) rfl rfl rfl (rfl) rfl (xlt rfl) rfl ?_
  refine x_aload_n dX9_init_13 rfl ?_
  refine x_sipush 919 dX9_init_14 (by decide) ?_
  refine x_newa (a0 := (919, .inl (fun _ => 0))) dX9_init_17 0 ac_int rfl rfl (fun _ _ => rfl) (fun _ => rfl) (by decide) (by decide) (Nat.le_of_ble_eq_true rfl) (Nat.le_of_ble_eq_true rfl) (Nat.le_of_ble_eq_true rfl) (fun q2 => ?_)
  refine x_putF (ws' := [(a, .inr (9, [.ref q1, .ref q2, .int 0, .null, .null, .null, .null, .null, .null, .int 0, .null, .null, .null, .int 0, .int 0, .int 0, .int 0, .int 0, .int 0, .int 0, .int 0, .null, .null, .null, .int 0, .null, .null, .null, .null, .null])), (q1, .inl (g.2.1 0, 919, .inl (fun _ => 0))), (q2, .inl (g.2.1 0, 919, .inl (fun _ => 0)))]) dX9_init_19 0 1 inX9 tyX9_ok nmX9 fl_X9_13 rfl rfl (by decide) rfl rfl rfl (rfl) rfl (xlt rfl) rfl ?_
  refine x_aload_n dX9_init_22 rfl ?_
  refine x_bipush 8 dX9_init_23 (by decide) ?_
  refine x_newa (a0 := (8, .inl (fun _ => 0))) dX9_init_25 0 ac_int rfl rfl (fun _ _ => rfl) (fun _ => rfl) (by decide) (by decide) (Nat.le_of_ble_eq_true rfl) (Nat.le_of_ble_eq_true rfl) (Nat.le_of_ble_eq_true rfl) (fun q3 => ?_)
  refine x_putF (ws' := [(a, .inr (9, [.ref q1, .ref q2, .int 0, .ref q3, .null, .null, .null, .null, .null, .int 0, .null, .null, .null, .int 0, .int 0, .int 0, .int 0, .int 0, .int 0, .int 0, .int 0, .null, .null, .null, .int 0, .null, .null, .null, .null, .null])), (q1, .inl (g.2.1 0, 919, .inl (fun _ => 0))), (q2, .inl (g.2.1 0, 919, .inl (fun _ => 0))), (q3, .inl (g.2.1 0, 8, .inl (fun _ => 0)))]) dX9_init_27 0 3 inX9 tyX9_ok nmX9 fl_X9_16 rfl rfl (by decide) rfl rfl rfl (rfl) rfl (xlt rfl) rfl ?_
  refine x_aload_n dX9_init_30 rfl ?_
  refine x_sipush 495 dX9_init_31 (by decide) ?_
  refine x_newa (a0 := (495, .inl (fun _ => 0))) dX9_init_34 0 ac_int rfl rfl (fun _ _ => rfl) (fun _ => rfl) (by decide) (by decide) (Nat.le_of_ble_eq_true rfl) (Nat.le_of_ble_eq_true rfl) (Nat.le_of_ble_eq_true rfl) (fun q4 => ?_)
  refine x_putF (ws' := [(a, .inr (9, [.ref q1, .ref q2, .int 0, .ref q3, .ref q4, .null, .null, .null, .null, .int 0, .null, .null, .null, .int 0, .int 0, .int 0, .int 0, .int 0, .int 0, .int 0, .int 0, .null, .null, .null, .int 0, .null, .null, .null, .null, .null])), (q1, .inl (g.2.1 0, 919, .inl (fun _ => 0))), (q2, .inl (g.2.1 0, 919, .inl (fun _ => 0))), (q3, .inl (g.2.1 0, 8, .inl (fun _ => 0))), (q4, .inl (g.2.1 0, 495, .inl (fun _ => 0)))]) dX9_init_36 0 4 inX9 tyX9_ok nmX9 fl_X9_19 rfl rfl (by decide) rfl rfl rfl (rfl) rfl (xlt rfl) rfl ?_
  refine x_aload_n dX9_init_39 rfl ?_
  refine x_sipush 4096 dX9_init_40 (by decide) ?_
  refine x_newa (a0 := (4096, .inl (fun _ => 0))) dX9_init_43 0 ac_int rfl rfl (fun _ _ => rfl) (fun _ => rfl) (by decide) (by decide) (Nat.le_of_ble_eq_true rfl) (Nat.le_of_ble_eq_true rfl) (Nat.le_of_ble_eq_true rfl) (fun q5 => ?_)
  refine x_putF (ws' := [(a, .inr (9, [.ref q1, .ref q2, .int 0, .ref q3, .ref q4, .ref q5, .null, .null, .null, .int 0, .null, .null, .null, .int 0, .int 0, .int 0, .int 0, .int 0, .int 0, .int 0, .int 0, .null, .null, .null, .int 0, .null, .null, .null, .null, .null])), (q1, .inl (g.2.1 0, 919, .inl (fun _ => 0))), (q2, .inl (g.2.1 0, 919, .inl (fun _ => 0))), (q3, .inl (g.2.1 0, 8, .inl (fun _ => 0))), (q4, .inl (g.2.1 0, 495, .inl (fun _ => 0))), (q5, .inl (g.2.1 0, 4096, .inl (fun _ => 0)))]) dX9_init_45 0 5 inX9 tyX9_ok nmX9 fl_X9_22 rfl rfl (by decide) rfl rfl rfl (rfl) rfl (xlt rfl) rfl ?_
  refine x_aload_n dX9_init_48 rfl ?_
  refine x_sipush 4096 dX9_init_49 (by decide) ?_
  refine x_newa (a0 := (4096, .inl (fun _ => 0))) dX9_init_52 0 ac_int rfl rfl (fun _ _ => rfl) (fun _ => rfl) (by decide) (by decide) (Nat.le_of_ble_eq_true rfl) (Nat.le_of_ble_eq_true rfl) (Nat.le_of_ble_eq_true rfl) (fun q6 => ?_)
  refine x_putF (ws' := [(a, .inr (9, [.ref q1, .ref q2, .int 0, .ref q3, .ref q4, .ref q5, .ref q6, .null, .null, .int 0, .null, .null, .null, .int 0, .int 0, .int 0, .int 0, .int 0, .int 0, .int 0, .int 0, .null, .null, .null, .int 0, .null, .null, .null, .null, .null])), (q1, .inl (g.2.1 0, 919, .inl (fun _ => 0))), (q2, .inl (g.2.1 0, 919, .inl (fun _ => 0))), (q3, .inl (g.2.1 0, 8, .inl (fun _ => 0))), (q4, .inl (g.2.1 0, 495, .inl (fun _ => 0))), (q5, .inl (g.2.1 0, 4096, .inl (fun _ => 0))), (q6, .inl (g.2.1 0, 4096, .inl (fun _ => 0)))]) dX9_init_54 0 6 inX9 tyX9_ok nmX9 fl_X9_25 rfl rfl (by decide) rfl rfl rfl (rfl) rfl (xlt rfl) rfl ?_
  refine x_aload_n dX9_init_57 rfl ?_
  refine x_sipush 2475 dX9_init_58 (by decide) ?_
  refine x_newa (a0 := (2475, .inl (fun _ => 0))) dX9_init_61 0 ac_int rfl rfl (fun _ _ => rfl) (fun _ => rfl) (by decide) (by decide) (Nat.le_of_ble_eq_true rfl) (Nat.le_of_ble_eq_true rfl) (Nat.le_of_ble_eq_true rfl) (fun q7 => ?_)
  refine x_putF (ws' := [(a, .inr (9, [.ref q1, .ref q2, .int 0, .ref q3, .ref q4, .ref q5, .ref q6, .ref q7, .null, .int 0, .null, .null, .null, .int 0, .int 0, .int 0, .int 0, .int 0, .int 0, .int 0, .int 0, .null, .null, .null, .int 0, .null, .null, .null, .null, .null])), (q1, .inl (g.2.1 0, 919, .inl (fun _ => 0))), (q2, .inl (g.2.1 0, 919, .inl (fun _ => 0))), (q3, .inl (g.2.1 0, 8, .inl (fun _ => 0))), (q4, .inl (g.2.1 0, 495, .inl (fun _ => 0))), (q5, .inl (g.2.1 0, 4096, .inl (fun _ => 0))), (q6, .inl (g.2.1 0, 4096, .inl (fun _ => 0))), (q7, .inl (g.2.1 0, 2475, .inl (fun _ => 0)))]) dX9_init_63 0 7 inX9 tyX9_ok nmX9 fl_X9_28 rfl rfl (by decide) rfl rfl rfl (rfl) rfl (xlt rfl) rfl ?_
  refine x_aload_n dX9_init_66 rfl ?_
  refine x_bipush 60 dX9_init_67 (by decide) ?_
  refine x_newa (a0 := (60, .inl (fun _ => 0))) dX9_init_69 0 ac_int rfl rfl (fun _ _ => rfl) (fun _ => rfl) (by decide) (by decide) (Nat.le_of_ble_eq_true rfl) (Nat.le_of_ble_eq_true rfl) (Nat.le_of_ble_eq_true rfl) (fun q8 => ?_)
  refine x_putF (ws' := [(a, .inr (9, [.ref q1, .ref q2, .int 0, .ref q3, .ref q4, .ref q5, .ref q6, .ref q7, .ref q8, .int 0, .null, .null, .null, .int 0, .int 0, .int 0, .int 0, .int 0, .int 0, .int 0, .int 0, .null, .null, .null, .int 0, .null, .null, .null, .null, .null])), (q1, .inl (g.2.1 0, 919, .inl (fun _ => 0))), (q2, .inl (g.2.1 0, 919, .inl (fun _ => 0))), (q3, .inl (g.2.1 0, 8, .inl (fun _ => 0))), (q4, .inl (g.2.1 0, 495, .inl (fun _ => 0))), (q5, .inl (g.2.1 0, 4096, .inl (fun _ => 0))), (q6, .inl (g.2.1 0, 4096, .inl (fun _ => 0))), (q7, .inl (g.2.1 0, 2475, .inl (fun _ => 0))), (q8, .inl (g.2.1 0, 60, .inl (fun _ => 0)))]) dX9_init_71 0 8 inX9 tyX9_ok nmX9 fl_X9_31 rfl rfl (by decide) rfl rfl rfl (rfl) rfl (xlt rfl) rfl ?_
  refine x_aload_n dX9_init_74 rfl ?_
  refine x_iconst 4 dX9_init_75 (by decide) ?_
  refine x_newa (a0 := (4, .inl (fun _ => 0))) dX9_init_76 0 ac_int rfl rfl (fun _ _ => rfl) (fun _ => rfl) (by decide) (by decide) (Nat.le_of_ble_eq_true rfl) (Nat.le_of_ble_eq_true rfl) (Nat.le_of_ble_eq_true rfl) (fun q9 => ?_)
  refine x_dup dX9_init_78 rfl ?_
  refine x_iconst 0 dX9_init_79 (by decide) ?_
  refine x_iconst (-1) dX9_init_80 (by decide) ?_
  refine x_iast (ws' := [(a, .inr (9, [.ref q1, .ref q2, .int 0, .ref q3, .ref q4, .ref q5, .ref q6, .ref q7, .ref q8, .int 0, .null, .null, .null, .int 0, .int 0, .int 0, .int 0, .int 0, .int 0, .int 0, .int 0, .null, .null, .null, .int 0, .null, .null, .null, .null, .null])), (q1, .inl (g.2.1 0, 919, .inl (fun _ => 0))), (q2, .inl (g.2.1 0, 919, .inl (fun _ => 0))), (q3, .inl (g.2.1 0, 8, .inl (fun _ => 0))), (q4, .inl (g.2.1 0, 495, .inl (fun _ => 0))), (q5, .inl (g.2.1 0, 4096, .inl (fun _ => 0))), (q6, .inl (g.2.1 0, 4096, .inl (fun _ => 0))), (q7, .inl (g.2.1 0, 2475, .inl (fun _ => 0))), (q8, .inl (g.2.1 0, 60, .inl (fun _ => 0))), (q9, .inl (g.2.1 0, 4, .inl (upd (fun _ => 0) 0 ((-1)))))]) dX9_init_81 9 0 rfl (rfl) (by decide) (by decide) rfl ?_
  refine x_dup dX9_init_82 rfl ?_
  refine x_iconst 1 dX9_init_83 (by decide) ?_
  refine x_iconst (-1) dX9_init_84 (by decide) ?_
  refine x_iast (ws' := [(a, .inr (9, [.ref q1, .ref q2, .int 0, .ref q3, .ref q4, .ref q5, .ref q6, .ref q7, .ref q8, .int 0, .null, .null, .null, .int 0, .int 0, .int 0, .int 0, .int 0, .int 0, .int 0, .int 0, .null, .null, .null, .int 0, .null, .null, .null, .null, .null])), (q1, .inl (g.2.1 0, 919, .inl (fun _ => 0))), (q2, .inl (g.2.1 0, 919, .inl (fun _ => 0))), (q3, .inl (g.2.1 0, 8, .inl (fun _ => 0))), (q4, .inl (g.2.1 0, 495, .inl (fun _ => 0))), (q5, .inl (g.2.1 0, 4096, .inl (fun _ => 0))), (q6, .inl (g.2.1 0, 4096, .inl (fun _ => 0))), (q7, .inl (g.2.1 0, 2475, .inl (fun _ => 0))), (q8, .inl (g.2.1 0, 60, .inl (fun _ => 0))), (q9, .inl (g.2.1 0, 4, .inl (upd (upd (fun _ => 0) 0 ((-1))) 1 ((-1)))))]) dX9_init_85 9 1 rfl (rfl) (by decide) (by decide) rfl ?_
  refine x_dup dX9_init_86 rfl ?_
  refine x_iconst 2 dX9_init_87 (by decide) ?_
  refine x_iconst (-1) dX9_init_88 (by decide) ?_
  refine x_iast (ws' := [(a, .inr (9, [.ref q1, .ref q2, .int 0, .ref q3, .ref q4, .ref q5, .ref q6, .ref q7, .ref q8, .int 0, .null, .null, .null, .int 0, .int 0, .int 0, .int 0, .int 0, .int 0, .int 0, .int 0, .null, .null, .null, .int 0, .null, .null, .null, .null, .null])), (q1, .inl (g.2.1 0, 919, .inl (fun _ => 0))), (q2, .inl (g.2.1 0, 919, .inl (fun _ => 0))), (q3, .inl (g.2.1 0, 8, .inl (fun _ => 0))), (q4, .inl (g.2.1 0, 495, .inl (fun _ => 0))), (q5, .inl (g.2.1 0, 4096, .inl (fun _ => 0))), (q6, .inl (g.2.1 0, 4096, .inl (fun _ => 0))), (q7, .inl (g.2.1 0, 2475, .inl (fun _ => 0))), (q8, .inl (g.2.1 0, 60, .inl (fun _ => 0))), (q9, .inl (g.2.1 0, 4, .inl (upd (upd (upd (fun _ => 0) 0 ((-1))) 1 ((-1))) 2 ((-1)))))]) dX9_init_89 9 2 rfl (rfl) (by decide) (by decide) rfl ?_
  refine x_dup dX9_init_90 rfl ?_
  refine x_iconst 3 dX9_init_91 (by decide) ?_
  refine x_iconst (-1) dX9_init_92 (by decide) ?_
  refine x_iast (ws' := [(a, .inr (9, [.ref q1, .ref q2, .int 0, .ref q3, .ref q4, .ref q5, .ref q6, .ref q7, .ref q8, .int 0, .null, .null, .null, .int 0, .int 0, .int 0, .int 0, .int 0, .int 0, .int 0, .int 0, .null, .null, .null, .int 0, .null, .null, .null, .null, .null])), (q1, .inl (g.2.1 0, 919, .inl (fun _ => 0))), (q2, .inl (g.2.1 0, 919, .inl (fun _ => 0))), (q3, .inl (g.2.1 0, 8, .inl (fun _ => 0))), (q4, .inl (g.2.1 0, 495, .inl (fun _ => 0))), (q5, .inl (g.2.1 0, 4096, .inl (fun _ => 0))), (q6, .inl (g.2.1 0, 4096, .inl (fun _ => 0))), (q7, .inl (g.2.1 0, 2475, .inl (fun _ => 0))), (q8, .inl (g.2.1 0, 60, .inl (fun _ => 0))), (q9, .inl (g.2.1 0, 4, .inl (upd (upd (upd (upd (fun _ => 0) 0 ((-1))) 1 ((-1))) 2 ((-1))) 3 ((-1)))))]) dX9_init_93 9 3 rfl (rfl) (by decide) (by decide) rfl ?_
  refine x_putF (ws' := [(a, .inr (9, [.ref q1, .ref q2, .int 0, .ref q3, .ref q4, .ref q5, .ref q6, .ref q7, .ref q8, .int 0, .ref q9, .null, .null, .int 0, .int 0, .int 0, .int 0, .int 0, .int 0, .int 0, .int 0, .null, .null, .null, .int 0, .null, .null, .null, .null, .null])), (q1, .inl (g.2.1 0, 919, .inl (fun _ => 0))), (q2, .inl (g.2.1 0, 919, .inl (fun _ => 0))), (q3, .inl (g.2.1 0, 8, .inl (fun _ => 0))), (q4, .inl (g.2.1 0, 495, .inl (fun _ => 0))), (q5, .inl (g.2.1 0, 4096, .inl (fun _ => 0))), (q6, .inl (g.2.1 0, 4096, .inl (fun _ => 0))), (q7, .inl (g.2.1 0, 2475, .inl (fun _ => 0))), (q8, .inl (g.2.1 0, 60, .inl (fun _ => 0))), (q9, .inl (g.2.1 0, 4, .inl (upd (upd (upd (upd (fun _ => 0) 0 ((-1))) 1 ((-1))) 2 ((-1))) 3 ((-1)))))]) dX9_init_94 0 10 inX9 tyX9_ok nmX9 fl_X9_34 rfl rfl (by decide) rfl rfl rfl (rfl) rfl (xlt rfl) rfl ?_
  refine x_aload_n dX9_init_97 rfl ?_
  refine x_iconst 4 dX9_init_98 (by decide) ?_
  refine x_newa (a0 := (4, .inl (fun _ => 0))) dX9_init_99 0 ac_int rfl rfl (fun _ _ => rfl) (fun _ => rfl) (by decide) (by decide) (Nat.le_of_ble_eq_true rfl) (Nat.le_of_ble_eq_true rfl) (Nat.le_of_ble_eq_true rfl) (fun q10 => ?_)
  refine x_putF (ws' := [(a, .inr (9, [.ref q1, .ref q2, .int 0, .ref q3, .ref q4, .ref q5, .ref q6, .ref q7, .ref q8, .int 0, .ref q9, .ref q10, .null, .int 0, .int 0, .int 0, .int 0, .int 0, .int 0, .int 0, .int 0, .null, .null, .null, .int 0, .null, .null, .null, .null, .null])), (q1, .inl (g.2.1 0, 919, .inl (fun _ => 0))), (q2, .inl (g.2.1 0, 919, .inl (fun _ => 0))), (q3, .inl (g.2.1 0, 8, .inl (fun _ => 0))), (q4, .inl (g.2.1 0, 495, .inl (fun _ => 0))), (q5, .inl (g.2.1 0, 4096, .inl (fun _ => 0))), (q6, .inl (g.2.1 0, 4096, .inl (fun _ => 0))), (q7, .inl (g.2.1 0, 2475, .inl (fun _ => 0))), (q8, .inl (g.2.1 0, 60, .inl (fun _ => 0))), (q9, .inl (g.2.1 0, 4, .inl (upd (upd (upd (upd (fun _ => 0) 0 ((-1))) 1 ((-1))) 2 ((-1))) 3 ((-1))))), (q10, .inl (g.2.1 0, 4, .inl (fun _ => 0)))]) dX9_init_101 0 11 inX9 tyX9_ok nmX9 fl_X9_37 rfl rfl (by decide) rfl rfl rfl (rfl) rfl (xlt rfl) rfl ?_
  refine x_aload_n dX9_init_104 rfl ?_
  refine x_sipush 160 dX9_init_105 (by decide) ?_
  refine x_newa (a0 := (160, .inr (.inl (fun _ => 0)))) dX9_init_108 2 ac_long rfl rfl (fun _ _ => rfl) (fun _ => rfl) (by decide) (by decide) (Nat.le_of_ble_eq_true rfl) (Nat.le_of_ble_eq_true rfl) (Nat.le_of_ble_eq_true rfl) (fun q11 => ?_)
  refine x_putF (ws' := [(a, .inr (9, [.ref q1, .ref q2, .int 0, .ref q3, .ref q4, .ref q5, .ref q6, .ref q7, .ref q8, .int 0, .ref q9, .ref q10, .ref q11, .int 0, .int 0, .int 0, .int 0, .int 0, .int 0, .int 0, .int 0, .null, .null, .null, .int 0, .null, .null, .null, .null, .null])), (q1, .inl (g.2.1 0, 919, .inl (fun _ => 0))), (q2, .inl (g.2.1 0, 919, .inl (fun _ => 0))), (q3, .inl (g.2.1 0, 8, .inl (fun _ => 0))), (q4, .inl (g.2.1 0, 495, .inl (fun _ => 0))), (q5, .inl (g.2.1 0, 4096, .inl (fun _ => 0))), (q6, .inl (g.2.1 0, 4096, .inl (fun _ => 0))), (q7, .inl (g.2.1 0, 2475, .inl (fun _ => 0))), (q8, .inl (g.2.1 0, 60, .inl (fun _ => 0))), (q9, .inl (g.2.1 0, 4, .inl (upd (upd (upd (upd (fun _ => 0) 0 ((-1))) 1 ((-1))) 2 ((-1))) 3 ((-1))))), (q10, .inl (g.2.1 0, 4, .inl (fun _ => 0))), (q11, .inl (g.2.1 2, 160, .inr (.inl (fun _ => 0))))]) dX9_init_110 0 12 inX9 tyX9_ok nmX9 fl_X9_40 rfl rfl (by decide) rfl rfl rfl (rfl) rfl (xlt rfl) rfl ?_
  refine x_aload_n dX9_init_113 rfl ?_
  refine x_iconst 1 dX9_init_114 (by decide) ?_
  refine x_put (ws' := [(a, .inr (9, [.ref q1, .ref q2, .int 0, .ref q3, .ref q4, .ref q5, .ref q6, .ref q7, .ref q8, .int 0, .ref q9, .ref q10, .ref q11, .int 0, .int 0, .int 0, .int 0, .int 0, .int 1, .int 0, .int 0, .null, .null, .null, .int 0, .null, .null, .null, .null, .null])), (q1, .inl (g.2.1 0, 919, .inl (fun _ => 0))), (q2, .inl (g.2.1 0, 919, .inl (fun _ => 0))), (q3, .inl (g.2.1 0, 8, .inl (fun _ => 0))), (q4, .inl (g.2.1 0, 495, .inl (fun _ => 0))), (q5, .inl (g.2.1 0, 4096, .inl (fun _ => 0))), (q6, .inl (g.2.1 0, 4096, .inl (fun _ => 0))), (q7, .inl (g.2.1 0, 2475, .inl (fun _ => 0))), (q8, .inl (g.2.1 0, 60, .inl (fun _ => 0))), (q9, .inl (g.2.1 0, 4, .inl (upd (upd (upd (upd (fun _ => 0) 0 ((-1))) 1 ((-1))) 2 ((-1))) 3 ((-1))))), (q10, .inl (g.2.1 0, 4, .inl (fun _ => 0))), (q11, .inl (g.2.1 2, 160, .inr (.inl (fun _ => 0))))]) dX9_init_115 0 18 inX9 tyX9_ok nmX9 fl_X9_44 rfl rfl (by decide) rfl (rfl) rfl (xlt rfl) rfl ?_
  refine x_aload_n dX9_init_118 rfl ?_
  refine x_iconst 1 dX9_init_119 (by decide) ?_
  refine x_put (ws' := [(a, .inr (9, [.ref q1, .ref q2, .int 0, .ref q3, .ref q4, .ref q5, .ref q6, .ref q7, .ref q8, .int 0, .ref q9, .ref q10, .ref q11, .int 0, .int 0, .int 0, .int 0, .int 0, .int 1, .int 1, .int 0, .null, .null, .null, .int 0, .null, .null, .null, .null, .null])), (q1, .inl (g.2.1 0, 919, .inl (fun _ => 0))), (q2, .inl (g.2.1 0, 919, .inl (fun _ => 0))), (q3, .inl (g.2.1 0, 8, .inl (fun _ => 0))), (q4, .inl (g.2.1 0, 495, .inl (fun _ => 0))), (q5, .inl (g.2.1 0, 4096, .inl (fun _ => 0))), (q6, .inl (g.2.1 0, 4096, .inl (fun _ => 0))), (q7, .inl (g.2.1 0, 2475, .inl (fun _ => 0))), (q8, .inl (g.2.1 0, 60, .inl (fun _ => 0))), (q9, .inl (g.2.1 0, 4, .inl (upd (upd (upd (upd (fun _ => 0) 0 ((-1))) 1 ((-1))) 2 ((-1))) 3 ((-1))))), (q10, .inl (g.2.1 0, 4, .inl (fun _ => 0))), (q11, .inl (g.2.1 2, 160, .inr (.inl (fun _ => 0))))]) dX9_init_120 0 19 inX9 tyX9_ok nmX9 fl_X9_48 rfl rfl (by decide) rfl (rfl) rfl (xlt rfl) rfl ?_
  refine x_aload_n dX9_init_123 rfl ?_
  refine x_iconst 1 dX9_init_124 (by decide) ?_
  refine x_put (ws' := [(a, .inr (9, [.ref q1, .ref q2, .int 0, .ref q3, .ref q4, .ref q5, .ref q6, .ref q7, .ref q8, .int 0, .ref q9, .ref q10, .ref q11, .int 0, .int 0, .int 0, .int 0, .int 0, .int 1, .int 1, .int 1, .null, .null, .null, .int 0, .null, .null, .null, .null, .null])), (q1, .inl (g.2.1 0, 919, .inl (fun _ => 0))), (q2, .inl (g.2.1 0, 919, .inl (fun _ => 0))), (q3, .inl (g.2.1 0, 8, .inl (fun _ => 0))), (q4, .inl (g.2.1 0, 495, .inl (fun _ => 0))), (q5, .inl (g.2.1 0, 4096, .inl (fun _ => 0))), (q6, .inl (g.2.1 0, 4096, .inl (fun _ => 0))), (q7, .inl (g.2.1 0, 2475, .inl (fun _ => 0))), (q8, .inl (g.2.1 0, 60, .inl (fun _ => 0))), (q9, .inl (g.2.1 0, 4, .inl (upd (upd (upd (upd (fun _ => 0) 0 ((-1))) 1 ((-1))) 2 ((-1))) 3 ((-1))))), (q10, .inl (g.2.1 0, 4, .inl (fun _ => 0))), (q11, .inl (g.2.1 2, 160, .inr (.inl (fun _ => 0))))]) dX9_init_125 0 20 inX9 tyX9_ok nmX9 fl_X9_51 rfl rfl (by decide) rfl (rfl) rfl (xlt rfl) rfl ?_
  refine x_aload_n dX9_init_128 rfl ?_
  refine x_sipush 495 dX9_init_129 (by decide) ?_
  refine x_newa (a0 := (495, .inl (fun _ => 0))) dX9_init_132 0 ac_int rfl rfl (fun _ _ => rfl) (fun _ => rfl) (by decide) (by decide) (Nat.le_of_ble_eq_true rfl) (Nat.le_of_ble_eq_true rfl) (Nat.le_of_ble_eq_true rfl) (fun q12 => ?_)
  refine x_putF (ws' := [(a, .inr (9, [.ref q1, .ref q2, .int 0, .ref q3, .ref q4, .ref q5, .ref q6, .ref q7, .ref q8, .int 0, .ref q9, .ref q10, .ref q11, .int 0, .int 0, .int 0, .int 0, .int 0, .int 1, .int 1, .int 1, .ref q12, .null, .null, .int 0, .null, .null, .null, .null, .null])), (q1, .inl (g.2.1 0, 919, .inl (fun _ => 0))), (q2, .inl (g.2.1 0, 919, .inl (fun _ => 0))), (q3, .inl (g.2.1 0, 8, .inl (fun _ => 0))), (q4, .inl (g.2.1 0, 495, .inl (fun _ => 0))), (q5, .inl (g.2.1 0, 4096, .inl (fun _ => 0))), (q6, .inl (g.2.1 0, 4096, .inl (fun _ => 0))), (q7, .inl (g.2.1 0, 2475, .inl (fun _ => 0))), (q8, .inl (g.2.1 0, 60, .inl (fun _ => 0))), (q9, .inl (g.2.1 0, 4, .inl (upd (upd (upd (upd (fun _ => 0) 0 ((-1))) 1 ((-1))) 2 ((-1))) 3 ((-1))))), (q10, .inl (g.2.1 0, 4, .inl (fun _ => 0))), (q11, .inl (g.2.1 2, 160, .inr (.inl (fun _ => 0)))), (q12, .inl (g.2.1 0, 495, .inl (fun _ => 0)))]) dX9_init_134 0 21 inX9 tyX9_ok nmX9 fl_X9_54 rfl rfl (by decide) rfl rfl rfl (rfl) rfl (xlt rfl) rfl ?_
  refine x_aload_n dX9_init_137 rfl ?_
  refine x_sipush 495 dX9_init_138 (by decide) ?_
  refine x_newa (a0 := (495, .inl (fun _ => 0))) dX9_init_141 0 ac_int rfl rfl (fun _ _ => rfl) (fun _ => rfl) (by decide) (by decide) (Nat.le_of_ble_eq_true rfl) (Nat.le_of_ble_eq_true rfl) (Nat.le_of_ble_eq_true rfl) (fun q13 => ?_)
  refine x_putF (ws' := [(a, .inr (9, [.ref q1, .ref q2, .int 0, .ref q3, .ref q4, .ref q5, .ref q6, .ref q7, .ref q8, .int 0, .ref q9, .ref q10, .ref q11, .int 0, .int 0, .int 0, .int 0, .int 0, .int 1, .int 1, .int 1, .ref q12, .ref q13, .null, .int 0, .null, .null, .null, .null, .null])), (q1, .inl (g.2.1 0, 919, .inl (fun _ => 0))), (q2, .inl (g.2.1 0, 919, .inl (fun _ => 0))), (q3, .inl (g.2.1 0, 8, .inl (fun _ => 0))), (q4, .inl (g.2.1 0, 495, .inl (fun _ => 0))), (q5, .inl (g.2.1 0, 4096, .inl (fun _ => 0))), (q6, .inl (g.2.1 0, 4096, .inl (fun _ => 0))), (q7, .inl (g.2.1 0, 2475, .inl (fun _ => 0))), (q8, .inl (g.2.1 0, 60, .inl (fun _ => 0))), (q9, .inl (g.2.1 0, 4, .inl (upd (upd (upd (upd (fun _ => 0) 0 ((-1))) 1 ((-1))) 2 ((-1))) 3 ((-1))))), (q10, .inl (g.2.1 0, 4, .inl (fun _ => 0))), (q11, .inl (g.2.1 2, 160, .inr (.inl (fun _ => 0)))), (q12, .inl (g.2.1 0, 495, .inl (fun _ => 0))), (q13, .inl (g.2.1 0, 495, .inl (fun _ => 0)))]) dX9_init_143 0 22 inX9 tyX9_ok nmX9 fl_X9_57 rfl rfl (by decide) rfl rfl rfl (rfl) rfl (xlt rfl) rfl ?_
  refine x_aload_n dX9_init_146 rfl ?_
  refine x_bipush 12 dX9_init_147 (by decide) ?_
  refine x_newa (a0 := (12, .inl (fun _ => 0))) dX9_init_149 0 ac_int rfl rfl (fun _ _ => rfl) (fun _ => rfl) (by decide) (by decide) (Nat.le_of_ble_eq_true rfl) (Nat.le_of_ble_eq_true rfl) (Nat.le_of_ble_eq_true rfl) (fun q14 => ?_)
  refine x_putF (ws' := [(a, .inr (9, [.ref q1, .ref q2, .int 0, .ref q3, .ref q4, .ref q5, .ref q6, .ref q7, .ref q8, .int 0, .ref q9, .ref q10, .ref q11, .int 0, .int 0, .int 0, .int 0, .int 0, .int 1, .int 1, .int 1, .ref q12, .ref q13, .ref q14, .int 0, .null, .null, .null, .null, .null])), (q1, .inl (g.2.1 0, 919, .inl (fun _ => 0))), (q2, .inl (g.2.1 0, 919, .inl (fun _ => 0))), (q3, .inl (g.2.1 0, 8, .inl (fun _ => 0))), (q4, .inl (g.2.1 0, 495, .inl (fun _ => 0))), (q5, .inl (g.2.1 0, 4096, .inl (fun _ => 0))), (q6, .inl (g.2.1 0, 4096, .inl (fun _ => 0))), (q7, .inl (g.2.1 0, 2475, .inl (fun _ => 0))), (q8, .inl (g.2.1 0, 60, .inl (fun _ => 0))), (q9, .inl (g.2.1 0, 4, .inl (upd (upd (upd (upd (fun _ => 0) 0 ((-1))) 1 ((-1))) 2 ((-1))) 3 ((-1))))), (q10, .inl (g.2.1 0, 4, .inl (fun _ => 0))), (q11, .inl (g.2.1 2, 160, .inr (.inl (fun _ => 0)))), (q12, .inl (g.2.1 0, 495, .inl (fun _ => 0))), (q13, .inl (g.2.1 0, 495, .inl (fun _ => 0))), (q14, .inl (g.2.1 0, 12, .inl (fun _ => 0)))]) dX9_init_151 0 23 inX9 tyX9_ok nmX9 fl_X9_60 rfl rfl (by decide) rfl rfl rfl (rfl) rfl (xlt rfl) rfl ?_
  refine x_aload_n dX9_init_154 rfl ?_
  refine x_sipush 1485 dX9_init_155 (by decide) ?_
  refine x_newa (a0 := (1485, .inl (fun _ => 0))) dX9_init_158 0 ac_int rfl rfl (fun _ _ => rfl) (fun _ => rfl) (by decide) (by decide) (Nat.le_of_ble_eq_true rfl) (Nat.le_of_ble_eq_true rfl) (Nat.le_of_ble_eq_true rfl) (fun q15 => ?_)
  refine x_putF (ws' := [(a, .inr (9, [.ref q1, .ref q2, .int 0, .ref q3, .ref q4, .ref q5, .ref q6, .ref q7, .ref q8, .int 0, .ref q9, .ref q10, .ref q11, .int 0, .int 0, .int 0, .int 0, .int 0, .int 1, .int 1, .int 1, .ref q12, .ref q13, .ref q14, .int 0, .ref q15, .null, .null, .null, .null])), (q1, .inl (g.2.1 0, 919, .inl (fun _ => 0))), (q2, .inl (g.2.1 0, 919, .inl (fun _ => 0))), (q3, .inl (g.2.1 0, 8, .inl (fun _ => 0))), (q4, .inl (g.2.1 0, 495, .inl (fun _ => 0))), (q5, .inl (g.2.1 0, 4096, .inl (fun _ => 0))), (q6, .inl (g.2.1 0, 4096, .inl (fun _ => 0))), (q7, .inl (g.2.1 0, 2475, .inl (fun _ => 0))), (q8, .inl (g.2.1 0, 60, .inl (fun _ => 0))), (q9, .inl (g.2.1 0, 4, .inl (upd (upd (upd (upd (fun _ => 0) 0 ((-1))) 1 ((-1))) 2 ((-1))) 3 ((-1))))), (q10, .inl (g.2.1 0, 4, .inl (fun _ => 0))), (q11, .inl (g.2.1 2, 160, .inr (.inl (fun _ => 0)))), (q12, .inl (g.2.1 0, 495, .inl (fun _ => 0))), (q13, .inl (g.2.1 0, 495, .inl (fun _ => 0))), (q14, .inl (g.2.1 0, 12, .inl (fun _ => 0))), (q15, .inl (g.2.1 0, 1485, .inl (fun _ => 0)))]) dX9_init_160 0 25 inX9 tyX9_ok nmX9 fl_X9_63 rfl rfl (by decide) rfl rfl rfl (rfl) rfl (xlt rfl) rfl ?_
  refine x_aload_n dX9_init_163 rfl ?_
  refine x_sipush 495 dX9_init_164 (by decide) ?_
  refine x_newa (a0 := (495, .inl (fun _ => 0))) dX9_init_167 0 ac_int rfl rfl (fun _ _ => rfl) (fun _ => rfl) (by decide) (by decide) (Nat.le_of_ble_eq_true rfl) (Nat.le_of_ble_eq_true rfl) (Nat.le_of_ble_eq_true rfl) (fun q16 => ?_)
  refine x_putF (ws' := [(a, .inr (9, [.ref q1, .ref q2, .int 0, .ref q3, .ref q4, .ref q5, .ref q6, .ref q7, .ref q8, .int 0, .ref q9, .ref q10, .ref q11, .int 0, .int 0, .int 0, .int 0, .int 0, .int 1, .int 1, .int 1, .ref q12, .ref q13, .ref q14, .int 0, .ref q15, .ref q16, .null, .null, .null])), (q1, .inl (g.2.1 0, 919, .inl (fun _ => 0))), (q2, .inl (g.2.1 0, 919, .inl (fun _ => 0))), (q3, .inl (g.2.1 0, 8, .inl (fun _ => 0))), (q4, .inl (g.2.1 0, 495, .inl (fun _ => 0))), (q5, .inl (g.2.1 0, 4096, .inl (fun _ => 0))), (q6, .inl (g.2.1 0, 4096, .inl (fun _ => 0))), (q7, .inl (g.2.1 0, 2475, .inl (fun _ => 0))), (q8, .inl (g.2.1 0, 60, .inl (fun _ => 0))), (q9, .inl (g.2.1 0, 4, .inl (upd (upd (upd (upd (fun _ => 0) 0 ((-1))) 1 ((-1))) 2 ((-1))) 3 ((-1))))), (q10, .inl (g.2.1 0, 4, .inl (fun _ => 0))), (q11, .inl (g.2.1 2, 160, .inr (.inl (fun _ => 0)))), (q12, .inl (g.2.1 0, 495, .inl (fun _ => 0))), (q13, .inl (g.2.1 0, 495, .inl (fun _ => 0))), (q14, .inl (g.2.1 0, 12, .inl (fun _ => 0))), (q15, .inl (g.2.1 0, 1485, .inl (fun _ => 0))), (q16, .inl (g.2.1 0, 495, .inl (fun _ => 0)))]) dX9_init_169 0 26 inX9 tyX9_ok nmX9 fl_X9_66 rfl rfl (by decide) rfl rfl rfl (rfl) rfl (xlt rfl) rfl ?_
  refine x_aload_n dX9_init_172 rfl ?_
  refine x_sipush 495 dX9_init_173 (by decide) ?_
  refine x_newa (a0 := (495, .inl (fun _ => 0))) dX9_init_176 3 ac_boolean rfl rfl (fun _ _ => rfl) (fun _ => rfl) (by decide) (by decide) (Nat.le_of_ble_eq_true rfl) (Nat.le_of_ble_eq_true rfl) (Nat.le_of_ble_eq_true rfl) (fun q17 => ?_)
  refine x_putF (ws' := [(a, .inr (9, [.ref q1, .ref q2, .int 0, .ref q3, .ref q4, .ref q5, .ref q6, .ref q7, .ref q8, .int 0, .ref q9, .ref q10, .ref q11, .int 0, .int 0, .int 0, .int 0, .int 0, .int 1, .int 1, .int 1, .ref q12, .ref q13, .ref q14, .int 0, .ref q15, .ref q16, .ref q17, .null, .null])), (q1, .inl (g.2.1 0, 919, .inl (fun _ => 0))), (q2, .inl (g.2.1 0, 919, .inl (fun _ => 0))), (q3, .inl (g.2.1 0, 8, .inl (fun _ => 0))), (q4, .inl (g.2.1 0, 495, .inl (fun _ => 0))), (q5, .inl (g.2.1 0, 4096, .inl (fun _ => 0))), (q6, .inl (g.2.1 0, 4096, .inl (fun _ => 0))), (q7, .inl (g.2.1 0, 2475, .inl (fun _ => 0))), (q8, .inl (g.2.1 0, 60, .inl (fun _ => 0))), (q9, .inl (g.2.1 0, 4, .inl (upd (upd (upd (upd (fun _ => 0) 0 ((-1))) 1 ((-1))) 2 ((-1))) 3 ((-1))))), (q10, .inl (g.2.1 0, 4, .inl (fun _ => 0))), (q11, .inl (g.2.1 2, 160, .inr (.inl (fun _ => 0)))), (q12, .inl (g.2.1 0, 495, .inl (fun _ => 0))), (q13, .inl (g.2.1 0, 495, .inl (fun _ => 0))), (q14, .inl (g.2.1 0, 12, .inl (fun _ => 0))), (q15, .inl (g.2.1 0, 1485, .inl (fun _ => 0))), (q16, .inl (g.2.1 0, 495, .inl (fun _ => 0))), (q17, .inl (g.2.1 3, 495, .inl (fun _ => 0)))]) dX9_init_178 0 27 inX9 tyX9_ok nmX9 fl_X9_69 rfl rfl (by decide) rfl rfl rfl (rfl) rfl (xlt rfl) rfl ?_
  refine x_aload_n dX9_init_181 rfl ?_
  refine x_sipush 495 dX9_init_182 (by decide) ?_
  refine x_newa (a0 := (495, .inl (fun _ => 0))) dX9_init_185 0 ac_int rfl rfl (fun _ _ => rfl) (fun _ => rfl) (by decide) (by decide) (Nat.le_of_ble_eq_true rfl) (Nat.le_of_ble_eq_true rfl) (Nat.le_of_ble_eq_true rfl) (fun q18 => ?_)
  refine x_putF (ws' := [(a, .inr (9, [.ref q1, .ref q2, .int 0, .ref q3, .ref q4, .ref q5, .ref q6, .ref q7, .ref q8, .int 0, .ref q9, .ref q10, .ref q11, .int 0, .int 0, .int 0, .int 0, .int 0, .int 1, .int 1, .int 1, .ref q12, .ref q13, .ref q14, .int 0, .ref q15, .ref q16, .ref q17, .ref q18, .null])), (q1, .inl (g.2.1 0, 919, .inl (fun _ => 0))), (q2, .inl (g.2.1 0, 919, .inl (fun _ => 0))), (q3, .inl (g.2.1 0, 8, .inl (fun _ => 0))), (q4, .inl (g.2.1 0, 495, .inl (fun _ => 0))), (q5, .inl (g.2.1 0, 4096, .inl (fun _ => 0))), (q6, .inl (g.2.1 0, 4096, .inl (fun _ => 0))), (q7, .inl (g.2.1 0, 2475, .inl (fun _ => 0))), (q8, .inl (g.2.1 0, 60, .inl (fun _ => 0))), (q9, .inl (g.2.1 0, 4, .inl (upd (upd (upd (upd (fun _ => 0) 0 ((-1))) 1 ((-1))) 2 ((-1))) 3 ((-1))))), (q10, .inl (g.2.1 0, 4, .inl (fun _ => 0))), (q11, .inl (g.2.1 2, 160, .inr (.inl (fun _ => 0)))), (q12, .inl (g.2.1 0, 495, .inl (fun _ => 0))), (q13, .inl (g.2.1 0, 495, .inl (fun _ => 0))), (q14, .inl (g.2.1 0, 12, .inl (fun _ => 0))), (q15, .inl (g.2.1 0, 1485, .inl (fun _ => 0))), (q16, .inl (g.2.1 0, 495, .inl (fun _ => 0))), (q17, .inl (g.2.1 3, 495, .inl (fun _ => 0))), (q18, .inl (g.2.1 0, 495, .inl (fun _ => 0)))]) dX9_init_187 0 28 inX9 tyX9_ok nmX9 fl_X9_73 rfl rfl (by decide) rfl rfl rfl (rfl) rfl (xlt rfl) rfl ?_
  refine x_aload_n dX9_init_190 rfl ?_
  refine x_iconst 5 dX9_init_191 (by decide) ?_
  refine x_newa (a0 := (5, .inl (fun _ => 0))) dX9_init_192 0 ac_int rfl rfl (fun _ _ => rfl) (fun _ => rfl) (by decide) (by decide) (Nat.le_of_ble_eq_true rfl) (Nat.le_of_ble_eq_true rfl) (Nat.le_of_ble_eq_true rfl) (fun q19 => ?_)
  refine x_putF (ws' := [(a, .inr (9, [.ref q1, .ref q2, .int 0, .ref q3, .ref q4, .ref q5, .ref q6, .ref q7, .ref q8, .int 0, .ref q9, .ref q10, .ref q11, .int 0, .int 0, .int 0, .int 0, .int 0, .int 1, .int 1, .int 1, .ref q12, .ref q13, .ref q14, .int 0, .ref q15, .ref q16, .ref q17, .ref q18, .ref q19])), (q1, .inl (g.2.1 0, 919, .inl (fun _ => 0))), (q2, .inl (g.2.1 0, 919, .inl (fun _ => 0))), (q3, .inl (g.2.1 0, 8, .inl (fun _ => 0))), (q4, .inl (g.2.1 0, 495, .inl (fun _ => 0))), (q5, .inl (g.2.1 0, 4096, .inl (fun _ => 0))), (q6, .inl (g.2.1 0, 4096, .inl (fun _ => 0))), (q7, .inl (g.2.1 0, 2475, .inl (fun _ => 0))), (q8, .inl (g.2.1 0, 60, .inl (fun _ => 0))), (q9, .inl (g.2.1 0, 4, .inl (upd (upd (upd (upd (fun _ => 0) 0 ((-1))) 1 ((-1))) 2 ((-1))) 3 ((-1))))), (q10, .inl (g.2.1 0, 4, .inl (fun _ => 0))), (q11, .inl (g.2.1 2, 160, .inr (.inl (fun _ => 0)))), (q12, .inl (g.2.1 0, 495, .inl (fun _ => 0))), (q13, .inl (g.2.1 0, 495, .inl (fun _ => 0))), (q14, .inl (g.2.1 0, 12, .inl (fun _ => 0))), (q15, .inl (g.2.1 0, 1485, .inl (fun _ => 0))), (q16, .inl (g.2.1 0, 495, .inl (fun _ => 0))), (q17, .inl (g.2.1 3, 495, .inl (fun _ => 0))), (q18, .inl (g.2.1 0, 495, .inl (fun _ => 0))), (q19, .inl (g.2.1 0, 5, .inl (fun _ => 0)))]) dX9_init_194 0 29 inX9 tyX9_ok nmX9 fl_X9_76 rfl rfl (by decide) rfl rfl rfl (rfl) rfl (xlt rfl) rfl ?_
  refine x_funi (ws' := [(a, .inr (9, [.ref q1, .ref q2, .int 0, .ref q3, .ref q4, .ref q5, .ref q6, .ref q7, .ref q8, .int 0, .ref q9, .ref q10, .ref q11, .int 0, .int 0, .int 0, .int 0, .int 0, .int 1, .int 1, .int 1, .ref q12, .ref q13, .ref q14, .int 0, .ref q15, .ref q16, .ref q17, .ref q18, .ref q19])), (q1, .inl (g.2.1 0, 919, .inl (fun _ => 0))), (q2, .inl (g.2.1 0, 919, .inl (fun _ => 0))), (q3, .inl (g.2.1 0, 8, .inl (fun _ => 0))), (q4, .inl (g.2.1 0, 495, .inl (fun _ => 0))), (q5, .inl (g.2.1 0, 4096, .inl (fun _ => 0))), (q6, .inl (g.2.1 0, 4096, .inl (nIf (fun _ => 0)))), (q7, .inl (g.2.1 0, 2475, .inl (fun _ => 0))), (q8, .inl (g.2.1 0, 60, .inl (fun _ => 0))), (q9, .inl (g.2.1 0, 4, .inl (upd (upd (upd (upd (fun _ => 0) 0 ((-1))) 1 ((-1))) 2 ((-1))) 3 ((-1))))), (q10, .inl (g.2.1 0, 4, .inl (fun _ => 0))), (q11, .inl (g.2.1 2, 160, .inr (.inl (fun _ => 0)))), (q12, .inl (g.2.1 0, 495, .inl (fun _ => 0))), (q13, .inl (g.2.1 0, 495, .inl (fun _ => 0))), (q14, .inl (g.2.1 0, 12, .inl (fun _ => 0))), (q15, .inl (g.2.1 0, 1485, .inl (fun _ => 0))), (q16, .inl (g.2.1 0, 495, .inl (fun _ => 0))), (q17, .inl (g.2.1 3, 495, .inl (fun _ => 0))), (q18, .inl (g.2.1 0, 495, .inl (fun _ => 0))), (q19, .inl (g.2.1 0, 5, .inl (fun _ => 0)))]) (q0 := 6) rfl (fun j _ => rfl) rfl ?_
  refine x_funi (ws' := [(a, .inr (9, [.ref q1, .ref q2, .int 0, .ref q3, .ref q4, .ref q5, .ref q6, .ref q7, .ref q8, .int 0, .ref q9, .ref q10, .ref q11, .int 0, .int 0, .int 0, .int 0, .int 0, .int 1, .int 1, .int 1, .ref q12, .ref q13, .ref q14, .int 0, .ref q15, .ref q16, .ref q17, .ref q18, .ref q19])), (q1, .inl (g.2.1 0, 919, .inl (fun _ => 0))), (q2, .inl (g.2.1 0, 919, .inl (fun _ => 0))), (q3, .inl (g.2.1 0, 8, .inl (fun _ => 0))), (q4, .inl (g.2.1 0, 495, .inl (nIf (fun _ => 0)))), (q5, .inl (g.2.1 0, 4096, .inl (fun _ => 0))), (q6, .inl (g.2.1 0, 4096, .inl (nIf (fun _ => 0)))), (q7, .inl (g.2.1 0, 2475, .inl (fun _ => 0))), (q8, .inl (g.2.1 0, 60, .inl (fun _ => 0))), (q9, .inl (g.2.1 0, 4, .inl (upd (upd (upd (upd (fun _ => 0) 0 ((-1))) 1 ((-1))) 2 ((-1))) 3 ((-1))))), (q10, .inl (g.2.1 0, 4, .inl (fun _ => 0))), (q11, .inl (g.2.1 2, 160, .inr (.inl (fun _ => 0)))), (q12, .inl (g.2.1 0, 495, .inl (fun _ => 0))), (q13, .inl (g.2.1 0, 495, .inl (fun _ => 0))), (q14, .inl (g.2.1 0, 12, .inl (fun _ => 0))), (q15, .inl (g.2.1 0, 1485, .inl (fun _ => 0))), (q16, .inl (g.2.1 0, 495, .inl (fun _ => 0))), (q17, .inl (g.2.1 3, 495, .inl (fun _ => 0))), (q18, .inl (g.2.1 0, 495, .inl (fun _ => 0))), (q19, .inl (g.2.1 0, 5, .inl (fun _ => 0)))]) (q0 := 4) rfl (fun j _ => rfl) rfl ?_
  refine x_funi (ws' := [(a, .inr (9, [.ref q1, .ref q2, .int 0, .ref q3, .ref q4, .ref q5, .ref q6, .ref q7, .ref q8, .int 0, .ref q9, .ref q10, .ref q11, .int 0, .int 0, .int 0, .int 0, .int 0, .int 1, .int 1, .int 1, .ref q12, .ref q13, .ref q14, .int 0, .ref q15, .ref q16, .ref q17, .ref q18, .ref q19])), (q1, .inl (g.2.1 0, 919, .inl (fun _ => 0))), (q2, .inl (g.2.1 0, 919, .inl (fun _ => 0))), (q3, .inl (g.2.1 0, 8, .inl (fun _ => 0))), (q4, .inl (g.2.1 0, 495, .inl (nIf (fun _ => 0)))), (q5, .inl (g.2.1 0, 4096, .inl (fun _ => 0))), (q6, .inl (g.2.1 0, 4096, .inl (nIf (fun _ => 0)))), (q7, .inl (g.2.1 0, 2475, .inl (nIf (fun _ => 0)))), (q8, .inl (g.2.1 0, 60, .inl (fun _ => 0))), (q9, .inl (g.2.1 0, 4, .inl (upd (upd (upd (upd (fun _ => 0) 0 ((-1))) 1 ((-1))) 2 ((-1))) 3 ((-1))))), (q10, .inl (g.2.1 0, 4, .inl (fun _ => 0))), (q11, .inl (g.2.1 2, 160, .inr (.inl (fun _ => 0)))), (q12, .inl (g.2.1 0, 495, .inl (fun _ => 0))), (q13, .inl (g.2.1 0, 495, .inl (fun _ => 0))), (q14, .inl (g.2.1 0, 12, .inl (fun _ => 0))), (q15, .inl (g.2.1 0, 1485, .inl (fun _ => 0))), (q16, .inl (g.2.1 0, 495, .inl (fun _ => 0))), (q17, .inl (g.2.1 3, 495, .inl (fun _ => 0))), (q18, .inl (g.2.1 0, 495, .inl (fun _ => 0))), (q19, .inl (g.2.1 0, 5, .inl (fun _ => 0)))]) (q0 := 7) rfl (fun j _ => rfl) rfl ?_
  refine x_funi (ws' := [(a, .inr (9, [.ref q1, .ref q2, .int 0, .ref q3, .ref q4, .ref q5, .ref q6, .ref q7, .ref q8, .int 0, .ref q9, .ref q10, .ref q11, .int 0, .int 0, .int 0, .int 0, .int 0, .int 1, .int 1, .int 1, .ref q12, .ref q13, .ref q14, .int 0, .ref q15, .ref q16, .ref q17, .ref q18, .ref q19])), (q1, .inl (g.2.1 0, 919, .inl (fun _ => 0))), (q2, .inl (g.2.1 0, 919, .inl (fun _ => 0))), (q3, .inl (g.2.1 0, 8, .inl (fun _ => 0))), (q4, .inl (g.2.1 0, 495, .inl (nIf (fun _ => 0)))), (q5, .inl (g.2.1 0, 4096, .inl (fun _ => 0))), (q6, .inl (g.2.1 0, 4096, .inl (nIf (fun _ => 0)))), (q7, .inl (g.2.1 0, 2475, .inl (nIf (fun _ => 0)))), (q8, .inl (g.2.1 0, 60, .inl (fun _ => 0))), (q9, .inl (g.2.1 0, 4, .inl (fun _ => -1))), (q10, .inl (g.2.1 0, 4, .inl (fun _ => 0))), (q11, .inl (g.2.1 2, 160, .inr (.inl (fun _ => 0)))), (q12, .inl (g.2.1 0, 495, .inl (fun _ => 0))), (q13, .inl (g.2.1 0, 495, .inl (fun _ => 0))), (q14, .inl (g.2.1 0, 12, .inl (fun _ => 0))), (q15, .inl (g.2.1 0, 1485, .inl (fun _ => 0))), (q16, .inl (g.2.1 0, 495, .inl (fun _ => 0))), (q17, .inl (g.2.1 3, 495, .inl (fun _ => 0))), (q18, .inl (g.2.1 0, 495, .inl (fun _ => 0))), (q19, .inl (g.2.1 0, 5, .inl (fun _ => 0)))]) (q0 := 9) rfl (fun j hj => by rcases (by omega : j = 0 ∨ j = 1 ∨ j = 2 ∨ j = 3) with rfl | rfl | rfl | rfl <;> rfl) rfl ?_
  refine x_iconst 0 dX9_init_197 (by decide) ?_
  refine x_istore_n (lv' := [some (.ref a), some (.int 0), none, none]) dX9_init_198 (xlt rfl) rfl ?_
  refine x_iconst 1 dX9_init_199 (by decide) ?_
  refine x_istore_n (lv' := [some (.ref a), some (.int 0), some (.int 1), none]) dX9_init_200 (xlt rfl) rfl ?_
  have L201_20 : ∀ (w : Nat), w ≤ 4096 → ∀ (nn : Nat), nn = cnR w → ∀ (bq : Nat → Nat), bq = fillT w popN (fun _ => 0) → ∀ (pq : Nat → Int32), pq = plT w → ∀ (rq : Nat → Nat), rq = fillT (cnR w) rowB (fun _ => 0) → ∀ (fq : Nat → Nat), fq = fillT (5 * cnR w) fcN (fun _ => 0) → 1 ≤ w → Xs κ g 4 19 17213 cX9_init yX9_init none Q 19 17213 201 [some (.ref a), some (.int (nI nn)), some (.int (nI w)), none] [] [(a, .inr (9, [.ref q1, .ref q2, .int 0, .ref q3, .ref q4, .ref q5, .ref q6, .ref q7, .ref q8, .int 0, .ref q9, .ref q10, .ref q11, .int 0, .int 0, .int 0, .int 0, .int 0, .int 1, .int 1, .int 1, .ref q12, .ref q13, .ref q14, .int 0, .ref q15, .ref q16, .ref q17, .ref q18, .ref q19])), (q1, .inl (g.2.1 0, 919, .inl (fun _ => 0))), (q2, .inl (g.2.1 0, 919, .inl (fun _ => 0))), (q3, .inl (g.2.1 0, 8, .inl (fun _ => 0))), (q4, .inl (g.2.1 0, 495, .inl (nIf rq))), (q5, .inl (g.2.1 0, 4096, .inl pq)), (q6, .inl (g.2.1 0, 4096, .inl (nIf bq))), (q7, .inl (g.2.1 0, 2475, .inl (nIf fq))), (q8, .inl (g.2.1 0, 60, .inl (fun _ => 0))), (q9, .inl (g.2.1 0, 4, .inl (fun _ => -1))), (q10, .inl (g.2.1 0, 4, .inl (fun _ => 0))), (q11, .inl (g.2.1 2, 160, .inr (.inl (fun _ => 0)))), (q12, .inl (g.2.1 0, 495, .inl (fun _ => 0))), (q13, .inl (g.2.1 0, 495, .inl (fun _ => 0))), (q14, .inl (g.2.1 0, 12, .inl (fun _ => 0))), (q15, .inl (g.2.1 0, 1485, .inl (fun _ => 0))), (q16, .inl (g.2.1 0, 495, .inl (fun _ => 0))), (q17, .inl (g.2.1 3, 495, .inl (fun _ => 0))), (q18, .inl (g.2.1 0, 495, .inl (fun _ => 0))), (q19, .inl (g.2.1 0, 5, .inl (fun _ => 0)))] := by
    refine upTo 4096 (fun w hi201 ih201 => ?_)
    intro nn enn
    subst enn
    intro bq ebq
    subst ebq
    intro pq epq
    subst epq
    intro rq erq
    subst erq
    intro fq efq
    subst efq
    intro hw1
    refine x_iload_n dX9_init_201 rfl ?_
    refine x_sipush 4096 dX9_init_202 (by decide) ?_
    refine x_icmp_ge dX9_init_205 (fun c205 => ?_) (fun c205 => ?_)
    · have c205 : 4096 ≤ (nI w) := c205
      have c205n := (nI_leI (a := 4096) (b := w) (by omega) (by omega)).mp c205
      have hxc205 : w = 4096 := by omega
      try rw [hxc205]
      try rw [hxc205] at hw1
      refine x_aload_n dX9_init_283 rfl ?_
      refine x_get dX9_init_284 0 5 inX9 fl_X9_22 rfl rfl (by decide) rfl ?_
      refine x_iconst 0 dX9_init_287 (by decide) ?_
      refine x_iconst (-1) dX9_init_288 (by decide) ?_
      refine x_iast (ws' := [(a, .inr (9, [.ref q1, .ref q2, .int 0, .ref q3, .ref q4, .ref q5, .ref q6, .ref q7, .ref q8, .int 0, .ref q9, .ref q10, .ref q11, .int 0, .int 0, .int 0, .int 0, .int 0, .int 1, .int 1, .int 1, .ref q12, .ref q13, .ref q14, .int 0, .ref q15, .ref q16, .ref q17, .ref q18, .ref q19])), (q1, .inl (g.2.1 0, 919, .inl (fun _ => 0))), (q2, .inl (g.2.1 0, 919, .inl (fun _ => 0))), (q3, .inl (g.2.1 0, 8, .inl (fun _ => 0))), (q4, .inl (g.2.1 0, 495, .inl (nIf (fillT (cnR 4096) rowB (fun _ => 0))))), (q5, .inl (g.2.1 0, 4096, .inl (upd (plT 4096) 0 ((-1))))), (q6, .inl (g.2.1 0, 4096, .inl (nIf (fillT 4096 popN (fun _ => 0))))), (q7, .inl (g.2.1 0, 2475, .inl (nIf (fillT (5 * cnR 4096) fcN (fun _ => 0))))), (q8, .inl (g.2.1 0, 60, .inl (fun _ => 0))), (q9, .inl (g.2.1 0, 4, .inl (fun _ => -1))), (q10, .inl (g.2.1 0, 4, .inl (fun _ => 0))), (q11, .inl (g.2.1 2, 160, .inr (.inl (fun _ => 0)))), (q12, .inl (g.2.1 0, 495, .inl (fun _ => 0))), (q13, .inl (g.2.1 0, 495, .inl (fun _ => 0))), (q14, .inl (g.2.1 0, 12, .inl (fun _ => 0))), (q15, .inl (g.2.1 0, 1485, .inl (fun _ => 0))), (q16, .inl (g.2.1 0, 495, .inl (fun _ => 0))), (q17, .inl (g.2.1 3, 495, .inl (fun _ => 0))), (q18, .inl (g.2.1 0, 495, .inl (fun _ => 0))), (q19, .inl (g.2.1 0, 5, .inl (fun _ => 0)))]) dX9_init_289 5 0 rfl (rfl) (by decide) (by decide) rfl ?_
      refine x_aload_n dX9_init_290 rfl ?_
      refine x_get dX9_init_291 0 0 inX9 fl_X9_7 rfl rfl (by decide) rfl ?_
      refine x_iconst 2 dX9_init_294 (by decide) ?_
      refine x_iconst 1 dX9_init_295 (by decide) ?_
      refine x_iast (ws' := [(a, .inr (9, [.ref q1, .ref q2, .int 0, .ref q3, .ref q4, .ref q5, .ref q6, .ref q7, .ref q8, .int 0, .ref q9, .ref q10, .ref q11, .int 0, .int 0, .int 0, .int 0, .int 0, .int 1, .int 1, .int 1, .ref q12, .ref q13, .ref q14, .int 0, .ref q15, .ref q16, .ref q17, .ref q18, .ref q19])), (q1, .inl (g.2.1 0, 919, .inl (upd (fun _ => 0) 2 1))), (q2, .inl (g.2.1 0, 919, .inl (fun _ => 0))), (q3, .inl (g.2.1 0, 8, .inl (fun _ => 0))), (q4, .inl (g.2.1 0, 495, .inl (nIf (fillT (cnR 4096) rowB (fun _ => 0))))), (q5, .inl (g.2.1 0, 4096, .inl (upd (plT 4096) 0 ((-1))))), (q6, .inl (g.2.1 0, 4096, .inl (nIf (fillT 4096 popN (fun _ => 0))))), (q7, .inl (g.2.1 0, 2475, .inl (nIf (fillT (5 * cnR 4096) fcN (fun _ => 0))))), (q8, .inl (g.2.1 0, 60, .inl (fun _ => 0))), (q9, .inl (g.2.1 0, 4, .inl (fun _ => -1))), (q10, .inl (g.2.1 0, 4, .inl (fun _ => 0))), (q11, .inl (g.2.1 2, 160, .inr (.inl (fun _ => 0)))), (q12, .inl (g.2.1 0, 495, .inl (fun _ => 0))), (q13, .inl (g.2.1 0, 495, .inl (fun _ => 0))), (q14, .inl (g.2.1 0, 12, .inl (fun _ => 0))), (q15, .inl (g.2.1 0, 1485, .inl (fun _ => 0))), (q16, .inl (g.2.1 0, 495, .inl (fun _ => 0))), (q17, .inl (g.2.1 3, 495, .inl (fun _ => 0))), (q18, .inl (g.2.1 0, 495, .inl (fun _ => 0))), (q19, .inl (g.2.1 0, 5, .inl (fun _ => 0)))]) dX9_init_296 1 2 rfl (rfl) (by decide) (by decide) rfl ?_
      refine x_aload_n dX9_init_297 rfl ?_
      refine x_get dX9_init_298 0 0 inX9 fl_X9_7 rfl rfl (by decide) rfl ?_
      refine x_bipush 10 dX9_init_301 (by decide) ?_
      refine x_iconst 1 dX9_init_303 (by decide) ?_
      refine x_iast (ws' := [(a, .inr (9, [.ref q1, .ref q2, .int 0, .ref q3, .ref q4, .ref q5, .ref q6, .ref q7, .ref q8, .int 0, .ref q9, .ref q10, .ref q11, .int 0, .int 0, .int 0, .int 0, .int 0, .int 1, .int 1, .int 1, .ref q12, .ref q13, .ref q14, .int 0, .ref q15, .ref q16, .ref q17, .ref q18, .ref q19])), (q1, .inl (g.2.1 0, 919, .inl (upd (upd (fun _ => 0) 2 1) 10 1))), (q2, .inl (g.2.1 0, 919, .inl (fun _ => 0))), (q3, .inl (g.2.1 0, 8, .inl (fun _ => 0))), (q4, .inl (g.2.1 0, 495, .inl (nIf (fillT (cnR 4096) rowB (fun _ => 0))))), (q5, .inl (g.2.1 0, 4096, .inl (upd (plT 4096) 0 ((-1))))), (q6, .inl (g.2.1 0, 4096, .inl (nIf (fillT 4096 popN (fun _ => 0))))), (q7, .inl (g.2.1 0, 2475, .inl (nIf (fillT (5 * cnR 4096) fcN (fun _ => 0))))), (q8, .inl (g.2.1 0, 60, .inl (fun _ => 0))), (q9, .inl (g.2.1 0, 4, .inl (fun _ => -1))), (q10, .inl (g.2.1 0, 4, .inl (fun _ => 0))), (q11, .inl (g.2.1 2, 160, .inr (.inl (fun _ => 0)))), (q12, .inl (g.2.1 0, 495, .inl (fun _ => 0))), (q13, .inl (g.2.1 0, 495, .inl (fun _ => 0))), (q14, .inl (g.2.1 0, 12, .inl (fun _ => 0))), (q15, .inl (g.2.1 0, 1485, .inl (fun _ => 0))), (q16, .inl (g.2.1 0, 495, .inl (fun _ => 0))), (q17, .inl (g.2.1 3, 495, .inl (fun _ => 0))), (q18, .inl (g.2.1 0, 495, .inl (fun _ => 0))), (q19, .inl (g.2.1 0, 5, .inl (fun _ => 0)))]) dX9_init_304 1 10 rfl (rfl) (by decide) (by decide) rfl ?_
      refine x_aload_n dX9_init_305 rfl ?_
      refine x_get dX9_init_306 0 0 inX9 fl_X9_7 rfl rfl (by decide) rfl ?_
      refine x_bipush 11 dX9_init_309 (by decide) ?_
      refine x_bipush 50 dX9_init_311 (by decide) ?_
      refine x_iast (ws' := [(a, .inr (9, [.ref q1, .ref q2, .int 0, .ref q3, .ref q4, .ref q5, .ref q6, .ref q7, .ref q8, .int 0, .ref q9, .ref q10, .ref q11, .int 0, .int 0, .int 0, .int 0, .int 0, .int 1, .int 1, .int 1, .ref q12, .ref q13, .ref q14, .int 0, .ref q15, .ref q16, .ref q17, .ref q18, .ref q19])), (q1, .inl (g.2.1 0, 919, .inl (upd (upd (upd (fun _ => 0) 2 1) 10 1) 11 50))), (q2, .inl (g.2.1 0, 919, .inl (fun _ => 0))), (q3, .inl (g.2.1 0, 8, .inl (fun _ => 0))), (q4, .inl (g.2.1 0, 495, .inl (nIf (fillT (cnR 4096) rowB (fun _ => 0))))), (q5, .inl (g.2.1 0, 4096, .inl (upd (plT 4096) 0 ((-1))))), (q6, .inl (g.2.1 0, 4096, .inl (nIf (fillT 4096 popN (fun _ => 0))))), (q7, .inl (g.2.1 0, 2475, .inl (nIf (fillT (5 * cnR 4096) fcN (fun _ => 0))))), (q8, .inl (g.2.1 0, 60, .inl (fun _ => 0))), (q9, .inl (g.2.1 0, 4, .inl (fun _ => -1))), (q10, .inl (g.2.1 0, 4, .inl (fun _ => 0))), (q11, .inl (g.2.1 2, 160, .inr (.inl (fun _ => 0)))), (q12, .inl (g.2.1 0, 495, .inl (fun _ => 0))), (q13, .inl (g.2.1 0, 495, .inl (fun _ => 0))), (q14, .inl (g.2.1 0, 12, .inl (fun _ => 0))), (q15, .inl (g.2.1 0, 1485, .inl (fun _ => 0))), (q16, .inl (g.2.1 0, 495, .inl (fun _ => 0))), (q17, .inl (g.2.1 3, 495, .inl (fun _ => 0))), (q18, .inl (g.2.1 0, 495, .inl (fun _ => 0))), (q19, .inl (g.2.1 0, 5, .inl (fun _ => 0)))]) dX9_init_313 1 11 rfl (rfl) (by decide) (by decide) rfl ?_
      refine x_aload_n dX9_init_314 rfl ?_
      refine x_get dX9_init_315 0 0 inX9 fl_X9_7 rfl rfl (by decide) rfl ?_
      refine x_bipush 12 dX9_init_318 (by decide) ?_
      refine x_bipush 60 dX9_init_320 (by decide) ?_
      refine x_iast (ws' := [(a, .inr (9, [.ref q1, .ref q2, .int 0, .ref q3, .ref q4, .ref q5, .ref q6, .ref q7, .ref q8, .int 0, .ref q9, .ref q10, .ref q11, .int 0, .int 0, .int 0, .int 0, .int 0, .int 1, .int 1, .int 1, .ref q12, .ref q13, .ref q14, .int 0, .ref q15, .ref q16, .ref q17, .ref q18, .ref q19])), (q1, .inl (g.2.1 0, 919, .inl (upd (upd (upd (upd (fun _ => 0) 2 1) 10 1) 11 50) 12 60))), (q2, .inl (g.2.1 0, 919, .inl (fun _ => 0))), (q3, .inl (g.2.1 0, 8, .inl (fun _ => 0))), (q4, .inl (g.2.1 0, 495, .inl (nIf (fillT (cnR 4096) rowB (fun _ => 0))))), (q5, .inl (g.2.1 0, 4096, .inl (upd (plT 4096) 0 ((-1))))), (q6, .inl (g.2.1 0, 4096, .inl (nIf (fillT 4096 popN (fun _ => 0))))), (q7, .inl (g.2.1 0, 2475, .inl (nIf (fillT (5 * cnR 4096) fcN (fun _ => 0))))), (q8, .inl (g.2.1 0, 60, .inl (fun _ => 0))), (q9, .inl (g.2.1 0, 4, .inl (fun _ => -1))), (q10, .inl (g.2.1 0, 4, .inl (fun _ => 0))), (q11, .inl (g.2.1 2, 160, .inr (.inl (fun _ => 0)))), (q12, .inl (g.2.1 0, 495, .inl (fun _ => 0))), (q13, .inl (g.2.1 0, 495, .inl (fun _ => 0))), (q14, .inl (g.2.1 0, 12, .inl (fun _ => 0))), (q15, .inl (g.2.1 0, 1485, .inl (fun _ => 0))), (q16, .inl (g.2.1 0, 495, .inl (fun _ => 0))), (q17, .inl (g.2.1 3, 495, .inl (fun _ => 0))), (q18, .inl (g.2.1 0, 495, .inl (fun _ => 0))), (q19, .inl (g.2.1 0, 5, .inl (fun _ => 0)))]) dX9_init_322 1 12 rfl (rfl) (by decide) (by decide) rfl ?_
      refine x_aload_n dX9_init_323 rfl ?_
      refine x_get dX9_init_324 0 0 inX9 fl_X9_7 rfl rfl (by decide) rfl ?_
      refine x_bipush 13 dX9_init_327 (by decide) ?_
      refine x_bipush 30 dX9_init_329 (by decide) ?_
      refine x_iast (ws' := [(a, .inr (9, [.ref q1, .ref q2, .int 0, .ref q3, .ref q4, .ref q5, .ref q6, .ref q7, .ref q8, .int 0, .ref q9, .ref q10, .ref q11, .int 0, .int 0, .int 0, .int 0, .int 0, .int 1, .int 1, .int 1, .ref q12, .ref q13, .ref q14, .int 0, .ref q15, .ref q16, .ref q17, .ref q18, .ref q19])), (q1, .inl (g.2.1 0, 919, .inl (upd (upd (upd (upd (upd (fun _ => 0) 2 1) 10 1) 11 50) 12 60) 13 30))), (q2, .inl (g.2.1 0, 919, .inl (fun _ => 0))), (q3, .inl (g.2.1 0, 8, .inl (fun _ => 0))), (q4, .inl (g.2.1 0, 495, .inl (nIf (fillT (cnR 4096) rowB (fun _ => 0))))), (q5, .inl (g.2.1 0, 4096, .inl (upd (plT 4096) 0 ((-1))))), (q6, .inl (g.2.1 0, 4096, .inl (nIf (fillT 4096 popN (fun _ => 0))))), (q7, .inl (g.2.1 0, 2475, .inl (nIf (fillT (5 * cnR 4096) fcN (fun _ => 0))))), (q8, .inl (g.2.1 0, 60, .inl (fun _ => 0))), (q9, .inl (g.2.1 0, 4, .inl (fun _ => -1))), (q10, .inl (g.2.1 0, 4, .inl (fun _ => 0))), (q11, .inl (g.2.1 2, 160, .inr (.inl (fun _ => 0)))), (q12, .inl (g.2.1 0, 495, .inl (fun _ => 0))), (q13, .inl (g.2.1 0, 495, .inl (fun _ => 0))), (q14, .inl (g.2.1 0, 12, .inl (fun _ => 0))), (q15, .inl (g.2.1 0, 1485, .inl (fun _ => 0))), (q16, .inl (g.2.1 0, 495, .inl (fun _ => 0))), (q17, .inl (g.2.1 3, 495, .inl (fun _ => 0))), (q18, .inl (g.2.1 0, 495, .inl (fun _ => 0))), (q19, .inl (g.2.1 0, 5, .inl (fun _ => 0)))]) dX9_init_331 1 13 rfl (rfl) (by decide) (by decide) rfl ?_
      refine x_aload_n dX9_init_332 rfl ?_
      refine x_get dX9_init_333 0 0 inX9 fl_X9_7 rfl rfl (by decide) rfl ?_
      refine x_bipush 14 dX9_init_336 (by decide) ?_
      refine x_bipush 10 dX9_init_338 (by decide) ?_
      refine x_iast (ws' := [(a, .inr (9, [.ref q1, .ref q2, .int 0, .ref q3, .ref q4, .ref q5, .ref q6, .ref q7, .ref q8, .int 0, .ref q9, .ref q10, .ref q11, .int 0, .int 0, .int 0, .int 0, .int 0, .int 1, .int 1, .int 1, .ref q12, .ref q13, .ref q14, .int 0, .ref q15, .ref q16, .ref q17, .ref q18, .ref q19])), (q1, .inl (g.2.1 0, 919, .inl (upd (upd (upd (upd (upd (upd (fun _ => 0) 2 1) 10 1) 11 50) 12 60) 13 30) 14 10))), (q2, .inl (g.2.1 0, 919, .inl (fun _ => 0))), (q3, .inl (g.2.1 0, 8, .inl (fun _ => 0))), (q4, .inl (g.2.1 0, 495, .inl (nIf (fillT (cnR 4096) rowB (fun _ => 0))))), (q5, .inl (g.2.1 0, 4096, .inl (upd (plT 4096) 0 ((-1))))), (q6, .inl (g.2.1 0, 4096, .inl (nIf (fillT 4096 popN (fun _ => 0))))), (q7, .inl (g.2.1 0, 2475, .inl (nIf (fillT (5 * cnR 4096) fcN (fun _ => 0))))), (q8, .inl (g.2.1 0, 60, .inl (fun _ => 0))), (q9, .inl (g.2.1 0, 4, .inl (fun _ => -1))), (q10, .inl (g.2.1 0, 4, .inl (fun _ => 0))), (q11, .inl (g.2.1 2, 160, .inr (.inl (fun _ => 0)))), (q12, .inl (g.2.1 0, 495, .inl (fun _ => 0))), (q13, .inl (g.2.1 0, 495, .inl (fun _ => 0))), (q14, .inl (g.2.1 0, 12, .inl (fun _ => 0))), (q15, .inl (g.2.1 0, 1485, .inl (fun _ => 0))), (q16, .inl (g.2.1 0, 495, .inl (fun _ => 0))), (q17, .inl (g.2.1 3, 495, .inl (fun _ => 0))), (q18, .inl (g.2.1 0, 495, .inl (fun _ => 0))), (q19, .inl (g.2.1 0, 5, .inl (fun _ => 0)))]) dX9_init_340 1 14 rfl (rfl) (by decide) (by decide) rfl ?_
      refine x_funi (ws' := [(a, .inr (9, [.ref q1, .ref q2, .int 0, .ref q3, .ref q4, .ref q5, .ref q6, .ref q7, .ref q8, .int 0, .ref q9, .ref q10, .ref q11, .int 0, .int 0, .int 0, .int 0, .int 0, .int 1, .int 1, .int 1, .ref q12, .ref q13, .ref q14, .int 0, .ref q15, .ref q16, .ref q17, .ref q18, .ref q19])), (q1, .inl (g.2.1 0, 919, .inl (msF 0 0 1 0 0 0 rfN (fun _ => 0) (fun _ => 0) (fun _ => 0) (fun _ => 0) (fun _ => 0)))), (q2, .inl (g.2.1 0, 919, .inl (fun _ => 0))), (q3, .inl (g.2.1 0, 8, .inl (fun _ => 0))), (q4, .inl (g.2.1 0, 495, .inl (nIf (fillT (cnR 4096) rowB (fun _ => 0))))), (q5, .inl (g.2.1 0, 4096, .inl (upd (plT 4096) 0 ((-1))))), (q6, .inl (g.2.1 0, 4096, .inl (nIf (fillT 4096 popN (fun _ => 0))))), (q7, .inl (g.2.1 0, 2475, .inl (nIf (fillT (5 * cnR 4096) fcN (fun _ => 0))))), (q8, .inl (g.2.1 0, 60, .inl (fun _ => 0))), (q9, .inl (g.2.1 0, 4, .inl (fun _ => -1))), (q10, .inl (g.2.1 0, 4, .inl (fun _ => 0))), (q11, .inl (g.2.1 2, 160, .inr (.inl (fun _ => 0)))), (q12, .inl (g.2.1 0, 495, .inl (fun _ => 0))), (q13, .inl (g.2.1 0, 495, .inl (fun _ => 0))), (q14, .inl (g.2.1 0, 12, .inl (fun _ => 0))), (q15, .inl (g.2.1 0, 1485, .inl (fun _ => 0))), (q16, .inl (g.2.1 0, 495, .inl (fun _ => 0))), (q17, .inl (g.2.1 3, 495, .inl (fun _ => 0))), (q18, .inl (g.2.1 0, 495, .inl (fun _ => 0))), (q19, .inl (g.2.1 0, 5, .inl (fun _ => 0)))]) (q0 := 1) rfl (fun j hj => eq_of_beq (List.all_eq_true.mp s0_A j (List.mem_range.mpr hj))) rfl ?_
      refine x_funi (ws' := [(a, .inr (9, [.ref q1, .ref q2, .int 0, .ref q3, .ref q4, .ref q5, .ref q6, .ref q7, .ref q8, .int 0, .ref q9, .ref q10, .ref q11, .int 0, .int 0, .int 0, .int 0, .int 0, .int 1, .int 1, .int 1, .ref q12, .ref q13, .ref q14, .int 0, .ref q15, .ref q16, .ref q17, .ref q18, .ref q19])), (q1, .inl (g.2.1 0, 919, .inl (msF 0 0 1 0 0 0 rfN (fun _ => 0) (fun _ => 0) (fun _ => 0) (fun _ => 0) (fun _ => 0)))), (q2, .inl (g.2.1 0, 919, .inl (fun _ => 0))), (q3, .inl (g.2.1 0, 8, .inl (nIf (fnF (fun _ => 0))))), (q4, .inl (g.2.1 0, 495, .inl (nIf (fillT (cnR 4096) rowB (fun _ => 0))))), (q5, .inl (g.2.1 0, 4096, .inl (upd (plT 4096) 0 ((-1))))), (q6, .inl (g.2.1 0, 4096, .inl (nIf (fillT 4096 popN (fun _ => 0))))), (q7, .inl (g.2.1 0, 2475, .inl (nIf (fillT (5 * cnR 4096) fcN (fun _ => 0))))), (q8, .inl (g.2.1 0, 60, .inl (fun _ => 0))), (q9, .inl (g.2.1 0, 4, .inl (fun _ => -1))), (q10, .inl (g.2.1 0, 4, .inl (fun _ => 0))), (q11, .inl (g.2.1 2, 160, .inr (.inl (fun _ => 0)))), (q12, .inl (g.2.1 0, 495, .inl (fun _ => 0))), (q13, .inl (g.2.1 0, 495, .inl (fun _ => 0))), (q14, .inl (g.2.1 0, 12, .inl (fun _ => 0))), (q15, .inl (g.2.1 0, 1485, .inl (fun _ => 0))), (q16, .inl (g.2.1 0, 495, .inl (fun _ => 0))), (q17, .inl (g.2.1 3, 495, .inl (fun _ => 0))), (q18, .inl (g.2.1 0, 495, .inl (fun _ => 0))), (q19, .inl (g.2.1 0, 5, .inl (fun _ => 0)))]) (q0 := 3) rfl (fun j hj => by rcases (by omega : j = 0 ∨ j = 1 ∨ j = 2 ∨ j = 3 ∨ j = 4 ∨ j = 5 ∨ j = 6 ∨ j = 7) with rfl | rfl | rfl | rfl | rfl | rfl | rfl | rfl <;> rfl) rfl ?_
      refine x_funi (ws' := [(a, .inr (9, [.ref q1, .ref q2, .int 0, .ref q3, .ref q4, .ref q5, .ref q6, .ref q7, .ref q8, .int 0, .ref q9, .ref q10, .ref q11, .int 0, .int 0, .int 0, .int 0, .int 0, .int 1, .int 1, .int 1, .ref q12, .ref q13, .ref q14, .int 0, .ref q15, .ref q16, .ref q17, .ref q18, .ref q19])), (q1, .inl (g.2.1 0, 919, .inl (msF 0 0 1 0 0 0 rfN (fun _ => 0) (fun _ => 0) (fun _ => 0) (fun _ => 0) (fun _ => 0)))), (q2, .inl (g.2.1 0, 919, .inl (fun _ => 0))), (q3, .inl (g.2.1 0, 8, .inl (nIf (fnF (fun _ => 0))))), (q4, .inl (g.2.1 0, 495, .inl (nIf rowB))), (q5, .inl (g.2.1 0, 4096, .inl (upd (plT 4096) 0 ((-1))))), (q6, .inl (g.2.1 0, 4096, .inl (nIf (fillT 4096 popN (fun _ => 0))))), (q7, .inl (g.2.1 0, 2475, .inl (nIf (fillT (5 * cnR 4096) fcN (fun _ => 0))))), (q8, .inl (g.2.1 0, 60, .inl (fun _ => 0))), (q9, .inl (g.2.1 0, 4, .inl (fun _ => -1))), (q10, .inl (g.2.1 0, 4, .inl (fun _ => 0))), (q11, .inl (g.2.1 2, 160, .inr (.inl (fun _ => 0)))), (q12, .inl (g.2.1 0, 495, .inl (fun _ => 0))), (q13, .inl (g.2.1 0, 495, .inl (fun _ => 0))), (q14, .inl (g.2.1 0, 12, .inl (fun _ => 0))), (q15, .inl (g.2.1 0, 1485, .inl (fun _ => 0))), (q16, .inl (g.2.1 0, 495, .inl (fun _ => 0))), (q17, .inl (g.2.1 3, 495, .inl (fun _ => 0))), (q18, .inl (g.2.1 0, 495, .inl (fun _ => 0))), (q19, .inl (g.2.1 0, 5, .inl (fun _ => 0)))]) (q0 := 4) rfl (fun j hj => congrArg nI (fillT_in _ _ (by rw [cn_495]; exact hj))) rfl ?_
      refine x_funi (ws' := [(a, .inr (9, [.ref q1, .ref q2, .int 0, .ref q3, .ref q4, .ref q5, .ref q6, .ref q7, .ref q8, .int 0, .ref q9, .ref q10, .ref q11, .int 0, .int 0, .int 0, .int 0, .int 0, .int 1, .int 1, .int 1, .ref q12, .ref q13, .ref q14, .int 0, .ref q15, .ref q16, .ref q17, .ref q18, .ref q19])), (q1, .inl (g.2.1 0, 919, .inl (msF 0 0 1 0 0 0 rfN (fun _ => 0) (fun _ => 0) (fun _ => 0) (fun _ => 0) (fun _ => 0)))), (q2, .inl (g.2.1 0, 919, .inl (fun _ => 0))), (q3, .inl (g.2.1 0, 8, .inl (nIf (fnF (fun _ => 0))))), (q4, .inl (g.2.1 0, 495, .inl (nIf rowB))), (q5, .inl (g.2.1 0, 4096, .inl plI)), (q6, .inl (g.2.1 0, 4096, .inl (nIf (fillT 4096 popN (fun _ => 0))))), (q7, .inl (g.2.1 0, 2475, .inl (nIf (fillT (5 * cnR 4096) fcN (fun _ => 0))))), (q8, .inl (g.2.1 0, 60, .inl (fun _ => 0))), (q9, .inl (g.2.1 0, 4, .inl (fun _ => -1))), (q10, .inl (g.2.1 0, 4, .inl (fun _ => 0))), (q11, .inl (g.2.1 2, 160, .inr (.inl (fun _ => 0)))), (q12, .inl (g.2.1 0, 495, .inl (fun _ => 0))), (q13, .inl (g.2.1 0, 495, .inl (fun _ => 0))), (q14, .inl (g.2.1 0, 12, .inl (fun _ => 0))), (q15, .inl (g.2.1 0, 1485, .inl (fun _ => 0))), (q16, .inl (g.2.1 0, 495, .inl (fun _ => 0))), (q17, .inl (g.2.1 3, 495, .inl (fun _ => 0))), (q18, .inl (g.2.1 0, 495, .inl (fun _ => 0))), (q19, .inl (g.2.1 0, 5, .inl (fun _ => 0)))]) (q0 := 5) rfl (fun j hj => plT_z hj) rfl ?_
      refine x_funi (ws' := [(a, .inr (9, [.ref q1, .ref q2, .int 0, .ref q3, .ref q4, .ref q5, .ref q6, .ref q7, .ref q8, .int 0, .ref q9, .ref q10, .ref q11, .int 0, .int 0, .int 0, .int 0, .int 0, .int 1, .int 1, .int 1, .ref q12, .ref q13, .ref q14, .int 0, .ref q15, .ref q16, .ref q17, .ref q18, .ref q19])), (q1, .inl (g.2.1 0, 919, .inl (msF 0 0 1 0 0 0 rfN (fun _ => 0) (fun _ => 0) (fun _ => 0) (fun _ => 0) (fun _ => 0)))), (q2, .inl (g.2.1 0, 919, .inl (fun _ => 0))), (q3, .inl (g.2.1 0, 8, .inl (nIf (fnF (fun _ => 0))))), (q4, .inl (g.2.1 0, 495, .inl (nIf rowB))), (q5, .inl (g.2.1 0, 4096, .inl plI)), (q6, .inl (g.2.1 0, 4096, .inl (nIf popN))), (q7, .inl (g.2.1 0, 2475, .inl (nIf (fillT (5 * cnR 4096) fcN (fun _ => 0))))), (q8, .inl (g.2.1 0, 60, .inl (fun _ => 0))), (q9, .inl (g.2.1 0, 4, .inl (fun _ => -1))), (q10, .inl (g.2.1 0, 4, .inl (fun _ => 0))), (q11, .inl (g.2.1 2, 160, .inr (.inl (fun _ => 0)))), (q12, .inl (g.2.1 0, 495, .inl (fun _ => 0))), (q13, .inl (g.2.1 0, 495, .inl (fun _ => 0))), (q14, .inl (g.2.1 0, 12, .inl (fun _ => 0))), (q15, .inl (g.2.1 0, 1485, .inl (fun _ => 0))), (q16, .inl (g.2.1 0, 495, .inl (fun _ => 0))), (q17, .inl (g.2.1 3, 495, .inl (fun _ => 0))), (q18, .inl (g.2.1 0, 495, .inl (fun _ => 0))), (q19, .inl (g.2.1 0, 5, .inl (fun _ => 0)))]) (q0 := 6) rfl (fun j hj => congrArg nI (fillT_in _ _ hj)) rfl ?_
      refine x_funi (ws' := [(a, .inr (9, [.ref q1, .ref q2, .int 0, .ref q3, .ref q4, .ref q5, .ref q6, .ref q7, .ref q8, .int 0, .ref q9, .ref q10, .ref q11, .int 0, .int 0, .int 0, .int 0, .int 0, .int 1, .int 1, .int 1, .ref q12, .ref q13, .ref q14, .int 0, .ref q15, .ref q16, .ref q17, .ref q18, .ref q19])), (q1, .inl (g.2.1 0, 919, .inl (msF 0 0 1 0 0 0 rfN (fun _ => 0) (fun _ => 0) (fun _ => 0) (fun _ => 0) (fun _ => 0)))), (q2, .inl (g.2.1 0, 919, .inl (fun _ => 0))), (q3, .inl (g.2.1 0, 8, .inl (nIf (fnF (fun _ => 0))))), (q4, .inl (g.2.1 0, 495, .inl (nIf rowB))), (q5, .inl (g.2.1 0, 4096, .inl plI)), (q6, .inl (g.2.1 0, 4096, .inl (nIf popN))), (q7, .inl (g.2.1 0, 2475, .inl (nIf fcN))), (q8, .inl (g.2.1 0, 60, .inl (fun _ => 0))), (q9, .inl (g.2.1 0, 4, .inl (fun _ => -1))), (q10, .inl (g.2.1 0, 4, .inl (fun _ => 0))), (q11, .inl (g.2.1 2, 160, .inr (.inl (fun _ => 0)))), (q12, .inl (g.2.1 0, 495, .inl (fun _ => 0))), (q13, .inl (g.2.1 0, 495, .inl (fun _ => 0))), (q14, .inl (g.2.1 0, 12, .inl (fun _ => 0))), (q15, .inl (g.2.1 0, 1485, .inl (fun _ => 0))), (q16, .inl (g.2.1 0, 495, .inl (fun _ => 0))), (q17, .inl (g.2.1 3, 495, .inl (fun _ => 0))), (q18, .inl (g.2.1 0, 495, .inl (fun _ => 0))), (q19, .inl (g.2.1 0, 5, .inl (fun _ => 0)))]) (q0 := 7) rfl (fun j hj => congrArg nI (fillT_in _ _ (by rw [cn_495]; exact hj))) rfl ?_
      rw [← hQ]
      refine x_vret dX9_init_341 rfl (Nat.le_of_ble_eq_true rfl) (Nat.le_of_ble_eq_true rfl) ?_
      exact ⟨_, _, _, _, _, _, _, _, _, _, _, _, _, _, _, _, _, _, _, rfl, rfl⟩
    · have c205 : ¬ (4096 ≤ (nI w)) := c205
      have c205n := mt (nI_leI (a := 4096) (b := w) (by omega) (by omega)).mpr c205
      have hpl := popN_le w
      refine x_aload_n dX9_init_208 rfl ?_
      refine x_get dX9_init_209 0 6 inX9 fl_X9_25 rfl rfl (by decide) rfl ?_
      refine x_iload_n dX9_init_212 rfl ?_
      refine x_aload_n dX9_init_213 rfl ?_
      refine x_get dX9_init_214 0 6 inX9 fl_X9_25 rfl rfl (by decide) rfl ?_
      refine x_iload_n dX9_init_217 rfl ?_
      refine x_iconst 1 dX9_init_218 (by decide) ?_
      refine x_ishr dX9_init_219 ?_
      refine x_iald dX9_init_220 6 (w / 2) rfl ((pop_h (n := w) (by omega)).2) (by omega) (by decide) ?_
      refine x_rei (nI (popN (w / 2))) (congrArg nI (fillT_in _ _ (by omega))) ?_
      refine x_iload_n dX9_init_221 rfl ?_
      refine x_iconst 1 dX9_init_222 (by decide) ?_
      refine x_iand dX9_init_223 ?_
      refine x_rei (nI (w &&& 1)) (nI_iand w 1) ?_
      refine x_iadd dX9_init_224 ?_
      refine x_rei (nI ((popN (w / 2)) + (w &&& 1))) (nI_iadd (popN (w / 2)) (w &&& 1)) ?_
      refine x_rei (nI (popN w)) (congrArg nI (pop_h (n := w) (by omega)).1.symm) ?_
      refine x_rei (nI (popN w)) rfl ?_
      refine x_iast (ws' := [(a, .inr (9, [.ref q1, .ref q2, .int 0, .ref q3, .ref q4, .ref q5, .ref q6, .ref q7, .ref q8, .int 0, .ref q9, .ref q10, .ref q11, .int 0, .int 0, .int 0, .int 0, .int 0, .int 1, .int 1, .int 1, .ref q12, .ref q13, .ref q14, .int 0, .ref q15, .ref q16, .ref q17, .ref q18, .ref q19])), (q1, .inl (g.2.1 0, 919, .inl (fun _ => 0))), (q2, .inl (g.2.1 0, 919, .inl (fun _ => 0))), (q3, .inl (g.2.1 0, 8, .inl (fun _ => 0))), (q4, .inl (g.2.1 0, 495, .inl (nIf (fillT (cnR w) rowB (fun _ => 0))))), (q5, .inl (g.2.1 0, 4096, .inl (plT w))), (q6, .inl (g.2.1 0, 4096, .inl (nIf (updN (fillT w popN (fun _ => 0)) w (popN w))))), (q7, .inl (g.2.1 0, 2475, .inl (nIf (fillT (5 * cnR w) fcN (fun _ => 0))))), (q8, .inl (g.2.1 0, 60, .inl (fun _ => 0))), (q9, .inl (g.2.1 0, 4, .inl (fun _ => -1))), (q10, .inl (g.2.1 0, 4, .inl (fun _ => 0))), (q11, .inl (g.2.1 2, 160, .inr (.inl (fun _ => 0)))), (q12, .inl (g.2.1 0, 495, .inl (fun _ => 0))), (q13, .inl (g.2.1 0, 495, .inl (fun _ => 0))), (q14, .inl (g.2.1 0, 12, .inl (fun _ => 0))), (q15, .inl (g.2.1 0, 1485, .inl (fun _ => 0))), (q16, .inl (g.2.1 0, 495, .inl (fun _ => 0))), (q17, .inl (g.2.1 3, 495, .inl (fun _ => 0))), (q18, .inl (g.2.1 0, 495, .inl (fun _ => 0))), (q19, .inl (g.2.1 0, 5, .inl (fun _ => 0)))]) dX9_init_225 6 w rfl (rfl) (by omega) (by decide) (by rw [upd_nIf]; rfl) ?_
      refine x_aload_n dX9_init_226 rfl ?_
      refine x_get dX9_init_227 0 6 inX9 fl_X9_25 rfl rfl (by decide) rfl ?_
      refine x_iload_n dX9_init_230 rfl ?_
      refine x_iald dX9_init_231 6 w rfl (rfl) (by omega) (by decide) ?_
      refine x_rei (nI (popN w)) (congrArg nI (updN_self _ _ _)) ?_
      refine x_iconst 4 dX9_init_232 (by decide) ?_
      refine x_icmp_ne dX9_init_233 (fun c233 => ?_) (fun c233 => ?_)
      · have c233 : ¬ ((nI (popN w)) = 4) := c233
        have c233n := mt (nI_eq (a := (popN w)) (b := 4) (by omega) (by omega)).mpr c233
        refine x_iconst 0 dX9_init_240 (by decide) ?_
        refine x_istore_n (lv' := [some (.ref a), some (.int (nI ((cnR w)))), some (.int (nI w)), some (.int 0)]) dX9_init_241 (xlt rfl) rfl ?_
        refine x_aload_n dX9_init_242 rfl ?_
        refine x_get dX9_init_243 0 5 inX9 fl_X9_22 rfl rfl (by decide) rfl ?_
        refine x_iload_n dX9_init_246 rfl ?_
        refine x_iload_n dX9_init_247 rfl ?_
        refine x_if_eq dX9_init_248 (fun c248 => ?_) (fun c248 => ?_)
        rotate_left
        · exact absurd c248 (by decide)
        refine x_iconst (-1) dX9_init_255 (by decide) ?_
        refine x_iast (ws' := [(a, .inr (9, [.ref q1, .ref q2, .int 0, .ref q3, .ref q4, .ref q5, .ref q6, .ref q7, .ref q8, .int 0, .ref q9, .ref q10, .ref q11, .int 0, .int 0, .int 0, .int 0, .int 0, .int 1, .int 1, .int 1, .ref q12, .ref q13, .ref q14, .int 0, .ref q15, .ref q16, .ref q17, .ref q18, .ref q19])), (q1, .inl (g.2.1 0, 919, .inl (fun _ => 0))), (q2, .inl (g.2.1 0, 919, .inl (fun _ => 0))), (q3, .inl (g.2.1 0, 8, .inl (fun _ => 0))), (q4, .inl (g.2.1 0, 495, .inl (nIf (fillT (cnR w) rowB (fun _ => 0))))), (q5, .inl (g.2.1 0, 4096, .inl (upd (plT w) w ((-1))))), (q6, .inl (g.2.1 0, 4096, .inl (nIf (updN (fillT w popN (fun _ => 0)) w (popN w))))), (q7, .inl (g.2.1 0, 2475, .inl (nIf (fillT (5 * cnR w) fcN (fun _ => 0))))), (q8, .inl (g.2.1 0, 60, .inl (fun _ => 0))), (q9, .inl (g.2.1 0, 4, .inl (fun _ => -1))), (q10, .inl (g.2.1 0, 4, .inl (fun _ => 0))), (q11, .inl (g.2.1 2, 160, .inr (.inl (fun _ => 0)))), (q12, .inl (g.2.1 0, 495, .inl (fun _ => 0))), (q13, .inl (g.2.1 0, 495, .inl (fun _ => 0))), (q14, .inl (g.2.1 0, 12, .inl (fun _ => 0))), (q15, .inl (g.2.1 0, 1485, .inl (fun _ => 0))), (q16, .inl (g.2.1 0, 495, .inl (fun _ => 0))), (q17, .inl (g.2.1 3, 495, .inl (fun _ => 0))), (q18, .inl (g.2.1 0, 495, .inl (fun _ => 0))), (q19, .inl (g.2.1 0, 5, .inl (fun _ => 0)))]) dX9_init_256 5 w rfl (rfl) (by omega) (by decide) rfl ?_
        refine x_iload_n dX9_init_257 rfl ?_
        refine x_if_eq dX9_init_258 (fun c258 => ?_) (fun c258 => ?_)
        rotate_left
        · exact absurd c258 (by decide)
        refine x_iinc (lv' := [some (.ref a), some (.int (nI ((cnR w)))), some (.int (nI (w + 1))), some (.int 0)]) (nI (w + 1)) dX9_init_277 rfl (nI_addc w 1 rfl) rfl ?_
        refine x_goto dX9_init_280 ?_
        refine x_fgt (lv' := [some (.ref a), some (.int (nI ((cnR w)))), some (.int (nI (w + 1))), none]) ⟨Or.inr rfl, Or.inr rfl, Or.inr rfl, Or.inl rfl, trivial⟩ ?_
        exact ih201 (by omega) (cnR w) (by first | (show cnR w + 1 = cnR w + (if popN w = 4 then 1 else 0); rw [if_pos c233n]) | exact (cn_no c233n).symm) (updN (fillT w popN (fun _ => 0)) w (popN w)) (by exact fillT_updN w popN (fun _ => 0)) _ (by first | (rw [show nI (cnR w) = plI w from by rw [plI, if_pos c233n, cn_pl (by omega) c233n]]; exact plT_s hw1) | (rw [show (-1 : Int32) = plI w from by rw [plI, if_neg c233n]]; exact plT_s hw1)) (fillT (cnR w) rowB (fun _ => 0)) (by first | exact cn_rqs (by omega) c233n | rw [cn_no c233n]) (fillT (5 * cnR w) fcN (fun _ => 0)) (by first | rfl | rw [cn_no c233n]) (by omega)
      · have c233 : (nI (popN w)) = 4 := c233
        have c233n := (nI_eq (a := (popN w)) (b := 4) (by omega) (by omega)).mp c233
        refine x_iconst 1 dX9_init_236 (by decide) ?_
        refine x_goto dX9_init_237 ?_
        refine x_istore_n (lv' := [some (.ref a), some (.int (nI ((cnR w)))), some (.int (nI w)), some (.int 1)]) dX9_init_241 (xlt rfl) rfl ?_
        refine x_aload_n dX9_init_242 rfl ?_
        refine x_get dX9_init_243 0 5 inX9 fl_X9_22 rfl rfl (by decide) rfl ?_
        refine x_iload_n dX9_init_246 rfl ?_
        refine x_iload_n dX9_init_247 rfl ?_
        refine x_if_eq dX9_init_248 (fun c248 => ?_) (fun c248 => ?_)
        · exact absurd c248 (by decide)
        refine x_iload_n dX9_init_251 rfl ?_
        refine x_goto dX9_init_252 ?_
        refine x_iast (ws' := [(a, .inr (9, [.ref q1, .ref q2, .int 0, .ref q3, .ref q4, .ref q5, .ref q6, .ref q7, .ref q8, .int 0, .ref q9, .ref q10, .ref q11, .int 0, .int 0, .int 0, .int 0, .int 0, .int 1, .int 1, .int 1, .ref q12, .ref q13, .ref q14, .int 0, .ref q15, .ref q16, .ref q17, .ref q18, .ref q19])), (q1, .inl (g.2.1 0, 919, .inl (fun _ => 0))), (q2, .inl (g.2.1 0, 919, .inl (fun _ => 0))), (q3, .inl (g.2.1 0, 8, .inl (fun _ => 0))), (q4, .inl (g.2.1 0, 495, .inl (nIf (fillT (cnR w) rowB (fun _ => 0))))), (q5, .inl (g.2.1 0, 4096, .inl (upd (plT w) w (nI ((cnR w)))))), (q6, .inl (g.2.1 0, 4096, .inl (nIf (updN (fillT w popN (fun _ => 0)) w (popN w))))), (q7, .inl (g.2.1 0, 2475, .inl (nIf (fillT (5 * cnR w) fcN (fun _ => 0))))), (q8, .inl (g.2.1 0, 60, .inl (fun _ => 0))), (q9, .inl (g.2.1 0, 4, .inl (fun _ => -1))), (q10, .inl (g.2.1 0, 4, .inl (fun _ => 0))), (q11, .inl (g.2.1 2, 160, .inr (.inl (fun _ => 0)))), (q12, .inl (g.2.1 0, 495, .inl (fun _ => 0))), (q13, .inl (g.2.1 0, 495, .inl (fun _ => 0))), (q14, .inl (g.2.1 0, 12, .inl (fun _ => 0))), (q15, .inl (g.2.1 0, 1485, .inl (fun _ => 0))), (q16, .inl (g.2.1 0, 495, .inl (fun _ => 0))), (q17, .inl (g.2.1 3, 495, .inl (fun _ => 0))), (q18, .inl (g.2.1 0, 495, .inl (fun _ => 0))), (q19, .inl (g.2.1 0, 5, .inl (fun _ => 0)))]) dX9_init_256 5 w rfl (rfl) (by omega) (by decide) rfl ?_
        refine x_iload_n dX9_init_257 rfl ?_
        refine x_if_eq dX9_init_258 (fun c258 => ?_) (fun c258 => ?_)
        · exact absurd c258 (by decide)
        refine x_aload_n dX9_init_261 rfl ?_
        refine x_get dX9_init_262 0 4 inX9 fl_X9_19 rfl rfl (by decide) rfl ?_
        refine x_iload_n dX9_init_265 rfl ?_
        refine x_iload_n dX9_init_266 rfl ?_
        refine x_rei (nI w) rfl ?_
        refine x_iast (ws' := [(a, .inr (9, [.ref q1, .ref q2, .int 0, .ref q3, .ref q4, .ref q5, .ref q6, .ref q7, .ref q8, .int 0, .ref q9, .ref q10, .ref q11, .int 0, .int 0, .int 0, .int 0, .int 0, .int 1, .int 1, .int 1, .ref q12, .ref q13, .ref q14, .int 0, .ref q15, .ref q16, .ref q17, .ref q18, .ref q19])), (q1, .inl (g.2.1 0, 919, .inl (fun _ => 0))), (q2, .inl (g.2.1 0, 919, .inl (fun _ => 0))), (q3, .inl (g.2.1 0, 8, .inl (fun _ => 0))), (q4, .inl (g.2.1 0, 495, .inl (nIf (updN (fillT (cnR w) rowB (fun _ => 0)) (cnR w) w)))), (q5, .inl (g.2.1 0, 4096, .inl (upd (plT w) w (nI ((cnR w)))))), (q6, .inl (g.2.1 0, 4096, .inl (nIf (updN (fillT w popN (fun _ => 0)) w (popN w))))), (q7, .inl (g.2.1 0, 2475, .inl (nIf (fillT (5 * cnR w) fcN (fun _ => 0))))), (q8, .inl (g.2.1 0, 60, .inl (fun _ => 0))), (q9, .inl (g.2.1 0, 4, .inl (fun _ => -1))), (q10, .inl (g.2.1 0, 4, .inl (fun _ => 0))), (q11, .inl (g.2.1 2, 160, .inr (.inl (fun _ => 0)))), (q12, .inl (g.2.1 0, 495, .inl (fun _ => 0))), (q13, .inl (g.2.1 0, 495, .inl (fun _ => 0))), (q14, .inl (g.2.1 0, 12, .inl (fun _ => 0))), (q15, .inl (g.2.1 0, 1485, .inl (fun _ => 0))), (q16, .inl (g.2.1 0, 495, .inl (fun _ => 0))), (q17, .inl (g.2.1 3, 495, .inl (fun _ => 0))), (q18, .inl (g.2.1 0, 495, .inl (fun _ => 0))), (q19, .inl (g.2.1 0, 5, .inl (fun _ => 0)))]) dX9_init_267 4 (cnR w) rfl (rfl) (cn_lt (by omega) c233n) (by decide) (by rw [upd_nIf]; rfl) ?_
        refine x_aload_n dX9_init_268 rfl ?_
        refine x_iload_n dX9_init_269 rfl ?_
        refine x_iload_n dX9_init_270 rfl ?_
        refine x_cVv (ws' := [(a, .inr (9, [.ref q1, .ref q2, .int 0, .ref q3, .ref q4, .ref q5, .ref q6, .ref q7, .ref q8, .int 0, .ref q9, .ref q10, .ref q11, .int 0, .int 0, .int 0, .int 0, .int 0, .int 1, .int 1, .int 1, .ref q12, .ref q13, .ref q14, .int 0, .ref q15, .ref q16, .ref q17, .ref q18, .ref q19])), (q1, .inl (g.2.1 0, 919, .inl (fun _ => 0))), (q2, .inl (g.2.1 0, 919, .inl (fun _ => 0))), (q3, .inl (g.2.1 0, 8, .inl (fun _ => 0))), (q4, .inl (g.2.1 0, 495, .inl (nIf (updN (fillT (cnR w) rowB (fun _ => 0)) (cnR w) w)))), (q5, .inl (g.2.1 0, 4096, .inl (upd (plT w) w (nI ((cnR w)))))), (q6, .inl (g.2.1 0, 4096, .inl (nIf (updN (fillT w popN (fun _ => 0)) w (popN w))))), (q7, .inl (g.2.1 0, 2475, .inl (fun j => if 5 * (cnR w) ≤ j ∧ j < 5 * (cnR w) + 5 then nI (fcR w (j - 5 * (cnR w))) else (nIf (fillT (5 * cnR w) fcN (fun _ => 0))) j))), (q8, .inl (g.2.1 0, 60, .inl (fun _ => 0))), (q9, .inl (g.2.1 0, 4, .inl (fun _ => -1))), (q10, .inl (g.2.1 0, 4, .inl (fun _ => 0))), (q11, .inl (g.2.1 2, 160, .inr (.inl (fun _ => 0)))), (q12, .inl (g.2.1 0, 495, .inl (fun _ => 0))), (q13, .inl (g.2.1 0, 495, .inl (fun _ => 0))), (q14, .inl (g.2.1 0, 12, .inl (fun _ => 0))), (q15, .inl (g.2.1 0, 1485, .inl (fun _ => 0))), (q16, .inl (g.2.1 0, 495, .inl (fun _ => 0))), (q17, .inl (g.2.1 3, 495, .inl (fun _ => 0))), (q18, .inl (g.2.1 0, 495, .inl (fun _ => 0))), (q19, .inl (g.2.1 0, 5, .inl (fun _ => 0)))]) dX9_init_271 ml_X9_79 mX9_looksAt (ct_X9_looksAt κ.2.1 g a q1 q2 q3 q4 q5 q6 q7 q8 q9 q10 q11 q12 q13 q14 q15 q16 q17 q18 q19 0 0 0 0 0 0 0 0 1 1 1 (nIf (fillT (5 * cnR w) fcN (fun _ => 0))) (cnR w) w (cn_lt (by omega) c233n) (by omega) (c233n) (fz (by omega)) (fz (by omega)) (fz (by omega)) (fz (by omega))) [0, 7] rfl rfl 0 rfl rfl rfl (Nat.le_of_ble_eq_true rfl) (by decide) (Nat.le_refl _) (Nat.le_refl _) (rfl : [a, q7] = [a, q7]) rfl ?_
        refine x_iinc (lv' := [some (.ref a), some (.int (nI ((cnR w) + 1))), some (.int (nI w)), some (.int 1)]) (nI ((cnR w) + 1)) dX9_init_274 rfl (nI_addc ((cnR w)) 1 rfl) rfl ?_
        refine x_funi (ws' := [(a, .inr (9, [.ref q1, .ref q2, .int 0, .ref q3, .ref q4, .ref q5, .ref q6, .ref q7, .ref q8, .int 0, .ref q9, .ref q10, .ref q11, .int 0, .int 0, .int 0, .int 0, .int 0, .int 1, .int 1, .int 1, .ref q12, .ref q13, .ref q14, .int 0, .ref q15, .ref q16, .ref q17, .ref q18, .ref q19])), (q1, .inl (g.2.1 0, 919, .inl (fun _ => 0))), (q2, .inl (g.2.1 0, 919, .inl (fun _ => 0))), (q3, .inl (g.2.1 0, 8, .inl (fun _ => 0))), (q4, .inl (g.2.1 0, 495, .inl (nIf (updN (fillT (cnR w) rowB (fun _ => 0)) (cnR w) w)))), (q5, .inl (g.2.1 0, 4096, .inl (upd (plT w) w (nI ((cnR w)))))), (q6, .inl (g.2.1 0, 4096, .inl (nIf (updN (fillT w popN (fun _ => 0)) w (popN w))))), (q7, .inl (g.2.1 0, 2475, .inl (nIf (fillT (5 * cnR (w + 1)) fcN (fun _ => 0))))), (q8, .inl (g.2.1 0, 60, .inl (fun _ => 0))), (q9, .inl (g.2.1 0, 4, .inl (fun _ => -1))), (q10, .inl (g.2.1 0, 4, .inl (fun _ => 0))), (q11, .inl (g.2.1 2, 160, .inr (.inl (fun _ => 0)))), (q12, .inl (g.2.1 0, 495, .inl (fun _ => 0))), (q13, .inl (g.2.1 0, 495, .inl (fun _ => 0))), (q14, .inl (g.2.1 0, 12, .inl (fun _ => 0))), (q15, .inl (g.2.1 0, 1485, .inl (fun _ => 0))), (q16, .inl (g.2.1 0, 495, .inl (fun _ => 0))), (q17, .inl (g.2.1 3, 495, .inl (fun _ => 0))), (q18, .inl (g.2.1 0, 495, .inl (fun _ => 0))), (q19, .inl (g.2.1 0, 5, .inl (fun _ => 0)))]) (q0 := 7) rfl (fun j _ => congrFun (fc_step (w := w) (by omega) c233n) j) rfl ?_
        refine x_iinc (lv' := [some (.ref a), some (.int (nI ((cnR w) + 1))), some (.int (nI (w + 1))), some (.int 1)]) (nI (w + 1)) dX9_init_277 rfl (nI_addc w 1 rfl) rfl ?_
        refine x_goto dX9_init_280 ?_
        refine x_fgt (lv' := [some (.ref a), some (.int (nI ((cnR w) + 1))), some (.int (nI (w + 1))), none]) ⟨Or.inr rfl, Or.inr rfl, Or.inr rfl, Or.inl rfl, trivial⟩ ?_
        exact ih201 (by omega) ((cnR w) + 1) (by first | (show cnR w + 1 = cnR w + (if popN w = 4 then 1 else 0); rw [if_pos c233n]) | exact (cn_no c233n).symm) (updN (fillT w popN (fun _ => 0)) w (popN w)) (by exact fillT_updN w popN (fun _ => 0)) _ (by first | (rw [show nI (cnR w) = plI w from by rw [plI, if_pos c233n, cn_pl (by omega) c233n]]; exact plT_s hw1) | (rw [show (-1 : Int32) = plI w from by rw [plI, if_neg c233n]]; exact plT_s hw1)) (updN (fillT (cnR w) rowB (fun _ => 0)) (cnR w) w) (by first | exact cn_rqs (by omega) c233n | rw [cn_no c233n]) (fillT (5 * cnR (w + 1)) fcN (fun _ => 0)) (by first | rfl | rw [cn_no c233n]) (by omega)
  exact L201_20 1 (by omega) 0 (by decide) (fun _ => 0) (by funext j; simp only [fillT]; split; rename_i h; rw [show j = 0 by omega]; rfl; rfl) _ (by funext j; simp only [plT]; rw [if_neg (by omega)]) (fun _ => 0) (by rw [show cnR 1 = 0 from rfl, fillT_0]) (fun _ => 0) (by rw [show 5 * cnR 1 = 0 from rfl, fillT_0]) (by omega)

