theorem d_R_init_0 : dc b_R_init 0 (.aload_n 0) 1 1 := ⟨by decide +kernel, rfl⟩
theorem d_R_init_1 : dc b_R_init 1 (.invokespecial 1) 3 4 := ⟨by decide +kernel, rfl⟩
theorem d_R_init_4 : dc b_R_init 4 (.aload_n 0) 1 5 := ⟨by decide +kernel, rfl⟩
theorem d_R_init_5 : dc b_R_init 5 (.iconst 0) 1 6 := ⟨by decide +kernel, rfl⟩
theorem d_R_init_6 : dc b_R_init 6 (.putfield 7) 3 9 := ⟨by decide +kernel, rfl⟩
theorem d_R_init_9 : dc b_R_init 9 (.aload_n 0) 1 10 := ⟨by decide +kernel, rfl⟩
theorem d_R_init_10 : dc b_R_init 10 (.iconst 1) 1 11 := ⟨by decide +kernel, rfl⟩
theorem d_R_init_11 : dc b_R_init 11 (.putfield 13) 3 14 := ⟨by decide +kernel, rfl⟩
theorem d_R_init_14 : dc b_R_init 14 (.aload_n 0) 1 15 := ⟨by decide +kernel, rfl⟩
theorem d_R_init_15 : dc b_R_init 15 (.iconst 4) 1 16 := ⟨by decide +kernel, rfl⟩
theorem d_R_init_16 : dc b_R_init 16 (.newarray .int) 2 18 := ⟨by decide +kernel, rfl⟩
theorem d_R_init_18 : dc b_R_init 18 (.putfield 16) 3 21 := ⟨by decide +kernel, rfl⟩
theorem d_R_init_21 : dc b_R_init 21 (.aload_n 0) 1 22 := ⟨by decide +kernel, rfl⟩
theorem d_R_init_22 : dc b_R_init 22 (.bipush 11) 2 24 := ⟨by decide +kernel, rfl⟩
theorem d_R_init_24 : dc b_R_init 24 (.putfield 20) 3 27 := ⟨by decide +kernel, rfl⟩
theorem d_R_init_27 : dc b_R_init 27 (.aload_n 0) 1 28 := ⟨by decide +kernel, rfl⟩
theorem d_R_init_28 : dc b_R_init 28 (.bipush 24) 2 30 := ⟨by decide +kernel, rfl⟩
theorem d_R_init_30 : dc b_R_init 30 (.newarray .int) 2 32 := ⟨by decide +kernel, rfl⟩
theorem d_R_init_32 : dc b_R_init 32 (.putfield 23) 3 35 := ⟨by decide +kernel, rfl⟩
theorem d_R_init_35 : dc b_R_init 35 (.aload_n 0) 1 36 := ⟨by decide +kernel, rfl⟩
theorem d_R_init_36 : dc b_R_init 36 (.iconst 0) 1 37 := ⟨by decide +kernel, rfl⟩
theorem d_R_init_37 : dc b_R_init 37 (.putfield 26) 3 40 := ⟨by decide +kernel, rfl⟩
theorem d_R_init_40 : dc b_R_init 40 (.aload_n 0) 1 41 := ⟨by decide +kernel, rfl⟩
theorem d_R_init_41 : dc b_R_init 41 (.bipush 12) 2 43 := ⟨by decide +kernel, rfl⟩
theorem d_R_init_43 : dc b_R_init 43 (.newarray .int) 2 45 := ⟨by decide +kernel, rfl⟩
theorem d_R_init_45 : dc b_R_init 45 (.putfield 29) 3 48 := ⟨by decide +kernel, rfl⟩
theorem d_R_init_48 : dc b_R_init 48 (.aload_n 0) 1 49 := ⟨by decide +kernel, rfl⟩
theorem d_R_init_49 : dc b_R_init 49 (.bipush 12) 2 51 := ⟨by decide +kernel, rfl⟩
theorem d_R_init_51 : dc b_R_init 51 (.newarray .int) 2 53 := ⟨by decide +kernel, rfl⟩
theorem d_R_init_53 : dc b_R_init 53 (.putfield 32) 3 56 := ⟨by decide +kernel, rfl⟩
theorem d_R_init_56 : dc b_R_init 56 (.aload_n 0) 1 57 := ⟨by decide +kernel, rfl⟩
theorem d_R_init_57 : dc b_R_init 57 (.bipush 12) 2 59 := ⟨by decide +kernel, rfl⟩
theorem d_R_init_59 : dc b_R_init 59 (.newarray .int) 2 61 := ⟨by decide +kernel, rfl⟩
theorem d_R_init_61 : dc b_R_init 61 (.putfield 35) 3 64 := ⟨by decide +kernel, rfl⟩
theorem d_R_init_64 : dc b_R_init 64 (.aload_n 0) 1 65 := ⟨by decide +kernel, rfl⟩
theorem d_R_init_65 : dc b_R_init 65 (.bipush 12) 2 67 := ⟨by decide +kernel, rfl⟩
theorem d_R_init_67 : dc b_R_init 67 (.newarray .boolean) 2 69 := ⟨by decide +kernel, rfl⟩
theorem d_R_init_69 : dc b_R_init 69 (.putfield 38) 3 72 := ⟨by decide +kernel, rfl⟩
theorem d_R_init_72 : dc b_R_init 72 (.aload_n 0) 1 73 := ⟨by decide +kernel, rfl⟩
theorem d_R_init_73 : dc b_R_init 73 (.bipush 24) 2 75 := ⟨by decide +kernel, rfl⟩
theorem d_R_init_75 : dc b_R_init 75 (.newarray .int) 2 77 := ⟨by decide +kernel, rfl⟩
theorem d_R_init_77 : dc b_R_init 77 (.putfield 42) 3 80 := ⟨by decide +kernel, rfl⟩
theorem d_R_init_80 : dc b_R_init 80 (.aload_n 0) 1 81 := ⟨by decide +kernel, rfl⟩
theorem d_R_init_81 : dc b_R_init 81 (.bipush 12) 2 83 := ⟨by decide +kernel, rfl⟩
theorem d_R_init_83 : dc b_R_init 83 (.newarray .int) 2 85 := ⟨by decide +kernel, rfl⟩
theorem d_R_init_85 : dc b_R_init 85 (.putfield 45) 3 88 := ⟨by decide +kernel, rfl⟩
theorem d_R_init_88 : dc b_R_init 88 (.aload_n 0) 1 89 := ⟨by decide +kernel, rfl⟩
theorem d_R_init_89 : dc b_R_init 89 (.bipush 12) 2 91 := ⟨by decide +kernel, rfl⟩
theorem d_R_init_91 : dc b_R_init 91 (.newarray .int) 2 93 := ⟨by decide +kernel, rfl⟩
theorem d_R_init_93 : dc b_R_init 93 (.putfield 48) 3 96 := ⟨by decide +kernel, rfl⟩
theorem d_R_init_96 : dc b_R_init 96 (.aload_n 0) 1 97 := ⟨by decide +kernel, rfl⟩
theorem d_R_init_97 : dc b_R_init 97 (.bipush 75) 2 99 := ⟨by decide +kernel, rfl⟩
theorem d_R_init_99 : dc b_R_init 99 (.newarray .int) 2 101 := ⟨by decide +kernel, rfl⟩
theorem d_R_init_101 : dc b_R_init 101 (.putfield 51) 3 104 := ⟨by decide +kernel, rfl⟩
theorem d_R_init_104 : dc b_R_init 104 (.aload_n 0) 1 105 := ⟨by decide +kernel, rfl⟩
theorem d_R_init_105 : dc b_R_init 105 (.bipush 75) 2 107 := ⟨by decide +kernel, rfl⟩
theorem d_R_init_107 : dc b_R_init 107 (.newarray .int) 2 109 := ⟨by decide +kernel, rfl⟩
theorem d_R_init_109 : dc b_R_init 109 (.putfield 54) 3 112 := ⟨by decide +kernel, rfl⟩
theorem d_R_init_112 : dc b_R_init 112 (.aload_n 0) 1 113 := ⟨by decide +kernel, rfl⟩
theorem d_R_init_113 : dc b_R_init 113 (.sipush 225) 3 116 := ⟨by decide +kernel, rfl⟩
theorem d_R_init_116 : dc b_R_init 116 (.newarray .int) 2 118 := ⟨by decide +kernel, rfl⟩
theorem d_R_init_118 : dc b_R_init 118 (.putfield 57) 3 121 := ⟨by decide +kernel, rfl⟩
theorem d_R_init_121 : dc b_R_init 121 (.aload_n 0) 1 122 := ⟨by decide +kernel, rfl⟩
theorem d_R_init_122 : dc b_R_init 122 (.bipush 75) 2 124 := ⟨by decide +kernel, rfl⟩
theorem d_R_init_124 : dc b_R_init 124 (.newarray .int) 2 126 := ⟨by decide +kernel, rfl⟩
theorem d_R_init_126 : dc b_R_init 126 (.putfield 60) 3 129 := ⟨by decide +kernel, rfl⟩
theorem d_R_init_129 : dc b_R_init 129 (.aload_n 0) 1 130 := ⟨by decide +kernel, rfl⟩
theorem d_R_init_130 : dc b_R_init 130 (.sipush 225) 3 133 := ⟨by decide +kernel, rfl⟩
theorem d_R_init_133 : dc b_R_init 133 (.newarray .int) 2 135 := ⟨by decide +kernel, rfl⟩
theorem d_R_init_135 : dc b_R_init 135 (.putfield 63) 3 138 := ⟨by decide +kernel, rfl⟩
theorem d_R_init_138 : dc b_R_init 138 (.aload_n 0) 1 139 := ⟨by decide +kernel, rfl⟩
theorem d_R_init_139 : dc b_R_init 139 (.iconst 0) 1 140 := ⟨by decide +kernel, rfl⟩
theorem d_R_init_140 : dc b_R_init 140 (.putfield 66) 3 143 := ⟨by decide +kernel, rfl⟩
theorem d_R_init_143 : dc b_R_init 143 (.aload_n 0) 1 144 := ⟨by decide +kernel, rfl⟩
theorem d_R_init_144 : dc b_R_init 144 (.bipush 32) 2 146 := ⟨by decide +kernel, rfl⟩
theorem d_R_init_146 : dc b_R_init 146 (.newarray .int) 2 148 := ⟨by decide +kernel, rfl⟩
theorem d_R_init_148 : dc b_R_init 148 (.putfield 69) 3 151 := ⟨by decide +kernel, rfl⟩
theorem d_R_init_151 : dc b_R_init 151 (.aload_n 0) 1 152 := ⟨by decide +kernel, rfl⟩
theorem d_R_init_152 : dc b_R_init 152 (.bipush 32) 2 154 := ⟨by decide +kernel, rfl⟩
theorem d_R_init_154 : dc b_R_init 154 (.newarray .long) 2 156 := ⟨by decide +kernel, rfl⟩
theorem d_R_init_156 : dc b_R_init 156 (.putfield 72) 3 159 := ⟨by decide +kernel, rfl⟩
theorem d_R_init_159 : dc b_R_init 159 (.aload_n 0) 1 160 := ⟨by decide +kernel, rfl⟩
theorem d_R_init_160 : dc b_R_init 160 (.iconst 0) 1 161 := ⟨by decide +kernel, rfl⟩
theorem d_R_init_161 : dc b_R_init 161 (.putfield 76) 3 164 := ⟨by decide +kernel, rfl⟩
theorem d_R_init_164 : dc b_R_init 164 (.aload_n 0) 1 165 := ⟨by decide +kernel, rfl⟩
theorem d_R_init_165 : dc b_R_init 165 (.bipush 16) 2 167 := ⟨by decide +kernel, rfl⟩
theorem d_R_init_167 : dc b_R_init 167 (.newarray .int) 2 169 := ⟨by decide +kernel, rfl⟩
theorem d_R_init_169 : dc b_R_init 169 (.putfield 79) 3 172 := ⟨by decide +kernel, rfl⟩
theorem d_R_init_172 : dc b_R_init 172 (.aload_n 0) 1 173 := ⟨by decide +kernel, rfl⟩
theorem d_R_init_173 : dc b_R_init 173 (.bipush 16) 2 175 := ⟨by decide +kernel, rfl⟩
theorem d_R_init_175 : dc b_R_init 175 (.newarray .int) 2 177 := ⟨by decide +kernel, rfl⟩
theorem d_R_init_177 : dc b_R_init 177 (.putfield 82) 3 180 := ⟨by decide +kernel, rfl⟩
theorem d_R_init_180 : dc b_R_init 180 (.aload_n 0) 1 181 := ⟨by decide +kernel, rfl⟩
theorem d_R_init_181 : dc b_R_init 181 (.bipush 16) 2 183 := ⟨by decide +kernel, rfl⟩
theorem d_R_init_183 : dc b_R_init 183 (.newarray .int) 2 185 := ⟨by decide +kernel, rfl⟩
theorem d_R_init_185 : dc b_R_init 185 (.putfield 85) 3 188 := ⟨by decide +kernel, rfl⟩
theorem d_R_init_188 : dc b_R_init 188 (.aload_n 0) 1 189 := ⟨by decide +kernel, rfl⟩
theorem d_R_init_189 : dc b_R_init 189 (.bipush 16) 2 191 := ⟨by decide +kernel, rfl⟩
theorem d_R_init_191 : dc b_R_init 191 (.newarray .int) 2 193 := ⟨by decide +kernel, rfl⟩
theorem d_R_init_193 : dc b_R_init 193 (.putfield 88) 3 196 := ⟨by decide +kernel, rfl⟩
theorem d_R_init_196 : dc b_R_init 196 (.aload_n 0) 1 197 := ⟨by decide +kernel, rfl⟩
theorem d_R_init_197 : dc b_R_init 197 (.bipush 16) 2 199 := ⟨by decide +kernel, rfl⟩
theorem d_R_init_199 : dc b_R_init 199 (.newarray .int) 2 201 := ⟨by decide +kernel, rfl⟩
theorem d_R_init_201 : dc b_R_init 201 (.putfield 91) 3 204 := ⟨by decide +kernel, rfl⟩
theorem d_R_init_204 : dc b_R_init 204 (.aload_n 0) 1 205 := ⟨by decide +kernel, rfl⟩
theorem d_R_init_205 : dc b_R_init 205 (.bipush 16) 2 207 := ⟨by decide +kernel, rfl⟩
theorem d_R_init_207 : dc b_R_init 207 (.newarray .boolean) 2 209 := ⟨by decide +kernel, rfl⟩
theorem d_R_init_209 : dc b_R_init 209 (.putfield 94) 3 212 := ⟨by decide +kernel, rfl⟩
theorem d_R_init_212 : dc b_R_init 212 (.aload_n 0) 1 213 := ⟨by decide +kernel, rfl⟩
theorem d_R_init_213 : dc b_R_init 213 (.iconst 0) 1 214 := ⟨by decide +kernel, rfl⟩
theorem d_R_init_214 : dc b_R_init 214 (.putfield 97) 3 217 := ⟨by decide +kernel, rfl⟩
theorem d_R_init_217 : dc b_R_init 217 (.aload_n 0) 1 218 := ⟨by decide +kernel, rfl⟩
theorem d_R_init_218 : dc b_R_init 218 (.sipush 864) 3 221 := ⟨by decide +kernel, rfl⟩
theorem d_R_init_221 : dc b_R_init 221 (.newarray .int) 2 223 := ⟨by decide +kernel, rfl⟩
theorem d_R_init_223 : dc b_R_init 223 (.putfield 100) 3 226 := ⟨by decide +kernel, rfl⟩
theorem d_R_init_226 : dc b_R_init 226 (.aload_n 0) 1 227 := ⟨by decide +kernel, rfl⟩
theorem d_R_init_227 : dc b_R_init 227 (.bipush 12) 2 229 := ⟨by decide +kernel, rfl⟩
theorem d_R_init_229 : dc b_R_init 229 (.newarray .int) 2 231 := ⟨by decide +kernel, rfl⟩
theorem d_R_init_231 : dc b_R_init 231 (.putfield 103) 3 234 := ⟨by decide +kernel, rfl⟩
theorem d_R_init_234 : dc b_R_init 234 (.aload_n 0) 1 235 := ⟨by decide +kernel, rfl⟩
theorem d_R_init_235 : dc b_R_init 235 (.iconst 0) 1 236 := ⟨by decide +kernel, rfl⟩
theorem d_R_init_236 : dc b_R_init 236 (.putfield 106) 3 239 := ⟨by decide +kernel, rfl⟩
theorem d_R_init_239 : dc b_R_init 239 (.aload_n 0) 1 240 := ⟨by decide +kernel, rfl⟩
theorem d_R_init_240 : dc b_R_init 240 (.bipush 80) 2 242 := ⟨by decide +kernel, rfl⟩
theorem d_R_init_242 : dc b_R_init 242 (.newarray .int) 2 244 := ⟨by decide +kernel, rfl⟩
theorem d_R_init_244 : dc b_R_init 244 (.putfield 109) 3 247 := ⟨by decide +kernel, rfl⟩
theorem d_R_init_247 : dc b_R_init 247 (.aload_n 0) 1 248 := ⟨by decide +kernel, rfl⟩
theorem d_R_init_248 : dc b_R_init 248 (.sipush 1280) 3 251 := ⟨by decide +kernel, rfl⟩
theorem d_R_init_251 : dc b_R_init 251 (.newarray .int) 2 253 := ⟨by decide +kernel, rfl⟩
theorem d_R_init_253 : dc b_R_init 253 (.putfield 112) 3 256 := ⟨by decide +kernel, rfl⟩
theorem d_R_init_256 : dc b_R_init 256 (.aload_n 0) 1 257 := ⟨by decide +kernel, rfl⟩
theorem d_R_init_257 : dc b_R_init 257 (.bipush 80) 2 259 := ⟨by decide +kernel, rfl⟩
theorem d_R_init_259 : dc b_R_init 259 (.newarray .int) 2 261 := ⟨by decide +kernel, rfl⟩
theorem d_R_init_261 : dc b_R_init 261 (.putfield 115) 3 264 := ⟨by decide +kernel, rfl⟩
theorem d_R_init_264 : dc b_R_init 264 (.aload_n 0) 1 265 := ⟨by decide +kernel, rfl⟩
theorem d_R_init_265 : dc b_R_init 265 (.bipush 16) 2 267 := ⟨by decide +kernel, rfl⟩
theorem d_R_init_267 : dc b_R_init 267 (.newarray .int) 2 269 := ⟨by decide +kernel, rfl⟩
theorem d_R_init_269 : dc b_R_init 269 (.putfield 118) 3 272 := ⟨by decide +kernel, rfl⟩
theorem d_R_init_272 : dc b_R_init 272 (.aload_n 0) 1 273 := ⟨by decide +kernel, rfl⟩
theorem d_R_init_273 : dc b_R_init 273 (.bipush 80) 2 275 := ⟨by decide +kernel, rfl⟩
theorem d_R_init_275 : dc b_R_init 275 (.newarray .int) 2 277 := ⟨by decide +kernel, rfl⟩
theorem d_R_init_277 : dc b_R_init 277 (.putfield 121) 3 280 := ⟨by decide +kernel, rfl⟩
theorem d_R_init_280 : dc b_R_init 280 (.aload_n 0) 1 281 := ⟨by decide +kernel, rfl⟩
theorem d_R_init_281 : dc b_R_init 281 (.iconst 0) 1 282 := ⟨by decide +kernel, rfl⟩
theorem d_R_init_282 : dc b_R_init 282 (.putfield 124) 3 285 := ⟨by decide +kernel, rfl⟩
theorem d_R_init_285 : dc b_R_init 285 (.aload_n 0) 1 286 := ⟨by decide +kernel, rfl⟩
theorem d_R_init_286 : dc b_R_init 286 (.bipush 16) 2 288 := ⟨by decide +kernel, rfl⟩
theorem d_R_init_288 : dc b_R_init 288 (.newarray .int) 2 290 := ⟨by decide +kernel, rfl⟩
theorem d_R_init_290 : dc b_R_init 290 (.putfield 127) 3 293 := ⟨by decide +kernel, rfl⟩
theorem d_R_init_293 : dc b_R_init 293 (.aload_n 0) 1 294 := ⟨by decide +kernel, rfl⟩
theorem d_R_init_294 : dc b_R_init 294 (.sipush 3600) 3 297 := ⟨by decide +kernel, rfl⟩
theorem d_R_init_297 : dc b_R_init 297 (.newarray .int) 2 299 := ⟨by decide +kernel, rfl⟩
theorem d_R_init_299 : dc b_R_init 299 (.putfield 130) 3 302 := ⟨by decide +kernel, rfl⟩
theorem d_R_init_302 : dc b_R_init 302 (.aload_n 0) 1 303 := ⟨by decide +kernel, rfl⟩
theorem d_R_init_303 : dc b_R_init 303 (.iconst 0) 1 304 := ⟨by decide +kernel, rfl⟩
theorem d_R_init_304 : dc b_R_init 304 (.putfield 133) 3 307 := ⟨by decide +kernel, rfl⟩
theorem d_R_init_307 : dc b_R_init 307 (.aload_n 0) 1 308 := ⟨by decide +kernel, rfl⟩
theorem d_R_init_308 : dc b_R_init 308 (.sipush 768) 3 311 := ⟨by decide +kernel, rfl⟩
theorem d_R_init_311 : dc b_R_init 311 (.newarray .int) 2 313 := ⟨by decide +kernel, rfl⟩
theorem d_R_init_313 : dc b_R_init 313 (.putfield 136) 3 316 := ⟨by decide +kernel, rfl⟩
theorem d_R_init_316 : dc b_R_init 316 (.aload_n 0) 1 317 := ⟨by decide +kernel, rfl⟩
theorem d_R_init_317 : dc b_R_init 317 (.iconst 0) 1 318 := ⟨by decide +kernel, rfl⟩
theorem d_R_init_318 : dc b_R_init 318 (.putfield 139) 3 321 := ⟨by decide +kernel, rfl⟩
theorem d_R_init_321 : dc b_R_init 321 (.aload_n 0) 1 322 := ⟨by decide +kernel, rfl⟩
theorem d_R_init_322 : dc b_R_init 322 (.ldc2_w 142) 3 325 := ⟨by decide +kernel, rfl⟩
theorem d_R_init_325 : dc b_R_init 325 (.putfield 144) 3 328 := ⟨by decide +kernel, rfl⟩
theorem d_R_init_328 : dc b_R_init 328 (.aload_n 0) 1 329 := ⟨by decide +kernel, rfl⟩
theorem d_R_init_329 : dc b_R_init 329 (.bipush 9) 2 331 := ⟨by decide +kernel, rfl⟩
theorem d_R_init_331 : dc b_R_init 331 (.newarray .long) 2 333 := ⟨by decide +kernel, rfl⟩
theorem d_R_init_333 : dc b_R_init 333 (.putfield 148) 3 336 := ⟨by decide +kernel, rfl⟩
theorem d_R_init_336 : dc b_R_init 336 (.aload_n 0) 1 337 := ⟨by decide +kernel, rfl⟩
theorem d_R_init_337 : dc b_R_init 337 (.iconst 3) 1 338 := ⟨by decide +kernel, rfl⟩
theorem d_R_init_338 : dc b_R_init 338 (.newarray .int) 2 340 := ⟨by decide +kernel, rfl⟩
theorem d_R_init_340 : dc b_R_init 340 (.putfield 151) 3 343 := ⟨by decide +kernel, rfl⟩
theorem d_R_init_343 : dc b_R_init 343 (.aload_n 0) 1 344 := ⟨by decide +kernel, rfl⟩
theorem d_R_init_344 : dc b_R_init 344 (.iconst 3) 1 345 := ⟨by decide +kernel, rfl⟩
theorem d_R_init_345 : dc b_R_init 345 (.newarray .long) 2 347 := ⟨by decide +kernel, rfl⟩
theorem d_R_init_347 : dc b_R_init 347 (.putfield 154) 3 350 := ⟨by decide +kernel, rfl⟩
theorem d_R_init_350 : dc b_R_init 350 (.aload_n 0) 1 351 := ⟨by decide +kernel, rfl⟩
theorem d_R_init_351 : dc b_R_init 351 (.getfield 23) 3 354 := ⟨by decide +kernel, rfl⟩
theorem d_R_init_354 : dc b_R_init 354 (.bipush 8) 2 356 := ⟨by decide +kernel, rfl⟩
theorem d_R_init_356 : dc b_R_init 356 (.bipush 7) 2 358 := ⟨by decide +kernel, rfl⟩
theorem d_R_init_358 : dc b_R_init 358 (.iastore) 1 359 := ⟨by decide +kernel, rfl⟩
theorem d_R_init_359 : dc b_R_init 359 (.aload_n 0) 1 360 := ⟨by decide +kernel, rfl⟩
theorem d_R_init_360 : dc b_R_init 360 (.getfield 23) 3 363 := ⟨by decide +kernel, rfl⟩
theorem d_R_init_363 : dc b_R_init 363 (.bipush 9) 2 365 := ⟨by decide +kernel, rfl⟩
theorem d_R_init_365 : dc b_R_init 365 (.bipush 8) 2 367 := ⟨by decide +kernel, rfl⟩
theorem d_R_init_367 : dc b_R_init 367 (.iastore) 1 368 := ⟨by decide +kernel, rfl⟩
theorem d_R_init_368 : dc b_R_init 368 (.aload_n 0) 1 369 := ⟨by decide +kernel, rfl⟩
theorem d_R_init_369 : dc b_R_init 369 (.getfield 23) 3 372 := ⟨by decide +kernel, rfl⟩
theorem d_R_init_372 : dc b_R_init 372 (.bipush 10) 2 374 := ⟨by decide +kernel, rfl⟩
theorem d_R_init_374 : dc b_R_init 374 (.bipush 8) 2 376 := ⟨by decide +kernel, rfl⟩
theorem d_R_init_376 : dc b_R_init 376 (.iastore) 1 377 := ⟨by decide +kernel, rfl⟩
theorem d_R_init_377 : dc b_R_init 377 (.aload_n 0) 1 378 := ⟨by decide +kernel, rfl⟩
theorem d_R_init_378 : dc b_R_init 378 (.getfield 51) 3 381 := ⟨by decide +kernel, rfl⟩
theorem d_R_init_381 : dc b_R_init 381 (.bipush 72) 2 383 := ⟨by decide +kernel, rfl⟩
theorem d_R_init_383 : dc b_R_init 383 (.bipush 26) 2 385 := ⟨by decide +kernel, rfl⟩
theorem d_R_init_385 : dc b_R_init 385 (.iastore) 1 386 := ⟨by decide +kernel, rfl⟩
theorem d_R_init_386 : dc b_R_init 386 (.aload_n 0) 1 387 := ⟨by decide +kernel, rfl⟩
theorem d_R_init_387 : dc b_R_init 387 (.getfield 54) 3 390 := ⟨by decide +kernel, rfl⟩
theorem d_R_init_390 : dc b_R_init 390 (.bipush 72) 2 392 := ⟨by decide +kernel, rfl⟩
theorem d_R_init_392 : dc b_R_init 392 (.iconst 5) 1 393 := ⟨by decide +kernel, rfl⟩
theorem d_R_init_393 : dc b_R_init 393 (.iastore) 1 394 := ⟨by decide +kernel, rfl⟩
theorem d_R_init_394 : dc b_R_init 394 (.aload_n 0) 1 395 := ⟨by decide +kernel, rfl⟩
theorem d_R_init_395 : dc b_R_init 395 (.getfield 51) 3 398 := ⟨by decide +kernel, rfl⟩
theorem d_R_init_398 : dc b_R_init 398 (.bipush 73) 2 400 := ⟨by decide +kernel, rfl⟩
theorem d_R_init_400 : dc b_R_init 400 (.bipush 27) 2 402 := ⟨by decide +kernel, rfl⟩
theorem d_R_init_402 : dc b_R_init 402 (.iastore) 1 403 := ⟨by decide +kernel, rfl⟩
theorem d_R_init_403 : dc b_R_init 403 (.aload_n 0) 1 404 := ⟨by decide +kernel, rfl⟩
theorem d_R_init_404 : dc b_R_init 404 (.getfield 54) 3 407 := ⟨by decide +kernel, rfl⟩
theorem d_R_init_407 : dc b_R_init 407 (.bipush 73) 2 409 := ⟨by decide +kernel, rfl⟩
theorem d_R_init_409 : dc b_R_init 409 (.iconst 1) 1 410 := ⟨by decide +kernel, rfl⟩
theorem d_R_init_410 : dc b_R_init 410 (.iastore) 1 411 := ⟨by decide +kernel, rfl⟩
theorem d_R_init_411 : dc b_R_init 411 (.aload_n 0) 1 412 := ⟨by decide +kernel, rfl⟩
theorem d_R_init_412 : dc b_R_init 412 (.getfield 57) 3 415 := ⟨by decide +kernel, rfl⟩
theorem d_R_init_415 : dc b_R_init 415 (.sipush 219) 3 418 := ⟨by decide +kernel, rfl⟩
theorem d_R_init_418 : dc b_R_init 418 (.bipush 7) 2 420 := ⟨by decide +kernel, rfl⟩
theorem d_R_init_420 : dc b_R_init 420 (.iastore) 1 421 := ⟨by decide +kernel, rfl⟩
theorem d_R_init_421 : dc b_R_init 421 (.aload_n 0) 1 422 := ⟨by decide +kernel, rfl⟩
theorem d_R_init_422 : dc b_R_init 422 (.getfield 51) 3 425 := ⟨by decide +kernel, rfl⟩
theorem d_R_init_425 : dc b_R_init 425 (.bipush 74) 2 427 := ⟨by decide +kernel, rfl⟩
theorem d_R_init_427 : dc b_R_init 427 (.bipush 28) 2 429 := ⟨by decide +kernel, rfl⟩
theorem d_R_init_429 : dc b_R_init 429 (.iastore) 1 430 := ⟨by decide +kernel, rfl⟩
theorem d_R_init_430 : dc b_R_init 430 (.aload_n 0) 1 431 := ⟨by decide +kernel, rfl⟩
theorem d_R_init_431 : dc b_R_init 431 (.getfield 54) 3 434 := ⟨by decide +kernel, rfl⟩
theorem d_R_init_434 : dc b_R_init 434 (.bipush 74) 2 436 := ⟨by decide +kernel, rfl⟩
theorem d_R_init_436 : dc b_R_init 436 (.bipush 7) 2 438 := ⟨by decide +kernel, rfl⟩
theorem d_R_init_438 : dc b_R_init 438 (.iastore) 1 439 := ⟨by decide +kernel, rfl⟩
theorem d_R_init_439 : dc b_R_init 439 (.iconst 0) 1 440 := ⟨by decide +kernel, rfl⟩
theorem d_R_init_440 : dc b_R_init 440 (.istore_n 1) 1 441 := ⟨by decide +kernel, rfl⟩
theorem d_R_init_441 : dc b_R_init 441 (.iload_n 1) 1 442 := ⟨by decide +kernel, rfl⟩
theorem d_R_init_442 : dc b_R_init 442 (.bipush 9) 2 444 := ⟨by decide +kernel, rfl⟩
theorem d_R_init_444 : db b_R_init 444 (.if_icmp .ge 18) 18 462 447 := ⟨by decide +kernel, by decide, rfl⟩
theorem d_R_init_447 : dc b_R_init 447 (.aload_n 0) 1 448 := ⟨by decide +kernel, rfl⟩
theorem d_R_init_448 : dc b_R_init 448 (.getfield 148) 3 451 := ⟨by decide +kernel, rfl⟩
theorem d_R_init_451 : dc b_R_init 451 (.iload_n 1) 1 452 := ⟨by decide +kernel, rfl⟩
theorem d_R_init_452 : dc b_R_init 452 (.ldc2_w 142) 3 455 := ⟨by decide +kernel, rfl⟩
theorem d_R_init_455 : dc b_R_init 455 (.lastore) 1 456 := ⟨by decide +kernel, rfl⟩
theorem d_R_init_456 : dc b_R_init 456 (.iinc 1 1) 3 459 := ⟨by decide +kernel, rfl⟩
theorem d_R_init_459 : db b_R_init 459 (.goto (-18)) (-18) 441 462 := ⟨by decide +kernel, by decide, rfl⟩
theorem d_R_init_462 : dc b_R_init 462 (.iconst 0) 1 463 := ⟨by decide +kernel, rfl⟩
theorem d_R_init_463 : dc b_R_init 463 (.istore_n 1) 1 464 := ⟨by decide +kernel, rfl⟩
theorem d_R_init_464 : dc b_R_init 464 (.iload_n 1) 1 465 := ⟨by decide +kernel, rfl⟩
theorem d_R_init_465 : dc b_R_init 465 (.bipush 16) 2 467 := ⟨by decide +kernel, rfl⟩
theorem d_R_init_467 : db b_R_init 467 (.if_icmp .ge 16) 16 483 470 := ⟨by decide +kernel, by decide, rfl⟩
theorem d_R_init_470 : dc b_R_init 470 (.aload_n 0) 1 471 := ⟨by decide +kernel, rfl⟩
theorem d_R_init_471 : dc b_R_init 471 (.getfield 91) 3 474 := ⟨by decide +kernel, rfl⟩
theorem d_R_init_474 : dc b_R_init 474 (.iload_n 1) 1 475 := ⟨by decide +kernel, rfl⟩
theorem d_R_init_475 : dc b_R_init 475 (.iconst (-1)) 1 476 := ⟨by decide +kernel, rfl⟩
theorem d_R_init_476 : dc b_R_init 476 (.iastore) 1 477 := ⟨by decide +kernel, rfl⟩
theorem d_R_init_477 : dc b_R_init 477 (.iinc 1 1) 3 480 := ⟨by decide +kernel, rfl⟩
theorem d_R_init_480 : db b_R_init 480 (.goto (-16)) (-16) 464 483 := ⟨by decide +kernel, by decide, rfl⟩
theorem d_R_init_483 : dc b_R_init 483 (.return_) 1 484 := ⟨by decide +kernel, rfl⟩
def f_R_init_B441 (o : Nat) (kx462 : gS → gD → Option ((Unit × gS × gD) × Nat × Nat)) (kb : gS → gD → Int32 → Option ((Unit × gS × gD) × Nat × Nat)) (S : gS) (d : gD) (v1 : Int32) : Option ((Unit × gS × gD) × Nat × Nat) :=
  if 9 ≤ v1 then (
    kx462 S d)
  else (
    kd S o 10 <|
    lt_ (sP S o 44) fun x2 =>
    nn x2 fun a3 =>
    kd S a3 51 <|
    gi v1 (sN S a3) <|
    lt_ (wL d a3 v1.toNatClampNeg (-1)) fun d6 =>
    kb S d6 (v1 + 1))
set_option maxRecDepth 100000 in
set_option maxHeartbeats 4000000 in
theorem w_R_init_B441 {X : GX} (hE : gE X b_R_init 2 "StandInMillModel" none "<init>" 1 20) {o : Nat} {r : Unit} {S' : gS} {d' : gD} {mc ms : Nat} (hmc : (xR X).cells = mc) (hms : (xR X).slots = ms) {kb : gS → gD → Int32 → Option ((Unit × gS × gD) × Nat × Nat)} {kx462 : gS → gD → Option ((Unit × gS × gD) × Nat × Nat)} (hkb : ∀ (cells slots dc ds : Nat) (S : gS) (d : gD) (v1 : Int32), kb S d v1 = some ((r, S', d'), dc, ds) → cells + dc = mc → slots + ds = ms → gw X cells slots (gQ X (none) S' d' mc ms) S d 441 [some (va_rf (some o)), some (.int v1)] []) (hkx462 : ∀ (cells slots dc ds : Nat) (S : gS) (d : gD), kx462 S d = some ((r, S', d'), dc, ds) → cells + dc = mc → slots + ds = ms → gw X cells slots (gQ X (none) S' d' mc ms) S d 462 [some (va_rf (some o)), none] []) :
    ∀ (cells slots dc ds : Nat) (S : gS) (d : gD) (v1 : Int32), f_R_init_B441 o kx462 kb S d v1 = some ((r, S', d'), dc, ds) → cells + dc = mc → slots + ds = ms → gw X cells slots (gQ X (none) S' d' mc ms) S d 441 [some (va_rf (some o)), some (.int v1)] [] := by
  intro cells slots dc ds S d v1 h hc hs
  unfold f_R_init_B441 at h
  refine g_iload_n (i := 1) hE d_R_init_441 rfl rfl ?_
  refine g_bipush hE d_R_init_442 kb_9 ?_
  refine g_icmp_ge hE d_R_init_444 (fun c7 => ?_) (fun c7 => ?_)
  · replace h := if_t c7 h
    exact gw.less (lv' := [some (va_rf (some o)), none]) (And.intro rfl trivial) (hkx462 _ _ _ _ S d h hc hs)
  · replace h := if_f c7 h
    refine g_aload_n (i := 0) hE d_R_init_447 rfl rfl ?_
    obtain ⟨k1, h⟩ := kd_s h
    refine g_getR 44 hE kc_R k1 (Nat.le_of_ble_eq_true rfl) rfl m_422 d_R_init_448 (fun x2 e => ?_)
    replace h := lt_i e h; clear e
    refine g_iload_n (i := 1) hE d_R_init_451 rfl rfl ?_
    refine g_ldc2 hE d_R_init_452 m_420 ?_
    obtain ⟨a3, rfl, h⟩ := nn_s h
    obtain ⟨k4, h⟩ := kd_s h
    obtain ⟨g5, h⟩ := gi_s h
    refine g_last hE k4 g5 d_R_init_455 (fun d6 e => ?_)
    replace h := lt_i e h; clear e
    refine g_iinc (i := 1) (lv' := [some (va_rf (some o)), some (.int (v1 + 1))]) hE d_R_init_456 ki_1 rfl (Nat.le_of_ble_eq_true rfl) ⟨rfl, Nat.le_of_ble_eq_true rfl⟩ (lvp_r rfl) ?_
    refine g_goto hE d_R_init_459 ?_
    exact gw.less (lv' := [some (va_rf (some o)), some (.int (v1 + 1))]) (And.intro rfl (And.intro rfl trivial)) (hkb _ _ _ _ S d6 (v1 + 1) h hc hs)
theorem w_R_init_L441 {X : GX} (hE : gE X b_R_init 2 "StandInMillModel" none "<init>" 1 20) {o : Nat} {r : Unit} {S' : gS} {d' : gD} {mc ms : Nat} (hmc : (xR X).cells = mc) (hms : (xR X).slots = ms) {kx462 : gS → gD → Option ((Unit × gS × gD) × Nat × Nat)} (hkx462 : ∀ (cells slots dc ds : Nat) (S : gS) (d : gD), kx462 S d = some ((r, S', d'), dc, ds) → cells + dc = mc → slots + ds = ms → gw X cells slots (gQ X (none) S' d' mc ms) S d 462 [some (va_rf (some o)), none] []) : ∀ (n : Nat) (cells slots dc ds : Nat) (S : gS) (d : gD) (v1 : Int32), itr (f_R_init_B441 o kx462) (fun _ _ _ => none) n S d v1 = some ((r, S', d'), dc, ds) → cells + dc = mc → slots + ds = ms → gw X cells slots (gQ X (none) S' d' mc ms) S d 441 [some (va_rf (some o)), some (.int v1)] [] := by
  intro n
  induction n with
  | zero => intro cells slots dc ds S d v1 h hc hs; cases h
  | succ n ih => exact w_R_init_B441 hE hmc hms ih hkx462
def f_R_init_B464 (o : Nat) (kb : gS → gD → Int32 → Option ((Unit × gS × gD) × Nat × Nat)) (S : gS) (d : gD) (v1 : Int32) : Option ((Unit × gS × gD) × Nat × Nat) :=
  if 16 ≤ v1 then (
    some (((), S, d), 0, 0))
  else (
    kd S o 10 <|
    lt_ (sP S o 26) fun x2 =>
    nn x2 fun a3 =>
    kd S a3 50 <|
    gi v1 (sN S a3) <|
    lt_ (wI d a3 v1.toNatClampNeg (-1)) fun d6 =>
    kb S d6 (v1 + 1))
set_option maxRecDepth 100000 in
set_option maxHeartbeats 4000000 in
theorem w_R_init_B464 {X : GX} (hE : gE X b_R_init 2 "StandInMillModel" none "<init>" 1 20) {o : Nat} {r : Unit} {S' : gS} {d' : gD} {mc ms : Nat} (hmc : (xR X).cells = mc) (hms : (xR X).slots = ms) {kb : gS → gD → Int32 → Option ((Unit × gS × gD) × Nat × Nat)} (hkb : ∀ (cells slots dc ds : Nat) (S : gS) (d : gD) (v1 : Int32), kb S d v1 = some ((r, S', d'), dc, ds) → cells + dc = mc → slots + ds = ms → gw X cells slots (gQ X (none) S' d' mc ms) S d 464 [some (va_rf (some o)), some (.int v1)] []) :
    ∀ (cells slots dc ds : Nat) (S : gS) (d : gD) (v1 : Int32), f_R_init_B464 o kb S d v1 = some ((r, S', d'), dc, ds) → cells + dc = mc → slots + ds = ms → gw X cells slots (gQ X (none) S' d' mc ms) S d 464 [some (va_rf (some o)), some (.int v1)] [] := by
  intro cells slots dc ds S d v1 h hc hs
  unfold f_R_init_B464 at h
  refine g_iload_n (i := 1) hE d_R_init_464 rfl rfl ?_
  refine g_bipush hE d_R_init_465 kb_16 ?_
  refine g_icmp_ge hE d_R_init_467 (fun c7 => ?_) (fun c7 => ?_)
  · replace h := if_t c7 h
    cases h
    exact g_vret hE d_R_init_483 hc hs
  · replace h := if_f c7 h
    refine g_aload_n (i := 0) hE d_R_init_470 rfl rfl ?_
    obtain ⟨k1, h⟩ := kd_s h
    refine g_getR 26 hE kc_R k1 (Nat.le_of_ble_eq_true rfl) rfl m_403 d_R_init_471 (fun x2 e => ?_)
    replace h := lt_i e h; clear e
    refine g_iload_n (i := 1) hE d_R_init_474 rfl rfl ?_
    refine g_iconst hE d_R_init_475 ki_m1 ?_
    obtain ⟨a3, rfl, h⟩ := nn_s h
    obtain ⟨k4, h⟩ := kd_s h
    obtain ⟨g5, h⟩ := gi_s h
    refine g_iast hE k4 g5 d_R_init_476 (fun d6 e => ?_)
    replace h := lt_i e h; clear e
    refine g_iinc (i := 1) (lv' := [some (va_rf (some o)), some (.int (v1 + 1))]) hE d_R_init_477 ki_1 rfl (Nat.le_of_ble_eq_true rfl) ⟨rfl, Nat.le_of_ble_eq_true rfl⟩ (lvp_r rfl) ?_
    refine g_goto hE d_R_init_480 ?_
    exact gw.less (lv' := [some (va_rf (some o)), some (.int (v1 + 1))]) (And.intro rfl (And.intro rfl trivial)) (hkb _ _ _ _ S d6 (v1 + 1) h hc hs)
theorem w_R_init_L464 {X : GX} (hE : gE X b_R_init 2 "StandInMillModel" none "<init>" 1 20) {o : Nat} {r : Unit} {S' : gS} {d' : gD} {mc ms : Nat} (hmc : (xR X).cells = mc) (hms : (xR X).slots = ms) : ∀ (n : Nat) (cells slots dc ds : Nat) (S : gS) (d : gD) (v1 : Int32), itr (f_R_init_B464 o) (fun _ _ _ => none) n S d v1 = some ((r, S', d'), dc, ds) → cells + dc = mc → slots + ds = ms → gw X cells slots (gQ X (none) S' d' mc ms) S d 464 [some (va_rf (some o)), some (.int v1)] [] := by
  intro n
  induction n with
  | zero => intro cells slots dc ds S d v1 h hc hs; cases h
  | succ n ih => exact w_R_init_B464 hE hmc hms ih
def f_R_init_J462 (o : Nat) (S : gS) (d : gD) : Option ((Unit × gS × gD) × Nat × Nat) :=
  itr (f_R_init_B464 o) (fun _ _ _ => none) fu S d 0
set_option maxRecDepth 100000 in
set_option maxHeartbeats 4000000 in
theorem w_R_init_J462 {X : GX} (hE : gE X b_R_init 2 "StandInMillModel" none "<init>" 1 20) {o : Nat} {r : Unit} {S' : gS} {d' : gD} {mc ms : Nat} (hmc : (xR X).cells = mc) (hms : (xR X).slots = ms) :
    ∀ (cells slots dc ds : Nat) (S : gS) (d : gD), f_R_init_J462 o S d = some ((r, S', d'), dc, ds) → cells + dc = mc → slots + ds = ms → gw X cells slots (gQ X (none) S' d' mc ms) S d 462 [some (va_rf (some o)), none] [] := by
  intro cells slots dc ds S d h hc hs
  unfold f_R_init_J462 at h
  refine g_iconst hE d_R_init_462 ki_0 ?_
  refine g_istore_n (i := 1) (lv' := [some (va_rf (some o)), some (.int 0)]) hE d_R_init_463 rfl (Nat.le_of_ble_eq_true rfl) ⟨rfl, Nat.le_of_ble_eq_true rfl⟩ (lvp_r rfl) ?_
  exact gw.less (lv' := [some (va_rf (some o)), some (.int 0)]) (And.intro rfl (And.intro rfl trivial)) (w_R_init_L464 hE hmc hms fu _ _ _ _ S d 0 h hc hs)
set_option maxRecDepth 100000 in
def f_R_init (S : gS) (d : gD) (o : Nat) : Option ((Unit × gS × gD) × Nat × Nat) :=
  kd S o 10 <|
  lt_ (wI d o 0 0) fun d2 =>
  lt_ (wI d2 o 1 1) fun d3 =>
  nl 4 <|
  ac 1 ((4 : Int32).toNatClampNeg) <|
  lt_ (nS S 50 ((4 : Int32).toNatClampNeg)) fun S4 =>
  lt_ (nD S d3) fun d5 =>
  lt_ (sZ S) fun a6 =>
  kd S4 o 10 <|
  lt_ (wP S4 o 2 (some a6)) fun S12 =>
  lt_ (wI d5 o 3 11) fun d13 =>
  nl 24 <|
  ac 1 ((24 : Int32).toNatClampNeg) <|
  lt_ (nS S12 50 ((24 : Int32).toNatClampNeg)) fun S14 =>
  lt_ (nD S12 d13) fun d15 =>
  lt_ (sZ S12) fun a16 =>
  kd S14 o 10 <|
  lt_ (wP S14 o 4 (some a16)) fun S22 =>
  lt_ (wI d15 o 5 0) fun d23 =>
  nl 12 <|
  ac 1 ((12 : Int32).toNatClampNeg) <|
  lt_ (nS S22 50 ((12 : Int32).toNatClampNeg)) fun S24 =>
  lt_ (nD S22 d23) fun d25 =>
  lt_ (sZ S22) fun a26 =>
  kd S24 o 10 <|
  lt_ (wP S24 o 6 (some a26)) fun S32 =>
  nl 12 <|
  ac 1 ((12 : Int32).toNatClampNeg) <|
  lt_ (nS S32 50 ((12 : Int32).toNatClampNeg)) fun S33 =>
  lt_ (nD S32 d25) fun d34 =>
  lt_ (sZ S32) fun a35 =>
  kd S33 o 10 <|
  lt_ (wP S33 o 7 (some a35)) fun S41 =>
  nl 12 <|
  ac 1 ((12 : Int32).toNatClampNeg) <|
  lt_ (nS S41 50 ((12 : Int32).toNatClampNeg)) fun S42 =>
  lt_ (nD S41 d34) fun d43 =>
  lt_ (sZ S41) fun a44 =>
  kd S42 o 10 <|
  lt_ (wP S42 o 8 (some a44)) fun S50 =>
  nl 12 <|
  ac 1 ((12 : Int32).toNatClampNeg) <|
  lt_ (nS S50 53 ((12 : Int32).toNatClampNeg)) fun S51 =>
  lt_ (nD S50 d43) fun d52 =>
  lt_ (sZ S50) fun a53 =>
  kd S51 o 10 <|
  lt_ (wP S51 o 9 (some a53)) fun S59 =>
  nl 24 <|
  ac 1 ((24 : Int32).toNatClampNeg) <|
  lt_ (nS S59 50 ((24 : Int32).toNatClampNeg)) fun S60 =>
  lt_ (nD S59 d52) fun d61 =>
  lt_ (sZ S59) fun a62 =>
  kd S60 o 10 <|
  lt_ (wP S60 o 10 (some a62)) fun S68 =>
  nl 12 <|
  ac 1 ((12 : Int32).toNatClampNeg) <|
  lt_ (nS S68 50 ((12 : Int32).toNatClampNeg)) fun S69 =>
  lt_ (nD S68 d61) fun d70 =>
  lt_ (sZ S68) fun a71 =>
  kd S69 o 10 <|
  lt_ (wP S69 o 11 (some a71)) fun S77 =>
  nl 12 <|
  ac 1 ((12 : Int32).toNatClampNeg) <|
  lt_ (nS S77 50 ((12 : Int32).toNatClampNeg)) fun S78 =>
  lt_ (nD S77 d70) fun d79 =>
  lt_ (sZ S77) fun a80 =>
  kd S78 o 10 <|
  lt_ (wP S78 o 12 (some a80)) fun S86 =>
  nl 75 <|
  ac 1 ((75 : Int32).toNatClampNeg) <|
  lt_ (nS S86 50 ((75 : Int32).toNatClampNeg)) fun S87 =>
  lt_ (nD S86 d79) fun d88 =>
  lt_ (sZ S86) fun a89 =>
  kd S87 o 10 <|
  lt_ (wP S87 o 13 (some a89)) fun S95 =>
  nl 75 <|
  ac 1 ((75 : Int32).toNatClampNeg) <|
  lt_ (nS S95 50 ((75 : Int32).toNatClampNeg)) fun S96 =>
  lt_ (nD S95 d88) fun d97 =>
  lt_ (sZ S95) fun a98 =>
  kd S96 o 10 <|
  lt_ (wP S96 o 14 (some a98)) fun S104 =>
  nl 225 <|
  ac 1 ((225 : Int32).toNatClampNeg) <|
  lt_ (nS S104 50 ((225 : Int32).toNatClampNeg)) fun S105 =>
  lt_ (nD S104 d97) fun d106 =>
  lt_ (sZ S104) fun a107 =>
  kd S105 o 10 <|
  lt_ (wP S105 o 15 (some a107)) fun S113 =>
  nl 75 <|
  ac 1 ((75 : Int32).toNatClampNeg) <|
  lt_ (nS S113 50 ((75 : Int32).toNatClampNeg)) fun S114 =>
  lt_ (nD S113 d106) fun d115 =>
  lt_ (sZ S113) fun a116 =>
  kd S114 o 10 <|
  lt_ (wP S114 o 16 (some a116)) fun S122 =>
  nl 225 <|
  ac 1 ((225 : Int32).toNatClampNeg) <|
  lt_ (nS S122 50 ((225 : Int32).toNatClampNeg)) fun S123 =>
  lt_ (nD S122 d115) fun d124 =>
  lt_ (sZ S122) fun a125 =>
  kd S123 o 10 <|
  lt_ (wP S123 o 17 (some a125)) fun S131 =>
  lt_ (wI d124 o 18 0) fun d132 =>
  nl 32 <|
  ac 1 ((32 : Int32).toNatClampNeg) <|
  lt_ (nS S131 50 ((32 : Int32).toNatClampNeg)) fun S133 =>
  lt_ (nD S131 d132) fun d134 =>
  lt_ (sZ S131) fun a135 =>
  kd S133 o 10 <|
  lt_ (wP S133 o 19 (some a135)) fun S141 =>
  nl 32 <|
  ac 1 ((32 : Int32).toNatClampNeg) <|
  lt_ (nS S141 51 ((32 : Int32).toNatClampNeg)) fun S142 =>
  lt_ (nD S141 d134) fun d143 =>
  lt_ (sZ S141) fun a144 =>
  kd S142 o 10 <|
  lt_ (wP S142 o 20 (some a144)) fun S150 =>
  lt_ (wI d143 o 21 0) fun d151 =>
  nl 16 <|
  ac 1 ((16 : Int32).toNatClampNeg) <|
  lt_ (nS S150 50 ((16 : Int32).toNatClampNeg)) fun S152 =>
  lt_ (nD S150 d151) fun d153 =>
  lt_ (sZ S150) fun a154 =>
  kd S152 o 10 <|
  lt_ (wP S152 o 22 (some a154)) fun S160 =>
  nl 16 <|
  ac 1 ((16 : Int32).toNatClampNeg) <|
  lt_ (nS S160 50 ((16 : Int32).toNatClampNeg)) fun S161 =>
  lt_ (nD S160 d153) fun d162 =>
  lt_ (sZ S160) fun a163 =>
  kd S161 o 10 <|
  lt_ (wP S161 o 23 (some a163)) fun S169 =>
  nl 16 <|
  ac 1 ((16 : Int32).toNatClampNeg) <|
  lt_ (nS S169 50 ((16 : Int32).toNatClampNeg)) fun S170 =>
  lt_ (nD S169 d162) fun d171 =>
  lt_ (sZ S169) fun a172 =>
  kd S170 o 10 <|
  lt_ (wP S170 o 24 (some a172)) fun S178 =>
  nl 16 <|
  ac 1 ((16 : Int32).toNatClampNeg) <|
  lt_ (nS S178 50 ((16 : Int32).toNatClampNeg)) fun S179 =>
  lt_ (nD S178 d171) fun d180 =>
  lt_ (sZ S178) fun a181 =>
  kd S179 o 10 <|
  lt_ (wP S179 o 25 (some a181)) fun S187 =>
  nl 16 <|
  ac 1 ((16 : Int32).toNatClampNeg) <|
  lt_ (nS S187 50 ((16 : Int32).toNatClampNeg)) fun S188 =>
  lt_ (nD S187 d180) fun d189 =>
  lt_ (sZ S187) fun a190 =>
  kd S188 o 10 <|
  lt_ (wP S188 o 26 (some a190)) fun S196 =>
  nl 16 <|
  ac 1 ((16 : Int32).toNatClampNeg) <|
  lt_ (nS S196 53 ((16 : Int32).toNatClampNeg)) fun S197 =>
  lt_ (nD S196 d189) fun d198 =>
  lt_ (sZ S196) fun a199 =>
  kd S197 o 10 <|
  lt_ (wP S197 o 27 (some a199)) fun S205 =>
  lt_ (wI d198 o 28 0) fun d206 =>
  nl 864 <|
  ac 1 ((864 : Int32).toNatClampNeg) <|
  lt_ (nS S205 50 ((864 : Int32).toNatClampNeg)) fun S207 =>
  lt_ (nD S205 d206) fun d208 =>
  lt_ (sZ S205) fun a209 =>
  kd S207 o 10 <|
  lt_ (wP S207 o 29 (some a209)) fun S215 =>
  nl 12 <|
  ac 1 ((12 : Int32).toNatClampNeg) <|
  lt_ (nS S215 50 ((12 : Int32).toNatClampNeg)) fun S216 =>
  lt_ (nD S215 d208) fun d217 =>
  lt_ (sZ S215) fun a218 =>
  kd S216 o 10 <|
  lt_ (wP S216 o 30 (some a218)) fun S224 =>
  lt_ (wI d217 o 31 0) fun d225 =>
  nl 80 <|
  ac 1 ((80 : Int32).toNatClampNeg) <|
  lt_ (nS S224 50 ((80 : Int32).toNatClampNeg)) fun S226 =>
  lt_ (nD S224 d225) fun d227 =>
  lt_ (sZ S224) fun a228 =>
  kd S226 o 10 <|
  lt_ (wP S226 o 32 (some a228)) fun S234 =>
  nl 1280 <|
  ac 1 ((1280 : Int32).toNatClampNeg) <|
  lt_ (nS S234 50 ((1280 : Int32).toNatClampNeg)) fun S235 =>
  lt_ (nD S234 d227) fun d236 =>
  lt_ (sZ S234) fun a237 =>
  kd S235 o 10 <|
  lt_ (wP S235 o 33 (some a237)) fun S243 =>
  nl 80 <|
  ac 1 ((80 : Int32).toNatClampNeg) <|
  lt_ (nS S243 50 ((80 : Int32).toNatClampNeg)) fun S244 =>
  lt_ (nD S243 d236) fun d245 =>
  lt_ (sZ S243) fun a246 =>
  kd S244 o 10 <|
  lt_ (wP S244 o 34 (some a246)) fun S252 =>
  nl 16 <|
  ac 1 ((16 : Int32).toNatClampNeg) <|
  lt_ (nS S252 50 ((16 : Int32).toNatClampNeg)) fun S253 =>
  lt_ (nD S252 d245) fun d254 =>
  lt_ (sZ S252) fun a255 =>
  kd S253 o 10 <|
  lt_ (wP S253 o 35 (some a255)) fun S261 =>
  nl 80 <|
  ac 1 ((80 : Int32).toNatClampNeg) <|
  lt_ (nS S261 50 ((80 : Int32).toNatClampNeg)) fun S262 =>
  lt_ (nD S261 d254) fun d263 =>
  lt_ (sZ S261) fun a264 =>
  kd S262 o 10 <|
  lt_ (wP S262 o 36 (some a264)) fun S270 =>
  lt_ (wI d263 o 37 0) fun d271 =>
  nl 16 <|
  ac 1 ((16 : Int32).toNatClampNeg) <|
  lt_ (nS S270 50 ((16 : Int32).toNatClampNeg)) fun S272 =>
  lt_ (nD S270 d271) fun d273 =>
  lt_ (sZ S270) fun a274 =>
  kd S272 o 10 <|
  lt_ (wP S272 o 38 (some a274)) fun S280 =>
  nl 3600 <|
  ac 1 ((3600 : Int32).toNatClampNeg) <|
  lt_ (nS S280 50 ((3600 : Int32).toNatClampNeg)) fun S281 =>
  lt_ (nD S280 d273) fun d282 =>
  lt_ (sZ S280) fun a283 =>
  kd S281 o 10 <|
  lt_ (wP S281 o 39 (some a283)) fun S289 =>
  lt_ (wI d282 o 40 0) fun d290 =>
  nl 768 <|
  ac 1 ((768 : Int32).toNatClampNeg) <|
  lt_ (nS S289 50 ((768 : Int32).toNatClampNeg)) fun S291 =>
  lt_ (nD S289 d290) fun d292 =>
  lt_ (sZ S289) fun a293 =>
  kd S291 o 10 <|
  lt_ (wP S291 o 41 (some a293)) fun S299 =>
  lt_ (wI d292 o 42 0) fun d300 =>
  lt_ (wL d300 o 43 (-1)) fun d301 =>
  nl 9 <|
  ac 1 ((9 : Int32).toNatClampNeg) <|
  lt_ (nS S299 51 ((9 : Int32).toNatClampNeg)) fun S302 =>
  lt_ (nD S299 d301) fun d303 =>
  lt_ (sZ S299) fun a304 =>
  kd S302 o 10 <|
  lt_ (wP S302 o 44 (some a304)) fun S310 =>
  nl 3 <|
  ac 1 ((3 : Int32).toNatClampNeg) <|
  lt_ (nS S310 50 ((3 : Int32).toNatClampNeg)) fun S311 =>
  lt_ (nD S310 d303) fun d312 =>
  lt_ (sZ S310) fun a313 =>
  kd S311 o 10 <|
  lt_ (wP S311 o 45 (some a313)) fun S319 =>
  nl 3 <|
  ac 1 ((3 : Int32).toNatClampNeg) <|
  lt_ (nS S319 51 ((3 : Int32).toNatClampNeg)) fun S320 =>
  lt_ (nD S319 d312) fun d321 =>
  lt_ (sZ S319) fun a322 =>
  kd S320 o 10 <|
  lt_ (wP S320 o 46 (some a322)) fun S328 =>
  lt_ (sP S328 o 4) fun x329 =>
  nn x329 fun a330 =>
  kd S328 a330 50 <|
  gi 8 (sN S328 a330) <|
  lt_ (wI d321 a330 (8 : Int32).toNatClampNeg 7) fun d333 =>
  lt_ (sP S328 o 4) fun x334 =>
  nn x334 fun a335 =>
  kd S328 a335 50 <|
  gi 9 (sN S328 a335) <|
  lt_ (wI d333 a335 (9 : Int32).toNatClampNeg 8) fun d338 =>
  lt_ (sP S328 o 4) fun x339 =>
  nn x339 fun a340 =>
  kd S328 a340 50 <|
  gi 10 (sN S328 a340) <|
  lt_ (wI d338 a340 (10 : Int32).toNatClampNeg 8) fun d343 =>
  lt_ (sP S328 o 13) fun x344 =>
  nn x344 fun a345 =>
  kd S328 a345 50 <|
  gi 72 (sN S328 a345) <|
  lt_ (wI d343 a345 (72 : Int32).toNatClampNeg 26) fun d348 =>
  lt_ (sP S328 o 14) fun x349 =>
  nn x349 fun a350 =>
  kd S328 a350 50 <|
  gi 72 (sN S328 a350) <|
  lt_ (wI d348 a350 (72 : Int32).toNatClampNeg 5) fun d353 =>
  lt_ (sP S328 o 13) fun x354 =>
  nn x354 fun a355 =>
  kd S328 a355 50 <|
  gi 73 (sN S328 a355) <|
  lt_ (wI d353 a355 (73 : Int32).toNatClampNeg 27) fun d358 =>
  lt_ (sP S328 o 14) fun x359 =>
  nn x359 fun a360 =>
  kd S328 a360 50 <|
  gi 73 (sN S328 a360) <|
  lt_ (wI d358 a360 (73 : Int32).toNatClampNeg 1) fun d363 =>
  lt_ (sP S328 o 15) fun x364 =>
  nn x364 fun a365 =>
  kd S328 a365 50 <|
  gi 219 (sN S328 a365) <|
  lt_ (wI d363 a365 (219 : Int32).toNatClampNeg 7) fun d368 =>
  lt_ (sP S328 o 13) fun x369 =>
  nn x369 fun a370 =>
  kd S328 a370 50 <|
  gi 74 (sN S328 a370) <|
  lt_ (wI d368 a370 (74 : Int32).toNatClampNeg 28) fun d373 =>
  lt_ (sP S328 o 14) fun x374 =>
  nn x374 fun a375 =>
  kd S328 a375 50 <|
  gi 74 (sN S328 a375) <|
  lt_ (wI d373 a375 (74 : Int32).toNatClampNeg 7) fun d378 =>
  itr (f_R_init_B441 o (f_R_init_J462 o)) (fun _ _ _ => none) fu S328 d378 0
set_option maxRecDepth 100000 in
set_option maxHeartbeats 4000000 in
theorem c_R_init (l : Launch) (G : gG) {S : gS} {d : gD} {o : Nat} {r : Unit} {d' : gD} {S' : gS} {dc ds : Nat} (h : f_R_init S d o = some ((r, S', d'), dc, ds)) : GM l G y_R_init b_R_init 2 none 1 20 dc ds [.inr (.inr (some o))] S d (none) S' d' := by
  refine GM.of (by decide) (Nat.le_of_ble_eq_true rfl) ?_
  intro X hl0 hG0 hR0 hE0
  have hE : gE X b_R_init 2 "StandInMillModel" none "<init>" 1 20 := hE0
  have hmc : (xR X).cells = dc := by rw [hR0]
  have hms : (xR X).slots = ds := by rw [hR0]
  obtain ⟨mc, emc⟩ : ∃ z, z = dc := ⟨_, rfl⟩
  obtain ⟨ms, ems⟩ : ∃ z, z = ds := ⟨_, rfl⟩
  rw [← emc] at hmc
  rw [← ems] at hms
  have hc : 0 + dc = mc := by omega
  have hs : 0 + ds = ms := by omega
  show gw X 0 0 (gQ X _ _ _ dc ds) _ _ _ _ _
  rw [← emc, ← ems]
  clear hR0 emc ems
  unfold f_R_init at h
  refine gw.less (lv' := [some (va_rf (some o)), none]) (And.intro rfl trivial) ?_
  refine g_aload_n (i := 0) hE d_R_init_0 rfl rfl ?_
  refine g_objInit hE m_375 m_1 m_2 ⟨Nat.le_of_ble_eq_true rfl, Nat.le_of_ble_eq_true rfl⟩ ct_0 d_R_init_1 ?_
  refine g_aload_n (i := 0) hE d_R_init_4 rfl rfl ?_
  refine g_iconst hE d_R_init_5 ki_0 ?_
  obtain ⟨k1, h⟩ := kd_s h
  refine g_putI 0 hE kc_R k1 (Nat.le_of_ble_eq_true rfl) rfl m_376 rfl (by decide +kernel) d_R_init_6 (fun d2 e => ?_)
  replace h := lt_i e h; clear e
  refine g_aload_n (i := 0) hE d_R_init_9 rfl rfl ?_
  refine g_iconst hE d_R_init_10 ki_1 ?_
  refine g_putI 1 hE kc_R k1 (Nat.le_of_ble_eq_true rfl) rfl m_377 rfl (by decide +kernel) d_R_init_11 (fun d3 e => ?_)
  replace h := lt_i e h; clear e
  refine g_aload_n (i := 0) hE d_R_init_14 rfl rfl ?_
  refine g_iconst hE d_R_init_15 ki_4 ?_
  obtain ⟨g7, h⟩ := nl_s h
  obtain ⟨dc0, ds0, h, hc0, hs0⟩ := ac_s h
  refine g_newa (κ := 50) hE rfl (by decide) (fun _ => rfl) (fun _ _ h => h) (by decide) m_9 g7 (cnt_room hmc hc hc0) (cnt_room hms hs hs0) d_R_init_16 (fun S4 d5 a6 e1 e2 e3 => ?_)
  have k8 : sK S4 a6 = 50 := by rw [← e1, ← e3]; exact nS_new
  replace h := lt_i e1 h; replace h := lt_i e2 h; replace h := lt_i e3 h; clear e1 e2 e3
  refine gw.gen (fun c9 s10 ec es => ?_)
  replace hc := cnt_step hc hc0 ec; replace hs := cnt_step hs hs0 es; clear hc0 hs0 ec es
  obtain ⟨k11, h⟩ := kd_s h
  refine g_putRF (fty := .array (.int)) 2 hE kc_R k11 (Nat.le_of_ble_eq_true rfl) rfl m_378 rfl (by decide +kernel) rfl d_R_init_18 rfl rfl (fun S12 e => ?_)
  replace k8 : sK S12 a6 = 50 := by rw [← e]; exact k8
  replace k11 : sK S12 o = 10 := by rw [← e]; exact k11
  replace h := lt_i e h; clear e
  refine g_aload_n (i := 0) hE d_R_init_21 rfl rfl ?_
  refine g_bipush hE d_R_init_22 kb_11 ?_
  refine g_putI 3 hE kc_R k11 (Nat.le_of_ble_eq_true rfl) rfl m_379 rfl (by decide +kernel) d_R_init_24 (fun d13 e => ?_)
  replace h := lt_i e h; clear e
  refine g_aload_n (i := 0) hE d_R_init_27 rfl rfl ?_
  refine g_bipush hE d_R_init_28 kb_24 ?_
  obtain ⟨g17, h⟩ := nl_s h
  obtain ⟨dc0, ds0, h, hc0, hs0⟩ := ac_s h
  refine g_newa (κ := 50) hE rfl (by decide) (fun _ => rfl) (fun _ _ h => h) (by decide) m_9 g17 (cnt_room hmc hc hc0) (cnt_room hms hs hs0) d_R_init_30 (fun S14 d15 a16 e1 e2 e3 => ?_)
  have k18 : sK S14 a16 = 50 := by rw [← e1, ← e3]; exact nS_new
  replace h := lt_i e1 h; replace h := lt_i e2 h; replace h := lt_i e3 h; clear e1 e2 e3
  refine gw.gen (fun c19 s20 ec es => ?_)
  replace hc := cnt_step hc hc0 ec; replace hs := cnt_step hs hs0 es; clear hc0 hs0 ec es
  obtain ⟨k21, h⟩ := kd_s h
  refine g_putRF (fty := .array (.int)) 4 hE kc_R k21 (Nat.le_of_ble_eq_true rfl) rfl m_380 rfl (by decide +kernel) rfl d_R_init_32 rfl rfl (fun S22 e => ?_)
  replace k18 : sK S22 a16 = 50 := by rw [← e]; exact k18
  replace k21 : sK S22 o = 10 := by rw [← e]; exact k21
  replace h := lt_i e h; clear e
  refine g_aload_n (i := 0) hE d_R_init_35 rfl rfl ?_
  refine g_iconst hE d_R_init_36 ki_0 ?_
  refine g_putI 5 hE kc_R k21 (Nat.le_of_ble_eq_true rfl) rfl m_381 rfl (by decide +kernel) d_R_init_37 (fun d23 e => ?_)
  replace h := lt_i e h; clear e
  refine g_aload_n (i := 0) hE d_R_init_40 rfl rfl ?_
  refine g_bipush hE d_R_init_41 kb_12 ?_
  obtain ⟨g27, h⟩ := nl_s h
  obtain ⟨dc0, ds0, h, hc0, hs0⟩ := ac_s h
  refine g_newa (κ := 50) hE rfl (by decide) (fun _ => rfl) (fun _ _ h => h) (by decide) m_9 g27 (cnt_room hmc hc hc0) (cnt_room hms hs hs0) d_R_init_43 (fun S24 d25 a26 e1 e2 e3 => ?_)
  have k28 : sK S24 a26 = 50 := by rw [← e1, ← e3]; exact nS_new
  replace h := lt_i e1 h; replace h := lt_i e2 h; replace h := lt_i e3 h; clear e1 e2 e3
  refine gw.gen (fun c29 s30 ec es => ?_)
  replace hc := cnt_step hc hc0 ec; replace hs := cnt_step hs hs0 es; clear hc0 hs0 ec es
  obtain ⟨k31, h⟩ := kd_s h
  refine g_putRF (fty := .array (.int)) 6 hE kc_R k31 (Nat.le_of_ble_eq_true rfl) rfl m_382 rfl (by decide +kernel) rfl d_R_init_45 rfl rfl (fun S32 e => ?_)
  replace k28 : sK S32 a26 = 50 := by rw [← e]; exact k28
  replace k31 : sK S32 o = 10 := by rw [← e]; exact k31
  replace h := lt_i e h; clear e
  refine g_aload_n (i := 0) hE d_R_init_48 rfl rfl ?_
  refine g_bipush hE d_R_init_49 kb_12 ?_
  obtain ⟨g36, h⟩ := nl_s h
  obtain ⟨dc0, ds0, h, hc0, hs0⟩ := ac_s h
  refine g_newa (κ := 50) hE rfl (by decide) (fun _ => rfl) (fun _ _ h => h) (by decide) m_9 g36 (cnt_room hmc hc hc0) (cnt_room hms hs hs0) d_R_init_51 (fun S33 d34 a35 e1 e2 e3 => ?_)
  have k37 : sK S33 a35 = 50 := by rw [← e1, ← e3]; exact nS_new
  replace h := lt_i e1 h; replace h := lt_i e2 h; replace h := lt_i e3 h; clear e1 e2 e3
  refine gw.gen (fun c38 s39 ec es => ?_)
  replace hc := cnt_step hc hc0 ec; replace hs := cnt_step hs hs0 es; clear hc0 hs0 ec es
  obtain ⟨k40, h⟩ := kd_s h
  refine g_putRF (fty := .array (.int)) 7 hE kc_R k40 (Nat.le_of_ble_eq_true rfl) rfl m_383 rfl (by decide +kernel) rfl d_R_init_53 rfl rfl (fun S41 e => ?_)
  replace k37 : sK S41 a35 = 50 := by rw [← e]; exact k37
  replace k40 : sK S41 o = 10 := by rw [← e]; exact k40
  replace h := lt_i e h; clear e
  refine g_aload_n (i := 0) hE d_R_init_56 rfl rfl ?_
  refine g_bipush hE d_R_init_57 kb_12 ?_
  obtain ⟨g45, h⟩ := nl_s h
  obtain ⟨dc0, ds0, h, hc0, hs0⟩ := ac_s h
  refine g_newa (κ := 50) hE rfl (by decide) (fun _ => rfl) (fun _ _ h => h) (by decide) m_9 g45 (cnt_room hmc hc hc0) (cnt_room hms hs hs0) d_R_init_59 (fun S42 d43 a44 e1 e2 e3 => ?_)
  have k46 : sK S42 a44 = 50 := by rw [← e1, ← e3]; exact nS_new
  replace h := lt_i e1 h; replace h := lt_i e2 h; replace h := lt_i e3 h; clear e1 e2 e3
  refine gw.gen (fun c47 s48 ec es => ?_)
  replace hc := cnt_step hc hc0 ec; replace hs := cnt_step hs hs0 es; clear hc0 hs0 ec es
  obtain ⟨k49, h⟩ := kd_s h
  refine g_putRF (fty := .array (.int)) 8 hE kc_R k49 (Nat.le_of_ble_eq_true rfl) rfl m_384 rfl (by decide +kernel) rfl d_R_init_61 rfl rfl (fun S50 e => ?_)
  replace k46 : sK S50 a44 = 50 := by rw [← e]; exact k46
  replace k49 : sK S50 o = 10 := by rw [← e]; exact k49
  replace h := lt_i e h; clear e
  refine g_aload_n (i := 0) hE d_R_init_64 rfl rfl ?_
  refine g_bipush hE d_R_init_65 kb_12 ?_
  obtain ⟨g54, h⟩ := nl_s h
  obtain ⟨dc0, ds0, h, hc0, hs0⟩ := ac_s h
  refine g_newa (κ := 53) hE rfl (by decide) (fun _ => rfl) (fun _ _ h => h) (by decide) m_385 g54 (cnt_room hmc hc hc0) (cnt_room hms hs hs0) d_R_init_67 (fun S51 d52 a53 e1 e2 e3 => ?_)
  have k55 : sK S51 a53 = 53 := by rw [← e1, ← e3]; exact nS_new
  replace h := lt_i e1 h; replace h := lt_i e2 h; replace h := lt_i e3 h; clear e1 e2 e3
  refine gw.gen (fun c56 s57 ec es => ?_)
  replace hc := cnt_step hc hc0 ec; replace hs := cnt_step hs hs0 es; clear hc0 hs0 ec es
  obtain ⟨k58, h⟩ := kd_s h
  refine g_putRF (fty := .array (.boolean)) 9 hE kc_R k58 (Nat.le_of_ble_eq_true rfl) rfl m_386 rfl (by decide +kernel) rfl d_R_init_69 rfl rfl (fun S59 e => ?_)
  replace k55 : sK S59 a53 = 53 := by rw [← e]; exact k55
  replace k58 : sK S59 o = 10 := by rw [← e]; exact k58
  replace h := lt_i e h; clear e
  refine g_aload_n (i := 0) hE d_R_init_72 rfl rfl ?_
  refine g_bipush hE d_R_init_73 kb_24 ?_
  obtain ⟨g63, h⟩ := nl_s h
  obtain ⟨dc0, ds0, h, hc0, hs0⟩ := ac_s h
  refine g_newa (κ := 50) hE rfl (by decide) (fun _ => rfl) (fun _ _ h => h) (by decide) m_9 g63 (cnt_room hmc hc hc0) (cnt_room hms hs hs0) d_R_init_75 (fun S60 d61 a62 e1 e2 e3 => ?_)
  have k64 : sK S60 a62 = 50 := by rw [← e1, ← e3]; exact nS_new
  replace h := lt_i e1 h; replace h := lt_i e2 h; replace h := lt_i e3 h; clear e1 e2 e3
  refine gw.gen (fun c65 s66 ec es => ?_)
  replace hc := cnt_step hc hc0 ec; replace hs := cnt_step hs hs0 es; clear hc0 hs0 ec es
  obtain ⟨k67, h⟩ := kd_s h
  refine g_putRF (fty := .array (.int)) 10 hE kc_R k67 (Nat.le_of_ble_eq_true rfl) rfl m_387 rfl (by decide +kernel) rfl d_R_init_77 rfl rfl (fun S68 e => ?_)
  replace k64 : sK S68 a62 = 50 := by rw [← e]; exact k64
  replace k67 : sK S68 o = 10 := by rw [← e]; exact k67
  replace h := lt_i e h; clear e
  refine g_aload_n (i := 0) hE d_R_init_80 rfl rfl ?_
  refine g_bipush hE d_R_init_81 kb_12 ?_
  obtain ⟨g72, h⟩ := nl_s h
  obtain ⟨dc0, ds0, h, hc0, hs0⟩ := ac_s h
  refine g_newa (κ := 50) hE rfl (by decide) (fun _ => rfl) (fun _ _ h => h) (by decide) m_9 g72 (cnt_room hmc hc hc0) (cnt_room hms hs hs0) d_R_init_83 (fun S69 d70 a71 e1 e2 e3 => ?_)
  have k73 : sK S69 a71 = 50 := by rw [← e1, ← e3]; exact nS_new
  replace h := lt_i e1 h; replace h := lt_i e2 h; replace h := lt_i e3 h; clear e1 e2 e3
  refine gw.gen (fun c74 s75 ec es => ?_)
  replace hc := cnt_step hc hc0 ec; replace hs := cnt_step hs hs0 es; clear hc0 hs0 ec es
  obtain ⟨k76, h⟩ := kd_s h
  refine g_putRF (fty := .array (.int)) 11 hE kc_R k76 (Nat.le_of_ble_eq_true rfl) rfl m_388 rfl (by decide +kernel) rfl d_R_init_85 rfl rfl (fun S77 e => ?_)
  replace k73 : sK S77 a71 = 50 := by rw [← e]; exact k73
  replace k76 : sK S77 o = 10 := by rw [← e]; exact k76
  replace h := lt_i e h; clear e
  refine g_aload_n (i := 0) hE d_R_init_88 rfl rfl ?_
  refine g_bipush hE d_R_init_89 kb_12 ?_
  obtain ⟨g81, h⟩ := nl_s h
  obtain ⟨dc0, ds0, h, hc0, hs0⟩ := ac_s h
  refine g_newa (κ := 50) hE rfl (by decide) (fun _ => rfl) (fun _ _ h => h) (by decide) m_9 g81 (cnt_room hmc hc hc0) (cnt_room hms hs hs0) d_R_init_91 (fun S78 d79 a80 e1 e2 e3 => ?_)
  have k82 : sK S78 a80 = 50 := by rw [← e1, ← e3]; exact nS_new
  replace h := lt_i e1 h; replace h := lt_i e2 h; replace h := lt_i e3 h; clear e1 e2 e3
  refine gw.gen (fun c83 s84 ec es => ?_)
  replace hc := cnt_step hc hc0 ec; replace hs := cnt_step hs hs0 es; clear hc0 hs0 ec es
  obtain ⟨k85, h⟩ := kd_s h
  refine g_putRF (fty := .array (.int)) 12 hE kc_R k85 (Nat.le_of_ble_eq_true rfl) rfl m_389 rfl (by decide +kernel) rfl d_R_init_93 rfl rfl (fun S86 e => ?_)
  replace k82 : sK S86 a80 = 50 := by rw [← e]; exact k82
  replace k85 : sK S86 o = 10 := by rw [← e]; exact k85
  replace h := lt_i e h; clear e
  refine g_aload_n (i := 0) hE d_R_init_96 rfl rfl ?_
  refine g_bipush hE d_R_init_97 kb_75 ?_
  obtain ⟨g90, h⟩ := nl_s h
  obtain ⟨dc0, ds0, h, hc0, hs0⟩ := ac_s h
  refine g_newa (κ := 50) hE rfl (by decide) (fun _ => rfl) (fun _ _ h => h) (by decide) m_9 g90 (cnt_room hmc hc hc0) (cnt_room hms hs hs0) d_R_init_99 (fun S87 d88 a89 e1 e2 e3 => ?_)
  have k91 : sK S87 a89 = 50 := by rw [← e1, ← e3]; exact nS_new
  replace h := lt_i e1 h; replace h := lt_i e2 h; replace h := lt_i e3 h; clear e1 e2 e3
  refine gw.gen (fun c92 s93 ec es => ?_)
  replace hc := cnt_step hc hc0 ec; replace hs := cnt_step hs hs0 es; clear hc0 hs0 ec es
  obtain ⟨k94, h⟩ := kd_s h
  refine g_putRF (fty := .array (.int)) 13 hE kc_R k94 (Nat.le_of_ble_eq_true rfl) rfl m_390 rfl (by decide +kernel) rfl d_R_init_101 rfl rfl (fun S95 e => ?_)
  replace k91 : sK S95 a89 = 50 := by rw [← e]; exact k91
  replace k94 : sK S95 o = 10 := by rw [← e]; exact k94
  replace h := lt_i e h; clear e
  refine g_aload_n (i := 0) hE d_R_init_104 rfl rfl ?_
  refine g_bipush hE d_R_init_105 kb_75 ?_
  obtain ⟨g99, h⟩ := nl_s h
  obtain ⟨dc0, ds0, h, hc0, hs0⟩ := ac_s h
  refine g_newa (κ := 50) hE rfl (by decide) (fun _ => rfl) (fun _ _ h => h) (by decide) m_9 g99 (cnt_room hmc hc hc0) (cnt_room hms hs hs0) d_R_init_107 (fun S96 d97 a98 e1 e2 e3 => ?_)
  have k100 : sK S96 a98 = 50 := by rw [← e1, ← e3]; exact nS_new
  replace h := lt_i e1 h; replace h := lt_i e2 h; replace h := lt_i e3 h; clear e1 e2 e3
  refine gw.gen (fun c101 s102 ec es => ?_)
  replace hc := cnt_step hc hc0 ec; replace hs := cnt_step hs hs0 es; clear hc0 hs0 ec es
  obtain ⟨k103, h⟩ := kd_s h
  refine g_putRF (fty := .array (.int)) 14 hE kc_R k103 (Nat.le_of_ble_eq_true rfl) rfl m_391 rfl (by decide +kernel) rfl d_R_init_109 rfl rfl (fun S104 e => ?_)
  replace k100 : sK S104 a98 = 50 := by rw [← e]; exact k100
  replace k103 : sK S104 o = 10 := by rw [← e]; exact k103
  replace h := lt_i e h; clear e
  refine g_aload_n (i := 0) hE d_R_init_112 rfl rfl ?_
  refine g_sipush hE d_R_init_113 ks_225 ?_
  obtain ⟨g108, h⟩ := nl_s h
  obtain ⟨dc0, ds0, h, hc0, hs0⟩ := ac_s h
  refine g_newa (κ := 50) hE rfl (by decide) (fun _ => rfl) (fun _ _ h => h) (by decide) m_9 g108 (cnt_room hmc hc hc0) (cnt_room hms hs hs0) d_R_init_116 (fun S105 d106 a107 e1 e2 e3 => ?_)
  have k109 : sK S105 a107 = 50 := by rw [← e1, ← e3]; exact nS_new
  replace h := lt_i e1 h; replace h := lt_i e2 h; replace h := lt_i e3 h; clear e1 e2 e3
  refine gw.gen (fun c110 s111 ec es => ?_)
  replace hc := cnt_step hc hc0 ec; replace hs := cnt_step hs hs0 es; clear hc0 hs0 ec es
  obtain ⟨k112, h⟩ := kd_s h
  refine g_putRF (fty := .array (.int)) 15 hE kc_R k112 (Nat.le_of_ble_eq_true rfl) rfl m_392 rfl (by decide +kernel) rfl d_R_init_118 rfl rfl (fun S113 e => ?_)
  replace k109 : sK S113 a107 = 50 := by rw [← e]; exact k109
  replace k112 : sK S113 o = 10 := by rw [← e]; exact k112
  replace h := lt_i e h; clear e
  refine g_aload_n (i := 0) hE d_R_init_121 rfl rfl ?_
  refine g_bipush hE d_R_init_122 kb_75 ?_
  obtain ⟨g117, h⟩ := nl_s h
  obtain ⟨dc0, ds0, h, hc0, hs0⟩ := ac_s h
  refine g_newa (κ := 50) hE rfl (by decide) (fun _ => rfl) (fun _ _ h => h) (by decide) m_9 g117 (cnt_room hmc hc hc0) (cnt_room hms hs hs0) d_R_init_124 (fun S114 d115 a116 e1 e2 e3 => ?_)
  have k118 : sK S114 a116 = 50 := by rw [← e1, ← e3]; exact nS_new
  replace h := lt_i e1 h; replace h := lt_i e2 h; replace h := lt_i e3 h; clear e1 e2 e3
  refine gw.gen (fun c119 s120 ec es => ?_)
  replace hc := cnt_step hc hc0 ec; replace hs := cnt_step hs hs0 es; clear hc0 hs0 ec es
  obtain ⟨k121, h⟩ := kd_s h
  refine g_putRF (fty := .array (.int)) 16 hE kc_R k121 (Nat.le_of_ble_eq_true rfl) rfl m_393 rfl (by decide +kernel) rfl d_R_init_126 rfl rfl (fun S122 e => ?_)
  replace k118 : sK S122 a116 = 50 := by rw [← e]; exact k118
  replace k121 : sK S122 o = 10 := by rw [← e]; exact k121
  replace h := lt_i e h; clear e
  refine g_aload_n (i := 0) hE d_R_init_129 rfl rfl ?_
  refine g_sipush hE d_R_init_130 ks_225 ?_
  obtain ⟨g126, h⟩ := nl_s h
  obtain ⟨dc0, ds0, h, hc0, hs0⟩ := ac_s h
  refine g_newa (κ := 50) hE rfl (by decide) (fun _ => rfl) (fun _ _ h => h) (by decide) m_9 g126 (cnt_room hmc hc hc0) (cnt_room hms hs hs0) d_R_init_133 (fun S123 d124 a125 e1 e2 e3 => ?_)
  have k127 : sK S123 a125 = 50 := by rw [← e1, ← e3]; exact nS_new
  replace h := lt_i e1 h; replace h := lt_i e2 h; replace h := lt_i e3 h; clear e1 e2 e3
  refine gw.gen (fun c128 s129 ec es => ?_)
  replace hc := cnt_step hc hc0 ec; replace hs := cnt_step hs hs0 es; clear hc0 hs0 ec es
  obtain ⟨k130, h⟩ := kd_s h
  refine g_putRF (fty := .array (.int)) 17 hE kc_R k130 (Nat.le_of_ble_eq_true rfl) rfl m_394 rfl (by decide +kernel) rfl d_R_init_135 rfl rfl (fun S131 e => ?_)
  replace k127 : sK S131 a125 = 50 := by rw [← e]; exact k127
  replace k130 : sK S131 o = 10 := by rw [← e]; exact k130
  replace h := lt_i e h; clear e
  refine g_aload_n (i := 0) hE d_R_init_138 rfl rfl ?_
  refine g_iconst hE d_R_init_139 ki_0 ?_
  refine g_putI 18 hE kc_R k130 (Nat.le_of_ble_eq_true rfl) rfl m_395 rfl (by decide +kernel) d_R_init_140 (fun d132 e => ?_)
  replace h := lt_i e h; clear e
  refine g_aload_n (i := 0) hE d_R_init_143 rfl rfl ?_
  refine g_bipush hE d_R_init_144 kb_32 ?_
  obtain ⟨g136, h⟩ := nl_s h
  obtain ⟨dc0, ds0, h, hc0, hs0⟩ := ac_s h
  refine g_newa (κ := 50) hE rfl (by decide) (fun _ => rfl) (fun _ _ h => h) (by decide) m_9 g136 (cnt_room hmc hc hc0) (cnt_room hms hs hs0) d_R_init_146 (fun S133 d134 a135 e1 e2 e3 => ?_)
  have k137 : sK S133 a135 = 50 := by rw [← e1, ← e3]; exact nS_new
  replace h := lt_i e1 h; replace h := lt_i e2 h; replace h := lt_i e3 h; clear e1 e2 e3
  refine gw.gen (fun c138 s139 ec es => ?_)
  replace hc := cnt_step hc hc0 ec; replace hs := cnt_step hs hs0 es; clear hc0 hs0 ec es
  obtain ⟨k140, h⟩ := kd_s h
  refine g_putRF (fty := .array (.int)) 19 hE kc_R k140 (Nat.le_of_ble_eq_true rfl) rfl m_396 rfl (by decide +kernel) rfl d_R_init_148 rfl rfl (fun S141 e => ?_)
  replace k137 : sK S141 a135 = 50 := by rw [← e]; exact k137
  replace k140 : sK S141 o = 10 := by rw [← e]; exact k140
  replace h := lt_i e h; clear e
  refine g_aload_n (i := 0) hE d_R_init_151 rfl rfl ?_
  refine g_bipush hE d_R_init_152 kb_32 ?_
  obtain ⟨g145, h⟩ := nl_s h
  obtain ⟨dc0, ds0, h, hc0, hs0⟩ := ac_s h
  refine g_newa (κ := 51) hE rfl (by decide) (fun _ => rfl) (fun _ _ h => h) (by decide) m_3 g145 (cnt_room hmc hc hc0) (cnt_room hms hs hs0) d_R_init_154 (fun S142 d143 a144 e1 e2 e3 => ?_)
  have k146 : sK S142 a144 = 51 := by rw [← e1, ← e3]; exact nS_new
  replace h := lt_i e1 h; replace h := lt_i e2 h; replace h := lt_i e3 h; clear e1 e2 e3
  refine gw.gen (fun c147 s148 ec es => ?_)
  replace hc := cnt_step hc hc0 ec; replace hs := cnt_step hs hs0 es; clear hc0 hs0 ec es
  obtain ⟨k149, h⟩ := kd_s h
  refine g_putRF (fty := .array (.long)) 20 hE kc_R k149 (Nat.le_of_ble_eq_true rfl) rfl m_397 rfl (by decide +kernel) rfl d_R_init_156 rfl rfl (fun S150 e => ?_)
  replace k146 : sK S150 a144 = 51 := by rw [← e]; exact k146
  replace k149 : sK S150 o = 10 := by rw [← e]; exact k149
  replace h := lt_i e h; clear e
  refine g_aload_n (i := 0) hE d_R_init_159 rfl rfl ?_
  refine g_iconst hE d_R_init_160 ki_0 ?_
  refine g_putI 21 hE kc_R k149 (Nat.le_of_ble_eq_true rfl) rfl m_398 rfl (by decide +kernel) d_R_init_161 (fun d151 e => ?_)
  replace h := lt_i e h; clear e
  refine g_aload_n (i := 0) hE d_R_init_164 rfl rfl ?_
  refine g_bipush hE d_R_init_165 kb_16 ?_
  obtain ⟨g155, h⟩ := nl_s h
  obtain ⟨dc0, ds0, h, hc0, hs0⟩ := ac_s h
  refine g_newa (κ := 50) hE rfl (by decide) (fun _ => rfl) (fun _ _ h => h) (by decide) m_9 g155 (cnt_room hmc hc hc0) (cnt_room hms hs hs0) d_R_init_167 (fun S152 d153 a154 e1 e2 e3 => ?_)
  have k156 : sK S152 a154 = 50 := by rw [← e1, ← e3]; exact nS_new
  replace h := lt_i e1 h; replace h := lt_i e2 h; replace h := lt_i e3 h; clear e1 e2 e3
  refine gw.gen (fun c157 s158 ec es => ?_)
  replace hc := cnt_step hc hc0 ec; replace hs := cnt_step hs hs0 es; clear hc0 hs0 ec es
  obtain ⟨k159, h⟩ := kd_s h
  refine g_putRF (fty := .array (.int)) 22 hE kc_R k159 (Nat.le_of_ble_eq_true rfl) rfl m_399 rfl (by decide +kernel) rfl d_R_init_169 rfl rfl (fun S160 e => ?_)
  replace k156 : sK S160 a154 = 50 := by rw [← e]; exact k156
  replace k159 : sK S160 o = 10 := by rw [← e]; exact k159
  replace h := lt_i e h; clear e
  refine g_aload_n (i := 0) hE d_R_init_172 rfl rfl ?_
  refine g_bipush hE d_R_init_173 kb_16 ?_
  obtain ⟨g164, h⟩ := nl_s h
  obtain ⟨dc0, ds0, h, hc0, hs0⟩ := ac_s h
  refine g_newa (κ := 50) hE rfl (by decide) (fun _ => rfl) (fun _ _ h => h) (by decide) m_9 g164 (cnt_room hmc hc hc0) (cnt_room hms hs hs0) d_R_init_175 (fun S161 d162 a163 e1 e2 e3 => ?_)
  have k165 : sK S161 a163 = 50 := by rw [← e1, ← e3]; exact nS_new
  replace h := lt_i e1 h; replace h := lt_i e2 h; replace h := lt_i e3 h; clear e1 e2 e3
  refine gw.gen (fun c166 s167 ec es => ?_)
  replace hc := cnt_step hc hc0 ec; replace hs := cnt_step hs hs0 es; clear hc0 hs0 ec es
  obtain ⟨k168, h⟩ := kd_s h
  refine g_putRF (fty := .array (.int)) 23 hE kc_R k168 (Nat.le_of_ble_eq_true rfl) rfl m_400 rfl (by decide +kernel) rfl d_R_init_177 rfl rfl (fun S169 e => ?_)
  replace k165 : sK S169 a163 = 50 := by rw [← e]; exact k165
  replace k168 : sK S169 o = 10 := by rw [← e]; exact k168
  replace h := lt_i e h; clear e
  refine g_aload_n (i := 0) hE d_R_init_180 rfl rfl ?_
  refine g_bipush hE d_R_init_181 kb_16 ?_
  obtain ⟨g173, h⟩ := nl_s h
  obtain ⟨dc0, ds0, h, hc0, hs0⟩ := ac_s h
  refine g_newa (κ := 50) hE rfl (by decide) (fun _ => rfl) (fun _ _ h => h) (by decide) m_9 g173 (cnt_room hmc hc hc0) (cnt_room hms hs hs0) d_R_init_183 (fun S170 d171 a172 e1 e2 e3 => ?_)
  have k174 : sK S170 a172 = 50 := by rw [← e1, ← e3]; exact nS_new
  replace h := lt_i e1 h; replace h := lt_i e2 h; replace h := lt_i e3 h; clear e1 e2 e3
  refine gw.gen (fun c175 s176 ec es => ?_)
  replace hc := cnt_step hc hc0 ec; replace hs := cnt_step hs hs0 es; clear hc0 hs0 ec es
  obtain ⟨k177, h⟩ := kd_s h
  refine g_putRF (fty := .array (.int)) 24 hE kc_R k177 (Nat.le_of_ble_eq_true rfl) rfl m_401 rfl (by decide +kernel) rfl d_R_init_185 rfl rfl (fun S178 e => ?_)
  replace k174 : sK S178 a172 = 50 := by rw [← e]; exact k174
  replace k177 : sK S178 o = 10 := by rw [← e]; exact k177
  replace h := lt_i e h; clear e
  refine g_aload_n (i := 0) hE d_R_init_188 rfl rfl ?_
  refine g_bipush hE d_R_init_189 kb_16 ?_
  obtain ⟨g182, h⟩ := nl_s h
  obtain ⟨dc0, ds0, h, hc0, hs0⟩ := ac_s h
  refine g_newa (κ := 50) hE rfl (by decide) (fun _ => rfl) (fun _ _ h => h) (by decide) m_9 g182 (cnt_room hmc hc hc0) (cnt_room hms hs hs0) d_R_init_191 (fun S179 d180 a181 e1 e2 e3 => ?_)
  have k183 : sK S179 a181 = 50 := by rw [← e1, ← e3]; exact nS_new
  replace h := lt_i e1 h; replace h := lt_i e2 h; replace h := lt_i e3 h; clear e1 e2 e3
  refine gw.gen (fun c184 s185 ec es => ?_)
  replace hc := cnt_step hc hc0 ec; replace hs := cnt_step hs hs0 es; clear hc0 hs0 ec es
  obtain ⟨k186, h⟩ := kd_s h
  refine g_putRF (fty := .array (.int)) 25 hE kc_R k186 (Nat.le_of_ble_eq_true rfl) rfl m_402 rfl (by decide +kernel) rfl d_R_init_193 rfl rfl (fun S187 e => ?_)
  replace k183 : sK S187 a181 = 50 := by rw [← e]; exact k183
  replace k186 : sK S187 o = 10 := by rw [← e]; exact k186
  replace h := lt_i e h; clear e
  refine g_aload_n (i := 0) hE d_R_init_196 rfl rfl ?_
  refine g_bipush hE d_R_init_197 kb_16 ?_
  obtain ⟨g191, h⟩ := nl_s h
  obtain ⟨dc0, ds0, h, hc0, hs0⟩ := ac_s h
  refine g_newa (κ := 50) hE rfl (by decide) (fun _ => rfl) (fun _ _ h => h) (by decide) m_9 g191 (cnt_room hmc hc hc0) (cnt_room hms hs hs0) d_R_init_199 (fun S188 d189 a190 e1 e2 e3 => ?_)
  have k192 : sK S188 a190 = 50 := by rw [← e1, ← e3]; exact nS_new
  replace h := lt_i e1 h; replace h := lt_i e2 h; replace h := lt_i e3 h; clear e1 e2 e3
  refine gw.gen (fun c193 s194 ec es => ?_)
  replace hc := cnt_step hc hc0 ec; replace hs := cnt_step hs hs0 es; clear hc0 hs0 ec es
  obtain ⟨k195, h⟩ := kd_s h
  refine g_putRF (fty := .array (.int)) 26 hE kc_R k195 (Nat.le_of_ble_eq_true rfl) rfl m_403 rfl (by decide +kernel) rfl d_R_init_201 rfl rfl (fun S196 e => ?_)
  replace k192 : sK S196 a190 = 50 := by rw [← e]; exact k192
  replace k195 : sK S196 o = 10 := by rw [← e]; exact k195
  replace h := lt_i e h; clear e
  refine g_aload_n (i := 0) hE d_R_init_204 rfl rfl ?_
  refine g_bipush hE d_R_init_205 kb_16 ?_
  obtain ⟨g200, h⟩ := nl_s h
  obtain ⟨dc0, ds0, h, hc0, hs0⟩ := ac_s h
  refine g_newa (κ := 53) hE rfl (by decide) (fun _ => rfl) (fun _ _ h => h) (by decide) m_385 g200 (cnt_room hmc hc hc0) (cnt_room hms hs hs0) d_R_init_207 (fun S197 d198 a199 e1 e2 e3 => ?_)
  have k201 : sK S197 a199 = 53 := by rw [← e1, ← e3]; exact nS_new
  replace h := lt_i e1 h; replace h := lt_i e2 h; replace h := lt_i e3 h; clear e1 e2 e3
  refine gw.gen (fun c202 s203 ec es => ?_)
  replace hc := cnt_step hc hc0 ec; replace hs := cnt_step hs hs0 es; clear hc0 hs0 ec es
  obtain ⟨k204, h⟩ := kd_s h
  refine g_putRF (fty := .array (.boolean)) 27 hE kc_R k204 (Nat.le_of_ble_eq_true rfl) rfl m_404 rfl (by decide +kernel) rfl d_R_init_209 rfl rfl (fun S205 e => ?_)
  replace k201 : sK S205 a199 = 53 := by rw [← e]; exact k201
  replace k204 : sK S205 o = 10 := by rw [← e]; exact k204
  replace h := lt_i e h; clear e
  refine g_aload_n (i := 0) hE d_R_init_212 rfl rfl ?_
  refine g_iconst hE d_R_init_213 ki_0 ?_
  refine g_putI 28 hE kc_R k204 (Nat.le_of_ble_eq_true rfl) rfl m_405 rfl (by decide +kernel) d_R_init_214 (fun d206 e => ?_)
  replace h := lt_i e h; clear e
  refine g_aload_n (i := 0) hE d_R_init_217 rfl rfl ?_
  refine g_sipush hE d_R_init_218 ks_864 ?_
  obtain ⟨g210, h⟩ := nl_s h
  obtain ⟨dc0, ds0, h, hc0, hs0⟩ := ac_s h
  refine g_newa (κ := 50) hE rfl (by decide) (fun _ => rfl) (fun _ _ h => h) (by decide) m_9 g210 (cnt_room hmc hc hc0) (cnt_room hms hs hs0) d_R_init_221 (fun S207 d208 a209 e1 e2 e3 => ?_)
  have k211 : sK S207 a209 = 50 := by rw [← e1, ← e3]; exact nS_new
  replace h := lt_i e1 h; replace h := lt_i e2 h; replace h := lt_i e3 h; clear e1 e2 e3
  refine gw.gen (fun c212 s213 ec es => ?_)
  replace hc := cnt_step hc hc0 ec; replace hs := cnt_step hs hs0 es; clear hc0 hs0 ec es
  obtain ⟨k214, h⟩ := kd_s h
  refine g_putRF (fty := .array (.int)) 29 hE kc_R k214 (Nat.le_of_ble_eq_true rfl) rfl m_406 rfl (by decide +kernel) rfl d_R_init_223 rfl rfl (fun S215 e => ?_)
  replace k211 : sK S215 a209 = 50 := by rw [← e]; exact k211
  replace k214 : sK S215 o = 10 := by rw [← e]; exact k214
  replace h := lt_i e h; clear e
  refine g_aload_n (i := 0) hE d_R_init_226 rfl rfl ?_
  refine g_bipush hE d_R_init_227 kb_12 ?_
  obtain ⟨g219, h⟩ := nl_s h
  obtain ⟨dc0, ds0, h, hc0, hs0⟩ := ac_s h
  refine g_newa (κ := 50) hE rfl (by decide) (fun _ => rfl) (fun _ _ h => h) (by decide) m_9 g219 (cnt_room hmc hc hc0) (cnt_room hms hs hs0) d_R_init_229 (fun S216 d217 a218 e1 e2 e3 => ?_)
  have k220 : sK S216 a218 = 50 := by rw [← e1, ← e3]; exact nS_new
  replace h := lt_i e1 h; replace h := lt_i e2 h; replace h := lt_i e3 h; clear e1 e2 e3
  refine gw.gen (fun c221 s222 ec es => ?_)
  replace hc := cnt_step hc hc0 ec; replace hs := cnt_step hs hs0 es; clear hc0 hs0 ec es
  obtain ⟨k223, h⟩ := kd_s h
  refine g_putRF (fty := .array (.int)) 30 hE kc_R k223 (Nat.le_of_ble_eq_true rfl) rfl m_407 rfl (by decide +kernel) rfl d_R_init_231 rfl rfl (fun S224 e => ?_)
  replace k220 : sK S224 a218 = 50 := by rw [← e]; exact k220
  replace k223 : sK S224 o = 10 := by rw [← e]; exact k223
  replace h := lt_i e h; clear e
  refine g_aload_n (i := 0) hE d_R_init_234 rfl rfl ?_
  refine g_iconst hE d_R_init_235 ki_0 ?_
  refine g_putI 31 hE kc_R k223 (Nat.le_of_ble_eq_true rfl) rfl m_408 rfl (by decide +kernel) d_R_init_236 (fun d225 e => ?_)
  replace h := lt_i e h; clear e
  refine g_aload_n (i := 0) hE d_R_init_239 rfl rfl ?_
  refine g_bipush hE d_R_init_240 kb_80 ?_
  obtain ⟨g229, h⟩ := nl_s h
  obtain ⟨dc0, ds0, h, hc0, hs0⟩ := ac_s h
  refine g_newa (κ := 50) hE rfl (by decide) (fun _ => rfl) (fun _ _ h => h) (by decide) m_9 g229 (cnt_room hmc hc hc0) (cnt_room hms hs hs0) d_R_init_242 (fun S226 d227 a228 e1 e2 e3 => ?_)
  have k230 : sK S226 a228 = 50 := by rw [← e1, ← e3]; exact nS_new
  replace h := lt_i e1 h; replace h := lt_i e2 h; replace h := lt_i e3 h; clear e1 e2 e3
  refine gw.gen (fun c231 s232 ec es => ?_)
  replace hc := cnt_step hc hc0 ec; replace hs := cnt_step hs hs0 es; clear hc0 hs0 ec es
  obtain ⟨k233, h⟩ := kd_s h
  refine g_putRF (fty := .array (.int)) 32 hE kc_R k233 (Nat.le_of_ble_eq_true rfl) rfl m_409 rfl (by decide +kernel) rfl d_R_init_244 rfl rfl (fun S234 e => ?_)
  replace k230 : sK S234 a228 = 50 := by rw [← e]; exact k230
  replace k233 : sK S234 o = 10 := by rw [← e]; exact k233
  replace h := lt_i e h; clear e
  refine g_aload_n (i := 0) hE d_R_init_247 rfl rfl ?_
  refine g_sipush hE d_R_init_248 ks_1280 ?_
  obtain ⟨g238, h⟩ := nl_s h
  obtain ⟨dc0, ds0, h, hc0, hs0⟩ := ac_s h
  refine g_newa (κ := 50) hE rfl (by decide) (fun _ => rfl) (fun _ _ h => h) (by decide) m_9 g238 (cnt_room hmc hc hc0) (cnt_room hms hs hs0) d_R_init_251 (fun S235 d236 a237 e1 e2 e3 => ?_)
  have k239 : sK S235 a237 = 50 := by rw [← e1, ← e3]; exact nS_new
  replace h := lt_i e1 h; replace h := lt_i e2 h; replace h := lt_i e3 h; clear e1 e2 e3
  refine gw.gen (fun c240 s241 ec es => ?_)
  replace hc := cnt_step hc hc0 ec; replace hs := cnt_step hs hs0 es; clear hc0 hs0 ec es
  obtain ⟨k242, h⟩ := kd_s h
  refine g_putRF (fty := .array (.int)) 33 hE kc_R k242 (Nat.le_of_ble_eq_true rfl) rfl m_410 rfl (by decide +kernel) rfl d_R_init_253 rfl rfl (fun S243 e => ?_)
  replace k239 : sK S243 a237 = 50 := by rw [← e]; exact k239
  replace k242 : sK S243 o = 10 := by rw [← e]; exact k242
  replace h := lt_i e h; clear e
  refine g_aload_n (i := 0) hE d_R_init_256 rfl rfl ?_
  refine g_bipush hE d_R_init_257 kb_80 ?_
  obtain ⟨g247, h⟩ := nl_s h
  obtain ⟨dc0, ds0, h, hc0, hs0⟩ := ac_s h
  refine g_newa (κ := 50) hE rfl (by decide) (fun _ => rfl) (fun _ _ h => h) (by decide) m_9 g247 (cnt_room hmc hc hc0) (cnt_room hms hs hs0) d_R_init_259 (fun S244 d245 a246 e1 e2 e3 => ?_)
  have k248 : sK S244 a246 = 50 := by rw [← e1, ← e3]; exact nS_new
  replace h := lt_i e1 h; replace h := lt_i e2 h; replace h := lt_i e3 h; clear e1 e2 e3
  refine gw.gen (fun c249 s250 ec es => ?_)
  replace hc := cnt_step hc hc0 ec; replace hs := cnt_step hs hs0 es; clear hc0 hs0 ec es
  obtain ⟨k251, h⟩ := kd_s h
  refine g_putRF (fty := .array (.int)) 34 hE kc_R k251 (Nat.le_of_ble_eq_true rfl) rfl m_411 rfl (by decide +kernel) rfl d_R_init_261 rfl rfl (fun S252 e => ?_)
  replace k248 : sK S252 a246 = 50 := by rw [← e]; exact k248
  replace k251 : sK S252 o = 10 := by rw [← e]; exact k251
  replace h := lt_i e h; clear e
  refine g_aload_n (i := 0) hE d_R_init_264 rfl rfl ?_
  refine g_bipush hE d_R_init_265 kb_16 ?_
  obtain ⟨g256, h⟩ := nl_s h
  obtain ⟨dc0, ds0, h, hc0, hs0⟩ := ac_s h
  refine g_newa (κ := 50) hE rfl (by decide) (fun _ => rfl) (fun _ _ h => h) (by decide) m_9 g256 (cnt_room hmc hc hc0) (cnt_room hms hs hs0) d_R_init_267 (fun S253 d254 a255 e1 e2 e3 => ?_)
  have k257 : sK S253 a255 = 50 := by rw [← e1, ← e3]; exact nS_new
  replace h := lt_i e1 h; replace h := lt_i e2 h; replace h := lt_i e3 h; clear e1 e2 e3
  refine gw.gen (fun c258 s259 ec es => ?_)
  replace hc := cnt_step hc hc0 ec; replace hs := cnt_step hs hs0 es; clear hc0 hs0 ec es
  obtain ⟨k260, h⟩ := kd_s h
  refine g_putRF (fty := .array (.int)) 35 hE kc_R k260 (Nat.le_of_ble_eq_true rfl) rfl m_412 rfl (by decide +kernel) rfl d_R_init_269 rfl rfl (fun S261 e => ?_)
  replace k257 : sK S261 a255 = 50 := by rw [← e]; exact k257
  replace k260 : sK S261 o = 10 := by rw [← e]; exact k260
  replace h := lt_i e h; clear e
  refine g_aload_n (i := 0) hE d_R_init_272 rfl rfl ?_
  refine g_bipush hE d_R_init_273 kb_80 ?_
  obtain ⟨g265, h⟩ := nl_s h
  obtain ⟨dc0, ds0, h, hc0, hs0⟩ := ac_s h
  refine g_newa (κ := 50) hE rfl (by decide) (fun _ => rfl) (fun _ _ h => h) (by decide) m_9 g265 (cnt_room hmc hc hc0) (cnt_room hms hs hs0) d_R_init_275 (fun S262 d263 a264 e1 e2 e3 => ?_)
  have k266 : sK S262 a264 = 50 := by rw [← e1, ← e3]; exact nS_new
  replace h := lt_i e1 h; replace h := lt_i e2 h; replace h := lt_i e3 h; clear e1 e2 e3
  refine gw.gen (fun c267 s268 ec es => ?_)
  replace hc := cnt_step hc hc0 ec; replace hs := cnt_step hs hs0 es; clear hc0 hs0 ec es
  obtain ⟨k269, h⟩ := kd_s h
  refine g_putRF (fty := .array (.int)) 36 hE kc_R k269 (Nat.le_of_ble_eq_true rfl) rfl m_413 rfl (by decide +kernel) rfl d_R_init_277 rfl rfl (fun S270 e => ?_)
  replace k266 : sK S270 a264 = 50 := by rw [← e]; exact k266
  replace k269 : sK S270 o = 10 := by rw [← e]; exact k269
  replace h := lt_i e h; clear e
  refine g_aload_n (i := 0) hE d_R_init_280 rfl rfl ?_
  refine g_iconst hE d_R_init_281 ki_0 ?_
  refine g_putI 37 hE kc_R k269 (Nat.le_of_ble_eq_true rfl) rfl m_414 rfl (by decide +kernel) d_R_init_282 (fun d271 e => ?_)
  replace h := lt_i e h; clear e
  refine g_aload_n (i := 0) hE d_R_init_285 rfl rfl ?_
  refine g_bipush hE d_R_init_286 kb_16 ?_
  obtain ⟨g275, h⟩ := nl_s h
  obtain ⟨dc0, ds0, h, hc0, hs0⟩ := ac_s h
  refine g_newa (κ := 50) hE rfl (by decide) (fun _ => rfl) (fun _ _ h => h) (by decide) m_9 g275 (cnt_room hmc hc hc0) (cnt_room hms hs hs0) d_R_init_288 (fun S272 d273 a274 e1 e2 e3 => ?_)
  have k276 : sK S272 a274 = 50 := by rw [← e1, ← e3]; exact nS_new
  replace h := lt_i e1 h; replace h := lt_i e2 h; replace h := lt_i e3 h; clear e1 e2 e3
  refine gw.gen (fun c277 s278 ec es => ?_)
  replace hc := cnt_step hc hc0 ec; replace hs := cnt_step hs hs0 es; clear hc0 hs0 ec es
  obtain ⟨k279, h⟩ := kd_s h
  refine g_putRF (fty := .array (.int)) 38 hE kc_R k279 (Nat.le_of_ble_eq_true rfl) rfl m_415 rfl (by decide +kernel) rfl d_R_init_290 rfl rfl (fun S280 e => ?_)
  replace k276 : sK S280 a274 = 50 := by rw [← e]; exact k276
  replace k279 : sK S280 o = 10 := by rw [← e]; exact k279
  replace h := lt_i e h; clear e
  refine g_aload_n (i := 0) hE d_R_init_293 rfl rfl ?_
  refine g_sipush hE d_R_init_294 ks_3600 ?_
  obtain ⟨g284, h⟩ := nl_s h
  obtain ⟨dc0, ds0, h, hc0, hs0⟩ := ac_s h
  refine g_newa (κ := 50) hE rfl (by decide) (fun _ => rfl) (fun _ _ h => h) (by decide) m_9 g284 (cnt_room hmc hc hc0) (cnt_room hms hs hs0) d_R_init_297 (fun S281 d282 a283 e1 e2 e3 => ?_)
  have k285 : sK S281 a283 = 50 := by rw [← e1, ← e3]; exact nS_new
  replace h := lt_i e1 h; replace h := lt_i e2 h; replace h := lt_i e3 h; clear e1 e2 e3
  refine gw.gen (fun c286 s287 ec es => ?_)
  replace hc := cnt_step hc hc0 ec; replace hs := cnt_step hs hs0 es; clear hc0 hs0 ec es
  obtain ⟨k288, h⟩ := kd_s h
  refine g_putRF (fty := .array (.int)) 39 hE kc_R k288 (Nat.le_of_ble_eq_true rfl) rfl m_416 rfl (by decide +kernel) rfl d_R_init_299 rfl rfl (fun S289 e => ?_)
  replace k285 : sK S289 a283 = 50 := by rw [← e]; exact k285
  replace k288 : sK S289 o = 10 := by rw [← e]; exact k288
  replace h := lt_i e h; clear e
  refine g_aload_n (i := 0) hE d_R_init_302 rfl rfl ?_
  refine g_iconst hE d_R_init_303 ki_0 ?_
  refine g_putI 40 hE kc_R k288 (Nat.le_of_ble_eq_true rfl) rfl m_417 rfl (by decide +kernel) d_R_init_304 (fun d290 e => ?_)
  replace h := lt_i e h; clear e
  refine g_aload_n (i := 0) hE d_R_init_307 rfl rfl ?_
  refine g_sipush hE d_R_init_308 ks_768 ?_
  obtain ⟨g294, h⟩ := nl_s h
  obtain ⟨dc0, ds0, h, hc0, hs0⟩ := ac_s h
  refine g_newa (κ := 50) hE rfl (by decide) (fun _ => rfl) (fun _ _ h => h) (by decide) m_9 g294 (cnt_room hmc hc hc0) (cnt_room hms hs hs0) d_R_init_311 (fun S291 d292 a293 e1 e2 e3 => ?_)
  have k295 : sK S291 a293 = 50 := by rw [← e1, ← e3]; exact nS_new
  replace h := lt_i e1 h; replace h := lt_i e2 h; replace h := lt_i e3 h; clear e1 e2 e3
  refine gw.gen (fun c296 s297 ec es => ?_)
  replace hc := cnt_step hc hc0 ec; replace hs := cnt_step hs hs0 es; clear hc0 hs0 ec es
  obtain ⟨k298, h⟩ := kd_s h
  refine g_putRF (fty := .array (.int)) 41 hE kc_R k298 (Nat.le_of_ble_eq_true rfl) rfl m_418 rfl (by decide +kernel) rfl d_R_init_313 rfl rfl (fun S299 e => ?_)
  replace k295 : sK S299 a293 = 50 := by rw [← e]; exact k295
  replace k298 : sK S299 o = 10 := by rw [← e]; exact k298
  replace h := lt_i e h; clear e
  refine g_aload_n (i := 0) hE d_R_init_316 rfl rfl ?_
  refine g_iconst hE d_R_init_317 ki_0 ?_
  refine g_putI 42 hE kc_R k298 (Nat.le_of_ble_eq_true rfl) rfl m_419 rfl (by decide +kernel) d_R_init_318 (fun d300 e => ?_)
  replace h := lt_i e h; clear e
  refine g_aload_n (i := 0) hE d_R_init_321 rfl rfl ?_
  refine g_ldc2 hE d_R_init_322 m_420 ?_
  refine g_putL 43 hE kc_R k298 (Nat.le_of_ble_eq_true rfl) rfl m_421 rfl (by decide +kernel) d_R_init_325 (fun d301 e => ?_)
  replace h := lt_i e h; clear e
  refine g_aload_n (i := 0) hE d_R_init_328 rfl rfl ?_
  refine g_bipush hE d_R_init_329 kb_9 ?_
  obtain ⟨g305, h⟩ := nl_s h
  obtain ⟨dc0, ds0, h, hc0, hs0⟩ := ac_s h
  refine g_newa (κ := 51) hE rfl (by decide) (fun _ => rfl) (fun _ _ h => h) (by decide) m_3 g305 (cnt_room hmc hc hc0) (cnt_room hms hs hs0) d_R_init_331 (fun S302 d303 a304 e1 e2 e3 => ?_)
  have k306 : sK S302 a304 = 51 := by rw [← e1, ← e3]; exact nS_new
  replace h := lt_i e1 h; replace h := lt_i e2 h; replace h := lt_i e3 h; clear e1 e2 e3
  refine gw.gen (fun c307 s308 ec es => ?_)
  replace hc := cnt_step hc hc0 ec; replace hs := cnt_step hs hs0 es; clear hc0 hs0 ec es
  obtain ⟨k309, h⟩ := kd_s h
  refine g_putRF (fty := .array (.long)) 44 hE kc_R k309 (Nat.le_of_ble_eq_true rfl) rfl m_422 rfl (by decide +kernel) rfl d_R_init_333 rfl rfl (fun S310 e => ?_)
  replace k306 : sK S310 a304 = 51 := by rw [← e]; exact k306
  replace k309 : sK S310 o = 10 := by rw [← e]; exact k309
  replace h := lt_i e h; clear e
  refine g_aload_n (i := 0) hE d_R_init_336 rfl rfl ?_
  refine g_iconst hE d_R_init_337 ki_3 ?_
  obtain ⟨g314, h⟩ := nl_s h
  obtain ⟨dc0, ds0, h, hc0, hs0⟩ := ac_s h
  refine g_newa (κ := 50) hE rfl (by decide) (fun _ => rfl) (fun _ _ h => h) (by decide) m_9 g314 (cnt_room hmc hc hc0) (cnt_room hms hs hs0) d_R_init_338 (fun S311 d312 a313 e1 e2 e3 => ?_)
  have k315 : sK S311 a313 = 50 := by rw [← e1, ← e3]; exact nS_new
  replace h := lt_i e1 h; replace h := lt_i e2 h; replace h := lt_i e3 h; clear e1 e2 e3
  refine gw.gen (fun c316 s317 ec es => ?_)
  replace hc := cnt_step hc hc0 ec; replace hs := cnt_step hs hs0 es; clear hc0 hs0 ec es
  obtain ⟨k318, h⟩ := kd_s h
  refine g_putRF (fty := .array (.int)) 45 hE kc_R k318 (Nat.le_of_ble_eq_true rfl) rfl m_423 rfl (by decide +kernel) rfl d_R_init_340 rfl rfl (fun S319 e => ?_)
  replace k315 : sK S319 a313 = 50 := by rw [← e]; exact k315
  replace k318 : sK S319 o = 10 := by rw [← e]; exact k318
  replace h := lt_i e h; clear e
  refine g_aload_n (i := 0) hE d_R_init_343 rfl rfl ?_
  refine g_iconst hE d_R_init_344 ki_3 ?_
  obtain ⟨g323, h⟩ := nl_s h
  obtain ⟨dc0, ds0, h, hc0, hs0⟩ := ac_s h
  refine g_newa (κ := 51) hE rfl (by decide) (fun _ => rfl) (fun _ _ h => h) (by decide) m_3 g323 (cnt_room hmc hc hc0) (cnt_room hms hs hs0) d_R_init_345 (fun S320 d321 a322 e1 e2 e3 => ?_)
  have k324 : sK S320 a322 = 51 := by rw [← e1, ← e3]; exact nS_new
  replace h := lt_i e1 h; replace h := lt_i e2 h; replace h := lt_i e3 h; clear e1 e2 e3
  refine gw.gen (fun c325 s326 ec es => ?_)
  replace hc := cnt_step hc hc0 ec; replace hs := cnt_step hs hs0 es; clear hc0 hs0 ec es
  obtain ⟨k327, h⟩ := kd_s h
  refine g_putRF (fty := .array (.long)) 46 hE kc_R k327 (Nat.le_of_ble_eq_true rfl) rfl m_424 rfl (by decide +kernel) rfl d_R_init_347 rfl rfl (fun S328 e => ?_)
  replace k324 : sK S328 a322 = 51 := by rw [← e]; exact k324
  replace k327 : sK S328 o = 10 := by rw [← e]; exact k327
  replace h := lt_i e h; clear e
  refine g_aload_n (i := 0) hE d_R_init_350 rfl rfl ?_
  refine g_getR 4 hE kc_R k327 (Nat.le_of_ble_eq_true rfl) rfl m_380 d_R_init_351 (fun x329 e => ?_)
  replace h := lt_i e h; clear e
  refine g_bipush hE d_R_init_354 kb_8 ?_
  refine g_bipush hE d_R_init_356 kb_7 ?_
  obtain ⟨a330, rfl, h⟩ := nn_s h
  obtain ⟨k331, h⟩ := kd_s h
  obtain ⟨g332, h⟩ := gi_s h
  refine g_iast hE k331 g332 d_R_init_358 (fun d333 e => ?_)
  replace h := lt_i e h; clear e
  refine g_aload_n (i := 0) hE d_R_init_359 rfl rfl ?_
  refine g_getR 4 hE kc_R k327 (Nat.le_of_ble_eq_true rfl) rfl m_380 d_R_init_360 (fun x334 e => ?_)
  replace h := lt_i e h; clear e
  refine g_bipush hE d_R_init_363 kb_9 ?_
  refine g_bipush hE d_R_init_365 kb_8 ?_
  obtain ⟨a335, rfl, h⟩ := nn_s h
  obtain ⟨k336, h⟩ := kd_s h
  obtain ⟨g337, h⟩ := gi_s h
  refine g_iast hE k336 g337 d_R_init_367 (fun d338 e => ?_)
  replace h := lt_i e h; clear e
  refine g_aload_n (i := 0) hE d_R_init_368 rfl rfl ?_
  refine g_getR 4 hE kc_R k327 (Nat.le_of_ble_eq_true rfl) rfl m_380 d_R_init_369 (fun x339 e => ?_)
  replace h := lt_i e h; clear e
  refine g_bipush hE d_R_init_372 kb_10 ?_
  refine g_bipush hE d_R_init_374 kb_8 ?_
  obtain ⟨a340, rfl, h⟩ := nn_s h
  obtain ⟨k341, h⟩ := kd_s h
  obtain ⟨g342, h⟩ := gi_s h
  refine g_iast hE k341 g342 d_R_init_376 (fun d343 e => ?_)
  replace h := lt_i e h; clear e
  refine g_aload_n (i := 0) hE d_R_init_377 rfl rfl ?_
  refine g_getR 13 hE kc_R k327 (Nat.le_of_ble_eq_true rfl) rfl m_390 d_R_init_378 (fun x344 e => ?_)
  replace h := lt_i e h; clear e
  refine g_bipush hE d_R_init_381 kb_72 ?_
  refine g_bipush hE d_R_init_383 kb_26 ?_
  obtain ⟨a345, rfl, h⟩ := nn_s h
  obtain ⟨k346, h⟩ := kd_s h
  obtain ⟨g347, h⟩ := gi_s h
  refine g_iast hE k346 g347 d_R_init_385 (fun d348 e => ?_)
  replace h := lt_i e h; clear e
  refine g_aload_n (i := 0) hE d_R_init_386 rfl rfl ?_
  refine g_getR 14 hE kc_R k327 (Nat.le_of_ble_eq_true rfl) rfl m_391 d_R_init_387 (fun x349 e => ?_)
  replace h := lt_i e h; clear e
  refine g_bipush hE d_R_init_390 kb_72 ?_
  refine g_iconst hE d_R_init_392 ki_5 ?_
  obtain ⟨a350, rfl, h⟩ := nn_s h
  obtain ⟨k351, h⟩ := kd_s h
  obtain ⟨g352, h⟩ := gi_s h
  refine g_iast hE k351 g352 d_R_init_393 (fun d353 e => ?_)
  replace h := lt_i e h; clear e
  refine g_aload_n (i := 0) hE d_R_init_394 rfl rfl ?_
  refine g_getR 13 hE kc_R k327 (Nat.le_of_ble_eq_true rfl) rfl m_390 d_R_init_395 (fun x354 e => ?_)
  replace h := lt_i e h; clear e
  refine g_bipush hE d_R_init_398 kb_73 ?_
  refine g_bipush hE d_R_init_400 kb_27 ?_
  obtain ⟨a355, rfl, h⟩ := nn_s h
  obtain ⟨k356, h⟩ := kd_s h
  obtain ⟨g357, h⟩ := gi_s h
  refine g_iast hE k356 g357 d_R_init_402 (fun d358 e => ?_)
  replace h := lt_i e h; clear e
  refine g_aload_n (i := 0) hE d_R_init_403 rfl rfl ?_
  refine g_getR 14 hE kc_R k327 (Nat.le_of_ble_eq_true rfl) rfl m_391 d_R_init_404 (fun x359 e => ?_)
  replace h := lt_i e h; clear e
  refine g_bipush hE d_R_init_407 kb_73 ?_
  refine g_iconst hE d_R_init_409 ki_1 ?_
  obtain ⟨a360, rfl, h⟩ := nn_s h
  obtain ⟨k361, h⟩ := kd_s h
  obtain ⟨g362, h⟩ := gi_s h
  refine g_iast hE k361 g362 d_R_init_410 (fun d363 e => ?_)
  replace h := lt_i e h; clear e
  refine g_aload_n (i := 0) hE d_R_init_411 rfl rfl ?_
  refine g_getR 15 hE kc_R k327 (Nat.le_of_ble_eq_true rfl) rfl m_392 d_R_init_412 (fun x364 e => ?_)
  replace h := lt_i e h; clear e
  refine g_sipush hE d_R_init_415 ks_219 ?_
  refine g_bipush hE d_R_init_418 kb_7 ?_
  obtain ⟨a365, rfl, h⟩ := nn_s h
  obtain ⟨k366, h⟩ := kd_s h
  obtain ⟨g367, h⟩ := gi_s h
  refine g_iast hE k366 g367 d_R_init_420 (fun d368 e => ?_)
  replace h := lt_i e h; clear e
  refine g_aload_n (i := 0) hE d_R_init_421 rfl rfl ?_
  refine g_getR 13 hE kc_R k327 (Nat.le_of_ble_eq_true rfl) rfl m_390 d_R_init_422 (fun x369 e => ?_)
  replace h := lt_i e h; clear e
  refine g_bipush hE d_R_init_425 kb_74 ?_
  refine g_bipush hE d_R_init_427 kb_28 ?_
  obtain ⟨a370, rfl, h⟩ := nn_s h
  obtain ⟨k371, h⟩ := kd_s h
  obtain ⟨g372, h⟩ := gi_s h
  refine g_iast hE k371 g372 d_R_init_429 (fun d373 e => ?_)
  replace h := lt_i e h; clear e
  refine g_aload_n (i := 0) hE d_R_init_430 rfl rfl ?_
  refine g_getR 14 hE kc_R k327 (Nat.le_of_ble_eq_true rfl) rfl m_391 d_R_init_431 (fun x374 e => ?_)
  replace h := lt_i e h; clear e
  refine g_bipush hE d_R_init_434 kb_74 ?_
  refine g_bipush hE d_R_init_436 kb_7 ?_
  obtain ⟨a375, rfl, h⟩ := nn_s h
  obtain ⟨k376, h⟩ := kd_s h
  obtain ⟨g377, h⟩ := gi_s h
  refine g_iast hE k376 g377 d_R_init_438 (fun d378 e => ?_)
  replace h := lt_i e h; clear e
  refine g_iconst hE d_R_init_439 ki_0 ?_
  refine g_istore_n (i := 1) (lv' := [some (va_rf (some o)), some (.int 0)]) hE d_R_init_440 rfl (Nat.le_of_ble_eq_true rfl) ⟨rfl, Nat.le_of_ble_eq_true rfl⟩ (lvp_r rfl) ?_
  exact gw.less (lv' := [some (va_rf (some o)), some (.int 0)]) (And.intro rfl (And.intro rfl trivial)) (w_R_init_L441 hE hmc hms (w_R_init_J462 hE hmc hms) fu _ _ _ _ S328 d378 0 h hc hs)
