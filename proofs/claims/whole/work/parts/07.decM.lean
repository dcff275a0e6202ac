abbrev b_Mod_init : ByteArray := prog_13_method_1_code
def y_Mod_init : MethodName := ⟨"WallDampModel", "<init>", "(I)V"⟩
def ws_Mod_init : List Cond := .code y_Mod_init b_Mod_init 3 none :: x_tb
theorem pd_Mod_init : y_Mod_init.cls ≠ "java/lang/invoke/MethodHandle" ∧ y_Mod_init.cls ≠ "java/lang/invoke/VarHandle" ∧ (parseMethodDescriptor y_Mod_init.desc).map (fun d => d.parameters.length) = some 1 := by decide +kernel
theorem d_Mod_init_0 : decode b_Mod_init 0 = .ok (.aload_n 0, 1) := by decide +kernel
theorem d_Mod_init_1 : decode b_Mod_init 1 = .ok (.invokespecial 1, 3) := by decide +kernel
theorem d_Mod_init_4 : decode b_Mod_init 4 = .ok (.aload_n 0, 1) := by decide +kernel
theorem d_Mod_init_5 : decode b_Mod_init 5 = .ok (.bipush 6, 2) := by decide +kernel
theorem d_Mod_init_7 : decode b_Mod_init 7 = .ok (.newarray .int, 2) := by decide +kernel
theorem d_Mod_init_9 : decode b_Mod_init 9 = .ok (.putfield 7, 3) := by decide +kernel
theorem d_Mod_init_12 : decode b_Mod_init 12 = .ok (.aload_n 0, 1) := by decide +kernel
theorem d_Mod_init_13 : decode b_Mod_init 13 = .ok (.bipush 42, 2) := by decide +kernel
theorem d_Mod_init_15 : decode b_Mod_init 15 = .ok (.newarray .int, 2) := by decide +kernel
theorem d_Mod_init_17 : decode b_Mod_init 17 = .ok (.putfield 13, 3) := by decide +kernel
theorem d_Mod_init_20 : decode b_Mod_init 20 = .ok (.aload_n 0, 1) := by decide +kernel
theorem d_Mod_init_21 : decode b_Mod_init 21 = .ok (.bipush 42, 2) := by decide +kernel
theorem d_Mod_init_23 : decode b_Mod_init 23 = .ok (.newarray .int, 2) := by decide +kernel
theorem d_Mod_init_25 : decode b_Mod_init 25 = .ok (.putfield 16, 3) := by decide +kernel
theorem d_Mod_init_28 : decode b_Mod_init 28 = .ok (.aload_n 0, 1) := by decide +kernel
theorem d_Mod_init_29 : decode b_Mod_init 29 = .ok (.bipush 6, 2) := by decide +kernel
theorem d_Mod_init_31 : decode b_Mod_init 31 = .ok (.newarray .int, 2) := by decide +kernel
theorem d_Mod_init_33 : decode b_Mod_init 33 = .ok (.putfield 19, 3) := by decide +kernel
theorem d_Mod_init_36 : decode b_Mod_init 36 = .ok (.aload_n 0, 1) := by decide +kernel
theorem d_Mod_init_37 : decode b_Mod_init 37 = .ok (.bipush 6, 2) := by decide +kernel
theorem d_Mod_init_39 : decode b_Mod_init 39 = .ok (.newarray .int, 2) := by decide +kernel
theorem d_Mod_init_41 : decode b_Mod_init 41 = .ok (.putfield 22, 3) := by decide +kernel
theorem d_Mod_init_44 : decode b_Mod_init 44 = .ok (.aload_n 0, 1) := by decide +kernel
theorem d_Mod_init_45 : decode b_Mod_init 45 = .ok (.bipush 6, 2) := by decide +kernel
theorem d_Mod_init_47 : decode b_Mod_init 47 = .ok (.newarray .int, 2) := by decide +kernel
theorem d_Mod_init_49 : decode b_Mod_init 49 = .ok (.putfield 25, 3) := by decide +kernel
theorem d_Mod_init_52 : decode b_Mod_init 52 = .ok (.aload_n 0, 1) := by decide +kernel
theorem d_Mod_init_53 : decode b_Mod_init 53 = .ok (.bipush 12, 2) := by decide +kernel
theorem d_Mod_init_55 : decode b_Mod_init 55 = .ok (.newarray .int, 2) := by decide +kernel
theorem d_Mod_init_57 : decode b_Mod_init 57 = .ok (.putfield 28, 3) := by decide +kernel
theorem d_Mod_init_60 : decode b_Mod_init 60 = .ok (.aload_n 0, 1) := by decide +kernel
theorem d_Mod_init_61 : decode b_Mod_init 61 = .ok (.bipush 12, 2) := by decide +kernel
theorem d_Mod_init_63 : decode b_Mod_init 63 = .ok (.newarray .int, 2) := by decide +kernel
theorem d_Mod_init_65 : decode b_Mod_init 65 = .ok (.putfield 31, 3) := by decide +kernel
theorem d_Mod_init_68 : decode b_Mod_init 68 = .ok (.aload_n 0, 1) := by decide +kernel
theorem d_Mod_init_69 : decode b_Mod_init 69 = .ok (.bipush 12, 2) := by decide +kernel
theorem d_Mod_init_71 : decode b_Mod_init 71 = .ok (.newarray .long, 2) := by decide +kernel
theorem d_Mod_init_73 : decode b_Mod_init 73 = .ok (.putfield 34, 3) := by decide +kernel
theorem d_Mod_init_76 : decode b_Mod_init 76 = .ok (.aload_n 0, 1) := by decide +kernel
theorem d_Mod_init_77 : decode b_Mod_init 77 = .ok (.bipush 12, 2) := by decide +kernel
theorem d_Mod_init_79 : decode b_Mod_init 79 = .ok (.newarray .int, 2) := by decide +kernel
theorem d_Mod_init_81 : decode b_Mod_init 81 = .ok (.putfield 38, 3) := by decide +kernel
theorem d_Mod_init_84 : decode b_Mod_init 84 = .ok (.aload_n 0, 1) := by decide +kernel
theorem d_Mod_init_85 : decode b_Mod_init 85 = .ok (.bipush 12, 2) := by decide +kernel
theorem d_Mod_init_87 : decode b_Mod_init 87 = .ok (.newarray .int, 2) := by decide +kernel
theorem d_Mod_init_89 : decode b_Mod_init 89 = .ok (.putfield 41, 3) := by decide +kernel
theorem d_Mod_init_92 : decode b_Mod_init 92 = .ok (.aload_n 0, 1) := by decide +kernel
theorem d_Mod_init_93 : decode b_Mod_init 93 = .ok (.bipush 12, 2) := by decide +kernel
theorem d_Mod_init_95 : decode b_Mod_init 95 = .ok (.newarray .int, 2) := by decide +kernel
theorem d_Mod_init_97 : decode b_Mod_init 97 = .ok (.putfield 44, 3) := by decide +kernel
theorem d_Mod_init_100 : decode b_Mod_init 100 = .ok (.aload_n 0, 1) := by decide +kernel
theorem d_Mod_init_101 : decode b_Mod_init 101 = .ok (.bipush 12, 2) := by decide +kernel
theorem d_Mod_init_103 : decode b_Mod_init 103 = .ok (.newarray .boolean, 2) := by decide +kernel
theorem d_Mod_init_105 : decode b_Mod_init 105 = .ok (.putfield 47, 3) := by decide +kernel
theorem d_Mod_init_108 : decode b_Mod_init 108 = .ok (.aload_n 0, 1) := by decide +kernel
theorem d_Mod_init_109 : decode b_Mod_init 109 = .ok (.bipush 12, 2) := by decide +kernel
theorem d_Mod_init_111 : decode b_Mod_init 111 = .ok (.newarray .int, 2) := by decide +kernel
theorem d_Mod_init_113 : decode b_Mod_init 113 = .ok (.putfield 51, 3) := by decide +kernel
theorem d_Mod_init_116 : decode b_Mod_init 116 = .ok (.aload_n 0, 1) := by decide +kernel
theorem d_Mod_init_117 : decode b_Mod_init 117 = .ok (.bipush 8, 2) := by decide +kernel
theorem d_Mod_init_119 : decode b_Mod_init 119 = .ok (.newarray .int, 2) := by decide +kernel
theorem d_Mod_init_121 : decode b_Mod_init 121 = .ok (.putfield 54, 3) := by decide +kernel
theorem d_Mod_init_124 : decode b_Mod_init 124 = .ok (.aload_n 0, 1) := by decide +kernel
theorem d_Mod_init_125 : decode b_Mod_init 125 = .ok (.bipush 8, 2) := by decide +kernel
theorem d_Mod_init_127 : decode b_Mod_init 127 = .ok (.newarray .int, 2) := by decide +kernel
theorem d_Mod_init_129 : decode b_Mod_init 129 = .ok (.putfield 57, 3) := by decide +kernel
theorem d_Mod_init_132 : decode b_Mod_init 132 = .ok (.aload_n 0, 1) := by decide +kernel
theorem d_Mod_init_133 : decode b_Mod_init 133 = .ok (.bipush 10, 2) := by decide +kernel
theorem d_Mod_init_135 : decode b_Mod_init 135 = .ok (.putfield 60, 3) := by decide +kernel
theorem d_Mod_init_138 : decode b_Mod_init 138 = .ok (.aload_n 0, 1) := by decide +kernel
theorem d_Mod_init_139 : decode b_Mod_init 139 = .ok (.bipush 10, 2) := by decide +kernel
theorem d_Mod_init_141 : decode b_Mod_init 141 = .ok (.putfield 64, 3) := by decide +kernel
theorem d_Mod_init_144 : decode b_Mod_init 144 = .ok (.aload_n 0, 1) := by decide +kernel
theorem d_Mod_init_145 : decode b_Mod_init 145 = .ok (.bipush 24, 2) := by decide +kernel
theorem d_Mod_init_147 : decode b_Mod_init 147 = .ok (.newarray .int, 2) := by decide +kernel
theorem d_Mod_init_149 : decode b_Mod_init 149 = .ok (.putfield 67, 3) := by decide +kernel
theorem d_Mod_init_152 : decode b_Mod_init 152 = .ok (.aload_n 0, 1) := by decide +kernel
theorem d_Mod_init_153 : decode b_Mod_init 153 = .ok (.bipush 24, 2) := by decide +kernel
theorem d_Mod_init_155 : decode b_Mod_init 155 = .ok (.newarray .int, 2) := by decide +kernel
theorem d_Mod_init_157 : decode b_Mod_init 157 = .ok (.putfield 70, 3) := by decide +kernel
theorem d_Mod_init_160 : decode b_Mod_init 160 = .ok (.aload_n 0, 1) := by decide +kernel
theorem d_Mod_init_161 : decode b_Mod_init 161 = .ok (.bipush 24, 2) := by decide +kernel
theorem d_Mod_init_163 : decode b_Mod_init 163 = .ok (.newarray .int, 2) := by decide +kernel
theorem d_Mod_init_165 : decode b_Mod_init 165 = .ok (.putfield 73, 3) := by decide +kernel
theorem d_Mod_init_168 : decode b_Mod_init 168 = .ok (.aload_n 0, 1) := by decide +kernel
theorem d_Mod_init_169 : decode b_Mod_init 169 = .ok (.bipush 24, 2) := by decide +kernel
theorem d_Mod_init_171 : decode b_Mod_init 171 = .ok (.newarray .int, 2) := by decide +kernel
theorem d_Mod_init_173 : decode b_Mod_init 173 = .ok (.putfield 76, 3) := by decide +kernel
theorem d_Mod_init_176 : decode b_Mod_init 176 = .ok (.aload_n 0, 1) := by decide +kernel
theorem d_Mod_init_177 : decode b_Mod_init 177 = .ok (.bipush 24, 2) := by decide +kernel
theorem d_Mod_init_179 : decode b_Mod_init 179 = .ok (.newarray .int, 2) := by decide +kernel
theorem d_Mod_init_181 : decode b_Mod_init 181 = .ok (.putfield 79, 3) := by decide +kernel
theorem d_Mod_init_184 : decode b_Mod_init 184 = .ok (.aload_n 0, 1) := by decide +kernel
theorem d_Mod_init_185 : decode b_Mod_init 185 = .ok (.bipush 24, 2) := by decide +kernel
theorem d_Mod_init_187 : decode b_Mod_init 187 = .ok (.newarray .int, 2) := by decide +kernel
theorem d_Mod_init_189 : decode b_Mod_init 189 = .ok (.putfield 82, 3) := by decide +kernel
theorem d_Mod_init_192 : decode b_Mod_init 192 = .ok (.aload_n 0, 1) := by decide +kernel
theorem d_Mod_init_193 : decode b_Mod_init 193 = .ok (.bipush 6, 2) := by decide +kernel
theorem d_Mod_init_195 : decode b_Mod_init 195 = .ok (.newarray .int, 2) := by decide +kernel
theorem d_Mod_init_197 : decode b_Mod_init 197 = .ok (.putfield 85, 3) := by decide +kernel
theorem d_Mod_init_200 : decode b_Mod_init 200 = .ok (.aload_n 0, 1) := by decide +kernel
theorem d_Mod_init_201 : decode b_Mod_init 201 = .ok (.bipush 6, 2) := by decide +kernel
theorem d_Mod_init_203 : decode b_Mod_init 203 = .ok (.newarray .int, 2) := by decide +kernel
theorem d_Mod_init_205 : decode b_Mod_init 205 = .ok (.putfield 88, 3) := by decide +kernel
theorem d_Mod_init_208 : decode b_Mod_init 208 = .ok (.aload_n 0, 1) := by decide +kernel
theorem d_Mod_init_209 : decode b_Mod_init 209 = .ok (.bipush 6, 2) := by decide +kernel
theorem d_Mod_init_211 : decode b_Mod_init 211 = .ok (.newarray .int, 2) := by decide +kernel
theorem d_Mod_init_213 : decode b_Mod_init 213 = .ok (.putfield 91, 3) := by decide +kernel
theorem d_Mod_init_216 : decode b_Mod_init 216 = .ok (.aload_n 0, 1) := by decide +kernel
theorem d_Mod_init_217 : decode b_Mod_init 217 = .ok (.bipush 6, 2) := by decide +kernel
theorem d_Mod_init_219 : decode b_Mod_init 219 = .ok (.newarray .int, 2) := by decide +kernel
theorem d_Mod_init_221 : decode b_Mod_init 221 = .ok (.putfield 94, 3) := by decide +kernel
theorem d_Mod_init_224 : decode b_Mod_init 224 = .ok (.aload_n 0, 1) := by decide +kernel
theorem d_Mod_init_225 : decode b_Mod_init 225 = .ok (.bipush 12, 2) := by decide +kernel
theorem d_Mod_init_227 : decode b_Mod_init 227 = .ok (.newarray .long, 2) := by decide +kernel
theorem d_Mod_init_229 : decode b_Mod_init 229 = .ok (.putfield 97, 3) := by decide +kernel
theorem d_Mod_init_232 : decode b_Mod_init 232 = .ok (.aload_n 0, 1) := by decide +kernel
theorem d_Mod_init_233 : decode b_Mod_init 233 = .ok (.bipush 12, 2) := by decide +kernel
theorem d_Mod_init_235 : decode b_Mod_init 235 = .ok (.newarray .int, 2) := by decide +kernel
theorem d_Mod_init_237 : decode b_Mod_init 237 = .ok (.putfield 100, 3) := by decide +kernel
theorem d_Mod_init_240 : decode b_Mod_init 240 = .ok (.aload_n 0, 1) := by decide +kernel
theorem d_Mod_init_241 : decode b_Mod_init 241 = .ok (.bipush 72, 2) := by decide +kernel
theorem d_Mod_init_243 : decode b_Mod_init 243 = .ok (.newarray .long, 2) := by decide +kernel
theorem d_Mod_init_245 : decode b_Mod_init 245 = .ok (.putfield 103, 3) := by decide +kernel
theorem d_Mod_init_248 : decode b_Mod_init 248 = .ok (.aload_n 0, 1) := by decide +kernel
theorem d_Mod_init_249 : decode b_Mod_init 249 = .ok (.bipush 12, 2) := by decide +kernel
theorem d_Mod_init_251 : decode b_Mod_init 251 = .ok (.newarray .int, 2) := by decide +kernel
theorem d_Mod_init_253 : decode b_Mod_init 253 = .ok (.putfield 106, 3) := by decide +kernel
theorem d_Mod_init_256 : decode b_Mod_init 256 = .ok (.aload_n 0, 1) := by decide +kernel
theorem d_Mod_init_257 : decode b_Mod_init 257 = .ok (.bipush 12, 2) := by decide +kernel
theorem d_Mod_init_259 : decode b_Mod_init 259 = .ok (.newarray .int, 2) := by decide +kernel
theorem d_Mod_init_261 : decode b_Mod_init 261 = .ok (.putfield 109, 3) := by decide +kernel
theorem d_Mod_init_264 : decode b_Mod_init 264 = .ok (.aload_n 0, 1) := by decide +kernel
theorem d_Mod_init_265 : decode b_Mod_init 265 = .ok (.bipush 12, 2) := by decide +kernel
theorem d_Mod_init_267 : decode b_Mod_init 267 = .ok (.newarray .int, 2) := by decide +kernel
theorem d_Mod_init_269 : decode b_Mod_init 269 = .ok (.putfield 112, 3) := by decide +kernel
theorem d_Mod_init_272 : decode b_Mod_init 272 = .ok (.aload_n 0, 1) := by decide +kernel
theorem d_Mod_init_273 : decode b_Mod_init 273 = .ok (.iconst 5, 1) := by decide +kernel
theorem d_Mod_init_274 : decode b_Mod_init 274 = .ok (.newarray .int, 2) := by decide +kernel
theorem d_Mod_init_276 : decode b_Mod_init 276 = .ok (.putfield 115, 3) := by decide +kernel
theorem d_Mod_init_279 : decode b_Mod_init 279 = .ok (.aload_n 0, 1) := by decide +kernel
theorem d_Mod_init_280 : decode b_Mod_init 280 = .ok (.iconst 5, 1) := by decide +kernel
theorem d_Mod_init_281 : decode b_Mod_init 281 = .ok (.newarray .int, 2) := by decide +kernel
theorem d_Mod_init_283 : decode b_Mod_init 283 = .ok (.putfield 118, 3) := by decide +kernel
theorem d_Mod_init_286 : decode b_Mod_init 286 = .ok (.aload_n 0, 1) := by decide +kernel
theorem d_Mod_init_287 : decode b_Mod_init 287 = .ok (.iconst 5, 1) := by decide +kernel
theorem d_Mod_init_288 : decode b_Mod_init 288 = .ok (.newarray .boolean, 2) := by decide +kernel
theorem d_Mod_init_290 : decode b_Mod_init 290 = .ok (.putfield 121, 3) := by decide +kernel
theorem d_Mod_init_293 : decode b_Mod_init 293 = .ok (.aload_n 0, 1) := by decide +kernel
theorem d_Mod_init_294 : decode b_Mod_init 294 = .ok (.bipush 14, 2) := by decide +kernel
theorem d_Mod_init_296 : decode b_Mod_init 296 = .ok (.newarray .long, 2) := by decide +kernel
theorem d_Mod_init_298 : decode b_Mod_init 298 = .ok (.putfield 124, 3) := by decide +kernel
theorem d_Mod_init_301 : decode b_Mod_init 301 = .ok (.aload_n 0, 1) := by decide +kernel
theorem d_Mod_init_302 : decode b_Mod_init 302 = .ok (.iload_n 1, 1) := by decide +kernel
theorem d_Mod_init_303 : decode b_Mod_init 303 = .ok (.iconst 1, 1) := by decide +kernel
theorem d_Mod_init_304 : decode b_Mod_init 304 = .ok (.if_icmp .ge 7, 3) := by decide +kernel
theorem d_Mod_init_307 : decode b_Mod_init 307 = .ok (.iconst 1, 1) := by decide +kernel
theorem d_Mod_init_308 : decode b_Mod_init 308 = .ok (.goto 15, 3) := by decide +kernel
theorem d_Mod_init_311 : decode b_Mod_init 311 = .ok (.iload_n 1, 1) := by decide +kernel
theorem d_Mod_init_312 : decode b_Mod_init 312 = .ok (.bipush 12, 2) := by decide +kernel
theorem d_Mod_init_314 : decode b_Mod_init 314 = .ok (.if_icmp .le 8, 3) := by decide +kernel
theorem d_Mod_init_317 : decode b_Mod_init 317 = .ok (.bipush 12, 2) := by decide +kernel
theorem d_Mod_init_319 : decode b_Mod_init 319 = .ok (.goto 4, 3) := by decide +kernel
theorem d_Mod_init_322 : decode b_Mod_init 322 = .ok (.iload_n 1, 1) := by decide +kernel
theorem d_Mod_init_323 : decode b_Mod_init 323 = .ok (.putfield 127, 3) := by decide +kernel
theorem d_Mod_init_326 : decode b_Mod_init 326 = .ok (.iconst 0, 1) := by decide +kernel
theorem d_Mod_init_327 : decode b_Mod_init 327 = .ok (.istore_n 2, 1) := by decide +kernel
theorem d_Mod_init_328 : decode b_Mod_init 328 = .ok (.iload_n 2, 1) := by decide +kernel
theorem d_Mod_init_329 : decode b_Mod_init 329 = .ok (.bipush 6, 2) := by decide +kernel
theorem d_Mod_init_331 : decode b_Mod_init 331 = .ok (.if_icmp .ge 24, 3) := by decide +kernel
theorem d_Mod_init_334 : decode b_Mod_init 334 = .ok (.aload_n 0, 1) := by decide +kernel
theorem d_Mod_init_335 : decode b_Mod_init 335 = .ok (.getfield 7, 3) := by decide +kernel
theorem d_Mod_init_338 : decode b_Mod_init 338 = .ok (.iload_n 2, 1) := by decide +kernel
theorem d_Mod_init_339 : decode b_Mod_init 339 = .ok (.iconst 1, 1) := by decide +kernel
theorem d_Mod_init_340 : decode b_Mod_init 340 = .ok (.iastore, 1) := by decide +kernel
theorem d_Mod_init_341 : decode b_Mod_init 341 = .ok (.aload_n 0, 1) := by decide +kernel
theorem d_Mod_init_342 : decode b_Mod_init 342 = .ok (.getfield 25, 3) := by decide +kernel
theorem d_Mod_init_345 : decode b_Mod_init 345 = .ok (.iload_n 2, 1) := by decide +kernel
theorem d_Mod_init_346 : decode b_Mod_init 346 = .ok (.bipush 100, 2) := by decide +kernel
theorem d_Mod_init_348 : decode b_Mod_init 348 = .ok (.iastore, 1) := by decide +kernel
theorem d_Mod_init_349 : decode b_Mod_init 349 = .ok (.iinc 2 1, 3) := by decide +kernel
theorem d_Mod_init_352 : decode b_Mod_init 352 = .ok (.goto (-24), 3) := by decide +kernel
theorem d_Mod_init_355 : decode b_Mod_init 355 = .ok (.iconst 0, 1) := by decide +kernel
theorem d_Mod_init_356 : decode b_Mod_init 356 = .ok (.istore_n 2, 1) := by decide +kernel
theorem d_Mod_init_357 : decode b_Mod_init 357 = .ok (.iload_n 2, 1) := by decide +kernel
theorem d_Mod_init_358 : decode b_Mod_init 358 = .ok (.bipush 12, 2) := by decide +kernel
theorem d_Mod_init_360 : decode b_Mod_init 360 = .ok (.if_icmp .ge 17, 3) := by decide +kernel
theorem d_Mod_init_363 : decode b_Mod_init 363 = .ok (.aload_n 0, 1) := by decide +kernel
theorem d_Mod_init_364 : decode b_Mod_init 364 = .ok (.getfield 31, 3) := by decide +kernel
theorem d_Mod_init_367 : decode b_Mod_init 367 = .ok (.iload_n 2, 1) := by decide +kernel
theorem d_Mod_init_368 : decode b_Mod_init 368 = .ok (.bipush 10, 2) := by decide +kernel
theorem d_Mod_init_370 : decode b_Mod_init 370 = .ok (.iastore, 1) := by decide +kernel
theorem d_Mod_init_371 : decode b_Mod_init 371 = .ok (.iinc 2 1, 3) := by decide +kernel
theorem d_Mod_init_374 : decode b_Mod_init 374 = .ok (.goto (-17), 3) := by decide +kernel
theorem d_Mod_init_377 : decode b_Mod_init 377 = .ok (.return_, 1) := by decide +kernel
abbrev b_Mod_thrown : ByteArray := prog_13_method_2_code
def y_Mod_thrown : MethodName := ⟨"WallDampModel", "thrown", "()I"⟩
def ws_Mod_thrown : List Cond := .code y_Mod_thrown b_Mod_thrown 1 (some (.int)) :: x_tb
theorem pd_Mod_thrown : y_Mod_thrown.cls ≠ "java/lang/invoke/MethodHandle" ∧ y_Mod_thrown.cls ≠ "java/lang/invoke/VarHandle" ∧ (parseMethodDescriptor y_Mod_thrown.desc).map (fun d => d.parameters.length) = some 0 := by decide +kernel
theorem d_Mod_thrown_0 : decode b_Mod_thrown 0 = .ok (.aload_n 0, 1) := by decide +kernel
theorem d_Mod_thrown_1 : decode b_Mod_thrown 1 = .ok (.getfield 130, 3) := by decide +kernel
theorem d_Mod_thrown_4 : decode b_Mod_thrown 4 = .ok (.ireturn, 1) := by decide +kernel
abbrev b_Mod_in : ByteArray := prog_13_method_3_code
def y_Mod_in : MethodName := ⟨"WallDampModel", "in", "(JJJ)Z"⟩
def ws_Mod_in : List Cond := .code y_Mod_in b_Mod_in 6 (some (.boolean)) :: x_tb
theorem pd_Mod_in : y_Mod_in.cls ≠ "java/lang/invoke/MethodHandle" ∧ y_Mod_in.cls ≠ "java/lang/invoke/VarHandle" ∧ (parseMethodDescriptor y_Mod_in.desc).map (fun d => d.parameters.length) = some 3 := by decide +kernel
theorem d_Mod_in_0 : decode b_Mod_in 0 = .ok (.lload_n 0, 1) := by decide +kernel
theorem d_Mod_in_1 : decode b_Mod_in 1 = .ok (.lload_n 2, 1) := by decide +kernel
theorem d_Mod_in_2 : decode b_Mod_in 2 = .ok (.lcmp, 1) := by decide +kernel
theorem d_Mod_in_3 : decode b_Mod_in 3 = .ok (.ifCond .lt 14, 3) := by decide +kernel
theorem d_Mod_in_6 : decode b_Mod_in 6 = .ok (.lload_n 0, 1) := by decide +kernel
theorem d_Mod_in_7 : decode b_Mod_in 7 = .ok (.lload 4, 2) := by decide +kernel
theorem d_Mod_in_9 : decode b_Mod_in 9 = .ok (.lcmp, 1) := by decide +kernel
theorem d_Mod_in_10 : decode b_Mod_in 10 = .ok (.ifCond .gt 7, 3) := by decide +kernel
theorem d_Mod_in_13 : decode b_Mod_in 13 = .ok (.iconst 1, 1) := by decide +kernel
theorem d_Mod_in_14 : decode b_Mod_in 14 = .ok (.goto 4, 3) := by decide +kernel
theorem d_Mod_in_17 : decode b_Mod_in 17 = .ok (.iconst 0, 1) := by decide +kernel
theorem d_Mod_in_18 : decode b_Mod_in 18 = .ok (.ireturn, 1) := by decide +kernel
abbrev b_Mod_isCell : ByteArray := prog_13_method_4_code
def y_Mod_isCell : MethodName := ⟨"WallDampModel", "isCell", "(I)Z"⟩
def ws_Mod_isCell : List Cond := .code y_Mod_isCell b_Mod_isCell 2 (some (.boolean)) :: x_tb
theorem pd_Mod_isCell : y_Mod_isCell.cls ≠ "java/lang/invoke/MethodHandle" ∧ y_Mod_isCell.cls ≠ "java/lang/invoke/VarHandle" ∧ (parseMethodDescriptor y_Mod_isCell.desc).map (fun d => d.parameters.length) = some 1 := by decide +kernel
theorem d_Mod_isCell_0 : decode b_Mod_isCell 0 = .ok (.iload_n 1, 1) := by decide +kernel
theorem d_Mod_isCell_1 : decode b_Mod_isCell 1 = .ok (.i2l, 1) := by decide +kernel
theorem d_Mod_isCell_2 : decode b_Mod_isCell 2 = .ok (.lconst 0, 1) := by decide +kernel
theorem d_Mod_isCell_3 : decode b_Mod_isCell 3 = .ok (.aload_n 0, 1) := by decide +kernel
theorem d_Mod_isCell_4 : decode b_Mod_isCell 4 = .ok (.getfield 127, 3) := by decide +kernel
theorem d_Mod_isCell_7 : decode b_Mod_isCell 7 = .ok (.i2l, 1) := by decide +kernel
theorem d_Mod_isCell_8 : decode b_Mod_isCell 8 = .ok (.lconst 1, 1) := by decide +kernel
theorem d_Mod_isCell_9 : decode b_Mod_isCell 9 = .ok (.lsub, 1) := by decide +kernel
theorem d_Mod_isCell_10 : decode b_Mod_isCell 10 = .ok (.invokestatic 133, 3) := by decide +kernel
theorem d_Mod_isCell_13 : decode b_Mod_isCell 13 = .ok (.ireturn, 1) := by decide +kernel
abbrev b_Mod_floor : ByteArray := prog_13_method_5_code
def y_Mod_floor : MethodName := ⟨"WallDampModel", "floor", "(JJ)J"⟩
def ws_Mod_floor : List Cond := .code y_Mod_floor b_Mod_floor 6 (some (.long)) :: x_tb
theorem pd_Mod_floor : y_Mod_floor.cls ≠ "java/lang/invoke/MethodHandle" ∧ y_Mod_floor.cls ≠ "java/lang/invoke/VarHandle" ∧ (parseMethodDescriptor y_Mod_floor.desc).map (fun d => d.parameters.length) = some 2 := by decide +kernel
theorem d_Mod_floor_0 : decode b_Mod_floor 0 = .ok (.lload_n 0, 1) := by decide +kernel
theorem d_Mod_floor_1 : decode b_Mod_floor 1 = .ok (.lload_n 2, 1) := by decide +kernel
theorem d_Mod_floor_2 : decode b_Mod_floor 2 = .ok (.ldiv, 1) := by decide +kernel
theorem d_Mod_floor_3 : decode b_Mod_floor 3 = .ok (.lstore 4, 2) := by decide +kernel
theorem d_Mod_floor_5 : decode b_Mod_floor 5 = .ok (.lload 4, 2) := by decide +kernel
theorem d_Mod_floor_7 : decode b_Mod_floor 7 = .ok (.lload_n 2, 1) := by decide +kernel
theorem d_Mod_floor_8 : decode b_Mod_floor 8 = .ok (.lmul, 1) := by decide +kernel
theorem d_Mod_floor_9 : decode b_Mod_floor 9 = .ok (.lload_n 0, 1) := by decide +kernel
theorem d_Mod_floor_10 : decode b_Mod_floor 10 = .ok (.lcmp, 1) := by decide +kernel
theorem d_Mod_floor_11 : decode b_Mod_floor 11 = .ok (.ifCond .le 10, 3) := by decide +kernel
theorem d_Mod_floor_14 : decode b_Mod_floor 14 = .ok (.lload 4, 2) := by decide +kernel
theorem d_Mod_floor_16 : decode b_Mod_floor 16 = .ok (.lconst 1, 1) := by decide +kernel
theorem d_Mod_floor_17 : decode b_Mod_floor 17 = .ok (.lsub, 1) := by decide +kernel
theorem d_Mod_floor_18 : decode b_Mod_floor 18 = .ok (.goto 5, 3) := by decide +kernel
theorem d_Mod_floor_21 : decode b_Mod_floor 21 = .ok (.lload 4, 2) := by decide +kernel
theorem d_Mod_floor_23 : decode b_Mod_floor 23 = .ok (.lreturn, 1) := by decide +kernel
abbrev b_Mod_most : ByteArray := prog_13_method_6_code
def y_Mod_most : MethodName := ⟨"WallDampModel", "most", "(I)I"⟩
def ws_Mod_most : List Cond := .code y_Mod_most b_Mod_most 2 (some (.int)) :: x_tb
theorem pd_Mod_most : y_Mod_most.cls ≠ "java/lang/invoke/MethodHandle" ∧ y_Mod_most.cls ≠ "java/lang/invoke/VarHandle" ∧ (parseMethodDescriptor y_Mod_most.desc).map (fun d => d.parameters.length) = some 1 := by decide +kernel
theorem d_Mod_most_0 : decode b_Mod_most 0 = .ok (.aload_n 0, 1) := by decide +kernel
theorem d_Mod_most_1 : decode b_Mod_most 1 = .ok (.getfield 13, 3) := by decide +kernel
theorem d_Mod_most_4 : decode b_Mod_most 4 = .ok (.bipush 7, 2) := by decide +kernel
theorem d_Mod_most_6 : decode b_Mod_most 6 = .ok (.iload_n 1, 1) := by decide +kernel
theorem d_Mod_most_7 : decode b_Mod_most 7 = .ok (.imul, 1) := by decide +kernel
theorem d_Mod_most_8 : decode b_Mod_most 8 = .ok (.aload_n 0, 1) := by decide +kernel
theorem d_Mod_most_9 : decode b_Mod_most 9 = .ok (.getfield 7, 3) := by decide +kernel
theorem d_Mod_most_12 : decode b_Mod_most 12 = .ok (.iload_n 1, 1) := by decide +kernel
theorem d_Mod_most_13 : decode b_Mod_most 13 = .ok (.iaload, 1) := by decide +kernel
theorem d_Mod_most_14 : decode b_Mod_most 14 = .ok (.iadd, 1) := by decide +kernel
theorem d_Mod_most_15 : decode b_Mod_most 15 = .ok (.iconst 1, 1) := by decide +kernel
theorem d_Mod_most_16 : decode b_Mod_most 16 = .ok (.isub, 1) := by decide +kernel
theorem d_Mod_most_17 : decode b_Mod_most 17 = .ok (.iaload, 1) := by decide +kernel
theorem d_Mod_most_18 : decode b_Mod_most 18 = .ok (.ireturn, 1) := by decide +kernel
abbrev b_Mod_curve : ByteArray := prog_13_method_7_code
def y_Mod_curve : MethodName := ⟨"WallDampModel", "curve", "(III)I"⟩
def ws_Mod_curve : List Cond := .code y_Mod_curve b_Mod_curve 5 (some (.int)) :: x_tb
theorem pd_Mod_curve : y_Mod_curve.cls ≠ "java/lang/invoke/MethodHandle" ∧ y_Mod_curve.cls ≠ "java/lang/invoke/VarHandle" ∧ (parseMethodDescriptor y_Mod_curve.desc).map (fun d => d.parameters.length) = some 3 := by decide +kernel
theorem d_Mod_curve_0 : decode b_Mod_curve 0 = .ok (.iload_n 1, 1) := by decide +kernel
theorem d_Mod_curve_1 : decode b_Mod_curve 1 = .ok (.i2l, 1) := by decide +kernel
theorem d_Mod_curve_2 : decode b_Mod_curve 2 = .ok (.lconst 0, 1) := by decide +kernel
theorem d_Mod_curve_3 : decode b_Mod_curve 3 = .ok (.ldc2_w 137, 3) := by decide +kernel
theorem d_Mod_curve_6 : decode b_Mod_curve 6 = .ok (.invokestatic 133, 3) := by decide +kernel
theorem d_Mod_curve_9 : decode b_Mod_curve 9 = .ok (.ifCond .eq 31, 3) := by decide +kernel
theorem d_Mod_curve_12 : decode b_Mod_curve 12 = .ok (.iload_n 2, 1) := by decide +kernel
theorem d_Mod_curve_13 : decode b_Mod_curve 13 = .ok (.i2l, 1) := by decide +kernel
theorem d_Mod_curve_14 : decode b_Mod_curve 14 = .ok (.lconst 0, 1) := by decide +kernel
theorem d_Mod_curve_15 : decode b_Mod_curve 15 = .ok (.ldc2_w 139, 3) := by decide +kernel
theorem d_Mod_curve_18 : decode b_Mod_curve 18 = .ok (.invokestatic 133, 3) := by decide +kernel
theorem d_Mod_curve_21 : decode b_Mod_curve 21 = .ok (.ifCond .eq 19, 3) := by decide +kernel
theorem d_Mod_curve_24 : decode b_Mod_curve 24 = .ok (.iload_n 3, 1) := by decide +kernel
theorem d_Mod_curve_25 : decode b_Mod_curve 25 = .ok (.i2l, 1) := by decide +kernel
theorem d_Mod_curve_26 : decode b_Mod_curve 26 = .ok (.lconst 0, 1) := by decide +kernel
theorem d_Mod_curve_27 : decode b_Mod_curve 27 = .ok (.ldc2_w 141, 3) := by decide +kernel
theorem d_Mod_curve_30 : decode b_Mod_curve 30 = .ok (.invokestatic 133, 3) := by decide +kernel
theorem d_Mod_curve_33 : decode b_Mod_curve 33 = .ok (.ifCond .eq 7, 3) := by decide +kernel
theorem d_Mod_curve_36 : decode b_Mod_curve 36 = .ok (.iconst 1, 1) := by decide +kernel
theorem d_Mod_curve_37 : decode b_Mod_curve 37 = .ok (.goto 4, 3) := by decide +kernel
theorem d_Mod_curve_40 : decode b_Mod_curve 40 = .ok (.iconst 0, 1) := by decide +kernel
theorem d_Mod_curve_41 : decode b_Mod_curve 41 = .ok (.istore 4, 2) := by decide +kernel
theorem d_Mod_curve_43 : decode b_Mod_curve 43 = .ok (.aload_n 0, 1) := by decide +kernel
theorem d_Mod_curve_44 : decode b_Mod_curve 44 = .ok (.iload 4, 2) := by decide +kernel
theorem d_Mod_curve_46 : decode b_Mod_curve 46 = .ok (.ifCond .ne 7, 3) := by decide +kernel
theorem d_Mod_curve_49 : decode b_Mod_curve 49 = .ok (.iconst 1, 1) := by decide +kernel
theorem d_Mod_curve_50 : decode b_Mod_curve 50 = .ok (.goto 57, 3) := by decide +kernel
theorem d_Mod_curve_53 : decode b_Mod_curve 53 = .ok (.aload_n 0, 1) := by decide +kernel
theorem d_Mod_curve_54 : decode b_Mod_curve 54 = .ok (.getfield 7, 3) := by decide +kernel
theorem d_Mod_curve_57 : decode b_Mod_curve 57 = .ok (.iload_n 1, 1) := by decide +kernel
theorem d_Mod_curve_58 : decode b_Mod_curve 58 = .ok (.iaload, 1) := by decide +kernel
theorem d_Mod_curve_59 : decode b_Mod_curve 59 = .ok (.bipush 7, 2) := by decide +kernel
theorem d_Mod_curve_61 : decode b_Mod_curve 61 = .ok (.if_icmp .eq 41, 3) := by decide +kernel
theorem d_Mod_curve_64 : decode b_Mod_curve 64 = .ok (.iload_n 2, 1) := by decide +kernel
theorem d_Mod_curve_65 : decode b_Mod_curve 65 = .ok (.aload_n 0, 1) := by decide +kernel
theorem d_Mod_curve_66 : decode b_Mod_curve 66 = .ok (.iload_n 1, 1) := by decide +kernel
theorem d_Mod_curve_67 : decode b_Mod_curve 67 = .ok (.invokevirtual 143, 3) := by decide +kernel
theorem d_Mod_curve_70 : decode b_Mod_curve 70 = .ok (.if_icmp .le 32, 3) := by decide +kernel
theorem d_Mod_curve_73 : decode b_Mod_curve 73 = .ok (.iload_n 3, 1) := by decide +kernel
theorem d_Mod_curve_74 : decode b_Mod_curve 74 = .ok (.aload_n 0, 1) := by decide +kernel
theorem d_Mod_curve_75 : decode b_Mod_curve 75 = .ok (.getfield 16, 3) := by decide +kernel
theorem d_Mod_curve_78 : decode b_Mod_curve 78 = .ok (.bipush 7, 2) := by decide +kernel
theorem d_Mod_curve_80 : decode b_Mod_curve 80 = .ok (.iload_n 1, 1) := by decide +kernel
theorem d_Mod_curve_81 : decode b_Mod_curve 81 = .ok (.imul, 1) := by decide +kernel
theorem d_Mod_curve_82 : decode b_Mod_curve 82 = .ok (.aload_n 0, 1) := by decide +kernel
theorem d_Mod_curve_83 : decode b_Mod_curve 83 = .ok (.getfield 7, 3) := by decide +kernel
theorem d_Mod_curve_86 : decode b_Mod_curve 86 = .ok (.iload_n 1, 1) := by decide +kernel
theorem d_Mod_curve_87 : decode b_Mod_curve 87 = .ok (.iaload, 1) := by decide +kernel
theorem d_Mod_curve_88 : decode b_Mod_curve 88 = .ok (.iadd, 1) := by decide +kernel
theorem d_Mod_curve_89 : decode b_Mod_curve 89 = .ok (.iconst 1, 1) := by decide +kernel
theorem d_Mod_curve_90 : decode b_Mod_curve 90 = .ok (.isub, 1) := by decide +kernel
theorem d_Mod_curve_91 : decode b_Mod_curve 91 = .ok (.iaload, 1) := by decide +kernel
theorem d_Mod_curve_92 : decode b_Mod_curve 92 = .ok (.if_icmp .le 10, 3) := by decide +kernel
theorem d_Mod_curve_95 : decode b_Mod_curve 95 = .ok (.aload_n 0, 1) := by decide +kernel
theorem d_Mod_curve_96 : decode b_Mod_curve 96 = .ok (.getfield 147, 3) := by decide +kernel
theorem d_Mod_curve_99 : decode b_Mod_curve 99 = .ok (.ifCond .le 7, 3) := by decide +kernel
theorem d_Mod_curve_102 : decode b_Mod_curve 102 = .ok (.iconst 2, 1) := by decide +kernel
theorem d_Mod_curve_103 : decode b_Mod_curve 103 = .ok (.goto 4, 3) := by decide +kernel
theorem d_Mod_curve_106 : decode b_Mod_curve 106 = .ok (.iconst 0, 1) := by decide +kernel
theorem d_Mod_curve_107 : decode b_Mod_curve 107 = .ok (.putfield 130, 3) := by decide +kernel
theorem d_Mod_curve_110 : decode b_Mod_curve 110 = .ok (.aload_n 0, 1) := by decide +kernel
theorem d_Mod_curve_111 : decode b_Mod_curve 111 = .ok (.getfield 130, 3) := by decide +kernel
theorem d_Mod_curve_114 : decode b_Mod_curve 114 = .ok (.ifCond .le 5, 3) := by decide +kernel
theorem d_Mod_curve_117 : decode b_Mod_curve 117 = .ok (.iconst 0, 1) := by decide +kernel
theorem d_Mod_curve_118 : decode b_Mod_curve 118 = .ok (.ireturn, 1) := by decide +kernel
theorem d_Mod_curve_119 : decode b_Mod_curve 119 = .ok (.aload_n 0, 1) := by decide +kernel
theorem d_Mod_curve_120 : decode b_Mod_curve 120 = .ok (.getfield 13, 3) := by decide +kernel
theorem d_Mod_curve_123 : decode b_Mod_curve 123 = .ok (.bipush 7, 2) := by decide +kernel
theorem d_Mod_curve_125 : decode b_Mod_curve 125 = .ok (.iload_n 1, 1) := by decide +kernel
theorem d_Mod_curve_126 : decode b_Mod_curve 126 = .ok (.imul, 1) := by decide +kernel
theorem d_Mod_curve_127 : decode b_Mod_curve 127 = .ok (.aload_n 0, 1) := by decide +kernel
theorem d_Mod_curve_128 : decode b_Mod_curve 128 = .ok (.getfield 7, 3) := by decide +kernel
theorem d_Mod_curve_131 : decode b_Mod_curve 131 = .ok (.iload_n 1, 1) := by decide +kernel
theorem d_Mod_curve_132 : decode b_Mod_curve 132 = .ok (.iaload, 1) := by decide +kernel
theorem d_Mod_curve_133 : decode b_Mod_curve 133 = .ok (.iadd, 1) := by decide +kernel
theorem d_Mod_curve_134 : decode b_Mod_curve 134 = .ok (.iload_n 2, 1) := by decide +kernel
theorem d_Mod_curve_135 : decode b_Mod_curve 135 = .ok (.iastore, 1) := by decide +kernel
theorem d_Mod_curve_136 : decode b_Mod_curve 136 = .ok (.aload_n 0, 1) := by decide +kernel
theorem d_Mod_curve_137 : decode b_Mod_curve 137 = .ok (.getfield 16, 3) := by decide +kernel
theorem d_Mod_curve_140 : decode b_Mod_curve 140 = .ok (.bipush 7, 2) := by decide +kernel
theorem d_Mod_curve_142 : decode b_Mod_curve 142 = .ok (.iload_n 1, 1) := by decide +kernel
theorem d_Mod_curve_143 : decode b_Mod_curve 143 = .ok (.imul, 1) := by decide +kernel
theorem d_Mod_curve_144 : decode b_Mod_curve 144 = .ok (.aload_n 0, 1) := by decide +kernel
theorem d_Mod_curve_145 : decode b_Mod_curve 145 = .ok (.getfield 7, 3) := by decide +kernel
theorem d_Mod_curve_148 : decode b_Mod_curve 148 = .ok (.iload_n 1, 1) := by decide +kernel
theorem d_Mod_curve_149 : decode b_Mod_curve 149 = .ok (.iaload, 1) := by decide +kernel
theorem d_Mod_curve_150 : decode b_Mod_curve 150 = .ok (.iadd, 1) := by decide +kernel
theorem d_Mod_curve_151 : decode b_Mod_curve 151 = .ok (.iload_n 3, 1) := by decide +kernel
theorem d_Mod_curve_152 : decode b_Mod_curve 152 = .ok (.iastore, 1) := by decide +kernel
theorem d_Mod_curve_153 : decode b_Mod_curve 153 = .ok (.aload_n 0, 1) := by decide +kernel
theorem d_Mod_curve_154 : decode b_Mod_curve 154 = .ok (.getfield 7, 3) := by decide +kernel
theorem d_Mod_curve_157 : decode b_Mod_curve 157 = .ok (.iload_n 1, 1) := by decide +kernel
theorem d_Mod_curve_158 : decode b_Mod_curve 158 = .ok (.dup2, 1) := by decide +kernel
theorem d_Mod_curve_159 : decode b_Mod_curve 159 = .ok (.iaload, 1) := by decide +kernel
theorem d_Mod_curve_160 : decode b_Mod_curve 160 = .ok (.iconst 1, 1) := by decide +kernel
theorem d_Mod_curve_161 : decode b_Mod_curve 161 = .ok (.iadd, 1) := by decide +kernel
theorem d_Mod_curve_162 : decode b_Mod_curve 162 = .ok (.iastore, 1) := by decide +kernel
theorem d_Mod_curve_163 : decode b_Mod_curve 163 = .ok (.aload_n 0, 1) := by decide +kernel
theorem d_Mod_curve_164 : decode b_Mod_curve 164 = .ok (.getfield 7, 3) := by decide +kernel
theorem d_Mod_curve_167 : decode b_Mod_curve 167 = .ok (.iload_n 1, 1) := by decide +kernel
theorem d_Mod_curve_168 : decode b_Mod_curve 168 = .ok (.iaload, 1) := by decide +kernel
theorem d_Mod_curve_169 : decode b_Mod_curve 169 = .ok (.ireturn, 1) := by decide +kernel
abbrev b_Mod_rates : ByteArray := prog_13_method_8_code
def y_Mod_rates : MethodName := ⟨"WallDampModel", "rates", "(IIII)V"⟩
def ws_Mod_rates : List Cond := .code y_Mod_rates b_Mod_rates 5 none :: x_tb
theorem pd_Mod_rates : y_Mod_rates.cls ≠ "java/lang/invoke/MethodHandle" ∧ y_Mod_rates.cls ≠ "java/lang/invoke/VarHandle" ∧ (parseMethodDescriptor y_Mod_rates.desc).map (fun d => d.parameters.length) = some 4 := by decide +kernel
theorem d_Mod_rates_0 : decode b_Mod_rates 0 = .ok (.aload_n 0, 1) := by decide +kernel
theorem d_Mod_rates_1 : decode b_Mod_rates 1 = .ok (.iload_n 1, 1) := by decide +kernel
theorem d_Mod_rates_2 : decode b_Mod_rates 2 = .ok (.i2l, 1) := by decide +kernel
theorem d_Mod_rates_3 : decode b_Mod_rates 3 = .ok (.lconst 0, 1) := by decide +kernel
theorem d_Mod_rates_4 : decode b_Mod_rates 4 = .ok (.ldc2_w 137, 3) := by decide +kernel
theorem d_Mod_rates_7 : decode b_Mod_rates 7 = .ok (.invokestatic 133, 3) := by decide +kernel
theorem d_Mod_rates_10 : decode b_Mod_rates 10 = .ok (.ifCond .eq 44, 3) := by decide +kernel
theorem d_Mod_rates_13 : decode b_Mod_rates 13 = .ok (.iload_n 2, 1) := by decide +kernel
theorem d_Mod_rates_14 : decode b_Mod_rates 14 = .ok (.i2l, 1) := by decide +kernel
theorem d_Mod_rates_15 : decode b_Mod_rates 15 = .ok (.lconst 0, 1) := by decide +kernel
theorem d_Mod_rates_16 : decode b_Mod_rates 16 = .ok (.ldc2_w 150, 3) := by decide +kernel
theorem d_Mod_rates_19 : decode b_Mod_rates 19 = .ok (.invokestatic 133, 3) := by decide +kernel
theorem d_Mod_rates_22 : decode b_Mod_rates 22 = .ok (.ifCond .eq 32, 3) := by decide +kernel
theorem d_Mod_rates_25 : decode b_Mod_rates 25 = .ok (.iload_n 3, 1) := by decide +kernel
theorem d_Mod_rates_26 : decode b_Mod_rates 26 = .ok (.i2l, 1) := by decide +kernel
theorem d_Mod_rates_27 : decode b_Mod_rates 27 = .ok (.lconst 0, 1) := by decide +kernel
theorem d_Mod_rates_28 : decode b_Mod_rates 28 = .ok (.ldc2_w 150, 3) := by decide +kernel
theorem d_Mod_rates_31 : decode b_Mod_rates 31 = .ok (.invokestatic 133, 3) := by decide +kernel
theorem d_Mod_rates_34 : decode b_Mod_rates 34 = .ok (.ifCond .eq 20, 3) := by decide +kernel
theorem d_Mod_rates_37 : decode b_Mod_rates 37 = .ok (.iload 4, 2) := by decide +kernel
theorem d_Mod_rates_39 : decode b_Mod_rates 39 = .ok (.i2l, 1) := by decide +kernel
theorem d_Mod_rates_40 : decode b_Mod_rates 40 = .ok (.lconst 1, 1) := by decide +kernel
theorem d_Mod_rates_41 : decode b_Mod_rates 41 = .ok (.ldc2_w 150, 3) := by decide +kernel
theorem d_Mod_rates_44 : decode b_Mod_rates 44 = .ok (.invokestatic 133, 3) := by decide +kernel
theorem d_Mod_rates_47 : decode b_Mod_rates 47 = .ok (.ifCond .eq 7, 3) := by decide +kernel
theorem d_Mod_rates_50 : decode b_Mod_rates 50 = .ok (.iconst 0, 1) := by decide +kernel
theorem d_Mod_rates_51 : decode b_Mod_rates 51 = .ok (.goto 4, 3) := by decide +kernel
theorem d_Mod_rates_54 : decode b_Mod_rates 54 = .ok (.iconst 1, 1) := by decide +kernel
theorem d_Mod_rates_55 : decode b_Mod_rates 55 = .ok (.putfield 130, 3) := by decide +kernel
theorem d_Mod_rates_58 : decode b_Mod_rates 58 = .ok (.aload_n 0, 1) := by decide +kernel
theorem d_Mod_rates_59 : decode b_Mod_rates 59 = .ok (.getfield 130, 3) := by decide +kernel
theorem d_Mod_rates_62 : decode b_Mod_rates 62 = .ok (.ifCond .ne 25, 3) := by decide +kernel
theorem d_Mod_rates_65 : decode b_Mod_rates 65 = .ok (.aload_n 0, 1) := by decide +kernel
theorem d_Mod_rates_66 : decode b_Mod_rates 66 = .ok (.getfield 19, 3) := by decide +kernel
theorem d_Mod_rates_69 : decode b_Mod_rates 69 = .ok (.iload_n 1, 1) := by decide +kernel
theorem d_Mod_rates_70 : decode b_Mod_rates 70 = .ok (.iload_n 2, 1) := by decide +kernel
theorem d_Mod_rates_71 : decode b_Mod_rates 71 = .ok (.iastore, 1) := by decide +kernel
theorem d_Mod_rates_72 : decode b_Mod_rates 72 = .ok (.aload_n 0, 1) := by decide +kernel
theorem d_Mod_rates_73 : decode b_Mod_rates 73 = .ok (.getfield 22, 3) := by decide +kernel
theorem d_Mod_rates_76 : decode b_Mod_rates 76 = .ok (.iload_n 1, 1) := by decide +kernel
theorem d_Mod_rates_77 : decode b_Mod_rates 77 = .ok (.iload_n 3, 1) := by decide +kernel
theorem d_Mod_rates_78 : decode b_Mod_rates 78 = .ok (.iastore, 1) := by decide +kernel
theorem d_Mod_rates_79 : decode b_Mod_rates 79 = .ok (.aload_n 0, 1) := by decide +kernel
theorem d_Mod_rates_80 : decode b_Mod_rates 80 = .ok (.getfield 25, 3) := by decide +kernel
theorem d_Mod_rates_83 : decode b_Mod_rates 83 = .ok (.iload_n 1, 1) := by decide +kernel
theorem d_Mod_rates_84 : decode b_Mod_rates 84 = .ok (.iload 4, 2) := by decide +kernel
theorem d_Mod_rates_86 : decode b_Mod_rates 86 = .ok (.iastore, 1) := by decide +kernel
theorem d_Mod_rates_87 : decode b_Mod_rates 87 = .ok (.return_, 1) := by decide +kernel
abbrev b_Mod_cell : ByteArray := prog_13_method_9_code
def y_Mod_cell : MethodName := ⟨"WallDampModel", "cell", "(III)V"⟩
def ws_Mod_cell : List Cond := .code y_Mod_cell b_Mod_cell 4 none :: x_tb
theorem pd_Mod_cell : y_Mod_cell.cls ≠ "java/lang/invoke/MethodHandle" ∧ y_Mod_cell.cls ≠ "java/lang/invoke/VarHandle" ∧ (parseMethodDescriptor y_Mod_cell.desc).map (fun d => d.parameters.length) = some 3 := by decide +kernel
theorem d_Mod_cell_0 : decode b_Mod_cell 0 = .ok (.aload_n 0, 1) := by decide +kernel
theorem d_Mod_cell_1 : decode b_Mod_cell 1 = .ok (.aload_n 0, 1) := by decide +kernel
theorem d_Mod_cell_2 : decode b_Mod_cell 2 = .ok (.iload_n 1, 1) := by decide +kernel
theorem d_Mod_cell_3 : decode b_Mod_cell 3 = .ok (.invokevirtual 152, 3) := by decide +kernel
theorem d_Mod_cell_6 : decode b_Mod_cell 6 = .ok (.ifCond .eq 27, 3) := by decide +kernel
theorem d_Mod_cell_9 : decode b_Mod_cell 9 = .ok (.iload_n 2, 1) := by decide +kernel
theorem d_Mod_cell_10 : decode b_Mod_cell 10 = .ok (.i2l, 1) := by decide +kernel
theorem d_Mod_cell_11 : decode b_Mod_cell 11 = .ok (.lconst 0, 1) := by decide +kernel
theorem d_Mod_cell_12 : decode b_Mod_cell 12 = .ok (.ldc2_w 137, 3) := by decide +kernel
theorem d_Mod_cell_15 : decode b_Mod_cell 15 = .ok (.invokestatic 133, 3) := by decide +kernel
theorem d_Mod_cell_18 : decode b_Mod_cell 18 = .ok (.ifCond .eq 15, 3) := by decide +kernel
theorem d_Mod_cell_21 : decode b_Mod_cell 21 = .ok (.iload_n 3, 1) := by decide +kernel
theorem d_Mod_cell_22 : decode b_Mod_cell 22 = .ok (.i2l, 1) := by decide +kernel
theorem d_Mod_cell_23 : decode b_Mod_cell 23 = .ok (.lconst 1, 1) := by decide +kernel
theorem d_Mod_cell_24 : decode b_Mod_cell 24 = .ok (.ldc2_w 150, 3) := by decide +kernel
theorem d_Mod_cell_27 : decode b_Mod_cell 27 = .ok (.invokestatic 133, 3) := by decide +kernel
theorem d_Mod_cell_30 : decode b_Mod_cell 30 = .ok (.ifCond .ne 7, 3) := by decide +kernel
theorem d_Mod_cell_33 : decode b_Mod_cell 33 = .ok (.iconst 1, 1) := by decide +kernel
theorem d_Mod_cell_34 : decode b_Mod_cell 34 = .ok (.goto 15, 3) := by decide +kernel
theorem d_Mod_cell_37 : decode b_Mod_cell 37 = .ok (.aload_n 0, 1) := by decide +kernel
theorem d_Mod_cell_38 : decode b_Mod_cell 38 = .ok (.getfield 147, 3) := by decide +kernel
theorem d_Mod_cell_41 : decode b_Mod_cell 41 = .ok (.ifCond .le 7, 3) := by decide +kernel
theorem d_Mod_cell_44 : decode b_Mod_cell 44 = .ok (.iconst 2, 1) := by decide +kernel
theorem d_Mod_cell_45 : decode b_Mod_cell 45 = .ok (.goto 4, 3) := by decide +kernel
theorem d_Mod_cell_48 : decode b_Mod_cell 48 = .ok (.iconst 0, 1) := by decide +kernel
theorem d_Mod_cell_49 : decode b_Mod_cell 49 = .ok (.putfield 130, 3) := by decide +kernel
theorem d_Mod_cell_52 : decode b_Mod_cell 52 = .ok (.aload_n 0, 1) := by decide +kernel
theorem d_Mod_cell_53 : decode b_Mod_cell 53 = .ok (.getfield 130, 3) := by decide +kernel
theorem d_Mod_cell_56 : decode b_Mod_cell 56 = .ok (.ifCond .ne 39, 3) := by decide +kernel
theorem d_Mod_cell_59 : decode b_Mod_cell 59 = .ok (.aload_n 0, 1) := by decide +kernel
theorem d_Mod_cell_60 : decode b_Mod_cell 60 = .ok (.dup, 1) := by decide +kernel
theorem d_Mod_cell_61 : decode b_Mod_cell 61 = .ok (.getfield 156, 3) := by decide +kernel
theorem d_Mod_cell_64 : decode b_Mod_cell 64 = .ok (.aload_n 0, 1) := by decide +kernel
theorem d_Mod_cell_65 : decode b_Mod_cell 65 = .ok (.getfield 34, 3) := by decide +kernel
theorem d_Mod_cell_68 : decode b_Mod_cell 68 = .ok (.iload_n 1, 1) := by decide +kernel
theorem d_Mod_cell_69 : decode b_Mod_cell 69 = .ok (.laload, 1) := by decide +kernel
theorem d_Mod_cell_70 : decode b_Mod_cell 70 = .ok (.lsub, 1) := by decide +kernel
theorem d_Mod_cell_71 : decode b_Mod_cell 71 = .ok (.putfield 156, 3) := by decide +kernel
theorem d_Mod_cell_74 : decode b_Mod_cell 74 = .ok (.aload_n 0, 1) := by decide +kernel
theorem d_Mod_cell_75 : decode b_Mod_cell 75 = .ok (.getfield 34, 3) := by decide +kernel
theorem d_Mod_cell_78 : decode b_Mod_cell 78 = .ok (.iload_n 1, 1) := by decide +kernel
theorem d_Mod_cell_79 : decode b_Mod_cell 79 = .ok (.lconst 0, 1) := by decide +kernel
theorem d_Mod_cell_80 : decode b_Mod_cell 80 = .ok (.lastore, 1) := by decide +kernel
theorem d_Mod_cell_81 : decode b_Mod_cell 81 = .ok (.aload_n 0, 1) := by decide +kernel
theorem d_Mod_cell_82 : decode b_Mod_cell 82 = .ok (.getfield 28, 3) := by decide +kernel
theorem d_Mod_cell_85 : decode b_Mod_cell 85 = .ok (.iload_n 1, 1) := by decide +kernel
theorem d_Mod_cell_86 : decode b_Mod_cell 86 = .ok (.iload_n 2, 1) := by decide +kernel
theorem d_Mod_cell_87 : decode b_Mod_cell 87 = .ok (.iastore, 1) := by decide +kernel
theorem d_Mod_cell_88 : decode b_Mod_cell 88 = .ok (.aload_n 0, 1) := by decide +kernel
theorem d_Mod_cell_89 : decode b_Mod_cell 89 = .ok (.getfield 31, 3) := by decide +kernel
theorem d_Mod_cell_92 : decode b_Mod_cell 92 = .ok (.iload_n 1, 1) := by decide +kernel
theorem d_Mod_cell_93 : decode b_Mod_cell 93 = .ok (.iload_n 3, 1) := by decide +kernel
theorem d_Mod_cell_94 : decode b_Mod_cell 94 = .ok (.iastore, 1) := by decide +kernel
theorem d_Mod_cell_95 : decode b_Mod_cell 95 = .ok (.return_, 1) := by decide +kernel
abbrev b_Mod_table : ByteArray := prog_13_method_10_code
def y_Mod_table : MethodName := ⟨"WallDampModel", "table", "(II)I"⟩
def ws_Mod_table : List Cond := .code y_Mod_table b_Mod_table 4 (some (.int)) :: x_tb
theorem pd_Mod_table : y_Mod_table.cls ≠ "java/lang/invoke/MethodHandle" ∧ y_Mod_table.cls ≠ "java/lang/invoke/VarHandle" ∧ (parseMethodDescriptor y_Mod_table.desc).map (fun d => d.parameters.length) = some 2 := by decide +kernel
theorem d_Mod_table_0 : decode b_Mod_table 0 = .ok (.iload_n 1, 1) := by decide +kernel
theorem d_Mod_table_1 : decode b_Mod_table 1 = .ok (.i2l, 1) := by decide +kernel
theorem d_Mod_table_2 : decode b_Mod_table 2 = .ok (.ldc2_w 160, 3) := by decide +kernel
theorem d_Mod_table_5 : decode b_Mod_table 5 = .ok (.ldc2_w 141, 3) := by decide +kernel
theorem d_Mod_table_8 : decode b_Mod_table 8 = .ok (.invokestatic 133, 3) := by decide +kernel
theorem d_Mod_table_11 : decode b_Mod_table 11 = .ok (.ifCond .eq 19, 3) := by decide +kernel
theorem d_Mod_table_14 : decode b_Mod_table 14 = .ok (.iload_n 2, 1) := by decide +kernel
theorem d_Mod_table_15 : decode b_Mod_table 15 = .ok (.i2l, 1) := by decide +kernel
theorem d_Mod_table_16 : decode b_Mod_table 16 = .ok (.lconst 0, 1) := by decide +kernel
theorem d_Mod_table_17 : decode b_Mod_table 17 = .ok (.ldc2_w 162, 3) := by decide +kernel
theorem d_Mod_table_20 : decode b_Mod_table 20 = .ok (.invokestatic 133, 3) := by decide +kernel
theorem d_Mod_table_23 : decode b_Mod_table 23 = .ok (.ifCond .eq 7, 3) := by decide +kernel
theorem d_Mod_table_26 : decode b_Mod_table 26 = .ok (.iconst 1, 1) := by decide +kernel
theorem d_Mod_table_27 : decode b_Mod_table 27 = .ok (.goto 4, 3) := by decide +kernel
theorem d_Mod_table_30 : decode b_Mod_table 30 = .ok (.iconst 0, 1) := by decide +kernel
theorem d_Mod_table_31 : decode b_Mod_table 31 = .ok (.istore_n 3, 1) := by decide +kernel
theorem d_Mod_table_32 : decode b_Mod_table 32 = .ok (.aload_n 0, 1) := by decide +kernel
theorem d_Mod_table_33 : decode b_Mod_table 33 = .ok (.iload_n 3, 1) := by decide +kernel
theorem d_Mod_table_34 : decode b_Mod_table 34 = .ok (.ifCond .ne 7, 3) := by decide +kernel
theorem d_Mod_table_37 : decode b_Mod_table 37 = .ok (.iconst 1, 1) := by decide +kernel
theorem d_Mod_table_38 : decode b_Mod_table 38 = .ok (.goto 54, 3) := by decide +kernel
theorem d_Mod_table_41 : decode b_Mod_table 41 = .ok (.aload_n 0, 1) := by decide +kernel
theorem d_Mod_table_42 : decode b_Mod_table 42 = .ok (.getfield 164, 3) := by decide +kernel
theorem d_Mod_table_45 : decode b_Mod_table 45 = .ok (.bipush 8, 2) := by decide +kernel
theorem d_Mod_table_47 : decode b_Mod_table 47 = .ok (.if_icmp .eq 40, 3) := by decide +kernel
theorem d_Mod_table_50 : decode b_Mod_table 50 = .ok (.aload_n 0, 1) := by decide +kernel
theorem d_Mod_table_51 : decode b_Mod_table 51 = .ok (.getfield 164, 3) := by decide +kernel
theorem d_Mod_table_54 : decode b_Mod_table 54 = .ok (.ifCond .le 37, 3) := by decide +kernel
theorem d_Mod_table_57 : decode b_Mod_table 57 = .ok (.iload_n 1, 1) := by decide +kernel
theorem d_Mod_table_58 : decode b_Mod_table 58 = .ok (.aload_n 0, 1) := by decide +kernel
theorem d_Mod_table_59 : decode b_Mod_table 59 = .ok (.getfield 54, 3) := by decide +kernel
theorem d_Mod_table_62 : decode b_Mod_table 62 = .ok (.aload_n 0, 1) := by decide +kernel
theorem d_Mod_table_63 : decode b_Mod_table 63 = .ok (.getfield 164, 3) := by decide +kernel
theorem d_Mod_table_66 : decode b_Mod_table 66 = .ok (.iconst 1, 1) := by decide +kernel
theorem d_Mod_table_67 : decode b_Mod_table 67 = .ok (.isub, 1) := by decide +kernel
theorem d_Mod_table_68 : decode b_Mod_table 68 = .ok (.iaload, 1) := by decide +kernel
theorem d_Mod_table_69 : decode b_Mod_table 69 = .ok (.if_icmp .le 18, 3) := by decide +kernel
theorem d_Mod_table_72 : decode b_Mod_table 72 = .ok (.iload_n 2, 1) := by decide +kernel
theorem d_Mod_table_73 : decode b_Mod_table 73 = .ok (.aload_n 0, 1) := by decide +kernel
theorem d_Mod_table_74 : decode b_Mod_table 74 = .ok (.getfield 57, 3) := by decide +kernel
theorem d_Mod_table_77 : decode b_Mod_table 77 = .ok (.aload_n 0, 1) := by decide +kernel
theorem d_Mod_table_78 : decode b_Mod_table 78 = .ok (.getfield 164, 3) := by decide +kernel
theorem d_Mod_table_81 : decode b_Mod_table 81 = .ok (.iconst 1, 1) := by decide +kernel
theorem d_Mod_table_82 : decode b_Mod_table 82 = .ok (.isub, 1) := by decide +kernel
theorem d_Mod_table_83 : decode b_Mod_table 83 = .ok (.iaload, 1) := by decide +kernel
theorem d_Mod_table_84 : decode b_Mod_table 84 = .ok (.if_icmp .gt 7, 3) := by decide +kernel
theorem d_Mod_table_87 : decode b_Mod_table 87 = .ok (.iconst 2, 1) := by decide +kernel
theorem d_Mod_table_88 : decode b_Mod_table 88 = .ok (.goto 4, 3) := by decide +kernel
theorem d_Mod_table_91 : decode b_Mod_table 91 = .ok (.iconst 0, 1) := by decide +kernel
theorem d_Mod_table_92 : decode b_Mod_table 92 = .ok (.putfield 130, 3) := by decide +kernel
theorem d_Mod_table_95 : decode b_Mod_table 95 = .ok (.aload_n 0, 1) := by decide +kernel
theorem d_Mod_table_96 : decode b_Mod_table 96 = .ok (.getfield 130, 3) := by decide +kernel
theorem d_Mod_table_99 : decode b_Mod_table 99 = .ok (.ifCond .le 5, 3) := by decide +kernel
theorem d_Mod_table_102 : decode b_Mod_table 102 = .ok (.iconst 0, 1) := by decide +kernel
theorem d_Mod_table_103 : decode b_Mod_table 103 = .ok (.ireturn, 1) := by decide +kernel
theorem d_Mod_table_104 : decode b_Mod_table 104 = .ok (.aload_n 0, 1) := by decide +kernel
theorem d_Mod_table_105 : decode b_Mod_table 105 = .ok (.getfield 54, 3) := by decide +kernel
theorem d_Mod_table_108 : decode b_Mod_table 108 = .ok (.aload_n 0, 1) := by decide +kernel
theorem d_Mod_table_109 : decode b_Mod_table 109 = .ok (.getfield 164, 3) := by decide +kernel
theorem d_Mod_table_112 : decode b_Mod_table 112 = .ok (.iload_n 1, 1) := by decide +kernel
theorem d_Mod_table_113 : decode b_Mod_table 113 = .ok (.iastore, 1) := by decide +kernel
theorem d_Mod_table_114 : decode b_Mod_table 114 = .ok (.aload_n 0, 1) := by decide +kernel
theorem d_Mod_table_115 : decode b_Mod_table 115 = .ok (.getfield 57, 3) := by decide +kernel
theorem d_Mod_table_118 : decode b_Mod_table 118 = .ok (.aload_n 0, 1) := by decide +kernel
theorem d_Mod_table_119 : decode b_Mod_table 119 = .ok (.getfield 164, 3) := by decide +kernel
theorem d_Mod_table_122 : decode b_Mod_table 122 = .ok (.iload_n 2, 1) := by decide +kernel
theorem d_Mod_table_123 : decode b_Mod_table 123 = .ok (.iastore, 1) := by decide +kernel
theorem d_Mod_table_124 : decode b_Mod_table 124 = .ok (.aload_n 0, 1) := by decide +kernel
theorem d_Mod_table_125 : decode b_Mod_table 125 = .ok (.dup, 1) := by decide +kernel
theorem d_Mod_table_126 : decode b_Mod_table 126 = .ok (.getfield 164, 3) := by decide +kernel
theorem d_Mod_table_129 : decode b_Mod_table 129 = .ok (.iconst 1, 1) := by decide +kernel
theorem d_Mod_table_130 : decode b_Mod_table 130 = .ok (.iadd, 1) := by decide +kernel
theorem d_Mod_table_131 : decode b_Mod_table 131 = .ok (.putfield 164, 3) := by decide +kernel
theorem d_Mod_table_134 : decode b_Mod_table 134 = .ok (.aload_n 0, 1) := by decide +kernel
theorem d_Mod_table_135 : decode b_Mod_table 135 = .ok (.getfield 164, 3) := by decide +kernel
theorem d_Mod_table_138 : decode b_Mod_table 138 = .ok (.ireturn, 1) := by decide +kernel
abbrev b_Mod_fullAt : ByteArray := prog_13_method_11_code
def y_Mod_fullAt : MethodName := ⟨"WallDampModel", "fullAt", "(I)I"⟩
def ws_Mod_fullAt : List Cond := .code y_Mod_fullAt b_Mod_fullAt 5 (some (.int)) :: x_tb
theorem pd_Mod_fullAt : y_Mod_fullAt.cls ≠ "java/lang/invoke/MethodHandle" ∧ y_Mod_fullAt.cls ≠ "java/lang/invoke/VarHandle" ∧ (parseMethodDescriptor y_Mod_fullAt.desc).map (fun d => d.parameters.length) = some 1 := by decide +kernel
theorem d_Mod_fullAt_0 : decode b_Mod_fullAt 0 = .ok (.aload_n 0, 1) := by decide +kernel
theorem d_Mod_fullAt_1 : decode b_Mod_fullAt 1 = .ok (.getfield 164, 3) := by decide +kernel
theorem d_Mod_fullAt_4 : decode b_Mod_fullAt 4 = .ok (.ifCond .ne 5, 3) := by decide +kernel
theorem d_Mod_fullAt_7 : decode b_Mod_fullAt 7 = .ok (.iconst 0, 1) := by decide +kernel
theorem d_Mod_fullAt_8 : decode b_Mod_fullAt 8 = .ok (.ireturn, 1) := by decide +kernel
theorem d_Mod_fullAt_9 : decode b_Mod_fullAt 9 = .ok (.aload_n 0, 1) := by decide +kernel
theorem d_Mod_fullAt_10 : decode b_Mod_fullAt 10 = .ok (.getfield 164, 3) := by decide +kernel
theorem d_Mod_fullAt_13 : decode b_Mod_fullAt 13 = .ok (.iconst 1, 1) := by decide +kernel
theorem d_Mod_fullAt_14 : decode b_Mod_fullAt 14 = .ok (.isub, 1) := by decide +kernel
theorem d_Mod_fullAt_15 : decode b_Mod_fullAt 15 = .ok (.istore_n 2, 1) := by decide +kernel
theorem d_Mod_fullAt_16 : decode b_Mod_fullAt 16 = .ok (.iload_n 2, 1) := by decide +kernel
theorem d_Mod_fullAt_17 : decode b_Mod_fullAt 17 = .ok (.ifCond .le 19, 3) := by decide +kernel
theorem d_Mod_fullAt_20 : decode b_Mod_fullAt 20 = .ok (.aload_n 0, 1) := by decide +kernel
theorem d_Mod_fullAt_21 : decode b_Mod_fullAt 21 = .ok (.getfield 54, 3) := by decide +kernel
theorem d_Mod_fullAt_24 : decode b_Mod_fullAt 24 = .ok (.iload_n 2, 1) := by decide +kernel
theorem d_Mod_fullAt_25 : decode b_Mod_fullAt 25 = .ok (.iaload, 1) := by decide +kernel
theorem d_Mod_fullAt_26 : decode b_Mod_fullAt 26 = .ok (.iload_n 1, 1) := by decide +kernel
theorem d_Mod_fullAt_27 : decode b_Mod_fullAt 27 = .ok (.if_icmp .le 9, 3) := by decide +kernel
theorem d_Mod_fullAt_30 : decode b_Mod_fullAt 30 = .ok (.iinc 2 (-1), 3) := by decide +kernel
theorem d_Mod_fullAt_33 : decode b_Mod_fullAt 33 = .ok (.goto (-17), 3) := by decide +kernel
theorem d_Mod_fullAt_36 : decode b_Mod_fullAt 36 = .ok (.iload_n 1, 1) := by decide +kernel
theorem d_Mod_fullAt_37 : decode b_Mod_fullAt 37 = .ok (.aload_n 0, 1) := by decide +kernel
theorem d_Mod_fullAt_38 : decode b_Mod_fullAt 38 = .ok (.getfield 54, 3) := by decide +kernel
theorem d_Mod_fullAt_41 : decode b_Mod_fullAt 41 = .ok (.iload_n 2, 1) := by decide +kernel
theorem d_Mod_fullAt_42 : decode b_Mod_fullAt 42 = .ok (.iaload, 1) := by decide +kernel
theorem d_Mod_fullAt_43 : decode b_Mod_fullAt 43 = .ok (.if_icmp .le 13, 3) := by decide +kernel
theorem d_Mod_fullAt_46 : decode b_Mod_fullAt 46 = .ok (.iload_n 2, 1) := by decide +kernel
theorem d_Mod_fullAt_47 : decode b_Mod_fullAt 47 = .ok (.aload_n 0, 1) := by decide +kernel
theorem d_Mod_fullAt_48 : decode b_Mod_fullAt 48 = .ok (.getfield 164, 3) := by decide +kernel
theorem d_Mod_fullAt_51 : decode b_Mod_fullAt 51 = .ok (.iconst 1, 1) := by decide +kernel
theorem d_Mod_fullAt_52 : decode b_Mod_fullAt 52 = .ok (.isub, 1) := by decide +kernel
theorem d_Mod_fullAt_53 : decode b_Mod_fullAt 53 = .ok (.if_icmp .ne 10, 3) := by decide +kernel
theorem d_Mod_fullAt_56 : decode b_Mod_fullAt 56 = .ok (.aload_n 0, 1) := by decide +kernel
theorem d_Mod_fullAt_57 : decode b_Mod_fullAt 57 = .ok (.getfield 57, 3) := by decide +kernel
theorem d_Mod_fullAt_60 : decode b_Mod_fullAt 60 = .ok (.iload_n 2, 1) := by decide +kernel
theorem d_Mod_fullAt_61 : decode b_Mod_fullAt 61 = .ok (.iaload, 1) := by decide +kernel
theorem d_Mod_fullAt_62 : decode b_Mod_fullAt 62 = .ok (.ireturn, 1) := by decide +kernel
theorem d_Mod_fullAt_63 : decode b_Mod_fullAt 63 = .ok (.aload_n 0, 1) := by decide +kernel
theorem d_Mod_fullAt_64 : decode b_Mod_fullAt 64 = .ok (.getfield 57, 3) := by decide +kernel
theorem d_Mod_fullAt_67 : decode b_Mod_fullAt 67 = .ok (.iload_n 2, 1) := by decide +kernel
theorem d_Mod_fullAt_68 : decode b_Mod_fullAt 68 = .ok (.iconst 1, 1) := by decide +kernel
theorem d_Mod_fullAt_69 : decode b_Mod_fullAt 69 = .ok (.iadd, 1) := by decide +kernel
theorem d_Mod_fullAt_70 : decode b_Mod_fullAt 70 = .ok (.iaload, 1) := by decide +kernel
theorem d_Mod_fullAt_71 : decode b_Mod_fullAt 71 = .ok (.aload_n 0, 1) := by decide +kernel
theorem d_Mod_fullAt_72 : decode b_Mod_fullAt 72 = .ok (.getfield 57, 3) := by decide +kernel
theorem d_Mod_fullAt_75 : decode b_Mod_fullAt 75 = .ok (.iload_n 2, 1) := by decide +kernel
theorem d_Mod_fullAt_76 : decode b_Mod_fullAt 76 = .ok (.iaload, 1) := by decide +kernel
theorem d_Mod_fullAt_77 : decode b_Mod_fullAt 77 = .ok (.isub, 1) := by decide +kernel
theorem d_Mod_fullAt_78 : decode b_Mod_fullAt 78 = .ok (.i2l, 1) := by decide +kernel
theorem d_Mod_fullAt_79 : decode b_Mod_fullAt 79 = .ok (.iload_n 1, 1) := by decide +kernel
theorem d_Mod_fullAt_80 : decode b_Mod_fullAt 80 = .ok (.aload_n 0, 1) := by decide +kernel
theorem d_Mod_fullAt_81 : decode b_Mod_fullAt 81 = .ok (.getfield 54, 3) := by decide +kernel
theorem d_Mod_fullAt_84 : decode b_Mod_fullAt 84 = .ok (.iload_n 2, 1) := by decide +kernel
theorem d_Mod_fullAt_85 : decode b_Mod_fullAt 85 = .ok (.iaload, 1) := by decide +kernel
theorem d_Mod_fullAt_86 : decode b_Mod_fullAt 86 = .ok (.isub, 1) := by decide +kernel
theorem d_Mod_fullAt_87 : decode b_Mod_fullAt 87 = .ok (.i2l, 1) := by decide +kernel
theorem d_Mod_fullAt_88 : decode b_Mod_fullAt 88 = .ok (.lmul, 1) := by decide +kernel
theorem d_Mod_fullAt_89 : decode b_Mod_fullAt 89 = .ok (.lstore_n 3, 1) := by decide +kernel
theorem d_Mod_fullAt_90 : decode b_Mod_fullAt 90 = .ok (.aload_n 0, 1) := by decide +kernel
theorem d_Mod_fullAt_91 : decode b_Mod_fullAt 91 = .ok (.getfield 57, 3) := by decide +kernel
theorem d_Mod_fullAt_94 : decode b_Mod_fullAt 94 = .ok (.iload_n 2, 1) := by decide +kernel
theorem d_Mod_fullAt_95 : decode b_Mod_fullAt 95 = .ok (.iaload, 1) := by decide +kernel
theorem d_Mod_fullAt_96 : decode b_Mod_fullAt 96 = .ok (.i2l, 1) := by decide +kernel
theorem d_Mod_fullAt_97 : decode b_Mod_fullAt 97 = .ok (.lload_n 3, 1) := by decide +kernel
theorem d_Mod_fullAt_98 : decode b_Mod_fullAt 98 = .ok (.aload_n 0, 1) := by decide +kernel
theorem d_Mod_fullAt_99 : decode b_Mod_fullAt 99 = .ok (.getfield 54, 3) := by decide +kernel
theorem d_Mod_fullAt_102 : decode b_Mod_fullAt 102 = .ok (.iload_n 2, 1) := by decide +kernel
theorem d_Mod_fullAt_103 : decode b_Mod_fullAt 103 = .ok (.iconst 1, 1) := by decide +kernel
theorem d_Mod_fullAt_104 : decode b_Mod_fullAt 104 = .ok (.iadd, 1) := by decide +kernel
theorem d_Mod_fullAt_105 : decode b_Mod_fullAt 105 = .ok (.iaload, 1) := by decide +kernel
theorem d_Mod_fullAt_106 : decode b_Mod_fullAt 106 = .ok (.aload_n 0, 1) := by decide +kernel
theorem d_Mod_fullAt_107 : decode b_Mod_fullAt 107 = .ok (.getfield 54, 3) := by decide +kernel
theorem d_Mod_fullAt_110 : decode b_Mod_fullAt 110 = .ok (.iload_n 2, 1) := by decide +kernel
theorem d_Mod_fullAt_111 : decode b_Mod_fullAt 111 = .ok (.iaload, 1) := by decide +kernel
theorem d_Mod_fullAt_112 : decode b_Mod_fullAt 112 = .ok (.isub, 1) := by decide +kernel
theorem d_Mod_fullAt_113 : decode b_Mod_fullAt 113 = .ok (.i2l, 1) := by decide +kernel
theorem d_Mod_fullAt_114 : decode b_Mod_fullAt 114 = .ok (.ldiv, 1) := by decide +kernel
theorem d_Mod_fullAt_115 : decode b_Mod_fullAt 115 = .ok (.ladd, 1) := by decide +kernel
theorem d_Mod_fullAt_116 : decode b_Mod_fullAt 116 = .ok (.l2i, 1) := by decide +kernel
theorem d_Mod_fullAt_117 : decode b_Mod_fullAt 117 = .ok (.ireturn, 1) := by decide +kernel
abbrev b_Mod_full : ByteArray := prog_13_method_12_code
def y_Mod_full : MethodName := ⟨"WallDampModel", "full", "(I)I"⟩
def ws_Mod_full : List Cond := .code y_Mod_full b_Mod_full 2 (some (.int)) :: x_tb
theorem pd_Mod_full : y_Mod_full.cls ≠ "java/lang/invoke/MethodHandle" ∧ y_Mod_full.cls ≠ "java/lang/invoke/VarHandle" ∧ (parseMethodDescriptor y_Mod_full.desc).map (fun d => d.parameters.length) = some 1 := by decide +kernel
theorem d_Mod_full_0 : decode b_Mod_full 0 = .ok (.aload_n 0, 1) := by decide +kernel
theorem d_Mod_full_1 : decode b_Mod_full 1 = .ok (.iload_n 1, 1) := by decide +kernel
theorem d_Mod_full_2 : decode b_Mod_full 2 = .ok (.i2l, 1) := by decide +kernel
theorem d_Mod_full_3 : decode b_Mod_full 3 = .ok (.ldc2_w 160, 3) := by decide +kernel
theorem d_Mod_full_6 : decode b_Mod_full 6 = .ok (.ldc2_w 141, 3) := by decide +kernel
theorem d_Mod_full_9 : decode b_Mod_full 9 = .ok (.invokestatic 133, 3) := by decide +kernel
theorem d_Mod_full_12 : decode b_Mod_full 12 = .ok (.ifCond .eq 7, 3) := by decide +kernel
theorem d_Mod_full_15 : decode b_Mod_full 15 = .ok (.iconst 0, 1) := by decide +kernel
theorem d_Mod_full_16 : decode b_Mod_full 16 = .ok (.goto 4, 3) := by decide +kernel
theorem d_Mod_full_19 : decode b_Mod_full 19 = .ok (.iconst 1, 1) := by decide +kernel
theorem d_Mod_full_20 : decode b_Mod_full 20 = .ok (.putfield 130, 3) := by decide +kernel
theorem d_Mod_full_23 : decode b_Mod_full 23 = .ok (.aload_n 0, 1) := by decide +kernel
theorem d_Mod_full_24 : decode b_Mod_full 24 = .ok (.getfield 130, 3) := by decide +kernel
theorem d_Mod_full_27 : decode b_Mod_full 27 = .ok (.ifCond .le 7, 3) := by decide +kernel
theorem d_Mod_full_30 : decode b_Mod_full 30 = .ok (.iconst 0, 1) := by decide +kernel
theorem d_Mod_full_31 : decode b_Mod_full 31 = .ok (.goto 8, 3) := by decide +kernel
theorem d_Mod_full_34 : decode b_Mod_full 34 = .ok (.aload_n 0, 1) := by decide +kernel
theorem d_Mod_full_35 : decode b_Mod_full 35 = .ok (.iload_n 1, 1) := by decide +kernel
theorem d_Mod_full_36 : decode b_Mod_full 36 = .ok (.invokevirtual 167, 3) := by decide +kernel
theorem d_Mod_full_39 : decode b_Mod_full 39 = .ok (.ireturn, 1) := by decide +kernel
abbrev b_Mod_films : ByteArray := prog_13_method_13_code
def y_Mod_films : MethodName := ⟨"WallDampModel", "films", "(II)V"⟩
def ws_Mod_films : List Cond := .code y_Mod_films b_Mod_films 3 none :: x_tb
theorem pd_Mod_films : y_Mod_films.cls ≠ "java/lang/invoke/MethodHandle" ∧ y_Mod_films.cls ≠ "java/lang/invoke/VarHandle" ∧ (parseMethodDescriptor y_Mod_films.desc).map (fun d => d.parameters.length) = some 2 := by decide +kernel
theorem d_Mod_films_0 : decode b_Mod_films 0 = .ok (.aload_n 0, 1) := by decide +kernel
theorem d_Mod_films_1 : decode b_Mod_films 1 = .ok (.iload_n 1, 1) := by decide +kernel
theorem d_Mod_films_2 : decode b_Mod_films 2 = .ok (.i2l, 1) := by decide +kernel
theorem d_Mod_films_3 : decode b_Mod_films 3 = .ok (.lconst 0, 1) := by decide +kernel
theorem d_Mod_films_4 : decode b_Mod_films 4 = .ok (.ldc2_w 150, 3) := by decide +kernel
theorem d_Mod_films_7 : decode b_Mod_films 7 = .ok (.invokestatic 133, 3) := by decide +kernel
theorem d_Mod_films_10 : decode b_Mod_films 10 = .ok (.ifCond .eq 19, 3) := by decide +kernel
theorem d_Mod_films_13 : decode b_Mod_films 13 = .ok (.iload_n 2, 1) := by decide +kernel
theorem d_Mod_films_14 : decode b_Mod_films 14 = .ok (.i2l, 1) := by decide +kernel
theorem d_Mod_films_15 : decode b_Mod_films 15 = .ok (.lconst 0, 1) := by decide +kernel
theorem d_Mod_films_16 : decode b_Mod_films 16 = .ok (.ldc2_w 150, 3) := by decide +kernel
theorem d_Mod_films_19 : decode b_Mod_films 19 = .ok (.invokestatic 133, 3) := by decide +kernel
theorem d_Mod_films_22 : decode b_Mod_films 22 = .ok (.ifCond .eq 7, 3) := by decide +kernel
theorem d_Mod_films_25 : decode b_Mod_films 25 = .ok (.iconst 0, 1) := by decide +kernel
theorem d_Mod_films_26 : decode b_Mod_films 26 = .ok (.goto 4, 3) := by decide +kernel
theorem d_Mod_films_29 : decode b_Mod_films 29 = .ok (.iconst 1, 1) := by decide +kernel
theorem d_Mod_films_30 : decode b_Mod_films 30 = .ok (.putfield 130, 3) := by decide +kernel
theorem d_Mod_films_33 : decode b_Mod_films 33 = .ok (.aload_n 0, 1) := by decide +kernel
theorem d_Mod_films_34 : decode b_Mod_films 34 = .ok (.getfield 130, 3) := by decide +kernel
theorem d_Mod_films_37 : decode b_Mod_films 37 = .ok (.ifCond .ne 13, 3) := by decide +kernel
theorem d_Mod_films_40 : decode b_Mod_films 40 = .ok (.aload_n 0, 1) := by decide +kernel
theorem d_Mod_films_41 : decode b_Mod_films 41 = .ok (.iload_n 1, 1) := by decide +kernel
theorem d_Mod_films_42 : decode b_Mod_films 42 = .ok (.putfield 60, 3) := by decide +kernel
theorem d_Mod_films_45 : decode b_Mod_films 45 = .ok (.aload_n 0, 1) := by decide +kernel
theorem d_Mod_films_46 : decode b_Mod_films 46 = .ok (.iload_n 2, 1) := by decide +kernel
theorem d_Mod_films_47 : decode b_Mod_films 47 = .ok (.putfield 64, 3) := by decide +kernel
theorem d_Mod_films_50 : decode b_Mod_films 50 = .ok (.return_, 1) := by decide +kernel
abbrev b_Mod_outside : ByteArray := prog_13_method_14_code
def y_Mod_outside : MethodName := ⟨"WallDampModel", "outside", "(IIIII)V"⟩
def ws_Mod_outside : List Cond := .code y_Mod_outside b_Mod_outside 6 none :: x_tb
theorem pd_Mod_outside : y_Mod_outside.cls ≠ "java/lang/invoke/MethodHandle" ∧ y_Mod_outside.cls ≠ "java/lang/invoke/VarHandle" ∧ (parseMethodDescriptor y_Mod_outside.desc).map (fun d => d.parameters.length) = some 5 := by decide +kernel
theorem d_Mod_outside_0 : decode b_Mod_outside 0 = .ok (.aload_n 0, 1) := by decide +kernel
theorem d_Mod_outside_1 : decode b_Mod_outside 1 = .ok (.iload_n 1, 1) := by decide +kernel
theorem d_Mod_outside_2 : decode b_Mod_outside 2 = .ok (.i2l, 1) := by decide +kernel
theorem d_Mod_outside_3 : decode b_Mod_outside 3 = .ok (.lconst 0, 1) := by decide +kernel
theorem d_Mod_outside_4 : decode b_Mod_outside 4 = .ok (.ldc2_w 170, 3) := by decide +kernel
theorem d_Mod_outside_7 : decode b_Mod_outside 7 = .ok (.invokestatic 133, 3) := by decide +kernel
theorem d_Mod_outside_10 : decode b_Mod_outside 10 = .ok (.ifCond .eq 59, 3) := by decide +kernel
theorem d_Mod_outside_13 : decode b_Mod_outside 13 = .ok (.iload_n 2, 1) := by decide +kernel
theorem d_Mod_outside_14 : decode b_Mod_outside 14 = .ok (.i2l, 1) := by decide +kernel
theorem d_Mod_outside_15 : decode b_Mod_outside 15 = .ok (.ldc2_w 160, 3) := by decide +kernel
theorem d_Mod_outside_18 : decode b_Mod_outside 18 = .ok (.ldc2_w 172, 3) := by decide +kernel
theorem d_Mod_outside_21 : decode b_Mod_outside 21 = .ok (.invokestatic 133, 3) := by decide +kernel
theorem d_Mod_outside_24 : decode b_Mod_outside 24 = .ok (.ifCond .eq 45, 3) := by decide +kernel
theorem d_Mod_outside_27 : decode b_Mod_outside 27 = .ok (.iload_n 3, 1) := by decide +kernel
theorem d_Mod_outside_28 : decode b_Mod_outside 28 = .ok (.i2l, 1) := by decide +kernel
theorem d_Mod_outside_29 : decode b_Mod_outside 29 = .ok (.lconst 0, 1) := by decide +kernel
theorem d_Mod_outside_30 : decode b_Mod_outside 30 = .ok (.ldc2_w 141, 3) := by decide +kernel
theorem d_Mod_outside_33 : decode b_Mod_outside 33 = .ok (.invokestatic 133, 3) := by decide +kernel
theorem d_Mod_outside_36 : decode b_Mod_outside 36 = .ok (.ifCond .eq 33, 3) := by decide +kernel
theorem d_Mod_outside_39 : decode b_Mod_outside 39 = .ok (.iload 4, 2) := by decide +kernel
theorem d_Mod_outside_41 : decode b_Mod_outside 41 = .ok (.i2l, 1) := by decide +kernel
theorem d_Mod_outside_42 : decode b_Mod_outside 42 = .ok (.lconst 0, 1) := by decide +kernel
theorem d_Mod_outside_43 : decode b_Mod_outside 43 = .ok (.ldc2_w 150, 3) := by decide +kernel
theorem d_Mod_outside_46 : decode b_Mod_outside 46 = .ok (.invokestatic 133, 3) := by decide +kernel
theorem d_Mod_outside_49 : decode b_Mod_outside 49 = .ok (.ifCond .eq 20, 3) := by decide +kernel
theorem d_Mod_outside_52 : decode b_Mod_outside 52 = .ok (.iload 5, 2) := by decide +kernel
theorem d_Mod_outside_54 : decode b_Mod_outside 54 = .ok (.i2l, 1) := by decide +kernel
theorem d_Mod_outside_55 : decode b_Mod_outside 55 = .ok (.lconst 0, 1) := by decide +kernel
theorem d_Mod_outside_56 : decode b_Mod_outside 56 = .ok (.ldc2_w 150, 3) := by decide +kernel
theorem d_Mod_outside_59 : decode b_Mod_outside 59 = .ok (.invokestatic 133, 3) := by decide +kernel
theorem d_Mod_outside_62 : decode b_Mod_outside 62 = .ok (.ifCond .eq 7, 3) := by decide +kernel
theorem d_Mod_outside_65 : decode b_Mod_outside 65 = .ok (.iconst 0, 1) := by decide +kernel
theorem d_Mod_outside_66 : decode b_Mod_outside 66 = .ok (.goto 4, 3) := by decide +kernel
theorem d_Mod_outside_69 : decode b_Mod_outside 69 = .ok (.iconst 1, 1) := by decide +kernel
theorem d_Mod_outside_70 : decode b_Mod_outside 70 = .ok (.putfield 130, 3) := by decide +kernel
theorem d_Mod_outside_73 : decode b_Mod_outside 73 = .ok (.aload_n 0, 1) := by decide +kernel
theorem d_Mod_outside_74 : decode b_Mod_outside 74 = .ok (.getfield 130, 3) := by decide +kernel
theorem d_Mod_outside_77 : decode b_Mod_outside 77 = .ok (.ifCond .ne 33, 3) := by decide +kernel
theorem d_Mod_outside_80 : decode b_Mod_outside 80 = .ok (.aload_n 0, 1) := by decide +kernel
theorem d_Mod_outside_81 : decode b_Mod_outside 81 = .ok (.getfield 67, 3) := by decide +kernel
theorem d_Mod_outside_84 : decode b_Mod_outside 84 = .ok (.iload_n 1, 1) := by decide +kernel
theorem d_Mod_outside_85 : decode b_Mod_outside 85 = .ok (.iload_n 2, 1) := by decide +kernel
theorem d_Mod_outside_86 : decode b_Mod_outside 86 = .ok (.iastore, 1) := by decide +kernel
theorem d_Mod_outside_87 : decode b_Mod_outside 87 = .ok (.aload_n 0, 1) := by decide +kernel
theorem d_Mod_outside_88 : decode b_Mod_outside 88 = .ok (.getfield 70, 3) := by decide +kernel
theorem d_Mod_outside_91 : decode b_Mod_outside 91 = .ok (.iload_n 1, 1) := by decide +kernel
theorem d_Mod_outside_92 : decode b_Mod_outside 92 = .ok (.iload_n 3, 1) := by decide +kernel
theorem d_Mod_outside_93 : decode b_Mod_outside 93 = .ok (.iastore, 1) := by decide +kernel
theorem d_Mod_outside_94 : decode b_Mod_outside 94 = .ok (.aload_n 0, 1) := by decide +kernel
theorem d_Mod_outside_95 : decode b_Mod_outside 95 = .ok (.getfield 73, 3) := by decide +kernel
theorem d_Mod_outside_98 : decode b_Mod_outside 98 = .ok (.iload_n 1, 1) := by decide +kernel
theorem d_Mod_outside_99 : decode b_Mod_outside 99 = .ok (.iload 4, 2) := by decide +kernel
theorem d_Mod_outside_101 : decode b_Mod_outside 101 = .ok (.iastore, 1) := by decide +kernel
theorem d_Mod_outside_102 : decode b_Mod_outside 102 = .ok (.aload_n 0, 1) := by decide +kernel
theorem d_Mod_outside_103 : decode b_Mod_outside 103 = .ok (.getfield 76, 3) := by decide +kernel
theorem d_Mod_outside_106 : decode b_Mod_outside 106 = .ok (.iload_n 1, 1) := by decide +kernel
theorem d_Mod_outside_107 : decode b_Mod_outside 107 = .ok (.iload 5, 2) := by decide +kernel
theorem d_Mod_outside_109 : decode b_Mod_outside 109 = .ok (.iastore, 1) := by decide +kernel
theorem d_Mod_outside_110 : decode b_Mod_outside 110 = .ok (.return_, 1) := by decide +kernel
abbrev b_Mod_inside : ByteArray := prog_13_method_15_code
def y_Mod_inside : MethodName := ⟨"WallDampModel", "inside", "(III)V"⟩
def ws_Mod_inside : List Cond := .code y_Mod_inside b_Mod_inside 4 none :: x_tb
theorem pd_Mod_inside : y_Mod_inside.cls ≠ "java/lang/invoke/MethodHandle" ∧ y_Mod_inside.cls ≠ "java/lang/invoke/VarHandle" ∧ (parseMethodDescriptor y_Mod_inside.desc).map (fun d => d.parameters.length) = some 3 := by decide +kernel
theorem d_Mod_inside_0 : decode b_Mod_inside 0 = .ok (.aload_n 0, 1) := by decide +kernel
theorem d_Mod_inside_1 : decode b_Mod_inside 1 = .ok (.iload_n 1, 1) := by decide +kernel
theorem d_Mod_inside_2 : decode b_Mod_inside 2 = .ok (.i2l, 1) := by decide +kernel
theorem d_Mod_inside_3 : decode b_Mod_inside 3 = .ok (.lconst 0, 1) := by decide +kernel
theorem d_Mod_inside_4 : decode b_Mod_inside 4 = .ok (.ldc2_w 170, 3) := by decide +kernel
theorem d_Mod_inside_7 : decode b_Mod_inside 7 = .ok (.invokestatic 133, 3) := by decide +kernel
theorem d_Mod_inside_10 : decode b_Mod_inside 10 = .ok (.ifCond .eq 33, 3) := by decide +kernel
theorem d_Mod_inside_13 : decode b_Mod_inside 13 = .ok (.iload_n 2, 1) := by decide +kernel
theorem d_Mod_inside_14 : decode b_Mod_inside 14 = .ok (.i2l, 1) := by decide +kernel
theorem d_Mod_inside_15 : decode b_Mod_inside 15 = .ok (.ldc2_w 160, 3) := by decide +kernel
theorem d_Mod_inside_18 : decode b_Mod_inside 18 = .ok (.ldc2_w 172, 3) := by decide +kernel
theorem d_Mod_inside_21 : decode b_Mod_inside 21 = .ok (.invokestatic 133, 3) := by decide +kernel
theorem d_Mod_inside_24 : decode b_Mod_inside 24 = .ok (.ifCond .eq 19, 3) := by decide +kernel
theorem d_Mod_inside_27 : decode b_Mod_inside 27 = .ok (.iload_n 3, 1) := by decide +kernel
theorem d_Mod_inside_28 : decode b_Mod_inside 28 = .ok (.i2l, 1) := by decide +kernel
theorem d_Mod_inside_29 : decode b_Mod_inside 29 = .ok (.lconst 0, 1) := by decide +kernel
theorem d_Mod_inside_30 : decode b_Mod_inside 30 = .ok (.ldc2_w 141, 3) := by decide +kernel
theorem d_Mod_inside_33 : decode b_Mod_inside 33 = .ok (.invokestatic 133, 3) := by decide +kernel
theorem d_Mod_inside_36 : decode b_Mod_inside 36 = .ok (.ifCond .eq 7, 3) := by decide +kernel
theorem d_Mod_inside_39 : decode b_Mod_inside 39 = .ok (.iconst 0, 1) := by decide +kernel
theorem d_Mod_inside_40 : decode b_Mod_inside 40 = .ok (.goto 4, 3) := by decide +kernel
theorem d_Mod_inside_43 : decode b_Mod_inside 43 = .ok (.iconst 1, 1) := by decide +kernel
theorem d_Mod_inside_44 : decode b_Mod_inside 44 = .ok (.putfield 130, 3) := by decide +kernel
theorem d_Mod_inside_47 : decode b_Mod_inside 47 = .ok (.aload_n 0, 1) := by decide +kernel
theorem d_Mod_inside_48 : decode b_Mod_inside 48 = .ok (.getfield 130, 3) := by decide +kernel
theorem d_Mod_inside_51 : decode b_Mod_inside 51 = .ok (.ifCond .ne 17, 3) := by decide +kernel
theorem d_Mod_inside_54 : decode b_Mod_inside 54 = .ok (.aload_n 0, 1) := by decide +kernel
theorem d_Mod_inside_55 : decode b_Mod_inside 55 = .ok (.getfield 79, 3) := by decide +kernel
theorem d_Mod_inside_58 : decode b_Mod_inside 58 = .ok (.iload_n 1, 1) := by decide +kernel
theorem d_Mod_inside_59 : decode b_Mod_inside 59 = .ok (.iload_n 2, 1) := by decide +kernel
theorem d_Mod_inside_60 : decode b_Mod_inside 60 = .ok (.iastore, 1) := by decide +kernel
theorem d_Mod_inside_61 : decode b_Mod_inside 61 = .ok (.aload_n 0, 1) := by decide +kernel
theorem d_Mod_inside_62 : decode b_Mod_inside 62 = .ok (.getfield 82, 3) := by decide +kernel
theorem d_Mod_inside_65 : decode b_Mod_inside 65 = .ok (.iload_n 1, 1) := by decide +kernel
theorem d_Mod_inside_66 : decode b_Mod_inside 66 = .ok (.iload_n 3, 1) := by decide +kernel
theorem d_Mod_inside_67 : decode b_Mod_inside 67 = .ok (.iastore, 1) := by decide +kernel
theorem d_Mod_inside_68 : decode b_Mod_inside 68 = .ok (.return_, 1) := by decide +kernel
abbrev b_Mod_water : ByteArray := prog_13_method_16_code
def y_Mod_water : MethodName := ⟨"WallDampModel", "water", "(II)I"⟩
def ws_Mod_water : List Cond := .code y_Mod_water b_Mod_water 4 (some (.int)) :: x_tb
theorem pd_Mod_water : y_Mod_water.cls ≠ "java/lang/invoke/MethodHandle" ∧ y_Mod_water.cls ≠ "java/lang/invoke/VarHandle" ∧ (parseMethodDescriptor y_Mod_water.desc).map (fun d => d.parameters.length) = some 2 := by decide +kernel
theorem d_Mod_water_0 : decode b_Mod_water 0 = .ok (.aload_n 0, 1) := by decide +kernel
theorem d_Mod_water_1 : decode b_Mod_water 1 = .ok (.aload_n 0, 1) := by decide +kernel
theorem d_Mod_water_2 : decode b_Mod_water 2 = .ok (.iload_n 1, 1) := by decide +kernel
theorem d_Mod_water_3 : decode b_Mod_water 3 = .ok (.invokevirtual 152, 3) := by decide +kernel
theorem d_Mod_water_6 : decode b_Mod_water 6 = .ok (.ifCond .eq 27, 3) := by decide +kernel
theorem d_Mod_water_9 : decode b_Mod_water 9 = .ok (.iload_n 2, 1) := by decide +kernel
theorem d_Mod_water_10 : decode b_Mod_water 10 = .ok (.i2l, 1) := by decide +kernel
theorem d_Mod_water_11 : decode b_Mod_water 11 = .ok (.lconst 0, 1) := by decide +kernel
theorem d_Mod_water_12 : decode b_Mod_water 12 = .ok (.aload_n 0, 1) := by decide +kernel
theorem d_Mod_water_13 : decode b_Mod_water 13 = .ok (.aload_n 0, 1) := by decide +kernel
theorem d_Mod_water_14 : decode b_Mod_water 14 = .ok (.getfield 28, 3) := by decide +kernel
theorem d_Mod_water_17 : decode b_Mod_water 17 = .ok (.iload_n 1, 1) := by decide +kernel
theorem d_Mod_water_18 : decode b_Mod_water 18 = .ok (.iaload, 1) := by decide +kernel
theorem d_Mod_water_19 : decode b_Mod_water 19 = .ok (.invokevirtual 143, 3) := by decide +kernel
theorem d_Mod_water_22 : decode b_Mod_water 22 = .ok (.i2l, 1) := by decide +kernel
theorem d_Mod_water_23 : decode b_Mod_water 23 = .ok (.invokestatic 133, 3) := by decide +kernel
theorem d_Mod_water_26 : decode b_Mod_water 26 = .ok (.ifCond .eq 7, 3) := by decide +kernel
theorem d_Mod_water_29 : decode b_Mod_water 29 = .ok (.iconst 0, 1) := by decide +kernel
theorem d_Mod_water_30 : decode b_Mod_water 30 = .ok (.goto 4, 3) := by decide +kernel
theorem d_Mod_water_33 : decode b_Mod_water 33 = .ok (.iconst 1, 1) := by decide +kernel
theorem d_Mod_water_34 : decode b_Mod_water 34 = .ok (.putfield 130, 3) := by decide +kernel
theorem d_Mod_water_37 : decode b_Mod_water 37 = .ok (.aload_n 0, 1) := by decide +kernel
theorem d_Mod_water_38 : decode b_Mod_water 38 = .ok (.getfield 130, 3) := by decide +kernel
theorem d_Mod_water_41 : decode b_Mod_water 41 = .ok (.ifCond .le 5, 3) := by decide +kernel
theorem d_Mod_water_44 : decode b_Mod_water 44 = .ok (.iconst 0, 1) := by decide +kernel
theorem d_Mod_water_45 : decode b_Mod_water 45 = .ok (.ireturn, 1) := by decide +kernel
theorem d_Mod_water_46 : decode b_Mod_water 46 = .ok (.aload_n 0, 1) := by decide +kernel
theorem d_Mod_water_47 : decode b_Mod_water 47 = .ok (.getfield 34, 3) := by decide +kernel
theorem d_Mod_water_50 : decode b_Mod_water 50 = .ok (.iload_n 1, 1) := by decide +kernel
theorem d_Mod_water_51 : decode b_Mod_water 51 = .ok (.laload, 1) := by decide +kernel
theorem d_Mod_water_52 : decode b_Mod_water 52 = .ok (.l2i, 1) := by decide +kernel
theorem d_Mod_water_53 : decode b_Mod_water 53 = .ok (.istore_n 3, 1) := by decide +kernel
theorem d_Mod_water_54 : decode b_Mod_water 54 = .ok (.aload_n 0, 1) := by decide +kernel
theorem d_Mod_water_55 : decode b_Mod_water 55 = .ok (.dup, 1) := by decide +kernel
theorem d_Mod_water_56 : decode b_Mod_water 56 = .ok (.getfield 156, 3) := by decide +kernel
theorem d_Mod_water_59 : decode b_Mod_water 59 = .ok (.iload_n 2, 1) := by decide +kernel
theorem d_Mod_water_60 : decode b_Mod_water 60 = .ok (.iload_n 3, 1) := by decide +kernel
theorem d_Mod_water_61 : decode b_Mod_water 61 = .ok (.isub, 1) := by decide +kernel
theorem d_Mod_water_62 : decode b_Mod_water 62 = .ok (.i2l, 1) := by decide +kernel
theorem d_Mod_water_63 : decode b_Mod_water 63 = .ok (.ladd, 1) := by decide +kernel
theorem d_Mod_water_64 : decode b_Mod_water 64 = .ok (.putfield 156, 3) := by decide +kernel
theorem d_Mod_water_67 : decode b_Mod_water 67 = .ok (.aload_n 0, 1) := by decide +kernel
theorem d_Mod_water_68 : decode b_Mod_water 68 = .ok (.getfield 34, 3) := by decide +kernel
theorem d_Mod_water_71 : decode b_Mod_water 71 = .ok (.iload_n 1, 1) := by decide +kernel
theorem d_Mod_water_72 : decode b_Mod_water 72 = .ok (.iload_n 2, 1) := by decide +kernel
theorem d_Mod_water_73 : decode b_Mod_water 73 = .ok (.i2l, 1) := by decide +kernel
theorem d_Mod_water_74 : decode b_Mod_water 74 = .ok (.lastore, 1) := by decide +kernel
theorem d_Mod_water_75 : decode b_Mod_water 75 = .ok (.iload_n 3, 1) := by decide +kernel
theorem d_Mod_water_76 : decode b_Mod_water 76 = .ok (.ireturn, 1) := by decide +kernel
abbrev b_Mod_leak : ByteArray := prog_13_method_17_code
def y_Mod_leak : MethodName := ⟨"WallDampModel", "leak", "(II)I"⟩
def ws_Mod_leak : List Cond := .code y_Mod_leak b_Mod_leak 4 (some (.int)) :: x_tb
theorem pd_Mod_leak : y_Mod_leak.cls ≠ "java/lang/invoke/MethodHandle" ∧ y_Mod_leak.cls ≠ "java/lang/invoke/VarHandle" ∧ (parseMethodDescriptor y_Mod_leak.desc).map (fun d => d.parameters.length) = some 2 := by decide +kernel
theorem d_Mod_leak_0 : decode b_Mod_leak 0 = .ok (.aload_n 0, 1) := by decide +kernel
theorem d_Mod_leak_1 : decode b_Mod_leak 1 = .ok (.aload_n 0, 1) := by decide +kernel
theorem d_Mod_leak_2 : decode b_Mod_leak 2 = .ok (.iload_n 1, 1) := by decide +kernel
theorem d_Mod_leak_3 : decode b_Mod_leak 3 = .ok (.invokevirtual 152, 3) := by decide +kernel
theorem d_Mod_leak_6 : decode b_Mod_leak 6 = .ok (.ifCond .eq 19, 3) := by decide +kernel
theorem d_Mod_leak_9 : decode b_Mod_leak 9 = .ok (.iload_n 2, 1) := by decide +kernel
theorem d_Mod_leak_10 : decode b_Mod_leak 10 = .ok (.i2l, 1) := by decide +kernel
theorem d_Mod_leak_11 : decode b_Mod_leak 11 = .ok (.lconst 0, 1) := by decide +kernel
theorem d_Mod_leak_12 : decode b_Mod_leak 12 = .ok (.ldc2_w 150, 3) := by decide +kernel
theorem d_Mod_leak_15 : decode b_Mod_leak 15 = .ok (.invokestatic 133, 3) := by decide +kernel
theorem d_Mod_leak_18 : decode b_Mod_leak 18 = .ok (.ifCond .eq 7, 3) := by decide +kernel
theorem d_Mod_leak_21 : decode b_Mod_leak 21 = .ok (.iconst 0, 1) := by decide +kernel
theorem d_Mod_leak_22 : decode b_Mod_leak 22 = .ok (.goto 4, 3) := by decide +kernel
theorem d_Mod_leak_25 : decode b_Mod_leak 25 = .ok (.iconst 1, 1) := by decide +kernel
theorem d_Mod_leak_26 : decode b_Mod_leak 26 = .ok (.putfield 130, 3) := by decide +kernel
theorem d_Mod_leak_29 : decode b_Mod_leak 29 = .ok (.aload_n 0, 1) := by decide +kernel
theorem d_Mod_leak_30 : decode b_Mod_leak 30 = .ok (.getfield 130, 3) := by decide +kernel
theorem d_Mod_leak_33 : decode b_Mod_leak 33 = .ok (.ifCond .le 5, 3) := by decide +kernel
theorem d_Mod_leak_36 : decode b_Mod_leak 36 = .ok (.iconst 0, 1) := by decide +kernel
theorem d_Mod_leak_37 : decode b_Mod_leak 37 = .ok (.ireturn, 1) := by decide +kernel
theorem d_Mod_leak_38 : decode b_Mod_leak 38 = .ok (.aload_n 0, 1) := by decide +kernel
theorem d_Mod_leak_39 : decode b_Mod_leak 39 = .ok (.getfield 38, 3) := by decide +kernel
theorem d_Mod_leak_42 : decode b_Mod_leak 42 = .ok (.iload_n 1, 1) := by decide +kernel
theorem d_Mod_leak_43 : decode b_Mod_leak 43 = .ok (.iaload, 1) := by decide +kernel
theorem d_Mod_leak_44 : decode b_Mod_leak 44 = .ok (.istore_n 3, 1) := by decide +kernel
theorem d_Mod_leak_45 : decode b_Mod_leak 45 = .ok (.aload_n 0, 1) := by decide +kernel
theorem d_Mod_leak_46 : decode b_Mod_leak 46 = .ok (.getfield 38, 3) := by decide +kernel
theorem d_Mod_leak_49 : decode b_Mod_leak 49 = .ok (.iload_n 1, 1) := by decide +kernel
theorem d_Mod_leak_50 : decode b_Mod_leak 50 = .ok (.iload_n 2, 1) := by decide +kernel
theorem d_Mod_leak_51 : decode b_Mod_leak 51 = .ok (.iastore, 1) := by decide +kernel
theorem d_Mod_leak_52 : decode b_Mod_leak 52 = .ok (.iload_n 3, 1) := by decide +kernel
theorem d_Mod_leak_53 : decode b_Mod_leak 53 = .ok (.ireturn, 1) := by decide +kernel
abbrev b_Mod_growth : ByteArray := prog_13_method_18_code
def y_Mod_growth : MethodName := ⟨"WallDampModel", "growth", "(IIII)I"⟩
def ws_Mod_growth : List Cond := .code y_Mod_growth b_Mod_growth 6 (some (.int)) :: x_tb
theorem pd_Mod_growth : y_Mod_growth.cls ≠ "java/lang/invoke/MethodHandle" ∧ y_Mod_growth.cls ≠ "java/lang/invoke/VarHandle" ∧ (parseMethodDescriptor y_Mod_growth.desc).map (fun d => d.parameters.length) = some 4 := by decide +kernel
theorem d_Mod_growth_0 : decode b_Mod_growth 0 = .ok (.iload_n 1, 1) := by decide +kernel
theorem d_Mod_growth_1 : decode b_Mod_growth 1 = .ok (.i2l, 1) := by decide +kernel
theorem d_Mod_growth_2 : decode b_Mod_growth 2 = .ok (.lconst 0, 1) := by decide +kernel
theorem d_Mod_growth_3 : decode b_Mod_growth 3 = .ok (.ldc2_w 141, 3) := by decide +kernel
theorem d_Mod_growth_6 : decode b_Mod_growth 6 = .ok (.invokestatic 133, 3) := by decide +kernel
theorem d_Mod_growth_9 : decode b_Mod_growth 9 = .ok (.ifCond .eq 53, 3) := by decide +kernel
theorem d_Mod_growth_12 : decode b_Mod_growth 12 = .ok (.iload_n 2, 1) := by decide +kernel
theorem d_Mod_growth_13 : decode b_Mod_growth 13 = .ok (.i2l, 1) := by decide +kernel
theorem d_Mod_growth_14 : decode b_Mod_growth 14 = .ok (.ldc2_w 160, 3) := by decide +kernel
theorem d_Mod_growth_17 : decode b_Mod_growth 17 = .ok (.ldc2_w 141, 3) := by decide +kernel
theorem d_Mod_growth_20 : decode b_Mod_growth 20 = .ok (.invokestatic 133, 3) := by decide +kernel
theorem d_Mod_growth_23 : decode b_Mod_growth 23 = .ok (.ifCond .eq 39, 3) := by decide +kernel
theorem d_Mod_growth_26 : decode b_Mod_growth 26 = .ok (.iload_n 3, 1) := by decide +kernel
theorem d_Mod_growth_27 : decode b_Mod_growth 27 = .ok (.i2l, 1) := by decide +kernel
theorem d_Mod_growth_28 : decode b_Mod_growth 28 = .ok (.ldc2_w 160, 3) := by decide +kernel
theorem d_Mod_growth_31 : decode b_Mod_growth 31 = .ok (.ldc2_w 141, 3) := by decide +kernel
theorem d_Mod_growth_34 : decode b_Mod_growth 34 = .ok (.invokestatic 133, 3) := by decide +kernel
theorem d_Mod_growth_37 : decode b_Mod_growth 37 = .ok (.ifCond .eq 25, 3) := by decide +kernel
theorem d_Mod_growth_40 : decode b_Mod_growth 40 = .ok (.iload_n 2, 1) := by decide +kernel
theorem d_Mod_growth_41 : decode b_Mod_growth 41 = .ok (.iload_n 3, 1) := by decide +kernel
theorem d_Mod_growth_42 : decode b_Mod_growth 42 = .ok (.if_icmp .gt 20, 3) := by decide +kernel
theorem d_Mod_growth_45 : decode b_Mod_growth 45 = .ok (.iload 4, 2) := by decide +kernel
theorem d_Mod_growth_47 : decode b_Mod_growth 47 = .ok (.i2l, 1) := by decide +kernel
theorem d_Mod_growth_48 : decode b_Mod_growth 48 = .ok (.lconst 1, 1) := by decide +kernel
theorem d_Mod_growth_49 : decode b_Mod_growth 49 = .ok (.ldc2_w 150, 3) := by decide +kernel
theorem d_Mod_growth_52 : decode b_Mod_growth 52 = .ok (.invokestatic 133, 3) := by decide +kernel
theorem d_Mod_growth_55 : decode b_Mod_growth 55 = .ok (.ifCond .eq 7, 3) := by decide +kernel
theorem d_Mod_growth_58 : decode b_Mod_growth 58 = .ok (.iconst 1, 1) := by decide +kernel
theorem d_Mod_growth_59 : decode b_Mod_growth 59 = .ok (.goto 4, 3) := by decide +kernel
theorem d_Mod_growth_62 : decode b_Mod_growth 62 = .ok (.iconst 0, 1) := by decide +kernel
theorem d_Mod_growth_63 : decode b_Mod_growth 63 = .ok (.istore 5, 2) := by decide +kernel
theorem d_Mod_growth_65 : decode b_Mod_growth 65 = .ok (.aload_n 0, 1) := by decide +kernel
theorem d_Mod_growth_66 : decode b_Mod_growth 66 = .ok (.iload 5, 2) := by decide +kernel
theorem d_Mod_growth_68 : decode b_Mod_growth 68 = .ok (.ifCond .ne 7, 3) := by decide +kernel
theorem d_Mod_growth_71 : decode b_Mod_growth 71 = .ok (.iconst 1, 1) := by decide +kernel
theorem d_Mod_growth_72 : decode b_Mod_growth 72 = .ok (.goto 17, 3) := by decide +kernel
theorem d_Mod_growth_75 : decode b_Mod_growth 75 = .ok (.aload_n 0, 1) := by decide +kernel
theorem d_Mod_growth_76 : decode b_Mod_growth 76 = .ok (.getfield 174, 3) := by decide +kernel
theorem d_Mod_growth_79 : decode b_Mod_growth 79 = .ok (.bipush 6, 2) := by decide +kernel
theorem d_Mod_growth_81 : decode b_Mod_growth 81 = .ok (.if_icmp .ne 7, 3) := by decide +kernel
theorem d_Mod_growth_84 : decode b_Mod_growth 84 = .ok (.iconst 2, 1) := by decide +kernel
theorem d_Mod_growth_85 : decode b_Mod_growth 85 = .ok (.goto 4, 3) := by decide +kernel
theorem d_Mod_growth_88 : decode b_Mod_growth 88 = .ok (.iconst 0, 1) := by decide +kernel
theorem d_Mod_growth_89 : decode b_Mod_growth 89 = .ok (.putfield 130, 3) := by decide +kernel
theorem d_Mod_growth_92 : decode b_Mod_growth 92 = .ok (.aload_n 0, 1) := by decide +kernel
theorem d_Mod_growth_93 : decode b_Mod_growth 93 = .ok (.getfield 130, 3) := by decide +kernel
theorem d_Mod_growth_96 : decode b_Mod_growth 96 = .ok (.ifCond .le 5, 3) := by decide +kernel
theorem d_Mod_growth_99 : decode b_Mod_growth 99 = .ok (.iconst 0, 1) := by decide +kernel
theorem d_Mod_growth_100 : decode b_Mod_growth 100 = .ok (.ireturn, 1) := by decide +kernel
theorem d_Mod_growth_101 : decode b_Mod_growth 101 = .ok (.aload_n 0, 1) := by decide +kernel
theorem d_Mod_growth_102 : decode b_Mod_growth 102 = .ok (.getfield 85, 3) := by decide +kernel
theorem d_Mod_growth_105 : decode b_Mod_growth 105 = .ok (.aload_n 0, 1) := by decide +kernel
theorem d_Mod_growth_106 : decode b_Mod_growth 106 = .ok (.getfield 174, 3) := by decide +kernel
theorem d_Mod_growth_109 : decode b_Mod_growth 109 = .ok (.iload_n 1, 1) := by decide +kernel
theorem d_Mod_growth_110 : decode b_Mod_growth 110 = .ok (.iastore, 1) := by decide +kernel
theorem d_Mod_growth_111 : decode b_Mod_growth 111 = .ok (.aload_n 0, 1) := by decide +kernel
theorem d_Mod_growth_112 : decode b_Mod_growth 112 = .ok (.getfield 88, 3) := by decide +kernel
theorem d_Mod_growth_115 : decode b_Mod_growth 115 = .ok (.aload_n 0, 1) := by decide +kernel
theorem d_Mod_growth_116 : decode b_Mod_growth 116 = .ok (.getfield 174, 3) := by decide +kernel
theorem d_Mod_growth_119 : decode b_Mod_growth 119 = .ok (.iload_n 2, 1) := by decide +kernel
theorem d_Mod_growth_120 : decode b_Mod_growth 120 = .ok (.iastore, 1) := by decide +kernel
theorem d_Mod_growth_121 : decode b_Mod_growth 121 = .ok (.aload_n 0, 1) := by decide +kernel
theorem d_Mod_growth_122 : decode b_Mod_growth 122 = .ok (.getfield 91, 3) := by decide +kernel
theorem d_Mod_growth_125 : decode b_Mod_growth 125 = .ok (.aload_n 0, 1) := by decide +kernel
theorem d_Mod_growth_126 : decode b_Mod_growth 126 = .ok (.getfield 174, 3) := by decide +kernel
theorem d_Mod_growth_129 : decode b_Mod_growth 129 = .ok (.iload_n 3, 1) := by decide +kernel
theorem d_Mod_growth_130 : decode b_Mod_growth 130 = .ok (.iastore, 1) := by decide +kernel
theorem d_Mod_growth_131 : decode b_Mod_growth 131 = .ok (.aload_n 0, 1) := by decide +kernel
theorem d_Mod_growth_132 : decode b_Mod_growth 132 = .ok (.getfield 94, 3) := by decide +kernel
theorem d_Mod_growth_135 : decode b_Mod_growth 135 = .ok (.aload_n 0, 1) := by decide +kernel
theorem d_Mod_growth_136 : decode b_Mod_growth 136 = .ok (.getfield 174, 3) := by decide +kernel
theorem d_Mod_growth_139 : decode b_Mod_growth 139 = .ok (.iload 4, 2) := by decide +kernel
theorem d_Mod_growth_141 : decode b_Mod_growth 141 = .ok (.iastore, 1) := by decide +kernel
theorem d_Mod_growth_142 : decode b_Mod_growth 142 = .ok (.aload_n 0, 1) := by decide +kernel
theorem d_Mod_growth_143 : decode b_Mod_growth 143 = .ok (.dup, 1) := by decide +kernel
theorem d_Mod_growth_144 : decode b_Mod_growth 144 = .ok (.getfield 174, 3) := by decide +kernel
theorem d_Mod_growth_147 : decode b_Mod_growth 147 = .ok (.iconst 1, 1) := by decide +kernel
theorem d_Mod_growth_148 : decode b_Mod_growth 148 = .ok (.iadd, 1) := by decide +kernel
theorem d_Mod_growth_149 : decode b_Mod_growth 149 = .ok (.putfield 174, 3) := by decide +kernel
theorem d_Mod_growth_152 : decode b_Mod_growth 152 = .ok (.aload_n 0, 1) := by decide +kernel
theorem d_Mod_growth_153 : decode b_Mod_growth 153 = .ok (.getfield 174, 3) := by decide +kernel
theorem d_Mod_growth_156 : decode b_Mod_growth 156 = .ok (.ireturn, 1) := by decide +kernel
abbrev b_Mod_dampOf : ByteArray := prog_13_method_19_code
def y_Mod_dampOf : MethodName := ⟨"WallDampModel", "dampOf", "(I)I"⟩
def ws_Mod_dampOf : List Cond := .code y_Mod_dampOf b_Mod_dampOf 4 (some (.int)) :: x_tb
theorem pd_Mod_dampOf : y_Mod_dampOf.cls ≠ "java/lang/invoke/MethodHandle" ∧ y_Mod_dampOf.cls ≠ "java/lang/invoke/VarHandle" ∧ (parseMethodDescriptor y_Mod_dampOf.desc).map (fun d => d.parameters.length) = some 1 := by decide +kernel
theorem d_Mod_dampOf_0 : decode b_Mod_dampOf 0 = .ok (.bipush 7, 2) := by decide +kernel
theorem d_Mod_dampOf_2 : decode b_Mod_dampOf 2 = .ok (.aload_n 0, 1) := by decide +kernel
theorem d_Mod_dampOf_3 : decode b_Mod_dampOf 3 = .ok (.getfield 28, 3) := by decide +kernel
theorem d_Mod_dampOf_6 : decode b_Mod_dampOf 6 = .ok (.iload_n 1, 1) := by decide +kernel
theorem d_Mod_dampOf_7 : decode b_Mod_dampOf 7 = .ok (.iaload, 1) := by decide +kernel
theorem d_Mod_dampOf_8 : decode b_Mod_dampOf 8 = .ok (.imul, 1) := by decide +kernel
theorem d_Mod_dampOf_9 : decode b_Mod_dampOf 9 = .ok (.istore_n 2, 1) := by decide +kernel
theorem d_Mod_dampOf_10 : decode b_Mod_dampOf 10 = .ok (.aload_n 0, 1) := by decide +kernel
theorem d_Mod_dampOf_11 : decode b_Mod_dampOf 11 = .ok (.getfield 7, 3) := by decide +kernel
theorem d_Mod_dampOf_14 : decode b_Mod_dampOf 14 = .ok (.aload_n 0, 1) := by decide +kernel
theorem d_Mod_dampOf_15 : decode b_Mod_dampOf 15 = .ok (.getfield 28, 3) := by decide +kernel
theorem d_Mod_dampOf_18 : decode b_Mod_dampOf 18 = .ok (.iload_n 1, 1) := by decide +kernel
theorem d_Mod_dampOf_19 : decode b_Mod_dampOf 19 = .ok (.iaload, 1) := by decide +kernel
theorem d_Mod_dampOf_20 : decode b_Mod_dampOf 20 = .ok (.iaload, 1) := by decide +kernel
theorem d_Mod_dampOf_21 : decode b_Mod_dampOf 21 = .ok (.iconst 1, 1) := by decide +kernel
theorem d_Mod_dampOf_22 : decode b_Mod_dampOf 22 = .ok (.isub, 1) := by decide +kernel
theorem d_Mod_dampOf_23 : decode b_Mod_dampOf 23 = .ok (.istore_n 3, 1) := by decide +kernel
theorem d_Mod_dampOf_24 : decode b_Mod_dampOf 24 = .ok (.iload_n 3, 1) := by decide +kernel
theorem d_Mod_dampOf_25 : decode b_Mod_dampOf 25 = .ok (.ifCond .le 28, 3) := by decide +kernel
theorem d_Mod_dampOf_28 : decode b_Mod_dampOf 28 = .ok (.aload_n 0, 1) := by decide +kernel
theorem d_Mod_dampOf_29 : decode b_Mod_dampOf 29 = .ok (.getfield 13, 3) := by decide +kernel
theorem d_Mod_dampOf_32 : decode b_Mod_dampOf 32 = .ok (.iload_n 2, 1) := by decide +kernel
theorem d_Mod_dampOf_33 : decode b_Mod_dampOf 33 = .ok (.iload_n 3, 1) := by decide +kernel
theorem d_Mod_dampOf_34 : decode b_Mod_dampOf 34 = .ok (.iadd, 1) := by decide +kernel
theorem d_Mod_dampOf_35 : decode b_Mod_dampOf 35 = .ok (.iaload, 1) := by decide +kernel
theorem d_Mod_dampOf_36 : decode b_Mod_dampOf 36 = .ok (.i2l, 1) := by decide +kernel
theorem d_Mod_dampOf_37 : decode b_Mod_dampOf 37 = .ok (.aload_n 0, 1) := by decide +kernel
theorem d_Mod_dampOf_38 : decode b_Mod_dampOf 38 = .ok (.getfield 34, 3) := by decide +kernel
theorem d_Mod_dampOf_41 : decode b_Mod_dampOf 41 = .ok (.iload_n 1, 1) := by decide +kernel
theorem d_Mod_dampOf_42 : decode b_Mod_dampOf 42 = .ok (.laload, 1) := by decide +kernel
theorem d_Mod_dampOf_43 : decode b_Mod_dampOf 43 = .ok (.lcmp, 1) := by decide +kernel
theorem d_Mod_dampOf_44 : decode b_Mod_dampOf 44 = .ok (.ifCond .le 9, 3) := by decide +kernel
theorem d_Mod_dampOf_47 : decode b_Mod_dampOf 47 = .ok (.iinc 3 (-1), 3) := by decide +kernel
theorem d_Mod_dampOf_50 : decode b_Mod_dampOf 50 = .ok (.goto (-26), 3) := by decide +kernel
theorem d_Mod_dampOf_53 : decode b_Mod_dampOf 53 = .ok (.iload_n 3, 1) := by decide +kernel
theorem d_Mod_dampOf_54 : decode b_Mod_dampOf 54 = .ok (.aload_n 0, 1) := by decide +kernel
theorem d_Mod_dampOf_55 : decode b_Mod_dampOf 55 = .ok (.getfield 7, 3) := by decide +kernel
theorem d_Mod_dampOf_58 : decode b_Mod_dampOf 58 = .ok (.aload_n 0, 1) := by decide +kernel
theorem d_Mod_dampOf_59 : decode b_Mod_dampOf 59 = .ok (.getfield 28, 3) := by decide +kernel
theorem d_Mod_dampOf_62 : decode b_Mod_dampOf 62 = .ok (.iload_n 1, 1) := by decide +kernel
theorem d_Mod_dampOf_63 : decode b_Mod_dampOf 63 = .ok (.iaload, 1) := by decide +kernel
theorem d_Mod_dampOf_64 : decode b_Mod_dampOf 64 = .ok (.iaload, 1) := by decide +kernel
theorem d_Mod_dampOf_65 : decode b_Mod_dampOf 65 = .ok (.iconst 1, 1) := by decide +kernel
theorem d_Mod_dampOf_66 : decode b_Mod_dampOf 66 = .ok (.isub, 1) := by decide +kernel
theorem d_Mod_dampOf_67 : decode b_Mod_dampOf 67 = .ok (.if_icmp .ne 12, 3) := by decide +kernel
theorem d_Mod_dampOf_70 : decode b_Mod_dampOf 70 = .ok (.aload_n 0, 1) := by decide +kernel
theorem d_Mod_dampOf_71 : decode b_Mod_dampOf 71 = .ok (.getfield 16, 3) := by decide +kernel
theorem d_Mod_dampOf_74 : decode b_Mod_dampOf 74 = .ok (.iload_n 2, 1) := by decide +kernel
theorem d_Mod_dampOf_75 : decode b_Mod_dampOf 75 = .ok (.iload_n 3, 1) := by decide +kernel
theorem d_Mod_dampOf_76 : decode b_Mod_dampOf 76 = .ok (.iadd, 1) := by decide +kernel
theorem d_Mod_dampOf_77 : decode b_Mod_dampOf 77 = .ok (.iaload, 1) := by decide +kernel
theorem d_Mod_dampOf_78 : decode b_Mod_dampOf 78 = .ok (.ireturn, 1) := by decide +kernel
theorem d_Mod_dampOf_79 : decode b_Mod_dampOf 79 = .ok (.aload_n 0, 1) := by decide +kernel
theorem d_Mod_dampOf_80 : decode b_Mod_dampOf 80 = .ok (.getfield 16, 3) := by decide +kernel
theorem d_Mod_dampOf_83 : decode b_Mod_dampOf 83 = .ok (.iload_n 2, 1) := by decide +kernel
theorem d_Mod_dampOf_84 : decode b_Mod_dampOf 84 = .ok (.iload_n 3, 1) := by decide +kernel
theorem d_Mod_dampOf_85 : decode b_Mod_dampOf 85 = .ok (.iadd, 1) := by decide +kernel
theorem d_Mod_dampOf_86 : decode b_Mod_dampOf 86 = .ok (.iaload, 1) := by decide +kernel
theorem d_Mod_dampOf_87 : decode b_Mod_dampOf 87 = .ok (.i2l, 1) := by decide +kernel
theorem d_Mod_dampOf_88 : decode b_Mod_dampOf 88 = .ok (.aload_n 0, 1) := by decide +kernel
theorem d_Mod_dampOf_89 : decode b_Mod_dampOf 89 = .ok (.getfield 16, 3) := by decide +kernel
theorem d_Mod_dampOf_92 : decode b_Mod_dampOf 92 = .ok (.iload_n 2, 1) := by decide +kernel
theorem d_Mod_dampOf_93 : decode b_Mod_dampOf 93 = .ok (.iload_n 3, 1) := by decide +kernel
theorem d_Mod_dampOf_94 : decode b_Mod_dampOf 94 = .ok (.iadd, 1) := by decide +kernel
theorem d_Mod_dampOf_95 : decode b_Mod_dampOf 95 = .ok (.iconst 1, 1) := by decide +kernel
theorem d_Mod_dampOf_96 : decode b_Mod_dampOf 96 = .ok (.iadd, 1) := by decide +kernel
theorem d_Mod_dampOf_97 : decode b_Mod_dampOf 97 = .ok (.iaload, 1) := by decide +kernel
theorem d_Mod_dampOf_98 : decode b_Mod_dampOf 98 = .ok (.aload_n 0, 1) := by decide +kernel
theorem d_Mod_dampOf_99 : decode b_Mod_dampOf 99 = .ok (.getfield 16, 3) := by decide +kernel
theorem d_Mod_dampOf_102 : decode b_Mod_dampOf 102 = .ok (.iload_n 2, 1) := by decide +kernel
theorem d_Mod_dampOf_103 : decode b_Mod_dampOf 103 = .ok (.iload_n 3, 1) := by decide +kernel
theorem d_Mod_dampOf_104 : decode b_Mod_dampOf 104 = .ok (.iadd, 1) := by decide +kernel
theorem d_Mod_dampOf_105 : decode b_Mod_dampOf 105 = .ok (.iaload, 1) := by decide +kernel
theorem d_Mod_dampOf_106 : decode b_Mod_dampOf 106 = .ok (.isub, 1) := by decide +kernel
theorem d_Mod_dampOf_107 : decode b_Mod_dampOf 107 = .ok (.i2l, 1) := by decide +kernel
theorem d_Mod_dampOf_108 : decode b_Mod_dampOf 108 = .ok (.aload_n 0, 1) := by decide +kernel
theorem d_Mod_dampOf_109 : decode b_Mod_dampOf 109 = .ok (.getfield 34, 3) := by decide +kernel
theorem d_Mod_dampOf_112 : decode b_Mod_dampOf 112 = .ok (.iload_n 1, 1) := by decide +kernel
theorem d_Mod_dampOf_113 : decode b_Mod_dampOf 113 = .ok (.laload, 1) := by decide +kernel
theorem d_Mod_dampOf_114 : decode b_Mod_dampOf 114 = .ok (.aload_n 0, 1) := by decide +kernel
theorem d_Mod_dampOf_115 : decode b_Mod_dampOf 115 = .ok (.getfield 13, 3) := by decide +kernel
theorem d_Mod_dampOf_118 : decode b_Mod_dampOf 118 = .ok (.iload_n 2, 1) := by decide +kernel
theorem d_Mod_dampOf_119 : decode b_Mod_dampOf 119 = .ok (.iload_n 3, 1) := by decide +kernel
theorem d_Mod_dampOf_120 : decode b_Mod_dampOf 120 = .ok (.iadd, 1) := by decide +kernel
theorem d_Mod_dampOf_121 : decode b_Mod_dampOf 121 = .ok (.iaload, 1) := by decide +kernel
theorem d_Mod_dampOf_122 : decode b_Mod_dampOf 122 = .ok (.i2l, 1) := by decide +kernel
theorem d_Mod_dampOf_123 : decode b_Mod_dampOf 123 = .ok (.lsub, 1) := by decide +kernel
theorem d_Mod_dampOf_124 : decode b_Mod_dampOf 124 = .ok (.lmul, 1) := by decide +kernel
theorem d_Mod_dampOf_125 : decode b_Mod_dampOf 125 = .ok (.aload_n 0, 1) := by decide +kernel
theorem d_Mod_dampOf_126 : decode b_Mod_dampOf 126 = .ok (.getfield 13, 3) := by decide +kernel
theorem d_Mod_dampOf_129 : decode b_Mod_dampOf 129 = .ok (.iload_n 2, 1) := by decide +kernel
theorem d_Mod_dampOf_130 : decode b_Mod_dampOf 130 = .ok (.iload_n 3, 1) := by decide +kernel
theorem d_Mod_dampOf_131 : decode b_Mod_dampOf 131 = .ok (.iadd, 1) := by decide +kernel
theorem d_Mod_dampOf_132 : decode b_Mod_dampOf 132 = .ok (.iconst 1, 1) := by decide +kernel
theorem d_Mod_dampOf_133 : decode b_Mod_dampOf 133 = .ok (.iadd, 1) := by decide +kernel
theorem d_Mod_dampOf_134 : decode b_Mod_dampOf 134 = .ok (.iaload, 1) := by decide +kernel
theorem d_Mod_dampOf_135 : decode b_Mod_dampOf 135 = .ok (.aload_n 0, 1) := by decide +kernel
theorem d_Mod_dampOf_136 : decode b_Mod_dampOf 136 = .ok (.getfield 13, 3) := by decide +kernel
theorem d_Mod_dampOf_139 : decode b_Mod_dampOf 139 = .ok (.iload_n 2, 1) := by decide +kernel
theorem d_Mod_dampOf_140 : decode b_Mod_dampOf 140 = .ok (.iload_n 3, 1) := by decide +kernel
theorem d_Mod_dampOf_141 : decode b_Mod_dampOf 141 = .ok (.iadd, 1) := by decide +kernel
theorem d_Mod_dampOf_142 : decode b_Mod_dampOf 142 = .ok (.iaload, 1) := by decide +kernel
theorem d_Mod_dampOf_143 : decode b_Mod_dampOf 143 = .ok (.isub, 1) := by decide +kernel
theorem d_Mod_dampOf_144 : decode b_Mod_dampOf 144 = .ok (.i2l, 1) := by decide +kernel
theorem d_Mod_dampOf_145 : decode b_Mod_dampOf 145 = .ok (.ldiv, 1) := by decide +kernel
theorem d_Mod_dampOf_146 : decode b_Mod_dampOf 146 = .ok (.ladd, 1) := by decide +kernel
theorem d_Mod_dampOf_147 : decode b_Mod_dampOf 147 = .ok (.l2i, 1) := by decide +kernel
theorem d_Mod_dampOf_148 : decode b_Mod_dampOf 148 = .ok (.ireturn, 1) := by decide +kernel
abbrev b_Mod_resistance : ByteArray := prog_13_method_20_code
def y_Mod_resistance : MethodName := ⟨"WallDampModel", "resistance", "(I)I"⟩
def ws_Mod_resistance : List Cond := .code y_Mod_resistance b_Mod_resistance 2 (some (.int)) :: x_tb
theorem pd_Mod_resistance : y_Mod_resistance.cls ≠ "java/lang/invoke/MethodHandle" ∧ y_Mod_resistance.cls ≠ "java/lang/invoke/VarHandle" ∧ (parseMethodDescriptor y_Mod_resistance.desc).map (fun d => d.parameters.length) = some 1 := by decide +kernel
theorem d_Mod_resistance_0 : decode b_Mod_resistance 0 = .ok (.bipush 100, 2) := by decide +kernel
theorem d_Mod_resistance_2 : decode b_Mod_resistance 2 = .ok (.aload_n 0, 1) := by decide +kernel
theorem d_Mod_resistance_3 : decode b_Mod_resistance 3 = .ok (.getfield 31, 3) := by decide +kernel
theorem d_Mod_resistance_6 : decode b_Mod_resistance 6 = .ok (.iload_n 1, 1) := by decide +kernel
theorem d_Mod_resistance_7 : decode b_Mod_resistance 7 = .ok (.iaload, 1) := by decide +kernel
theorem d_Mod_resistance_8 : decode b_Mod_resistance 8 = .ok (.imul, 1) := by decide +kernel
theorem d_Mod_resistance_9 : decode b_Mod_resistance 9 = .ok (.aload_n 0, 1) := by decide +kernel
theorem d_Mod_resistance_10 : decode b_Mod_resistance 10 = .ok (.getfield 25, 3) := by decide +kernel
theorem d_Mod_resistance_13 : decode b_Mod_resistance 13 = .ok (.aload_n 0, 1) := by decide +kernel
theorem d_Mod_resistance_14 : decode b_Mod_resistance 14 = .ok (.getfield 28, 3) := by decide +kernel
theorem d_Mod_resistance_17 : decode b_Mod_resistance 17 = .ok (.iload_n 1, 1) := by decide +kernel
theorem d_Mod_resistance_18 : decode b_Mod_resistance 18 = .ok (.iaload, 1) := by decide +kernel
theorem d_Mod_resistance_19 : decode b_Mod_resistance 19 = .ok (.iaload, 1) := by decide +kernel
theorem d_Mod_resistance_20 : decode b_Mod_resistance 20 = .ok (.idiv, 1) := by decide +kernel
theorem d_Mod_resistance_21 : decode b_Mod_resistance 21 = .ok (.ireturn, 1) := by decide +kernel
abbrev b_Mod_warm : ByteArray := prog_13_method_21_code
def y_Mod_warm : MethodName := ⟨"WallDampModel", "warm", "(I)V"⟩
def ws_Mod_warm : List Cond := .code y_Mod_warm b_Mod_warm 9 none :: x_tb
theorem pd_Mod_warm : y_Mod_warm.cls ≠ "java/lang/invoke/MethodHandle" ∧ y_Mod_warm.cls ≠ "java/lang/invoke/VarHandle" ∧ (parseMethodDescriptor y_Mod_warm.desc).map (fun d => d.parameters.length) = some 1 := by decide +kernel
theorem d_Mod_warm_0 : decode b_Mod_warm 0 = .ok (.ldc2_w 177, 3) := by decide +kernel
theorem d_Mod_warm_3 : decode b_Mod_warm 3 = .ok (.aload_n 0, 1) := by decide +kernel
theorem d_Mod_warm_4 : decode b_Mod_warm 4 = .ok (.getfield 60, 3) := by decide +kernel
theorem d_Mod_warm_7 : decode b_Mod_warm 7 = .ok (.aload_n 0, 1) := by decide +kernel
theorem d_Mod_warm_8 : decode b_Mod_warm 8 = .ok (.getfield 64, 3) := by decide +kernel
theorem d_Mod_warm_11 : decode b_Mod_warm 11 = .ok (.iadd, 1) := by decide +kernel
theorem d_Mod_warm_12 : decode b_Mod_warm 12 = .ok (.i2l, 1) := by decide +kernel
theorem d_Mod_warm_13 : decode b_Mod_warm 13 = .ok (.lmul, 1) := by decide +kernel
theorem d_Mod_warm_14 : decode b_Mod_warm 14 = .ok (.lstore_n 2, 1) := by decide +kernel
theorem d_Mod_warm_15 : decode b_Mod_warm 15 = .ok (.iconst 0, 1) := by decide +kernel
theorem d_Mod_warm_16 : decode b_Mod_warm 16 = .ok (.istore 4, 2) := by decide +kernel
theorem d_Mod_warm_18 : decode b_Mod_warm 18 = .ok (.iload 4, 2) := by decide +kernel
theorem d_Mod_warm_20 : decode b_Mod_warm 20 = .ok (.aload_n 0, 1) := by decide +kernel
theorem d_Mod_warm_21 : decode b_Mod_warm 21 = .ok (.getfield 127, 3) := by decide +kernel
theorem d_Mod_warm_24 : decode b_Mod_warm 24 = .ok (.if_icmp .ge 23, 3) := by decide +kernel
theorem d_Mod_warm_27 : decode b_Mod_warm 27 = .ok (.lload_n 2, 1) := by decide +kernel
theorem d_Mod_warm_28 : decode b_Mod_warm 28 = .ok (.ldc2_w 177, 3) := by decide +kernel
theorem d_Mod_warm_31 : decode b_Mod_warm 31 = .ok (.aload_n 0, 1) := by decide +kernel
theorem d_Mod_warm_32 : decode b_Mod_warm 32 = .ok (.iload 4, 2) := by decide +kernel
theorem d_Mod_warm_34 : decode b_Mod_warm 34 = .ok (.invokevirtual 179, 3) := by decide +kernel
theorem d_Mod_warm_37 : decode b_Mod_warm 37 = .ok (.i2l, 1) := by decide +kernel
theorem d_Mod_warm_38 : decode b_Mod_warm 38 = .ok (.lmul, 1) := by decide +kernel
theorem d_Mod_warm_39 : decode b_Mod_warm 39 = .ok (.ladd, 1) := by decide +kernel
theorem d_Mod_warm_40 : decode b_Mod_warm 40 = .ok (.lstore_n 2, 1) := by decide +kernel
theorem d_Mod_warm_41 : decode b_Mod_warm 41 = .ok (.iinc 4 1, 3) := by decide +kernel
theorem d_Mod_warm_44 : decode b_Mod_warm 44 = .ok (.goto (-26), 3) := by decide +kernel
theorem d_Mod_warm_47 : decode b_Mod_warm 47 = .ok (.aload_n 0, 1) := by decide +kernel
theorem d_Mod_warm_48 : decode b_Mod_warm 48 = .ok (.getfield 67, 3) := by decide +kernel
theorem d_Mod_warm_51 : decode b_Mod_warm 51 = .ok (.iload_n 1, 1) := by decide +kernel
theorem d_Mod_warm_52 : decode b_Mod_warm 52 = .ok (.iaload, 1) := by decide +kernel
theorem d_Mod_warm_53 : decode b_Mod_warm 53 = .ok (.aload_n 0, 1) := by decide +kernel
theorem d_Mod_warm_54 : decode b_Mod_warm 54 = .ok (.getfield 76, 3) := by decide +kernel
theorem d_Mod_warm_57 : decode b_Mod_warm 57 = .ok (.iload_n 1, 1) := by decide +kernel
theorem d_Mod_warm_58 : decode b_Mod_warm 58 = .ok (.iaload, 1) := by decide +kernel
theorem d_Mod_warm_59 : decode b_Mod_warm 59 = .ok (.iadd, 1) := by decide +kernel
theorem d_Mod_warm_60 : decode b_Mod_warm 60 = .ok (.i2l, 1) := by decide +kernel
theorem d_Mod_warm_61 : decode b_Mod_warm 61 = .ok (.lstore 4, 2) := by decide +kernel
theorem d_Mod_warm_63 : decode b_Mod_warm 63 = .ok (.ldc2_w 177, 3) := by decide +kernel
theorem d_Mod_warm_66 : decode b_Mod_warm 66 = .ok (.aload_n 0, 1) := by decide +kernel
theorem d_Mod_warm_67 : decode b_Mod_warm 67 = .ok (.getfield 60, 3) := by decide +kernel
theorem d_Mod_warm_70 : decode b_Mod_warm 70 = .ok (.i2l, 1) := by decide +kernel
theorem d_Mod_warm_71 : decode b_Mod_warm 71 = .ok (.lmul, 1) := by decide +kernel
theorem d_Mod_warm_72 : decode b_Mod_warm 72 = .ok (.lstore 6, 2) := by decide +kernel
theorem d_Mod_warm_74 : decode b_Mod_warm 74 = .ok (.iconst 0, 1) := by decide +kernel
theorem d_Mod_warm_75 : decode b_Mod_warm 75 = .ok (.istore 8, 2) := by decide +kernel
theorem d_Mod_warm_77 : decode b_Mod_warm 77 = .ok (.iload 8, 2) := by decide +kernel
theorem d_Mod_warm_79 : decode b_Mod_warm 79 = .ok (.aload_n 0, 1) := by decide +kernel
theorem d_Mod_warm_80 : decode b_Mod_warm 80 = .ok (.getfield 127, 3) := by decide +kernel
theorem d_Mod_warm_83 : decode b_Mod_warm 83 = .ok (.if_icmp .ge 71, 3) := by decide +kernel
theorem d_Mod_warm_86 : decode b_Mod_warm 86 = .ok (.lload 6, 2) := by decide +kernel
theorem d_Mod_warm_88 : decode b_Mod_warm 88 = .ok (.aload_n 0, 1) := by decide +kernel
theorem d_Mod_warm_89 : decode b_Mod_warm 89 = .ok (.iload 8, 2) := by decide +kernel
theorem d_Mod_warm_91 : decode b_Mod_warm 91 = .ok (.invokevirtual 179, 3) := by decide +kernel
theorem d_Mod_warm_94 : decode b_Mod_warm 94 = .ok (.i2l, 1) := by decide +kernel
theorem d_Mod_warm_95 : decode b_Mod_warm 95 = .ok (.ladd, 1) := by decide +kernel
theorem d_Mod_warm_96 : decode b_Mod_warm 96 = .ok (.lstore 6, 2) := by decide +kernel
theorem d_Mod_warm_98 : decode b_Mod_warm 98 = .ok (.aload_n 0, 1) := by decide +kernel
theorem d_Mod_warm_99 : decode b_Mod_warm 99 = .ok (.getfield 41, 3) := by decide +kernel
theorem d_Mod_warm_102 : decode b_Mod_warm 102 = .ok (.iload 8, 2) := by decide +kernel
theorem d_Mod_warm_104 : decode b_Mod_warm 104 = .ok (.lload 4, 2) := by decide +kernel
theorem d_Mod_warm_106 : decode b_Mod_warm 106 = .ok (.lload_n 2, 1) := by decide +kernel
theorem d_Mod_warm_107 : decode b_Mod_warm 107 = .ok (.lconst 0, 1) := by decide +kernel
theorem d_Mod_warm_108 : decode b_Mod_warm 108 = .ok (.lcmp, 1) := by decide +kernel
theorem d_Mod_warm_109 : decode b_Mod_warm 109 = .ok (.ifCond .ne 7, 3) := by decide +kernel
theorem d_Mod_warm_112 : decode b_Mod_warm 112 = .ok (.lconst 0, 1) := by decide +kernel
theorem d_Mod_warm_113 : decode b_Mod_warm 113 = .ok (.goto 20, 3) := by decide +kernel
theorem d_Mod_warm_116 : decode b_Mod_warm 116 = .ok (.aload_n 0, 1) := by decide +kernel
theorem d_Mod_warm_117 : decode b_Mod_warm 117 = .ok (.getfield 79, 3) := by decide +kernel
theorem d_Mod_warm_120 : decode b_Mod_warm 120 = .ok (.iload_n 1, 1) := by decide +kernel
theorem d_Mod_warm_121 : decode b_Mod_warm 121 = .ok (.iaload, 1) := by decide +kernel
theorem d_Mod_warm_122 : decode b_Mod_warm 122 = .ok (.i2l, 1) := by decide +kernel
theorem d_Mod_warm_123 : decode b_Mod_warm 123 = .ok (.lload 4, 2) := by decide +kernel
theorem d_Mod_warm_125 : decode b_Mod_warm 125 = .ok (.lsub, 1) := by decide +kernel
theorem d_Mod_warm_126 : decode b_Mod_warm 126 = .ok (.lload 6, 2) := by decide +kernel
theorem d_Mod_warm_128 : decode b_Mod_warm 128 = .ok (.lmul, 1) := by decide +kernel
theorem d_Mod_warm_129 : decode b_Mod_warm 129 = .ok (.lload_n 2, 1) := by decide +kernel
theorem d_Mod_warm_130 : decode b_Mod_warm 130 = .ok (.invokestatic 182, 3) := by decide +kernel
theorem d_Mod_warm_133 : decode b_Mod_warm 133 = .ok (.ladd, 1) := by decide +kernel
theorem d_Mod_warm_134 : decode b_Mod_warm 134 = .ok (.l2i, 1) := by decide +kernel
theorem d_Mod_warm_135 : decode b_Mod_warm 135 = .ok (.iastore, 1) := by decide +kernel
theorem d_Mod_warm_136 : decode b_Mod_warm 136 = .ok (.lload 6, 2) := by decide +kernel
theorem d_Mod_warm_138 : decode b_Mod_warm 138 = .ok (.aload_n 0, 1) := by decide +kernel
theorem d_Mod_warm_139 : decode b_Mod_warm 139 = .ok (.iload 8, 2) := by decide +kernel
theorem d_Mod_warm_141 : decode b_Mod_warm 141 = .ok (.invokevirtual 179, 3) := by decide +kernel
theorem d_Mod_warm_144 : decode b_Mod_warm 144 = .ok (.i2l, 1) := by decide +kernel
theorem d_Mod_warm_145 : decode b_Mod_warm 145 = .ok (.ladd, 1) := by decide +kernel
theorem d_Mod_warm_146 : decode b_Mod_warm 146 = .ok (.lstore 6, 2) := by decide +kernel
theorem d_Mod_warm_148 : decode b_Mod_warm 148 = .ok (.iinc 8 1, 3) := by decide +kernel
theorem d_Mod_warm_151 : decode b_Mod_warm 151 = .ok (.goto (-74), 3) := by decide +kernel
theorem d_Mod_warm_154 : decode b_Mod_warm 154 = .ok (.return_, 1) := by decide +kernel
abbrev b_Mod_at : ByteArray := prog_13_method_22_code
def y_Mod_at : MethodName := ⟨"WallDampModel", "at", "(JJ)J"⟩
def ws_Mod_at : List Cond := .code y_Mod_at b_Mod_at 4 (some (.long)) :: x_tb
theorem pd_Mod_at : y_Mod_at.cls ≠ "java/lang/invoke/MethodHandle" ∧ y_Mod_at.cls ≠ "java/lang/invoke/VarHandle" ∧ (parseMethodDescriptor y_Mod_at.desc).map (fun d => d.parameters.length) = some 2 := by decide +kernel
theorem d_Mod_at_0 : decode b_Mod_at 0 = .ok (.lload_n 0, 1) := by decide +kernel
theorem d_Mod_at_1 : decode b_Mod_at 1 = .ok (.lload_n 2, 1) := by decide +kernel
theorem d_Mod_at_2 : decode b_Mod_at 2 = .ok (.lmul, 1) := by decide +kernel
theorem d_Mod_at_3 : decode b_Mod_at 3 = .ok (.ldc2_w 141, 3) := by decide +kernel
theorem d_Mod_at_6 : decode b_Mod_at 6 = .ok (.ldiv, 1) := by decide +kernel
theorem d_Mod_at_7 : decode b_Mod_at 7 = .ok (.lreturn, 1) := by decide +kernel
abbrev b_Mod_flow : ByteArray := prog_13_method_23_code
def y_Mod_flow : MethodName := ⟨"WallDampModel", "flow", "(I)V"⟩
def ws_Mod_flow : List Cond := .code y_Mod_flow b_Mod_flow 12 none :: x_tb
theorem pd_Mod_flow : y_Mod_flow.cls ≠ "java/lang/invoke/MethodHandle" ∧ y_Mod_flow.cls ≠ "java/lang/invoke/VarHandle" ∧ (parseMethodDescriptor y_Mod_flow.desc).map (fun d => d.parameters.length) = some 1 := by decide +kernel
theorem d_Mod_flow_0 : decode b_Mod_flow 0 = .ok (.iconst 0, 1) := by decide +kernel
theorem d_Mod_flow_1 : decode b_Mod_flow 1 = .ok (.istore_n 2, 1) := by decide +kernel
theorem d_Mod_flow_2 : decode b_Mod_flow 2 = .ok (.iload_n 2, 1) := by decide +kernel
theorem d_Mod_flow_3 : decode b_Mod_flow 3 = .ok (.aload_n 0, 1) := by decide +kernel
theorem d_Mod_flow_4 : decode b_Mod_flow 4 = .ok (.getfield 127, 3) := by decide +kernel
theorem d_Mod_flow_7 : decode b_Mod_flow 7 = .ok (.if_icmp .ge 47, 3) := by decide +kernel
theorem d_Mod_flow_10 : decode b_Mod_flow 10 = .ok (.aload_n 0, 1) := by decide +kernel
theorem d_Mod_flow_11 : decode b_Mod_flow 11 = .ok (.getfield 100, 3) := by decide +kernel
theorem d_Mod_flow_14 : decode b_Mod_flow 14 = .ok (.iload_n 2, 1) := by decide +kernel
theorem d_Mod_flow_15 : decode b_Mod_flow 15 = .ok (.aload_n 0, 1) := by decide +kernel
theorem d_Mod_flow_16 : decode b_Mod_flow 16 = .ok (.iload_n 2, 1) := by decide +kernel
theorem d_Mod_flow_17 : decode b_Mod_flow 17 = .ok (.invokevirtual 186, 3) := by decide +kernel
theorem d_Mod_flow_20 : decode b_Mod_flow 20 = .ok (.iastore, 1) := by decide +kernel
theorem d_Mod_flow_21 : decode b_Mod_flow 21 = .ok (.aload_n 0, 1) := by decide +kernel
theorem d_Mod_flow_22 : decode b_Mod_flow 22 = .ok (.getfield 97, 3) := by decide +kernel
theorem d_Mod_flow_25 : decode b_Mod_flow 25 = .ok (.iload_n 2, 1) := by decide +kernel
theorem d_Mod_flow_26 : decode b_Mod_flow 26 = .ok (.aload_n 0, 1) := by decide +kernel
theorem d_Mod_flow_27 : decode b_Mod_flow 27 = .ok (.aload_n 0, 1) := by decide +kernel
theorem d_Mod_flow_28 : decode b_Mod_flow 28 = .ok (.getfield 41, 3) := by decide +kernel
theorem d_Mod_flow_31 : decode b_Mod_flow 31 = .ok (.iload_n 2, 1) := by decide +kernel
theorem d_Mod_flow_32 : decode b_Mod_flow 32 = .ok (.iaload, 1) := by decide +kernel
theorem d_Mod_flow_33 : decode b_Mod_flow 33 = .ok (.invokevirtual 167, 3) := by decide +kernel
theorem d_Mod_flow_36 : decode b_Mod_flow 36 = .ok (.i2l, 1) := by decide +kernel
theorem d_Mod_flow_37 : decode b_Mod_flow 37 = .ok (.aload_n 0, 1) := by decide +kernel
theorem d_Mod_flow_38 : decode b_Mod_flow 38 = .ok (.getfield 100, 3) := by decide +kernel
theorem d_Mod_flow_41 : decode b_Mod_flow 41 = .ok (.iload_n 2, 1) := by decide +kernel
theorem d_Mod_flow_42 : decode b_Mod_flow 42 = .ok (.iaload, 1) := by decide +kernel
theorem d_Mod_flow_43 : decode b_Mod_flow 43 = .ok (.i2l, 1) := by decide +kernel
theorem d_Mod_flow_44 : decode b_Mod_flow 44 = .ok (.invokestatic 189, 3) := by decide +kernel
theorem d_Mod_flow_47 : decode b_Mod_flow 47 = .ok (.lastore, 1) := by decide +kernel
theorem d_Mod_flow_48 : decode b_Mod_flow 48 = .ok (.iinc 2 1, 3) := by decide +kernel
theorem d_Mod_flow_51 : decode b_Mod_flow 51 = .ok (.goto (-49), 3) := by decide +kernel
theorem d_Mod_flow_54 : decode b_Mod_flow 54 = .ok (.iconst 0, 1) := by decide +kernel
theorem d_Mod_flow_55 : decode b_Mod_flow 55 = .ok (.istore_n 2, 1) := by decide +kernel
theorem d_Mod_flow_56 : decode b_Mod_flow 56 = .ok (.iload_n 2, 1) := by decide +kernel
theorem d_Mod_flow_57 : decode b_Mod_flow 57 = .ok (.bipush 6, 2) := by decide +kernel
theorem d_Mod_flow_59 : decode b_Mod_flow 59 = .ok (.aload_n 0, 1) := by decide +kernel
theorem d_Mod_flow_60 : decode b_Mod_flow 60 = .ok (.getfield 127, 3) := by decide +kernel
theorem d_Mod_flow_63 : decode b_Mod_flow 63 = .ok (.imul, 1) := by decide +kernel
theorem d_Mod_flow_64 : decode b_Mod_flow 64 = .ok (.if_icmp .ge 16, 3) := by decide +kernel
theorem d_Mod_flow_67 : decode b_Mod_flow 67 = .ok (.aload_n 0, 1) := by decide +kernel
theorem d_Mod_flow_68 : decode b_Mod_flow 68 = .ok (.getfield 103, 3) := by decide +kernel
theorem d_Mod_flow_71 : decode b_Mod_flow 71 = .ok (.iload_n 2, 1) := by decide +kernel
theorem d_Mod_flow_72 : decode b_Mod_flow 72 = .ok (.lconst 0, 1) := by decide +kernel
theorem d_Mod_flow_73 : decode b_Mod_flow 73 = .ok (.lastore, 1) := by decide +kernel
theorem d_Mod_flow_74 : decode b_Mod_flow 74 = .ok (.iinc 2 1, 3) := by decide +kernel
theorem d_Mod_flow_77 : decode b_Mod_flow 77 = .ok (.goto (-21), 3) := by decide +kernel
theorem d_Mod_flow_80 : decode b_Mod_flow 80 = .ok (.iconst 0, 1) := by decide +kernel
theorem d_Mod_flow_81 : decode b_Mod_flow 81 = .ok (.istore_n 2, 1) := by decide +kernel
theorem d_Mod_flow_82 : decode b_Mod_flow 82 = .ok (.iload_n 2, 1) := by decide +kernel
theorem d_Mod_flow_83 : decode b_Mod_flow 83 = .ok (.iconst 1, 1) := by decide +kernel
theorem d_Mod_flow_84 : decode b_Mod_flow 84 = .ok (.iadd, 1) := by decide +kernel
theorem d_Mod_flow_85 : decode b_Mod_flow 85 = .ok (.aload_n 0, 1) := by decide +kernel
theorem d_Mod_flow_86 : decode b_Mod_flow 86 = .ok (.getfield 127, 3) := by decide +kernel
theorem d_Mod_flow_89 : decode b_Mod_flow 89 = .ok (.if_icmp .ge 198, 3) := by decide +kernel
theorem d_Mod_flow_92 : decode b_Mod_flow 92 = .ok (.aload_n 0, 1) := by decide +kernel
theorem d_Mod_flow_93 : decode b_Mod_flow 93 = .ok (.getfield 28, 3) := by decide +kernel
theorem d_Mod_flow_96 : decode b_Mod_flow 96 = .ok (.iload_n 2, 1) := by decide +kernel
theorem d_Mod_flow_97 : decode b_Mod_flow 97 = .ok (.iaload, 1) := by decide +kernel
theorem d_Mod_flow_98 : decode b_Mod_flow 98 = .ok (.istore_n 3, 1) := by decide +kernel
theorem d_Mod_flow_99 : decode b_Mod_flow 99 = .ok (.aload_n 0, 1) := by decide +kernel
theorem d_Mod_flow_100 : decode b_Mod_flow 100 = .ok (.getfield 28, 3) := by decide +kernel
theorem d_Mod_flow_103 : decode b_Mod_flow 103 = .ok (.iload_n 2, 1) := by decide +kernel
theorem d_Mod_flow_104 : decode b_Mod_flow 104 = .ok (.iconst 1, 1) := by decide +kernel
theorem d_Mod_flow_105 : decode b_Mod_flow 105 = .ok (.iadd, 1) := by decide +kernel
theorem d_Mod_flow_106 : decode b_Mod_flow 106 = .ok (.iaload, 1) := by decide +kernel
theorem d_Mod_flow_107 : decode b_Mod_flow 107 = .ok (.istore 4, 2) := by decide +kernel
theorem d_Mod_flow_109 : decode b_Mod_flow 109 = .ok (.aload_n 0, 1) := by decide +kernel
theorem d_Mod_flow_110 : decode b_Mod_flow 110 = .ok (.getfield 97, 3) := by decide +kernel
theorem d_Mod_flow_113 : decode b_Mod_flow 113 = .ok (.iload_n 2, 1) := by decide +kernel
theorem d_Mod_flow_114 : decode b_Mod_flow 114 = .ok (.laload, 1) := by decide +kernel
theorem d_Mod_flow_115 : decode b_Mod_flow 115 = .ok (.aload_n 0, 1) := by decide +kernel
theorem d_Mod_flow_116 : decode b_Mod_flow 116 = .ok (.getfield 97, 3) := by decide +kernel
theorem d_Mod_flow_119 : decode b_Mod_flow 119 = .ok (.iload_n 2, 1) := by decide +kernel
theorem d_Mod_flow_120 : decode b_Mod_flow 120 = .ok (.iconst 1, 1) := by decide +kernel
theorem d_Mod_flow_121 : decode b_Mod_flow 121 = .ok (.iadd, 1) := by decide +kernel
theorem d_Mod_flow_122 : decode b_Mod_flow 122 = .ok (.laload, 1) := by decide +kernel
theorem d_Mod_flow_123 : decode b_Mod_flow 123 = .ok (.lsub, 1) := by decide +kernel
theorem d_Mod_flow_124 : decode b_Mod_flow 124 = .ok (.aload_n 0, 1) := by decide +kernel
theorem d_Mod_flow_125 : decode b_Mod_flow 125 = .ok (.getfield 19, 3) := by decide +kernel
theorem d_Mod_flow_128 : decode b_Mod_flow 128 = .ok (.iload_n 3, 1) := by decide +kernel
theorem d_Mod_flow_129 : decode b_Mod_flow 129 = .ok (.iaload, 1) := by decide +kernel
theorem d_Mod_flow_130 : decode b_Mod_flow 130 = .ok (.aload_n 0, 1) := by decide +kernel
theorem d_Mod_flow_131 : decode b_Mod_flow 131 = .ok (.getfield 19, 3) := by decide +kernel
theorem d_Mod_flow_134 : decode b_Mod_flow 134 = .ok (.iload 4, 2) := by decide +kernel
theorem d_Mod_flow_136 : decode b_Mod_flow 136 = .ok (.iaload, 1) := by decide +kernel
theorem d_Mod_flow_137 : decode b_Mod_flow 137 = .ok (.if_icmp .ge 12, 3) := by decide +kernel
theorem d_Mod_flow_140 : decode b_Mod_flow 140 = .ok (.aload_n 0, 1) := by decide +kernel
theorem d_Mod_flow_141 : decode b_Mod_flow 141 = .ok (.getfield 19, 3) := by decide +kernel
theorem d_Mod_flow_144 : decode b_Mod_flow 144 = .ok (.iload_n 3, 1) := by decide +kernel
theorem d_Mod_flow_145 : decode b_Mod_flow 145 = .ok (.iaload, 1) := by decide +kernel
theorem d_Mod_flow_146 : decode b_Mod_flow 146 = .ok (.goto 10, 3) := by decide +kernel
theorem d_Mod_flow_149 : decode b_Mod_flow 149 = .ok (.aload_n 0, 1) := by decide +kernel
theorem d_Mod_flow_150 : decode b_Mod_flow 150 = .ok (.getfield 19, 3) := by decide +kernel
theorem d_Mod_flow_153 : decode b_Mod_flow 153 = .ok (.iload 4, 2) := by decide +kernel
theorem d_Mod_flow_155 : decode b_Mod_flow 155 = .ok (.iaload, 1) := by decide +kernel
theorem d_Mod_flow_156 : decode b_Mod_flow 156 = .ok (.i2l, 1) := by decide +kernel
theorem d_Mod_flow_157 : decode b_Mod_flow 157 = .ok (.lmul, 1) := by decide +kernel
theorem d_Mod_flow_158 : decode b_Mod_flow 158 = .ok (.ldc2_w 150, 3) := by decide +kernel
theorem d_Mod_flow_161 : decode b_Mod_flow 161 = .ok (.ldiv, 1) := by decide +kernel
theorem d_Mod_flow_162 : decode b_Mod_flow 162 = .ok (.lstore 5, 2) := by decide +kernel
theorem d_Mod_flow_164 : decode b_Mod_flow 164 = .ok (.aload_n 0, 1) := by decide +kernel
theorem d_Mod_flow_165 : decode b_Mod_flow 165 = .ok (.getfield 100, 3) := by decide +kernel
theorem d_Mod_flow_168 : decode b_Mod_flow 168 = .ok (.iload_n 2, 1) := by decide +kernel
theorem d_Mod_flow_169 : decode b_Mod_flow 169 = .ok (.iaload, 1) := by decide +kernel
theorem d_Mod_flow_170 : decode b_Mod_flow 170 = .ok (.aload_n 0, 1) := by decide +kernel
theorem d_Mod_flow_171 : decode b_Mod_flow 171 = .ok (.getfield 100, 3) := by decide +kernel
theorem d_Mod_flow_174 : decode b_Mod_flow 174 = .ok (.iload_n 2, 1) := by decide +kernel
theorem d_Mod_flow_175 : decode b_Mod_flow 175 = .ok (.iconst 1, 1) := by decide +kernel
theorem d_Mod_flow_176 : decode b_Mod_flow 176 = .ok (.iadd, 1) := by decide +kernel
theorem d_Mod_flow_177 : decode b_Mod_flow 177 = .ok (.iaload, 1) := by decide +kernel
theorem d_Mod_flow_178 : decode b_Mod_flow 178 = .ok (.isub, 1) := by decide +kernel
theorem d_Mod_flow_179 : decode b_Mod_flow 179 = .ok (.i2l, 1) := by decide +kernel
theorem d_Mod_flow_180 : decode b_Mod_flow 180 = .ok (.aload_n 0, 1) := by decide +kernel
theorem d_Mod_flow_181 : decode b_Mod_flow 181 = .ok (.getfield 22, 3) := by decide +kernel
theorem d_Mod_flow_184 : decode b_Mod_flow 184 = .ok (.iload_n 3, 1) := by decide +kernel
theorem d_Mod_flow_185 : decode b_Mod_flow 185 = .ok (.iaload, 1) := by decide +kernel
theorem d_Mod_flow_186 : decode b_Mod_flow 186 = .ok (.aload_n 0, 1) := by decide +kernel
theorem d_Mod_flow_187 : decode b_Mod_flow 187 = .ok (.getfield 22, 3) := by decide +kernel
theorem d_Mod_flow_190 : decode b_Mod_flow 190 = .ok (.iload 4, 2) := by decide +kernel
theorem d_Mod_flow_192 : decode b_Mod_flow 192 = .ok (.iaload, 1) := by decide +kernel
theorem d_Mod_flow_193 : decode b_Mod_flow 193 = .ok (.if_icmp .ge 12, 3) := by decide +kernel
theorem d_Mod_flow_196 : decode b_Mod_flow 196 = .ok (.aload_n 0, 1) := by decide +kernel
theorem d_Mod_flow_197 : decode b_Mod_flow 197 = .ok (.getfield 22, 3) := by decide +kernel
theorem d_Mod_flow_200 : decode b_Mod_flow 200 = .ok (.iload_n 3, 1) := by decide +kernel
theorem d_Mod_flow_201 : decode b_Mod_flow 201 = .ok (.iaload, 1) := by decide +kernel
theorem d_Mod_flow_202 : decode b_Mod_flow 202 = .ok (.goto 10, 3) := by decide +kernel
theorem d_Mod_flow_205 : decode b_Mod_flow 205 = .ok (.aload_n 0, 1) := by decide +kernel
theorem d_Mod_flow_206 : decode b_Mod_flow 206 = .ok (.getfield 22, 3) := by decide +kernel
theorem d_Mod_flow_209 : decode b_Mod_flow 209 = .ok (.iload 4, 2) := by decide +kernel
theorem d_Mod_flow_211 : decode b_Mod_flow 211 = .ok (.iaload, 1) := by decide +kernel
theorem d_Mod_flow_212 : decode b_Mod_flow 212 = .ok (.i2l, 1) := by decide +kernel
theorem d_Mod_flow_213 : decode b_Mod_flow 213 = .ok (.lmul, 1) := by decide +kernel
theorem d_Mod_flow_214 : decode b_Mod_flow 214 = .ok (.ldc2_w 150, 3) := by decide +kernel
theorem d_Mod_flow_217 : decode b_Mod_flow 217 = .ok (.ldiv, 1) := by decide +kernel
theorem d_Mod_flow_218 : decode b_Mod_flow 218 = .ok (.lstore 7, 2) := by decide +kernel
theorem d_Mod_flow_220 : decode b_Mod_flow 220 = .ok (.aload_n 0, 1) := by decide +kernel
theorem d_Mod_flow_221 : decode b_Mod_flow 221 = .ok (.getfield 103, 3) := by decide +kernel
theorem d_Mod_flow_224 : decode b_Mod_flow 224 = .ok (.bipush 6, 2) := by decide +kernel
theorem d_Mod_flow_226 : decode b_Mod_flow 226 = .ok (.iload_n 2, 1) := by decide +kernel
theorem d_Mod_flow_227 : decode b_Mod_flow 227 = .ok (.iconst 1, 1) := by decide +kernel
theorem d_Mod_flow_228 : decode b_Mod_flow 228 = .ok (.iadd, 1) := by decide +kernel
theorem d_Mod_flow_229 : decode b_Mod_flow 229 = .ok (.imul, 1) := by decide +kernel
theorem d_Mod_flow_230 : decode b_Mod_flow 230 = .ok (.lload 5, 2) := by decide +kernel
theorem d_Mod_flow_232 : decode b_Mod_flow 232 = .ok (.lload 7, 2) := by decide +kernel
theorem d_Mod_flow_234 : decode b_Mod_flow 234 = .ok (.ladd, 1) := by decide +kernel
theorem d_Mod_flow_235 : decode b_Mod_flow 235 = .ok (.lconst 0, 1) := by decide +kernel
theorem d_Mod_flow_236 : decode b_Mod_flow 236 = .ok (.lcmp, 1) := by decide +kernel
theorem d_Mod_flow_237 : decode b_Mod_flow 237 = .ok (.ifCond .le 11, 3) := by decide +kernel
theorem d_Mod_flow_240 : decode b_Mod_flow 240 = .ok (.lload 5, 2) := by decide +kernel
theorem d_Mod_flow_242 : decode b_Mod_flow 242 = .ok (.lload 7, 2) := by decide +kernel
theorem d_Mod_flow_244 : decode b_Mod_flow 244 = .ok (.ladd, 1) := by decide +kernel
theorem d_Mod_flow_245 : decode b_Mod_flow 245 = .ok (.goto 4, 3) := by decide +kernel
theorem d_Mod_flow_248 : decode b_Mod_flow 248 = .ok (.lconst 0, 1) := by decide +kernel
theorem d_Mod_flow_249 : decode b_Mod_flow 249 = .ok (.lastore, 1) := by decide +kernel
theorem d_Mod_flow_250 : decode b_Mod_flow 250 = .ok (.aload_n 0, 1) := by decide +kernel
theorem d_Mod_flow_251 : decode b_Mod_flow 251 = .ok (.getfield 103, 3) := by decide +kernel
theorem d_Mod_flow_254 : decode b_Mod_flow 254 = .ok (.bipush 6, 2) := by decide +kernel
theorem d_Mod_flow_256 : decode b_Mod_flow 256 = .ok (.iload_n 2, 1) := by decide +kernel
theorem d_Mod_flow_257 : decode b_Mod_flow 257 = .ok (.imul, 1) := by decide +kernel
theorem d_Mod_flow_258 : decode b_Mod_flow 258 = .ok (.iconst 1, 1) := by decide +kernel
theorem d_Mod_flow_259 : decode b_Mod_flow 259 = .ok (.iadd, 1) := by decide +kernel
theorem d_Mod_flow_260 : decode b_Mod_flow 260 = .ok (.lload 5, 2) := by decide +kernel
theorem d_Mod_flow_262 : decode b_Mod_flow 262 = .ok (.lload 7, 2) := by decide +kernel
theorem d_Mod_flow_264 : decode b_Mod_flow 264 = .ok (.ladd, 1) := by decide +kernel
theorem d_Mod_flow_265 : decode b_Mod_flow 265 = .ok (.lconst 0, 1) := by decide +kernel
theorem d_Mod_flow_266 : decode b_Mod_flow 266 = .ok (.lcmp, 1) := by decide +kernel
theorem d_Mod_flow_267 : decode b_Mod_flow 267 = .ok (.ifCond .ge 12, 3) := by decide +kernel
theorem d_Mod_flow_270 : decode b_Mod_flow 270 = .ok (.lload 5, 2) := by decide +kernel
theorem d_Mod_flow_272 : decode b_Mod_flow 272 = .ok (.lneg, 1) := by decide +kernel
theorem d_Mod_flow_273 : decode b_Mod_flow 273 = .ok (.lload 7, 2) := by decide +kernel
theorem d_Mod_flow_275 : decode b_Mod_flow 275 = .ok (.lsub, 1) := by decide +kernel
theorem d_Mod_flow_276 : decode b_Mod_flow 276 = .ok (.goto 4, 3) := by decide +kernel
theorem d_Mod_flow_279 : decode b_Mod_flow 279 = .ok (.lconst 0, 1) := by decide +kernel
theorem d_Mod_flow_280 : decode b_Mod_flow 280 = .ok (.lastore, 1) := by decide +kernel
theorem d_Mod_flow_281 : decode b_Mod_flow 281 = .ok (.iinc 2 1, 3) := by decide +kernel
theorem d_Mod_flow_284 : decode b_Mod_flow 284 = .ok (.goto (-202), 3) := by decide +kernel
theorem d_Mod_flow_287 : decode b_Mod_flow 287 = .ok (.aload_n 0, 1) := by decide +kernel
theorem d_Mod_flow_288 : decode b_Mod_flow 288 = .ok (.aload_n 0, 1) := by decide +kernel
theorem d_Mod_flow_289 : decode b_Mod_flow 289 = .ok (.getfield 67, 3) := by decide +kernel
theorem d_Mod_flow_292 : decode b_Mod_flow 292 = .ok (.iload_n 1, 1) := by decide +kernel
theorem d_Mod_flow_293 : decode b_Mod_flow 293 = .ok (.iaload, 1) := by decide +kernel
theorem d_Mod_flow_294 : decode b_Mod_flow 294 = .ok (.aload_n 0, 1) := by decide +kernel
theorem d_Mod_flow_295 : decode b_Mod_flow 295 = .ok (.getfield 76, 3) := by decide +kernel
theorem d_Mod_flow_298 : decode b_Mod_flow 298 = .ok (.iload_n 1, 1) := by decide +kernel
theorem d_Mod_flow_299 : decode b_Mod_flow 299 = .ok (.iaload, 1) := by decide +kernel
theorem d_Mod_flow_300 : decode b_Mod_flow 300 = .ok (.iadd, 1) := by decide +kernel
theorem d_Mod_flow_301 : decode b_Mod_flow 301 = .ok (.invokevirtual 167, 3) := by decide +kernel
theorem d_Mod_flow_304 : decode b_Mod_flow 304 = .ok (.i2l, 1) := by decide +kernel
theorem d_Mod_flow_305 : decode b_Mod_flow 305 = .ok (.aload_n 0, 1) := by decide +kernel
theorem d_Mod_flow_306 : decode b_Mod_flow 306 = .ok (.getfield 70, 3) := by decide +kernel
theorem d_Mod_flow_309 : decode b_Mod_flow 309 = .ok (.iload_n 1, 1) := by decide +kernel
theorem d_Mod_flow_310 : decode b_Mod_flow 310 = .ok (.iaload, 1) := by decide +kernel
theorem d_Mod_flow_311 : decode b_Mod_flow 311 = .ok (.i2l, 1) := by decide +kernel
theorem d_Mod_flow_312 : decode b_Mod_flow 312 = .ok (.invokestatic 189, 3) := by decide +kernel
theorem d_Mod_flow_315 : decode b_Mod_flow 315 = .ok (.lstore_n 2, 1) := by decide +kernel
theorem d_Mod_flow_316 : decode b_Mod_flow 316 = .ok (.lload_n 2, 1) := by decide +kernel
theorem d_Mod_flow_317 : decode b_Mod_flow 317 = .ok (.aload_n 0, 1) := by decide +kernel
theorem d_Mod_flow_318 : decode b_Mod_flow 318 = .ok (.getfield 97, 3) := by decide +kernel
theorem d_Mod_flow_321 : decode b_Mod_flow 321 = .ok (.iconst 0, 1) := by decide +kernel
theorem d_Mod_flow_322 : decode b_Mod_flow 322 = .ok (.laload, 1) := by decide +kernel
theorem d_Mod_flow_323 : decode b_Mod_flow 323 = .ok (.lsub, 1) := by decide +kernel
theorem d_Mod_flow_324 : decode b_Mod_flow 324 = .ok (.aload_n 0, 1) := by decide +kernel
theorem d_Mod_flow_325 : decode b_Mod_flow 325 = .ok (.getfield 19, 3) := by decide +kernel
theorem d_Mod_flow_328 : decode b_Mod_flow 328 = .ok (.aload_n 0, 1) := by decide +kernel
theorem d_Mod_flow_329 : decode b_Mod_flow 329 = .ok (.getfield 28, 3) := by decide +kernel
theorem d_Mod_flow_332 : decode b_Mod_flow 332 = .ok (.iconst 0, 1) := by decide +kernel
theorem d_Mod_flow_333 : decode b_Mod_flow 333 = .ok (.iaload, 1) := by decide +kernel
theorem d_Mod_flow_334 : decode b_Mod_flow 334 = .ok (.iaload, 1) := by decide +kernel
theorem d_Mod_flow_335 : decode b_Mod_flow 335 = .ok (.i2l, 1) := by decide +kernel
theorem d_Mod_flow_336 : decode b_Mod_flow 336 = .ok (.lmul, 1) := by decide +kernel
theorem d_Mod_flow_337 : decode b_Mod_flow 337 = .ok (.ldc2_w 150, 3) := by decide +kernel
theorem d_Mod_flow_340 : decode b_Mod_flow 340 = .ok (.ldiv, 1) := by decide +kernel
theorem d_Mod_flow_341 : decode b_Mod_flow 341 = .ok (.lstore 4, 2) := by decide +kernel
theorem d_Mod_flow_343 : decode b_Mod_flow 343 = .ok (.aload_n 0, 1) := by decide +kernel
theorem d_Mod_flow_344 : decode b_Mod_flow 344 = .ok (.getfield 103, 3) := by decide +kernel
theorem d_Mod_flow_347 : decode b_Mod_flow 347 = .ok (.iconst 2, 1) := by decide +kernel
theorem d_Mod_flow_348 : decode b_Mod_flow 348 = .ok (.lload 4, 2) := by decide +kernel
theorem d_Mod_flow_350 : decode b_Mod_flow 350 = .ok (.lconst 0, 1) := by decide +kernel
theorem d_Mod_flow_351 : decode b_Mod_flow 351 = .ok (.lcmp, 1) := by decide +kernel
theorem d_Mod_flow_352 : decode b_Mod_flow 352 = .ok (.ifCond .le 8, 3) := by decide +kernel
theorem d_Mod_flow_355 : decode b_Mod_flow 355 = .ok (.lload 4, 2) := by decide +kernel
theorem d_Mod_flow_357 : decode b_Mod_flow 357 = .ok (.goto 4, 3) := by decide +kernel
theorem d_Mod_flow_360 : decode b_Mod_flow 360 = .ok (.lconst 0, 1) := by decide +kernel
theorem d_Mod_flow_361 : decode b_Mod_flow 361 = .ok (.lastore, 1) := by decide +kernel
theorem d_Mod_flow_362 : decode b_Mod_flow 362 = .ok (.aload_n 0, 1) := by decide +kernel
theorem d_Mod_flow_363 : decode b_Mod_flow 363 = .ok (.lload 4, 2) := by decide +kernel
theorem d_Mod_flow_365 : decode b_Mod_flow 365 = .ok (.lconst 0, 1) := by decide +kernel
theorem d_Mod_flow_366 : decode b_Mod_flow 366 = .ok (.lcmp, 1) := by decide +kernel
theorem d_Mod_flow_367 : decode b_Mod_flow 367 = .ok (.ifCond .ge 9, 3) := by decide +kernel
theorem d_Mod_flow_370 : decode b_Mod_flow 370 = .ok (.lload 4, 2) := by decide +kernel
theorem d_Mod_flow_372 : decode b_Mod_flow 372 = .ok (.lneg, 1) := by decide +kernel
theorem d_Mod_flow_373 : decode b_Mod_flow 373 = .ok (.goto 4, 3) := by decide +kernel
theorem d_Mod_flow_376 : decode b_Mod_flow 376 = .ok (.lconst 0, 1) := by decide +kernel
theorem d_Mod_flow_377 : decode b_Mod_flow 377 = .ok (.putfield 192, 3) := by decide +kernel
theorem d_Mod_flow_380 : decode b_Mod_flow 380 = .ok (.aload_n 0, 1) := by decide +kernel
theorem d_Mod_flow_381 : decode b_Mod_flow 381 = .ok (.getfield 103, 3) := by decide +kernel
theorem d_Mod_flow_384 : decode b_Mod_flow 384 = .ok (.iconst 3, 1) := by decide +kernel
theorem d_Mod_flow_385 : decode b_Mod_flow 385 = .ok (.aload_n 0, 1) := by decide +kernel
theorem d_Mod_flow_386 : decode b_Mod_flow 386 = .ok (.getfield 73, 3) := by decide +kernel
theorem d_Mod_flow_389 : decode b_Mod_flow 389 = .ok (.iload_n 1, 1) := by decide +kernel
theorem d_Mod_flow_390 : decode b_Mod_flow 390 = .ok (.iaload, 1) := by decide +kernel
theorem d_Mod_flow_391 : decode b_Mod_flow 391 = .ok (.i2l, 1) := by decide +kernel
theorem d_Mod_flow_392 : decode b_Mod_flow 392 = .ok (.aload_n 0, 1) := by decide +kernel
theorem d_Mod_flow_393 : decode b_Mod_flow 393 = .ok (.getfield 22, 3) := by decide +kernel
theorem d_Mod_flow_396 : decode b_Mod_flow 396 = .ok (.aload_n 0, 1) := by decide +kernel
theorem d_Mod_flow_397 : decode b_Mod_flow 397 = .ok (.getfield 28, 3) := by decide +kernel
theorem d_Mod_flow_400 : decode b_Mod_flow 400 = .ok (.iconst 0, 1) := by decide +kernel
theorem d_Mod_flow_401 : decode b_Mod_flow 401 = .ok (.iaload, 1) := by decide +kernel
theorem d_Mod_flow_402 : decode b_Mod_flow 402 = .ok (.iaload, 1) := by decide +kernel
theorem d_Mod_flow_403 : decode b_Mod_flow 403 = .ok (.i2l, 1) := by decide +kernel
theorem d_Mod_flow_404 : decode b_Mod_flow 404 = .ok (.lmul, 1) := by decide +kernel
theorem d_Mod_flow_405 : decode b_Mod_flow 405 = .ok (.ldc2_w 195, 3) := by decide +kernel
theorem d_Mod_flow_408 : decode b_Mod_flow 408 = .ok (.ldiv, 1) := by decide +kernel
theorem d_Mod_flow_409 : decode b_Mod_flow 409 = .ok (.lastore, 1) := by decide +kernel
theorem d_Mod_flow_410 : decode b_Mod_flow 410 = .ok (.aload_n 0, 1) := by decide +kernel
theorem d_Mod_flow_411 : decode b_Mod_flow 411 = .ok (.aload_n 0, 1) := by decide +kernel
theorem d_Mod_flow_412 : decode b_Mod_flow 412 = .ok (.getfield 79, 3) := by decide +kernel
theorem d_Mod_flow_415 : decode b_Mod_flow 415 = .ok (.iload_n 1, 1) := by decide +kernel
theorem d_Mod_flow_416 : decode b_Mod_flow 416 = .ok (.iaload, 1) := by decide +kernel
theorem d_Mod_flow_417 : decode b_Mod_flow 417 = .ok (.invokevirtual 167, 3) := by decide +kernel
theorem d_Mod_flow_420 : decode b_Mod_flow 420 = .ok (.i2l, 1) := by decide +kernel
theorem d_Mod_flow_421 : decode b_Mod_flow 421 = .ok (.aload_n 0, 1) := by decide +kernel
theorem d_Mod_flow_422 : decode b_Mod_flow 422 = .ok (.getfield 82, 3) := by decide +kernel
theorem d_Mod_flow_425 : decode b_Mod_flow 425 = .ok (.iload_n 1, 1) := by decide +kernel
theorem d_Mod_flow_426 : decode b_Mod_flow 426 = .ok (.iaload, 1) := by decide +kernel
theorem d_Mod_flow_427 : decode b_Mod_flow 427 = .ok (.i2l, 1) := by decide +kernel
theorem d_Mod_flow_428 : decode b_Mod_flow 428 = .ok (.invokestatic 189, 3) := by decide +kernel
theorem d_Mod_flow_431 : decode b_Mod_flow 431 = .ok (.lstore 6, 2) := by decide +kernel
theorem d_Mod_flow_433 : decode b_Mod_flow 433 = .ok (.aload_n 0, 1) := by decide +kernel
theorem d_Mod_flow_434 : decode b_Mod_flow 434 = .ok (.getfield 127, 3) := by decide +kernel
theorem d_Mod_flow_437 : decode b_Mod_flow 437 = .ok (.iconst 1, 1) := by decide +kernel
theorem d_Mod_flow_438 : decode b_Mod_flow 438 = .ok (.isub, 1) := by decide +kernel
theorem d_Mod_flow_439 : decode b_Mod_flow 439 = .ok (.istore 8, 2) := by decide +kernel
theorem d_Mod_flow_441 : decode b_Mod_flow 441 = .ok (.lload 6, 2) := by decide +kernel
theorem d_Mod_flow_443 : decode b_Mod_flow 443 = .ok (.aload_n 0, 1) := by decide +kernel
theorem d_Mod_flow_444 : decode b_Mod_flow 444 = .ok (.getfield 97, 3) := by decide +kernel
theorem d_Mod_flow_447 : decode b_Mod_flow 447 = .ok (.iload 8, 2) := by decide +kernel
theorem d_Mod_flow_449 : decode b_Mod_flow 449 = .ok (.laload, 1) := by decide +kernel
theorem d_Mod_flow_450 : decode b_Mod_flow 450 = .ok (.lsub, 1) := by decide +kernel
theorem d_Mod_flow_451 : decode b_Mod_flow 451 = .ok (.aload_n 0, 1) := by decide +kernel
theorem d_Mod_flow_452 : decode b_Mod_flow 452 = .ok (.getfield 19, 3) := by decide +kernel
theorem d_Mod_flow_455 : decode b_Mod_flow 455 = .ok (.aload_n 0, 1) := by decide +kernel
theorem d_Mod_flow_456 : decode b_Mod_flow 456 = .ok (.getfield 28, 3) := by decide +kernel
theorem d_Mod_flow_459 : decode b_Mod_flow 459 = .ok (.iload 8, 2) := by decide +kernel
theorem d_Mod_flow_461 : decode b_Mod_flow 461 = .ok (.iaload, 1) := by decide +kernel
theorem d_Mod_flow_462 : decode b_Mod_flow 462 = .ok (.iaload, 1) := by decide +kernel
theorem d_Mod_flow_463 : decode b_Mod_flow 463 = .ok (.i2l, 1) := by decide +kernel
theorem d_Mod_flow_464 : decode b_Mod_flow 464 = .ok (.lmul, 1) := by decide +kernel
theorem d_Mod_flow_465 : decode b_Mod_flow 465 = .ok (.ldc2_w 150, 3) := by decide +kernel
theorem d_Mod_flow_468 : decode b_Mod_flow 468 = .ok (.ldiv, 1) := by decide +kernel
theorem d_Mod_flow_469 : decode b_Mod_flow 469 = .ok (.lstore 9, 2) := by decide +kernel
theorem d_Mod_flow_471 : decode b_Mod_flow 471 = .ok (.aload_n 0, 1) := by decide +kernel
theorem d_Mod_flow_472 : decode b_Mod_flow 472 = .ok (.getfield 103, 3) := by decide +kernel
theorem d_Mod_flow_475 : decode b_Mod_flow 475 = .ok (.bipush 6, 2) := by decide +kernel
theorem d_Mod_flow_477 : decode b_Mod_flow 477 = .ok (.iload 8, 2) := by decide +kernel
theorem d_Mod_flow_479 : decode b_Mod_flow 479 = .ok (.imul, 1) := by decide +kernel
theorem d_Mod_flow_480 : decode b_Mod_flow 480 = .ok (.iconst 4, 1) := by decide +kernel
theorem d_Mod_flow_481 : decode b_Mod_flow 481 = .ok (.iadd, 1) := by decide +kernel
theorem d_Mod_flow_482 : decode b_Mod_flow 482 = .ok (.lload 9, 2) := by decide +kernel
theorem d_Mod_flow_484 : decode b_Mod_flow 484 = .ok (.lconst 0, 1) := by decide +kernel
theorem d_Mod_flow_485 : decode b_Mod_flow 485 = .ok (.lcmp, 1) := by decide +kernel
theorem d_Mod_flow_486 : decode b_Mod_flow 486 = .ok (.ifCond .le 8, 3) := by decide +kernel
theorem d_Mod_flow_489 : decode b_Mod_flow 489 = .ok (.lload 9, 2) := by decide +kernel
theorem d_Mod_flow_491 : decode b_Mod_flow 491 = .ok (.goto 4, 3) := by decide +kernel
theorem d_Mod_flow_494 : decode b_Mod_flow 494 = .ok (.lconst 0, 1) := by decide +kernel
theorem d_Mod_flow_495 : decode b_Mod_flow 495 = .ok (.lastore, 1) := by decide +kernel
theorem d_Mod_flow_496 : decode b_Mod_flow 496 = .ok (.aload_n 0, 1) := by decide +kernel
theorem d_Mod_flow_497 : decode b_Mod_flow 497 = .ok (.lload 9, 2) := by decide +kernel
theorem d_Mod_flow_499 : decode b_Mod_flow 499 = .ok (.lconst 0, 1) := by decide +kernel
theorem d_Mod_flow_500 : decode b_Mod_flow 500 = .ok (.lcmp, 1) := by decide +kernel
theorem d_Mod_flow_501 : decode b_Mod_flow 501 = .ok (.ifCond .ge 9, 3) := by decide +kernel
theorem d_Mod_flow_504 : decode b_Mod_flow 504 = .ok (.lload 9, 2) := by decide +kernel
theorem d_Mod_flow_506 : decode b_Mod_flow 506 = .ok (.lneg, 1) := by decide +kernel
theorem d_Mod_flow_507 : decode b_Mod_flow 507 = .ok (.goto 4, 3) := by decide +kernel
theorem d_Mod_flow_510 : decode b_Mod_flow 510 = .ok (.lconst 0, 1) := by decide +kernel
theorem d_Mod_flow_511 : decode b_Mod_flow 511 = .ok (.putfield 197, 3) := by decide +kernel
theorem d_Mod_flow_514 : decode b_Mod_flow 514 = .ok (.iconst 0, 1) := by decide +kernel
theorem d_Mod_flow_515 : decode b_Mod_flow 515 = .ok (.istore 11, 2) := by decide +kernel
theorem d_Mod_flow_517 : decode b_Mod_flow 517 = .ok (.iload 11, 2) := by decide +kernel
theorem d_Mod_flow_519 : decode b_Mod_flow 519 = .ok (.aload_n 0, 1) := by decide +kernel
theorem d_Mod_flow_520 : decode b_Mod_flow 520 = .ok (.getfield 127, 3) := by decide +kernel
theorem d_Mod_flow_523 : decode b_Mod_flow 523 = .ok (.if_icmp .ge 61, 3) := by decide +kernel
theorem d_Mod_flow_526 : decode b_Mod_flow 526 = .ok (.aload_n 0, 1) := by decide +kernel
theorem d_Mod_flow_527 : decode b_Mod_flow 527 = .ok (.getfield 103, 3) := by decide +kernel
theorem d_Mod_flow_530 : decode b_Mod_flow 530 = .ok (.bipush 6, 2) := by decide +kernel
theorem d_Mod_flow_532 : decode b_Mod_flow 532 = .ok (.iload 11, 2) := by decide +kernel
theorem d_Mod_flow_534 : decode b_Mod_flow 534 = .ok (.imul, 1) := by decide +kernel
theorem d_Mod_flow_535 : decode b_Mod_flow 535 = .ok (.iconst 5, 1) := by decide +kernel
theorem d_Mod_flow_536 : decode b_Mod_flow 536 = .ok (.iadd, 1) := by decide +kernel
theorem d_Mod_flow_537 : decode b_Mod_flow 537 = .ok (.lload 6, 2) := by decide +kernel
theorem d_Mod_flow_539 : decode b_Mod_flow 539 = .ok (.aload_n 0, 1) := by decide +kernel
theorem d_Mod_flow_540 : decode b_Mod_flow 540 = .ok (.getfield 97, 3) := by decide +kernel
theorem d_Mod_flow_543 : decode b_Mod_flow 543 = .ok (.iload 11, 2) := by decide +kernel
theorem d_Mod_flow_545 : decode b_Mod_flow 545 = .ok (.laload, 1) := by decide +kernel
theorem d_Mod_flow_546 : decode b_Mod_flow 546 = .ok (.lcmp, 1) := by decide +kernel
theorem d_Mod_flow_547 : decode b_Mod_flow 547 = .ok (.ifCond .le 29, 3) := by decide +kernel
theorem d_Mod_flow_550 : decode b_Mod_flow 550 = .ok (.lload 6, 2) := by decide +kernel
theorem d_Mod_flow_552 : decode b_Mod_flow 552 = .ok (.aload_n 0, 1) := by decide +kernel
theorem d_Mod_flow_553 : decode b_Mod_flow 553 = .ok (.getfield 97, 3) := by decide +kernel
theorem d_Mod_flow_556 : decode b_Mod_flow 556 = .ok (.iload 11, 2) := by decide +kernel
theorem d_Mod_flow_558 : decode b_Mod_flow 558 = .ok (.laload, 1) := by decide +kernel
theorem d_Mod_flow_559 : decode b_Mod_flow 559 = .ok (.lsub, 1) := by decide +kernel
theorem d_Mod_flow_560 : decode b_Mod_flow 560 = .ok (.aload_n 0, 1) := by decide +kernel
theorem d_Mod_flow_561 : decode b_Mod_flow 561 = .ok (.getfield 38, 3) := by decide +kernel
theorem d_Mod_flow_564 : decode b_Mod_flow 564 = .ok (.iload 11, 2) := by decide +kernel
theorem d_Mod_flow_566 : decode b_Mod_flow 566 = .ok (.iaload, 1) := by decide +kernel
theorem d_Mod_flow_567 : decode b_Mod_flow 567 = .ok (.i2l, 1) := by decide +kernel
theorem d_Mod_flow_568 : decode b_Mod_flow 568 = .ok (.lmul, 1) := by decide +kernel
theorem d_Mod_flow_569 : decode b_Mod_flow 569 = .ok (.ldc2_w 150, 3) := by decide +kernel
theorem d_Mod_flow_572 : decode b_Mod_flow 572 = .ok (.ldiv, 1) := by decide +kernel
theorem d_Mod_flow_573 : decode b_Mod_flow 573 = .ok (.goto 4, 3) := by decide +kernel
theorem d_Mod_flow_576 : decode b_Mod_flow 576 = .ok (.lconst 0, 1) := by decide +kernel
theorem d_Mod_flow_577 : decode b_Mod_flow 577 = .ok (.lastore, 1) := by decide +kernel
theorem d_Mod_flow_578 : decode b_Mod_flow 578 = .ok (.iinc 11 1, 3) := by decide +kernel
theorem d_Mod_flow_581 : decode b_Mod_flow 581 = .ok (.goto (-64), 3) := by decide +kernel
theorem d_Mod_flow_584 : decode b_Mod_flow 584 = .ok (.return_, 1) := by decide +kernel
abbrev b_Mod_lessenLeaving : ByteArray := prog_13_method_24_code
def y_Mod_lessenLeaving : MethodName := ⟨"WallDampModel", "lessenLeaving", "(I)V"⟩
def ws_Mod_lessenLeaving : List Cond := .code y_Mod_lessenLeaving b_Mod_lessenLeaving 12 none :: x_tb
theorem pd_Mod_lessenLeaving : y_Mod_lessenLeaving.cls ≠ "java/lang/invoke/MethodHandle" ∧ y_Mod_lessenLeaving.cls ≠ "java/lang/invoke/VarHandle" ∧ (parseMethodDescriptor y_Mod_lessenLeaving.desc).map (fun d => d.parameters.length) = some 1 := by decide +kernel
theorem d_Mod_lessenLeaving_0 : decode b_Mod_lessenLeaving 0 = .ok (.iload_n 1, 1) := by decide +kernel
theorem d_Mod_lessenLeaving_1 : decode b_Mod_lessenLeaving 1 = .ok (.iconst 1, 1) := by decide +kernel
theorem d_Mod_lessenLeaving_2 : decode b_Mod_lessenLeaving 2 = .ok (.iadd, 1) := by decide +kernel
theorem d_Mod_lessenLeaving_3 : decode b_Mod_lessenLeaving 3 = .ok (.aload_n 0, 1) := by decide +kernel
theorem d_Mod_lessenLeaving_4 : decode b_Mod_lessenLeaving 4 = .ok (.getfield 127, 3) := by decide +kernel
theorem d_Mod_lessenLeaving_7 : decode b_Mod_lessenLeaving 7 = .ok (.if_icmp .ge 17, 3) := by decide +kernel
theorem d_Mod_lessenLeaving_10 : decode b_Mod_lessenLeaving 10 = .ok (.aload_n 0, 1) := by decide +kernel
theorem d_Mod_lessenLeaving_11 : decode b_Mod_lessenLeaving 11 = .ok (.getfield 103, 3) := by decide +kernel
theorem d_Mod_lessenLeaving_14 : decode b_Mod_lessenLeaving 14 = .ok (.bipush 6, 2) := by decide +kernel
theorem d_Mod_lessenLeaving_16 : decode b_Mod_lessenLeaving 16 = .ok (.iload_n 1, 1) := by decide +kernel
theorem d_Mod_lessenLeaving_17 : decode b_Mod_lessenLeaving 17 = .ok (.iconst 1, 1) := by decide +kernel
theorem d_Mod_lessenLeaving_18 : decode b_Mod_lessenLeaving 18 = .ok (.iadd, 1) := by decide +kernel
theorem d_Mod_lessenLeaving_19 : decode b_Mod_lessenLeaving 19 = .ok (.imul, 1) := by decide +kernel
theorem d_Mod_lessenLeaving_20 : decode b_Mod_lessenLeaving 20 = .ok (.laload, 1) := by decide +kernel
theorem d_Mod_lessenLeaving_21 : decode b_Mod_lessenLeaving 21 = .ok (.goto 4, 3) := by decide +kernel
theorem d_Mod_lessenLeaving_24 : decode b_Mod_lessenLeaving 24 = .ok (.lconst 0, 1) := by decide +kernel
theorem d_Mod_lessenLeaving_25 : decode b_Mod_lessenLeaving 25 = .ok (.lstore_n 2, 1) := by decide +kernel
theorem d_Mod_lessenLeaving_26 : decode b_Mod_lessenLeaving 26 = .ok (.iload_n 1, 1) := by decide +kernel
theorem d_Mod_lessenLeaving_27 : decode b_Mod_lessenLeaving 27 = .ok (.ifCond .le 19, 3) := by decide +kernel
theorem d_Mod_lessenLeaving_30 : decode b_Mod_lessenLeaving 30 = .ok (.aload_n 0, 1) := by decide +kernel
theorem d_Mod_lessenLeaving_31 : decode b_Mod_lessenLeaving 31 = .ok (.getfield 103, 3) := by decide +kernel
theorem d_Mod_lessenLeaving_34 : decode b_Mod_lessenLeaving 34 = .ok (.bipush 6, 2) := by decide +kernel
theorem d_Mod_lessenLeaving_36 : decode b_Mod_lessenLeaving 36 = .ok (.iload_n 1, 1) := by decide +kernel
theorem d_Mod_lessenLeaving_37 : decode b_Mod_lessenLeaving 37 = .ok (.iconst 1, 1) := by decide +kernel
theorem d_Mod_lessenLeaving_38 : decode b_Mod_lessenLeaving 38 = .ok (.isub, 1) := by decide +kernel
theorem d_Mod_lessenLeaving_39 : decode b_Mod_lessenLeaving 39 = .ok (.imul, 1) := by decide +kernel
theorem d_Mod_lessenLeaving_40 : decode b_Mod_lessenLeaving 40 = .ok (.iconst 1, 1) := by decide +kernel
theorem d_Mod_lessenLeaving_41 : decode b_Mod_lessenLeaving 41 = .ok (.iadd, 1) := by decide +kernel
theorem d_Mod_lessenLeaving_42 : decode b_Mod_lessenLeaving 42 = .ok (.laload, 1) := by decide +kernel
theorem d_Mod_lessenLeaving_43 : decode b_Mod_lessenLeaving 43 = .ok (.goto 4, 3) := by decide +kernel
theorem d_Mod_lessenLeaving_46 : decode b_Mod_lessenLeaving 46 = .ok (.lconst 0, 1) := by decide +kernel
theorem d_Mod_lessenLeaving_47 : decode b_Mod_lessenLeaving 47 = .ok (.lstore 4, 2) := by decide +kernel
theorem d_Mod_lessenLeaving_49 : decode b_Mod_lessenLeaving 49 = .ok (.iload_n 1, 1) := by decide +kernel
theorem d_Mod_lessenLeaving_50 : decode b_Mod_lessenLeaving 50 = .ok (.ifCond .ne 10, 3) := by decide +kernel
theorem d_Mod_lessenLeaving_53 : decode b_Mod_lessenLeaving 53 = .ok (.aload_n 0, 1) := by decide +kernel
theorem d_Mod_lessenLeaving_54 : decode b_Mod_lessenLeaving 54 = .ok (.getfield 192, 3) := by decide +kernel
theorem d_Mod_lessenLeaving_57 : decode b_Mod_lessenLeaving 57 = .ok (.goto 4, 3) := by decide +kernel
theorem d_Mod_lessenLeaving_60 : decode b_Mod_lessenLeaving 60 = .ok (.lconst 0, 1) := by decide +kernel
theorem d_Mod_lessenLeaving_61 : decode b_Mod_lessenLeaving 61 = .ok (.lstore 6, 2) := by decide +kernel
theorem d_Mod_lessenLeaving_63 : decode b_Mod_lessenLeaving 63 = .ok (.iload_n 1, 1) := by decide +kernel
theorem d_Mod_lessenLeaving_64 : decode b_Mod_lessenLeaving 64 = .ok (.aload_n 0, 1) := by decide +kernel
theorem d_Mod_lessenLeaving_65 : decode b_Mod_lessenLeaving 65 = .ok (.getfield 127, 3) := by decide +kernel
theorem d_Mod_lessenLeaving_68 : decode b_Mod_lessenLeaving 68 = .ok (.iconst 1, 1) := by decide +kernel
theorem d_Mod_lessenLeaving_69 : decode b_Mod_lessenLeaving 69 = .ok (.isub, 1) := by decide +kernel
theorem d_Mod_lessenLeaving_70 : decode b_Mod_lessenLeaving 70 = .ok (.if_icmp .ne 10, 3) := by decide +kernel
theorem d_Mod_lessenLeaving_73 : decode b_Mod_lessenLeaving 73 = .ok (.aload_n 0, 1) := by decide +kernel
theorem d_Mod_lessenLeaving_74 : decode b_Mod_lessenLeaving 74 = .ok (.getfield 197, 3) := by decide +kernel
theorem d_Mod_lessenLeaving_77 : decode b_Mod_lessenLeaving 77 = .ok (.goto 4, 3) := by decide +kernel
theorem d_Mod_lessenLeaving_80 : decode b_Mod_lessenLeaving 80 = .ok (.lconst 0, 1) := by decide +kernel
theorem d_Mod_lessenLeaving_81 : decode b_Mod_lessenLeaving 81 = .ok (.lstore 8, 2) := by decide +kernel
theorem d_Mod_lessenLeaving_83 : decode b_Mod_lessenLeaving 83 = .ok (.lload_n 2, 1) := by decide +kernel
theorem d_Mod_lessenLeaving_84 : decode b_Mod_lessenLeaving 84 = .ok (.lload 4, 2) := by decide +kernel
theorem d_Mod_lessenLeaving_86 : decode b_Mod_lessenLeaving 86 = .ok (.ladd, 1) := by decide +kernel
theorem d_Mod_lessenLeaving_87 : decode b_Mod_lessenLeaving 87 = .ok (.lload 6, 2) := by decide +kernel
theorem d_Mod_lessenLeaving_89 : decode b_Mod_lessenLeaving 89 = .ok (.ladd, 1) := by decide +kernel
theorem d_Mod_lessenLeaving_90 : decode b_Mod_lessenLeaving 90 = .ok (.lload 8, 2) := by decide +kernel
theorem d_Mod_lessenLeaving_92 : decode b_Mod_lessenLeaving 92 = .ok (.ladd, 1) := by decide +kernel
theorem d_Mod_lessenLeaving_93 : decode b_Mod_lessenLeaving 93 = .ok (.lstore 10, 2) := by decide +kernel
theorem d_Mod_lessenLeaving_95 : decode b_Mod_lessenLeaving 95 = .ok (.lload 10, 2) := by decide +kernel
theorem d_Mod_lessenLeaving_97 : decode b_Mod_lessenLeaving 97 = .ok (.aload_n 0, 1) := by decide +kernel
theorem d_Mod_lessenLeaving_98 : decode b_Mod_lessenLeaving 98 = .ok (.getfield 34, 3) := by decide +kernel
theorem d_Mod_lessenLeaving_101 : decode b_Mod_lessenLeaving 101 = .ok (.iload_n 1, 1) := by decide +kernel
theorem d_Mod_lessenLeaving_102 : decode b_Mod_lessenLeaving 102 = .ok (.laload, 1) := by decide +kernel
theorem d_Mod_lessenLeaving_103 : decode b_Mod_lessenLeaving 103 = .ok (.lcmp, 1) := by decide +kernel
theorem d_Mod_lessenLeaving_104 : decode b_Mod_lessenLeaving 104 = .ok (.ifCond .le 124, 3) := by decide +kernel
theorem d_Mod_lessenLeaving_107 : decode b_Mod_lessenLeaving 107 = .ok (.iload_n 1, 1) := by decide +kernel
theorem d_Mod_lessenLeaving_108 : decode b_Mod_lessenLeaving 108 = .ok (.iconst 1, 1) := by decide +kernel
theorem d_Mod_lessenLeaving_109 : decode b_Mod_lessenLeaving 109 = .ok (.iadd, 1) := by decide +kernel
theorem d_Mod_lessenLeaving_110 : decode b_Mod_lessenLeaving 110 = .ok (.aload_n 0, 1) := by decide +kernel
theorem d_Mod_lessenLeaving_111 : decode b_Mod_lessenLeaving 111 = .ok (.getfield 127, 3) := by decide +kernel
theorem d_Mod_lessenLeaving_114 : decode b_Mod_lessenLeaving 114 = .ok (.if_icmp .ge 25, 3) := by decide +kernel
theorem d_Mod_lessenLeaving_117 : decode b_Mod_lessenLeaving 117 = .ok (.aload_n 0, 1) := by decide +kernel
theorem d_Mod_lessenLeaving_118 : decode b_Mod_lessenLeaving 118 = .ok (.getfield 103, 3) := by decide +kernel
theorem d_Mod_lessenLeaving_121 : decode b_Mod_lessenLeaving 121 = .ok (.bipush 6, 2) := by decide +kernel
theorem d_Mod_lessenLeaving_123 : decode b_Mod_lessenLeaving 123 = .ok (.iload_n 1, 1) := by decide +kernel
theorem d_Mod_lessenLeaving_124 : decode b_Mod_lessenLeaving 124 = .ok (.iconst 1, 1) := by decide +kernel
theorem d_Mod_lessenLeaving_125 : decode b_Mod_lessenLeaving 125 = .ok (.iadd, 1) := by decide +kernel
theorem d_Mod_lessenLeaving_126 : decode b_Mod_lessenLeaving 126 = .ok (.imul, 1) := by decide +kernel
theorem d_Mod_lessenLeaving_127 : decode b_Mod_lessenLeaving 127 = .ok (.lload_n 2, 1) := by decide +kernel
theorem d_Mod_lessenLeaving_128 : decode b_Mod_lessenLeaving 128 = .ok (.aload_n 0, 1) := by decide +kernel
theorem d_Mod_lessenLeaving_129 : decode b_Mod_lessenLeaving 129 = .ok (.getfield 34, 3) := by decide +kernel
theorem d_Mod_lessenLeaving_132 : decode b_Mod_lessenLeaving 132 = .ok (.iload_n 1, 1) := by decide +kernel
theorem d_Mod_lessenLeaving_133 : decode b_Mod_lessenLeaving 133 = .ok (.laload, 1) := by decide +kernel
theorem d_Mod_lessenLeaving_134 : decode b_Mod_lessenLeaving 134 = .ok (.lmul, 1) := by decide +kernel
theorem d_Mod_lessenLeaving_135 : decode b_Mod_lessenLeaving 135 = .ok (.lload 10, 2) := by decide +kernel
theorem d_Mod_lessenLeaving_137 : decode b_Mod_lessenLeaving 137 = .ok (.ldiv, 1) := by decide +kernel
theorem d_Mod_lessenLeaving_138 : decode b_Mod_lessenLeaving 138 = .ok (.lastore, 1) := by decide +kernel
theorem d_Mod_lessenLeaving_139 : decode b_Mod_lessenLeaving 139 = .ok (.iload_n 1, 1) := by decide +kernel
theorem d_Mod_lessenLeaving_140 : decode b_Mod_lessenLeaving 140 = .ok (.ifCond .le 28, 3) := by decide +kernel
theorem d_Mod_lessenLeaving_143 : decode b_Mod_lessenLeaving 143 = .ok (.aload_n 0, 1) := by decide +kernel
theorem d_Mod_lessenLeaving_144 : decode b_Mod_lessenLeaving 144 = .ok (.getfield 103, 3) := by decide +kernel
theorem d_Mod_lessenLeaving_147 : decode b_Mod_lessenLeaving 147 = .ok (.bipush 6, 2) := by decide +kernel
theorem d_Mod_lessenLeaving_149 : decode b_Mod_lessenLeaving 149 = .ok (.iload_n 1, 1) := by decide +kernel
theorem d_Mod_lessenLeaving_150 : decode b_Mod_lessenLeaving 150 = .ok (.iconst 1, 1) := by decide +kernel
theorem d_Mod_lessenLeaving_151 : decode b_Mod_lessenLeaving 151 = .ok (.isub, 1) := by decide +kernel
theorem d_Mod_lessenLeaving_152 : decode b_Mod_lessenLeaving 152 = .ok (.imul, 1) := by decide +kernel
theorem d_Mod_lessenLeaving_153 : decode b_Mod_lessenLeaving 153 = .ok (.iconst 1, 1) := by decide +kernel
theorem d_Mod_lessenLeaving_154 : decode b_Mod_lessenLeaving 154 = .ok (.iadd, 1) := by decide +kernel
theorem d_Mod_lessenLeaving_155 : decode b_Mod_lessenLeaving 155 = .ok (.lload 4, 2) := by decide +kernel
theorem d_Mod_lessenLeaving_157 : decode b_Mod_lessenLeaving 157 = .ok (.aload_n 0, 1) := by decide +kernel
theorem d_Mod_lessenLeaving_158 : decode b_Mod_lessenLeaving 158 = .ok (.getfield 34, 3) := by decide +kernel
theorem d_Mod_lessenLeaving_161 : decode b_Mod_lessenLeaving 161 = .ok (.iload_n 1, 1) := by decide +kernel
theorem d_Mod_lessenLeaving_162 : decode b_Mod_lessenLeaving 162 = .ok (.laload, 1) := by decide +kernel
theorem d_Mod_lessenLeaving_163 : decode b_Mod_lessenLeaving 163 = .ok (.lmul, 1) := by decide +kernel
theorem d_Mod_lessenLeaving_164 : decode b_Mod_lessenLeaving 164 = .ok (.lload 10, 2) := by decide +kernel
theorem d_Mod_lessenLeaving_166 : decode b_Mod_lessenLeaving 166 = .ok (.ldiv, 1) := by decide +kernel
theorem d_Mod_lessenLeaving_167 : decode b_Mod_lessenLeaving 167 = .ok (.lastore, 1) := by decide +kernel
theorem d_Mod_lessenLeaving_168 : decode b_Mod_lessenLeaving 168 = .ok (.aload_n 0, 1) := by decide +kernel
theorem d_Mod_lessenLeaving_169 : decode b_Mod_lessenLeaving 169 = .ok (.iload_n 1, 1) := by decide +kernel
theorem d_Mod_lessenLeaving_170 : decode b_Mod_lessenLeaving 170 = .ok (.ifCond .ne 18, 3) := by decide +kernel
theorem d_Mod_lessenLeaving_173 : decode b_Mod_lessenLeaving 173 = .ok (.lload 6, 2) := by decide +kernel
theorem d_Mod_lessenLeaving_175 : decode b_Mod_lessenLeaving 175 = .ok (.aload_n 0, 1) := by decide +kernel
theorem d_Mod_lessenLeaving_176 : decode b_Mod_lessenLeaving 176 = .ok (.getfield 34, 3) := by decide +kernel
theorem d_Mod_lessenLeaving_179 : decode b_Mod_lessenLeaving 179 = .ok (.iload_n 1, 1) := by decide +kernel
theorem d_Mod_lessenLeaving_180 : decode b_Mod_lessenLeaving 180 = .ok (.laload, 1) := by decide +kernel
theorem d_Mod_lessenLeaving_181 : decode b_Mod_lessenLeaving 181 = .ok (.lmul, 1) := by decide +kernel
theorem d_Mod_lessenLeaving_182 : decode b_Mod_lessenLeaving 182 = .ok (.lload 10, 2) := by decide +kernel
theorem d_Mod_lessenLeaving_184 : decode b_Mod_lessenLeaving 184 = .ok (.ldiv, 1) := by decide +kernel
theorem d_Mod_lessenLeaving_185 : decode b_Mod_lessenLeaving 185 = .ok (.goto 7, 3) := by decide +kernel
theorem d_Mod_lessenLeaving_188 : decode b_Mod_lessenLeaving 188 = .ok (.aload_n 0, 1) := by decide +kernel
theorem d_Mod_lessenLeaving_189 : decode b_Mod_lessenLeaving 189 = .ok (.getfield 192, 3) := by decide +kernel
theorem d_Mod_lessenLeaving_192 : decode b_Mod_lessenLeaving 192 = .ok (.putfield 192, 3) := by decide +kernel
theorem d_Mod_lessenLeaving_195 : decode b_Mod_lessenLeaving 195 = .ok (.aload_n 0, 1) := by decide +kernel
theorem d_Mod_lessenLeaving_196 : decode b_Mod_lessenLeaving 196 = .ok (.iload_n 1, 1) := by decide +kernel
theorem d_Mod_lessenLeaving_197 : decode b_Mod_lessenLeaving 197 = .ok (.aload_n 0, 1) := by decide +kernel
theorem d_Mod_lessenLeaving_198 : decode b_Mod_lessenLeaving 198 = .ok (.getfield 127, 3) := by decide +kernel
theorem d_Mod_lessenLeaving_201 : decode b_Mod_lessenLeaving 201 = .ok (.iconst 1, 1) := by decide +kernel
theorem d_Mod_lessenLeaving_202 : decode b_Mod_lessenLeaving 202 = .ok (.isub, 1) := by decide +kernel
theorem d_Mod_lessenLeaving_203 : decode b_Mod_lessenLeaving 203 = .ok (.if_icmp .ne 18, 3) := by decide +kernel
theorem d_Mod_lessenLeaving_206 : decode b_Mod_lessenLeaving 206 = .ok (.lload 8, 2) := by decide +kernel
theorem d_Mod_lessenLeaving_208 : decode b_Mod_lessenLeaving 208 = .ok (.aload_n 0, 1) := by decide +kernel
theorem d_Mod_lessenLeaving_209 : decode b_Mod_lessenLeaving 209 = .ok (.getfield 34, 3) := by decide +kernel
theorem d_Mod_lessenLeaving_212 : decode b_Mod_lessenLeaving 212 = .ok (.iload_n 1, 1) := by decide +kernel
theorem d_Mod_lessenLeaving_213 : decode b_Mod_lessenLeaving 213 = .ok (.laload, 1) := by decide +kernel
theorem d_Mod_lessenLeaving_214 : decode b_Mod_lessenLeaving 214 = .ok (.lmul, 1) := by decide +kernel
theorem d_Mod_lessenLeaving_215 : decode b_Mod_lessenLeaving 215 = .ok (.lload 10, 2) := by decide +kernel
theorem d_Mod_lessenLeaving_217 : decode b_Mod_lessenLeaving 217 = .ok (.ldiv, 1) := by decide +kernel
theorem d_Mod_lessenLeaving_218 : decode b_Mod_lessenLeaving 218 = .ok (.goto 7, 3) := by decide +kernel
theorem d_Mod_lessenLeaving_221 : decode b_Mod_lessenLeaving 221 = .ok (.aload_n 0, 1) := by decide +kernel
theorem d_Mod_lessenLeaving_222 : decode b_Mod_lessenLeaving 222 = .ok (.getfield 197, 3) := by decide +kernel
theorem d_Mod_lessenLeaving_225 : decode b_Mod_lessenLeaving 225 = .ok (.putfield 197, 3) := by decide +kernel
theorem d_Mod_lessenLeaving_228 : decode b_Mod_lessenLeaving 228 = .ok (.return_, 1) := by decide +kernel
abbrev b_Mod_lessenComing : ByteArray := prog_13_method_25_code
def y_Mod_lessenComing : MethodName := ⟨"WallDampModel", "lessenComing", "(I)V"⟩
def ws_Mod_lessenComing : List Cond := .code y_Mod_lessenComing b_Mod_lessenComing 7 none :: x_tb
theorem pd_Mod_lessenComing : y_Mod_lessenComing.cls ≠ "java/lang/invoke/MethodHandle" ∧ y_Mod_lessenComing.cls ≠ "java/lang/invoke/VarHandle" ∧ (parseMethodDescriptor y_Mod_lessenComing.desc).map (fun d => d.parameters.length) = some 1 := by decide +kernel
theorem d_Mod_lessenComing_0 : decode b_Mod_lessenComing 0 = .ok (.aload_n 0, 1) := by decide +kernel
theorem d_Mod_lessenComing_1 : decode b_Mod_lessenComing 1 = .ok (.aload_n 0, 1) := by decide +kernel
theorem d_Mod_lessenComing_2 : decode b_Mod_lessenComing 2 = .ok (.getfield 28, 3) := by decide +kernel
theorem d_Mod_lessenComing_5 : decode b_Mod_lessenComing 5 = .ok (.iload_n 1, 1) := by decide +kernel
theorem d_Mod_lessenComing_6 : decode b_Mod_lessenComing 6 = .ok (.iaload, 1) := by decide +kernel
theorem d_Mod_lessenComing_7 : decode b_Mod_lessenComing 7 = .ok (.invokevirtual 143, 3) := by decide +kernel
theorem d_Mod_lessenComing_10 : decode b_Mod_lessenComing 10 = .ok (.i2l, 1) := by decide +kernel
theorem d_Mod_lessenComing_11 : decode b_Mod_lessenComing 11 = .ok (.aload_n 0, 1) := by decide +kernel
theorem d_Mod_lessenComing_12 : decode b_Mod_lessenComing 12 = .ok (.getfield 34, 3) := by decide +kernel
theorem d_Mod_lessenComing_15 : decode b_Mod_lessenComing 15 = .ok (.iload_n 1, 1) := by decide +kernel
theorem d_Mod_lessenComing_16 : decode b_Mod_lessenComing 16 = .ok (.laload, 1) := by decide +kernel
theorem d_Mod_lessenComing_17 : decode b_Mod_lessenComing 17 = .ok (.lsub, 1) := by decide +kernel
theorem d_Mod_lessenComing_18 : decode b_Mod_lessenComing 18 = .ok (.lstore_n 2, 1) := by decide +kernel
theorem d_Mod_lessenComing_19 : decode b_Mod_lessenComing 19 = .ok (.lconst 0, 1) := by decide +kernel
theorem d_Mod_lessenComing_20 : decode b_Mod_lessenComing 20 = .ok (.lstore 4, 2) := by decide +kernel
theorem d_Mod_lessenComing_22 : decode b_Mod_lessenComing 22 = .ok (.iconst 0, 1) := by decide +kernel
theorem d_Mod_lessenComing_23 : decode b_Mod_lessenComing 23 = .ok (.istore 6, 2) := by decide +kernel
theorem d_Mod_lessenComing_25 : decode b_Mod_lessenComing 25 = .ok (.iload 6, 2) := by decide +kernel
theorem d_Mod_lessenComing_27 : decode b_Mod_lessenComing 27 = .ok (.bipush 6, 2) := by decide +kernel
theorem d_Mod_lessenComing_29 : decode b_Mod_lessenComing 29 = .ok (.if_icmp .ge 26, 3) := by decide +kernel
theorem d_Mod_lessenComing_32 : decode b_Mod_lessenComing 32 = .ok (.lload 4, 2) := by decide +kernel
theorem d_Mod_lessenComing_34 : decode b_Mod_lessenComing 34 = .ok (.aload_n 0, 1) := by decide +kernel
theorem d_Mod_lessenComing_35 : decode b_Mod_lessenComing 35 = .ok (.getfield 103, 3) := by decide +kernel
theorem d_Mod_lessenComing_38 : decode b_Mod_lessenComing 38 = .ok (.bipush 6, 2) := by decide +kernel
theorem d_Mod_lessenComing_40 : decode b_Mod_lessenComing 40 = .ok (.iload_n 1, 1) := by decide +kernel
theorem d_Mod_lessenComing_41 : decode b_Mod_lessenComing 41 = .ok (.imul, 1) := by decide +kernel
theorem d_Mod_lessenComing_42 : decode b_Mod_lessenComing 42 = .ok (.iload 6, 2) := by decide +kernel
theorem d_Mod_lessenComing_44 : decode b_Mod_lessenComing 44 = .ok (.iadd, 1) := by decide +kernel
theorem d_Mod_lessenComing_45 : decode b_Mod_lessenComing 45 = .ok (.laload, 1) := by decide +kernel
theorem d_Mod_lessenComing_46 : decode b_Mod_lessenComing 46 = .ok (.ladd, 1) := by decide +kernel
theorem d_Mod_lessenComing_47 : decode b_Mod_lessenComing 47 = .ok (.lstore 4, 2) := by decide +kernel
theorem d_Mod_lessenComing_49 : decode b_Mod_lessenComing 49 = .ok (.iinc 6 1, 3) := by decide +kernel
theorem d_Mod_lessenComing_52 : decode b_Mod_lessenComing 52 = .ok (.goto (-27), 3) := by decide +kernel
theorem d_Mod_lessenComing_55 : decode b_Mod_lessenComing 55 = .ok (.iconst 0, 1) := by decide +kernel
theorem d_Mod_lessenComing_56 : decode b_Mod_lessenComing 56 = .ok (.istore 6, 2) := by decide +kernel
theorem d_Mod_lessenComing_58 : decode b_Mod_lessenComing 58 = .ok (.iload 6, 2) := by decide +kernel
theorem d_Mod_lessenComing_60 : decode b_Mod_lessenComing 60 = .ok (.bipush 6, 2) := by decide +kernel
theorem d_Mod_lessenComing_62 : decode b_Mod_lessenComing 62 = .ok (.if_icmp .ge 45, 3) := by decide +kernel
theorem d_Mod_lessenComing_65 : decode b_Mod_lessenComing 65 = .ok (.lload 4, 2) := by decide +kernel
theorem d_Mod_lessenComing_67 : decode b_Mod_lessenComing 67 = .ok (.lload_n 2, 1) := by decide +kernel
theorem d_Mod_lessenComing_68 : decode b_Mod_lessenComing 68 = .ok (.lcmp, 1) := by decide +kernel
theorem d_Mod_lessenComing_69 : decode b_Mod_lessenComing 69 = .ok (.ifCond .le 38, 3) := by decide +kernel
theorem d_Mod_lessenComing_72 : decode b_Mod_lessenComing 72 = .ok (.aload_n 0, 1) := by decide +kernel
theorem d_Mod_lessenComing_73 : decode b_Mod_lessenComing 73 = .ok (.getfield 103, 3) := by decide +kernel
theorem d_Mod_lessenComing_76 : decode b_Mod_lessenComing 76 = .ok (.bipush 6, 2) := by decide +kernel
theorem d_Mod_lessenComing_78 : decode b_Mod_lessenComing 78 = .ok (.iload_n 1, 1) := by decide +kernel
theorem d_Mod_lessenComing_79 : decode b_Mod_lessenComing 79 = .ok (.imul, 1) := by decide +kernel
theorem d_Mod_lessenComing_80 : decode b_Mod_lessenComing 80 = .ok (.iload 6, 2) := by decide +kernel
theorem d_Mod_lessenComing_82 : decode b_Mod_lessenComing 82 = .ok (.iadd, 1) := by decide +kernel
theorem d_Mod_lessenComing_83 : decode b_Mod_lessenComing 83 = .ok (.aload_n 0, 1) := by decide +kernel
theorem d_Mod_lessenComing_84 : decode b_Mod_lessenComing 84 = .ok (.getfield 103, 3) := by decide +kernel
theorem d_Mod_lessenComing_87 : decode b_Mod_lessenComing 87 = .ok (.bipush 6, 2) := by decide +kernel
theorem d_Mod_lessenComing_89 : decode b_Mod_lessenComing 89 = .ok (.iload_n 1, 1) := by decide +kernel
theorem d_Mod_lessenComing_90 : decode b_Mod_lessenComing 90 = .ok (.imul, 1) := by decide +kernel
theorem d_Mod_lessenComing_91 : decode b_Mod_lessenComing 91 = .ok (.iload 6, 2) := by decide +kernel
theorem d_Mod_lessenComing_93 : decode b_Mod_lessenComing 93 = .ok (.iadd, 1) := by decide +kernel
theorem d_Mod_lessenComing_94 : decode b_Mod_lessenComing 94 = .ok (.laload, 1) := by decide +kernel
theorem d_Mod_lessenComing_95 : decode b_Mod_lessenComing 95 = .ok (.lload_n 2, 1) := by decide +kernel
theorem d_Mod_lessenComing_96 : decode b_Mod_lessenComing 96 = .ok (.lmul, 1) := by decide +kernel
theorem d_Mod_lessenComing_97 : decode b_Mod_lessenComing 97 = .ok (.lload 4, 2) := by decide +kernel
theorem d_Mod_lessenComing_99 : decode b_Mod_lessenComing 99 = .ok (.ldiv, 1) := by decide +kernel
theorem d_Mod_lessenComing_100 : decode b_Mod_lessenComing 100 = .ok (.lastore, 1) := by decide +kernel
theorem d_Mod_lessenComing_101 : decode b_Mod_lessenComing 101 = .ok (.iinc 6 1, 3) := by decide +kernel
theorem d_Mod_lessenComing_104 : decode b_Mod_lessenComing 104 = .ok (.goto (-46), 3) := by decide +kernel
theorem d_Mod_lessenComing_107 : decode b_Mod_lessenComing 107 = .ok (.return_, 1) := by decide +kernel
abbrev b_Mod_move : ByteArray := prog_13_method_26_code
def y_Mod_move : MethodName := ⟨"WallDampModel", "move", "()V"⟩
def ws_Mod_move : List Cond := .code y_Mod_move b_Mod_move 5 none :: x_tb
theorem pd_Mod_move : y_Mod_move.cls ≠ "java/lang/invoke/MethodHandle" ∧ y_Mod_move.cls ≠ "java/lang/invoke/VarHandle" ∧ (parseMethodDescriptor y_Mod_move.desc).map (fun d => d.parameters.length) = some 0 := by decide +kernel
theorem d_Mod_move_0 : decode b_Mod_move 0 = .ok (.iconst 0, 1) := by decide +kernel
theorem d_Mod_move_1 : decode b_Mod_move 1 = .ok (.istore_n 1, 1) := by decide +kernel
theorem d_Mod_move_2 : decode b_Mod_move 2 = .ok (.iload_n 1, 1) := by decide +kernel
theorem d_Mod_move_3 : decode b_Mod_move 3 = .ok (.aload_n 0, 1) := by decide +kernel
theorem d_Mod_move_4 : decode b_Mod_move 4 = .ok (.getfield 127, 3) := by decide +kernel
theorem d_Mod_move_7 : decode b_Mod_move 7 = .ok (.if_icmp .ge 14, 3) := by decide +kernel
theorem d_Mod_move_10 : decode b_Mod_move 10 = .ok (.aload_n 0, 1) := by decide +kernel
theorem d_Mod_move_11 : decode b_Mod_move 11 = .ok (.iload_n 1, 1) := by decide +kernel
theorem d_Mod_move_12 : decode b_Mod_move 12 = .ok (.invokevirtual 200, 3) := by decide +kernel
theorem d_Mod_move_15 : decode b_Mod_move 15 = .ok (.iinc 1 1, 3) := by decide +kernel
theorem d_Mod_move_18 : decode b_Mod_move 18 = .ok (.goto (-16), 3) := by decide +kernel
theorem d_Mod_move_21 : decode b_Mod_move 21 = .ok (.iconst 0, 1) := by decide +kernel
theorem d_Mod_move_22 : decode b_Mod_move 22 = .ok (.istore_n 1, 1) := by decide +kernel
theorem d_Mod_move_23 : decode b_Mod_move 23 = .ok (.iload_n 1, 1) := by decide +kernel
theorem d_Mod_move_24 : decode b_Mod_move 24 = .ok (.aload_n 0, 1) := by decide +kernel
theorem d_Mod_move_25 : decode b_Mod_move 25 = .ok (.getfield 127, 3) := by decide +kernel
theorem d_Mod_move_28 : decode b_Mod_move 28 = .ok (.if_icmp .ge 14, 3) := by decide +kernel
theorem d_Mod_move_31 : decode b_Mod_move 31 = .ok (.aload_n 0, 1) := by decide +kernel
theorem d_Mod_move_32 : decode b_Mod_move 32 = .ok (.iload_n 1, 1) := by decide +kernel
theorem d_Mod_move_33 : decode b_Mod_move 33 = .ok (.invokevirtual 204, 3) := by decide +kernel
theorem d_Mod_move_36 : decode b_Mod_move 36 = .ok (.iinc 1 1, 3) := by decide +kernel
theorem d_Mod_move_39 : decode b_Mod_move 39 = .ok (.goto (-16), 3) := by decide +kernel
theorem d_Mod_move_42 : decode b_Mod_move 42 = .ok (.iconst 0, 1) := by decide +kernel
theorem d_Mod_move_43 : decode b_Mod_move 43 = .ok (.istore_n 1, 1) := by decide +kernel
theorem d_Mod_move_44 : decode b_Mod_move 44 = .ok (.iload_n 1, 1) := by decide +kernel
theorem d_Mod_move_45 : decode b_Mod_move 45 = .ok (.aload_n 0, 1) := by decide +kernel
theorem d_Mod_move_46 : decode b_Mod_move 46 = .ok (.getfield 127, 3) := by decide +kernel
theorem d_Mod_move_49 : decode b_Mod_move 49 = .ok (.if_icmp .ge 134, 3) := by decide +kernel
theorem d_Mod_move_52 : decode b_Mod_move 52 = .ok (.iconst 0, 1) := by decide +kernel
theorem d_Mod_move_53 : decode b_Mod_move 53 = .ok (.istore_n 2, 1) := by decide +kernel
theorem d_Mod_move_54 : decode b_Mod_move 54 = .ok (.iload_n 2, 1) := by decide +kernel
theorem d_Mod_move_55 : decode b_Mod_move 55 = .ok (.bipush 6, 2) := by decide +kernel
theorem d_Mod_move_57 : decode b_Mod_move 57 = .ok (.if_icmp .ge 120, 3) := by decide +kernel
theorem d_Mod_move_60 : decode b_Mod_move 60 = .ok (.aload_n 0, 1) := by decide +kernel
theorem d_Mod_move_61 : decode b_Mod_move 61 = .ok (.getfield 103, 3) := by decide +kernel
theorem d_Mod_move_64 : decode b_Mod_move 64 = .ok (.bipush 6, 2) := by decide +kernel
theorem d_Mod_move_66 : decode b_Mod_move 66 = .ok (.iload_n 1, 1) := by decide +kernel
theorem d_Mod_move_67 : decode b_Mod_move 67 = .ok (.imul, 1) := by decide +kernel
theorem d_Mod_move_68 : decode b_Mod_move 68 = .ok (.iload_n 2, 1) := by decide +kernel
theorem d_Mod_move_69 : decode b_Mod_move 69 = .ok (.iadd, 1) := by decide +kernel
theorem d_Mod_move_70 : decode b_Mod_move 70 = .ok (.laload, 1) := by decide +kernel
theorem d_Mod_move_71 : decode b_Mod_move 71 = .ok (.lstore_n 3, 1) := by decide +kernel
theorem d_Mod_move_72 : decode b_Mod_move 72 = .ok (.aload_n 0, 1) := by decide +kernel
theorem d_Mod_move_73 : decode b_Mod_move 73 = .ok (.getfield 34, 3) := by decide +kernel
theorem d_Mod_move_76 : decode b_Mod_move 76 = .ok (.iload_n 1, 1) := by decide +kernel
theorem d_Mod_move_77 : decode b_Mod_move 77 = .ok (.dup2, 1) := by decide +kernel
theorem d_Mod_move_78 : decode b_Mod_move 78 = .ok (.laload, 1) := by decide +kernel
theorem d_Mod_move_79 : decode b_Mod_move 79 = .ok (.lload_n 3, 1) := by decide +kernel
theorem d_Mod_move_80 : decode b_Mod_move 80 = .ok (.ladd, 1) := by decide +kernel
theorem d_Mod_move_81 : decode b_Mod_move 81 = .ok (.lastore, 1) := by decide +kernel
theorem d_Mod_move_82 : decode b_Mod_move 82 = .ok (.iload_n 2, 1) := by decide +kernel
theorem d_Mod_move_83 : decode b_Mod_move 83 = .ok (.ifCond .ne 26, 3) := by decide +kernel
theorem d_Mod_move_86 : decode b_Mod_move 86 = .ok (.aload_n 0, 1) := by decide +kernel
theorem d_Mod_move_87 : decode b_Mod_move 87 = .ok (.getfield 34, 3) := by decide +kernel
theorem d_Mod_move_90 : decode b_Mod_move 90 = .ok (.iload_n 1, 1) := by decide +kernel
theorem d_Mod_move_91 : decode b_Mod_move 91 = .ok (.ifCond .le 9, 3) := by decide +kernel
theorem d_Mod_move_94 : decode b_Mod_move 94 = .ok (.iload_n 1, 1) := by decide +kernel
theorem d_Mod_move_95 : decode b_Mod_move 95 = .ok (.iconst 1, 1) := by decide +kernel
theorem d_Mod_move_96 : decode b_Mod_move 96 = .ok (.isub, 1) := by decide +kernel
theorem d_Mod_move_97 : decode b_Mod_move 97 = .ok (.goto 4, 3) := by decide +kernel
theorem d_Mod_move_100 : decode b_Mod_move 100 = .ok (.iconst 0, 1) := by decide +kernel
theorem d_Mod_move_101 : decode b_Mod_move 101 = .ok (.dup2, 1) := by decide +kernel
theorem d_Mod_move_102 : decode b_Mod_move 102 = .ok (.laload, 1) := by decide +kernel
theorem d_Mod_move_103 : decode b_Mod_move 103 = .ok (.lload_n 3, 1) := by decide +kernel
theorem d_Mod_move_104 : decode b_Mod_move 104 = .ok (.lsub, 1) := by decide +kernel
theorem d_Mod_move_105 : decode b_Mod_move 105 = .ok (.lastore, 1) := by decide +kernel
theorem d_Mod_move_106 : decode b_Mod_move 106 = .ok (.goto 65, 3) := by decide +kernel
theorem d_Mod_move_109 : decode b_Mod_move 109 = .ok (.iload_n 2, 1) := by decide +kernel
theorem d_Mod_move_110 : decode b_Mod_move 110 = .ok (.iconst 1, 1) := by decide +kernel
theorem d_Mod_move_111 : decode b_Mod_move 111 = .ok (.if_icmp .ne 32, 3) := by decide +kernel
theorem d_Mod_move_114 : decode b_Mod_move 114 = .ok (.aload_n 0, 1) := by decide +kernel
theorem d_Mod_move_115 : decode b_Mod_move 115 = .ok (.getfield 34, 3) := by decide +kernel
theorem d_Mod_move_118 : decode b_Mod_move 118 = .ok (.iload_n 1, 1) := by decide +kernel
theorem d_Mod_move_119 : decode b_Mod_move 119 = .ok (.iconst 1, 1) := by decide +kernel
theorem d_Mod_move_120 : decode b_Mod_move 120 = .ok (.iadd, 1) := by decide +kernel
theorem d_Mod_move_121 : decode b_Mod_move 121 = .ok (.aload_n 0, 1) := by decide +kernel
theorem d_Mod_move_122 : decode b_Mod_move 122 = .ok (.getfield 127, 3) := by decide +kernel
theorem d_Mod_move_125 : decode b_Mod_move 125 = .ok (.if_icmp .ge 9, 3) := by decide +kernel
theorem d_Mod_move_128 : decode b_Mod_move 128 = .ok (.iload_n 1, 1) := by decide +kernel
theorem d_Mod_move_129 : decode b_Mod_move 129 = .ok (.iconst 1, 1) := by decide +kernel
theorem d_Mod_move_130 : decode b_Mod_move 130 = .ok (.iadd, 1) := by decide +kernel
theorem d_Mod_move_131 : decode b_Mod_move 131 = .ok (.goto 4, 3) := by decide +kernel
theorem d_Mod_move_134 : decode b_Mod_move 134 = .ok (.iload_n 1, 1) := by decide +kernel
theorem d_Mod_move_135 : decode b_Mod_move 135 = .ok (.dup2, 1) := by decide +kernel
theorem d_Mod_move_136 : decode b_Mod_move 136 = .ok (.laload, 1) := by decide +kernel
theorem d_Mod_move_137 : decode b_Mod_move 137 = .ok (.lload_n 3, 1) := by decide +kernel
theorem d_Mod_move_138 : decode b_Mod_move 138 = .ok (.lsub, 1) := by decide +kernel
theorem d_Mod_move_139 : decode b_Mod_move 139 = .ok (.lastore, 1) := by decide +kernel
theorem d_Mod_move_140 : decode b_Mod_move 140 = .ok (.goto 31, 3) := by decide +kernel
theorem d_Mod_move_143 : decode b_Mod_move 143 = .ok (.iload_n 2, 1) := by decide +kernel
theorem d_Mod_move_144 : decode b_Mod_move 144 = .ok (.iconst 4, 1) := by decide +kernel
theorem d_Mod_move_145 : decode b_Mod_move 145 = .ok (.if_icmp .ge 16, 3) := by decide +kernel
theorem d_Mod_move_148 : decode b_Mod_move 148 = .ok (.aload_n 0, 1) := by decide +kernel
theorem d_Mod_move_149 : decode b_Mod_move 149 = .ok (.dup, 1) := by decide +kernel
theorem d_Mod_move_150 : decode b_Mod_move 150 = .ok (.getfield 207, 3) := by decide +kernel
theorem d_Mod_move_153 : decode b_Mod_move 153 = .ok (.lload_n 3, 1) := by decide +kernel
theorem d_Mod_move_154 : decode b_Mod_move 154 = .ok (.ladd, 1) := by decide +kernel
theorem d_Mod_move_155 : decode b_Mod_move 155 = .ok (.putfield 207, 3) := by decide +kernel
theorem d_Mod_move_158 : decode b_Mod_move 158 = .ok (.goto 13, 3) := by decide +kernel
theorem d_Mod_move_161 : decode b_Mod_move 161 = .ok (.aload_n 0, 1) := by decide +kernel
theorem d_Mod_move_162 : decode b_Mod_move 162 = .ok (.dup, 1) := by decide +kernel
theorem d_Mod_move_163 : decode b_Mod_move 163 = .ok (.getfield 210, 3) := by decide +kernel
theorem d_Mod_move_166 : decode b_Mod_move 166 = .ok (.lload_n 3, 1) := by decide +kernel
theorem d_Mod_move_167 : decode b_Mod_move 167 = .ok (.ladd, 1) := by decide +kernel
theorem d_Mod_move_168 : decode b_Mod_move 168 = .ok (.putfield 210, 3) := by decide +kernel
theorem d_Mod_move_171 : decode b_Mod_move 171 = .ok (.iinc 2 1, 3) := by decide +kernel
theorem d_Mod_move_174 : decode b_Mod_move 174 = .ok (.goto (-120), 3) := by decide +kernel
theorem d_Mod_move_177 : decode b_Mod_move 177 = .ok (.iinc 1 1, 3) := by decide +kernel
theorem d_Mod_move_180 : decode b_Mod_move 180 = .ok (.goto (-136), 3) := by decide +kernel
theorem d_Mod_move_183 : decode b_Mod_move 183 = .ok (.aload_n 0, 1) := by decide +kernel
theorem d_Mod_move_184 : decode b_Mod_move 184 = .ok (.getfield 34, 3) := by decide +kernel
theorem d_Mod_move_187 : decode b_Mod_move 187 = .ok (.iconst 0, 1) := by decide +kernel
theorem d_Mod_move_188 : decode b_Mod_move 188 = .ok (.dup2, 1) := by decide +kernel
theorem d_Mod_move_189 : decode b_Mod_move 189 = .ok (.laload, 1) := by decide +kernel
theorem d_Mod_move_190 : decode b_Mod_move 190 = .ok (.aload_n 0, 1) := by decide +kernel
theorem d_Mod_move_191 : decode b_Mod_move 191 = .ok (.getfield 192, 3) := by decide +kernel
theorem d_Mod_move_194 : decode b_Mod_move 194 = .ok (.lsub, 1) := by decide +kernel
theorem d_Mod_move_195 : decode b_Mod_move 195 = .ok (.lastore, 1) := by decide +kernel
theorem d_Mod_move_196 : decode b_Mod_move 196 = .ok (.aload_n 0, 1) := by decide +kernel
theorem d_Mod_move_197 : decode b_Mod_move 197 = .ok (.dup, 1) := by decide +kernel
theorem d_Mod_move_198 : decode b_Mod_move 198 = .ok (.getfield 213, 3) := by decide +kernel
theorem d_Mod_move_201 : decode b_Mod_move 201 = .ok (.aload_n 0, 1) := by decide +kernel
theorem d_Mod_move_202 : decode b_Mod_move 202 = .ok (.getfield 192, 3) := by decide +kernel
theorem d_Mod_move_205 : decode b_Mod_move 205 = .ok (.ladd, 1) := by decide +kernel
theorem d_Mod_move_206 : decode b_Mod_move 206 = .ok (.putfield 213, 3) := by decide +kernel
theorem d_Mod_move_209 : decode b_Mod_move 209 = .ok (.aload_n 0, 1) := by decide +kernel
theorem d_Mod_move_210 : decode b_Mod_move 210 = .ok (.getfield 34, 3) := by decide +kernel
theorem d_Mod_move_213 : decode b_Mod_move 213 = .ok (.aload_n 0, 1) := by decide +kernel
theorem d_Mod_move_214 : decode b_Mod_move 214 = .ok (.getfield 127, 3) := by decide +kernel
theorem d_Mod_move_217 : decode b_Mod_move 217 = .ok (.iconst 1, 1) := by decide +kernel
theorem d_Mod_move_218 : decode b_Mod_move 218 = .ok (.isub, 1) := by decide +kernel
theorem d_Mod_move_219 : decode b_Mod_move 219 = .ok (.dup2, 1) := by decide +kernel
theorem d_Mod_move_220 : decode b_Mod_move 220 = .ok (.laload, 1) := by decide +kernel
theorem d_Mod_move_221 : decode b_Mod_move 221 = .ok (.aload_n 0, 1) := by decide +kernel
theorem d_Mod_move_222 : decode b_Mod_move 222 = .ok (.getfield 197, 3) := by decide +kernel
theorem d_Mod_move_225 : decode b_Mod_move 225 = .ok (.lsub, 1) := by decide +kernel
theorem d_Mod_move_226 : decode b_Mod_move 226 = .ok (.lastore, 1) := by decide +kernel
theorem d_Mod_move_227 : decode b_Mod_move 227 = .ok (.aload_n 0, 1) := by decide +kernel
theorem d_Mod_move_228 : decode b_Mod_move 228 = .ok (.dup, 1) := by decide +kernel
theorem d_Mod_move_229 : decode b_Mod_move 229 = .ok (.getfield 216, 3) := by decide +kernel
theorem d_Mod_move_232 : decode b_Mod_move 232 = .ok (.aload_n 0, 1) := by decide +kernel
theorem d_Mod_move_233 : decode b_Mod_move 233 = .ok (.getfield 197, 3) := by decide +kernel
theorem d_Mod_move_236 : decode b_Mod_move 236 = .ok (.ladd, 1) := by decide +kernel
theorem d_Mod_move_237 : decode b_Mod_move 237 = .ok (.putfield 216, 3) := by decide +kernel
theorem d_Mod_move_240 : decode b_Mod_move 240 = .ok (.return_, 1) := by decide +kernel
abbrev b_Mod_frostAndMould : ByteArray := prog_13_method_27_code
def y_Mod_frostAndMould : MethodName := ⟨"WallDampModel", "frostAndMould", "()V"⟩
def ws_Mod_frostAndMould : List Cond := .code y_Mod_frostAndMould b_Mod_frostAndMould 5 none :: x_tb
theorem pd_Mod_frostAndMould : y_Mod_frostAndMould.cls ≠ "java/lang/invoke/MethodHandle" ∧ y_Mod_frostAndMould.cls ≠ "java/lang/invoke/VarHandle" ∧ (parseMethodDescriptor y_Mod_frostAndMould.desc).map (fun d => d.parameters.length) = some 0 := by decide +kernel
theorem d_Mod_frostAndMould_0 : decode b_Mod_frostAndMould 0 = .ok (.iconst 0, 1) := by decide +kernel
theorem d_Mod_frostAndMould_1 : decode b_Mod_frostAndMould 1 = .ok (.istore_n 1, 1) := by decide +kernel
theorem d_Mod_frostAndMould_2 : decode b_Mod_frostAndMould 2 = .ok (.iload_n 1, 1) := by decide +kernel
theorem d_Mod_frostAndMould_3 : decode b_Mod_frostAndMould 3 = .ok (.aload_n 0, 1) := by decide +kernel
theorem d_Mod_frostAndMould_4 : decode b_Mod_frostAndMould 4 = .ok (.getfield 127, 3) := by decide +kernel
theorem d_Mod_frostAndMould_7 : decode b_Mod_frostAndMould 7 = .ok (.if_icmp .ge 106, 3) := by decide +kernel
theorem d_Mod_frostAndMould_10 : decode b_Mod_frostAndMould 10 = .ok (.aload_n 0, 1) := by decide +kernel
theorem d_Mod_frostAndMould_11 : decode b_Mod_frostAndMould 11 = .ok (.iload_n 1, 1) := by decide +kernel
theorem d_Mod_frostAndMould_12 : decode b_Mod_frostAndMould 12 = .ok (.invokevirtual 186, 3) := by decide +kernel
theorem d_Mod_frostAndMould_15 : decode b_Mod_frostAndMould 15 = .ok (.istore_n 2, 1) := by decide +kernel
theorem d_Mod_frostAndMould_16 : decode b_Mod_frostAndMould 16 = .ok (.aload_n 0, 1) := by decide +kernel
theorem d_Mod_frostAndMould_17 : decode b_Mod_frostAndMould 17 = .ok (.getfield 51, 3) := by decide +kernel
theorem d_Mod_frostAndMould_20 : decode b_Mod_frostAndMould 20 = .ok (.iload_n 1, 1) := by decide +kernel
theorem d_Mod_frostAndMould_21 : decode b_Mod_frostAndMould 21 = .ok (.iload_n 2, 1) := by decide +kernel
theorem d_Mod_frostAndMould_22 : decode b_Mod_frostAndMould 22 = .ok (.aload_n 0, 1) := by decide +kernel
theorem d_Mod_frostAndMould_23 : decode b_Mod_frostAndMould 23 = .ok (.getfield 51, 3) := by decide +kernel
theorem d_Mod_frostAndMould_26 : decode b_Mod_frostAndMould 26 = .ok (.iload_n 1, 1) := by decide +kernel
theorem d_Mod_frostAndMould_27 : decode b_Mod_frostAndMould 27 = .ok (.iaload, 1) := by decide +kernel
theorem d_Mod_frostAndMould_28 : decode b_Mod_frostAndMould 28 = .ok (.if_icmp .le 7, 3) := by decide +kernel
theorem d_Mod_frostAndMould_31 : decode b_Mod_frostAndMould 31 = .ok (.iload_n 2, 1) := by decide +kernel
theorem d_Mod_frostAndMould_32 : decode b_Mod_frostAndMould 32 = .ok (.goto 9, 3) := by decide +kernel
theorem d_Mod_frostAndMould_35 : decode b_Mod_frostAndMould 35 = .ok (.aload_n 0, 1) := by decide +kernel
theorem d_Mod_frostAndMould_36 : decode b_Mod_frostAndMould 36 = .ok (.getfield 51, 3) := by decide +kernel
theorem d_Mod_frostAndMould_39 : decode b_Mod_frostAndMould 39 = .ok (.iload_n 1, 1) := by decide +kernel
theorem d_Mod_frostAndMould_40 : decode b_Mod_frostAndMould 40 = .ok (.iaload, 1) := by decide +kernel
theorem d_Mod_frostAndMould_41 : decode b_Mod_frostAndMould 41 = .ok (.iastore, 1) := by decide +kernel
theorem d_Mod_frostAndMould_42 : decode b_Mod_frostAndMould 42 = .ok (.aload_n 0, 1) := by decide +kernel
theorem d_Mod_frostAndMould_43 : decode b_Mod_frostAndMould 43 = .ok (.getfield 47, 3) := by decide +kernel
theorem d_Mod_frostAndMould_46 : decode b_Mod_frostAndMould 46 = .ok (.iload_n 1, 1) := by decide +kernel
theorem d_Mod_frostAndMould_47 : decode b_Mod_frostAndMould 47 = .ok (.baload, 1) := by decide +kernel
theorem d_Mod_frostAndMould_48 : decode b_Mod_frostAndMould 48 = .ok (.ifCond .ne 33, 3) := by decide +kernel
theorem d_Mod_frostAndMould_51 : decode b_Mod_frostAndMould 51 = .ok (.aload_n 0, 1) := by decide +kernel
theorem d_Mod_frostAndMould_52 : decode b_Mod_frostAndMould 52 = .ok (.getfield 47, 3) := by decide +kernel
theorem d_Mod_frostAndMould_55 : decode b_Mod_frostAndMould 55 = .ok (.iload_n 1, 1) := by decide +kernel
theorem d_Mod_frostAndMould_56 : decode b_Mod_frostAndMould 56 = .ok (.aload_n 0, 1) := by decide +kernel
theorem d_Mod_frostAndMould_57 : decode b_Mod_frostAndMould 57 = .ok (.getfield 41, 3) := by decide +kernel
theorem d_Mod_frostAndMould_60 : decode b_Mod_frostAndMould 60 = .ok (.iload_n 1, 1) := by decide +kernel
theorem d_Mod_frostAndMould_61 : decode b_Mod_frostAndMould 61 = .ok (.iaload, 1) := by decide +kernel
theorem d_Mod_frostAndMould_62 : decode b_Mod_frostAndMould 62 = .ok (.ifCond .ge 14, 3) := by decide +kernel
theorem d_Mod_frostAndMould_65 : decode b_Mod_frostAndMould 65 = .ok (.iload_n 2, 1) := by decide +kernel
theorem d_Mod_frostAndMould_66 : decode b_Mod_frostAndMould 66 = .ok (.sipush 9000, 3) := by decide +kernel
theorem d_Mod_frostAndMould_69 : decode b_Mod_frostAndMould 69 = .ok (.if_icmp .lt 7, 3) := by decide +kernel
theorem d_Mod_frostAndMould_72 : decode b_Mod_frostAndMould 72 = .ok (.iconst 1, 1) := by decide +kernel
theorem d_Mod_frostAndMould_73 : decode b_Mod_frostAndMould 73 = .ok (.goto 4, 3) := by decide +kernel
theorem d_Mod_frostAndMould_76 : decode b_Mod_frostAndMould 76 = .ok (.iconst 0, 1) := by decide +kernel
theorem d_Mod_frostAndMould_77 : decode b_Mod_frostAndMould 77 = .ok (.bastore, 1) := by decide +kernel
theorem d_Mod_frostAndMould_78 : decode b_Mod_frostAndMould 78 = .ok (.goto 29, 3) := by decide +kernel
theorem d_Mod_frostAndMould_81 : decode b_Mod_frostAndMould 81 = .ok (.aload_n 0, 1) := by decide +kernel
theorem d_Mod_frostAndMould_82 : decode b_Mod_frostAndMould 82 = .ok (.getfield 41, 3) := by decide +kernel
theorem d_Mod_frostAndMould_85 : decode b_Mod_frostAndMould 85 = .ok (.iload_n 1, 1) := by decide +kernel
theorem d_Mod_frostAndMould_86 : decode b_Mod_frostAndMould 86 = .ok (.iaload, 1) := by decide +kernel
theorem d_Mod_frostAndMould_87 : decode b_Mod_frostAndMould 87 = .ok (.ifCond .lt 20, 3) := by decide +kernel
theorem d_Mod_frostAndMould_90 : decode b_Mod_frostAndMould 90 = .ok (.aload_n 0, 1) := by decide +kernel
theorem d_Mod_frostAndMould_91 : decode b_Mod_frostAndMould 91 = .ok (.getfield 47, 3) := by decide +kernel
theorem d_Mod_frostAndMould_94 : decode b_Mod_frostAndMould 94 = .ok (.iload_n 1, 1) := by decide +kernel
theorem d_Mod_frostAndMould_95 : decode b_Mod_frostAndMould 95 = .ok (.iconst 0, 1) := by decide +kernel
theorem d_Mod_frostAndMould_96 : decode b_Mod_frostAndMould 96 = .ok (.bastore, 1) := by decide +kernel
theorem d_Mod_frostAndMould_97 : decode b_Mod_frostAndMould 97 = .ok (.aload_n 0, 1) := by decide +kernel
theorem d_Mod_frostAndMould_98 : decode b_Mod_frostAndMould 98 = .ok (.getfield 44, 3) := by decide +kernel
theorem d_Mod_frostAndMould_101 : decode b_Mod_frostAndMould 101 = .ok (.iload_n 1, 1) := by decide +kernel
theorem d_Mod_frostAndMould_102 : decode b_Mod_frostAndMould 102 = .ok (.dup2, 1) := by decide +kernel
theorem d_Mod_frostAndMould_103 : decode b_Mod_frostAndMould 103 = .ok (.iaload, 1) := by decide +kernel
theorem d_Mod_frostAndMould_104 : decode b_Mod_frostAndMould 104 = .ok (.iconst 1, 1) := by decide +kernel
theorem d_Mod_frostAndMould_105 : decode b_Mod_frostAndMould 105 = .ok (.iadd, 1) := by decide +kernel
theorem d_Mod_frostAndMould_106 : decode b_Mod_frostAndMould 106 = .ok (.iastore, 1) := by decide +kernel
theorem d_Mod_frostAndMould_107 : decode b_Mod_frostAndMould 107 = .ok (.iinc 1 1, 3) := by decide +kernel
theorem d_Mod_frostAndMould_110 : decode b_Mod_frostAndMould 110 = .ok (.goto (-108), 3) := by decide +kernel
theorem d_Mod_frostAndMould_113 : decode b_Mod_frostAndMould 113 = .ok (.aload_n 0, 1) := by decide +kernel
theorem d_Mod_frostAndMould_114 : decode b_Mod_frostAndMould 114 = .ok (.getfield 127, 3) := by decide +kernel
theorem d_Mod_frostAndMould_117 : decode b_Mod_frostAndMould 117 = .ok (.iconst 1, 1) := by decide +kernel
theorem d_Mod_frostAndMould_118 : decode b_Mod_frostAndMould 118 = .ok (.isub, 1) := by decide +kernel
theorem d_Mod_frostAndMould_119 : decode b_Mod_frostAndMould 119 = .ok (.istore_n 1, 1) := by decide +kernel
theorem d_Mod_frostAndMould_120 : decode b_Mod_frostAndMould 120 = .ok (.aload_n 0, 1) := by decide +kernel
theorem d_Mod_frostAndMould_121 : decode b_Mod_frostAndMould 121 = .ok (.iload_n 1, 1) := by decide +kernel
theorem d_Mod_frostAndMould_122 : decode b_Mod_frostAndMould 122 = .ok (.invokevirtual 186, 3) := by decide +kernel
theorem d_Mod_frostAndMould_125 : decode b_Mod_frostAndMould 125 = .ok (.istore_n 2, 1) := by decide +kernel
theorem d_Mod_frostAndMould_126 : decode b_Mod_frostAndMould 126 = .ok (.iconst (-1), 1) := by decide +kernel
theorem d_Mod_frostAndMould_127 : decode b_Mod_frostAndMould 127 = .ok (.istore_n 3, 1) := by decide +kernel
theorem d_Mod_frostAndMould_128 : decode b_Mod_frostAndMould 128 = .ok (.aload_n 0, 1) := by decide +kernel
theorem d_Mod_frostAndMould_129 : decode b_Mod_frostAndMould 129 = .ok (.getfield 174, 3) := by decide +kernel
theorem d_Mod_frostAndMould_132 : decode b_Mod_frostAndMould 132 = .ok (.iconst 1, 1) := by decide +kernel
theorem d_Mod_frostAndMould_133 : decode b_Mod_frostAndMould 133 = .ok (.isub, 1) := by decide +kernel
theorem d_Mod_frostAndMould_134 : decode b_Mod_frostAndMould 134 = .ok (.istore 4, 2) := by decide +kernel
theorem d_Mod_frostAndMould_136 : decode b_Mod_frostAndMould 136 = .ok (.iload 4, 2) := by decide +kernel
theorem d_Mod_frostAndMould_138 : decode b_Mod_frostAndMould 138 = .ok (.ifCond .lt 61, 3) := by decide +kernel
theorem d_Mod_frostAndMould_141 : decode b_Mod_frostAndMould 141 = .ok (.iload_n 2, 1) := by decide +kernel
theorem d_Mod_frostAndMould_142 : decode b_Mod_frostAndMould 142 = .ok (.aload_n 0, 1) := by decide +kernel
theorem d_Mod_frostAndMould_143 : decode b_Mod_frostAndMould 143 = .ok (.getfield 85, 3) := by decide +kernel
theorem d_Mod_frostAndMould_146 : decode b_Mod_frostAndMould 146 = .ok (.iload 4, 2) := by decide +kernel
theorem d_Mod_frostAndMould_148 : decode b_Mod_frostAndMould 148 = .ok (.iaload, 1) := by decide +kernel
theorem d_Mod_frostAndMould_149 : decode b_Mod_frostAndMould 149 = .ok (.if_icmp .lt 42, 3) := by decide +kernel
theorem d_Mod_frostAndMould_152 : decode b_Mod_frostAndMould 152 = .ok (.aload_n 0, 1) := by decide +kernel
theorem d_Mod_frostAndMould_153 : decode b_Mod_frostAndMould 153 = .ok (.getfield 41, 3) := by decide +kernel
theorem d_Mod_frostAndMould_156 : decode b_Mod_frostAndMould 156 = .ok (.iload_n 1, 1) := by decide +kernel
theorem d_Mod_frostAndMould_157 : decode b_Mod_frostAndMould 157 = .ok (.iaload, 1) := by decide +kernel
theorem d_Mod_frostAndMould_158 : decode b_Mod_frostAndMould 158 = .ok (.i2l, 1) := by decide +kernel
theorem d_Mod_frostAndMould_159 : decode b_Mod_frostAndMould 159 = .ok (.aload_n 0, 1) := by decide +kernel
theorem d_Mod_frostAndMould_160 : decode b_Mod_frostAndMould 160 = .ok (.getfield 88, 3) := by decide +kernel
theorem d_Mod_frostAndMould_163 : decode b_Mod_frostAndMould 163 = .ok (.iload 4, 2) := by decide +kernel
theorem d_Mod_frostAndMould_165 : decode b_Mod_frostAndMould 165 = .ok (.iaload, 1) := by decide +kernel
theorem d_Mod_frostAndMould_166 : decode b_Mod_frostAndMould 166 = .ok (.i2l, 1) := by decide +kernel
theorem d_Mod_frostAndMould_167 : decode b_Mod_frostAndMould 167 = .ok (.aload_n 0, 1) := by decide +kernel
theorem d_Mod_frostAndMould_168 : decode b_Mod_frostAndMould 168 = .ok (.getfield 91, 3) := by decide +kernel
theorem d_Mod_frostAndMould_171 : decode b_Mod_frostAndMould 171 = .ok (.iload 4, 2) := by decide +kernel
theorem d_Mod_frostAndMould_173 : decode b_Mod_frostAndMould 173 = .ok (.iaload, 1) := by decide +kernel
theorem d_Mod_frostAndMould_174 : decode b_Mod_frostAndMould 174 = .ok (.i2l, 1) := by decide +kernel
theorem d_Mod_frostAndMould_175 : decode b_Mod_frostAndMould 175 = .ok (.invokestatic 133, 3) := by decide +kernel
theorem d_Mod_frostAndMould_178 : decode b_Mod_frostAndMould 178 = .ok (.ifCond .eq 13, 3) := by decide +kernel
theorem d_Mod_frostAndMould_181 : decode b_Mod_frostAndMould 181 = .ok (.aload_n 0, 1) := by decide +kernel
theorem d_Mod_frostAndMould_182 : decode b_Mod_frostAndMould 182 = .ok (.getfield 94, 3) := by decide +kernel
theorem d_Mod_frostAndMould_185 : decode b_Mod_frostAndMould 185 = .ok (.iload 4, 2) := by decide +kernel
theorem d_Mod_frostAndMould_187 : decode b_Mod_frostAndMould 187 = .ok (.iaload, 1) := by decide +kernel
theorem d_Mod_frostAndMould_188 : decode b_Mod_frostAndMould 188 = .ok (.goto 4, 3) := by decide +kernel
theorem d_Mod_frostAndMould_191 : decode b_Mod_frostAndMould 191 = .ok (.iload_n 3, 1) := by decide +kernel
theorem d_Mod_frostAndMould_192 : decode b_Mod_frostAndMould 192 = .ok (.istore_n 3, 1) := by decide +kernel
theorem d_Mod_frostAndMould_193 : decode b_Mod_frostAndMould 193 = .ok (.iinc 4 (-1), 3) := by decide +kernel
theorem d_Mod_frostAndMould_196 : decode b_Mod_frostAndMould 196 = .ok (.goto (-60), 3) := by decide +kernel
theorem d_Mod_frostAndMould_199 : decode b_Mod_frostAndMould 199 = .ok (.aload_n 0, 1) := by decide +kernel
theorem d_Mod_frostAndMould_200 : decode b_Mod_frostAndMould 200 = .ok (.dup, 1) := by decide +kernel
theorem d_Mod_frostAndMould_201 : decode b_Mod_frostAndMould 201 = .ok (.getfield 219, 3) := by decide +kernel
theorem d_Mod_frostAndMould_204 : decode b_Mod_frostAndMould 204 = .ok (.iload_n 3, 1) := by decide +kernel
theorem d_Mod_frostAndMould_205 : decode b_Mod_frostAndMould 205 = .ok (.iadd, 1) := by decide +kernel
theorem d_Mod_frostAndMould_206 : decode b_Mod_frostAndMould 206 = .ok (.putfield 219, 3) := by decide +kernel
theorem d_Mod_frostAndMould_209 : decode b_Mod_frostAndMould 209 = .ok (.aload_n 0, 1) := by decide +kernel
theorem d_Mod_frostAndMould_210 : decode b_Mod_frostAndMould 210 = .ok (.aload_n 0, 1) := by decide +kernel
theorem d_Mod_frostAndMould_211 : decode b_Mod_frostAndMould 211 = .ok (.getfield 219, 3) := by decide +kernel
theorem d_Mod_frostAndMould_214 : decode b_Mod_frostAndMould 214 = .ok (.ifCond .ge 7, 3) := by decide +kernel
theorem d_Mod_frostAndMould_217 : decode b_Mod_frostAndMould 217 = .ok (.iconst 0, 1) := by decide +kernel
theorem d_Mod_frostAndMould_218 : decode b_Mod_frostAndMould 218 = .ok (.goto 21, 3) := by decide +kernel
theorem d_Mod_frostAndMould_221 : decode b_Mod_frostAndMould 221 = .ok (.aload_n 0, 1) := by decide +kernel
theorem d_Mod_frostAndMould_222 : decode b_Mod_frostAndMould 222 = .ok (.getfield 219, 3) := by decide +kernel
theorem d_Mod_frostAndMould_225 : decode b_Mod_frostAndMould 225 = .ok (.ldc 222, 2) := by decide +kernel
theorem d_Mod_frostAndMould_227 : decode b_Mod_frostAndMould 227 = .ok (.if_icmp .le 8, 3) := by decide +kernel
theorem d_Mod_frostAndMould_230 : decode b_Mod_frostAndMould 230 = .ok (.ldc 222, 2) := by decide +kernel
theorem d_Mod_frostAndMould_232 : decode b_Mod_frostAndMould 232 = .ok (.goto 7, 3) := by decide +kernel
theorem d_Mod_frostAndMould_235 : decode b_Mod_frostAndMould 235 = .ok (.aload_n 0, 1) := by decide +kernel
theorem d_Mod_frostAndMould_236 : decode b_Mod_frostAndMould 236 = .ok (.getfield 219, 3) := by decide +kernel
theorem d_Mod_frostAndMould_239 : decode b_Mod_frostAndMould 239 = .ok (.putfield 219, 3) := by decide +kernel
theorem d_Mod_frostAndMould_242 : decode b_Mod_frostAndMould 242 = .ok (.return_, 1) := by decide +kernel
abbrev b_Mod_hour : ByteArray := prog_13_method_28_code
def y_Mod_hour : MethodName := ⟨"WallDampModel", "hour", "(I)V"⟩
def ws_Mod_hour : List Cond := .code y_Mod_hour b_Mod_hour 2 none :: x_tb
theorem pd_Mod_hour : y_Mod_hour.cls ≠ "java/lang/invoke/MethodHandle" ∧ y_Mod_hour.cls ≠ "java/lang/invoke/VarHandle" ∧ (parseMethodDescriptor y_Mod_hour.desc).map (fun d => d.parameters.length) = some 1 := by decide +kernel
theorem d_Mod_hour_0 : decode b_Mod_hour 0 = .ok (.aload_n 0, 1) := by decide +kernel
theorem d_Mod_hour_1 : decode b_Mod_hour 1 = .ok (.iload_n 1, 1) := by decide +kernel
theorem d_Mod_hour_2 : decode b_Mod_hour 2 = .ok (.invokevirtual 223, 3) := by decide +kernel
theorem d_Mod_hour_5 : decode b_Mod_hour 5 = .ok (.aload_n 0, 1) := by decide +kernel
theorem d_Mod_hour_6 : decode b_Mod_hour 6 = .ok (.iload_n 1, 1) := by decide +kernel
theorem d_Mod_hour_7 : decode b_Mod_hour 7 = .ok (.invokevirtual 226, 3) := by decide +kernel
theorem d_Mod_hour_10 : decode b_Mod_hour 10 = .ok (.aload_n 0, 1) := by decide +kernel
theorem d_Mod_hour_11 : decode b_Mod_hour 11 = .ok (.invokevirtual 229, 3) := by decide +kernel
theorem d_Mod_hour_14 : decode b_Mod_hour 14 = .ok (.return_, 1) := by decide +kernel
abbrev b_Mod_run : ByteArray := prog_13_method_29_code
def y_Mod_run : MethodName := ⟨"WallDampModel", "run", "(I)I"⟩
def ws_Mod_run : List Cond := .code y_Mod_run b_Mod_run 3 (some (.int)) :: x_tb
theorem pd_Mod_run : y_Mod_run.cls ≠ "java/lang/invoke/MethodHandle" ∧ y_Mod_run.cls ≠ "java/lang/invoke/VarHandle" ∧ (parseMethodDescriptor y_Mod_run.desc).map (fun d => d.parameters.length) = some 1 := by decide +kernel
theorem d_Mod_run_0 : decode b_Mod_run 0 = .ok (.aload_n 0, 1) := by decide +kernel
theorem d_Mod_run_1 : decode b_Mod_run 1 = .ok (.iload_n 1, 1) := by decide +kernel
theorem d_Mod_run_2 : decode b_Mod_run 2 = .ok (.i2l, 1) := by decide +kernel
theorem d_Mod_run_3 : decode b_Mod_run 3 = .ok (.lconst 1, 1) := by decide +kernel
theorem d_Mod_run_4 : decode b_Mod_run 4 = .ok (.ldc2_w 232, 3) := by decide +kernel
theorem d_Mod_run_7 : decode b_Mod_run 7 = .ok (.invokestatic 133, 3) := by decide +kernel
theorem d_Mod_run_10 : decode b_Mod_run 10 = .ok (.ifCond .ne 7, 3) := by decide +kernel
theorem d_Mod_run_13 : decode b_Mod_run 13 = .ok (.iconst 1, 1) := by decide +kernel
theorem d_Mod_run_14 : decode b_Mod_run 14 = .ok (.goto 20, 3) := by decide +kernel
theorem d_Mod_run_17 : decode b_Mod_run 17 = .ok (.aload_n 0, 1) := by decide +kernel
theorem d_Mod_run_18 : decode b_Mod_run 18 = .ok (.getfield 147, 3) := by decide +kernel
theorem d_Mod_run_21 : decode b_Mod_run 21 = .ok (.iload_n 1, 1) := by decide +kernel
theorem d_Mod_run_22 : decode b_Mod_run 22 = .ok (.iadd, 1) := by decide +kernel
theorem d_Mod_run_23 : decode b_Mod_run 23 = .ok (.sipush 10000, 3) := by decide +kernel
theorem d_Mod_run_26 : decode b_Mod_run 26 = .ok (.if_icmp .le 7, 3) := by decide +kernel
theorem d_Mod_run_29 : decode b_Mod_run 29 = .ok (.iconst 2, 1) := by decide +kernel
theorem d_Mod_run_30 : decode b_Mod_run 30 = .ok (.goto 4, 3) := by decide +kernel
theorem d_Mod_run_33 : decode b_Mod_run 33 = .ok (.iconst 0, 1) := by decide +kernel
theorem d_Mod_run_34 : decode b_Mod_run 34 = .ok (.putfield 130, 3) := by decide +kernel
theorem d_Mod_run_37 : decode b_Mod_run 37 = .ok (.aload_n 0, 1) := by decide +kernel
theorem d_Mod_run_38 : decode b_Mod_run 38 = .ok (.getfield 130, 3) := by decide +kernel
theorem d_Mod_run_41 : decode b_Mod_run 41 = .ok (.ifCond .le 5, 3) := by decide +kernel
theorem d_Mod_run_44 : decode b_Mod_run 44 = .ok (.iconst 0, 1) := by decide +kernel
theorem d_Mod_run_45 : decode b_Mod_run 45 = .ok (.ireturn, 1) := by decide +kernel
theorem d_Mod_run_46 : decode b_Mod_run 46 = .ok (.iconst 0, 1) := by decide +kernel
theorem d_Mod_run_47 : decode b_Mod_run 47 = .ok (.istore_n 2, 1) := by decide +kernel
theorem d_Mod_run_48 : decode b_Mod_run 48 = .ok (.iload_n 2, 1) := by decide +kernel
theorem d_Mod_run_49 : decode b_Mod_run 49 = .ok (.iload_n 1, 1) := by decide +kernel
theorem d_Mod_run_50 : decode b_Mod_run 50 = .ok (.if_icmp .ge 34, 3) := by decide +kernel
theorem d_Mod_run_53 : decode b_Mod_run 53 = .ok (.aload_n 0, 1) := by decide +kernel
theorem d_Mod_run_54 : decode b_Mod_run 54 = .ok (.aload_n 0, 1) := by decide +kernel
theorem d_Mod_run_55 : decode b_Mod_run 55 = .ok (.getfield 147, 3) := by decide +kernel
theorem d_Mod_run_58 : decode b_Mod_run 58 = .ok (.bipush 24, 2) := by decide +kernel
theorem d_Mod_run_60 : decode b_Mod_run 60 = .ok (.irem, 1) := by decide +kernel
theorem d_Mod_run_61 : decode b_Mod_run 61 = .ok (.invokevirtual 234, 3) := by decide +kernel
theorem d_Mod_run_64 : decode b_Mod_run 64 = .ok (.aload_n 0, 1) := by decide +kernel
theorem d_Mod_run_65 : decode b_Mod_run 65 = .ok (.invokevirtual 237, 3) := by decide +kernel
theorem d_Mod_run_68 : decode b_Mod_run 68 = .ok (.aload_n 0, 1) := by decide +kernel
theorem d_Mod_run_69 : decode b_Mod_run 69 = .ok (.dup, 1) := by decide +kernel
theorem d_Mod_run_70 : decode b_Mod_run 70 = .ok (.getfield 147, 3) := by decide +kernel
theorem d_Mod_run_73 : decode b_Mod_run 73 = .ok (.iconst 1, 1) := by decide +kernel
theorem d_Mod_run_74 : decode b_Mod_run 74 = .ok (.iadd, 1) := by decide +kernel
theorem d_Mod_run_75 : decode b_Mod_run 75 = .ok (.putfield 147, 3) := by decide +kernel
theorem d_Mod_run_78 : decode b_Mod_run 78 = .ok (.iinc 2 1, 3) := by decide +kernel
theorem d_Mod_run_81 : decode b_Mod_run 81 = .ok (.goto (-33), 3) := by decide +kernel
theorem d_Mod_run_84 : decode b_Mod_run 84 = .ok (.aload_n 0, 1) := by decide +kernel
theorem d_Mod_run_85 : decode b_Mod_run 85 = .ok (.getfield 147, 3) := by decide +kernel
theorem d_Mod_run_88 : decode b_Mod_run 88 = .ok (.ireturn, 1) := by decide +kernel
abbrev b_Mod_told : ByteArray := prog_13_method_30_code
def y_Mod_told : MethodName := ⟨"WallDampModel", "told", "(II)I"⟩
def ws_Mod_told : List Cond := .code y_Mod_told b_Mod_told 3 (some (.int)) :: x_tb
theorem pd_Mod_told : y_Mod_told.cls ≠ "java/lang/invoke/MethodHandle" ∧ y_Mod_told.cls ≠ "java/lang/invoke/VarHandle" ∧ (parseMethodDescriptor y_Mod_told.desc).map (fun d => d.parameters.length) = some 2 := by decide +kernel
theorem d_Mod_told_0 : decode b_Mod_told 0 = .ok (.aload_n 0, 1) := by decide +kernel
theorem d_Mod_told_1 : decode b_Mod_told 1 = .ok (.aload_n 0, 1) := by decide +kernel
theorem d_Mod_told_2 : decode b_Mod_told 2 = .ok (.iload_n 1, 1) := by decide +kernel
theorem d_Mod_told_3 : decode b_Mod_told 3 = .ok (.invokevirtual 152, 3) := by decide +kernel
theorem d_Mod_told_6 : decode b_Mod_told 6 = .ok (.ifCond .eq 19, 3) := by decide +kernel
theorem d_Mod_told_9 : decode b_Mod_told 9 = .ok (.iload_n 2, 1) := by decide +kernel
theorem d_Mod_told_10 : decode b_Mod_told 10 = .ok (.i2l, 1) := by decide +kernel
theorem d_Mod_told_11 : decode b_Mod_told 11 = .ok (.lconst 0, 1) := by decide +kernel
theorem d_Mod_told_12 : decode b_Mod_told 12 = .ok (.ldc2_w 137, 3) := by decide +kernel
theorem d_Mod_told_15 : decode b_Mod_told 15 = .ok (.invokestatic 133, 3) := by decide +kernel
theorem d_Mod_told_18 : decode b_Mod_told 18 = .ok (.ifCond .eq 7, 3) := by decide +kernel
theorem d_Mod_told_21 : decode b_Mod_told 21 = .ok (.iconst 0, 1) := by decide +kernel
theorem d_Mod_told_22 : decode b_Mod_told 22 = .ok (.goto 4, 3) := by decide +kernel
theorem d_Mod_told_25 : decode b_Mod_told 25 = .ok (.iconst 1, 1) := by decide +kernel
theorem d_Mod_told_26 : decode b_Mod_told 26 = .ok (.putfield 130, 3) := by decide +kernel
theorem d_Mod_told_29 : decode b_Mod_told 29 = .ok (.aload_n 0, 1) := by decide +kernel
theorem d_Mod_told_30 : decode b_Mod_told 30 = .ok (.getfield 130, 3) := by decide +kernel
theorem d_Mod_told_33 : decode b_Mod_told 33 = .ok (.ifCond .le 5, 3) := by decide +kernel
theorem d_Mod_told_36 : decode b_Mod_told 36 = .ok (.iconst 0, 1) := by decide +kernel
theorem d_Mod_told_37 : decode b_Mod_told 37 = .ok (.ireturn, 1) := by decide +kernel
theorem d_Mod_told_38 : decode b_Mod_told 38 = .ok (.iload_n 2, 1) := by decide +kernel
theorem d_Mod_told_39 : decode b_Mod_told 39 = .ok (.tableswitch 76 0 4 #[33, 41, 47, 54, 61], 33) := by decide +kernel
theorem d_Mod_told_72 : decode b_Mod_told 72 = .ok (.aload_n 0, 1) := by decide +kernel
theorem d_Mod_told_73 : decode b_Mod_told 73 = .ok (.getfield 34, 3) := by decide +kernel
theorem d_Mod_told_76 : decode b_Mod_told 76 = .ok (.iload_n 1, 1) := by decide +kernel
theorem d_Mod_told_77 : decode b_Mod_told 77 = .ok (.laload, 1) := by decide +kernel
theorem d_Mod_told_78 : decode b_Mod_told 78 = .ok (.l2i, 1) := by decide +kernel
theorem d_Mod_told_79 : decode b_Mod_told 79 = .ok (.ireturn, 1) := by decide +kernel
theorem d_Mod_told_80 : decode b_Mod_told 80 = .ok (.aload_n 0, 1) := by decide +kernel
theorem d_Mod_told_81 : decode b_Mod_told 81 = .ok (.iload_n 1, 1) := by decide +kernel
theorem d_Mod_told_82 : decode b_Mod_told 82 = .ok (.invokevirtual 186, 3) := by decide +kernel
theorem d_Mod_told_85 : decode b_Mod_told 85 = .ok (.ireturn, 1) := by decide +kernel
theorem d_Mod_told_86 : decode b_Mod_told 86 = .ok (.aload_n 0, 1) := by decide +kernel
theorem d_Mod_told_87 : decode b_Mod_told 87 = .ok (.getfield 41, 3) := by decide +kernel
theorem d_Mod_told_90 : decode b_Mod_told 90 = .ok (.iload_n 1, 1) := by decide +kernel
theorem d_Mod_told_91 : decode b_Mod_told 91 = .ok (.iaload, 1) := by decide +kernel
theorem d_Mod_told_92 : decode b_Mod_told 92 = .ok (.ireturn, 1) := by decide +kernel
theorem d_Mod_told_93 : decode b_Mod_told 93 = .ok (.aload_n 0, 1) := by decide +kernel
theorem d_Mod_told_94 : decode b_Mod_told 94 = .ok (.getfield 44, 3) := by decide +kernel
theorem d_Mod_told_97 : decode b_Mod_told 97 = .ok (.iload_n 1, 1) := by decide +kernel
theorem d_Mod_told_98 : decode b_Mod_told 98 = .ok (.iaload, 1) := by decide +kernel
theorem d_Mod_told_99 : decode b_Mod_told 99 = .ok (.ireturn, 1) := by decide +kernel
theorem d_Mod_told_100 : decode b_Mod_told 100 = .ok (.aload_n 0, 1) := by decide +kernel
theorem d_Mod_told_101 : decode b_Mod_told 101 = .ok (.getfield 47, 3) := by decide +kernel
theorem d_Mod_told_104 : decode b_Mod_told 104 = .ok (.iload_n 1, 1) := by decide +kernel
theorem d_Mod_told_105 : decode b_Mod_told 105 = .ok (.baload, 1) := by decide +kernel
theorem d_Mod_told_106 : decode b_Mod_told 106 = .ok (.ifCond .eq 7, 3) := by decide +kernel
theorem d_Mod_told_109 : decode b_Mod_told 109 = .ok (.iconst 1, 1) := by decide +kernel
theorem d_Mod_told_110 : decode b_Mod_told 110 = .ok (.goto 4, 3) := by decide +kernel
theorem d_Mod_told_113 : decode b_Mod_told 113 = .ok (.iconst 0, 1) := by decide +kernel
theorem d_Mod_told_114 : decode b_Mod_told 114 = .ok (.ireturn, 1) := by decide +kernel
theorem d_Mod_told_115 : decode b_Mod_told 115 = .ok (.aload_n 0, 1) := by decide +kernel
theorem d_Mod_told_116 : decode b_Mod_told 116 = .ok (.getfield 51, 3) := by decide +kernel
theorem d_Mod_told_119 : decode b_Mod_told 119 = .ok (.iload_n 1, 1) := by decide +kernel
theorem d_Mod_told_120 : decode b_Mod_told 120 = .ok (.iaload, 1) := by decide +kernel
theorem d_Mod_told_121 : decode b_Mod_told 121 = .ok (.ireturn, 1) := by decide +kernel
abbrev b_Mod_allWater : ByteArray := prog_13_method_31_code
def y_Mod_allWater : MethodName := ⟨"WallDampModel", "allWater", "()J"⟩
def ws_Mod_allWater : List Cond := .code y_Mod_allWater b_Mod_allWater 4 (some (.long)) :: x_tb
theorem pd_Mod_allWater : y_Mod_allWater.cls ≠ "java/lang/invoke/MethodHandle" ∧ y_Mod_allWater.cls ≠ "java/lang/invoke/VarHandle" ∧ (parseMethodDescriptor y_Mod_allWater.desc).map (fun d => d.parameters.length) = some 0 := by decide +kernel
theorem d_Mod_allWater_0 : decode b_Mod_allWater 0 = .ok (.lconst 0, 1) := by decide +kernel
theorem d_Mod_allWater_1 : decode b_Mod_allWater 1 = .ok (.lstore_n 1, 1) := by decide +kernel
theorem d_Mod_allWater_2 : decode b_Mod_allWater 2 = .ok (.iconst 0, 1) := by decide +kernel
theorem d_Mod_allWater_3 : decode b_Mod_allWater 3 = .ok (.istore_n 3, 1) := by decide +kernel
theorem d_Mod_allWater_4 : decode b_Mod_allWater 4 = .ok (.iload_n 3, 1) := by decide +kernel
theorem d_Mod_allWater_5 : decode b_Mod_allWater 5 = .ok (.aload_n 0, 1) := by decide +kernel
theorem d_Mod_allWater_6 : decode b_Mod_allWater 6 = .ok (.getfield 127, 3) := by decide +kernel
theorem d_Mod_allWater_9 : decode b_Mod_allWater 9 = .ok (.if_icmp .ge 18, 3) := by decide +kernel
theorem d_Mod_allWater_12 : decode b_Mod_allWater 12 = .ok (.lload_n 1, 1) := by decide +kernel
theorem d_Mod_allWater_13 : decode b_Mod_allWater 13 = .ok (.aload_n 0, 1) := by decide +kernel
theorem d_Mod_allWater_14 : decode b_Mod_allWater 14 = .ok (.getfield 34, 3) := by decide +kernel
theorem d_Mod_allWater_17 : decode b_Mod_allWater 17 = .ok (.iload_n 3, 1) := by decide +kernel
theorem d_Mod_allWater_18 : decode b_Mod_allWater 18 = .ok (.laload, 1) := by decide +kernel
theorem d_Mod_allWater_19 : decode b_Mod_allWater 19 = .ok (.ladd, 1) := by decide +kernel
theorem d_Mod_allWater_20 : decode b_Mod_allWater 20 = .ok (.lstore_n 1, 1) := by decide +kernel
theorem d_Mod_allWater_21 : decode b_Mod_allWater 21 = .ok (.iinc 3 1, 3) := by decide +kernel
theorem d_Mod_allWater_24 : decode b_Mod_allWater 24 = .ok (.goto (-20), 3) := by decide +kernel
theorem d_Mod_allWater_27 : decode b_Mod_allWater 27 = .ok (.lload_n 1, 1) := by decide +kernel
theorem d_Mod_allWater_28 : decode b_Mod_allWater 28 = .ok (.lreturn, 1) := by decide +kernel
abbrev b_Mod_balance : ByteArray := prog_13_method_32_code
def y_Mod_balance : MethodName := ⟨"WallDampModel", "balance", "(I)J"⟩
def ws_Mod_balance : List Cond := .code y_Mod_balance b_Mod_balance 2 (some (.long)) :: x_tb
theorem pd_Mod_balance : y_Mod_balance.cls ≠ "java/lang/invoke/MethodHandle" ∧ y_Mod_balance.cls ≠ "java/lang/invoke/VarHandle" ∧ (parseMethodDescriptor y_Mod_balance.desc).map (fun d => d.parameters.length) = some 1 := by decide +kernel
theorem d_Mod_balance_0 : decode b_Mod_balance 0 = .ok (.aload_n 0, 1) := by decide +kernel
theorem d_Mod_balance_1 : decode b_Mod_balance 1 = .ok (.iload_n 1, 1) := by decide +kernel
theorem d_Mod_balance_2 : decode b_Mod_balance 2 = .ok (.i2l, 1) := by decide +kernel
theorem d_Mod_balance_3 : decode b_Mod_balance 3 = .ok (.lconst 0, 1) := by decide +kernel
theorem d_Mod_balance_4 : decode b_Mod_balance 4 = .ok (.ldc2_w 137, 3) := by decide +kernel
theorem d_Mod_balance_7 : decode b_Mod_balance 7 = .ok (.invokestatic 133, 3) := by decide +kernel
theorem d_Mod_balance_10 : decode b_Mod_balance 10 = .ok (.ifCond .eq 7, 3) := by decide +kernel
theorem d_Mod_balance_13 : decode b_Mod_balance 13 = .ok (.iconst 0, 1) := by decide +kernel
theorem d_Mod_balance_14 : decode b_Mod_balance 14 = .ok (.goto 4, 3) := by decide +kernel
theorem d_Mod_balance_17 : decode b_Mod_balance 17 = .ok (.iconst 1, 1) := by decide +kernel
theorem d_Mod_balance_18 : decode b_Mod_balance 18 = .ok (.putfield 130, 3) := by decide +kernel
theorem d_Mod_balance_21 : decode b_Mod_balance 21 = .ok (.aload_n 0, 1) := by decide +kernel
theorem d_Mod_balance_22 : decode b_Mod_balance 22 = .ok (.getfield 130, 3) := by decide +kernel
theorem d_Mod_balance_25 : decode b_Mod_balance 25 = .ok (.ifCond .le 5, 3) := by decide +kernel
theorem d_Mod_balance_28 : decode b_Mod_balance 28 = .ok (.lconst 0, 1) := by decide +kernel
theorem d_Mod_balance_29 : decode b_Mod_balance 29 = .ok (.lreturn, 1) := by decide +kernel
theorem d_Mod_balance_30 : decode b_Mod_balance 30 = .ok (.iload_n 1, 1) := by decide +kernel
theorem d_Mod_balance_31 : decode b_Mod_balance 31 = .ok (.tableswitch 58 0 4 #[33, 38, 43, 48, 53], 33) := by decide +kernel
theorem d_Mod_balance_64 : decode b_Mod_balance 64 = .ok (.aload_n 0, 1) := by decide +kernel
theorem d_Mod_balance_65 : decode b_Mod_balance 65 = .ok (.invokevirtual 240, 3) := by decide +kernel
theorem d_Mod_balance_68 : decode b_Mod_balance 68 = .ok (.lreturn, 1) := by decide +kernel
theorem d_Mod_balance_69 : decode b_Mod_balance 69 = .ok (.aload_n 0, 1) := by decide +kernel
theorem d_Mod_balance_70 : decode b_Mod_balance 70 = .ok (.getfield 207, 3) := by decide +kernel
theorem d_Mod_balance_73 : decode b_Mod_balance 73 = .ok (.lreturn, 1) := by decide +kernel
theorem d_Mod_balance_74 : decode b_Mod_balance 74 = .ok (.aload_n 0, 1) := by decide +kernel
theorem d_Mod_balance_75 : decode b_Mod_balance 75 = .ok (.getfield 210, 3) := by decide +kernel
theorem d_Mod_balance_78 : decode b_Mod_balance 78 = .ok (.lreturn, 1) := by decide +kernel
theorem d_Mod_balance_79 : decode b_Mod_balance 79 = .ok (.aload_n 0, 1) := by decide +kernel
theorem d_Mod_balance_80 : decode b_Mod_balance 80 = .ok (.getfield 213, 3) := by decide +kernel
theorem d_Mod_balance_83 : decode b_Mod_balance 83 = .ok (.lreturn, 1) := by decide +kernel
theorem d_Mod_balance_84 : decode b_Mod_balance 84 = .ok (.aload_n 0, 1) := by decide +kernel
theorem d_Mod_balance_85 : decode b_Mod_balance 85 = .ok (.getfield 216, 3) := by decide +kernel
theorem d_Mod_balance_88 : decode b_Mod_balance 88 = .ok (.lreturn, 1) := by decide +kernel
theorem d_Mod_balance_89 : decode b_Mod_balance 89 = .ok (.aload_n 0, 1) := by decide +kernel
theorem d_Mod_balance_90 : decode b_Mod_balance 90 = .ok (.getfield 156, 3) := by decide +kernel
theorem d_Mod_balance_93 : decode b_Mod_balance 93 = .ok (.lreturn, 1) := by decide +kernel
abbrev b_Mod_mould : ByteArray := prog_13_method_33_code
def y_Mod_mould : MethodName := ⟨"WallDampModel", "mould", "()I"⟩
def ws_Mod_mould : List Cond := .code y_Mod_mould b_Mod_mould 1 (some (.int)) :: x_tb
theorem pd_Mod_mould : y_Mod_mould.cls ≠ "java/lang/invoke/MethodHandle" ∧ y_Mod_mould.cls ≠ "java/lang/invoke/VarHandle" ∧ (parseMethodDescriptor y_Mod_mould.desc).map (fun d => d.parameters.length) = some 0 := by decide +kernel
theorem d_Mod_mould_0 : decode b_Mod_mould 0 = .ok (.aload_n 0, 1) := by decide +kernel
theorem d_Mod_mould_1 : decode b_Mod_mould 1 = .ok (.iconst 0, 1) := by decide +kernel
theorem d_Mod_mould_2 : decode b_Mod_mould 2 = .ok (.putfield 130, 3) := by decide +kernel
theorem d_Mod_mould_5 : decode b_Mod_mould 5 = .ok (.aload_n 0, 1) := by decide +kernel
theorem d_Mod_mould_6 : decode b_Mod_mould 6 = .ok (.getfield 219, 3) := by decide +kernel
theorem d_Mod_mould_9 : decode b_Mod_mould 9 = .ok (.ireturn, 1) := by decide +kernel
abbrev b_Mod_next : ByteArray := prog_13_method_34_code
def y_Mod_next : MethodName := ⟨"WallDampModel", "next", "()Z"⟩
def ws_Mod_next : List Cond := .code y_Mod_next b_Mod_next 5 (some (.boolean)) :: x_tb
theorem pd_Mod_next : y_Mod_next.cls ≠ "java/lang/invoke/MethodHandle" ∧ y_Mod_next.cls ≠ "java/lang/invoke/VarHandle" ∧ (parseMethodDescriptor y_Mod_next.desc).map (fun d => d.parameters.length) = some 0 := by decide +kernel
theorem d_Mod_next_0 : decode b_Mod_next 0 = .ok (.aload_n 0, 1) := by decide +kernel
theorem d_Mod_next_1 : decode b_Mod_next 1 = .ok (.getfield 127, 3) := by decide +kernel
theorem d_Mod_next_4 : decode b_Mod_next 4 = .ok (.iconst 1, 1) := by decide +kernel
theorem d_Mod_next_5 : decode b_Mod_next 5 = .ok (.isub, 1) := by decide +kernel
theorem d_Mod_next_6 : decode b_Mod_next 6 = .ok (.istore_n 1, 1) := by decide +kernel
theorem d_Mod_next_7 : decode b_Mod_next 7 = .ok (.iload_n 1, 1) := by decide +kernel
theorem d_Mod_next_8 : decode b_Mod_next 8 = .ok (.ifCond .lt 166, 3) := by decide +kernel
theorem d_Mod_next_11 : decode b_Mod_next 11 = .ok (.aload_n 0, 1) := by decide +kernel
theorem d_Mod_next_12 : decode b_Mod_next 12 = .ok (.getfield 115, 3) := by decide +kernel
theorem d_Mod_next_15 : decode b_Mod_next 15 = .ok (.iload_n 1, 1) := by decide +kernel
theorem d_Mod_next_16 : decode b_Mod_next 16 = .ok (.iaload, 1) := by decide +kernel
theorem d_Mod_next_17 : decode b_Mod_next 17 = .ok (.iconst 1, 1) := by decide +kernel
theorem d_Mod_next_18 : decode b_Mod_next 18 = .ok (.iadd, 1) := by decide +kernel
theorem d_Mod_next_19 : decode b_Mod_next 19 = .ok (.istore_n 2, 1) := by decide +kernel
theorem d_Mod_next_20 : decode b_Mod_next 20 = .ok (.iconst 0, 1) := by decide +kernel
theorem d_Mod_next_21 : decode b_Mod_next 21 = .ok (.istore_n 3, 1) := by decide +kernel
theorem d_Mod_next_22 : decode b_Mod_next 22 = .ok (.iload_n 3, 1) := by decide +kernel
theorem d_Mod_next_23 : decode b_Mod_next 23 = .ok (.aload_n 0, 1) := by decide +kernel
theorem d_Mod_next_24 : decode b_Mod_next 24 = .ok (.getfield 127, 3) := by decide +kernel
theorem d_Mod_next_27 : decode b_Mod_next 27 = .ok (.if_icmp .ge 16, 3) := by decide +kernel
theorem d_Mod_next_30 : decode b_Mod_next 30 = .ok (.aload_n 0, 1) := by decide +kernel
theorem d_Mod_next_31 : decode b_Mod_next 31 = .ok (.getfield 121, 3) := by decide +kernel
theorem d_Mod_next_34 : decode b_Mod_next 34 = .ok (.iload_n 3, 1) := by decide +kernel
theorem d_Mod_next_35 : decode b_Mod_next 35 = .ok (.iconst 0, 1) := by decide +kernel
theorem d_Mod_next_36 : decode b_Mod_next 36 = .ok (.bastore, 1) := by decide +kernel
theorem d_Mod_next_37 : decode b_Mod_next 37 = .ok (.iinc 3 1, 3) := by decide +kernel
theorem d_Mod_next_40 : decode b_Mod_next 40 = .ok (.goto (-18), 3) := by decide +kernel
theorem d_Mod_next_43 : decode b_Mod_next 43 = .ok (.iconst 0, 1) := by decide +kernel
theorem d_Mod_next_44 : decode b_Mod_next 44 = .ok (.istore_n 3, 1) := by decide +kernel
theorem d_Mod_next_45 : decode b_Mod_next 45 = .ok (.iload_n 3, 1) := by decide +kernel
theorem d_Mod_next_46 : decode b_Mod_next 46 = .ok (.iload_n 1, 1) := by decide +kernel
theorem d_Mod_next_47 : decode b_Mod_next 47 = .ok (.if_icmp .ge 21, 3) := by decide +kernel
theorem d_Mod_next_50 : decode b_Mod_next 50 = .ok (.aload_n 0, 1) := by decide +kernel
theorem d_Mod_next_51 : decode b_Mod_next 51 = .ok (.getfield 121, 3) := by decide +kernel
theorem d_Mod_next_54 : decode b_Mod_next 54 = .ok (.aload_n 0, 1) := by decide +kernel
theorem d_Mod_next_55 : decode b_Mod_next 55 = .ok (.getfield 115, 3) := by decide +kernel
theorem d_Mod_next_58 : decode b_Mod_next 58 = .ok (.iload_n 3, 1) := by decide +kernel
theorem d_Mod_next_59 : decode b_Mod_next 59 = .ok (.iaload, 1) := by decide +kernel
theorem d_Mod_next_60 : decode b_Mod_next 60 = .ok (.iconst 1, 1) := by decide +kernel
theorem d_Mod_next_61 : decode b_Mod_next 61 = .ok (.bastore, 1) := by decide +kernel
theorem d_Mod_next_62 : decode b_Mod_next 62 = .ok (.iinc 3 1, 3) := by decide +kernel
theorem d_Mod_next_65 : decode b_Mod_next 65 = .ok (.goto (-20), 3) := by decide +kernel
theorem d_Mod_next_68 : decode b_Mod_next 68 = .ok (.iload_n 2, 1) := by decide +kernel
theorem d_Mod_next_69 : decode b_Mod_next 69 = .ok (.aload_n 0, 1) := by decide +kernel
theorem d_Mod_next_70 : decode b_Mod_next 70 = .ok (.getfield 127, 3) := by decide +kernel
theorem d_Mod_next_73 : decode b_Mod_next 73 = .ok (.if_icmp .ge 18, 3) := by decide +kernel
theorem d_Mod_next_76 : decode b_Mod_next 76 = .ok (.aload_n 0, 1) := by decide +kernel
theorem d_Mod_next_77 : decode b_Mod_next 77 = .ok (.getfield 121, 3) := by decide +kernel
theorem d_Mod_next_80 : decode b_Mod_next 80 = .ok (.iload_n 2, 1) := by decide +kernel
theorem d_Mod_next_81 : decode b_Mod_next 81 = .ok (.baload, 1) := by decide +kernel
theorem d_Mod_next_82 : decode b_Mod_next 82 = .ok (.ifCond .eq 9, 3) := by decide +kernel
theorem d_Mod_next_85 : decode b_Mod_next 85 = .ok (.iinc 2 1, 3) := by decide +kernel
theorem d_Mod_next_88 : decode b_Mod_next 88 = .ok (.goto (-20), 3) := by decide +kernel
theorem d_Mod_next_91 : decode b_Mod_next 91 = .ok (.iload_n 2, 1) := by decide +kernel
theorem d_Mod_next_92 : decode b_Mod_next 92 = .ok (.aload_n 0, 1) := by decide +kernel
theorem d_Mod_next_93 : decode b_Mod_next 93 = .ok (.getfield 127, 3) := by decide +kernel
theorem d_Mod_next_96 : decode b_Mod_next 96 = .ok (.if_icmp .ge 72, 3) := by decide +kernel
theorem d_Mod_next_99 : decode b_Mod_next 99 = .ok (.aload_n 0, 1) := by decide +kernel
theorem d_Mod_next_100 : decode b_Mod_next 100 = .ok (.getfield 115, 3) := by decide +kernel
theorem d_Mod_next_103 : decode b_Mod_next 103 = .ok (.iload_n 1, 1) := by decide +kernel
theorem d_Mod_next_104 : decode b_Mod_next 104 = .ok (.iload_n 2, 1) := by decide +kernel
theorem d_Mod_next_105 : decode b_Mod_next 105 = .ok (.iastore, 1) := by decide +kernel
theorem d_Mod_next_106 : decode b_Mod_next 106 = .ok (.aload_n 0, 1) := by decide +kernel
theorem d_Mod_next_107 : decode b_Mod_next 107 = .ok (.getfield 121, 3) := by decide +kernel
theorem d_Mod_next_110 : decode b_Mod_next 110 = .ok (.iload_n 2, 1) := by decide +kernel
theorem d_Mod_next_111 : decode b_Mod_next 111 = .ok (.iconst 1, 1) := by decide +kernel
theorem d_Mod_next_112 : decode b_Mod_next 112 = .ok (.bastore, 1) := by decide +kernel
theorem d_Mod_next_113 : decode b_Mod_next 113 = .ok (.iload_n 1, 1) := by decide +kernel
theorem d_Mod_next_114 : decode b_Mod_next 114 = .ok (.iconst 1, 1) := by decide +kernel
theorem d_Mod_next_115 : decode b_Mod_next 115 = .ok (.iadd, 1) := by decide +kernel
theorem d_Mod_next_116 : decode b_Mod_next 116 = .ok (.istore_n 3, 1) := by decide +kernel
theorem d_Mod_next_117 : decode b_Mod_next 117 = .ok (.iload_n 3, 1) := by decide +kernel
theorem d_Mod_next_118 : decode b_Mod_next 118 = .ok (.aload_n 0, 1) := by decide +kernel
theorem d_Mod_next_119 : decode b_Mod_next 119 = .ok (.getfield 127, 3) := by decide +kernel
theorem d_Mod_next_122 : decode b_Mod_next 122 = .ok (.if_icmp .ge 44, 3) := by decide +kernel
theorem d_Mod_next_125 : decode b_Mod_next 125 = .ok (.iconst 0, 1) := by decide +kernel
theorem d_Mod_next_126 : decode b_Mod_next 126 = .ok (.istore 4, 2) := by decide +kernel
theorem d_Mod_next_128 : decode b_Mod_next 128 = .ok (.aload_n 0, 1) := by decide +kernel
theorem d_Mod_next_129 : decode b_Mod_next 129 = .ok (.getfield 121, 3) := by decide +kernel
theorem d_Mod_next_132 : decode b_Mod_next 132 = .ok (.iload 4, 2) := by decide +kernel
theorem d_Mod_next_134 : decode b_Mod_next 134 = .ok (.baload, 1) := by decide +kernel
theorem d_Mod_next_135 : decode b_Mod_next 135 = .ok (.ifCond .eq 9, 3) := by decide +kernel
theorem d_Mod_next_138 : decode b_Mod_next 138 = .ok (.iinc 4 1, 3) := by decide +kernel
theorem d_Mod_next_141 : decode b_Mod_next 141 = .ok (.goto (-13), 3) := by decide +kernel
theorem d_Mod_next_144 : decode b_Mod_next 144 = .ok (.aload_n 0, 1) := by decide +kernel
theorem d_Mod_next_145 : decode b_Mod_next 145 = .ok (.getfield 115, 3) := by decide +kernel
theorem d_Mod_next_148 : decode b_Mod_next 148 = .ok (.iload_n 3, 1) := by decide +kernel
theorem d_Mod_next_149 : decode b_Mod_next 149 = .ok (.iload 4, 2) := by decide +kernel
theorem d_Mod_next_151 : decode b_Mod_next 151 = .ok (.iastore, 1) := by decide +kernel
theorem d_Mod_next_152 : decode b_Mod_next 152 = .ok (.aload_n 0, 1) := by decide +kernel
theorem d_Mod_next_153 : decode b_Mod_next 153 = .ok (.getfield 121, 3) := by decide +kernel
theorem d_Mod_next_156 : decode b_Mod_next 156 = .ok (.iload 4, 2) := by decide +kernel
theorem d_Mod_next_158 : decode b_Mod_next 158 = .ok (.iconst 1, 1) := by decide +kernel
theorem d_Mod_next_159 : decode b_Mod_next 159 = .ok (.bastore, 1) := by decide +kernel
theorem d_Mod_next_160 : decode b_Mod_next 160 = .ok (.iinc 3 1, 3) := by decide +kernel
theorem d_Mod_next_163 : decode b_Mod_next 163 = .ok (.goto (-46), 3) := by decide +kernel
theorem d_Mod_next_166 : decode b_Mod_next 166 = .ok (.iconst 1, 1) := by decide +kernel
theorem d_Mod_next_167 : decode b_Mod_next 167 = .ok (.ireturn, 1) := by decide +kernel
theorem d_Mod_next_168 : decode b_Mod_next 168 = .ok (.iinc 1 (-1), 3) := by decide +kernel
theorem d_Mod_next_171 : decode b_Mod_next 171 = .ok (.goto (-164), 3) := by decide +kernel
theorem d_Mod_next_174 : decode b_Mod_next 174 = .ok (.iconst 0, 1) := by decide +kernel
theorem d_Mod_next_175 : decode b_Mod_next 175 = .ok (.ireturn, 1) := by decide +kernel
abbrev b_Mod_dry : ByteArray := prog_13_method_35_code
def y_Mod_dry : MethodName := ⟨"WallDampModel", "dry", "(I)J"⟩
def ws_Mod_dry : List Cond := .code y_Mod_dry b_Mod_dry 3 (some (.long)) :: x_tb
theorem pd_Mod_dry : y_Mod_dry.cls ≠ "java/lang/invoke/MethodHandle" ∧ y_Mod_dry.cls ≠ "java/lang/invoke/VarHandle" ∧ (parseMethodDescriptor y_Mod_dry.desc).map (fun d => d.parameters.length) = some 1 := by decide +kernel
theorem d_Mod_dry_0 : decode b_Mod_dry 0 = .ok (.iconst 0, 1) := by decide +kernel
theorem d_Mod_dry_1 : decode b_Mod_dry 1 = .ok (.istore_n 2, 1) := by decide +kernel
theorem d_Mod_dry_2 : decode b_Mod_dry 2 = .ok (.iload_n 2, 1) := by decide +kernel
theorem d_Mod_dry_3 : decode b_Mod_dry 3 = .ok (.aload_n 0, 1) := by decide +kernel
theorem d_Mod_dry_4 : decode b_Mod_dry 4 = .ok (.getfield 127, 3) := by decide +kernel
theorem d_Mod_dry_7 : decode b_Mod_dry 7 = .ok (.if_icmp .ge 67, 3) := by decide +kernel
theorem d_Mod_dry_10 : decode b_Mod_dry 10 = .ok (.aload_n 0, 1) := by decide +kernel
theorem d_Mod_dry_11 : decode b_Mod_dry 11 = .ok (.getfield 28, 3) := by decide +kernel
theorem d_Mod_dry_14 : decode b_Mod_dry 14 = .ok (.iload_n 2, 1) := by decide +kernel
theorem d_Mod_dry_15 : decode b_Mod_dry 15 = .ok (.aload_n 0, 1) := by decide +kernel
theorem d_Mod_dry_16 : decode b_Mod_dry 16 = .ok (.getfield 106, 3) := by decide +kernel
theorem d_Mod_dry_19 : decode b_Mod_dry 19 = .ok (.aload_n 0, 1) := by decide +kernel
theorem d_Mod_dry_20 : decode b_Mod_dry 20 = .ok (.getfield 115, 3) := by decide +kernel
theorem d_Mod_dry_23 : decode b_Mod_dry 23 = .ok (.iload_n 2, 1) := by decide +kernel
theorem d_Mod_dry_24 : decode b_Mod_dry 24 = .ok (.iaload, 1) := by decide +kernel
theorem d_Mod_dry_25 : decode b_Mod_dry 25 = .ok (.iaload, 1) := by decide +kernel
theorem d_Mod_dry_26 : decode b_Mod_dry 26 = .ok (.iastore, 1) := by decide +kernel
theorem d_Mod_dry_27 : decode b_Mod_dry 27 = .ok (.aload_n 0, 1) := by decide +kernel
theorem d_Mod_dry_28 : decode b_Mod_dry 28 = .ok (.getfield 31, 3) := by decide +kernel
theorem d_Mod_dry_31 : decode b_Mod_dry 31 = .ok (.iload_n 2, 1) := by decide +kernel
theorem d_Mod_dry_32 : decode b_Mod_dry 32 = .ok (.aload_n 0, 1) := by decide +kernel
theorem d_Mod_dry_33 : decode b_Mod_dry 33 = .ok (.getfield 109, 3) := by decide +kernel
theorem d_Mod_dry_36 : decode b_Mod_dry 36 = .ok (.aload_n 0, 1) := by decide +kernel
theorem d_Mod_dry_37 : decode b_Mod_dry 37 = .ok (.getfield 115, 3) := by decide +kernel
theorem d_Mod_dry_40 : decode b_Mod_dry 40 = .ok (.iload_n 2, 1) := by decide +kernel
theorem d_Mod_dry_41 : decode b_Mod_dry 41 = .ok (.iaload, 1) := by decide +kernel
theorem d_Mod_dry_42 : decode b_Mod_dry 42 = .ok (.iaload, 1) := by decide +kernel
theorem d_Mod_dry_43 : decode b_Mod_dry 43 = .ok (.iastore, 1) := by decide +kernel
theorem d_Mod_dry_44 : decode b_Mod_dry 44 = .ok (.aload_n 0, 1) := by decide +kernel
theorem d_Mod_dry_45 : decode b_Mod_dry 45 = .ok (.getfield 38, 3) := by decide +kernel
theorem d_Mod_dry_48 : decode b_Mod_dry 48 = .ok (.iload_n 2, 1) := by decide +kernel
theorem d_Mod_dry_49 : decode b_Mod_dry 49 = .ok (.aload_n 0, 1) := by decide +kernel
theorem d_Mod_dry_50 : decode b_Mod_dry 50 = .ok (.getfield 112, 3) := by decide +kernel
theorem d_Mod_dry_53 : decode b_Mod_dry 53 = .ok (.aload_n 0, 1) := by decide +kernel
theorem d_Mod_dry_54 : decode b_Mod_dry 54 = .ok (.getfield 115, 3) := by decide +kernel
theorem d_Mod_dry_57 : decode b_Mod_dry 57 = .ok (.iload_n 2, 1) := by decide +kernel
theorem d_Mod_dry_58 : decode b_Mod_dry 58 = .ok (.iaload, 1) := by decide +kernel
theorem d_Mod_dry_59 : decode b_Mod_dry 59 = .ok (.iaload, 1) := by decide +kernel
theorem d_Mod_dry_60 : decode b_Mod_dry 60 = .ok (.iastore, 1) := by decide +kernel
theorem d_Mod_dry_61 : decode b_Mod_dry 61 = .ok (.aload_n 0, 1) := by decide +kernel
theorem d_Mod_dry_62 : decode b_Mod_dry 62 = .ok (.getfield 34, 3) := by decide +kernel
theorem d_Mod_dry_65 : decode b_Mod_dry 65 = .ok (.iload_n 2, 1) := by decide +kernel
theorem d_Mod_dry_66 : decode b_Mod_dry 66 = .ok (.lconst 0, 1) := by decide +kernel
theorem d_Mod_dry_67 : decode b_Mod_dry 67 = .ok (.lastore, 1) := by decide +kernel
theorem d_Mod_dry_68 : decode b_Mod_dry 68 = .ok (.iinc 2 1, 3) := by decide +kernel
theorem d_Mod_dry_71 : decode b_Mod_dry 71 = .ok (.goto (-69), 3) := by decide +kernel
theorem d_Mod_dry_74 : decode b_Mod_dry 74 = .ok (.iconst 0, 1) := by decide +kernel
theorem d_Mod_dry_75 : decode b_Mod_dry 75 = .ok (.istore_n 2, 1) := by decide +kernel
theorem d_Mod_dry_76 : decode b_Mod_dry 76 = .ok (.iload_n 2, 1) := by decide +kernel
theorem d_Mod_dry_77 : decode b_Mod_dry 77 = .ok (.iload_n 1, 1) := by decide +kernel
theorem d_Mod_dry_78 : decode b_Mod_dry 78 = .ok (.if_icmp .ge 17, 3) := by decide +kernel
theorem d_Mod_dry_81 : decode b_Mod_dry 81 = .ok (.aload_n 0, 1) := by decide +kernel
theorem d_Mod_dry_82 : decode b_Mod_dry 82 = .ok (.iload_n 2, 1) := by decide +kernel
theorem d_Mod_dry_83 : decode b_Mod_dry 83 = .ok (.bipush 24, 2) := by decide +kernel
theorem d_Mod_dry_85 : decode b_Mod_dry 85 = .ok (.irem, 1) := by decide +kernel
theorem d_Mod_dry_86 : decode b_Mod_dry 86 = .ok (.invokevirtual 234, 3) := by decide +kernel
theorem d_Mod_dry_89 : decode b_Mod_dry 89 = .ok (.iinc 2 1, 3) := by decide +kernel
theorem d_Mod_dry_92 : decode b_Mod_dry 92 = .ok (.goto (-16), 3) := by decide +kernel
theorem d_Mod_dry_95 : decode b_Mod_dry 95 = .ok (.aload_n 0, 1) := by decide +kernel
theorem d_Mod_dry_96 : decode b_Mod_dry 96 = .ok (.invokevirtual 240, 3) := by decide +kernel
theorem d_Mod_dry_99 : decode b_Mod_dry 99 = .ok (.lreturn, 1) := by decide +kernel
abbrev b_Mod_order : ByteArray := prog_13_method_36_code
def y_Mod_order : MethodName := ⟨"WallDampModel", "order", "(II)I"⟩
def ws_Mod_order : List Cond := .code y_Mod_order b_Mod_order 10 (some (.int)) :: x_tb
theorem pd_Mod_order : y_Mod_order.cls ≠ "java/lang/invoke/MethodHandle" ∧ y_Mod_order.cls ≠ "java/lang/invoke/VarHandle" ∧ (parseMethodDescriptor y_Mod_order.desc).map (fun d => d.parameters.length) = some 2 := by decide +kernel
theorem d_Mod_order_0 : decode b_Mod_order 0 = .ok (.aload_n 0, 1) := by decide +kernel
theorem d_Mod_order_1 : decode b_Mod_order 1 = .ok (.iload_n 1, 1) := by decide +kernel
theorem d_Mod_order_2 : decode b_Mod_order 2 = .ok (.i2l, 1) := by decide +kernel
theorem d_Mod_order_3 : decode b_Mod_order 3 = .ok (.lconst 1, 1) := by decide +kernel
theorem d_Mod_order_4 : decode b_Mod_order 4 = .ok (.ldc2_w 244, 3) := by decide +kernel
theorem d_Mod_order_7 : decode b_Mod_order 7 = .ok (.invokestatic 133, 3) := by decide +kernel
theorem d_Mod_order_10 : decode b_Mod_order 10 = .ok (.ifCond .eq 11, 3) := by decide +kernel
theorem d_Mod_order_13 : decode b_Mod_order 13 = .ok (.aload_n 0, 1) := by decide +kernel
theorem d_Mod_order_14 : decode b_Mod_order 14 = .ok (.iload_n 2, 1) := by decide +kernel
theorem d_Mod_order_15 : decode b_Mod_order 15 = .ok (.invokevirtual 152, 3) := by decide +kernel
theorem d_Mod_order_18 : decode b_Mod_order 18 = .ok (.ifCond .ne 7, 3) := by decide +kernel
theorem d_Mod_order_21 : decode b_Mod_order 21 = .ok (.iconst 1, 1) := by decide +kernel
theorem d_Mod_order_22 : decode b_Mod_order 22 = .ok (.goto 16, 3) := by decide +kernel
theorem d_Mod_order_25 : decode b_Mod_order 25 = .ok (.aload_n 0, 1) := by decide +kernel
theorem d_Mod_order_26 : decode b_Mod_order 26 = .ok (.getfield 127, 3) := by decide +kernel
theorem d_Mod_order_29 : decode b_Mod_order 29 = .ok (.iconst 5, 1) := by decide +kernel
theorem d_Mod_order_30 : decode b_Mod_order 30 = .ok (.if_icmp .le 7, 3) := by decide +kernel
theorem d_Mod_order_33 : decode b_Mod_order 33 = .ok (.iconst 2, 1) := by decide +kernel
theorem d_Mod_order_34 : decode b_Mod_order 34 = .ok (.goto 4, 3) := by decide +kernel
theorem d_Mod_order_37 : decode b_Mod_order 37 = .ok (.iconst 0, 1) := by decide +kernel
theorem d_Mod_order_38 : decode b_Mod_order 38 = .ok (.putfield 130, 3) := by decide +kernel
theorem d_Mod_order_41 : decode b_Mod_order 41 = .ok (.aload_n 0, 1) := by decide +kernel
theorem d_Mod_order_42 : decode b_Mod_order 42 = .ok (.getfield 130, 3) := by decide +kernel
theorem d_Mod_order_45 : decode b_Mod_order 45 = .ok (.ifCond .le 5, 3) := by decide +kernel
theorem d_Mod_order_48 : decode b_Mod_order 48 = .ok (.iconst 0, 1) := by decide +kernel
theorem d_Mod_order_49 : decode b_Mod_order 49 = .ok (.ireturn, 1) := by decide +kernel
theorem d_Mod_order_50 : decode b_Mod_order 50 = .ok (.aload_n 0, 1) := by decide +kernel
theorem d_Mod_order_51 : decode b_Mod_order 51 = .ok (.invokevirtual 246, 3) := by decide +kernel
theorem d_Mod_order_54 : decode b_Mod_order 54 = .ok (.astore_n 3, 1) := by decide +kernel
theorem d_Mod_order_55 : decode b_Mod_order 55 = .ok (.ldc2_w 250, 3) := by decide +kernel
theorem d_Mod_order_58 : decode b_Mod_order 58 = .ok (.lstore 4, 2) := by decide +kernel
theorem d_Mod_order_60 : decode b_Mod_order 60 = .ok (.iconst 0, 1) := by decide +kernel
theorem d_Mod_order_61 : decode b_Mod_order 61 = .ok (.istore 6, 2) := by decide +kernel
theorem d_Mod_order_63 : decode b_Mod_order 63 = .ok (.iload 6, 2) := by decide +kernel
theorem d_Mod_order_65 : decode b_Mod_order 65 = .ok (.aload_n 0, 1) := by decide +kernel
theorem d_Mod_order_66 : decode b_Mod_order 66 = .ok (.getfield 127, 3) := by decide +kernel
theorem d_Mod_order_69 : decode b_Mod_order 69 = .ok (.if_icmp .ge 18, 3) := by decide +kernel
theorem d_Mod_order_72 : decode b_Mod_order 72 = .ok (.aload_n 0, 1) := by decide +kernel
theorem d_Mod_order_73 : decode b_Mod_order 73 = .ok (.getfield 115, 3) := by decide +kernel
theorem d_Mod_order_76 : decode b_Mod_order 76 = .ok (.iload 6, 2) := by decide +kernel
theorem d_Mod_order_78 : decode b_Mod_order 78 = .ok (.iload 6, 2) := by decide +kernel
theorem d_Mod_order_80 : decode b_Mod_order 80 = .ok (.iastore, 1) := by decide +kernel
theorem d_Mod_order_81 : decode b_Mod_order 81 = .ok (.iinc 6 1, 3) := by decide +kernel
theorem d_Mod_order_84 : decode b_Mod_order 84 = .ok (.goto (-21), 3) := by decide +kernel
theorem d_Mod_order_87 : decode b_Mod_order 87 = .ok (.iconst 1, 1) := by decide +kernel
theorem d_Mod_order_88 : decode b_Mod_order 88 = .ok (.istore 6, 2) := by decide +kernel
theorem d_Mod_order_90 : decode b_Mod_order 90 = .ok (.iload 6, 2) := by decide +kernel
theorem d_Mod_order_92 : decode b_Mod_order 92 = .ok (.ifCond .eq 70, 3) := by decide +kernel
theorem d_Mod_order_95 : decode b_Mod_order 95 = .ok (.aload_n 0, 1) := by decide +kernel
theorem d_Mod_order_96 : decode b_Mod_order 96 = .ok (.iload_n 1, 1) := by decide +kernel
theorem d_Mod_order_97 : decode b_Mod_order 97 = .ok (.invokevirtual 252, 3) := by decide +kernel
theorem d_Mod_order_100 : decode b_Mod_order 100 = .ok (.lstore 7, 2) := by decide +kernel
theorem d_Mod_order_102 : decode b_Mod_order 102 = .ok (.lload 4, 2) := by decide +kernel
theorem d_Mod_order_104 : decode b_Mod_order 104 = .ok (.lconst 0, 1) := by decide +kernel
theorem d_Mod_order_105 : decode b_Mod_order 105 = .ok (.lcmp, 1) := by decide +kernel
theorem d_Mod_order_106 : decode b_Mod_order 106 = .ok (.ifCond .lt 11, 3) := by decide +kernel
theorem d_Mod_order_109 : decode b_Mod_order 109 = .ok (.lload 7, 2) := by decide +kernel
theorem d_Mod_order_111 : decode b_Mod_order 111 = .ok (.lload 4, 2) := by decide +kernel
theorem d_Mod_order_113 : decode b_Mod_order 113 = .ok (.lcmp, 1) := by decide +kernel
theorem d_Mod_order_114 : decode b_Mod_order 114 = .ok (.ifCond .ge 39, 3) := by decide +kernel
theorem d_Mod_order_117 : decode b_Mod_order 117 = .ok (.lload 7, 2) := by decide +kernel
theorem d_Mod_order_119 : decode b_Mod_order 119 = .ok (.lstore 4, 2) := by decide +kernel
theorem d_Mod_order_121 : decode b_Mod_order 121 = .ok (.iconst 0, 1) := by decide +kernel
theorem d_Mod_order_122 : decode b_Mod_order 122 = .ok (.istore 9, 2) := by decide +kernel
theorem d_Mod_order_124 : decode b_Mod_order 124 = .ok (.iload 9, 2) := by decide +kernel
theorem d_Mod_order_126 : decode b_Mod_order 126 = .ok (.aload_n 0, 1) := by decide +kernel
theorem d_Mod_order_127 : decode b_Mod_order 127 = .ok (.getfield 127, 3) := by decide +kernel
theorem d_Mod_order_130 : decode b_Mod_order 130 = .ok (.if_icmp .ge 23, 3) := by decide +kernel
theorem d_Mod_order_133 : decode b_Mod_order 133 = .ok (.aload_n 0, 1) := by decide +kernel
theorem d_Mod_order_134 : decode b_Mod_order 134 = .ok (.getfield 118, 3) := by decide +kernel
theorem d_Mod_order_137 : decode b_Mod_order 137 = .ok (.iload 9, 2) := by decide +kernel
theorem d_Mod_order_139 : decode b_Mod_order 139 = .ok (.aload_n 0, 1) := by decide +kernel
theorem d_Mod_order_140 : decode b_Mod_order 140 = .ok (.getfield 115, 3) := by decide +kernel
theorem d_Mod_order_143 : decode b_Mod_order 143 = .ok (.iload 9, 2) := by decide +kernel
theorem d_Mod_order_145 : decode b_Mod_order 145 = .ok (.iaload, 1) := by decide +kernel
theorem d_Mod_order_146 : decode b_Mod_order 146 = .ok (.iastore, 1) := by decide +kernel
theorem d_Mod_order_147 : decode b_Mod_order 147 = .ok (.iinc 9 1, 3) := by decide +kernel
theorem d_Mod_order_150 : decode b_Mod_order 150 = .ok (.goto (-26), 3) := by decide +kernel
theorem d_Mod_order_153 : decode b_Mod_order 153 = .ok (.aload_n 0, 1) := by decide +kernel
theorem d_Mod_order_154 : decode b_Mod_order 154 = .ok (.invokevirtual 256, 3) := by decide +kernel
theorem d_Mod_order_157 : decode b_Mod_order 157 = .ok (.istore 6, 2) := by decide +kernel
theorem d_Mod_order_159 : decode b_Mod_order 159 = .ok (.goto (-69), 3) := by decide +kernel
theorem d_Mod_order_162 : decode b_Mod_order 162 = .ok (.iconst 0, 1) := by decide +kernel
theorem d_Mod_order_163 : decode b_Mod_order 163 = .ok (.istore 7, 2) := by decide +kernel
theorem d_Mod_order_165 : decode b_Mod_order 165 = .ok (.iload 7, 2) := by decide +kernel
theorem d_Mod_order_167 : decode b_Mod_order 167 = .ok (.aload_n 0, 1) := by decide +kernel
theorem d_Mod_order_168 : decode b_Mod_order 168 = .ok (.getfield 127, 3) := by decide +kernel
theorem d_Mod_order_171 : decode b_Mod_order 171 = .ok (.if_icmp .ge 76, 3) := by decide +kernel
theorem d_Mod_order_174 : decode b_Mod_order 174 = .ok (.aload_n 0, 1) := by decide +kernel
theorem d_Mod_order_175 : decode b_Mod_order 175 = .ok (.getfield 28, 3) := by decide +kernel
theorem d_Mod_order_178 : decode b_Mod_order 178 = .ok (.iload 7, 2) := by decide +kernel
theorem d_Mod_order_180 : decode b_Mod_order 180 = .ok (.aload_n 0, 1) := by decide +kernel
theorem d_Mod_order_181 : decode b_Mod_order 181 = .ok (.getfield 106, 3) := by decide +kernel
theorem d_Mod_order_184 : decode b_Mod_order 184 = .ok (.iload 7, 2) := by decide +kernel
theorem d_Mod_order_186 : decode b_Mod_order 186 = .ok (.iaload, 1) := by decide +kernel
theorem d_Mod_order_187 : decode b_Mod_order 187 = .ok (.iastore, 1) := by decide +kernel
theorem d_Mod_order_188 : decode b_Mod_order 188 = .ok (.aload_n 0, 1) := by decide +kernel
theorem d_Mod_order_189 : decode b_Mod_order 189 = .ok (.getfield 31, 3) := by decide +kernel
theorem d_Mod_order_192 : decode b_Mod_order 192 = .ok (.iload 7, 2) := by decide +kernel
theorem d_Mod_order_194 : decode b_Mod_order 194 = .ok (.aload_n 0, 1) := by decide +kernel
theorem d_Mod_order_195 : decode b_Mod_order 195 = .ok (.getfield 109, 3) := by decide +kernel
theorem d_Mod_order_198 : decode b_Mod_order 198 = .ok (.iload 7, 2) := by decide +kernel
theorem d_Mod_order_200 : decode b_Mod_order 200 = .ok (.iaload, 1) := by decide +kernel
theorem d_Mod_order_201 : decode b_Mod_order 201 = .ok (.iastore, 1) := by decide +kernel
theorem d_Mod_order_202 : decode b_Mod_order 202 = .ok (.aload_n 0, 1) := by decide +kernel
theorem d_Mod_order_203 : decode b_Mod_order 203 = .ok (.getfield 38, 3) := by decide +kernel
theorem d_Mod_order_206 : decode b_Mod_order 206 = .ok (.iload 7, 2) := by decide +kernel
theorem d_Mod_order_208 : decode b_Mod_order 208 = .ok (.aload_n 0, 1) := by decide +kernel
theorem d_Mod_order_209 : decode b_Mod_order 209 = .ok (.getfield 112, 3) := by decide +kernel
theorem d_Mod_order_212 : decode b_Mod_order 212 = .ok (.iload 7, 2) := by decide +kernel
theorem d_Mod_order_214 : decode b_Mod_order 214 = .ok (.iaload, 1) := by decide +kernel
theorem d_Mod_order_215 : decode b_Mod_order 215 = .ok (.iastore, 1) := by decide +kernel
theorem d_Mod_order_216 : decode b_Mod_order 216 = .ok (.aload_n 0, 1) := by decide +kernel
theorem d_Mod_order_217 : decode b_Mod_order 217 = .ok (.getfield 34, 3) := by decide +kernel
theorem d_Mod_order_220 : decode b_Mod_order 220 = .ok (.iload 7, 2) := by decide +kernel
theorem d_Mod_order_222 : decode b_Mod_order 222 = .ok (.aload_n 3, 1) := by decide +kernel
theorem d_Mod_order_223 : decode b_Mod_order 223 = .ok (.iload 7, 2) := by decide +kernel
theorem d_Mod_order_225 : decode b_Mod_order 225 = .ok (.laload, 1) := by decide +kernel
theorem d_Mod_order_226 : decode b_Mod_order 226 = .ok (.lastore, 1) := by decide +kernel
theorem d_Mod_order_227 : decode b_Mod_order 227 = .ok (.aload_n 0, 1) := by decide +kernel
theorem d_Mod_order_228 : decode b_Mod_order 228 = .ok (.getfield 41, 3) := by decide +kernel
theorem d_Mod_order_231 : decode b_Mod_order 231 = .ok (.iload 7, 2) := by decide +kernel
theorem d_Mod_order_233 : decode b_Mod_order 233 = .ok (.aload_n 3, 1) := by decide +kernel
theorem d_Mod_order_234 : decode b_Mod_order 234 = .ok (.iconst 5, 1) := by decide +kernel
theorem d_Mod_order_235 : decode b_Mod_order 235 = .ok (.iload 7, 2) := by decide +kernel
theorem d_Mod_order_237 : decode b_Mod_order 237 = .ok (.iadd, 1) := by decide +kernel
theorem d_Mod_order_238 : decode b_Mod_order 238 = .ok (.laload, 1) := by decide +kernel
theorem d_Mod_order_239 : decode b_Mod_order 239 = .ok (.l2i, 1) := by decide +kernel
theorem d_Mod_order_240 : decode b_Mod_order 240 = .ok (.iastore, 1) := by decide +kernel
theorem d_Mod_order_241 : decode b_Mod_order 241 = .ok (.iinc 7 1, 3) := by decide +kernel
theorem d_Mod_order_244 : decode b_Mod_order 244 = .ok (.goto (-79), 3) := by decide +kernel
theorem d_Mod_order_247 : decode b_Mod_order 247 = .ok (.aload_n 0, 1) := by decide +kernel
theorem d_Mod_order_248 : decode b_Mod_order 248 = .ok (.aload_n 3, 1) := by decide +kernel
theorem d_Mod_order_249 : decode b_Mod_order 249 = .ok (.bipush 10, 2) := by decide +kernel
theorem d_Mod_order_251 : decode b_Mod_order 251 = .ok (.laload, 1) := by decide +kernel
theorem d_Mod_order_252 : decode b_Mod_order 252 = .ok (.putfield 207, 3) := by decide +kernel
theorem d_Mod_order_255 : decode b_Mod_order 255 = .ok (.aload_n 0, 1) := by decide +kernel
theorem d_Mod_order_256 : decode b_Mod_order 256 = .ok (.aload_n 3, 1) := by decide +kernel
theorem d_Mod_order_257 : decode b_Mod_order 257 = .ok (.bipush 11, 2) := by decide +kernel
theorem d_Mod_order_259 : decode b_Mod_order 259 = .ok (.laload, 1) := by decide +kernel
theorem d_Mod_order_260 : decode b_Mod_order 260 = .ok (.putfield 210, 3) := by decide +kernel
theorem d_Mod_order_263 : decode b_Mod_order 263 = .ok (.aload_n 0, 1) := by decide +kernel
theorem d_Mod_order_264 : decode b_Mod_order 264 = .ok (.aload_n 3, 1) := by decide +kernel
theorem d_Mod_order_265 : decode b_Mod_order 265 = .ok (.bipush 12, 2) := by decide +kernel
theorem d_Mod_order_267 : decode b_Mod_order 267 = .ok (.laload, 1) := by decide +kernel
theorem d_Mod_order_268 : decode b_Mod_order 268 = .ok (.putfield 213, 3) := by decide +kernel
theorem d_Mod_order_271 : decode b_Mod_order 271 = .ok (.aload_n 0, 1) := by decide +kernel
theorem d_Mod_order_272 : decode b_Mod_order 272 = .ok (.aload_n 3, 1) := by decide +kernel
theorem d_Mod_order_273 : decode b_Mod_order 273 = .ok (.bipush 13, 2) := by decide +kernel
theorem d_Mod_order_275 : decode b_Mod_order 275 = .ok (.laload, 1) := by decide +kernel
theorem d_Mod_order_276 : decode b_Mod_order 276 = .ok (.putfield 216, 3) := by decide +kernel
theorem d_Mod_order_279 : decode b_Mod_order 279 = .ok (.aload_n 0, 1) := by decide +kernel
theorem d_Mod_order_280 : decode b_Mod_order 280 = .ok (.getfield 118, 3) := by decide +kernel
theorem d_Mod_order_283 : decode b_Mod_order 283 = .ok (.iload_n 2, 1) := by decide +kernel
theorem d_Mod_order_284 : decode b_Mod_order 284 = .ok (.iaload, 1) := by decide +kernel
theorem d_Mod_order_285 : decode b_Mod_order 285 = .ok (.ireturn, 1) := by decide +kernel
abbrev b_Mod_keep : ByteArray := prog_13_method_37_code
def y_Mod_keep : MethodName := ⟨"WallDampModel", "keep", "()[J"⟩
def ws_Mod_keep : List Cond := .code y_Mod_keep b_Mod_keep 2 (some (.array (.long))) :: x_tb
theorem pd_Mod_keep : y_Mod_keep.cls ≠ "java/lang/invoke/MethodHandle" ∧ y_Mod_keep.cls ≠ "java/lang/invoke/VarHandle" ∧ (parseMethodDescriptor y_Mod_keep.desc).map (fun d => d.parameters.length) = some 0 := by decide +kernel
theorem d_Mod_keep_0 : decode b_Mod_keep 0 = .ok (.iconst 0, 1) := by decide +kernel
theorem d_Mod_keep_1 : decode b_Mod_keep 1 = .ok (.istore_n 1, 1) := by decide +kernel
theorem d_Mod_keep_2 : decode b_Mod_keep 2 = .ok (.iload_n 1, 1) := by decide +kernel
theorem d_Mod_keep_3 : decode b_Mod_keep 3 = .ok (.aload_n 0, 1) := by decide +kernel
theorem d_Mod_keep_4 : decode b_Mod_keep 4 = .ok (.getfield 127, 3) := by decide +kernel
theorem d_Mod_keep_7 : decode b_Mod_keep 7 = .ok (.if_icmp .ge 72, 3) := by decide +kernel
theorem d_Mod_keep_10 : decode b_Mod_keep 10 = .ok (.aload_n 0, 1) := by decide +kernel
theorem d_Mod_keep_11 : decode b_Mod_keep 11 = .ok (.getfield 106, 3) := by decide +kernel
theorem d_Mod_keep_14 : decode b_Mod_keep 14 = .ok (.iload_n 1, 1) := by decide +kernel
theorem d_Mod_keep_15 : decode b_Mod_keep 15 = .ok (.aload_n 0, 1) := by decide +kernel
theorem d_Mod_keep_16 : decode b_Mod_keep 16 = .ok (.getfield 28, 3) := by decide +kernel
theorem d_Mod_keep_19 : decode b_Mod_keep 19 = .ok (.iload_n 1, 1) := by decide +kernel
theorem d_Mod_keep_20 : decode b_Mod_keep 20 = .ok (.iaload, 1) := by decide +kernel
theorem d_Mod_keep_21 : decode b_Mod_keep 21 = .ok (.iastore, 1) := by decide +kernel
theorem d_Mod_keep_22 : decode b_Mod_keep 22 = .ok (.aload_n 0, 1) := by decide +kernel
theorem d_Mod_keep_23 : decode b_Mod_keep 23 = .ok (.getfield 109, 3) := by decide +kernel
theorem d_Mod_keep_26 : decode b_Mod_keep 26 = .ok (.iload_n 1, 1) := by decide +kernel
theorem d_Mod_keep_27 : decode b_Mod_keep 27 = .ok (.aload_n 0, 1) := by decide +kernel
theorem d_Mod_keep_28 : decode b_Mod_keep 28 = .ok (.getfield 31, 3) := by decide +kernel
theorem d_Mod_keep_31 : decode b_Mod_keep 31 = .ok (.iload_n 1, 1) := by decide +kernel
theorem d_Mod_keep_32 : decode b_Mod_keep 32 = .ok (.iaload, 1) := by decide +kernel
theorem d_Mod_keep_33 : decode b_Mod_keep 33 = .ok (.iastore, 1) := by decide +kernel
theorem d_Mod_keep_34 : decode b_Mod_keep 34 = .ok (.aload_n 0, 1) := by decide +kernel
theorem d_Mod_keep_35 : decode b_Mod_keep 35 = .ok (.getfield 112, 3) := by decide +kernel
theorem d_Mod_keep_38 : decode b_Mod_keep 38 = .ok (.iload_n 1, 1) := by decide +kernel
theorem d_Mod_keep_39 : decode b_Mod_keep 39 = .ok (.aload_n 0, 1) := by decide +kernel
theorem d_Mod_keep_40 : decode b_Mod_keep 40 = .ok (.getfield 38, 3) := by decide +kernel
theorem d_Mod_keep_43 : decode b_Mod_keep 43 = .ok (.iload_n 1, 1) := by decide +kernel
theorem d_Mod_keep_44 : decode b_Mod_keep 44 = .ok (.iaload, 1) := by decide +kernel
theorem d_Mod_keep_45 : decode b_Mod_keep 45 = .ok (.iastore, 1) := by decide +kernel
theorem d_Mod_keep_46 : decode b_Mod_keep 46 = .ok (.aload_n 0, 1) := by decide +kernel
theorem d_Mod_keep_47 : decode b_Mod_keep 47 = .ok (.getfield 124, 3) := by decide +kernel
theorem d_Mod_keep_50 : decode b_Mod_keep 50 = .ok (.iload_n 1, 1) := by decide +kernel
theorem d_Mod_keep_51 : decode b_Mod_keep 51 = .ok (.aload_n 0, 1) := by decide +kernel
theorem d_Mod_keep_52 : decode b_Mod_keep 52 = .ok (.getfield 34, 3) := by decide +kernel
theorem d_Mod_keep_55 : decode b_Mod_keep 55 = .ok (.iload_n 1, 1) := by decide +kernel
theorem d_Mod_keep_56 : decode b_Mod_keep 56 = .ok (.laload, 1) := by decide +kernel
theorem d_Mod_keep_57 : decode b_Mod_keep 57 = .ok (.lastore, 1) := by decide +kernel
theorem d_Mod_keep_58 : decode b_Mod_keep 58 = .ok (.aload_n 0, 1) := by decide +kernel
theorem d_Mod_keep_59 : decode b_Mod_keep 59 = .ok (.getfield 124, 3) := by decide +kernel
theorem d_Mod_keep_62 : decode b_Mod_keep 62 = .ok (.iconst 5, 1) := by decide +kernel
theorem d_Mod_keep_63 : decode b_Mod_keep 63 = .ok (.iload_n 1, 1) := by decide +kernel
theorem d_Mod_keep_64 : decode b_Mod_keep 64 = .ok (.iadd, 1) := by decide +kernel
theorem d_Mod_keep_65 : decode b_Mod_keep 65 = .ok (.aload_n 0, 1) := by decide +kernel
theorem d_Mod_keep_66 : decode b_Mod_keep 66 = .ok (.getfield 41, 3) := by decide +kernel
theorem d_Mod_keep_69 : decode b_Mod_keep 69 = .ok (.iload_n 1, 1) := by decide +kernel
theorem d_Mod_keep_70 : decode b_Mod_keep 70 = .ok (.iaload, 1) := by decide +kernel
theorem d_Mod_keep_71 : decode b_Mod_keep 71 = .ok (.i2l, 1) := by decide +kernel
theorem d_Mod_keep_72 : decode b_Mod_keep 72 = .ok (.lastore, 1) := by decide +kernel
theorem d_Mod_keep_73 : decode b_Mod_keep 73 = .ok (.iinc 1 1, 3) := by decide +kernel
theorem d_Mod_keep_76 : decode b_Mod_keep 76 = .ok (.goto (-74), 3) := by decide +kernel
theorem d_Mod_keep_79 : decode b_Mod_keep 79 = .ok (.aload_n 0, 1) := by decide +kernel
theorem d_Mod_keep_80 : decode b_Mod_keep 80 = .ok (.getfield 124, 3) := by decide +kernel
theorem d_Mod_keep_83 : decode b_Mod_keep 83 = .ok (.bipush 10, 2) := by decide +kernel
theorem d_Mod_keep_85 : decode b_Mod_keep 85 = .ok (.aload_n 0, 1) := by decide +kernel
theorem d_Mod_keep_86 : decode b_Mod_keep 86 = .ok (.getfield 207, 3) := by decide +kernel
theorem d_Mod_keep_89 : decode b_Mod_keep 89 = .ok (.lastore, 1) := by decide +kernel
theorem d_Mod_keep_90 : decode b_Mod_keep 90 = .ok (.aload_n 0, 1) := by decide +kernel
theorem d_Mod_keep_91 : decode b_Mod_keep 91 = .ok (.getfield 124, 3) := by decide +kernel
theorem d_Mod_keep_94 : decode b_Mod_keep 94 = .ok (.bipush 11, 2) := by decide +kernel
theorem d_Mod_keep_96 : decode b_Mod_keep 96 = .ok (.aload_n 0, 1) := by decide +kernel
theorem d_Mod_keep_97 : decode b_Mod_keep 97 = .ok (.getfield 210, 3) := by decide +kernel
theorem d_Mod_keep_100 : decode b_Mod_keep 100 = .ok (.lastore, 1) := by decide +kernel
theorem d_Mod_keep_101 : decode b_Mod_keep 101 = .ok (.aload_n 0, 1) := by decide +kernel
theorem d_Mod_keep_102 : decode b_Mod_keep 102 = .ok (.getfield 124, 3) := by decide +kernel
theorem d_Mod_keep_105 : decode b_Mod_keep 105 = .ok (.bipush 12, 2) := by decide +kernel
theorem d_Mod_keep_107 : decode b_Mod_keep 107 = .ok (.aload_n 0, 1) := by decide +kernel
theorem d_Mod_keep_108 : decode b_Mod_keep 108 = .ok (.getfield 213, 3) := by decide +kernel
theorem d_Mod_keep_111 : decode b_Mod_keep 111 = .ok (.lastore, 1) := by decide +kernel
theorem d_Mod_keep_112 : decode b_Mod_keep 112 = .ok (.aload_n 0, 1) := by decide +kernel
theorem d_Mod_keep_113 : decode b_Mod_keep 113 = .ok (.getfield 124, 3) := by decide +kernel
theorem d_Mod_keep_116 : decode b_Mod_keep 116 = .ok (.bipush 13, 2) := by decide +kernel
theorem d_Mod_keep_118 : decode b_Mod_keep 118 = .ok (.aload_n 0, 1) := by decide +kernel
theorem d_Mod_keep_119 : decode b_Mod_keep 119 = .ok (.getfield 216, 3) := by decide +kernel
theorem d_Mod_keep_122 : decode b_Mod_keep 122 = .ok (.lastore, 1) := by decide +kernel
theorem d_Mod_keep_123 : decode b_Mod_keep 123 = .ok (.aload_n 0, 1) := by decide +kernel
theorem d_Mod_keep_124 : decode b_Mod_keep 124 = .ok (.getfield 124, 3) := by decide +kernel
theorem d_Mod_keep_127 : decode b_Mod_keep 127 = .ok (.areturn, 1) := by decide +kernel
