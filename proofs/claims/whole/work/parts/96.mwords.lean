/-! the words that the constructors use, by their places (printed) -/
set_option maxRecDepth 20000 in
theorem wi_105 : Cond.initialized RX10 ∈ zW := zW_in (i := 105) rfl rfl
set_option maxRecDepth 20000 in
theorem wi_106 : Cond.initialized RX7 ∈ zW := zW_in (i := 106) rfl rfl
set_option maxRecDepth 20000 in
theorem wi_107 : Cond.initialized RX6 ∈ zW := zW_in (i := 107) rfl rfl
set_option maxRecDepth 20000 in
theorem wi_108 : Cond.initialized RX8 ∈ zW := zW_in (i := 108) rfl rfl
set_option maxRecDepth 20000 in
theorem wi_109 : Cond.initialized RX5 ∈ zW := zW_in (i := 109) rfl rfl
set_option maxRecDepth 20000 in
theorem wi_110 : Cond.initialized RX1 ∈ zW := zW_in (i := 110) rfl rfl
set_option maxRecDepth 20000 in
theorem wi_112 : Cond.initialized RX9 ∈ zW := zW_in (i := 112) rfl rfl
set_option maxRecDepth 20000 in
theorem wi_113 : Cond.initialized RX4 ∈ zW := zW_in (i := 113) rfl rfl
set_option maxRecDepth 20000 in
theorem wi_114 : Cond.initialized "java/lang/Math" ∈ zW := zW_in (i := 114) rfl rfl
set_option maxRecDepth 20000 in
theorem wi_115 : Cond.initialized RX3 ∈ zW := zW_in (i := 115) rfl rfl
set_option maxRecDepth 20000 in
theorem wi_116 : Cond.initialized RX0 ∈ zW := zW_in (i := 116) rfl rfl
set_option maxRecDepth 20000 in
theorem wi_117 : Cond.initialized RX2 ∈ zW := zW_in (i := 117) rfl rfl
set_option maxRecDepth 20000 in
theorem wi_122 : Cond.initialized RX11 ∈ zW := zW_in (i := 122) rfl rfl
set_option maxRecDepth 20000 in
theorem wi_124 : Cond.classLink "BaggageHandlingLaw" 7 RX10 ∈ zW := zW_in (i := 124) rfl rfl
set_option maxRecDepth 20000 in
theorem wi_125 : Cond.instantiable RX10 9 ∈ zW := zW_in (i := 125) rfl rfl
set_option maxRecDepth 20000 in
theorem wi_126 : Cond.methodLink "BaggageHandlingLaw" 9 yX10_init ∈ zW := zW_in (i := 126) rfl rfl
set_option maxRecDepth 20000 in
theorem wi_127 : Cond.instanceMethod yX10_init ∈ zW := zW_in (i := 127) rfl rfl
set_option maxRecDepth 20000 in
theorem wi_128 : Cond.code yX10_init cX10_init 1 none ∈ zW := zW_in (i := 128) rfl rfl
set_option maxRecDepth 20000 in
theorem wi_129 : Cond.methodLink RX10 1 Lib.objectInit ∈ zW := zW_in (i := 129) rfl rfl
set_option maxRecDepth 20000 in
theorem wi_130 : Cond.instanceMethod Lib.objectInit ∈ zW := zW_in (i := 130) rfl rfl
set_option maxRecDepth 20000 in
theorem wi_131 : Cond.code Lib.objectInit ⟨#[0xb1]⟩ 1 none ∈ zW := zW_in (i := 131) rfl rfl
set_option maxRecDepth 20000 in
theorem wi_132 : Cond.classLink RX10 7 RX7 ∈ zW := zW_in (i := 132) rfl rfl
set_option maxRecDepth 20000 in
theorem wi_133 : Cond.instantiable RX7 5 ∈ zW := zW_in (i := 133) rfl rfl
set_option maxRecDepth 20000 in
theorem wi_135 : Cond.instanceMethod yX7_init ∈ zW := zW_in (i := 135) rfl rfl
set_option maxRecDepth 20000 in
theorem wi_136 : Cond.code yX7_init cX7_init 1 none ∈ zW := zW_in (i := 136) rfl rfl
set_option maxRecDepth 20000 in
theorem wi_137 : Cond.methodLink RX7 3 Lib.objectInit ∈ zW := zW_in (i := 137) rfl rfl
set_option maxRecDepth 20000 in
theorem wi_159 : Cond.classLink RX10 16 RX6 ∈ zW := zW_in (i := 159) rfl rfl
set_option maxRecDepth 20000 in
theorem wi_160 : Cond.instantiable RX6 2 ∈ zW := zW_in (i := 160) rfl rfl
set_option maxRecDepth 20000 in
theorem wi_161 : Cond.methodLink RX10 18 yX6_init ∈ zW := zW_in (i := 161) rfl rfl
set_option maxRecDepth 20000 in
theorem wi_162 : Cond.instanceMethod yX6_init ∈ zW := zW_in (i := 162) rfl rfl
set_option maxRecDepth 20000 in
theorem wi_163 : Cond.code yX6_init cX6_init 2 none ∈ zW := zW_in (i := 163) rfl rfl
set_option maxRecDepth 20000 in
theorem wi_164 : Cond.methodLink RX6 3 Lib.objectInit ∈ zW := zW_in (i := 164) rfl rfl
set_option maxRecDepth 20000 in
theorem wi_172 : Cond.classLink RX10 25 RX8 ∈ zW := zW_in (i := 172) rfl rfl
set_option maxRecDepth 20000 in
theorem wi_173 : Cond.instantiable RX8 2 ∈ zW := zW_in (i := 173) rfl rfl
set_option maxRecDepth 20000 in
theorem wi_175 : Cond.instanceMethod yX8_init ∈ zW := zW_in (i := 175) rfl rfl
set_option maxRecDepth 20000 in
theorem wi_176 : Cond.code yX8_init cX8_init 1 none ∈ zW := zW_in (i := 176) rfl rfl
set_option maxRecDepth 20000 in
theorem wi_177 : Cond.methodLink RX8 3 Lib.objectInit ∈ zW := zW_in (i := 177) rfl rfl
set_option maxRecDepth 20000 in
theorem wi_188 : Cond.classLink RX10 32 RX5 ∈ zW := zW_in (i := 188) rfl rfl
set_option maxRecDepth 20000 in
theorem wi_189 : Cond.instantiable RX5 16 ∈ zW := zW_in (i := 189) rfl rfl
set_option maxRecDepth 20000 in
theorem wi_190 : Cond.methodLink RX10 34 yX5_init ∈ zW := zW_in (i := 190) rfl rfl
set_option maxRecDepth 20000 in
theorem wi_191 : Cond.instanceMethod yX5_init ∈ zW := zW_in (i := 191) rfl rfl
set_option maxRecDepth 20000 in
theorem wi_192 : Cond.code yX5_init cX5_init 1 none ∈ zW := zW_in (i := 192) rfl rfl
set_option maxRecDepth 20000 in
theorem wi_193 : Cond.methodLink RX5 3 Lib.objectInit ∈ zW := zW_in (i := 193) rfl rfl
set_option maxRecDepth 20000 in
theorem wi_194 : Cond.classLink RX5 9 RX1 ∈ zW := zW_in (i := 194) rfl rfl
set_option maxRecDepth 20000 in
theorem wi_195 : Cond.instantiable RX1 5 ∈ zW := zW_in (i := 195) rfl rfl
set_option maxRecDepth 20000 in
theorem wi_197 : Cond.instanceMethod yX1_init ∈ zW := zW_in (i := 197) rfl rfl
set_option maxRecDepth 20000 in
theorem wi_198 : Cond.code yX1_init cX1_init 1 none ∈ zW := zW_in (i := 198) rfl rfl
set_option maxRecDepth 20000 in
theorem wi_199 : Cond.methodLink RX1 3 Lib.objectInit ∈ zW := zW_in (i := 199) rfl rfl
set_option maxRecDepth 20000 in
theorem wi_231 : Cond.classLink RX5 34 "[[I" ∈ zW := zW_in (i := 231) rfl rfl
set_option maxRecDepth 20000 in
theorem wi_317 : Cond.classLink RX10 42 RX9 ∈ zW := zW_in (i := 317) rfl rfl
set_option maxRecDepth 20000 in
theorem wi_318 : Cond.instantiable RX9 13 ∈ zW := zW_in (i := 318) rfl rfl
set_option maxRecDepth 20000 in
theorem wi_319 : Cond.methodLink RX10 44 yX9_init ∈ zW := zW_in (i := 319) rfl rfl
set_option maxRecDepth 20000 in
theorem wi_320 : Cond.instanceMethod yX9_init ∈ zW := zW_in (i := 320) rfl rfl
set_option maxRecDepth 20000 in
theorem wi_321 : Cond.code yX9_init cX9_init 2 none ∈ zW := zW_in (i := 321) rfl rfl
set_option maxRecDepth 20000 in
theorem wi_322 : Cond.methodLink RX9 3 Lib.objectInit ∈ zW := zW_in (i := 322) rfl rfl
set_option maxRecDepth 20000 in
theorem wi_323 : Cond.classLink RX9 18 RX4 ∈ zW := zW_in (i := 323) rfl rfl
set_option maxRecDepth 20000 in
theorem wi_324 : Cond.instantiable RX4 3 ∈ zW := zW_in (i := 324) rfl rfl
set_option maxRecDepth 20000 in
theorem wi_325 : Cond.methodLink RX9 20 yX4_init ∈ zW := zW_in (i := 325) rfl rfl
set_option maxRecDepth 20000 in
theorem wi_326 : Cond.instanceMethod yX4_init ∈ zW := zW_in (i := 326) rfl rfl
set_option maxRecDepth 20000 in
theorem wi_327 : Cond.code yX4_init cX4_init 3 none ∈ zW := zW_in (i := 327) rfl rfl
set_option maxRecDepth 20000 in
theorem wi_328 : Cond.methodLink RX4 3 Lib.objectInit ∈ zW := zW_in (i := 328) rfl rfl
set_option maxRecDepth 20000 in
theorem wi_329 : Cond.methodLink RX4 9 Lib.Math.max.name ∈ zW := zW_in (i := 329) rfl rfl
set_option maxRecDepth 20000 in
theorem wi_330 : Cond.static Lib.Math.max.name ∈ zW := zW_in (i := 330) rfl rfl
set_option maxRecDepth 20000 in
theorem wi_331 : Cond.code Lib.Math.max.name Lib.Math.max.code 2 (some .int) ∈ zW := zW_in (i := 331) rfl rfl
set_option maxRecDepth 20000 in
theorem wi_349 : Cond.classLink RX9 30 RX3 ∈ zW := zW_in (i := 349) rfl rfl
set_option maxRecDepth 20000 in
theorem wi_350 : Cond.instantiable RX3 4 ∈ zW := zW_in (i := 350) rfl rfl
set_option maxRecDepth 20000 in
theorem wi_352 : Cond.instanceMethod yX3_init ∈ zW := zW_in (i := 352) rfl rfl
set_option maxRecDepth 20000 in
theorem wi_353 : Cond.code yX3_init cX3_init 1 none ∈ zW := zW_in (i := 353) rfl rfl
set_option maxRecDepth 20000 in
theorem wi_354 : Cond.methodLink RX3 3 Lib.objectInit ∈ zW := zW_in (i := 354) rfl rfl
set_option maxRecDepth 20000 in
theorem wi_372 : Cond.classLink RX9 37 RX0 ∈ zW := zW_in (i := 372) rfl rfl
set_option maxRecDepth 20000 in
theorem wi_373 : Cond.instantiable RX0 10 ∈ zW := zW_in (i := 373) rfl rfl
set_option maxRecDepth 20000 in
theorem wi_375 : Cond.instanceMethod yX0_init ∈ zW := zW_in (i := 375) rfl rfl
set_option maxRecDepth 20000 in
theorem wi_376 : Cond.code yX0_init cX0_init 1 none ∈ zW := zW_in (i := 376) rfl rfl
set_option maxRecDepth 20000 in
theorem wi_377 : Cond.methodLink RX0 3 Lib.objectInit ∈ zW := zW_in (i := 377) rfl rfl
set_option maxRecDepth 20000 in
theorem wi_485 : Cond.classLink RX10 54 RX2 ∈ zW := zW_in (i := 485) rfl rfl
set_option maxRecDepth 20000 in
theorem wi_486 : Cond.instantiable RX2 3 ∈ zW := zW_in (i := 486) rfl rfl
set_option maxRecDepth 20000 in
theorem wi_487 : Cond.methodLink RX10 56 yX2_init ∈ zW := zW_in (i := 487) rfl rfl
set_option maxRecDepth 20000 in
theorem wi_488 : Cond.instanceMethod yX2_init ∈ zW := zW_in (i := 488) rfl rfl
set_option maxRecDepth 20000 in
theorem wi_489 : Cond.code yX2_init cX2_init 3 none ∈ zW := zW_in (i := 489) rfl rfl
set_option maxRecDepth 20000 in
theorem wi_490 : Cond.methodLink RX2 3 Lib.objectInit ∈ zW := zW_in (i := 490) rfl rfl
set_option maxRecDepth 20000 in
theorem wi_491 : Cond.classLink RX2 9 RX9 ∈ zW := zW_in (i := 491) rfl rfl
set_option maxRecDepth 20000 in
theorem wi_493 : Cond.methodLink RX2 17 yX9_init ∈ zW := zW_in (i := 493) rfl rfl
set_option maxRecDepth 20000 in
theorem wi_1218 : Cond.classLink "BaggageHandlingLaw" 10 RX11 ∈ zW := zW_in (i := 1218) rfl rfl
set_option maxRecDepth 20000 in
theorem wi_1219 : Cond.instantiable RX11 22 ∈ zW := zW_in (i := 1219) rfl rfl
set_option maxRecDepth 20000 in
theorem wi_1220 : Cond.methodLink "BaggageHandlingLaw" 12 yX11_init ∈ zW := zW_in (i := 1220) rfl rfl
set_option maxRecDepth 20000 in
theorem wi_1221 : Cond.instanceMethod yX11_init ∈ zW := zW_in (i := 1221) rfl rfl
set_option maxRecDepth 20000 in
theorem wi_1222 : Cond.code yX11_init cX11_init 2 none ∈ zW := zW_in (i := 1222) rfl rfl
set_option maxRecDepth 20000 in
theorem wi_1223 : Cond.methodLink RX11 1 Lib.objectInit ∈ zW := zW_in (i := 1223) rfl rfl
set_option maxRecDepth 20000 in
theorem wi_138 : Cond.fieldLink RX7 9 RX7 "bytes" "[B" ∈ zW := zW_in (i := 138) rfl rfl
set_option maxRecDepth 20000 in
theorem wi_165 : Cond.fieldLink RX6 9 RX6 "tape" "LBaggageHandling$Tape;" ∈ zW := zW_in (i := 165) rfl rfl
set_option maxRecDepth 20000 in
theorem wi_178 : Cond.fieldLink RX8 9 RX8 "bytes" "[B" ∈ zW := zW_in (i := 178) rfl rfl
set_option maxRecDepth 20000 in
theorem wi_204 : Cond.fieldLink RX1 9 RX1 "numbers" "[I" ∈ zW := zW_in (i := 204) rfl rfl
set_option maxRecDepth 20000 in
theorem wi_207 : Cond.fieldLink RX1 15 RX1 "chutes" "[I" ∈ zW := zW_in (i := 207) rfl rfl
set_option maxRecDepth 20000 in
theorem wi_211 : Cond.fieldLink RX1 18 RX1 "openings" "[I" ∈ zW := zW_in (i := 211) rfl rfl
set_option maxRecDepth 20000 in
theorem wi_215 : Cond.fieldLink RX1 21 RX1 "closings" "[I" ∈ zW := zW_in (i := 215) rfl rfl
set_option maxRecDepth 20000 in
theorem wi_250 : Cond.fieldLink RX5 12 RX5 "flights" "LBaggageHandling$Flights;" ∈ zW := zW_in (i := 250) rfl rfl
set_option maxRecDepth 20000 in
theorem wi_254 : Cond.fieldLink RX5 18 RX5 "sorts" "[I" ∈ zW := zW_in (i := 254) rfl rfl
set_option maxRecDepth 20000 in
theorem wi_258 : Cond.fieldLink RX5 22 RX5 "numbers" "[I" ∈ zW := zW_in (i := 258) rfl rfl
set_option maxRecDepth 20000 in
theorem wi_260 : Cond.fieldLink RX5 25 RX5 "rooms" "[I" ∈ zW := zW_in (i := 260) rfl rfl
set_option maxRecDepth 20000 in
theorem wi_263 : Cond.fieldLink RX5 28 RX5 "switchings" "[I" ∈ zW := zW_in (i := 263) rfl rfl
set_option maxRecDepth 20000 in
theorem wi_266 : Cond.fieldLink RX5 31 RX5 "exits" "[I" ∈ zW := zW_in (i := 266) rfl rfl
set_option maxRecDepth 20000 in
theorem wi_269 : Cond.fieldLink RX5 36 RX5 "times" "[[I" ∈ zW := zW_in (i := 269) rfl rfl
set_option maxRecDepth 20000 in
theorem wi_272 : Cond.fieldLink RX5 39 RX5 "counts" "[I" ∈ zW := zW_in (i := 272) rfl rfl
set_option maxRecDepth 20000 in
theorem wi_276 : Cond.fieldLink RX5 42 RX5 "places" "[[I" ∈ zW := zW_in (i := 276) rfl rfl
set_option maxRecDepth 20000 in
theorem wi_278 : Cond.fieldLink RX5 45 RX5 "order" "[I" ∈ zW := zW_in (i := 278) rfl rfl
set_option maxRecDepth 20000 in
theorem wi_280 : Cond.fieldLink RX5 48 RX5 "busy" "[I" ∈ zW := zW_in (i := 280) rfl rfl
set_option maxRecDepth 20000 in
theorem wi_333 : Cond.fieldLink RX4 15 RX4 "labels" "[I" ∈ zW := zW_in (i := 333) rfl rfl
set_option maxRecDepth 20000 in
theorem wi_336 : Cond.fieldLink RX4 21 RX4 "passes" "[I" ∈ zW := zW_in (i := 336) rfl rfl
set_option maxRecDepth 20000 in
theorem wi_339 : Cond.fieldLink RX4 24 RX4 "cleared" "[I" ∈ zW := zW_in (i := 339) rfl rfl
set_option maxRecDepth 20000 in
theorem wi_355 : Cond.fieldLink RX3 9 RX3 "firsts" "[I" ∈ zW := zW_in (i := 355) rfl rfl
set_option maxRecDepth 20000 in
theorem wi_357 : Cond.fieldLink RX3 15 RX3 "lasts" "[I" ∈ zW := zW_in (i := 357) rfl rfl
set_option maxRecDepth 20000 in
theorem wi_358 : Cond.fieldLink RX3 18 RX3 "sizes" "[I" ∈ zW := zW_in (i := 358) rfl rfl
set_option maxRecDepth 20000 in
theorem wi_361 : Cond.fieldLink RX3 21 RX3 "nexts" "[I" ∈ zW := zW_in (i := 361) rfl rfl
set_option maxRecDepth 20000 in
theorem wi_381 : Cond.fieldLink RX0 9 RX0 "firstLabels" "[I" ∈ zW := zW_in (i := 381) rfl rfl
set_option maxRecDepth 20000 in
theorem wi_383 : Cond.fieldLink RX0 15 RX0 "firstHeads" "[I" ∈ zW := zW_in (i := 383) rfl rfl
set_option maxRecDepth 20000 in
theorem wi_385 : Cond.fieldLink RX0 18 RX0 "secondLabels" "[I" ∈ zW := zW_in (i := 385) rfl rfl
set_option maxRecDepth 20000 in
theorem wi_387 : Cond.fieldLink RX0 21 RX0 "secondHeads" "[I" ∈ zW := zW_in (i := 387) rfl rfl
set_option maxRecDepth 20000 in
theorem wi_389 : Cond.fieldLink RX0 24 RX0 "threats" "[I" ∈ zW := zW_in (i := 389) rfl rfl
set_option maxRecDepth 20000 in
theorem wi_391 : Cond.fieldLink RX0 27 RX0 "states" "[I" ∈ zW := zW_in (i := 391) rfl rfl
set_option maxRecDepth 20000 in
theorem wi_393 : Cond.fieldLink RX0 30 RX0 "places" "[I" ∈ zW := zW_in (i := 393) rfl rfl
set_option maxRecDepth 20000 in
theorem wi_395 : Cond.fieldLink RX0 33 RX0 "deliveryTicks" "[I" ∈ zW := zW_in (i := 395) rfl rfl
set_option maxRecDepth 20000 in
theorem wi_398 : Cond.fieldLink RX0 36 RX0 "deliveryFlights" "[I" ∈ zW := zW_in (i := 398) rfl rfl
set_option maxRecDepth 20000 in
theorem wi_442 : Cond.fieldLink RX9 9 RX9 "counts" "[I" ∈ zW := zW_in (i := 442) rfl rfl
set_option maxRecDepth 20000 in
theorem wi_444 : Cond.fieldLink RX9 15 RX9 "riders" "[I" ∈ zW := zW_in (i := 444) rfl rfl
set_option maxRecDepth 20000 in
theorem wi_446 : Cond.fieldLink RX9 23 RX9 "belt" "LBaggageHandling$Records;" ∈ zW := zW_in (i := 446) rfl rfl
set_option maxRecDepth 20000 in
theorem wi_448 : Cond.fieldLink RX9 27 RX9 "held" "LBaggageHandling$Records;" ∈ zW := zW_in (i := 448) rfl rfl
set_option maxRecDepth 20000 in
theorem wi_449 : Cond.fieldLink RX9 33 RX9 "queues" "LBaggageHandling$Queues;" ∈ zW := zW_in (i := 449) rfl rfl
set_option maxRecDepth 20000 in
theorem wi_451 : Cond.fieldLink RX9 40 RX9 "bags" "LBaggageHandling$Bags;" ∈ zW := zW_in (i := 451) rfl rfl
set_option maxRecDepth 20000 in
theorem wi_453 : Cond.fieldLink RX9 44 RX9 "readyTicks" "[I" ∈ zW := zW_in (i := 453) rfl rfl
set_option maxRecDepth 20000 in
theorem wi_455 : Cond.fieldLink RX9 47 RX9 "workCounters" "[I" ∈ zW := zW_in (i := 455) rfl rfl
set_option maxRecDepth 20000 in
theorem wi_456 : Cond.fieldLink RX9 50 RX9 "levels" "[I" ∈ zW := zW_in (i := 456) rfl rfl
set_option maxRecDepth 20000 in
theorem wi_494 : Cond.fieldLink RX2 11 RX2 "saved" "[LBaggageHandling$World;" ∈ zW := zW_in (i := 494) rfl rfl
set_option maxRecDepth 20000 in
theorem wi_622 : Cond.fieldLink RX10 10 RX10 "tape" "LBaggageHandling$Tape;" ∈ zW := zW_in (i := 622) rfl rfl
set_option maxRecDepth 20000 in
theorem wi_623 : Cond.fieldLink RX10 21 RX10 "reader" "LBaggageHandling$SetupReader;" ∈ zW := zW_in (i := 623) rfl rfl
set_option maxRecDepth 20000 in
theorem wi_624 : Cond.fieldLink RX10 28 RX10 "text" "LBaggageHandling$Text;" ∈ zW := zW_in (i := 624) rfl rfl
set_option maxRecDepth 20000 in
theorem wi_625 : Cond.fieldLink RX10 47 RX10 "world" "LBaggageHandling$World;" ∈ zW := zW_in (i := 625) rfl rfl
set_option maxRecDepth 20000 in
theorem wi_626 : Cond.fieldLink RX10 51 RX10 "ahead" "LBaggageHandling$World;" ∈ zW := zW_in (i := 626) rfl rfl
set_option maxRecDepth 20000 in
theorem wi_627 : Cond.fieldLink RX10 57 RX10 "history" "LBaggageHandling$History;" ∈ zW := zW_in (i := 627) rfl rfl
set_option maxRecDepth 20000 in
theorem wi_628 : Cond.fieldLink RX10 35 RX10 "setup" "LBaggageHandling$Setup;" ∈ zW := zW_in (i := 628) rfl rfl
set_option maxRecDepth 20000 in
theorem wi_629 : Cond.fieldLink RX10 39 RX10 "spare" "LBaggageHandling$Setup;" ∈ zW := zW_in (i := 629) rfl rfl
set_option maxRecDepth 20000 in
theorem wi_630 : Cond.fieldLink RX10 61 RX10 "errorAt" "I" ∈ zW := zW_in (i := 630) rfl rfl
set_option maxRecDepth 20000 in
theorem wi_1228 : Cond.fieldLink RX11 7 RX11 "tape" "[B" ∈ zW := zW_in (i := 1228) rfl rfl
set_option maxRecDepth 20000 in
theorem wi_1230 : Cond.fieldLink RX11 13 RX11 "errorAt" "I" ∈ zW := zW_in (i := 1230) rfl rfl
set_option maxRecDepth 20000 in
theorem wi_1231 : Cond.fieldLink RX11 17 RX11 "setup" "[I" ∈ zW := zW_in (i := 1231) rfl rfl
set_option maxRecDepth 20000 in
theorem wi_1232 : Cond.fieldLink RX11 21 RX11 "draft" "[I" ∈ zW := zW_in (i := 1232) rfl rfl
set_option maxRecDepth 20000 in
theorem wi_1239 : Cond.fieldLink RX11 24 RX11 "world" "[I" ∈ zW := zW_in (i := 1239) rfl rfl
set_option maxRecDepth 20000 in
theorem wi_1240 : Cond.fieldLink RX11 27 RX11 "kept" "[I" ∈ zW := zW_in (i := 1240) rfl rfl
set_option maxRecDepth 20000 in
theorem wi_1241 : Cond.fieldLink RX11 30 RX11 "undone" "[I" ∈ zW := zW_in (i := 1241) rfl rfl
set_option maxRecDepth 20000 in
theorem wi_1243 : Cond.fieldLink RX11 33 RX11 "first" "[I" ∈ zW := zW_in (i := 1243) rfl rfl
set_option maxRecDepth 20000 in
theorem wi_1244 : Cond.fieldLink RX11 36 RX11 "firstHeads" "[I" ∈ zW := zW_in (i := 1244) rfl rfl
set_option maxRecDepth 20000 in
theorem wi_1245 : Cond.fieldLink RX11 39 RX11 "second" "[I" ∈ zW := zW_in (i := 1245) rfl rfl
set_option maxRecDepth 20000 in
theorem wi_1246 : Cond.fieldLink RX11 42 RX11 "secondHeads" "[I" ∈ zW := zW_in (i := 1246) rfl rfl
set_option maxRecDepth 20000 in
theorem wi_1247 : Cond.fieldLink RX11 45 RX11 "threat" "[I" ∈ zW := zW_in (i := 1247) rfl rfl
set_option maxRecDepth 20000 in
theorem wi_1248 : Cond.fieldLink RX11 48 RX11 "out" "[I" ∈ zW := zW_in (i := 1248) rfl rfl
