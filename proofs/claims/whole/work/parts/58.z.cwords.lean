/-! words for constructors and law, by their places -/
theorem cq_76 : Cond.initialized RX7 ∈ sp_tbl := sp_in (List.mem_of_getElem? (i := 76) (by decide +kernel)) rfl
theorem cq_77 : Cond.initialized RX2 ∈ sp_tbl := sp_in (List.mem_of_getElem? (i := 77) (by decide +kernel)) rfl
theorem cq_78 : Cond.initialized RX1 ∈ sp_tbl := sp_in (List.mem_of_getElem? (i := 78) (by decide +kernel)) rfl
theorem cq_79 : Cond.initialized RX6 ∈ sp_tbl := sp_in (List.mem_of_getElem? (i := 79) (by decide +kernel)) rfl
theorem cq_80 : Cond.initialized RX0 ∈ sp_tbl := sp_in (List.mem_of_getElem? (i := 80) (by decide +kernel)) rfl
theorem cq_81 : Cond.initialized RX4 ∈ sp_tbl := sp_in (List.mem_of_getElem? (i := 81) (by decide +kernel)) rfl
theorem cq_82 : Cond.initialized RX5 ∈ sp_tbl := sp_in (List.mem_of_getElem? (i := 82) (by decide +kernel)) rfl
theorem cq_83 : Cond.initialized RX3 ∈ sp_tbl := sp_in (List.mem_of_getElem? (i := 83) (by decide +kernel)) rfl
theorem cq_84 : Cond.initialized RX8 ∈ sp_tbl := sp_in (List.mem_of_getElem? (i := 84) (by decide +kernel)) rfl
theorem cq_87 : Cond.classLink RL 7 RX7 ∈ sp_tbl := sp_in (List.mem_of_getElem? (i := 87) (by decide +kernel)) rfl
theorem cq_88 : Cond.instantiable RX7 13 ∈ sp_tbl := sp_in (List.mem_of_getElem? (i := 88) (by decide +kernel)) rfl
theorem cq_89 : Cond.methodLink RL 9 yX7_init ∈ sp_tbl := sp_in (List.mem_of_getElem? (i := 89) (by decide +kernel)) rfl
theorem cq_90 : Cond.instanceMethod yX7_init ∈ sp_tbl := sp_in (List.mem_of_getElem? (i := 90) (by decide +kernel)) rfl
theorem cq_91 : Cond.code yX7_init cX7_init 1 none ∈ sp_tbl := sp_in (List.mem_of_getElem? (i := 91) (by decide +kernel)) rfl
theorem cq_92 : Cond.methodLink RX7 3 Lib.objectInit ∈ sp_tbl := sp_in (List.mem_of_getElem? (i := 92) (by decide +kernel)) rfl
theorem cq_93 : Cond.instanceMethod Lib.objectInit ∈ sp_tbl := sp_in (List.mem_of_getElem? (i := 93) (by decide +kernel)) rfl
theorem cq_94 : Cond.code Lib.objectInit ⟨#[0xb1]⟩ 1 none ∈ sp_tbl := sp_in (List.mem_of_getElem? (i := 94) (by decide +kernel)) rfl
theorem cq_95 : Cond.classLink RX7 9 RX2 ∈ sp_tbl := sp_in (List.mem_of_getElem? (i := 95) (by decide +kernel)) rfl
theorem cq_96 : Cond.instantiable RX2 3 ∈ sp_tbl := sp_in (List.mem_of_getElem? (i := 96) (by decide +kernel)) rfl
theorem cq_97 : Cond.methodLink RX7 11 yX2_init ∈ sp_tbl := sp_in (List.mem_of_getElem? (i := 97) (by decide +kernel)) rfl
theorem cq_98 : Cond.instanceMethod yX2_init ∈ sp_tbl := sp_in (List.mem_of_getElem? (i := 98) (by decide +kernel)) rfl
theorem cq_99 : Cond.code yX2_init cX2_init 1 none ∈ sp_tbl := sp_in (List.mem_of_getElem? (i := 99) (by decide +kernel)) rfl
theorem cq_100 : Cond.methodLink RX2 3 Lib.objectInit ∈ sp_tbl := sp_in (List.mem_of_getElem? (i := 100) (by decide +kernel)) rfl
theorem cq_101 : Cond.classLink RX2 9 "[[I" ∈ sp_tbl := sp_in (List.mem_of_getElem? (i := 101) (by decide +kernel)) rfl
theorem cq_103 : Cond.methodLink RX2 20 yX2_restart ∈ sp_tbl := sp_in (List.mem_of_getElem? (i := 103) (by decide +kernel)) rfl
theorem cq_104 : Cond.instanceMethod yX2_restart ∈ sp_tbl := sp_in (List.mem_of_getElem? (i := 104) (by decide +kernel)) rfl
theorem cq_105 : Cond.selects RX2 yX2_restart yX2_restart ∈ sp_tbl := sp_in (List.mem_of_getElem? (i := 105) (by decide +kernel)) rfl
theorem cq_106 : Cond.code yX2_restart cX2_restart 3 none ∈ sp_tbl := sp_in (List.mem_of_getElem? (i := 106) (by decide +kernel)) rfl
theorem cq_117 : Cond.fieldLink RX2 11 RX2 (TX2 1).2.1 (TX2 1).2.2.1 ∈ sp_tbl := sp_in (List.mem_of_getElem? (i := 117) (by decide +kernel)) rfl
theorem cq_122 : Cond.fieldLink RX2 16 RX2 (TX2 2).2.1 (TX2 2).2.2.1 ∈ sp_tbl := sp_in (List.mem_of_getElem? (i := 122) (by decide +kernel)) rfl
theorem cq_135 : Cond.arrayClass .int ∈ sp_tbl := sp_in (List.mem_of_getElem? (i := 135) (by decide +kernel)) rfl
theorem cq_136 : Cond.classLink RX7 16 RX1 ∈ sp_tbl := sp_in (List.mem_of_getElem? (i := 136) (by decide +kernel)) rfl
theorem cq_137 : Cond.instantiable RX1 3 ∈ sp_tbl := sp_in (List.mem_of_getElem? (i := 137) (by decide +kernel)) rfl
theorem cq_138 : Cond.methodLink RX7 18 yX1_init ∈ sp_tbl := sp_in (List.mem_of_getElem? (i := 138) (by decide +kernel)) rfl
theorem cq_139 : Cond.instanceMethod yX1_init ∈ sp_tbl := sp_in (List.mem_of_getElem? (i := 139) (by decide +kernel)) rfl
theorem cq_140 : Cond.code yX1_init cX1_init 2 none ∈ sp_tbl := sp_in (List.mem_of_getElem? (i := 140) (by decide +kernel)) rfl
theorem cq_141 : Cond.methodLink RX1 3 Lib.objectInit ∈ sp_tbl := sp_in (List.mem_of_getElem? (i := 141) (by decide +kernel)) rfl
theorem cq_142 : Cond.classLink RX1 9 RX2 ∈ sp_tbl := sp_in (List.mem_of_getElem? (i := 142) (by decide +kernel)) rfl
theorem cq_144 : Cond.methodLink RX1 17 yX2_init ∈ sp_tbl := sp_in (List.mem_of_getElem? (i := 144) (by decide +kernel)) rfl
theorem cq_145 : Cond.fieldLink RX1 11 RX1 (TX1 0).2.1 (TX1 0).2.2.1 ∈ sp_tbl := sp_in (List.mem_of_getElem? (i := 145) (by decide +kernel)) rfl
theorem cq_156 : Cond.classLink RX7 23 RX6 ∈ sp_tbl := sp_in (List.mem_of_getElem? (i := 156) (by decide +kernel)) rfl
theorem cq_157 : Cond.instantiable RX6 5 ∈ sp_tbl := sp_in (List.mem_of_getElem? (i := 157) (by decide +kernel)) rfl
theorem cq_158 : Cond.methodLinkNest RX7 25 yX6_init RX7 ∈ sp_nest := sp_inN (List.mem_of_getElem? (i := 158) (by decide +kernel)) rfl
theorem cq_159 : Cond.instanceMethod yX6_init ∈ sp_tbl := sp_in (List.mem_of_getElem? (i := 159) (by decide +kernel)) rfl
theorem cq_160 : Cond.code yX6_init cX6_init 1 none ∈ sp_tbl := sp_in (List.mem_of_getElem? (i := 160) (by decide +kernel)) rfl
theorem cq_161 : Cond.methodLink RX6 3 Lib.objectInit ∈ sp_tbl := sp_in (List.mem_of_getElem? (i := 161) (by decide +kernel)) rfl
theorem cq_162 : Cond.classLink RX6 15 RX2 ∈ sp_tbl := sp_in (List.mem_of_getElem? (i := 162) (by decide +kernel)) rfl
theorem cq_163 : Cond.methodLink RX6 17 yX2_init ∈ sp_tbl := sp_in (List.mem_of_getElem? (i := 163) (by decide +kernel)) rfl
theorem cq_164 : Cond.fieldLink RX6 9 RX6 (TX6 0).2.1 (TX6 0).2.2.1 ∈ sp_tbl := sp_in (List.mem_of_getElem? (i := 164) (by decide +kernel)) rfl
theorem cq_165 : Cond.fieldLink RX6 18 RX6 (TX6 1).2.1 (TX6 1).2.2.1 ∈ sp_tbl := sp_in (List.mem_of_getElem? (i := 165) (by decide +kernel)) rfl
theorem cq_183 : Cond.classLink RX7 30 RX0 ∈ sp_tbl := sp_in (List.mem_of_getElem? (i := 183) (by decide +kernel)) rfl
theorem cq_184 : Cond.instantiable RX0 4 ∈ sp_tbl := sp_in (List.mem_of_getElem? (i := 184) (by decide +kernel)) rfl
theorem cq_185 : Cond.methodLinkNest RX7 32 yX0_init RX7 ∈ sp_nest := sp_inN (List.mem_of_getElem? (i := 185) (by decide +kernel)) rfl
theorem cq_186 : Cond.instanceMethod yX0_init ∈ sp_tbl := sp_in (List.mem_of_getElem? (i := 186) (by decide +kernel)) rfl
theorem cq_187 : Cond.code yX0_init cX0_init 1 none ∈ sp_tbl := sp_in (List.mem_of_getElem? (i := 187) (by decide +kernel)) rfl
theorem cq_188 : Cond.methodLink RX0 3 Lib.objectInit ∈ sp_tbl := sp_in (List.mem_of_getElem? (i := 188) (by decide +kernel)) rfl
theorem cq_189 : Cond.fieldLink RX0 11 RX0 (TX0 0).2.1 (TX0 0).2.2.1 ∈ sp_tbl := sp_in (List.mem_of_getElem? (i := 189) (by decide +kernel)) rfl
theorem cq_191 : Cond.fieldLink RX0 15 RX0 (TX0 1).2.1 (TX0 1).2.2.1 ∈ sp_tbl := sp_in (List.mem_of_getElem? (i := 191) (by decide +kernel)) rfl
theorem cq_206 : Cond.classLink RX7 37 RX4 ∈ sp_tbl := sp_in (List.mem_of_getElem? (i := 206) (by decide +kernel)) rfl
theorem cq_207 : Cond.instantiable RX4 17 ∈ sp_tbl := sp_in (List.mem_of_getElem? (i := 207) (by decide +kernel)) rfl
theorem cq_208 : Cond.methodLink RX7 39 yX4_init ∈ sp_tbl := sp_in (List.mem_of_getElem? (i := 208) (by decide +kernel)) rfl
theorem cq_209 : Cond.instanceMethod yX4_init ∈ sp_tbl := sp_in (List.mem_of_getElem? (i := 209) (by decide +kernel)) rfl
theorem cq_210 : Cond.code yX4_init cX4_init 2 none ∈ sp_tbl := sp_in (List.mem_of_getElem? (i := 210) (by decide +kernel)) rfl
theorem cq_211 : Cond.methodLink RX4 3 Lib.objectInit ∈ sp_tbl := sp_in (List.mem_of_getElem? (i := 211) (by decide +kernel)) rfl
theorem cq_212 : Cond.classLink RX4 36 RX5 ∈ sp_tbl := sp_in (List.mem_of_getElem? (i := 212) (by decide +kernel)) rfl
theorem cq_213 : Cond.instantiable RX5 3 ∈ sp_tbl := sp_in (List.mem_of_getElem? (i := 213) (by decide +kernel)) rfl
theorem cq_214 : Cond.methodLinkNest RX4 38 yX5_init RX7 ∈ sp_nest := sp_inN (List.mem_of_getElem? (i := 214) (by decide +kernel)) rfl
theorem cq_215 : Cond.instanceMethod yX5_init ∈ sp_tbl := sp_in (List.mem_of_getElem? (i := 215) (by decide +kernel)) rfl
theorem cq_216 : Cond.code yX5_init cX5_init 1 none ∈ sp_tbl := sp_in (List.mem_of_getElem? (i := 216) (by decide +kernel)) rfl
theorem cq_217 : Cond.methodLink RX5 3 Lib.objectInit ∈ sp_tbl := sp_in (List.mem_of_getElem? (i := 217) (by decide +kernel)) rfl
theorem cq_231 : Cond.fieldLink RX4 49 RX4 (TX4 0).2.1 (TX4 0).2.2.1 ∈ sp_tbl := sp_in (List.mem_of_getElem? (i := 231) (by decide +kernel)) rfl
theorem cq_232 : Cond.fieldLink RX4 9 RX4 (TX4 1).2.1 (TX4 1).2.2.1 ∈ sp_tbl := sp_in (List.mem_of_getElem? (i := 232) (by decide +kernel)) rfl
theorem cq_233 : Cond.fieldLink RX4 15 RX4 (TX4 2).2.1 (TX4 2).2.2.1 ∈ sp_tbl := sp_in (List.mem_of_getElem? (i := 233) (by decide +kernel)) rfl
theorem cq_234 : Cond.fieldLink RX4 18 RX4 (TX4 3).2.1 (TX4 3).2.2.1 ∈ sp_tbl := sp_in (List.mem_of_getElem? (i := 234) (by decide +kernel)) rfl
theorem cq_236 : Cond.fieldLink RX4 21 RX4 (TX4 4).2.1 (TX4 4).2.2.1 ∈ sp_tbl := sp_in (List.mem_of_getElem? (i := 236) (by decide +kernel)) rfl
theorem cq_237 : Cond.fieldLink RX4 24 RX4 (TX4 5).2.1 (TX4 5).2.2.1 ∈ sp_tbl := sp_in (List.mem_of_getElem? (i := 237) (by decide +kernel)) rfl
theorem cq_238 : Cond.fieldLink RX4 27 RX4 (TX4 6).2.1 (TX4 6).2.2.1 ∈ sp_tbl := sp_in (List.mem_of_getElem? (i := 238) (by decide +kernel)) rfl
theorem cq_239 : Cond.fieldLink RX4 30 RX4 (TX4 7).2.1 (TX4 7).2.2.1 ∈ sp_tbl := sp_in (List.mem_of_getElem? (i := 239) (by decide +kernel)) rfl
theorem cq_240 : Cond.fieldLink RX4 33 RX4 (TX4 8).2.1 (TX4 8).2.2.1 ∈ sp_tbl := sp_in (List.mem_of_getElem? (i := 240) (by decide +kernel)) rfl
theorem cq_241 : Cond.fieldLink RX4 39 RX4 (TX4 9).2.1 (TX4 9).2.2.1 ∈ sp_tbl := sp_in (List.mem_of_getElem? (i := 241) (by decide +kernel)) rfl
theorem cq_253 : Cond.fieldLink RX4 43 RX4 (TX4 15).2.1 (TX4 15).2.2.1 ∈ sp_tbl := sp_in (List.mem_of_getElem? (i := 253) (by decide +kernel)) rfl
theorem cq_255 : Cond.fieldLink RX4 46 RX4 (TX4 16).2.1 (TX4 16).2.2.1 ∈ sp_tbl := sp_in (List.mem_of_getElem? (i := 255) (by decide +kernel)) rfl
theorem cq_292 : Cond.classLink RX7 46 RX3 ∈ sp_tbl := sp_in (List.mem_of_getElem? (i := 292) (by decide +kernel)) rfl
theorem cq_293 : Cond.instantiable RX3 4 ∈ sp_tbl := sp_in (List.mem_of_getElem? (i := 293) (by decide +kernel)) rfl
theorem cq_294 : Cond.methodLink RX7 48 yX3_init ∈ sp_tbl := sp_in (List.mem_of_getElem? (i := 294) (by decide +kernel)) rfl
theorem cq_295 : Cond.instanceMethod yX3_init ∈ sp_tbl := sp_in (List.mem_of_getElem? (i := 295) (by decide +kernel)) rfl
theorem cq_296 : Cond.code yX3_init cX3_init 3 none ∈ sp_tbl := sp_in (List.mem_of_getElem? (i := 296) (by decide +kernel)) rfl
theorem cq_297 : Cond.methodLink RX3 3 Lib.objectInit ∈ sp_tbl := sp_in (List.mem_of_getElem? (i := 297) (by decide +kernel)) rfl
theorem cq_298 : Cond.fieldLink RX3 18 RX3 (TX3 0).2.1 (TX3 0).2.2.1 ∈ sp_tbl := sp_in (List.mem_of_getElem? (i := 298) (by decide +kernel)) rfl
theorem cq_299 : Cond.fieldLink RX3 22 RX3 (TX3 1).2.1 (TX3 1).2.2.1 ∈ sp_tbl := sp_in (List.mem_of_getElem? (i := 299) (by decide +kernel)) rfl
theorem cq_300 : Cond.fieldLink RX3 9 RX3 (TX3 2).2.1 (TX3 2).2.2.1 ∈ sp_tbl := sp_in (List.mem_of_getElem? (i := 300) (by decide +kernel)) rfl
theorem cq_301 : Cond.fieldLink RX3 15 RX3 (TX3 3).2.1 (TX3 3).2.2.1 ∈ sp_tbl := sp_in (List.mem_of_getElem? (i := 301) (by decide +kernel)) rfl
theorem cq_312 : Cond.fieldLink RX7 12 RX7 (TX7 0).2.1 (TX7 0).2.2.1 ∈ sp_tbl := sp_in (List.mem_of_getElem? (i := 312) (by decide +kernel)) rfl
theorem cq_313 : Cond.fieldLink RX7 19 RX7 (TX7 1).2.1 (TX7 1).2.2.1 ∈ sp_tbl := sp_in (List.mem_of_getElem? (i := 313) (by decide +kernel)) rfl
theorem cq_314 : Cond.fieldLink RX7 26 RX7 (TX7 2).2.1 (TX7 2).2.2.1 ∈ sp_tbl := sp_in (List.mem_of_getElem? (i := 314) (by decide +kernel)) rfl
theorem cq_315 : Cond.fieldLink RX7 33 RX7 (TX7 3).2.1 (TX7 3).2.2.1 ∈ sp_tbl := sp_in (List.mem_of_getElem? (i := 315) (by decide +kernel)) rfl
theorem cq_316 : Cond.fieldLink RX7 42 RX7 (TX7 4).2.1 (TX7 4).2.2.1 ∈ sp_tbl := sp_in (List.mem_of_getElem? (i := 316) (by decide +kernel)) rfl
theorem cq_317 : Cond.fieldLink RX7 51 RX7 (TX7 5).2.1 (TX7 5).2.2.1 ∈ sp_tbl := sp_in (List.mem_of_getElem? (i := 317) (by decide +kernel)) rfl
theorem cq_324 : Cond.fieldLink RX7 55 RX7 (TX7 12).2.1 (TX7 12).2.2.1 ∈ sp_tbl := sp_in (List.mem_of_getElem? (i := 324) (by decide +kernel)) rfl
theorem cq_352 : Cond.methodLink RL 13 yX7_type ∈ sp_tbl := sp_in (List.mem_of_getElem? (i := 352) (by decide +kernel)) rfl
theorem cq_353 : Cond.instanceMethod yX7_type ∈ sp_tbl := sp_in (List.mem_of_getElem? (i := 353) (by decide +kernel)) rfl
theorem cq_354 : Cond.selects RX7 yX7_type yX7_type ∈ sp_tbl := sp_in (List.mem_of_getElem? (i := 354) (by decide +kernel)) rfl
theorem cq_355 : Cond.code yX7_type cX7_type 2 (some .int) ∈ sp_tbl := sp_in (List.mem_of_getElem? (i := 355) (by decide +kernel)) rfl
theorem cq_367 : Cond.methodLink RL 18 yX7_clear ∈ sp_tbl := sp_in (List.mem_of_getElem? (i := 367) (by decide +kernel)) rfl
theorem cq_368 : Cond.instanceMethod yX7_clear ∈ sp_tbl := sp_in (List.mem_of_getElem? (i := 368) (by decide +kernel)) rfl
theorem cq_369 : Cond.selects RX7 yX7_clear yX7_clear ∈ sp_tbl := sp_in (List.mem_of_getElem? (i := 369) (by decide +kernel)) rfl
theorem cq_370 : Cond.code yX7_clear cX7_clear 2 (some .int) ∈ sp_tbl := sp_in (List.mem_of_getElem? (i := 370) (by decide +kernel)) rfl
theorem cq_371 : Cond.methodLink RL 23 yX7_reads ∈ sp_tbl := sp_in (List.mem_of_getElem? (i := 371) (by decide +kernel)) rfl
theorem cq_372 : Cond.instanceMethod yX7_reads ∈ sp_tbl := sp_in (List.mem_of_getElem? (i := 372) (by decide +kernel)) rfl
theorem cq_373 : Cond.selects RX7 yX7_reads yX7_reads ∈ sp_tbl := sp_in (List.mem_of_getElem? (i := 373) (by decide +kernel)) rfl
theorem cq_374 : Cond.code yX7_reads cX7_reads 2 (some .int) ∈ sp_tbl := sp_in (List.mem_of_getElem? (i := 374) (by decide +kernel)) rfl
theorem cq_443 : Cond.methodLink RL 27 yX7_place ∈ sp_tbl := sp_in (List.mem_of_getElem? (i := 443) (by decide +kernel)) rfl
theorem cq_444 : Cond.instanceMethod yX7_place ∈ sp_tbl := sp_in (List.mem_of_getElem? (i := 444) (by decide +kernel)) rfl
theorem cq_445 : Cond.selects RX7 yX7_place yX7_place ∈ sp_tbl := sp_in (List.mem_of_getElem? (i := 445) (by decide +kernel)) rfl
theorem cq_446 : Cond.code yX7_place cX7_place 3 (some .int) ∈ sp_tbl := sp_in (List.mem_of_getElem? (i := 446) (by decide +kernel)) rfl
theorem cq_452 : Cond.methodLink RL 32 yX7_lays ∈ sp_tbl := sp_in (List.mem_of_getElem? (i := 452) (by decide +kernel)) rfl
theorem cq_453 : Cond.instanceMethod yX7_lays ∈ sp_tbl := sp_in (List.mem_of_getElem? (i := 453) (by decide +kernel)) rfl
theorem cq_454 : Cond.selects RX7 yX7_lays yX7_lays ∈ sp_tbl := sp_in (List.mem_of_getElem? (i := 454) (by decide +kernel)) rfl
theorem cq_455 : Cond.code yX7_lays cX7_lays 5 (some .int) ∈ sp_tbl := sp_in (List.mem_of_getElem? (i := 455) (by decide +kernel)) rfl
theorem cq_465 : Cond.methodLink RL 37 yX7_sets ∈ sp_tbl := sp_in (List.mem_of_getElem? (i := 465) (by decide +kernel)) rfl
theorem cq_466 : Cond.instanceMethod yX7_sets ∈ sp_tbl := sp_in (List.mem_of_getElem? (i := 466) (by decide +kernel)) rfl
theorem cq_467 : Cond.selects RX7 yX7_sets yX7_sets ∈ sp_tbl := sp_in (List.mem_of_getElem? (i := 467) (by decide +kernel)) rfl
theorem cq_468 : Cond.code yX7_sets cX7_sets 4 (some .int) ∈ sp_tbl := sp_in (List.mem_of_getElem? (i := 468) (by decide +kernel)) rfl
theorem cq_474 : Cond.methodLink RL 41 yX7_puts ∈ sp_tbl := sp_in (List.mem_of_getElem? (i := 474) (by decide +kernel)) rfl
theorem cq_475 : Cond.instanceMethod yX7_puts ∈ sp_tbl := sp_in (List.mem_of_getElem? (i := 475) (by decide +kernel)) rfl
theorem cq_476 : Cond.selects RX7 yX7_puts yX7_puts ∈ sp_tbl := sp_in (List.mem_of_getElem? (i := 476) (by decide +kernel)) rfl
theorem cq_477 : Cond.code yX7_puts cX7_puts 3 (some .int) ∈ sp_tbl := sp_in (List.mem_of_getElem? (i := 477) (by decide +kernel)) rfl
theorem cq_486 : Cond.methodLink RL 45 yX7_takes ∈ sp_tbl := sp_in (List.mem_of_getElem? (i := 486) (by decide +kernel)) rfl
theorem cq_487 : Cond.instanceMethod yX7_takes ∈ sp_tbl := sp_in (List.mem_of_getElem? (i := 487) (by decide +kernel)) rfl
theorem cq_488 : Cond.selects RX7 yX7_takes yX7_takes ∈ sp_tbl := sp_in (List.mem_of_getElem? (i := 488) (by decide +kernel)) rfl
theorem cq_489 : Cond.code yX7_takes cX7_takes 2 (some .int) ∈ sp_tbl := sp_in (List.mem_of_getElem? (i := 489) (by decide +kernel)) rfl
theorem cq_491 : Cond.methodLink RL 49 yX7_moves ∈ sp_tbl := sp_in (List.mem_of_getElem? (i := 491) (by decide +kernel)) rfl
theorem cq_492 : Cond.instanceMethod yX7_moves ∈ sp_tbl := sp_in (List.mem_of_getElem? (i := 492) (by decide +kernel)) rfl
theorem cq_493 : Cond.selects RX7 yX7_moves yX7_moves ∈ sp_tbl := sp_in (List.mem_of_getElem? (i := 493) (by decide +kernel)) rfl
theorem cq_494 : Cond.code yX7_moves cX7_moves 3 (some .int) ∈ sp_tbl := sp_in (List.mem_of_getElem? (i := 494) (by decide +kernel)) rfl
theorem cq_551 : Cond.methodLink RL 53 yX7_flaw ∈ sp_tbl := sp_in (List.mem_of_getElem? (i := 551) (by decide +kernel)) rfl
theorem cq_552 : Cond.instanceMethod yX7_flaw ∈ sp_tbl := sp_in (List.mem_of_getElem? (i := 552) (by decide +kernel)) rfl
theorem cq_553 : Cond.selects RX7 yX7_flaw yX7_flaw ∈ sp_tbl := sp_in (List.mem_of_getElem? (i := 553) (by decide +kernel)) rfl
theorem cq_554 : Cond.code yX7_flaw cX7_flaw 3 (some .int) ∈ sp_tbl := sp_in (List.mem_of_getElem? (i := 554) (by decide +kernel)) rfl
theorem cq_555 : Cond.methodLink RL 57 yX7_room ∈ sp_tbl := sp_in (List.mem_of_getElem? (i := 555) (by decide +kernel)) rfl
theorem cq_556 : Cond.instanceMethod yX7_room ∈ sp_tbl := sp_in (List.mem_of_getElem? (i := 556) (by decide +kernel)) rfl
theorem cq_557 : Cond.selects RX7 yX7_room yX7_room ∈ sp_tbl := sp_in (List.mem_of_getElem? (i := 557) (by decide +kernel)) rfl
theorem cq_558 : Cond.code yX7_room cX7_room 4 (some .int) ∈ sp_tbl := sp_in (List.mem_of_getElem? (i := 558) (by decide +kernel)) rfl
theorem cq_577 : Cond.methodLink RL 61 yX7_nearest ∈ sp_tbl := sp_in (List.mem_of_getElem? (i := 577) (by decide +kernel)) rfl
theorem cq_578 : Cond.instanceMethod yX7_nearest ∈ sp_tbl := sp_in (List.mem_of_getElem? (i := 578) (by decide +kernel)) rfl
theorem cq_579 : Cond.selects RX7 yX7_nearest yX7_nearest ∈ sp_tbl := sp_in (List.mem_of_getElem? (i := 579) (by decide +kernel)) rfl
theorem cq_580 : Cond.code yX7_nearest cX7_nearest 4 (some .int) ∈ sp_tbl := sp_in (List.mem_of_getElem? (i := 580) (by decide +kernel)) rfl
theorem cq_585 : Cond.methodLink RL 65 yX7_pull ∈ sp_tbl := sp_in (List.mem_of_getElem? (i := 585) (by decide +kernel)) rfl
theorem cq_586 : Cond.instanceMethod yX7_pull ∈ sp_tbl := sp_in (List.mem_of_getElem? (i := 586) (by decide +kernel)) rfl
theorem cq_587 : Cond.selects RX7 yX7_pull yX7_pull ∈ sp_tbl := sp_in (List.mem_of_getElem? (i := 587) (by decide +kernel)) rfl
theorem cq_588 : Cond.code yX7_pull cX7_pull 4 (some .int) ∈ sp_tbl := sp_in (List.mem_of_getElem? (i := 588) (by decide +kernel)) rfl
theorem cq_591 : Cond.methodLink RL 69 yX7_cheapest ∈ sp_tbl := sp_in (List.mem_of_getElem? (i := 591) (by decide +kernel)) rfl
theorem cq_592 : Cond.instanceMethod yX7_cheapest ∈ sp_tbl := sp_in (List.mem_of_getElem? (i := 592) (by decide +kernel)) rfl
theorem cq_593 : Cond.selects RX7 yX7_cheapest yX7_cheapest ∈ sp_tbl := sp_in (List.mem_of_getElem? (i := 593) (by decide +kernel)) rfl
theorem cq_594 : Cond.code yX7_cheapest cX7_cheapest 2 (some .int) ∈ sp_tbl := sp_in (List.mem_of_getElem? (i := 594) (by decide +kernel)) rfl
theorem cq_704 : Cond.methodLink RL 73 yX7_spot ∈ sp_tbl := sp_in (List.mem_of_getElem? (i := 704) (by decide +kernel)) rfl
theorem cq_705 : Cond.instanceMethod yX7_spot ∈ sp_tbl := sp_in (List.mem_of_getElem? (i := 705) (by decide +kernel)) rfl
theorem cq_706 : Cond.selects RX7 yX7_spot yX7_spot ∈ sp_tbl := sp_in (List.mem_of_getElem? (i := 706) (by decide +kernel)) rfl
theorem cq_707 : Cond.code yX7_spot cX7_spot 3 (some .int) ∈ sp_tbl := sp_in (List.mem_of_getElem? (i := 707) (by decide +kernel)) rfl
theorem cq_708 : Cond.methodLink RL 77 yX7_through ∈ sp_tbl := sp_in (List.mem_of_getElem? (i := 708) (by decide +kernel)) rfl
theorem cq_709 : Cond.instanceMethod yX7_through ∈ sp_tbl := sp_in (List.mem_of_getElem? (i := 709) (by decide +kernel)) rfl
theorem cq_710 : Cond.selects RX7 yX7_through yX7_through ∈ sp_tbl := sp_in (List.mem_of_getElem? (i := 710) (by decide +kernel)) rfl
theorem cq_711 : Cond.code yX7_through cX7_through 2 (some .int) ∈ sp_tbl := sp_in (List.mem_of_getElem? (i := 711) (by decide +kernel)) rfl
theorem cq_736 : Cond.methodLink RL 81 yX7_builds ∈ sp_tbl := sp_in (List.mem_of_getElem? (i := 736) (by decide +kernel)) rfl
theorem cq_737 : Cond.instanceMethod yX7_builds ∈ sp_tbl := sp_in (List.mem_of_getElem? (i := 737) (by decide +kernel)) rfl
theorem cq_738 : Cond.selects RX7 yX7_builds yX7_builds ∈ sp_tbl := sp_in (List.mem_of_getElem? (i := 738) (by decide +kernel)) rfl
theorem cq_739 : Cond.code yX7_builds cX7_builds 1 (some .int) ∈ sp_tbl := sp_in (List.mem_of_getElem? (i := 739) (by decide +kernel)) rfl
theorem cq_749 : Cond.methodLink RL 85 yX7_otherwise ∈ sp_tbl := sp_in (List.mem_of_getElem? (i := 749) (by decide +kernel)) rfl
theorem cq_750 : Cond.instanceMethod yX7_otherwise ∈ sp_tbl := sp_in (List.mem_of_getElem? (i := 750) (by decide +kernel)) rfl
theorem cq_751 : Cond.selects RX7 yX7_otherwise yX7_otherwise ∈ sp_tbl := sp_in (List.mem_of_getElem? (i := 751) (by decide +kernel)) rfl
theorem cq_752 : Cond.code yX7_otherwise cX7_otherwise 4 (some .int) ∈ sp_tbl := sp_in (List.mem_of_getElem? (i := 752) (by decide +kernel)) rfl
theorem cq_753 : Cond.methodLink RL 89 yX7_upper ∈ sp_tbl := sp_in (List.mem_of_getElem? (i := 753) (by decide +kernel)) rfl
theorem cq_754 : Cond.instanceMethod yX7_upper ∈ sp_tbl := sp_in (List.mem_of_getElem? (i := 754) (by decide +kernel)) rfl
theorem cq_755 : Cond.selects RX7 yX7_upper yX7_upper ∈ sp_tbl := sp_in (List.mem_of_getElem? (i := 755) (by decide +kernel)) rfl
theorem cq_756 : Cond.code yX7_upper cX7_upper 1 (some .long) ∈ sp_tbl := sp_in (List.mem_of_getElem? (i := 756) (by decide +kernel)) rfl
theorem cq_757 : Cond.methodLink RL 94 yX7_lower ∈ sp_tbl := sp_in (List.mem_of_getElem? (i := 757) (by decide +kernel)) rfl
theorem cq_758 : Cond.instanceMethod yX7_lower ∈ sp_tbl := sp_in (List.mem_of_getElem? (i := 758) (by decide +kernel)) rfl
theorem cq_759 : Cond.selects RX7 yX7_lower yX7_lower ∈ sp_tbl := sp_in (List.mem_of_getElem? (i := 759) (by decide +kernel)) rfl
theorem cq_760 : Cond.code yX7_lower cX7_lower 1 (some .long) ∈ sp_tbl := sp_in (List.mem_of_getElem? (i := 760) (by decide +kernel)) rfl
theorem cq_761 : Cond.methodLink RL 98 yX7_all ∈ sp_tbl := sp_in (List.mem_of_getElem? (i := 761) (by decide +kernel)) rfl
theorem cq_762 : Cond.instanceMethod yX7_all ∈ sp_tbl := sp_in (List.mem_of_getElem? (i := 762) (by decide +kernel)) rfl
theorem cq_763 : Cond.selects RX7 yX7_all yX7_all ∈ sp_tbl := sp_in (List.mem_of_getElem? (i := 763) (by decide +kernel)) rfl
theorem cq_764 : Cond.code yX7_all cX7_all 2 (some .int) ∈ sp_tbl := sp_in (List.mem_of_getElem? (i := 764) (by decide +kernel)) rfl
theorem cq_774 : Cond.methodLink RL 102 yX7_back ∈ sp_tbl := sp_in (List.mem_of_getElem? (i := 774) (by decide +kernel)) rfl
theorem cq_775 : Cond.instanceMethod yX7_back ∈ sp_tbl := sp_in (List.mem_of_getElem? (i := 775) (by decide +kernel)) rfl
theorem cq_776 : Cond.selects RX7 yX7_back yX7_back ∈ sp_tbl := sp_in (List.mem_of_getElem? (i := 776) (by decide +kernel)) rfl
theorem cq_777 : Cond.code yX7_back cX7_back 1 (some .int) ∈ sp_tbl := sp_in (List.mem_of_getElem? (i := 777) (by decide +kernel)) rfl
theorem cq_782 : Cond.methodLink RL 106 yX7_told ∈ sp_tbl := sp_in (List.mem_of_getElem? (i := 782) (by decide +kernel)) rfl
theorem cq_783 : Cond.instanceMethod yX7_told ∈ sp_tbl := sp_in (List.mem_of_getElem? (i := 783) (by decide +kernel)) rfl
theorem cq_784 : Cond.selects RX7 yX7_told yX7_told ∈ sp_tbl := sp_in (List.mem_of_getElem? (i := 784) (by decide +kernel)) rfl
theorem cq_785 : Cond.code yX7_told cX7_told 2 (some .int) ∈ sp_tbl := sp_in (List.mem_of_getElem? (i := 785) (by decide +kernel)) rfl
theorem cq_786 : Cond.methodLink RL 110 yX7_digest ∈ sp_tbl := sp_in (List.mem_of_getElem? (i := 786) (by decide +kernel)) rfl
theorem cq_787 : Cond.instanceMethod yX7_digest ∈ sp_tbl := sp_in (List.mem_of_getElem? (i := 787) (by decide +kernel)) rfl
theorem cq_788 : Cond.selects RX7 yX7_digest yX7_digest ∈ sp_tbl := sp_in (List.mem_of_getElem? (i := 788) (by decide +kernel)) rfl
theorem cq_789 : Cond.code yX7_digest cX7_digest 5 (some .long) ∈ sp_tbl := sp_in (List.mem_of_getElem? (i := 789) (by decide +kernel)) rfl
theorem cq_799 : Cond.classLink RL 10 RX8 ∈ sp_tbl := sp_in (List.mem_of_getElem? (i := 799) (by decide +kernel)) rfl
theorem cq_800 : Cond.instantiable RX8 27 ∈ sp_tbl := sp_in (List.mem_of_getElem? (i := 800) (by decide +kernel)) rfl
theorem cq_801 : Cond.methodLink RL 12 yX8_init ∈ sp_tbl := sp_in (List.mem_of_getElem? (i := 801) (by decide +kernel)) rfl
theorem cq_802 : Cond.instanceMethod yX8_init ∈ sp_tbl := sp_in (List.mem_of_getElem? (i := 802) (by decide +kernel)) rfl
theorem cq_803 : Cond.code yX8_init cX8_init 1 none ∈ sp_tbl := sp_in (List.mem_of_getElem? (i := 803) (by decide +kernel)) rfl
theorem cq_804 : Cond.methodLink RX8 1 Lib.objectInit ∈ sp_tbl := sp_in (List.mem_of_getElem? (i := 804) (by decide +kernel)) rfl
theorem cq_805 : Cond.methodLink RX8 53 yX8_asAtFirst ∈ sp_tbl := sp_in (List.mem_of_getElem? (i := 805) (by decide +kernel)) rfl
theorem cq_806 : Cond.static yX8_asAtFirst ∈ sp_tbl := sp_in (List.mem_of_getElem? (i := 806) (by decide +kernel)) rfl
theorem cq_807 : Cond.code yX8_asAtFirst cX8_asAtFirst 3 none ∈ sp_tbl := sp_in (List.mem_of_getElem? (i := 807) (by decide +kernel)) rfl
theorem cq_811 : Cond.fieldLink RX8 7 RX8 (TX8 0).2.1 (TX8 0).2.2.1 ∈ sp_tbl := sp_in (List.mem_of_getElem? (i := 811) (by decide +kernel)) rfl
theorem cq_812 : Cond.fieldLink RX8 13 RX8 (TX8 1).2.1 (TX8 1).2.2.1 ∈ sp_tbl := sp_in (List.mem_of_getElem? (i := 812) (by decide +kernel)) rfl
theorem cq_815 : Cond.fieldLink RX8 16 RX8 (TX8 4).2.1 (TX8 4).2.2.1 ∈ sp_tbl := sp_in (List.mem_of_getElem? (i := 815) (by decide +kernel)) rfl
theorem cq_817 : Cond.fieldLink RX8 19 RX8 (TX8 6).2.1 (TX8 6).2.2.1 ∈ sp_tbl := sp_in (List.mem_of_getElem? (i := 817) (by decide +kernel)) rfl
theorem cq_820 : Cond.fieldLink RX8 22 RX8 (TX8 9).2.1 (TX8 9).2.2.1 ∈ sp_tbl := sp_in (List.mem_of_getElem? (i := 820) (by decide +kernel)) rfl
theorem cq_822 : Cond.fieldLink RX8 25 RX8 (TX8 11).2.1 (TX8 11).2.2.1 ∈ sp_tbl := sp_in (List.mem_of_getElem? (i := 822) (by decide +kernel)) rfl
theorem cq_823 : Cond.fieldLink RX8 29 RX8 (TX8 12).2.1 (TX8 12).2.2.1 ∈ sp_tbl := sp_in (List.mem_of_getElem? (i := 823) (by decide +kernel)) rfl
theorem cq_824 : Cond.fieldLink RX8 32 RX8 (TX8 13).2.1 (TX8 13).2.2.1 ∈ sp_tbl := sp_in (List.mem_of_getElem? (i := 824) (by decide +kernel)) rfl
theorem cq_825 : Cond.fieldLink RX8 35 RX8 (TX8 14).2.1 (TX8 14).2.2.1 ∈ sp_tbl := sp_in (List.mem_of_getElem? (i := 825) (by decide +kernel)) rfl
theorem cq_826 : Cond.fieldLink RX8 38 RX8 (TX8 15).2.1 (TX8 15).2.2.1 ∈ sp_tbl := sp_in (List.mem_of_getElem? (i := 826) (by decide +kernel)) rfl
theorem cq_827 : Cond.fieldLink RX8 41 RX8 (TX8 16).2.1 (TX8 16).2.2.1 ∈ sp_tbl := sp_in (List.mem_of_getElem? (i := 827) (by decide +kernel)) rfl
theorem cq_828 : Cond.fieldLink RX8 44 RX8 (TX8 17).2.1 (TX8 17).2.2.1 ∈ sp_tbl := sp_in (List.mem_of_getElem? (i := 828) (by decide +kernel)) rfl
theorem cq_835 : Cond.fieldLink RX8 47 RX8 (TX8 24).2.1 (TX8 24).2.2.1 ∈ sp_tbl := sp_in (List.mem_of_getElem? (i := 835) (by decide +kernel)) rfl
theorem cq_837 : Cond.fieldLink RX8 50 RX8 (TX8 26).2.1 (TX8 26).2.2.1 ∈ sp_tbl := sp_in (List.mem_of_getElem? (i := 837) (by decide +kernel)) rfl
theorem cq_893 : Cond.methodLink RL 105 yX8_back ∈ sp_tbl := sp_in (List.mem_of_getElem? (i := 893) (by decide +kernel)) rfl
theorem cq_894 : Cond.instanceMethod yX8_back ∈ sp_tbl := sp_in (List.mem_of_getElem? (i := 894) (by decide +kernel)) rfl
theorem cq_895 : Cond.selects RX8 yX8_back yX8_back ∈ sp_tbl := sp_in (List.mem_of_getElem? (i := 895) (by decide +kernel)) rfl
theorem cq_896 : Cond.code yX8_back cX8_back 2 (some .int) ∈ sp_tbl := sp_in (List.mem_of_getElem? (i := 896) (by decide +kernel)) rfl
theorem cq_901 : Cond.methodLink RL 17 yX8_type ∈ sp_tbl := sp_in (List.mem_of_getElem? (i := 901) (by decide +kernel)) rfl
theorem cq_902 : Cond.instanceMethod yX8_type ∈ sp_tbl := sp_in (List.mem_of_getElem? (i := 902) (by decide +kernel)) rfl
theorem cq_903 : Cond.selects RX8 yX8_type yX8_type ∈ sp_tbl := sp_in (List.mem_of_getElem? (i := 903) (by decide +kernel)) rfl
theorem cq_904 : Cond.code yX8_type cX8_type 2 (some .int) ∈ sp_tbl := sp_in (List.mem_of_getElem? (i := 904) (by decide +kernel)) rfl
theorem cq_909 : Cond.methodLink RL 22 yX8_clear ∈ sp_tbl := sp_in (List.mem_of_getElem? (i := 909) (by decide +kernel)) rfl
theorem cq_910 : Cond.instanceMethod yX8_clear ∈ sp_tbl := sp_in (List.mem_of_getElem? (i := 910) (by decide +kernel)) rfl
theorem cq_911 : Cond.selects RX8 yX8_clear yX8_clear ∈ sp_tbl := sp_in (List.mem_of_getElem? (i := 911) (by decide +kernel)) rfl
theorem cq_912 : Cond.code yX8_clear cX8_clear 2 (some .int) ∈ sp_tbl := sp_in (List.mem_of_getElem? (i := 912) (by decide +kernel)) rfl
theorem cq_913 : Cond.methodLink RL 26 yX8_reads ∈ sp_tbl := sp_in (List.mem_of_getElem? (i := 913) (by decide +kernel)) rfl
theorem cq_914 : Cond.instanceMethod yX8_reads ∈ sp_tbl := sp_in (List.mem_of_getElem? (i := 914) (by decide +kernel)) rfl
theorem cq_915 : Cond.selects RX8 yX8_reads yX8_reads ∈ sp_tbl := sp_in (List.mem_of_getElem? (i := 915) (by decide +kernel)) rfl
theorem cq_916 : Cond.code yX8_reads cX8_reads 3 (some .int) ∈ sp_tbl := sp_in (List.mem_of_getElem? (i := 916) (by decide +kernel)) rfl
theorem cq_961 : Cond.methodLink RL 31 yX8_place ∈ sp_tbl := sp_in (List.mem_of_getElem? (i := 961) (by decide +kernel)) rfl
theorem cq_962 : Cond.instanceMethod yX8_place ∈ sp_tbl := sp_in (List.mem_of_getElem? (i := 962) (by decide +kernel)) rfl
theorem cq_963 : Cond.selects RX8 yX8_place yX8_place ∈ sp_tbl := sp_in (List.mem_of_getElem? (i := 963) (by decide +kernel)) rfl
theorem cq_964 : Cond.code yX8_place cX8_place 3 (some .int) ∈ sp_tbl := sp_in (List.mem_of_getElem? (i := 964) (by decide +kernel)) rfl
theorem cq_973 : Cond.methodLink RL 36 yX8_lays ∈ sp_tbl := sp_in (List.mem_of_getElem? (i := 973) (by decide +kernel)) rfl
theorem cq_974 : Cond.instanceMethod yX8_lays ∈ sp_tbl := sp_in (List.mem_of_getElem? (i := 974) (by decide +kernel)) rfl
theorem cq_975 : Cond.selects RX8 yX8_lays yX8_lays ∈ sp_tbl := sp_in (List.mem_of_getElem? (i := 975) (by decide +kernel)) rfl
theorem cq_976 : Cond.code yX8_lays cX8_lays 5 (some .int) ∈ sp_tbl := sp_in (List.mem_of_getElem? (i := 976) (by decide +kernel)) rfl
theorem cq_980 : Cond.methodLink RL 40 yX8_sets ∈ sp_tbl := sp_in (List.mem_of_getElem? (i := 980) (by decide +kernel)) rfl
theorem cq_981 : Cond.instanceMethod yX8_sets ∈ sp_tbl := sp_in (List.mem_of_getElem? (i := 981) (by decide +kernel)) rfl
theorem cq_982 : Cond.selects RX8 yX8_sets yX8_sets ∈ sp_tbl := sp_in (List.mem_of_getElem? (i := 982) (by decide +kernel)) rfl
theorem cq_983 : Cond.code yX8_sets cX8_sets 4 (some .int) ∈ sp_tbl := sp_in (List.mem_of_getElem? (i := 983) (by decide +kernel)) rfl
theorem cq_987 : Cond.methodLink RL 44 yX8_puts ∈ sp_tbl := sp_in (List.mem_of_getElem? (i := 987) (by decide +kernel)) rfl
theorem cq_988 : Cond.instanceMethod yX8_puts ∈ sp_tbl := sp_in (List.mem_of_getElem? (i := 988) (by decide +kernel)) rfl
theorem cq_989 : Cond.selects RX8 yX8_puts yX8_puts ∈ sp_tbl := sp_in (List.mem_of_getElem? (i := 989) (by decide +kernel)) rfl
theorem cq_990 : Cond.code yX8_puts cX8_puts 3 (some .int) ∈ sp_tbl := sp_in (List.mem_of_getElem? (i := 990) (by decide +kernel)) rfl
theorem cq_999 : Cond.methodLink RL 48 yX8_takes ∈ sp_tbl := sp_in (List.mem_of_getElem? (i := 999) (by decide +kernel)) rfl
theorem cq_1000 : Cond.instanceMethod yX8_takes ∈ sp_tbl := sp_in (List.mem_of_getElem? (i := 1000) (by decide +kernel)) rfl
theorem cq_1001 : Cond.selects RX8 yX8_takes yX8_takes ∈ sp_tbl := sp_in (List.mem_of_getElem? (i := 1001) (by decide +kernel)) rfl
theorem cq_1002 : Cond.code yX8_takes cX8_takes 2 (some .int) ∈ sp_tbl := sp_in (List.mem_of_getElem? (i := 1002) (by decide +kernel)) rfl
theorem cq_1003 : Cond.methodLink RL 52 yX8_moves ∈ sp_tbl := sp_in (List.mem_of_getElem? (i := 1003) (by decide +kernel)) rfl
theorem cq_1004 : Cond.instanceMethod yX8_moves ∈ sp_tbl := sp_in (List.mem_of_getElem? (i := 1004) (by decide +kernel)) rfl
theorem cq_1005 : Cond.selects RX8 yX8_moves yX8_moves ∈ sp_tbl := sp_in (List.mem_of_getElem? (i := 1005) (by decide +kernel)) rfl
theorem cq_1006 : Cond.code yX8_moves cX8_moves 5 (some .int) ∈ sp_tbl := sp_in (List.mem_of_getElem? (i := 1006) (by decide +kernel)) rfl
theorem cq_1043 : Cond.methodLink RL 56 yX8_flaw ∈ sp_tbl := sp_in (List.mem_of_getElem? (i := 1043) (by decide +kernel)) rfl
theorem cq_1044 : Cond.instanceMethod yX8_flaw ∈ sp_tbl := sp_in (List.mem_of_getElem? (i := 1044) (by decide +kernel)) rfl
theorem cq_1045 : Cond.selects RX8 yX8_flaw yX8_flaw ∈ sp_tbl := sp_in (List.mem_of_getElem? (i := 1045) (by decide +kernel)) rfl
theorem cq_1046 : Cond.code yX8_flaw cX8_flaw 3 (some .int) ∈ sp_tbl := sp_in (List.mem_of_getElem? (i := 1046) (by decide +kernel)) rfl
theorem cq_1051 : Cond.methodLink RL 93 yX8_upper ∈ sp_tbl := sp_in (List.mem_of_getElem? (i := 1051) (by decide +kernel)) rfl
theorem cq_1052 : Cond.instanceMethod yX8_upper ∈ sp_tbl := sp_in (List.mem_of_getElem? (i := 1052) (by decide +kernel)) rfl
theorem cq_1053 : Cond.selects RX8 yX8_upper yX8_upper ∈ sp_tbl := sp_in (List.mem_of_getElem? (i := 1053) (by decide +kernel)) rfl
theorem cq_1054 : Cond.code yX8_upper cX8_upper 1 (some .long) ∈ sp_tbl := sp_in (List.mem_of_getElem? (i := 1054) (by decide +kernel)) rfl
theorem cq_1055 : Cond.methodLink RL 97 yX8_lower ∈ sp_tbl := sp_in (List.mem_of_getElem? (i := 1055) (by decide +kernel)) rfl
theorem cq_1056 : Cond.instanceMethod yX8_lower ∈ sp_tbl := sp_in (List.mem_of_getElem? (i := 1056) (by decide +kernel)) rfl
theorem cq_1057 : Cond.selects RX8 yX8_lower yX8_lower ∈ sp_tbl := sp_in (List.mem_of_getElem? (i := 1057) (by decide +kernel)) rfl
theorem cq_1058 : Cond.code yX8_lower cX8_lower 1 (some .long) ∈ sp_tbl := sp_in (List.mem_of_getElem? (i := 1058) (by decide +kernel)) rfl
theorem cq_1059 : Cond.methodLink RL 60 yX8_room ∈ sp_tbl := sp_in (List.mem_of_getElem? (i := 1059) (by decide +kernel)) rfl
theorem cq_1060 : Cond.instanceMethod yX8_room ∈ sp_tbl := sp_in (List.mem_of_getElem? (i := 1060) (by decide +kernel)) rfl
theorem cq_1061 : Cond.selects RX8 yX8_room yX8_room ∈ sp_tbl := sp_in (List.mem_of_getElem? (i := 1061) (by decide +kernel)) rfl
theorem cq_1062 : Cond.code yX8_room cX8_room 4 (some .int) ∈ sp_tbl := sp_in (List.mem_of_getElem? (i := 1062) (by decide +kernel)) rfl
theorem cq_1067 : Cond.methodLink RL 64 yX8_nearest ∈ sp_tbl := sp_in (List.mem_of_getElem? (i := 1067) (by decide +kernel)) rfl
theorem cq_1068 : Cond.instanceMethod yX8_nearest ∈ sp_tbl := sp_in (List.mem_of_getElem? (i := 1068) (by decide +kernel)) rfl
theorem cq_1069 : Cond.selects RX8 yX8_nearest yX8_nearest ∈ sp_tbl := sp_in (List.mem_of_getElem? (i := 1069) (by decide +kernel)) rfl
theorem cq_1070 : Cond.code yX8_nearest cX8_nearest 5 (some .int) ∈ sp_tbl := sp_in (List.mem_of_getElem? (i := 1070) (by decide +kernel)) rfl
theorem cq_1071 : Cond.methodLink RL 68 yX8_pull ∈ sp_tbl := sp_in (List.mem_of_getElem? (i := 1071) (by decide +kernel)) rfl
theorem cq_1072 : Cond.instanceMethod yX8_pull ∈ sp_tbl := sp_in (List.mem_of_getElem? (i := 1072) (by decide +kernel)) rfl
theorem cq_1073 : Cond.selects RX8 yX8_pull yX8_pull ∈ sp_tbl := sp_in (List.mem_of_getElem? (i := 1073) (by decide +kernel)) rfl
theorem cq_1074 : Cond.code yX8_pull cX8_pull 4 (some .int) ∈ sp_tbl := sp_in (List.mem_of_getElem? (i := 1074) (by decide +kernel)) rfl
theorem cq_1075 : Cond.methodLink RL 72 yX8_cheapest ∈ sp_tbl := sp_in (List.mem_of_getElem? (i := 1075) (by decide +kernel)) rfl
theorem cq_1076 : Cond.instanceMethod yX8_cheapest ∈ sp_tbl := sp_in (List.mem_of_getElem? (i := 1076) (by decide +kernel)) rfl
theorem cq_1077 : Cond.selects RX8 yX8_cheapest yX8_cheapest ∈ sp_tbl := sp_in (List.mem_of_getElem? (i := 1077) (by decide +kernel)) rfl
theorem cq_1078 : Cond.code yX8_cheapest cX8_cheapest 2 (some .int) ∈ sp_tbl := sp_in (List.mem_of_getElem? (i := 1078) (by decide +kernel)) rfl
theorem cq_1119 : Cond.methodLink RL 76 yX8_spot ∈ sp_tbl := sp_in (List.mem_of_getElem? (i := 1119) (by decide +kernel)) rfl
theorem cq_1120 : Cond.instanceMethod yX8_spot ∈ sp_tbl := sp_in (List.mem_of_getElem? (i := 1120) (by decide +kernel)) rfl
theorem cq_1121 : Cond.selects RX8 yX8_spot yX8_spot ∈ sp_tbl := sp_in (List.mem_of_getElem? (i := 1121) (by decide +kernel)) rfl
theorem cq_1122 : Cond.code yX8_spot cX8_spot 3 (some .int) ∈ sp_tbl := sp_in (List.mem_of_getElem? (i := 1122) (by decide +kernel)) rfl
theorem cq_1127 : Cond.methodLink RL 80 yX8_through ∈ sp_tbl := sp_in (List.mem_of_getElem? (i := 1127) (by decide +kernel)) rfl
theorem cq_1128 : Cond.instanceMethod yX8_through ∈ sp_tbl := sp_in (List.mem_of_getElem? (i := 1128) (by decide +kernel)) rfl
theorem cq_1129 : Cond.selects RX8 yX8_through yX8_through ∈ sp_tbl := sp_in (List.mem_of_getElem? (i := 1129) (by decide +kernel)) rfl
theorem cq_1130 : Cond.code yX8_through cX8_through 2 (some .int) ∈ sp_tbl := sp_in (List.mem_of_getElem? (i := 1130) (by decide +kernel)) rfl
theorem cq_1139 : Cond.methodLink RL 84 yX8_builds ∈ sp_tbl := sp_in (List.mem_of_getElem? (i := 1139) (by decide +kernel)) rfl
theorem cq_1140 : Cond.instanceMethod yX8_builds ∈ sp_tbl := sp_in (List.mem_of_getElem? (i := 1140) (by decide +kernel)) rfl
theorem cq_1141 : Cond.selects RX8 yX8_builds yX8_builds ∈ sp_tbl := sp_in (List.mem_of_getElem? (i := 1141) (by decide +kernel)) rfl
theorem cq_1142 : Cond.code yX8_builds cX8_builds 3 (some .int) ∈ sp_tbl := sp_in (List.mem_of_getElem? (i := 1142) (by decide +kernel)) rfl
theorem cq_1143 : Cond.methodLink RL 88 yX8_otherwise ∈ sp_tbl := sp_in (List.mem_of_getElem? (i := 1143) (by decide +kernel)) rfl
theorem cq_1144 : Cond.instanceMethod yX8_otherwise ∈ sp_tbl := sp_in (List.mem_of_getElem? (i := 1144) (by decide +kernel)) rfl
theorem cq_1145 : Cond.selects RX8 yX8_otherwise yX8_otherwise ∈ sp_tbl := sp_in (List.mem_of_getElem? (i := 1145) (by decide +kernel)) rfl
theorem cq_1146 : Cond.code yX8_otherwise cX8_otherwise 4 (some .int) ∈ sp_tbl := sp_in (List.mem_of_getElem? (i := 1146) (by decide +kernel)) rfl
theorem cq_1147 : Cond.methodLink RL 101 yX8_all ∈ sp_tbl := sp_in (List.mem_of_getElem? (i := 1147) (by decide +kernel)) rfl
theorem cq_1148 : Cond.instanceMethod yX8_all ∈ sp_tbl := sp_in (List.mem_of_getElem? (i := 1148) (by decide +kernel)) rfl
theorem cq_1149 : Cond.selects RX8 yX8_all yX8_all ∈ sp_tbl := sp_in (List.mem_of_getElem? (i := 1149) (by decide +kernel)) rfl
theorem cq_1150 : Cond.code yX8_all cX8_all 2 (some .int) ∈ sp_tbl := sp_in (List.mem_of_getElem? (i := 1150) (by decide +kernel)) rfl
theorem cq_1163 : Cond.methodLink RL 109 yX8_told ∈ sp_tbl := sp_in (List.mem_of_getElem? (i := 1163) (by decide +kernel)) rfl
theorem cq_1164 : Cond.instanceMethod yX8_told ∈ sp_tbl := sp_in (List.mem_of_getElem? (i := 1164) (by decide +kernel)) rfl
theorem cq_1165 : Cond.selects RX8 yX8_told yX8_told ∈ sp_tbl := sp_in (List.mem_of_getElem? (i := 1165) (by decide +kernel)) rfl
theorem cq_1166 : Cond.code yX8_told cX8_told 2 (some .int) ∈ sp_tbl := sp_in (List.mem_of_getElem? (i := 1166) (by decide +kernel)) rfl
theorem cq_1171 : Cond.methodLink RL 113 yX8_digest ∈ sp_tbl := sp_in (List.mem_of_getElem? (i := 1171) (by decide +kernel)) rfl
theorem cq_1172 : Cond.instanceMethod yX8_digest ∈ sp_tbl := sp_in (List.mem_of_getElem? (i := 1172) (by decide +kernel)) rfl
theorem cq_1173 : Cond.selects RX8 yX8_digest yX8_digest ∈ sp_tbl := sp_in (List.mem_of_getElem? (i := 1173) (by decide +kernel)) rfl
theorem cq_1174 : Cond.code yX8_digest cX8_digest 4 (some .long) ∈ sp_tbl := sp_in (List.mem_of_getElem? (i := 1174) (by decide +kernel)) rfl
