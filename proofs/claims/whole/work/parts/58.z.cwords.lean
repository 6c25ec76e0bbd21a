/-! words for constructors and law, by their places -/
theorem cq_77 : Cond.initialized RX2 ∈ sp_tbl := sp_in (List.mem_of_getElem? (i := 77) (by decide +kernel)) rfl
theorem cq_78 : Cond.initialized RX1 ∈ sp_tbl := sp_in (List.mem_of_getElem? (i := 78) (by decide +kernel)) rfl
theorem cq_79 : Cond.initialized RX6 ∈ sp_tbl := sp_in (List.mem_of_getElem? (i := 79) (by decide +kernel)) rfl
theorem cq_80 : Cond.initialized RX0 ∈ sp_tbl := sp_in (List.mem_of_getElem? (i := 80) (by decide +kernel)) rfl
theorem cq_81 : Cond.initialized RX4 ∈ sp_tbl := sp_in (List.mem_of_getElem? (i := 81) (by decide +kernel)) rfl
theorem cq_82 : Cond.initialized RX5 ∈ sp_tbl := sp_in (List.mem_of_getElem? (i := 82) (by decide +kernel)) rfl
theorem cq_83 : Cond.initialized RX3 ∈ sp_tbl := sp_in (List.mem_of_getElem? (i := 83) (by decide +kernel)) rfl
theorem cq_84 : Cond.initialized RX8 ∈ sp_tbl := sp_in (List.mem_of_getElem? (i := 84) (by decide +kernel)) rfl
theorem cq_88 : Cond.instantiable RX7 13 ∈ sp_tbl := sp_in (List.mem_of_getElem? (i := 88) (by decide +kernel)) rfl
theorem cq_92 : Cond.methodLink RX7 3 Lib.objectInit ∈ sp_tbl := sp_in (List.mem_of_getElem? (i := 92) (by decide +kernel)) rfl
theorem cq_93 : Cond.instanceMethod Lib.objectInit ∈ sp_tbl := sp_in (List.mem_of_getElem? (i := 93) (by decide +kernel)) rfl
theorem cq_94 : Cond.code Lib.objectInit ⟨#[0xb1]⟩ 1 none ∈ sp_tbl := sp_in (List.mem_of_getElem? (i := 94) (by decide +kernel)) rfl
theorem cq_95 : Cond.classLink RX7 9 RX2 ∈ sp_tbl := sp_in (List.mem_of_getElem? (i := 95) (by decide +kernel)) rfl
theorem cq_96 : Cond.instantiable RX2 3 ∈ sp_tbl := sp_in (List.mem_of_getElem? (i := 96) (by decide +kernel)) rfl
theorem cq_97 : Cond.methodLink RX7 11 yX2_init ∈ sp_tbl := sp_in (List.mem_of_getElem? (i := 97) (by decide +kernel)) rfl
theorem cq_98 : Cond.instanceMethod yX2_init ∈ sp_tbl := sp_in (List.mem_of_getElem? (i := 98) (by decide +kernel)) rfl
theorem cq_99 : Cond.code yX2_init cX2_init 1 none ∈ sp_tbl := sp_in (List.mem_of_getElem? (i := 99) (by decide +kernel)) rfl
theorem cq_100 : Cond.methodLink RX2 3 Lib.objectInit ∈ sp_tbl := sp_in (List.mem_of_getElem? (i := 100) (by decide +kernel)) rfl
theorem cq_101 : Cond.classLink RX2 9 "[[I" ∈ sp_tbl := sp_in (List.mem_of_getElem? (i := 101) (by decide +kernel)) rfl
theorem cq_103 : Cond.methodLink RX2 20 yX2_restart ∈ sp_tbl := sp_in (List.mem_of_getElem? (i := 103) (by decide +kernel)) rfl
theorem cq_104 : Cond.instanceMethod yX2_restart ∈ sp_tbl := sp_in (List.mem_of_getElem? (i := 104) (by decide +kernel)) rfl
theorem cq_105 : Cond.selects RX2 yX2_restart yX2_restart ∈ sp_tbl := sp_in (List.mem_of_getElem? (i := 105) (by decide +kernel)) rfl
theorem cq_106 : Cond.code yX2_restart cX2_restart 3 none ∈ sp_tbl := sp_in (List.mem_of_getElem? (i := 106) (by decide +kernel)) rfl
theorem cq_117 : Cond.fieldLink RX2 11 RX2 (TX2 1).2.1 (TX2 1).2.2.1 ∈ sp_tbl := sp_in (List.mem_of_getElem? (i := 117) (by decide +kernel)) rfl
theorem cq_122 : Cond.fieldLink RX2 16 RX2 (TX2 2).2.1 (TX2 2).2.2.1 ∈ sp_tbl := sp_in (List.mem_of_getElem? (i := 122) (by decide +kernel)) rfl
theorem cq_135 : Cond.arrayClass .int ∈ sp_tbl := sp_in (List.mem_of_getElem? (i := 135) (by decide +kernel)) rfl
theorem cq_136 : Cond.classLink RX7 16 RX1 ∈ sp_tbl := sp_in (List.mem_of_getElem? (i := 136) (by decide +kernel)) rfl
theorem cq_137 : Cond.instantiable RX1 3 ∈ sp_tbl := sp_in (List.mem_of_getElem? (i := 137) (by decide +kernel)) rfl
theorem cq_138 : Cond.methodLink RX7 18 yX1_init ∈ sp_tbl := sp_in (List.mem_of_getElem? (i := 138) (by decide +kernel)) rfl
theorem cq_139 : Cond.instanceMethod yX1_init ∈ sp_tbl := sp_in (List.mem_of_getElem? (i := 139) (by decide +kernel)) rfl
theorem cq_140 : Cond.code yX1_init cX1_init 2 none ∈ sp_tbl := sp_in (List.mem_of_getElem? (i := 140) (by decide +kernel)) rfl
theorem cq_141 : Cond.methodLink RX1 3 Lib.objectInit ∈ sp_tbl := sp_in (List.mem_of_getElem? (i := 141) (by decide +kernel)) rfl
theorem cq_142 : Cond.classLink RX1 9 RX2 ∈ sp_tbl := sp_in (List.mem_of_getElem? (i := 142) (by decide +kernel)) rfl
theorem cq_144 : Cond.methodLink RX1 17 yX2_init ∈ sp_tbl := sp_in (List.mem_of_getElem? (i := 144) (by decide +kernel)) rfl
theorem cq_145 : Cond.fieldLink RX1 11 RX1 (TX1 0).2.1 (TX1 0).2.2.1 ∈ sp_tbl := sp_in (List.mem_of_getElem? (i := 145) (by decide +kernel)) rfl
theorem cq_156 : Cond.classLink RX7 23 RX6 ∈ sp_tbl := sp_in (List.mem_of_getElem? (i := 156) (by decide +kernel)) rfl
theorem cq_157 : Cond.instantiable RX6 5 ∈ sp_tbl := sp_in (List.mem_of_getElem? (i := 157) (by decide +kernel)) rfl
theorem cq_158 : Cond.methodLinkNest RX7 25 yX6_init RX7 ∈ sp_nest := sp_inN (List.mem_of_getElem? (i := 158) (by decide +kernel)) rfl
theorem cq_159 : Cond.instanceMethod yX6_init ∈ sp_tbl := sp_in (List.mem_of_getElem? (i := 159) (by decide +kernel)) rfl
theorem cq_160 : Cond.code yX6_init cX6_init 1 none ∈ sp_tbl := sp_in (List.mem_of_getElem? (i := 160) (by decide +kernel)) rfl
theorem cq_161 : Cond.methodLink RX6 3 Lib.objectInit ∈ sp_tbl := sp_in (List.mem_of_getElem? (i := 161) (by decide +kernel)) rfl
theorem cq_162 : Cond.classLink RX6 15 RX2 ∈ sp_tbl := sp_in (List.mem_of_getElem? (i := 162) (by decide +kernel)) rfl
theorem cq_163 : Cond.methodLink RX6 17 yX2_init ∈ sp_tbl := sp_in (List.mem_of_getElem? (i := 163) (by decide +kernel)) rfl
theorem cq_164 : Cond.fieldLink RX6 9 RX6 (TX6 0).2.1 (TX6 0).2.2.1 ∈ sp_tbl := sp_in (List.mem_of_getElem? (i := 164) (by decide +kernel)) rfl
theorem cq_165 : Cond.fieldLink RX6 18 RX6 (TX6 1).2.1 (TX6 1).2.2.1 ∈ sp_tbl := sp_in (List.mem_of_getElem? (i := 165) (by decide +kernel)) rfl
theorem cq_183 : Cond.classLink RX7 30 RX0 ∈ sp_tbl := sp_in (List.mem_of_getElem? (i := 183) (by decide +kernel)) rfl
theorem cq_184 : Cond.instantiable RX0 4 ∈ sp_tbl := sp_in (List.mem_of_getElem? (i := 184) (by decide +kernel)) rfl
theorem cq_185 : Cond.methodLinkNest RX7 32 yX0_init RX7 ∈ sp_nest := sp_inN (List.mem_of_getElem? (i := 185) (by decide +kernel)) rfl
theorem cq_186 : Cond.instanceMethod yX0_init ∈ sp_tbl := sp_in (List.mem_of_getElem? (i := 186) (by decide +kernel)) rfl
theorem cq_187 : Cond.code yX0_init cX0_init 1 none ∈ sp_tbl := sp_in (List.mem_of_getElem? (i := 187) (by decide +kernel)) rfl
theorem cq_188 : Cond.methodLink RX0 3 Lib.objectInit ∈ sp_tbl := sp_in (List.mem_of_getElem? (i := 188) (by decide +kernel)) rfl
theorem cq_189 : Cond.fieldLink RX0 11 RX0 (TX0 0).2.1 (TX0 0).2.2.1 ∈ sp_tbl := sp_in (List.mem_of_getElem? (i := 189) (by decide +kernel)) rfl
theorem cq_191 : Cond.fieldLink RX0 15 RX0 (TX0 1).2.1 (TX0 1).2.2.1 ∈ sp_tbl := sp_in (List.mem_of_getElem? (i := 191) (by decide +kernel)) rfl
theorem cq_206 : Cond.classLink RX7 37 RX4 ∈ sp_tbl := sp_in (List.mem_of_getElem? (i := 206) (by decide +kernel)) rfl
theorem cq_207 : Cond.instantiable RX4 17 ∈ sp_tbl := sp_in (List.mem_of_getElem? (i := 207) (by decide +kernel)) rfl
theorem cq_208 : Cond.methodLink RX7 39 yX4_init ∈ sp_tbl := sp_in (List.mem_of_getElem? (i := 208) (by decide +kernel)) rfl
theorem cq_209 : Cond.instanceMethod yX4_init ∈ sp_tbl := sp_in (List.mem_of_getElem? (i := 209) (by decide +kernel)) rfl
theorem cq_210 : Cond.code yX4_init cX4_init 2 none ∈ sp_tbl := sp_in (List.mem_of_getElem? (i := 210) (by decide +kernel)) rfl
theorem cq_211 : Cond.methodLink RX4 3 Lib.objectInit ∈ sp_tbl := sp_in (List.mem_of_getElem? (i := 211) (by decide +kernel)) rfl
theorem cq_212 : Cond.classLink RX4 36 RX5 ∈ sp_tbl := sp_in (List.mem_of_getElem? (i := 212) (by decide +kernel)) rfl
theorem cq_213 : Cond.instantiable RX5 3 ∈ sp_tbl := sp_in (List.mem_of_getElem? (i := 213) (by decide +kernel)) rfl
theorem cq_214 : Cond.methodLinkNest RX4 38 yX5_init RX7 ∈ sp_nest := sp_inN (List.mem_of_getElem? (i := 214) (by decide +kernel)) rfl
theorem cq_215 : Cond.instanceMethod yX5_init ∈ sp_tbl := sp_in (List.mem_of_getElem? (i := 215) (by decide +kernel)) rfl
theorem cq_216 : Cond.code yX5_init cX5_init 1 none ∈ sp_tbl := sp_in (List.mem_of_getElem? (i := 216) (by decide +kernel)) rfl
theorem cq_217 : Cond.methodLink RX5 3 Lib.objectInit ∈ sp_tbl := sp_in (List.mem_of_getElem? (i := 217) (by decide +kernel)) rfl
theorem cq_231 : Cond.fieldLink RX4 49 RX4 (TX4 0).2.1 (TX4 0).2.2.1 ∈ sp_tbl := sp_in (List.mem_of_getElem? (i := 231) (by decide +kernel)) rfl
theorem cq_232 : Cond.fieldLink RX4 9 RX4 (TX4 1).2.1 (TX4 1).2.2.1 ∈ sp_tbl := sp_in (List.mem_of_getElem? (i := 232) (by decide +kernel)) rfl
theorem cq_233 : Cond.fieldLink RX4 15 RX4 (TX4 2).2.1 (TX4 2).2.2.1 ∈ sp_tbl := sp_in (List.mem_of_getElem? (i := 233) (by decide +kernel)) rfl
theorem cq_234 : Cond.fieldLink RX4 18 RX4 (TX4 3).2.1 (TX4 3).2.2.1 ∈ sp_tbl := sp_in (List.mem_of_getElem? (i := 234) (by decide +kernel)) rfl
theorem cq_236 : Cond.fieldLink RX4 21 RX4 (TX4 4).2.1 (TX4 4).2.2.1 ∈ sp_tbl := sp_in (List.mem_of_getElem? (i := 236) (by decide +kernel)) rfl
theorem cq_237 : Cond.fieldLink RX4 24 RX4 (TX4 5).2.1 (TX4 5).2.2.1 ∈ sp_tbl := sp_in (List.mem_of_getElem? (i := 237) (by decide +kernel)) rfl
theorem cq_238 : Cond.fieldLink RX4 27 RX4 (TX4 6).2.1 (TX4 6).2.2.1 ∈ sp_tbl := sp_in (List.mem_of_getElem? (i := 238) (by decide +kernel)) rfl
theorem cq_239 : Cond.fieldLink RX4 30 RX4 (TX4 7).2.1 (TX4 7).2.2.1 ∈ sp_tbl := sp_in (List.mem_of_getElem? (i := 239) (by decide +kernel)) rfl
theorem cq_240 : Cond.fieldLink RX4 33 RX4 (TX4 8).2.1 (TX4 8).2.2.1 ∈ sp_tbl := sp_in (List.mem_of_getElem? (i := 240) (by decide +kernel)) rfl
theorem cq_241 : Cond.fieldLink RX4 39 RX4 (TX4 9).2.1 (TX4 9).2.2.1 ∈ sp_tbl := sp_in (List.mem_of_getElem? (i := 241) (by decide +kernel)) rfl
theorem cq_253 : Cond.fieldLink RX4 43 RX4 (TX4 15).2.1 (TX4 15).2.2.1 ∈ sp_tbl := sp_in (List.mem_of_getElem? (i := 253) (by decide +kernel)) rfl
theorem cq_255 : Cond.fieldLink RX4 46 RX4 (TX4 16).2.1 (TX4 16).2.2.1 ∈ sp_tbl := sp_in (List.mem_of_getElem? (i := 255) (by decide +kernel)) rfl
theorem cq_292 : Cond.classLink RX7 46 RX3 ∈ sp_tbl := sp_in (List.mem_of_getElem? (i := 292) (by decide +kernel)) rfl
theorem cq_293 : Cond.instantiable RX3 4 ∈ sp_tbl := sp_in (List.mem_of_getElem? (i := 293) (by decide +kernel)) rfl
theorem cq_294 : Cond.methodLink RX7 48 yX3_init ∈ sp_tbl := sp_in (List.mem_of_getElem? (i := 294) (by decide +kernel)) rfl
theorem cq_295 : Cond.instanceMethod yX3_init ∈ sp_tbl := sp_in (List.mem_of_getElem? (i := 295) (by decide +kernel)) rfl
theorem cq_296 : Cond.code yX3_init cX3_init 3 none ∈ sp_tbl := sp_in (List.mem_of_getElem? (i := 296) (by decide +kernel)) rfl
theorem cq_297 : Cond.methodLink RX3 3 Lib.objectInit ∈ sp_tbl := sp_in (List.mem_of_getElem? (i := 297) (by decide +kernel)) rfl
theorem cq_298 : Cond.fieldLink RX3 18 RX3 (TX3 0).2.1 (TX3 0).2.2.1 ∈ sp_tbl := sp_in (List.mem_of_getElem? (i := 298) (by decide +kernel)) rfl
theorem cq_299 : Cond.fieldLink RX3 22 RX3 (TX3 1).2.1 (TX3 1).2.2.1 ∈ sp_tbl := sp_in (List.mem_of_getElem? (i := 299) (by decide +kernel)) rfl
theorem cq_300 : Cond.fieldLink RX3 9 RX3 (TX3 2).2.1 (TX3 2).2.2.1 ∈ sp_tbl := sp_in (List.mem_of_getElem? (i := 300) (by decide +kernel)) rfl
theorem cq_301 : Cond.fieldLink RX3 15 RX3 (TX3 3).2.1 (TX3 3).2.2.1 ∈ sp_tbl := sp_in (List.mem_of_getElem? (i := 301) (by decide +kernel)) rfl
theorem cq_312 : Cond.fieldLink RX7 12 RX7 (TX7 0).2.1 (TX7 0).2.2.1 ∈ sp_tbl := sp_in (List.mem_of_getElem? (i := 312) (by decide +kernel)) rfl
theorem cq_313 : Cond.fieldLink RX7 19 RX7 (TX7 1).2.1 (TX7 1).2.2.1 ∈ sp_tbl := sp_in (List.mem_of_getElem? (i := 313) (by decide +kernel)) rfl
theorem cq_314 : Cond.fieldLink RX7 26 RX7 (TX7 2).2.1 (TX7 2).2.2.1 ∈ sp_tbl := sp_in (List.mem_of_getElem? (i := 314) (by decide +kernel)) rfl
theorem cq_315 : Cond.fieldLink RX7 33 RX7 (TX7 3).2.1 (TX7 3).2.2.1 ∈ sp_tbl := sp_in (List.mem_of_getElem? (i := 315) (by decide +kernel)) rfl
theorem cq_316 : Cond.fieldLink RX7 42 RX7 (TX7 4).2.1 (TX7 4).2.2.1 ∈ sp_tbl := sp_in (List.mem_of_getElem? (i := 316) (by decide +kernel)) rfl
theorem cq_317 : Cond.fieldLink RX7 51 RX7 (TX7 5).2.1 (TX7 5).2.2.1 ∈ sp_tbl := sp_in (List.mem_of_getElem? (i := 317) (by decide +kernel)) rfl
theorem cq_324 : Cond.fieldLink RX7 55 RX7 (TX7 12).2.1 (TX7 12).2.2.1 ∈ sp_tbl := sp_in (List.mem_of_getElem? (i := 324) (by decide +kernel)) rfl
theorem cq_800 : Cond.instantiable RX8 27 ∈ sp_tbl := sp_in (List.mem_of_getElem? (i := 800) (by decide +kernel)) rfl
theorem cq_804 : Cond.methodLink RX8 1 Lib.objectInit ∈ sp_tbl := sp_in (List.mem_of_getElem? (i := 804) (by decide +kernel)) rfl
theorem cq_805 : Cond.methodLink RX8 53 yX8_asAtFirst ∈ sp_tbl := sp_in (List.mem_of_getElem? (i := 805) (by decide +kernel)) rfl
theorem cq_806 : Cond.static yX8_asAtFirst ∈ sp_tbl := sp_in (List.mem_of_getElem? (i := 806) (by decide +kernel)) rfl
theorem cq_807 : Cond.code yX8_asAtFirst cX8_asAtFirst 3 none ∈ sp_tbl := sp_in (List.mem_of_getElem? (i := 807) (by decide +kernel)) rfl
theorem cq_811 : Cond.fieldLink RX8 7 RX8 (TX8 0).2.1 (TX8 0).2.2.1 ∈ sp_tbl := sp_in (List.mem_of_getElem? (i := 811) (by decide +kernel)) rfl
theorem cq_812 : Cond.fieldLink RX8 13 RX8 (TX8 1).2.1 (TX8 1).2.2.1 ∈ sp_tbl := sp_in (List.mem_of_getElem? (i := 812) (by decide +kernel)) rfl
theorem cq_815 : Cond.fieldLink RX8 16 RX8 (TX8 4).2.1 (TX8 4).2.2.1 ∈ sp_tbl := sp_in (List.mem_of_getElem? (i := 815) (by decide +kernel)) rfl
theorem cq_817 : Cond.fieldLink RX8 19 RX8 (TX8 6).2.1 (TX8 6).2.2.1 ∈ sp_tbl := sp_in (List.mem_of_getElem? (i := 817) (by decide +kernel)) rfl
theorem cq_820 : Cond.fieldLink RX8 22 RX8 (TX8 9).2.1 (TX8 9).2.2.1 ∈ sp_tbl := sp_in (List.mem_of_getElem? (i := 820) (by decide +kernel)) rfl
theorem cq_822 : Cond.fieldLink RX8 25 RX8 (TX8 11).2.1 (TX8 11).2.2.1 ∈ sp_tbl := sp_in (List.mem_of_getElem? (i := 822) (by decide +kernel)) rfl
theorem cq_823 : Cond.fieldLink RX8 29 RX8 (TX8 12).2.1 (TX8 12).2.2.1 ∈ sp_tbl := sp_in (List.mem_of_getElem? (i := 823) (by decide +kernel)) rfl
theorem cq_824 : Cond.fieldLink RX8 32 RX8 (TX8 13).2.1 (TX8 13).2.2.1 ∈ sp_tbl := sp_in (List.mem_of_getElem? (i := 824) (by decide +kernel)) rfl
theorem cq_825 : Cond.fieldLink RX8 35 RX8 (TX8 14).2.1 (TX8 14).2.2.1 ∈ sp_tbl := sp_in (List.mem_of_getElem? (i := 825) (by decide +kernel)) rfl
theorem cq_826 : Cond.fieldLink RX8 38 RX8 (TX8 15).2.1 (TX8 15).2.2.1 ∈ sp_tbl := sp_in (List.mem_of_getElem? (i := 826) (by decide +kernel)) rfl
theorem cq_827 : Cond.fieldLink RX8 41 RX8 (TX8 16).2.1 (TX8 16).2.2.1 ∈ sp_tbl := sp_in (List.mem_of_getElem? (i := 827) (by decide +kernel)) rfl
theorem cq_828 : Cond.fieldLink RX8 44 RX8 (TX8 17).2.1 (TX8 17).2.2.1 ∈ sp_tbl := sp_in (List.mem_of_getElem? (i := 828) (by decide +kernel)) rfl
theorem cq_835 : Cond.fieldLink RX8 47 RX8 (TX8 24).2.1 (TX8 24).2.2.1 ∈ sp_tbl := sp_in (List.mem_of_getElem? (i := 835) (by decide +kernel)) rfl
theorem cq_837 : Cond.fieldLink RX8 50 RX8 (TX8 26).2.1 (TX8 26).2.2.1 ∈ sp_tbl := sp_in (List.mem_of_getElem? (i := 837) (by decide +kernel)) rfl
