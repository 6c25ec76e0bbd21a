/-! words for constructors and law, by their places -/
theorem cq_77 : Cond.initialized RX2 ∈ sp_tbl := sp_in (List.mem_of_getElem? (i := 77) (by decide +kernel)) rfl
theorem cq_82 : Cond.initialized RX5 ∈ sp_tbl := sp_in (List.mem_of_getElem? (i := 82) (by decide +kernel)) rfl
theorem cq_93 : Cond.instanceMethod Lib.objectInit ∈ sp_tbl := sp_in (List.mem_of_getElem? (i := 93) (by decide +kernel)) rfl
theorem cq_94 : Cond.code Lib.objectInit ⟨#[0xb1]⟩ 1 none ∈ sp_tbl := sp_in (List.mem_of_getElem? (i := 94) (by decide +kernel)) rfl
theorem cq_96 : Cond.instantiable RX2 3 ∈ sp_tbl := sp_in (List.mem_of_getElem? (i := 96) (by decide +kernel)) rfl
theorem cq_98 : Cond.instanceMethod yX2_init ∈ sp_tbl := sp_in (List.mem_of_getElem? (i := 98) (by decide +kernel)) rfl
theorem cq_99 : Cond.code yX2_init cX2_init 1 none ∈ sp_tbl := sp_in (List.mem_of_getElem? (i := 99) (by decide +kernel)) rfl
theorem cq_100 : Cond.methodLink RX2 3 Lib.objectInit ∈ sp_tbl := sp_in (List.mem_of_getElem? (i := 100) (by decide +kernel)) rfl
theorem cq_101 : Cond.classLink RX2 9 "[[I" ∈ sp_tbl := sp_in (List.mem_of_getElem? (i := 101) (by decide +kernel)) rfl
theorem cq_103 : Cond.methodLink RX2 20 yX2_restart ∈ sp_tbl := sp_in (List.mem_of_getElem? (i := 103) (by decide +kernel)) rfl
theorem cq_104 : Cond.instanceMethod yX2_restart ∈ sp_tbl := sp_in (List.mem_of_getElem? (i := 104) (by decide +kernel)) rfl
theorem cq_105 : Cond.selects RX2 yX2_restart yX2_restart ∈ sp_tbl := sp_in (List.mem_of_getElem? (i := 105) (by decide +kernel)) rfl
theorem cq_106 : Cond.code yX2_restart cX2_restart 3 none ∈ sp_tbl := sp_in (List.mem_of_getElem? (i := 106) (by decide +kernel)) rfl
theorem cq_117 : Cond.fieldLink RX2 11 RX2 (TX2 1).2.1 (TX2 1).2.2.1 ∈ sp_tbl := sp_in (List.mem_of_getElem? (i := 117) (by decide +kernel)) rfl
theorem cq_122 : Cond.fieldLink RX2 16 RX2 (TX2 2).2.1 (TX2 2).2.2.1 ∈ sp_tbl := sp_in (List.mem_of_getElem? (i := 122) (by decide +kernel)) rfl
theorem cq_135 : Cond.arrayClass .int ∈ sp_tbl := sp_in (List.mem_of_getElem? (i := 135) (by decide +kernel)) rfl
theorem cq_141 : Cond.methodLink RX1 3 Lib.objectInit ∈ sp_tbl := sp_in (List.mem_of_getElem? (i := 141) (by decide +kernel)) rfl
theorem cq_142 : Cond.classLink RX1 9 RX2 ∈ sp_tbl := sp_in (List.mem_of_getElem? (i := 142) (by decide +kernel)) rfl
theorem cq_144 : Cond.methodLink RX1 17 yX2_init ∈ sp_tbl := sp_in (List.mem_of_getElem? (i := 144) (by decide +kernel)) rfl
theorem cq_145 : Cond.fieldLink RX1 11 RX1 (TX1 0).2.1 (TX1 0).2.2.1 ∈ sp_tbl := sp_in (List.mem_of_getElem? (i := 145) (by decide +kernel)) rfl
theorem cq_161 : Cond.methodLink RX6 3 Lib.objectInit ∈ sp_tbl := sp_in (List.mem_of_getElem? (i := 161) (by decide +kernel)) rfl
theorem cq_162 : Cond.classLink RX6 15 RX2 ∈ sp_tbl := sp_in (List.mem_of_getElem? (i := 162) (by decide +kernel)) rfl
theorem cq_163 : Cond.methodLink RX6 17 yX2_init ∈ sp_tbl := sp_in (List.mem_of_getElem? (i := 163) (by decide +kernel)) rfl
theorem cq_164 : Cond.fieldLink RX6 9 RX6 (TX6 0).2.1 (TX6 0).2.2.1 ∈ sp_tbl := sp_in (List.mem_of_getElem? (i := 164) (by decide +kernel)) rfl
theorem cq_165 : Cond.fieldLink RX6 18 RX6 (TX6 1).2.1 (TX6 1).2.2.1 ∈ sp_tbl := sp_in (List.mem_of_getElem? (i := 165) (by decide +kernel)) rfl
theorem cq_188 : Cond.methodLink RX0 3 Lib.objectInit ∈ sp_tbl := sp_in (List.mem_of_getElem? (i := 188) (by decide +kernel)) rfl
theorem cq_189 : Cond.fieldLink RX0 11 RX0 (TX0 0).2.1 (TX0 0).2.2.1 ∈ sp_tbl := sp_in (List.mem_of_getElem? (i := 189) (by decide +kernel)) rfl
theorem cq_191 : Cond.fieldLink RX0 15 RX0 (TX0 1).2.1 (TX0 1).2.2.1 ∈ sp_tbl := sp_in (List.mem_of_getElem? (i := 191) (by decide +kernel)) rfl
theorem cq_211 : Cond.methodLink RX4 3 Lib.objectInit ∈ sp_tbl := sp_in (List.mem_of_getElem? (i := 211) (by decide +kernel)) rfl
theorem cq_212 : Cond.classLink RX4 36 RX5 ∈ sp_tbl := sp_in (List.mem_of_getElem? (i := 212) (by decide +kernel)) rfl
theorem cq_213 : Cond.instantiable RX5 3 ∈ sp_tbl := sp_in (List.mem_of_getElem? (i := 213) (by decide +kernel)) rfl
theorem cq_214 : Cond.methodLinkNest RX4 38 yX5_init RX7 ∈ sp_nest := sp_inN (List.mem_of_getElem? (i := 214) (by decide +kernel)) rfl
theorem cq_215 : Cond.instanceMethod yX5_init ∈ sp_tbl := sp_in (List.mem_of_getElem? (i := 215) (by decide +kernel)) rfl
theorem cq_216 : Cond.code yX5_init cX5_init 1 none ∈ sp_tbl := sp_in (List.mem_of_getElem? (i := 216) (by decide +kernel)) rfl
theorem cq_217 : Cond.methodLink RX5 3 Lib.objectInit ∈ sp_tbl := sp_in (List.mem_of_getElem? (i := 217) (by decide +kernel)) rfl
theorem cq_231 : Cond.fieldLink RX4 49 RX4 (TX4 0).2.1 (TX4 0).2.2.1 ∈ sp_tbl := sp_in (List.mem_of_getElem? (i := 231) (by decide +kernel)) rfl
theorem cq_232 : Cond.fieldLink RX4 9 RX4 (TX4 1).2.1 (TX4 1).2.2.1 ∈ sp_tbl := sp_in (List.mem_of_getElem? (i := 232) (by decide +kernel)) rfl
theorem cq_233 : Cond.fieldLink RX4 15 RX4 (TX4 2).2.1 (TX4 2).2.2.1 ∈ sp_tbl := sp_in (List.mem_of_getElem? (i := 233) (by decide +kernel)) rfl
theorem cq_234 : Cond.fieldLink RX4 18 RX4 (TX4 3).2.1 (TX4 3).2.2.1 ∈ sp_tbl := sp_in (List.mem_of_getElem? (i := 234) (by decide +kernel)) rfl
theorem cq_236 : Cond.fieldLink RX4 21 RX4 (TX4 4).2.1 (TX4 4).2.2.1 ∈ sp_tbl := sp_in (List.mem_of_getElem? (i := 236) (by decide +kernel)) rfl
theorem cq_237 : Cond.fieldLink RX4 24 RX4 (TX4 5).2.1 (TX4 5).2.2.1 ∈ sp_tbl := sp_in (List.mem_of_getElem? (i := 237) (by decide +kernel)) rfl
theorem cq_238 : Cond.fieldLink RX4 27 RX4 (TX4 6).2.1 (TX4 6).2.2.1 ∈ sp_tbl := sp_in (List.mem_of_getElem? (i := 238) (by decide +kernel)) rfl
theorem cq_239 : Cond.fieldLink RX4 30 RX4 (TX4 7).2.1 (TX4 7).2.2.1 ∈ sp_tbl := sp_in (List.mem_of_getElem? (i := 239) (by decide +kernel)) rfl
theorem cq_240 : Cond.fieldLink RX4 33 RX4 (TX4 8).2.1 (TX4 8).2.2.1 ∈ sp_tbl := sp_in (List.mem_of_getElem? (i := 240) (by decide +kernel)) rfl
theorem cq_241 : Cond.fieldLink RX4 39 RX4 (TX4 9).2.1 (TX4 9).2.2.1 ∈ sp_tbl := sp_in (List.mem_of_getElem? (i := 241) (by decide +kernel)) rfl
theorem cq_253 : Cond.fieldLink RX4 43 RX4 (TX4 15).2.1 (TX4 15).2.2.1 ∈ sp_tbl := sp_in (List.mem_of_getElem? (i := 253) (by decide +kernel)) rfl
theorem cq_255 : Cond.fieldLink RX4 46 RX4 (TX4 16).2.1 (TX4 16).2.2.1 ∈ sp_tbl := sp_in (List.mem_of_getElem? (i := 255) (by decide +kernel)) rfl
theorem cq_297 : Cond.methodLink RX3 3 Lib.objectInit ∈ sp_tbl := sp_in (List.mem_of_getElem? (i := 297) (by decide +kernel)) rfl
theorem cq_298 : Cond.fieldLink RX3 18 RX3 (TX3 0).2.1 (TX3 0).2.2.1 ∈ sp_tbl := sp_in (List.mem_of_getElem? (i := 298) (by decide +kernel)) rfl
theorem cq_299 : Cond.fieldLink RX3 22 RX3 (TX3 1).2.1 (TX3 1).2.2.1 ∈ sp_tbl := sp_in (List.mem_of_getElem? (i := 299) (by decide +kernel)) rfl
theorem cq_300 : Cond.fieldLink RX3 9 RX3 (TX3 2).2.1 (TX3 2).2.2.1 ∈ sp_tbl := sp_in (List.mem_of_getElem? (i := 300) (by decide +kernel)) rfl
theorem cq_301 : Cond.fieldLink RX3 15 RX3 (TX3 3).2.1 (TX3 3).2.2.1 ∈ sp_tbl := sp_in (List.mem_of_getElem? (i := 301) (by decide +kernel)) rfl
