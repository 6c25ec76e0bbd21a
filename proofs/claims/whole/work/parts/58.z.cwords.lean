/-! words for constructors and law, by their places -/
theorem cq_77 : Cond.initialized RX2 ∈ sp_tbl := sp_in (List.mem_of_getElem? (i := 77) (by decide +kernel)) rfl
theorem cq_93 : Cond.instanceMethod Lib.objectInit ∈ sp_tbl := sp_in (List.mem_of_getElem? (i := 93) (by decide +kernel)) rfl
theorem cq_94 : Cond.code Lib.objectInit ⟨#[0xb1]⟩ 1 none ∈ sp_tbl := sp_in (List.mem_of_getElem? (i := 94) (by decide +kernel)) rfl
theorem cq_100 : Cond.methodLink RX2 3 Lib.objectInit ∈ sp_tbl := sp_in (List.mem_of_getElem? (i := 100) (by decide +kernel)) rfl
theorem cq_101 : Cond.classLink RX2 9 "[[I" ∈ sp_tbl := sp_in (List.mem_of_getElem? (i := 101) (by decide +kernel)) rfl
theorem cq_103 : Cond.methodLink RX2 20 yX2_restart ∈ sp_tbl := sp_in (List.mem_of_getElem? (i := 103) (by decide +kernel)) rfl
theorem cq_104 : Cond.instanceMethod yX2_restart ∈ sp_tbl := sp_in (List.mem_of_getElem? (i := 104) (by decide +kernel)) rfl
theorem cq_105 : Cond.selects RX2 yX2_restart yX2_restart ∈ sp_tbl := sp_in (List.mem_of_getElem? (i := 105) (by decide +kernel)) rfl
theorem cq_106 : Cond.code yX2_restart cX2_restart 3 none ∈ sp_tbl := sp_in (List.mem_of_getElem? (i := 106) (by decide +kernel)) rfl
theorem cq_117 : Cond.fieldLink RX2 11 RX2 (TX2 1).2.1 (TX2 1).2.2.1 ∈ sp_tbl := sp_in (List.mem_of_getElem? (i := 117) (by decide +kernel)) rfl
theorem cq_122 : Cond.fieldLink RX2 16 RX2 (TX2 2).2.1 (TX2 2).2.2.1 ∈ sp_tbl := sp_in (List.mem_of_getElem? (i := 122) (by decide +kernel)) rfl
theorem cq_135 : Cond.arrayClass .int ∈ sp_tbl := sp_in (List.mem_of_getElem? (i := 135) (by decide +kernel)) rfl
