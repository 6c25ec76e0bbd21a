/-- a private method of a class that the tables say can be made, by its rows of tables_1 -/
def lw_okq (q : MethodName × Nat) : Prop := (q.1.cls ≠ "java/lang/invoke/MethodHandle" ∧ q.1.cls ≠ "java/lang/invoke/VarHandle") ∧ Cond.instantiable q.1.cls q.2 ∈ tables_1 ∧ Cond.privateMethod q.1 ∈ tables_1 ∧ Cond.instanceMethod q.1 ∈ tables_1
theorem lw_p0 : lw_okq (⟨"SpanSpotter", "fails", "(I)I"⟩, 13) := ⟨⟨by decide +kernel, by decide +kernel⟩, List.mem_of_getElem? (i := 13) (by decide +kernel), List.mem_of_getElem? (i := 285) (by decide +kernel), List.mem_of_getElem? (i := 286) (by decide +kernel)⟩
theorem lw_p1 : lw_okq (⟨"SpanSpotter$Text", "parseHeights", "()Z"⟩, 5) := ⟨⟨by decide +kernel, by decide +kernel⟩, List.mem_of_getElem? (i := 82) (by decide +kernel), List.mem_of_getElem? (i := 306) (by decide +kernel), List.mem_of_getElem? (i := 307) (by decide +kernel)⟩
theorem lw_p2 : lw_okq (⟨"SpanSpotter$Text", "accept", "(C)Z"⟩, 5) := ⟨⟨by decide +kernel, by decide +kernel⟩, List.mem_of_getElem? (i := 82) (by decide +kernel), List.mem_of_getElem? (i := 310) (by decide +kernel), List.mem_of_getElem? (i := 311) (by decide +kernel)⟩
theorem lw_p3 : lw_okq (⟨"SpanSpotter$Text", "peek", "()I"⟩, 5) := ⟨⟨by decide +kernel, by decide +kernel⟩, List.mem_of_getElem? (i := 82) (by decide +kernel), List.mem_of_getElem? (i := 314) (by decide +kernel), List.mem_of_getElem? (i := 315) (by decide +kernel)⟩
theorem lw_p4 : lw_okq (⟨"SpanSpotter$Text", "parseNumber", "(III)I"⟩, 5) := ⟨⟨by decide +kernel, by decide +kernel⟩, List.mem_of_getElem? (i := 82) (by decide +kernel), List.mem_of_getElem? (i := 321) (by decide +kernel), List.mem_of_getElem? (i := 322) (by decide +kernel)⟩
theorem lw_p5 : lw_okq (⟨"SpanSpotter$Text", "parseItem", "()Z"⟩, 5) := ⟨⟨by decide +kernel, by decide +kernel⟩, List.mem_of_getElem? (i := 82) (by decide +kernel), List.mem_of_getElem? (i := 325) (by decide +kernel), List.mem_of_getElem? (i := 326) (by decide +kernel)⟩
theorem lw_p6 : lw_okq (⟨"SpanSpotter$Text", "parseClearances", "()Z"⟩, 5) := ⟨⟨by decide +kernel, by decide +kernel⟩, List.mem_of_getElem? (i := 82) (by decide +kernel), List.mem_of_getElem? (i := 329) (by decide +kernel), List.mem_of_getElem? (i := 330) (by decide +kernel)⟩
theorem lw_p7 : lw_okq (⟨"SpanSpotter$Text", "parsePrice", "()Z"⟩, 5) := ⟨⟨by decide +kernel, by decide +kernel⟩, List.mem_of_getElem? (i := 82) (by decide +kernel), List.mem_of_getElem? (i := 333) (by decide +kernel), List.mem_of_getElem? (i := 334) (by decide +kernel)⟩
theorem lw_p8 : lw_okq (⟨"SpanSpotter$Text", "parseBar", "()Z"⟩, 5) := ⟨⟨by decide +kernel, by decide +kernel⟩, List.mem_of_getElem? (i := 82) (by decide +kernel), List.mem_of_getElem? (i := 337) (by decide +kernel), List.mem_of_getElem? (i := 338) (by decide +kernel)⟩
theorem lw_p9 : lw_okq (⟨"SpanSpotter$Text", "parseSetting", "(IC)Z"⟩, 5) := ⟨⟨by decide +kernel, by decide +kernel⟩, List.mem_of_getElem? (i := 82) (by decide +kernel), List.mem_of_getElem? (i := 341) (by decide +kernel), List.mem_of_getElem? (i := 342) (by decide +kernel)⟩
theorem lw_p10 : lw_okq (⟨"SpanSpotter", "saveForChange", "()V"⟩, 13) := ⟨⟨by decide +kernel, by decide +kernel⟩, List.mem_of_getElem? (i := 13) (by decide +kernel), List.mem_of_getElem? (i := 349) (by decide +kernel), List.mem_of_getElem? (i := 350) (by decide +kernel)⟩
theorem lw_p11 : lw_okq (⟨"SpanSpotter", "forgetSearch", "()V"⟩, 13) := ⟨⟨by decide +kernel, by decide +kernel⟩, List.mem_of_getElem? (i := 13) (by decide +kernel), List.mem_of_getElem? (i := 365) (by decide +kernel), List.mem_of_getElem? (i := 366) (by decide +kernel)⟩
theorem lw_p12 : lw_okq (⟨"SpanSpotter$Flaws", "inspect", "(LSpanSpotter$Line;I)V"⟩, 4) := ⟨⟨by decide +kernel, by decide +kernel⟩, List.mem_of_getElem? (i := 109) (by decide +kernel), List.mem_of_getElem? (i := 435) (by decide +kernel), List.mem_of_getElem? (i := 436) (by decide +kernel)⟩
theorem lw_p13 : lw_okq (⟨"SpanSpotter$Flaws", "add", "(II)V"⟩, 4) := ⟨⟨by decide +kernel, by decide +kernel⟩, List.mem_of_getElem? (i := 109) (by decide +kernel), List.mem_of_getElem? (i := 440) (by decide +kernel), List.mem_of_getElem? (i := 441) (by decide +kernel)⟩
theorem lw_p14 : lw_okq (⟨"SpanSpotter", "keepFraction", "(JJ)V"⟩, 13) := ⟨⟨by decide +kernel, by decide +kernel⟩, List.mem_of_getElem? (i := 13) (by decide +kernel), List.mem_of_getElem? (i := 493) (by decide +kernel), List.mem_of_getElem? (i := 494) (by decide +kernel)⟩
theorem lw_p15 : lw_okq (⟨"SpanSpotter", "findCheapest", "()V"⟩, 13) := ⟨⟨by decide +kernel, by decide +kernel⟩, List.mem_of_getElem? (i := 13) (by decide +kernel), List.mem_of_getElem? (i := 521) (by decide +kernel), List.mem_of_getElem? (i := 522) (by decide +kernel)⟩
def lw_privs_1 : List (MethodName × Nat) := [(⟨"SpanSpotter", "fails", "(I)I"⟩, 13), (⟨"SpanSpotter$Text", "parseHeights", "()Z"⟩, 5), (⟨"SpanSpotter$Text", "accept", "(C)Z"⟩, 5), (⟨"SpanSpotter$Text", "peek", "()I"⟩, 5), (⟨"SpanSpotter$Text", "parseNumber", "(III)I"⟩, 5), (⟨"SpanSpotter$Text", "parseItem", "()Z"⟩, 5), (⟨"SpanSpotter$Text", "parseClearances", "()Z"⟩, 5), (⟨"SpanSpotter$Text", "parsePrice", "()Z"⟩, 5), (⟨"SpanSpotter$Text", "parseBar", "()Z"⟩, 5), (⟨"SpanSpotter$Text", "parseSetting", "(IC)Z"⟩, 5), (⟨"SpanSpotter", "saveForChange", "()V"⟩, 13), (⟨"SpanSpotter", "forgetSearch", "()V"⟩, 13), (⟨"SpanSpotter$Flaws", "inspect", "(LSpanSpotter$Line;I)V"⟩, 4), (⟨"SpanSpotter$Flaws", "add", "(II)V"⟩, 4), (⟨"SpanSpotter", "keepFraction", "(JJ)V"⟩, 13), (⟨"SpanSpotter", "findCheapest", "()V"⟩, 13)]
theorem lw_r1 : ∀ q ∈ lw_privs_1, lw_okq q := List.forall_mem_cons.mpr ⟨lw_p0, List.forall_mem_cons.mpr ⟨lw_p1, List.forall_mem_cons.mpr ⟨lw_p2, List.forall_mem_cons.mpr ⟨lw_p3, List.forall_mem_cons.mpr ⟨lw_p4, List.forall_mem_cons.mpr ⟨lw_p5, List.forall_mem_cons.mpr ⟨lw_p6, List.forall_mem_cons.mpr ⟨lw_p7, List.forall_mem_cons.mpr ⟨lw_p8, List.forall_mem_cons.mpr ⟨lw_p9, List.forall_mem_cons.mpr ⟨lw_p10, List.forall_mem_cons.mpr ⟨lw_p11, List.forall_mem_cons.mpr ⟨lw_p12, List.forall_mem_cons.mpr ⟨lw_p13, List.forall_mem_cons.mpr ⟨lw_p14, List.forall_mem_cons.mpr ⟨lw_p15, fun _ h => absurd h List.not_mem_nil⟩⟩⟩⟩⟩⟩⟩⟩⟩⟩⟩⟩⟩⟩⟩⟩
theorem lw_p16 : lw_okq (⟨"SpanSpotter$Search", "weighTowers", "()V"⟩, 17) := ⟨⟨by decide +kernel, by decide +kernel⟩, List.mem_of_getElem? (i := 132) (by decide +kernel), List.mem_of_getElem? (i := 529) (by decide +kernel), List.mem_of_getElem? (i := 530) (by decide +kernel)⟩
theorem lw_p17 : lw_okq (⟨"SpanSpotter$Search", "tallySpansFrom", "(II)V"⟩, 17) := ⟨⟨by decide +kernel, by decide +kernel⟩, List.mem_of_getElem? (i := 132) (by decide +kernel), List.mem_of_getElem? (i := 537) (by decide +kernel), List.mem_of_getElem? (i := 538) (by decide +kernel)⟩
theorem lw_p18 : lw_okq (⟨"SpanSpotter$Search", "tallySpan", "(IIII)V"⟩, 17) := ⟨⟨by decide +kernel, by decide +kernel⟩, List.mem_of_getElem? (i := 132) (by decide +kernel), List.mem_of_getElem? (i := 545) (by decide +kernel), List.mem_of_getElem? (i := 546) (by decide +kernel)⟩
theorem lw_p19 : lw_okq (⟨"SpanSpotter$Search", "mayStand", "(I)Z"⟩, 17) := ⟨⟨by decide +kernel, by decide +kernel⟩, List.mem_of_getElem? (i := 132) (by decide +kernel), List.mem_of_getElem? (i := 562) (by decide +kernel), List.mem_of_getElem? (i := 563) (by decide +kernel)⟩
theorem lw_p20 : lw_okq (⟨"SpanSpotter$Search", "addAnchor", "(II)V"⟩, 17) := ⟨⟨by decide +kernel, by decide +kernel⟩, List.mem_of_getElem? (i := 132) (by decide +kernel), List.mem_of_getElem? (i := 567) (by decide +kernel), List.mem_of_getElem? (i := 568) (by decide +kernel)⟩
theorem lw_p21 : lw_okq (⟨"SpanSpotter$Search", "addFollowing", "(IIII)V"⟩, 17) := ⟨⟨by decide +kernel, by decide +kernel⟩, List.mem_of_getElem? (i := 132) (by decide +kernel), List.mem_of_getElem? (i := 588) (by decide +kernel), List.mem_of_getElem? (i := 589) (by decide +kernel)⟩
theorem lw_p22 : lw_okq (⟨"SpanSpotter$Search", "tallyOpen", "(II)V"⟩, 17) := ⟨⟨by decide +kernel, by decide +kernel⟩, List.mem_of_getElem? (i := 132) (by decide +kernel), List.mem_of_getElem? (i := 596) (by decide +kernel), List.mem_of_getElem? (i := 597) (by decide +kernel)⟩
theorem lw_p23 : lw_okq (⟨"SpanSpotter$Search", "tallyPlans", "()V"⟩, 17) := ⟨⟨by decide +kernel, by decide +kernel⟩, List.mem_of_getElem? (i := 132) (by decide +kernel), List.mem_of_getElem? (i := 601) (by decide +kernel), List.mem_of_getElem? (i := 602) (by decide +kernel)⟩
theorem lw_p24 : lw_okq (⟨"SpanSpotter$Search", "pickFirst", "()V"⟩, 17) := ⟨⟨by decide +kernel, by decide +kernel⟩, List.mem_of_getElem? (i := 132) (by decide +kernel), List.mem_of_getElem? (i := 610) (by decide +kernel), List.mem_of_getElem? (i := 611) (by decide +kernel)⟩
theorem lw_p25 : lw_okq (⟨"SpanSpotter$Search", "pick", "(II)V"⟩, 17) := ⟨⟨by decide +kernel, by decide +kernel⟩, List.mem_of_getElem? (i := 132) (by decide +kernel), List.mem_of_getElem? (i := 614) (by decide +kernel), List.mem_of_getElem? (i := 615) (by decide +kernel)⟩
theorem lw_p26 : lw_okq (⟨"SpanSpotter$Search", "pickNext", "(IIII)I"⟩, 17) := ⟨⟨by decide +kernel, by decide +kernel⟩, List.mem_of_getElem? (i := 132) (by decide +kernel), List.mem_of_getElem? (i := 618) (by decide +kernel), List.mem_of_getElem? (i := 619) (by decide +kernel)⟩
theorem lw_p27 : lw_okq (⟨"SpanSpotter$Search", "weightWith", "(III)I"⟩, 17) := ⟨⟨by decide +kernel, by decide +kernel⟩, List.mem_of_getElem? (i := 132) (by decide +kernel), List.mem_of_getElem? (i := 622) (by decide +kernel), List.mem_of_getElem? (i := 623) (by decide +kernel)⟩
theorem lw_p28 : lw_okq (⟨"SpanSpotter", "findPassages", "()V"⟩, 13) := ⟨⟨by decide +kernel, by decide +kernel⟩, List.mem_of_getElem? (i := 13) (by decide +kernel), List.mem_of_getElem? (i := 638) (by decide +kernel), List.mem_of_getElem? (i := 639) (by decide +kernel)⟩
theorem lw_p29 : lw_okq (⟨"SpanSpotter$Passage", "traceFrom", "(II)V"⟩, 4) := ⟨⟨by decide +kernel, by decide +kernel⟩, List.mem_of_getElem? (i := 218) (by decide +kernel), List.mem_of_getElem? (i := 647) (by decide +kernel), List.mem_of_getElem? (i := 648) (by decide +kernel)⟩
theorem lw_p30 : lw_okq (⟨"SpanSpotter$Passage", "leastInto", "(III)I"⟩, 4) := ⟨⟨by decide +kernel, by decide +kernel⟩, List.mem_of_getElem? (i := 218) (by decide +kernel), List.mem_of_getElem? (i := 653) (by decide +kernel), List.mem_of_getElem? (i := 654) (by decide +kernel)⟩
theorem lw_p31 : lw_okq (⟨"SpanSpotterModel", "no", "()I"⟩, 27) := ⟨⟨by decide +kernel, by decide +kernel⟩, List.mem_of_getElem? (i := 725) (by decide +kernel), List.mem_of_getElem? (i := 823) (by decide +kernel), List.mem_of_getElem? (i := 824) (by decide +kernel)⟩
def lw_privs_2 : List (MethodName × Nat) := [(⟨"SpanSpotter$Search", "weighTowers", "()V"⟩, 17), (⟨"SpanSpotter$Search", "tallySpansFrom", "(II)V"⟩, 17), (⟨"SpanSpotter$Search", "tallySpan", "(IIII)V"⟩, 17), (⟨"SpanSpotter$Search", "mayStand", "(I)Z"⟩, 17), (⟨"SpanSpotter$Search", "addAnchor", "(II)V"⟩, 17), (⟨"SpanSpotter$Search", "addFollowing", "(IIII)V"⟩, 17), (⟨"SpanSpotter$Search", "tallyOpen", "(II)V"⟩, 17), (⟨"SpanSpotter$Search", "tallyPlans", "()V"⟩, 17), (⟨"SpanSpotter$Search", "pickFirst", "()V"⟩, 17), (⟨"SpanSpotter$Search", "pick", "(II)V"⟩, 17), (⟨"SpanSpotter$Search", "pickNext", "(IIII)I"⟩, 17), (⟨"SpanSpotter$Search", "weightWith", "(III)I"⟩, 17), (⟨"SpanSpotter", "findPassages", "()V"⟩, 13), (⟨"SpanSpotter$Passage", "traceFrom", "(II)V"⟩, 4), (⟨"SpanSpotter$Passage", "leastInto", "(III)I"⟩, 4), (⟨"SpanSpotterModel", "no", "()I"⟩, 27)]
theorem lw_r2 : ∀ q ∈ lw_privs_2, lw_okq q := List.forall_mem_cons.mpr ⟨lw_p16, List.forall_mem_cons.mpr ⟨lw_p17, List.forall_mem_cons.mpr ⟨lw_p18, List.forall_mem_cons.mpr ⟨lw_p19, List.forall_mem_cons.mpr ⟨lw_p20, List.forall_mem_cons.mpr ⟨lw_p21, List.forall_mem_cons.mpr ⟨lw_p22, List.forall_mem_cons.mpr ⟨lw_p23, List.forall_mem_cons.mpr ⟨lw_p24, List.forall_mem_cons.mpr ⟨lw_p25, List.forall_mem_cons.mpr ⟨lw_p26, List.forall_mem_cons.mpr ⟨lw_p27, List.forall_mem_cons.mpr ⟨lw_p28, List.forall_mem_cons.mpr ⟨lw_p29, List.forall_mem_cons.mpr ⟨lw_p30, List.forall_mem_cons.mpr ⟨lw_p31, fun _ h => absurd h List.not_mem_nil⟩⟩⟩⟩⟩⟩⟩⟩⟩⟩⟩⟩⟩⟩⟩⟩
theorem lw_p32 : lw_okq (⟨"SpanSpotterModel", "bad", "()I"⟩, 27) := ⟨⟨by decide +kernel, by decide +kernel⟩, List.mem_of_getElem? (i := 725) (by decide +kernel), List.mem_of_getElem? (i := 831) (by decide +kernel), List.mem_of_getElem? (i := 832) (by decide +kernel)⟩
theorem lw_p33 : lw_okq (⟨"SpanSpotterModel", "readsItem", "(I)Z"⟩, 27) := ⟨⟨by decide +kernel, by decide +kernel⟩, List.mem_of_getElem? (i := 725) (by decide +kernel), List.mem_of_getElem? (i := 843) (by decide +kernel), List.mem_of_getElem? (i := 844) (by decide +kernel)⟩
theorem lw_p34 : lw_okq (⟨"SpanSpotterModel", "here", "()I"⟩, 27) := ⟨⟨by decide +kernel, by decide +kernel⟩, List.mem_of_getElem? (i := 725) (by decide +kernel), List.mem_of_getElem? (i := 847) (by decide +kernel), List.mem_of_getElem? (i := 848) (by decide +kernel)⟩
theorem lw_p35 : lw_okq (⟨"SpanSpotterModel", "readsGrounds", "()Z"⟩, 27) := ⟨⟨by decide +kernel, by decide +kernel⟩, List.mem_of_getElem? (i := 725) (by decide +kernel), List.mem_of_getElem? (i := 851) (by decide +kernel), List.mem_of_getElem? (i := 852) (by decide +kernel)⟩
theorem lw_p36 : lw_okq (⟨"SpanSpotterModel", "isNumber", "(III)Z"⟩, 27) := ⟨⟨by decide +kernel, by decide +kernel⟩, List.mem_of_getElem? (i := 725) (by decide +kernel), List.mem_of_getElem? (i := 855) (by decide +kernel), List.mem_of_getElem? (i := 856) (by decide +kernel)⟩
theorem lw_p37 : lw_okq (⟨"SpanSpotterModel", "comes", "(C)Z"⟩, 27) := ⟨⟨by decide +kernel, by decide +kernel⟩, List.mem_of_getElem? (i := 725) (by decide +kernel), List.mem_of_getElem? (i := 859) (by decide +kernel), List.mem_of_getElem? (i := 860) (by decide +kernel)⟩
theorem lw_p38 : lw_okq (⟨"SpanSpotterModel", "readsNeed", "()Z"⟩, 27) := ⟨⟨by decide +kernel, by decide +kernel⟩, List.mem_of_getElem? (i := 725) (by decide +kernel), List.mem_of_getElem? (i := 863) (by decide +kernel), List.mem_of_getElem? (i := 864) (by decide +kernel)⟩
theorem lw_p39 : lw_okq (⟨"SpanSpotterModel", "readsPrice", "()Z"⟩, 27) := ⟨⟨by decide +kernel, by decide +kernel⟩, List.mem_of_getElem? (i := 725) (by decide +kernel), List.mem_of_getElem? (i := 867) (by decide +kernel), List.mem_of_getElem? (i := 868) (by decide +kernel)⟩
theorem lw_p40 : lw_okq (⟨"SpanSpotterModel", "readsBarred", "()Z"⟩, 27) := ⟨⟨by decide +kernel, by decide +kernel⟩, List.mem_of_getElem? (i := 725) (by decide +kernel), List.mem_of_getElem? (i := 871) (by decide +kernel), List.mem_of_getElem? (i := 872) (by decide +kernel)⟩
theorem lw_p41 : lw_okq (⟨"SpanSpotterModel", "readsTwo", "(IIIIII)Z"⟩, 27) := ⟨⟨by decide +kernel, by decide +kernel⟩, List.mem_of_getElem? (i := 725) (by decide +kernel), List.mem_of_getElem? (i := 875) (by decide +kernel), List.mem_of_getElem? (i := 876) (by decide +kernel)⟩
theorem lw_p42 : lw_okq (⟨"SpanSpotterModel", "readsOne", "(III)Z"⟩, 27) := ⟨⟨by decide +kernel, by decide +kernel⟩, List.mem_of_getElem? (i := 725) (by decide +kernel), List.mem_of_getElem? (i := 879) (by decide +kernel), List.mem_of_getElem? (i := 880) (by decide +kernel)⟩
theorem lw_p43 : lw_okq (⟨"SpanSpotterModel", "keepsState", "()V"⟩, 27) := ⟨⟨by decide +kernel, by decide +kernel⟩, List.mem_of_getElem? (i := 725) (by decide +kernel), List.mem_of_getElem? (i := 883) (by decide +kernel), List.mem_of_getElem? (i := 884) (by decide +kernel)⟩
theorem lw_p44 : lw_okq (⟨"SpanSpotterModel", "isPlace", "(I)Z"⟩, 27) := ⟨⟨by decide +kernel, by decide +kernel⟩, List.mem_of_getElem? (i := 725) (by decide +kernel), List.mem_of_getElem? (i := 891) (by decide +kernel), List.mem_of_getElem? (i := 892) (by decide +kernel)⟩
theorem lw_p45 : lw_okq (⟨"SpanSpotterModel", "placeIs", "(II)I"⟩, 27) := ⟨⟨by decide +kernel, by decide +kernel⟩, List.mem_of_getElem? (i := 725) (by decide +kernel), List.mem_of_getElem? (i := 895) (by decide +kernel), List.mem_of_getElem? (i := 896) (by decide +kernel)⟩
theorem lw_p46 : lw_okq (⟨"SpanSpotterModel", "towers", "()I"⟩, 27) := ⟨⟨by decide +kernel, by decide +kernel⟩, List.mem_of_getElem? (i := 725) (by decide +kernel), List.mem_of_getElem? (i := 917) (by decide +kernel), List.mem_of_getElem? (i := 918) (by decide +kernel)⟩
theorem lw_p47 : lw_okq (⟨"SpanSpotterModel", "has", "(I)Z"⟩, 27) := ⟨⟨by decide +kernel, by decide +kernel⟩, List.mem_of_getElem? (i := 725) (by decide +kernel), List.mem_of_getElem? (i := 921) (by decide +kernel), List.mem_of_getElem? (i := 922) (by decide +kernel)⟩
def lw_privs_3 : List (MethodName × Nat) := [(⟨"SpanSpotterModel", "bad", "()I"⟩, 27), (⟨"SpanSpotterModel", "readsItem", "(I)Z"⟩, 27), (⟨"SpanSpotterModel", "here", "()I"⟩, 27), (⟨"SpanSpotterModel", "readsGrounds", "()Z"⟩, 27), (⟨"SpanSpotterModel", "isNumber", "(III)Z"⟩, 27), (⟨"SpanSpotterModel", "comes", "(C)Z"⟩, 27), (⟨"SpanSpotterModel", "readsNeed", "()Z"⟩, 27), (⟨"SpanSpotterModel", "readsPrice", "()Z"⟩, 27), (⟨"SpanSpotterModel", "readsBarred", "()Z"⟩, 27), (⟨"SpanSpotterModel", "readsTwo", "(IIIIII)Z"⟩, 27), (⟨"SpanSpotterModel", "readsOne", "(III)Z"⟩, 27), (⟨"SpanSpotterModel", "keepsState", "()V"⟩, 27), (⟨"SpanSpotterModel", "isPlace", "(I)Z"⟩, 27), (⟨"SpanSpotterModel", "placeIs", "(II)I"⟩, 27), (⟨"SpanSpotterModel", "towers", "()I"⟩, 27), (⟨"SpanSpotterModel", "has", "(I)Z"⟩, 27)]
theorem lw_r3 : ∀ q ∈ lw_privs_3, lw_okq q := List.forall_mem_cons.mpr ⟨lw_p32, List.forall_mem_cons.mpr ⟨lw_p33, List.forall_mem_cons.mpr ⟨lw_p34, List.forall_mem_cons.mpr ⟨lw_p35, List.forall_mem_cons.mpr ⟨lw_p36, List.forall_mem_cons.mpr ⟨lw_p37, List.forall_mem_cons.mpr ⟨lw_p38, List.forall_mem_cons.mpr ⟨lw_p39, List.forall_mem_cons.mpr ⟨lw_p40, List.forall_mem_cons.mpr ⟨lw_p41, List.forall_mem_cons.mpr ⟨lw_p42, List.forall_mem_cons.mpr ⟨lw_p43, List.forall_mem_cons.mpr ⟨lw_p44, List.forall_mem_cons.mpr ⟨lw_p45, List.forall_mem_cons.mpr ⟨lw_p46, List.forall_mem_cons.mpr ⟨lw_p47, fun _ h => absurd h List.not_mem_nil⟩⟩⟩⟩⟩⟩⟩⟩⟩⟩⟩⟩⟩⟩⟩⟩
theorem lw_p48 : lw_okq (⟨"SpanSpotterModel", "flaws", "()I"⟩, 27) := ⟨⟨by decide +kernel, by decide +kernel⟩, List.mem_of_getElem? (i := 725) (by decide +kernel), List.mem_of_getElem? (i := 933) (by decide +kernel), List.mem_of_getElem? (i := 934) (by decide +kernel)⟩
theorem lw_p49 : lw_okq (⟨"SpanSpotterModel", "isFlaw", "(II)Z"⟩, 27) := ⟨⟨by decide +kernel, by decide +kernel⟩, List.mem_of_getElem? (i := 725) (by decide +kernel), List.mem_of_getElem? (i := 937) (by decide +kernel), List.mem_of_getElem? (i := 938) (by decide +kernel)⟩
theorem lw_p50 : lw_okq (⟨"SpanSpotterModel", "beside", "(II)I"⟩, 27) := ⟨⟨by decide +kernel, by decide +kernel⟩, List.mem_of_getElem? (i := 725) (by decide +kernel), List.mem_of_getElem? (i := 941) (by decide +kernel), List.mem_of_getElem? (i := 942) (by decide +kernel)⟩
theorem lw_p51 : lw_okq (⟨"SpanSpotterModel", "holds", "(IIIIII)Z"⟩, 27) := ⟨⟨by decide +kernel, by decide +kernel⟩, List.mem_of_getElem? (i := 725) (by decide +kernel), List.mem_of_getElem? (i := 945) (by decide +kernel), List.mem_of_getElem? (i := 946) (by decide +kernel)⟩
theorem lw_p52 : lw_okq (⟨"SpanSpotterModel", "pullOf", "(IIIIII)I"⟩, 27) := ⟨⟨by decide +kernel, by decide +kernel⟩, List.mem_of_getElem? (i := 725) (by decide +kernel), List.mem_of_getElem? (i := 949) (by decide +kernel), List.mem_of_getElem? (i := 950) (by decide +kernel)⟩
theorem lw_p53 : lw_okq (⟨"SpanSpotterModel", "top", "(II)I"⟩, 27) := ⟨⟨by decide +kernel, by decide +kernel⟩, List.mem_of_getElem? (i := 725) (by decide +kernel), List.mem_of_getElem? (i := 953) (by decide +kernel), List.mem_of_getElem? (i := 954) (by decide +kernel)⟩
theorem lw_p54 : lw_okq (⟨"SpanSpotterModel", "height", "(I)I"⟩, 27) := ⟨⟨by decide +kernel, by decide +kernel⟩, List.mem_of_getElem? (i := 725) (by decide +kernel), List.mem_of_getElem? (i := 957) (by decide +kernel), List.mem_of_getElem? (i := 958) (by decide +kernel)⟩
theorem lw_p55 : lw_okq (⟨"SpanSpotterModel", "isClear", "(IIII)Z"⟩, 27) := ⟨⟨by decide +kernel, by decide +kernel⟩, List.mem_of_getElem? (i := 725) (by decide +kernel), List.mem_of_getElem? (i := 961) (by decide +kernel), List.mem_of_getElem? (i := 962) (by decide +kernel)⟩
theorem lw_p56 : lw_okq (⟨"SpanSpotterModel", "roomOf", "(IIIII)I"⟩, 27) := ⟨⟨by decide +kernel, by decide +kernel⟩, List.mem_of_getElem? (i := 725) (by decide +kernel), List.mem_of_getElem? (i := 965) (by decide +kernel), List.mem_of_getElem? (i := 966) (by decide +kernel)⟩
theorem lw_p57 : lw_okq (⟨"SpanSpotterModel", "flawIs", "(II)I"⟩, 27) := ⟨⟨by decide +kernel, by decide +kernel⟩, List.mem_of_getElem? (i := 725) (by decide +kernel), List.mem_of_getElem? (i := 973) (by decide +kernel), List.mem_of_getElem? (i := 974) (by decide +kernel)⟩
theorem lw_p58 : lw_okq (⟨"SpanSpotterModel", "says", "(II)V"⟩, 27) := ⟨⟨by decide +kernel, by decide +kernel⟩, List.mem_of_getElem? (i := 725) (by decide +kernel), List.mem_of_getElem? (i := 989) (by decide +kernel), List.mem_of_getElem? (i := 990) (by decide +kernel)⟩
theorem lw_p59 : lw_okq (⟨"SpanSpotterModel", "laysLeast", "()V"⟩, 27) := ⟨⟨by decide +kernel, by decide +kernel⟩, List.mem_of_getElem? (i := 725) (by decide +kernel), List.mem_of_getElem? (i := 1005) (by decide +kernel), List.mem_of_getElem? (i := 1006) (by decide +kernel)⟩
theorem lw_p60 : lw_okq (⟨"SpanSpotterModel", "laysRests", "()V"⟩, 27) := ⟨⟨by decide +kernel, by decide +kernel⟩, List.mem_of_getElem? (i := 725) (by decide +kernel), List.mem_of_getElem? (i := 1009) (by decide +kernel), List.mem_of_getElem? (i := 1010) (by decide +kernel)⟩
theorem lw_p61 : lw_okq (⟨"SpanSpotterModel", "lastFrom", "(I)I"⟩, 27) := ⟨⟨by decide +kernel, by decide +kernel⟩, List.mem_of_getElem? (i := 725) (by decide +kernel), List.mem_of_getElem? (i := 1013) (by decide +kernel), List.mem_of_getElem? (i := 1014) (by decide +kernel)⟩
theorem lw_p62 : lw_okq (⟨"SpanSpotterModel", "laysRest", "(IIII)V"⟩, 27) := ⟨⟨by decide +kernel, by decide +kernel⟩, List.mem_of_getElem? (i := 725) (by decide +kernel), List.mem_of_getElem? (i := 1017) (by decide +kernel), List.mem_of_getElem? (i := 1018) (by decide +kernel)⟩
theorem lw_p63 : lw_okq (⟨"SpanSpotterModel", "maySpan", "(IIII)Z"⟩, 27) := ⟨⟨by decide +kernel, by decide +kernel⟩, List.mem_of_getElem? (i := 725) (by decide +kernel), List.mem_of_getElem? (i := 1024) (by decide +kernel), List.mem_of_getElem? (i := 1025) (by decide +kernel)⟩
def lw_privs_4 : List (MethodName × Nat) := [(⟨"SpanSpotterModel", "flaws", "()I"⟩, 27), (⟨"SpanSpotterModel", "isFlaw", "(II)Z"⟩, 27), (⟨"SpanSpotterModel", "beside", "(II)I"⟩, 27), (⟨"SpanSpotterModel", "holds", "(IIIIII)Z"⟩, 27), (⟨"SpanSpotterModel", "pullOf", "(IIIIII)I"⟩, 27), (⟨"SpanSpotterModel", "top", "(II)I"⟩, 27), (⟨"SpanSpotterModel", "height", "(I)I"⟩, 27), (⟨"SpanSpotterModel", "isClear", "(IIII)Z"⟩, 27), (⟨"SpanSpotterModel", "roomOf", "(IIIII)I"⟩, 27), (⟨"SpanSpotterModel", "flawIs", "(II)I"⟩, 27), (⟨"SpanSpotterModel", "says", "(II)V"⟩, 27), (⟨"SpanSpotterModel", "laysLeast", "()V"⟩, 27), (⟨"SpanSpotterModel", "laysRests", "()V"⟩, 27), (⟨"SpanSpotterModel", "lastFrom", "(I)I"⟩, 27), (⟨"SpanSpotterModel", "laysRest", "(IIII)V"⟩, 27), (⟨"SpanSpotterModel", "maySpan", "(IIII)Z"⟩, 27)]
theorem lw_r4 : ∀ q ∈ lw_privs_4, lw_okq q := List.forall_mem_cons.mpr ⟨lw_p48, List.forall_mem_cons.mpr ⟨lw_p49, List.forall_mem_cons.mpr ⟨lw_p50, List.forall_mem_cons.mpr ⟨lw_p51, List.forall_mem_cons.mpr ⟨lw_p52, List.forall_mem_cons.mpr ⟨lw_p53, List.forall_mem_cons.mpr ⟨lw_p54, List.forall_mem_cons.mpr ⟨lw_p55, List.forall_mem_cons.mpr ⟨lw_p56, List.forall_mem_cons.mpr ⟨lw_p57, List.forall_mem_cons.mpr ⟨lw_p58, List.forall_mem_cons.mpr ⟨lw_p59, List.forall_mem_cons.mpr ⟨lw_p60, List.forall_mem_cons.mpr ⟨lw_p61, List.forall_mem_cons.mpr ⟨lw_p62, List.forall_mem_cons.mpr ⟨lw_p63, fun _ h => absurd h List.not_mem_nil⟩⟩⟩⟩⟩⟩⟩⟩⟩⟩⟩⟩⟩⟩⟩⟩
theorem lw_p64 : lw_okq (⟨"SpanSpotterModel", "mayStand", "(II)Z"⟩, 27) := ⟨⟨by decide +kernel, by decide +kernel⟩, List.mem_of_getElem? (i := 725) (by decide +kernel), List.mem_of_getElem? (i := 1028) (by decide +kernel), List.mem_of_getElem? (i := 1029) (by decide +kernel)⟩
theorem lw_p65 : lw_okq (⟨"SpanSpotterModel", "cost", "(II)I"⟩, 27) := ⟨⟨by decide +kernel, by decide +kernel⟩, List.mem_of_getElem? (i := 725) (by decide +kernel), List.mem_of_getElem? (i := 1032) (by decide +kernel), List.mem_of_getElem? (i := 1033) (by decide +kernel)⟩
theorem lw_p66 : lw_okq (⟨"SpanSpotterModel", "takesRest", "(IIIIII)V"⟩, 27) := ⟨⟨by decide +kernel, by decide +kernel⟩, List.mem_of_getElem? (i := 725) (by decide +kernel), List.mem_of_getElem? (i := 1036) (by decide +kernel), List.mem_of_getElem? (i := 1037) (by decide +kernel)⟩
theorem lw_p67 : lw_okq (⟨"SpanSpotterModel", "cheapestIs", "(I)I"⟩, 27) := ⟨⟨by decide +kernel, by decide +kernel⟩, List.mem_of_getElem? (i := 725) (by decide +kernel), List.mem_of_getElem? (i := 1041) (by decide +kernel), List.mem_of_getElem? (i := 1042) (by decide +kernel)⟩
theorem lw_p68 : lw_okq (⟨"SpanSpotterModel", "laysSpots", "()V"⟩, 27) := ⟨⟨by decide +kernel, by decide +kernel⟩, List.mem_of_getElem? (i := 725) (by decide +kernel), List.mem_of_getElem? (i := 1049) (by decide +kernel), List.mem_of_getElem? (i := 1050) (by decide +kernel)⟩
theorem lw_p69 : lw_okq (⟨"SpanSpotterModel", "laysThrough", "()V"⟩, 27) := ⟨⟨by decide +kernel, by decide +kernel⟩, List.mem_of_getElem? (i := 725) (by decide +kernel), List.mem_of_getElem? (i := 1057) (by decide +kernel), List.mem_of_getElem? (i := 1058) (by decide +kernel)⟩
theorem lw_p70 : lw_okq (⟨"SpanSpotterModel", "laysAhead", "(IIII)V"⟩, 27) := ⟨⟨by decide +kernel, by decide +kernel⟩, List.mem_of_getElem? (i := 725) (by decide +kernel), List.mem_of_getElem? (i := 1061) (by decide +kernel), List.mem_of_getElem? (i := 1062) (by decide +kernel)⟩
theorem lw_p71 : lw_okq (⟨"SpanSpotterModel", "allOf", "(I)I"⟩, 27) := ⟨⟨by decide +kernel, by decide +kernel⟩, List.mem_of_getElem? (i := 725) (by decide +kernel), List.mem_of_getElem? (i := 1077) (by decide +kernel), List.mem_of_getElem? (i := 1078) (by decide +kernel)⟩
theorem lw_p72 : lw_okq (⟨"SpanSpotterModel", "costOfPlan", "()I"⟩, 27) := ⟨⟨by decide +kernel, by decide +kernel⟩, List.mem_of_getElem? (i := 725) (by decide +kernel), List.mem_of_getElem? (i := 1081) (by decide +kernel), List.mem_of_getElem? (i := 1082) (by decide +kernel)⟩
theorem lw_p73 : lw_okq (⟨"SpanSpotterModel", "countOf", "(I)I"⟩, 27) := ⟨⟨by decide +kernel, by decide +kernel⟩, List.mem_of_getElem? (i := 725) (by decide +kernel), List.mem_of_getElem? (i := 1085) (by decide +kernel), List.mem_of_getElem? (i := 1086) (by decide +kernel)⟩
theorem lw_p74 : lw_okq (⟨"SpanSpotterModel", "toldOf", "(I)I"⟩, 27) := ⟨⟨by decide +kernel, by decide +kernel⟩, List.mem_of_getElem? (i := 725) (by decide +kernel), List.mem_of_getElem? (i := 1093) (by decide +kernel), List.mem_of_getElem? (i := 1094) (by decide +kernel)⟩
def lw_privs_5 : List (MethodName × Nat) := [(⟨"SpanSpotterModel", "mayStand", "(II)Z"⟩, 27), (⟨"SpanSpotterModel", "cost", "(II)I"⟩, 27), (⟨"SpanSpotterModel", "takesRest", "(IIIIII)V"⟩, 27), (⟨"SpanSpotterModel", "cheapestIs", "(I)I"⟩, 27), (⟨"SpanSpotterModel", "laysSpots", "()V"⟩, 27), (⟨"SpanSpotterModel", "laysThrough", "()V"⟩, 27), (⟨"SpanSpotterModel", "laysAhead", "(IIII)V"⟩, 27), (⟨"SpanSpotterModel", "allOf", "(I)I"⟩, 27), (⟨"SpanSpotterModel", "costOfPlan", "()I"⟩, 27), (⟨"SpanSpotterModel", "countOf", "(I)I"⟩, 27), (⟨"SpanSpotterModel", "toldOf", "(I)I"⟩, 27)]
theorem lw_r5 : ∀ q ∈ lw_privs_5, lw_okq q := List.forall_mem_cons.mpr ⟨lw_p64, List.forall_mem_cons.mpr ⟨lw_p65, List.forall_mem_cons.mpr ⟨lw_p66, List.forall_mem_cons.mpr ⟨lw_p67, List.forall_mem_cons.mpr ⟨lw_p68, List.forall_mem_cons.mpr ⟨lw_p69, List.forall_mem_cons.mpr ⟨lw_p70, List.forall_mem_cons.mpr ⟨lw_p71, List.forall_mem_cons.mpr ⟨lw_p72, List.forall_mem_cons.mpr ⟨lw_p73, List.forall_mem_cons.mpr ⟨lw_p74, fun _ h => absurd h List.not_mem_nil⟩⟩⟩⟩⟩⟩⟩⟩⟩⟩⟩
def lw_privs : List (MethodName × Nat) := lw_privs_1 ++ (lw_privs_2 ++ (lw_privs_3 ++ (lw_privs_4 ++ (lw_privs_5))))
def lw_tbl : List Cond := k2_sels lw_privs ++ tables_1
theorem lw_privs_ok : ∀ q ∈ lw_privs, lw_okq q := by
  show ∀ q ∈ lw_privs_1 ++ (lw_privs_2 ++ (lw_privs_3 ++ (lw_privs_4 ++ (lw_privs_5)))), lw_okq q
  exact List.forall_mem_append.mpr ⟨lw_r1, List.forall_mem_append.mpr ⟨lw_r2, List.forall_mem_append.mpr ⟨lw_r3, List.forall_mem_append.mpr ⟨lw_r4, lw_r5⟩⟩⟩⟩
def RX0 : String := "SpanSpotter$Flaws"
def TX0 : u_T := fun k => match k with
  | 0 => ("SpanSpotter$Flaws", "places", "[I", true)
  | 1 => ("SpanSpotter$Flaws", "numbers", "[I", true)
  | 2 => ("SpanSpotter$Flaws", "count", "I", false)
  | _ => ("SpanSpotter$Flaws", "listed", "Z", false)
def tyX0 : Nat → FieldType := fun k => match k with
  | 0 => .array .int
  | 1 => .array .int
  | 2 => .int
  | _ => .boolean
abbrev wsX00 : List Cond := u_ws RX0 TX0 4
theorem nmX0 : ∀ a, a < 4 → ∀ b, b < 4 → a ≠ b → (TX0 a).2.1 ≠ (TX0 b).2.1 := by decide +kernel
theorem tyX0_ok : ∀ k, k < 4 → parseFieldDescriptor (TX0 k).2.2.1 = some (tyX0 k) := by decide +kernel
abbrev cX0_init : ByteArray := prog_2_method_1_code
def yX0_init : MethodName := ⟨RX0, "<init>", "()V"⟩
abbrev cX0_list : ByteArray := prog_2_method_2_code
def yX0_list : MethodName := ⟨RX0, "list", "(LSpanSpotter$Line;)V"⟩
abbrev cX0_inspect : ByteArray := prog_2_method_3_code
def yX0_inspect : MethodName := ⟨RX0, "inspect", "(LSpanSpotter$Line;I)V"⟩
abbrev cX0_add : ByteArray := prog_2_method_4_code
def yX0_add : MethodName := ⟨RX0, "add", "(II)V"⟩
def RX1 : String := "SpanSpotter$History"
def TX1 : u_T := fun k => match k with
  | 0 => ("SpanSpotter$History", "ring", "[LSpanSpotter$Line;", true)
  | 1 => ("SpanSpotter$History", "oldest", "I", false)
  | _ => ("SpanSpotter$History", "count", "I", false)
def tyX1 : Nat → FieldType := fun k => match k with
  | 0 => .array (.object "SpanSpotter$Line")
  | 1 => .int
  | _ => .int
abbrev wsX10 : List Cond := u_ws RX1 TX1 3
theorem nmX1 : ∀ a, a < 3 → ∀ b, b < 3 → a ≠ b → (TX1 a).2.1 ≠ (TX1 b).2.1 := by decide +kernel
theorem tyX1_ok : ∀ k, k < 3 → parseFieldDescriptor (TX1 k).2.2.1 = some (tyX1 k) := by decide +kernel
abbrev cX1_init : ByteArray := prog_3_method_1_code
def yX1_init : MethodName := ⟨RX1, "<init>", "()V"⟩
abbrev cX1_save : ByteArray := prog_3_method_2_code
def yX1_save : MethodName := ⟨RX1, "save", "(LSpanSpotter$Line;)V"⟩
abbrev cX1_restore : ByteArray := prog_3_method_3_code
def yX1_restore : MethodName := ⟨RX1, "restore", "(LSpanSpotter$Line;)V"⟩
def RX2 : String := "SpanSpotter$Line"
def TX2 : u_T := fun k => match k with
  | 0 => ("SpanSpotter$Line", "last", "I", false)
  | 1 => ("SpanSpotter$Line", "property", "[[I", true)
  | _ => ("SpanSpotter$Line", "setting", "[I", true)
def tyX2 : Nat → FieldType := fun k => match k with
  | 0 => .int
  | 1 => .array (.array .int)
  | _ => .array .int
abbrev wsX20 : List Cond := u_ws RX2 TX2 3
theorem nmX2 : ∀ a, a < 3 → ∀ b, b < 3 → a ≠ b → (TX2 a).2.1 ≠ (TX2 b).2.1 := by decide +kernel
theorem tyX2_ok : ∀ k, k < 3 → parseFieldDescriptor (TX2 k).2.2.1 = some (tyX2 k) := by decide +kernel
abbrev cX2_init : ByteArray := prog_4_method_1_code
def yX2_init : MethodName := ⟨RX2, "<init>", "()V"⟩
abbrev cX2_restart : ByteArray := prog_4_method_2_code
def yX2_restart : MethodName := ⟨RX2, "restart", "()V"⟩
abbrev cX2_copyFrom : ByteArray := prog_4_method_3_code
def yX2_copyFrom : MethodName := ⟨RX2, "copyFrom", "(LSpanSpotter$Line;)V"⟩
abbrev cX2_hasPlace : ByteArray := prog_4_method_4_code
def yX2_hasPlace : MethodName := ⟨RX2, "hasPlace", "(I)Z"⟩
abbrev cX2_isEnd : ByteArray := prog_4_method_5_code
def yX2_isEnd : MethodName := ⟨RX2, "isEnd", "(I)Z"⟩
abbrev cX2_mostOf : ByteArray := prog_4_method_6_code
def yX2_mostOf : MethodName := ⟨RX2, "mostOf", "(II)I"⟩
abbrev cX2_hasTower : ByteArray := prog_4_method_7_code
def yX2_hasTower : MethodName := ⟨RX2, "hasTower", "(I)Z"⟩
abbrev cX2_hasTowerBetween : ByteArray := prog_4_method_8_code
def yX2_hasTowerBetween : MethodName := ⟨RX2, "hasTowerBetween", "(II)Z"⟩
abbrev cX2_towerBefore : ByteArray := prog_4_method_9_code
def yX2_towerBefore : MethodName := ⟨RX2, "towerBefore", "(I)I"⟩
abbrev cX2_towerAfter : ByteArray := prog_4_method_10_code
def yX2_towerAfter : MethodName := ⟨RX2, "towerAfter", "(I)I"⟩
abbrev cX2_countKinds : ByteArray := prog_4_method_11_code
def yX2_countKinds : MethodName := ⟨RX2, "countKinds", "(I)I"⟩
abbrev cX2_countBarred : ByteArray := prog_4_method_12_code
def yX2_countBarred : MethodName := ⟨RX2, "countBarred", "()I"⟩
abbrev cX2_planCost : ByteArray := prog_4_method_13_code
def yX2_planCost : MethodName := ⟨RX2, "planCost", "()I"⟩
abbrev cX2_towerCost : ByteArray := prog_4_method_14_code
def yX2_towerCost : MethodName := ⟨RX2, "towerCost", "(II)I"⟩
abbrev cX2_height : ByteArray := prog_4_method_15_code
def yX2_height : MethodName := ⟨RX2, "height", "(I)I"⟩
abbrev cX2_topWith : ByteArray := prog_4_method_16_code
def yX2_topWith : MethodName := ⟨RX2, "topWith", "(II)I"⟩
abbrev cX2_topOf : ByteArray := prog_4_method_17_code
def yX2_topOf : MethodName := ⟨RX2, "topOf", "(I)I"⟩
abbrev cX2_roomUpper : ByteArray := prog_4_method_18_code
def yX2_roomUpper : MethodName := ⟨RX2, "roomUpper", "(IIIII)I"⟩
abbrev cX2_roomLower : ByteArray := prog_4_method_19_code
def yX2_roomLower : MethodName := ⟨RX2, "roomLower", "(II)I"⟩
abbrev cX2_lowestRoom : ByteArray := prog_4_method_20_code
def yX2_lowestRoom : MethodName := ⟨RX2, "lowestRoom", "(IIII)I"⟩
abbrev cX2_clears : ByteArray := prog_4_method_21_code
def yX2_clears : MethodName := ⟨RX2, "clears", "(IIII)Z"⟩
abbrev cX2_pullUpper : ByteArray := prog_4_method_22_code
def yX2_pullUpper : MethodName := ⟨RX2, "pullUpper", "(III)I"⟩
abbrev cX2_pullLower : ByteArray := prog_4_method_23_code
def yX2_pullLower : MethodName := ⟨RX2, "pullLower", "(III)I"⟩
def RX3 : String := "SpanSpotter$Passage"
def TX3 : u_T := fun k => match k with
  | 0 => ("SpanSpotter$Passage", "line", "LSpanSpotter$Line;", true)
  | 1 => ("SpanSpotter$Passage", "search", "LSpanSpotter$Search;", true)
  | 2 => ("SpanSpotter$Passage", "before", "[I", true)
  | _ => ("SpanSpotter$Passage", "weights", "[I", true)
def tyX3 : Nat → FieldType := fun k => match k with
  | 0 => .object "SpanSpotter$Line"
  | 1 => .object "SpanSpotter$Search"
  | 2 => .array .int
  | _ => .array .int
abbrev wsX30 : List Cond := u_ws RX3 TX3 4
theorem nmX3 : ∀ a, a < 4 → ∀ b, b < 4 → a ≠ b → (TX3 a).2.1 ≠ (TX3 b).2.1 := by decide +kernel
theorem tyX3_ok : ∀ k, k < 4 → parseFieldDescriptor (TX3 k).2.2.1 = some (tyX3 k) := by decide +kernel
abbrev cX3_init : ByteArray := prog_5_method_1_code
def yX3_init : MethodName := ⟨RX3, "<init>", "(LSpanSpotter$Line;LSpanSpotter$Search;)V"⟩
abbrev cX3_trace : ByteArray := prog_5_method_2_code
def yX3_trace : MethodName := ⟨RX3, "trace", "()V"⟩
abbrev cX3_traceFrom : ByteArray := prog_5_method_3_code
def yX3_traceFrom : MethodName := ⟨RX3, "traceFrom", "(II)V"⟩
abbrev cX3_leastInto : ByteArray := prog_5_method_4_code
def yX3_leastInto : MethodName := ⟨RX3, "leastInto", "(III)I"⟩
def RX4 : String := "SpanSpotter$Search"
def TX4 : u_T := fun k => match k with
  | 0 => ("SpanSpotter$Search", "line", "LSpanSpotter$Line;", true)
  | 1 => ("SpanSpotter$Search", "ownWeight", "[I", true)
  | 2 => ("SpanSpotter$Search", "slope", "[I", true)
  | 3 => ("SpanSpotter$Search", "weight", "[I", true)
  | 4 => ("SpanSpotter$Search", "cheap", "[I", true)
  | 5 => ("SpanSpotter$Search", "every", "[I", true)
  | 6 => ("SpanSpotter$Search", "openWeight", "[I", true)
  | 7 => ("SpanSpotter$Search", "openCheap", "[I", true)
  | 8 => ("SpanSpotter$Search", "openEvery", "[I", true)
  | 9 => ("SpanSpotter$Search", "tally", "LSpanSpotter$Tally;", true)
  | 10 => ("SpanSpotter$Search", "leastPull", "I", false)
  | 11 => ("SpanSpotter$Search", "bestWeight", "I", false)
  | 12 => ("SpanSpotter$Search", "bestCheap", "I", false)
  | 13 => ("SpanSpotter$Search", "bestEvery", "I", false)
  | 14 => ("SpanSpotter$Search", "towers", "I", false)
  | 15 => ("SpanSpotter$Search", "places", "[I", true)
  | _ => ("SpanSpotter$Search", "kinds", "[I", true)
def tyX4 : Nat → FieldType := fun k => match k with
  | 0 => .object "SpanSpotter$Line"
  | 1 => .array .int
  | 2 => .array .int
  | 3 => .array .int
  | 4 => .array .int
  | 5 => .array .int
  | 6 => .array .int
  | 7 => .array .int
  | 8 => .array .int
  | 9 => .object "SpanSpotter$Tally"
  | 10 => .int
  | 11 => .int
  | 12 => .int
  | 13 => .int
  | 14 => .int
  | 15 => .array .int
  | _ => .array .int
abbrev wsX40 : List Cond := u_ws RX4 TX4 17
theorem nmX4 : ∀ a, a < 17 → ∀ b, b < 17 → a ≠ b → (TX4 a).2.1 ≠ (TX4 b).2.1 := by decide +kernel
theorem tyX4_ok : ∀ k, k < 17 → parseFieldDescriptor (TX4 k).2.2.1 = some (tyX4 k) := by decide +kernel
abbrev cX4_init : ByteArray := prog_6_method_1_code
def yX4_init : MethodName := ⟨RX4, "<init>", "(LSpanSpotter$Line;)V"⟩
abbrev cX4_solve : ByteArray := prog_6_method_2_code
def yX4_solve : MethodName := ⟨RX4, "solve", "()V"⟩
abbrev cX4_isBuilt : ByteArray := prog_6_method_3_code
def yX4_isBuilt : MethodName := ⟨RX4, "isBuilt", "()Z"⟩
abbrev cX4_build : ByteArray := prog_6_method_4_code
def yX4_build : MethodName := ⟨RX4, "build", "()V"⟩
abbrev cX4_spanOf : ByteArray := prog_6_method_5_code
def yX4_spanOf : MethodName := ⟨RX4, "spanOf", "(IIII)I"⟩
abbrev cX4_stand : ByteArray := prog_6_method_6_code
def yX4_stand : MethodName := ⟨RX4, "stand", "(II)I"⟩
abbrev cX4_longestFrom : ByteArray := prog_6_method_7_code
def yX4_longestFrom : MethodName := ⟨RX4, "longestFrom", "(I)I"⟩
abbrev cX4_towerWeight : ByteArray := prog_6_method_8_code
def yX4_towerWeight : MethodName := ⟨RX4, "towerWeight", "(II)I"⟩
abbrev cX4_pullBefore : ByteArray := prog_6_method_9_code
def yX4_pullBefore : MethodName := ⟨RX4, "pullBefore", "(II)I"⟩
abbrev cX4_pullAfter : ByteArray := prog_6_method_10_code
def yX4_pullAfter : MethodName := ⟨RX4, "pullAfter", "(II)I"⟩
abbrev cX4_weighTowers : ByteArray := prog_6_method_11_code
def yX4_weighTowers : MethodName := ⟨RX4, "weighTowers", "()V"⟩
abbrev cX4_tallySpansFrom : ByteArray := prog_6_method_12_code
def yX4_tallySpansFrom : MethodName := ⟨RX4, "tallySpansFrom", "(II)V"⟩
abbrev cX4_tallySpan : ByteArray := prog_6_method_13_code
def yX4_tallySpan : MethodName := ⟨RX4, "tallySpan", "(IIII)V"⟩
abbrev cX4_mayStand : ByteArray := prog_6_method_14_code
def yX4_mayStand : MethodName := ⟨RX4, "mayStand", "(I)Z"⟩
abbrev cX4_addAnchor : ByteArray := prog_6_method_15_code
def yX4_addAnchor : MethodName := ⟨RX4, "addAnchor", "(II)V"⟩
abbrev cX4_addFollowing : ByteArray := prog_6_method_16_code
def yX4_addFollowing : MethodName := ⟨RX4, "addFollowing", "(IIII)V"⟩
abbrev cX4_tallyOpen : ByteArray := prog_6_method_17_code
def yX4_tallyOpen : MethodName := ⟨RX4, "tallyOpen", "(II)V"⟩
abbrev cX4_tallyPlans : ByteArray := prog_6_method_18_code
def yX4_tallyPlans : MethodName := ⟨RX4, "tallyPlans", "()V"⟩
abbrev cX4_pickPlan : ByteArray := prog_6_method_19_code
def yX4_pickPlan : MethodName := ⟨RX4, "pickPlan", "()V"⟩
abbrev cX4_pickFirst : ByteArray := prog_6_method_20_code
def yX4_pickFirst : MethodName := ⟨RX4, "pickFirst", "()V"⟩
abbrev cX4_pickNext : ByteArray := prog_6_method_21_code
def yX4_pickNext : MethodName := ⟨RX4, "pickNext", "(IIII)I"⟩
abbrev cX4_weightWith : ByteArray := prog_6_method_22_code
def yX4_weightWith : MethodName := ⟨RX4, "weightWith", "(III)I"⟩
abbrev cX4_pick : ByteArray := prog_6_method_23_code
def yX4_pick : MethodName := ⟨RX4, "pick", "(II)V"⟩
def RX5 : String := "SpanSpotter$Tally"
def TX5 : u_T := fun k => match k with
  | 0 => ("SpanSpotter$Tally", "weight", "I", false)
  | 1 => ("SpanSpotter$Tally", "cheap", "I", false)
  | _ => ("SpanSpotter$Tally", "every", "I", false)
def tyX5 : Nat → FieldType := fun k => match k with
  | 0 => .int
  | 1 => .int
  | _ => .int
abbrev wsX50 : List Cond := u_ws RX5 TX5 3
theorem nmX5 : ∀ a, a < 3 → ∀ b, b < 3 → a ≠ b → (TX5 a).2.1 ≠ (TX5 b).2.1 := by decide +kernel
theorem tyX5_ok : ∀ k, k < 3 → parseFieldDescriptor (TX5 k).2.2.1 = some (tyX5 k) := by decide +kernel
abbrev cX5_init : ByteArray := prog_7_method_1_code
def yX5_init : MethodName := ⟨RX5, "<init>", "()V"⟩
abbrev cX5_restart : ByteArray := prog_7_method_2_code
def yX5_restart : MethodName := ⟨RX5, "restart", "()V"⟩
abbrev cX5_add : ByteArray := prog_7_method_3_code
def yX5_add : MethodName := ⟨RX5, "add", "(III)V"⟩
def RX6 : String := "SpanSpotter$Text"
def TX6 : u_T := fun k => match k with
  | 0 => ("SpanSpotter$Text", "bytes", "[I", true)
  | 1 => ("SpanSpotter$Text", "draft", "LSpanSpotter$Line;", true)
  | 2 => ("SpanSpotter$Text", "length", "I", false)
  | 3 => ("SpanSpotter$Text", "at", "I", false)
  | _ => ("SpanSpotter$Text", "fault", "I", false)
def tyX6 : Nat → FieldType := fun k => match k with
  | 0 => .array .int
  | 1 => .object "SpanSpotter$Line"
  | 2 => .int
  | 3 => .int
  | _ => .int
abbrev wsX60 : List Cond := u_ws RX6 TX6 5
theorem nmX6 : ∀ a, a < 5 → ∀ b, b < 5 → a ≠ b → (TX6 a).2.1 ≠ (TX6 b).2.1 := by decide +kernel
theorem tyX6_ok : ∀ k, k < 5 → parseFieldDescriptor (TX6 k).2.2.1 = some (tyX6 k) := by decide +kernel
abbrev cX6_init : ByteArray := prog_8_method_1_code
def yX6_init : MethodName := ⟨RX6, "<init>", "()V"⟩
abbrev cX6_append : ByteArray := prog_8_method_2_code
def yX6_append : MethodName := ⟨RX6, "append", "(I)V"⟩
abbrev cX6_parse : ByteArray := prog_8_method_3_code
def yX6_parse : MethodName := ⟨RX6, "parse", "()I"⟩
abbrev cX6_parseHeights : ByteArray := prog_8_method_4_code
def yX6_parseHeights : MethodName := ⟨RX6, "parseHeights", "()Z"⟩
abbrev cX6_parseItem : ByteArray := prog_8_method_5_code
def yX6_parseItem : MethodName := ⟨RX6, "parseItem", "()Z"⟩
abbrev cX6_parseClearances : ByteArray := prog_8_method_6_code
def yX6_parseClearances : MethodName := ⟨RX6, "parseClearances", "()Z"⟩
abbrev cX6_parsePrice : ByteArray := prog_8_method_7_code
def yX6_parsePrice : MethodName := ⟨RX6, "parsePrice", "()Z"⟩
abbrev cX6_parseBar : ByteArray := prog_8_method_8_code
def yX6_parseBar : MethodName := ⟨RX6, "parseBar", "()Z"⟩
abbrev cX6_parseSetting : ByteArray := prog_8_method_9_code
def yX6_parseSetting : MethodName := ⟨RX6, "parseSetting", "(IC)Z"⟩
abbrev cX6_parseNumber : ByteArray := prog_8_method_10_code
def yX6_parseNumber : MethodName := ⟨RX6, "parseNumber", "(III)I"⟩
abbrev cX6_accept : ByteArray := prog_8_method_11_code
def yX6_accept : MethodName := ⟨RX6, "accept", "(C)Z"⟩
abbrev cX6_peek : ByteArray := prog_8_method_12_code
def yX6_peek : MethodName := ⟨RX6, "peek", "()I"⟩
def RX7 : String := "SpanSpotter"
def TX7 : u_T := fun k => match k with
  | 0 => ("SpanSpotter", "line", "LSpanSpotter$Line;", true)
  | 1 => ("SpanSpotter", "history", "LSpanSpotter$History;", true)
  | 2 => ("SpanSpotter", "text", "LSpanSpotter$Text;", true)
  | 3 => ("SpanSpotter", "flaws", "LSpanSpotter$Flaws;", true)
  | 4 => ("SpanSpotter", "search", "LSpanSpotter$Search;", true)
  | 5 => ("SpanSpotter", "passage", "LSpanSpotter$Passage;", true)
  | 6 => ("SpanSpotter", "searched", "Z", false)
  | 7 => ("SpanSpotter", "passed", "Z", false)
  | 8 => ("SpanSpotter", "badCalls", "I", false)
  | 9 => ("SpanSpotter", "noCalls", "I", false)
  | 10 => ("SpanSpotter", "fullCalls", "I", false)
  | 11 => ("SpanSpotter", "numerator", "J", false)
  | _ => ("SpanSpotter", "denominator", "J", false)
def tyX7 : Nat → FieldType := fun k => match k with
  | 0 => .object "SpanSpotter$Line"
  | 1 => .object "SpanSpotter$History"
  | 2 => .object "SpanSpotter$Text"
  | 3 => .object "SpanSpotter$Flaws"
  | 4 => .object "SpanSpotter$Search"
  | 5 => .object "SpanSpotter$Passage"
  | 6 => .boolean
  | 7 => .boolean
  | 8 => .int
  | 9 => .int
  | 10 => .int
  | 11 => .long
  | _ => .long
abbrev wsX70 : List Cond := u_ws RX7 TX7 13
theorem nmX7 : ∀ a, a < 13 → ∀ b, b < 13 → a ≠ b → (TX7 a).2.1 ≠ (TX7 b).2.1 := by decide +kernel
theorem tyX7_ok : ∀ k, k < 13 → parseFieldDescriptor (TX7 k).2.2.1 = some (tyX7 k) := by decide +kernel
abbrev cX7_init : ByteArray := prog_1_method_1_code
def yX7_init : MethodName := ⟨RX7, "<init>", "()V"⟩
abbrev cX7_type : ByteArray := prog_1_method_2_code
def yX7_type : MethodName := ⟨RX7, "type", "(I)I"⟩
abbrev cX7_clear : ByteArray := prog_1_method_3_code
def yX7_clear : MethodName := ⟨RX7, "clear", "()I"⟩
abbrev cX7_reads : ByteArray := prog_1_method_4_code
def yX7_reads : MethodName := ⟨RX7, "reads", "()I"⟩
abbrev cX7_place : ByteArray := prog_1_method_5_code
def yX7_place : MethodName := ⟨RX7, "place", "(II)I"⟩
abbrev cX7_lays : ByteArray := prog_1_method_6_code
def yX7_lays : MethodName := ⟨RX7, "lays", "(III)I"⟩
abbrev cX7_sets : ByteArray := prog_1_method_7_code
def yX7_sets : MethodName := ⟨RX7, "sets", "(II)I"⟩
abbrev cX7_puts : ByteArray := prog_1_method_8_code
def yX7_puts : MethodName := ⟨RX7, "puts", "(II)I"⟩
abbrev cX7_takes : ByteArray := prog_1_method_9_code
def yX7_takes : MethodName := ⟨RX7, "takes", "(I)I"⟩
abbrev cX7_moves : ByteArray := prog_1_method_10_code
def yX7_moves : MethodName := ⟨RX7, "moves", "(II)I"⟩
abbrev cX7_flaw : ByteArray := prog_1_method_11_code
def yX7_flaw : MethodName := ⟨RX7, "flaw", "(II)I"⟩
abbrev cX7_room : ByteArray := prog_1_method_12_code
def yX7_room : MethodName := ⟨RX7, "room", "(I)I"⟩
abbrev cX7_nearest : ByteArray := prog_1_method_13_code
def yX7_nearest : MethodName := ⟨RX7, "nearest", "(I)I"⟩
abbrev cX7_pull : ByteArray := prog_1_method_14_code
def yX7_pull : MethodName := ⟨RX7, "pull", "(I)I"⟩
abbrev cX7_cheapest : ByteArray := prog_1_method_15_code
def yX7_cheapest : MethodName := ⟨RX7, "cheapest", "(I)I"⟩
abbrev cX7_spot : ByteArray := prog_1_method_16_code
def yX7_spot : MethodName := ⟨RX7, "spot", "(II)I"⟩
abbrev cX7_through : ByteArray := prog_1_method_17_code
def yX7_through : MethodName := ⟨RX7, "through", "(I)I"⟩
abbrev cX7_builds : ByteArray := prog_1_method_18_code
def yX7_builds : MethodName := ⟨RX7, "builds", "()I"⟩
abbrev cX7_otherwise : ByteArray := prog_1_method_19_code
def yX7_otherwise : MethodName := ⟨RX7, "otherwise", "(II)I"⟩
abbrev cX7_upper : ByteArray := prog_1_method_20_code
def yX7_upper : MethodName := ⟨RX7, "upper", "()J"⟩
abbrev cX7_lower : ByteArray := prog_1_method_21_code
def yX7_lower : MethodName := ⟨RX7, "lower", "()J"⟩
abbrev cX7_all : ByteArray := prog_1_method_22_code
def yX7_all : MethodName := ⟨RX7, "all", "(I)I"⟩
abbrev cX7_back : ByteArray := prog_1_method_23_code
def yX7_back : MethodName := ⟨RX7, "back", "()I"⟩
abbrev cX7_told : ByteArray := prog_1_method_24_code
def yX7_told : MethodName := ⟨RX7, "told", "(I)I"⟩
abbrev cX7_digest : ByteArray := prog_1_method_25_code
def yX7_digest : MethodName := ⟨RX7, "digest", "()J"⟩
abbrev cX7_fails : ByteArray := prog_1_method_26_code
def yX7_fails : MethodName := ⟨RX7, "fails", "(I)I"⟩
abbrev cX7_saveForChange : ByteArray := prog_1_method_27_code
def yX7_saveForChange : MethodName := ⟨RX7, "saveForChange", "()V"⟩
abbrev cX7_forgetSearch : ByteArray := prog_1_method_28_code
def yX7_forgetSearch : MethodName := ⟨RX7, "forgetSearch", "()V"⟩
abbrev cX7_findCheapest : ByteArray := prog_1_method_29_code
def yX7_findCheapest : MethodName := ⟨RX7, "findCheapest", "()V"⟩
abbrev cX7_findPassages : ByteArray := prog_1_method_30_code
def yX7_findPassages : MethodName := ⟨RX7, "findPassages", "()V"⟩
abbrev cX7_keepFraction : ByteArray := prog_1_method_31_code
def yX7_keepFraction : MethodName := ⟨RX7, "keepFraction", "(JJ)V"⟩
abbrev cX7_commonDivisor : ByteArray := prog_1_method_32_code
def yX7_commonDivisor : MethodName := ⟨RX7, "commonDivisor", "(JJ)J"⟩
abbrev cX7_costOf : ByteArray := prog_1_method_33_code
def yX7_costOf : MethodName := ⟨RX7, "costOf", "(I)I"⟩
abbrev cX7_isSetting : ByteArray := prog_1_method_34_code
def yX7_isSetting : MethodName := ⟨RX7, "isSetting", "(II)Z"⟩
abbrev cX7_within : ByteArray := prog_1_method_35_code
def yX7_within : MethodName := ⟨RX7, "within", "(III)Z"⟩
def RX8 : String := "SpanSpotterModel"
def TX8 : u_T := fun k => match k with
  | 0 => ("SpanSpotterModel", "now", "[I", true)
  | 1 => ("SpanSpotterModel", "states", "[I", true)
  | 2 => ("SpanSpotterModel", "stateMany", "I", false)
  | 3 => ("SpanSpotterModel", "stateAt", "I", false)
  | 4 => ("SpanSpotterModel", "refused", "[I", true)
  | 5 => ("SpanSpotterModel", "byteMany", "I", false)
  | 6 => ("SpanSpotterModel", "text", "[I", true)
  | 7 => ("SpanSpotterModel", "readAt", "I", false)
  | 8 => ("SpanSpotterModel", "number", "I", false)
  | 9 => ("SpanSpotterModel", "fresh", "[I", true)
  | 10 => ("SpanSpotterModel", "upperTold", "J", false)
  | 11 => ("SpanSpotterModel", "lowerTold", "J", false)
  | 12 => ("SpanSpotterModel", "rest", "[I", true)
  | 13 => ("SpanSpotterModel", "restTowers", "[I", true)
  | 14 => ("SpanSpotterModel", "restNext", "[I", true)
  | 15 => ("SpanSpotterModel", "restMany", "[I", true)
  | 16 => ("SpanSpotterModel", "restAll", "[I", true)
  | 17 => ("SpanSpotterModel", "ahead", "[I", true)
  | 18 => ("SpanSpotterModel", "leastCost", "I", false)
  | 19 => ("SpanSpotterModel", "leastTowers", "I", false)
  | 20 => ("SpanSpotterModel", "leastFirst", "I", false)
  | 21 => ("SpanSpotterModel", "leastSecond", "I", false)
  | 22 => ("SpanSpotterModel", "leastMany", "I", false)
  | 23 => ("SpanSpotterModel", "allMany", "I", false)
  | 24 => ("SpanSpotterModel", "spots", "[I", true)
  | 25 => ("SpanSpotterModel", "spotMany", "I", false)
  | _ => ("SpanSpotterModel", "throughs", "[I", true)
def tyX8 : Nat → FieldType := fun k => match k with
  | 0 => .array .int
  | 1 => .array .int
  | 2 => .int
  | 3 => .int
  | 4 => .array .int
  | 5 => .int
  | 6 => .array .int
  | 7 => .int
  | 8 => .int
  | 9 => .array .int
  | 10 => .long
  | 11 => .long
  | 12 => .array .int
  | 13 => .array .int
  | 14 => .array .int
  | 15 => .array .int
  | 16 => .array .int
  | 17 => .array .int
  | 18 => .int
  | 19 => .int
  | 20 => .int
  | 21 => .int
  | 22 => .int
  | 23 => .int
  | 24 => .array .int
  | 25 => .int
  | _ => .array .int
abbrev wsX80 : List Cond := u_ws RX8 TX8 27
theorem nmX8 : ∀ a, a < 27 → ∀ b, b < 27 → a ≠ b → (TX8 a).2.1 ≠ (TX8 b).2.1 := by decide +kernel
theorem tyX8_ok : ∀ k, k < 27 → parseFieldDescriptor (TX8 k).2.2.1 = some (tyX8 k) := by decide +kernel
abbrev cX8_init : ByteArray := prog_10_method_1_code
def yX8_init : MethodName := ⟨RX8, "<init>", "()V"⟩
abbrev cX8_in : ByteArray := prog_10_method_2_code
def yX8_in : MethodName := ⟨RX8, "in", "(III)Z"⟩
abbrev cX8_bad : ByteArray := prog_10_method_3_code
def yX8_bad : MethodName := ⟨RX8, "bad", "()I"⟩
abbrev cX8_no : ByteArray := prog_10_method_4_code
def yX8_no : MethodName := ⟨RX8, "no", "()I"⟩
abbrev cX8_asAtFirst : ByteArray := prog_10_method_5_code
def yX8_asAtFirst : MethodName := ⟨RX8, "asAtFirst", "([II)V"⟩
abbrev cX8_keepsState : ByteArray := prog_10_method_6_code
def yX8_keepsState : MethodName := ⟨RX8, "keepsState", "()V"⟩
abbrev cX8_back : ByteArray := prog_10_method_7_code
def yX8_back : MethodName := ⟨RX8, "back", "()I"⟩
abbrev cX8_type : ByteArray := prog_10_method_8_code
def yX8_type : MethodName := ⟨RX8, "type", "(I)I"⟩
abbrev cX8_clear : ByteArray := prog_10_method_9_code
def yX8_clear : MethodName := ⟨RX8, "clear", "()I"⟩
abbrev cX8_here : ByteArray := prog_10_method_10_code
def yX8_here : MethodName := ⟨RX8, "here", "()I"⟩
abbrev cX8_comes : ByteArray := prog_10_method_11_code
def yX8_comes : MethodName := ⟨RX8, "comes", "(C)Z"⟩
abbrev cX8_isNumber : ByteArray := prog_10_method_12_code
def yX8_isNumber : MethodName := ⟨RX8, "isNumber", "(III)Z"⟩
abbrev cX8_readsGrounds : ByteArray := prog_10_method_13_code
def yX8_readsGrounds : MethodName := ⟨RX8, "readsGrounds", "()Z"⟩
abbrev cX8_readsNeed : ByteArray := prog_10_method_14_code
def yX8_readsNeed : MethodName := ⟨RX8, "readsNeed", "()Z"⟩
abbrev cX8_readsPrice : ByteArray := prog_10_method_15_code
def yX8_readsPrice : MethodName := ⟨RX8, "readsPrice", "()Z"⟩
abbrev cX8_readsBarred : ByteArray := prog_10_method_16_code
def yX8_readsBarred : MethodName := ⟨RX8, "readsBarred", "()Z"⟩
abbrev cX8_readsTwo : ByteArray := prog_10_method_17_code
def yX8_readsTwo : MethodName := ⟨RX8, "readsTwo", "(IIIIII)Z"⟩
abbrev cX8_readsOne : ByteArray := prog_10_method_18_code
def yX8_readsOne : MethodName := ⟨RX8, "readsOne", "(III)Z"⟩
abbrev cX8_readsItem : ByteArray := prog_10_method_19_code
def yX8_readsItem : MethodName := ⟨RX8, "readsItem", "(I)Z"⟩
abbrev cX8_reads : ByteArray := prog_10_method_20_code
def yX8_reads : MethodName := ⟨RX8, "reads", "()I"⟩
abbrev cX8_isPlace : ByteArray := prog_10_method_21_code
def yX8_isPlace : MethodName := ⟨RX8, "isPlace", "(I)Z"⟩
abbrev cX8_placeIs : ByteArray := prog_10_method_22_code
def yX8_placeIs : MethodName := ⟨RX8, "placeIs", "(II)I"⟩
abbrev cX8_place : ByteArray := prog_10_method_23_code
def yX8_place : MethodName := ⟨RX8, "place", "(II)I"⟩
abbrev cX8_mostOf : ByteArray := prog_10_method_24_code
def yX8_mostOf : MethodName := ⟨RX8, "mostOf", "(I)I"⟩
abbrev cX8_lays : ByteArray := prog_10_method_25_code
def yX8_lays : MethodName := ⟨RX8, "lays", "(III)I"⟩
abbrev cX8_mayBe : ByteArray := prog_10_method_26_code
def yX8_mayBe : MethodName := ⟨RX8, "mayBe", "(II)Z"⟩
abbrev cX8_sets : ByteArray := prog_10_method_27_code
def yX8_sets : MethodName := ⟨RX8, "sets", "(II)I"⟩
abbrev cX8_has : ByteArray := prog_10_method_28_code
def yX8_has : MethodName := ⟨RX8, "has", "(I)Z"⟩
abbrev cX8_towers : ByteArray := prog_10_method_29_code
def yX8_towers : MethodName := ⟨RX8, "towers", "()I"⟩
abbrev cX8_height : ByteArray := prog_10_method_30_code
def yX8_height : MethodName := ⟨RX8, "height", "(I)I"⟩
abbrev cX8_top : ByteArray := prog_10_method_31_code
def yX8_top : MethodName := ⟨RX8, "top", "(II)I"⟩
abbrev cX8_cost : ByteArray := prog_10_method_32_code
def yX8_cost : MethodName := ⟨RX8, "cost", "(II)I"⟩
abbrev cX8_beside : ByteArray := prog_10_method_33_code
def yX8_beside : MethodName := ⟨RX8, "beside", "(II)I"⟩
abbrev cX8_roomOf : ByteArray := prog_10_method_34_code
def yX8_roomOf : MethodName := ⟨RX8, "roomOf", "(IIIII)I"⟩
abbrev cX8_pullOf : ByteArray := prog_10_method_35_code
def yX8_pullOf : MethodName := ⟨RX8, "pullOf", "(IIIIII)I"⟩
abbrev cX8_isClear : ByteArray := prog_10_method_36_code
def yX8_isClear : MethodName := ⟨RX8, "isClear", "(IIII)Z"⟩
abbrev cX8_holds : ByteArray := prog_10_method_37_code
def yX8_holds : MethodName := ⟨RX8, "holds", "(IIIIII)Z"⟩
abbrev cX8_puts : ByteArray := prog_10_method_38_code
def yX8_puts : MethodName := ⟨RX8, "puts", "(II)I"⟩
abbrev cX8_takes : ByteArray := prog_10_method_39_code
def yX8_takes : MethodName := ⟨RX8, "takes", "(I)I"⟩
abbrev cX8_moves : ByteArray := prog_10_method_40_code
def yX8_moves : MethodName := ⟨RX8, "moves", "(II)I"⟩
abbrev cX8_isFlaw : ByteArray := prog_10_method_41_code
def yX8_isFlaw : MethodName := ⟨RX8, "isFlaw", "(II)Z"⟩
abbrev cX8_flaws : ByteArray := prog_10_method_42_code
def yX8_flaws : MethodName := ⟨RX8, "flaws", "()I"⟩
abbrev cX8_flawIs : ByteArray := prog_10_method_43_code
def yX8_flawIs : MethodName := ⟨RX8, "flawIs", "(II)I"⟩
abbrev cX8_flaw : ByteArray := prog_10_method_44_code
def yX8_flaw : MethodName := ⟨RX8, "flaw", "(II)I"⟩
abbrev cX8_says : ByteArray := prog_10_method_45_code
def yX8_says : MethodName := ⟨RX8, "says", "(II)V"⟩
abbrev cX8_upper : ByteArray := prog_10_method_46_code
def yX8_upper : MethodName := ⟨RX8, "upper", "()J"⟩
abbrev cX8_lower : ByteArray := prog_10_method_47_code
def yX8_lower : MethodName := ⟨RX8, "lower", "()J"⟩
abbrev cX8_room : ByteArray := prog_10_method_48_code
def yX8_room : MethodName := ⟨RX8, "room", "(I)I"⟩
abbrev cX8_nearest : ByteArray := prog_10_method_49_code
def yX8_nearest : MethodName := ⟨RX8, "nearest", "(I)I"⟩
abbrev cX8_pull : ByteArray := prog_10_method_50_code
def yX8_pull : MethodName := ⟨RX8, "pull", "(I)I"⟩
abbrev cX8_pair : ByteArray := prog_10_method_51_code
def yX8_pair : MethodName := ⟨RX8, "pair", "(IIII)I"⟩
abbrev cX8_mayStand : ByteArray := prog_10_method_52_code
def yX8_mayStand : MethodName := ⟨RX8, "mayStand", "(II)Z"⟩
abbrev cX8_maySpan : ByteArray := prog_10_method_53_code
def yX8_maySpan : MethodName := ⟨RX8, "maySpan", "(IIII)Z"⟩
abbrev cX8_lastFrom : ByteArray := prog_10_method_54_code
def yX8_lastFrom : MethodName := ⟨RX8, "lastFrom", "(I)I"⟩
abbrev cX8_takesRest : ByteArray := prog_10_method_55_code
def yX8_takesRest : MethodName := ⟨RX8, "takesRest", "(IIIIII)V"⟩
abbrev cX8_laysRest : ByteArray := prog_10_method_56_code
def yX8_laysRest : MethodName := ⟨RX8, "laysRest", "(IIII)V"⟩
abbrev cX8_laysRests : ByteArray := prog_10_method_57_code
def yX8_laysRests : MethodName := ⟨RX8, "laysRests", "()V"⟩
abbrev cX8_laysLeast : ByteArray := prog_10_method_58_code
def yX8_laysLeast : MethodName := ⟨RX8, "laysLeast", "()V"⟩
abbrev cX8_laysSpots : ByteArray := prog_10_method_59_code
def yX8_laysSpots : MethodName := ⟨RX8, "laysSpots", "()V"⟩
abbrev cX8_cheapestIs : ByteArray := prog_10_method_60_code
def yX8_cheapestIs : MethodName := ⟨RX8, "cheapestIs", "(I)I"⟩
abbrev cX8_cheapest : ByteArray := prog_10_method_61_code
def yX8_cheapest : MethodName := ⟨RX8, "cheapest", "(I)I"⟩
abbrev cX8_spot : ByteArray := prog_10_method_62_code
def yX8_spot : MethodName := ⟨RX8, "spot", "(II)I"⟩
abbrev cX8_laysAhead : ByteArray := prog_10_method_63_code
def yX8_laysAhead : MethodName := ⟨RX8, "laysAhead", "(IIII)V"⟩
abbrev cX8_laysThrough : ByteArray := prog_10_method_64_code
def yX8_laysThrough : MethodName := ⟨RX8, "laysThrough", "()V"⟩
abbrev cX8_through : ByteArray := prog_10_method_65_code
def yX8_through : MethodName := ⟨RX8, "through", "(I)I"⟩
abbrev cX8_builds : ByteArray := prog_10_method_66_code
def yX8_builds : MethodName := ⟨RX8, "builds", "()I"⟩
abbrev cX8_otherwise : ByteArray := prog_10_method_67_code
def yX8_otherwise : MethodName := ⟨RX8, "otherwise", "(II)I"⟩
abbrev cX8_costOfPlan : ByteArray := prog_10_method_68_code
def yX8_costOfPlan : MethodName := ⟨RX8, "costOfPlan", "()I"⟩
abbrev cX8_countOf : ByteArray := prog_10_method_69_code
def yX8_countOf : MethodName := ⟨RX8, "countOf", "(I)I"⟩
abbrev cX8_allOf : ByteArray := prog_10_method_70_code
def yX8_allOf : MethodName := ⟨RX8, "allOf", "(I)I"⟩
abbrev cX8_all : ByteArray := prog_10_method_71_code
def yX8_all : MethodName := ⟨RX8, "all", "(I)I"⟩
abbrev cX8_toldOf : ByteArray := prog_10_method_72_code
def yX8_toldOf : MethodName := ⟨RX8, "toldOf", "(I)I"⟩
abbrev cX8_told : ByteArray := prog_10_method_73_code
def yX8_told : MethodName := ⟨RX8, "told", "(I)I"⟩
abbrev cX8_digest : ByteArray := prog_10_method_74_code
def yX8_digest : MethodName := ⟨RX8, "digest", "()J"⟩
def RJ9 : String := "java/lang/Math"
def TJ9 : u_T := fun k => match k with
  | _ => ("", "", "", false)
def tyJ9 : Nat → FieldType := fun k => match k with
  | _ => .int
abbrev wsJ90 : List Cond := u_ws RJ9 TJ9 0
theorem nmJ9 : ∀ a, a < 0 → ∀ b, b < 0 → a ≠ b → (TJ9 a).2.1 ≠ (TJ9 b).2.1 := by decide +kernel
theorem tyJ9_ok : ∀ k, k < 0 → parseFieldDescriptor (TJ9 k).2.2.1 = some (tyJ9 k) := by decide +kernel
abbrev cJ9_abs_067f4 : ByteArray := prog_11_method_61_code
def yJ9_abs_067f4 : MethodName := ⟨RJ9, "abs", "(J)J"⟩
abbrev cJ9_max_7cf53 : ByteArray := prog_11_method_65_code
def yJ9_max_7cf53 : MethodName := ⟨RJ9, "max", "(II)I"⟩
abbrev cJ9_min_7cf53 : ByteArray := prog_11_method_69_code
def yJ9_min_7cf53 : MethodName := ⟨RJ9, "min", "(II)I"⟩
def RJ10 : String := "java/lang/System"
def TJ10 : u_T := fun k => match k with
  | _ => ("", "", "", false)
def tyJ10 : Nat → FieldType := fun k => match k with
  | _ => .int
abbrev wsJ100 : List Cond := u_ws RJ10 TJ10 0
theorem nmJ10 : ∀ a, a < 0 → ∀ b, b < 0 → a ≠ b → (TJ10 a).2.1 ≠ (TJ10 b).2.1 := by decide +kernel
theorem tyJ10_ok : ∀ k, k < 0 → parseFieldDescriptor (TJ10 k).2.2.1 = some (tyJ10 k) := by decide +kernel
def RL : String := "SpanSpotterLaw"
abbrev cL_law : ByteArray := code
def yL_law : MethodName := ⟨RL, "law", "([I)Z"⟩
abbrev vwCl : List vw_C := [(RX0, TX0, 4), (RX1, TX1, 3), (RX2, TX2, 3), (RX3, TX3, 4), (RX4, TX4, 17), (RX5, TX5, 3), (RX6, TX6, 5), (RX7, TX7, 13), (RX8, TX8, 27)]
