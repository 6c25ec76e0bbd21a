/-! the law -/
theorem lw_lt {L i : Nat} (hL : L ≤ 2048) (hi : i ≤ 2052) : Int32.ofNat L - 4 < nI i ↔ L < i + 4 := by
  show nI L - 4 < nI i ↔ L < i + 4
  rcases Nat.lt_or_ge L 4 with h | h
  · have hn : nI L - 4 < 0 := by
      rcases (show L = 0 ∨ L = 1 ∨ L = 2 ∨ L = 3 by omega) with rfl | rfl | rfl | rfl <;> decide
    exact ⟨fun _ => by omega, fun _ => Int32.lt_of_lt_of_le hn (nI_pos' (by omega))⟩
  · rw [show nI L - 4 = nI (L - 4) from pk_sub (b := 4) h, nI_ltI (by omega) (by omega)]
    omega
theorem tab_out {v : Int32} (h : ¬ (0 ≤ v ∧ v ≤ 23)) : v.toInt < 0 ∨ 23 < v.toInt := by
  rcases (show v.toInt < 0 ∨ 23 < v.toInt ∨ (0 ≤ v.toInt ∧ v.toInt ≤ 23) by omega) with a | a | ⟨a, c⟩
  · exact Or.inl a
  · exact Or.inr a
  · exact absurd ⟨Int32.le_iff_toInt_le.mpr a, Int32.le_iff_toInt_le.mpr c⟩ h
section LW
variable {p : Program} {l : Launch} {e : Env} {s : State} {m : MethodId} {below : List Frame} {meth : Method} {c : Code} {H : Heap} {locs : List Loc} {cells slots : Nat} {Qw : State → Prop} {pc : Nat} {ls : Array Slot} {rest : List Value} {D : va_G} {g : sp_G} {A : Nat → Prop} {b L : Nat} {xs : Nat → Int32} {st ad : Nat → Nat}
theorem law_loop (C : lwC p s m c b L xs D g st ad A) (hr : meth.sig.returnType = ret) (hlk : meth.locks = false) (hL : L ≤ 2048) (hAs : ∀ q, A q → s.heap.size ≤ q) (hcs : cells ≤ 600000 ∧ slots ≤ 7302250) : ∀ (n i : Nat) (S : sp_M) (H : Heap) (locs : List Loc) (ls : Array Slot), L < i + n → i ≤ L + 4 → lv_has ls 4 [(3, .int (nI i)), (2, .ref (ad 87)), (1, .ref (ad 0)), (0, .ref b)] → Inv S → va_P D vwCl (sp_ws g ad sp_w.1 S) H → va_D A (sp_ws g ad sp_w.1 S) → va_S A s.heap H locs → W p l e room_1 s m #[Value.ref b] below meth c H locs cells slots (lw_Z below #[Value.ref b] s) (F0 m 18 ls []) := by
  intro n
  induction n with
  | zero =>
    intro i S H locs ls hn hi hl gI hP hD hS
    obtain ⟨⟨⟨hx, hb, hml, hown⟩, -⟩, ⟨hX, hbl, hbA⟩, had⟩ := id C
    refine lv_iload_n (k := 3) hx hb (show decode code 18 = .ok (.iload_n 3, 1) from by decide +kernel) rfl (lv_at hl 0 rfl) ?_
    refine lv_aload_n (k := 0) hx hb (show decode code 19 = .ok (.aload_n 0, 1) from by decide +kernel) rfl (lv_at hl 3 rfl) ?_
    refine va_slen hx hb hX hbl hbA hS (show decode code 20 = .ok (.arraylength, 1) from by decide +kernel) ?_
    refine lv_iconst (n := 4) (v := 4) hx hb (show decode code 21 = .ok (.iconst 4, 1) from by decide +kernel) (by decide) ?_
    refine lv_isub hx hb (show decode code 22 = .ok (.isub, 1) from by decide +kernel) ?_
    refine lv_icmp_gt (tgt := 725) hx hb (show decode code 23 = .ok (.if_icmp .gt 702, 3) from by decide +kernel) (by decide) (fun _ => ?_) (fun q => absurd ((lw_lt hL (by omega)).mpr (by omega)) q)
    refine lv_iconst (n := 1) (v := 1) hx hb (show decode code 725 = .ok (.iconst 1, 1) from by decide +kernel) (by decide) ?_
    refine va_forget (fun q hq => hAs _ (hS.2.2 q hq)) ?_
    refine W.widen (k := 600000) (n := 7302250) hcs.1 hcs.2 ?_
    exact lw_ret hx hb hr hlk (show decode code 726 = .ok (.ireturn, 1) from by decide +kernel)
  | succ n ih =>
    intro i S H locs ls hn hi hl gI hP hD hS
    obtain ⟨⟨⟨hx, hb, hml, hown⟩, -⟩, ⟨hX, hbl, hbA⟩, had⟩ := id C
    refine lv_iload_n (k := 3) hx hb (show decode code 18 = .ok (.iload_n 3, 1) from by decide +kernel) rfl (lv_at hl 0 rfl) ?_
    refine lv_aload_n (k := 0) hx hb (show decode code 19 = .ok (.aload_n 0, 1) from by decide +kernel) rfl (lv_at hl 3 rfl) ?_
    refine va_slen hx hb hX hbl hbA hS (show decode code 20 = .ok (.arraylength, 1) from by decide +kernel) ?_
    refine lv_iconst (n := 4) (v := 4) hx hb (show decode code 21 = .ok (.iconst 4, 1) from by decide +kernel) (by decide) ?_
    refine lv_isub hx hb (show decode code 22 = .ok (.isub, 1) from by decide +kernel) ?_
    refine lv_icmp_gt (tgt := 725) hx hb (show decode code 23 = .ok (.if_icmp .gt 702, 3) from by decide +kernel) (by decide) (fun _ => ?_) (fun q => ?_)
    · refine lv_iconst (n := 1) (v := 1) hx hb (show decode code 725 = .ok (.iconst 1, 1) from by decide +kernel) (by decide) ?_
      refine va_forget (fun q hq => hAs _ (hS.2.2 q hq)) ?_
      refine W.widen (k := 600000) (n := 7302250) hcs.1 hcs.2 ?_
      exact lw_ret hx hb hr hlk (show decode code 726 = .ok (.ireturn, 1) from by decide +kernel)
    · have hi4 : i + 4 ≤ L := by
        have := mt (lw_lt (i := i) hL (by omega)).mpr q
        omega
      have v0 : vp_in (nI i) L := in_n (by omega) (by omega)
      refine lv_aload_n (k := 0) hx hb (show decode code 26 = .ok (.aload_n 0, 1) from by decide +kernel) rfl (lv_at hl 3 rfl) ?_
      refine lv_iload_n (k := 3) hx hb (show decode code 27 = .ok (.iload_n 3, 1) from by decide +kernel) rfl (lv_at hl 0 rfl) ?_
      refine va_sld hx hb hX hbl hbA hS v0 (show decode code 28 = .ok (.iaload, 1) from by decide +kernel) ?_
      refine lv_bipush (n := 31) (v := 31) hx hb (show decode code 29 = .ok (.bipush 31, 2) from by decide +kernel) (by decide) ?_
      refine lv_iand hx hb (show decode code 31 = .ok (.iand, 1) from by decide +kernel) ?_
      have K : ∀ (S' : sp_M) (H' : Heap) (locs' : List Loc), Inv S' → va_P D vwCl (sp_ws g ad sp_w.1 S') H' → va_D A (sp_ws g ad sp_w.1 S') → va_S A s.heap H' locs' → W p l e room_1 s m #[Value.ref b] below meth c H' locs' cells slots (lw_Z below #[Value.ref b] s) (F0 m 719 ls []) := fun S' H' locs' gI hP hD hS => by
        refine lv_iinc (n := 4) (v := nI (i + 4)) (lv' := [(3, .int (nI (i + 4))), (2, .ref (ad 87)), (1, .ref (ad 0)), (0, .ref b)]) hx hb (show decode code 719 = .ok (.iinc 3 4, 3) from by decide +kernel) hl (k := 0) rfl (nI_add i 4) (by decide) rfl (fun ls hl => ?_)
        refine lv_goto (tgt := 18) hx hb (show decode code 722 = .ok (.goto (-704), 3) from by decide +kernel) (by decide) ?_
        exact ih (i + 4) S' H' locs' ls (by omega) (by omega) hl gI hP hD hS
      generalize (xs (nI i).toNatClampNeg &&& 31) = v
      by_cases hv : 0 ≤ v ∧ v ≤ 23
      · obtain ⟨j, hj, rfl⟩ := ix_of (N := 23) (by omega) hv.1 hv.2
        rcases (show j = 0 ∨ j = 1 ∨ j = 2 ∨ j = 3 ∨ j = 4 ∨ j = 5 ∨ j = 6 ∨ j = 7 ∨ j = 8 ∨ j = 9 ∨ j = 10 ∨ j = 11 ∨ j = 12 ∨ j = 13 ∨ j = 14 ∨ j = 15 ∨ j = 16 ∨ j = 17 ∨ j = 18 ∨ j = 19 ∨ j = 20 ∨ j = 21 ∨ j = 22 ∨ j = 23 by omega) with rfl | rfl | rfl | rfl | rfl | rfl | rfl | rfl | rfl | rfl | rfl | rfl | rfl | rfl | rfl | rfl | rfl | rfl | rfl | rfl | rfl | rfl | rfl | rfl
        · exact lv_tableIn (off := 112) (tgt := 144) hx hb (show decode code 32 = .ok (.tableswitch 687 0 23 #[112, 135, 148, 161, 194, 237, 270, 303, 326, 359, 392, 415, 438, 461, 484, 517, 540, 553, 586, 600, 614, 637, 650, 673], 112) from by decide +kernel) (by decide) (by decide) (by decide +kernel) (by decide) (law_type C hi4 hL hl gI hP hD hS hcs K)
        · exact lv_tableIn (off := 135) (tgt := 167) hx hb (show decode code 32 = .ok (.tableswitch 687 0 23 #[112, 135, 148, 161, 194, 237, 270, 303, 326, 359, 392, 415, 438, 461, 484, 517, 540, 553, 586, 600, 614, 637, 650, 673], 112) from by decide +kernel) (by decide) (by decide) (by decide +kernel) (by decide) (law_clear C hi4 hL hl gI hP hD hS hcs K)
        · exact lv_tableIn (off := 148) (tgt := 180) hx hb (show decode code 32 = .ok (.tableswitch 687 0 23 #[112, 135, 148, 161, 194, 237, 270, 303, 326, 359, 392, 415, 438, 461, 484, 517, 540, 553, 586, 600, 614, 637, 650, 673], 112) from by decide +kernel) (by decide) (by decide) (by decide +kernel) (by decide) (law_reads C hi4 hL hl gI hP hD hS hcs K)
        · exact lv_tableIn (off := 161) (tgt := 193) hx hb (show decode code 32 = .ok (.tableswitch 687 0 23 #[112, 135, 148, 161, 194, 237, 270, 303, 326, 359, 392, 415, 438, 461, 484, 517, 540, 553, 586, 600, 614, 637, 650, 673], 112) from by decide +kernel) (by decide) (by decide) (by decide +kernel) (by decide) (law_place C hi4 hL hl gI hP hD hS hcs K)
        · exact lv_tableIn (off := 194) (tgt := 226) hx hb (show decode code 32 = .ok (.tableswitch 687 0 23 #[112, 135, 148, 161, 194, 237, 270, 303, 326, 359, 392, 415, 438, 461, 484, 517, 540, 553, 586, 600, 614, 637, 650, 673], 112) from by decide +kernel) (by decide) (by decide) (by decide +kernel) (by decide) (law_lays C hi4 hL hl gI hP hD hS hcs K)
        · exact lv_tableIn (off := 237) (tgt := 269) hx hb (show decode code 32 = .ok (.tableswitch 687 0 23 #[112, 135, 148, 161, 194, 237, 270, 303, 326, 359, 392, 415, 438, 461, 484, 517, 540, 553, 586, 600, 614, 637, 650, 673], 112) from by decide +kernel) (by decide) (by decide) (by decide +kernel) (by decide) (law_sets C hi4 hL hl gI hP hD hS hcs K)
        · exact lv_tableIn (off := 270) (tgt := 302) hx hb (show decode code 32 = .ok (.tableswitch 687 0 23 #[112, 135, 148, 161, 194, 237, 270, 303, 326, 359, 392, 415, 438, 461, 484, 517, 540, 553, 586, 600, 614, 637, 650, 673], 112) from by decide +kernel) (by decide) (by decide) (by decide +kernel) (by decide) (law_puts C hi4 hL hl gI hP hD hS hcs K)
        · exact lv_tableIn (off := 303) (tgt := 335) hx hb (show decode code 32 = .ok (.tableswitch 687 0 23 #[112, 135, 148, 161, 194, 237, 270, 303, 326, 359, 392, 415, 438, 461, 484, 517, 540, 553, 586, 600, 614, 637, 650, 673], 112) from by decide +kernel) (by decide) (by decide) (by decide +kernel) (by decide) (law_takes C hi4 hL hl gI hP hD hS hcs K)
        · exact lv_tableIn (off := 326) (tgt := 358) hx hb (show decode code 32 = .ok (.tableswitch 687 0 23 #[112, 135, 148, 161, 194, 237, 270, 303, 326, 359, 392, 415, 438, 461, 484, 517, 540, 553, 586, 600, 614, 637, 650, 673], 112) from by decide +kernel) (by decide) (by decide) (by decide +kernel) (by decide) (law_moves C hi4 hL hl gI hP hD hS hcs K)
        · exact lv_tableIn (off := 359) (tgt := 391) hx hb (show decode code 32 = .ok (.tableswitch 687 0 23 #[112, 135, 148, 161, 194, 237, 270, 303, 326, 359, 392, 415, 438, 461, 484, 517, 540, 553, 586, 600, 614, 637, 650, 673], 112) from by decide +kernel) (by decide) (by decide) (by decide +kernel) (by decide) (law_flaw C hi4 hL hl gI hP hD hS hcs K)
        · exact lv_tableIn (off := 392) (tgt := 424) hx hb (show decode code 32 = .ok (.tableswitch 687 0 23 #[112, 135, 148, 161, 194, 237, 270, 303, 326, 359, 392, 415, 438, 461, 484, 517, 540, 553, 586, 600, 614, 637, 650, 673], 112) from by decide +kernel) (by decide) (by decide) (by decide +kernel) (by decide) (law_room C hi4 hL hl gI hP hD hS hcs K)
        · exact lv_tableIn (off := 415) (tgt := 447) hx hb (show decode code 32 = .ok (.tableswitch 687 0 23 #[112, 135, 148, 161, 194, 237, 270, 303, 326, 359, 392, 415, 438, 461, 484, 517, 540, 553, 586, 600, 614, 637, 650, 673], 112) from by decide +kernel) (by decide) (by decide) (by decide +kernel) (by decide) (law_nearest C hi4 hL hl gI hP hD hS hcs K)
        · exact lv_tableIn (off := 438) (tgt := 470) hx hb (show decode code 32 = .ok (.tableswitch 687 0 23 #[112, 135, 148, 161, 194, 237, 270, 303, 326, 359, 392, 415, 438, 461, 484, 517, 540, 553, 586, 600, 614, 637, 650, 673], 112) from by decide +kernel) (by decide) (by decide) (by decide +kernel) (by decide) (law_pull C hi4 hL hl gI hP hD hS hcs K)
        · exact lv_tableIn (off := 461) (tgt := 493) hx hb (show decode code 32 = .ok (.tableswitch 687 0 23 #[112, 135, 148, 161, 194, 237, 270, 303, 326, 359, 392, 415, 438, 461, 484, 517, 540, 553, 586, 600, 614, 637, 650, 673], 112) from by decide +kernel) (by decide) (by decide) (by decide +kernel) (by decide) (law_cheapest C hi4 hL hl gI hP hD hS hcs K)
        · exact lv_tableIn (off := 484) (tgt := 516) hx hb (show decode code 32 = .ok (.tableswitch 687 0 23 #[112, 135, 148, 161, 194, 237, 270, 303, 326, 359, 392, 415, 438, 461, 484, 517, 540, 553, 586, 600, 614, 637, 650, 673], 112) from by decide +kernel) (by decide) (by decide) (by decide +kernel) (by decide) (law_spot C hi4 hL hl gI hP hD hS hcs K)
        · exact lv_tableIn (off := 517) (tgt := 549) hx hb (show decode code 32 = .ok (.tableswitch 687 0 23 #[112, 135, 148, 161, 194, 237, 270, 303, 326, 359, 392, 415, 438, 461, 484, 517, 540, 553, 586, 600, 614, 637, 650, 673], 112) from by decide +kernel) (by decide) (by decide) (by decide +kernel) (by decide) (law_through C hi4 hL hl gI hP hD hS hcs K)
        · exact lv_tableIn (off := 540) (tgt := 572) hx hb (show decode code 32 = .ok (.tableswitch 687 0 23 #[112, 135, 148, 161, 194, 237, 270, 303, 326, 359, 392, 415, 438, 461, 484, 517, 540, 553, 586, 600, 614, 637, 650, 673], 112) from by decide +kernel) (by decide) (by decide) (by decide +kernel) (by decide) (law_builds C hi4 hL hl gI hP hD hS hcs K)
        · exact lv_tableIn (off := 553) (tgt := 585) hx hb (show decode code 32 = .ok (.tableswitch 687 0 23 #[112, 135, 148, 161, 194, 237, 270, 303, 326, 359, 392, 415, 438, 461, 484, 517, 540, 553, 586, 600, 614, 637, 650, 673], 112) from by decide +kernel) (by decide) (by decide) (by decide +kernel) (by decide) (law_otherwise C hi4 hL hl gI hP hD hS hcs K)
        · exact lv_tableIn (off := 586) (tgt := 618) hx hb (show decode code 32 = .ok (.tableswitch 687 0 23 #[112, 135, 148, 161, 194, 237, 270, 303, 326, 359, 392, 415, 438, 461, 484, 517, 540, 553, 586, 600, 614, 637, 650, 673], 112) from by decide +kernel) (by decide) (by decide) (by decide +kernel) (by decide) (law_upper C hi4 hL hl gI hP hD hS hcs K)
        · exact lv_tableIn (off := 600) (tgt := 632) hx hb (show decode code 32 = .ok (.tableswitch 687 0 23 #[112, 135, 148, 161, 194, 237, 270, 303, 326, 359, 392, 415, 438, 461, 484, 517, 540, 553, 586, 600, 614, 637, 650, 673], 112) from by decide +kernel) (by decide) (by decide) (by decide +kernel) (by decide) (law_lower C hi4 hL hl gI hP hD hS hcs K)
        · exact lv_tableIn (off := 614) (tgt := 646) hx hb (show decode code 32 = .ok (.tableswitch 687 0 23 #[112, 135, 148, 161, 194, 237, 270, 303, 326, 359, 392, 415, 438, 461, 484, 517, 540, 553, 586, 600, 614, 637, 650, 673], 112) from by decide +kernel) (by decide) (by decide) (by decide +kernel) (by decide) (law_all C hi4 hL hl gI hP hD hS hcs K)
        · exact lv_tableIn (off := 637) (tgt := 669) hx hb (show decode code 32 = .ok (.tableswitch 687 0 23 #[112, 135, 148, 161, 194, 237, 270, 303, 326, 359, 392, 415, 438, 461, 484, 517, 540, 553, 586, 600, 614, 637, 650, 673], 112) from by decide +kernel) (by decide) (by decide) (by decide +kernel) (by decide) (law_back C hi4 hL hl gI hP hD hS hcs K)
        · exact lv_tableIn (off := 650) (tgt := 682) hx hb (show decode code 32 = .ok (.tableswitch 687 0 23 #[112, 135, 148, 161, 194, 237, 270, 303, 326, 359, 392, 415, 438, 461, 484, 517, 540, 553, 586, 600, 614, 637, 650, 673], 112) from by decide +kernel) (by decide) (by decide) (by decide +kernel) (by decide) (law_told C hi4 hL hl gI hP hD hS hcs K)
        · exact lv_tableIn (off := 673) (tgt := 705) hx hb (show decode code 32 = .ok (.tableswitch 687 0 23 #[112, 135, 148, 161, 194, 237, 270, 303, 326, 359, 392, 415, 438, 461, 484, 517, 540, 553, 586, 600, 614, 637, 650, 673], 112) from by decide +kernel) (by decide) (by decide) (by decide +kernel) (by decide) (law_digest C hi4 hL hl gI hP hD hS hcs K)
      · exact lv_tableOut (tgt := 719) hx hb (show decode code 32 = .ok (.tableswitch 687 0 23 #[112, 135, 148, 161, 194, 237, 270, 303, 326, 359, 392, 415, 438, 461, 484, 517, 540, 553, 586, 600, 614, 637, 650, 673], 112) from by decide +kernel) (tab_out hv) (by decide) (K S H locs gI hP hD hS)
end LW
theorem sk7_rf : rfB sk7 87 := by
  unfold sk7
  refine rfB.app (rfB.cons (fun r h => ?_) rfB.nil) (rfB.app (rfB.app (rfB.app (rfB.app (rfB.app (rfB.app rfB.nil (skL_rf.up (by omega))) (skH_rf.up (by omega))) (skT_rf.up (by omega))) (skF_rf.up (by omega))) (skS_rf.up (by omega))) skP_rf)
  have h' : (Sum.inl (some r) : sp_F) ∈ [(.inl (some 1) : sp_F), .inl (some 9), .inl (some 59), .inl (some 69), .inl (some 72), .inl (some 84), .inr false, .inr false, .inr false, .inr false, .inr false, .inr true, .inr true] := h
  simp at h'
  omega
set_option maxHeartbeats 4000000 in
/-- the law from its entry, whichever the shapes are called -/
theorem whole_2 {p : Program} {e : Env} {s : State} {m : MethodId} {below : List Frame} {meth : Method} {c : Code} (l : Launch) (hflags : l.flags = flags0) {b L : Nat} {xs : Nat → Int32} (hL : L ≤ 2048) (C0 : lw_At p s m meth c b L xs) {k7 kM : List sp_C} (h7 : k7.length = 87) (hM : kM.length = 14) (hrf : rfB k7 87) (hall : k7 ++ kM = sp_w.1) (cc7 : ctMet l yX7_init cX7_init 1 3 86 9342 63 7 [.null, .null, .null, .null, .null, .null, .int 0, .int 0, .int 0, .int 0, .int 0, .long 0, .long 0] 0 k7 (fun _ S ex => ex = [] ∧ zr S 0 87) (fun _ S' => lv S' 1 = fst0 ∧ S'.1 0 = (fun _ => 0) ∧ (S'.2.1 0 11 = 0 ∧ S'.2.1 0 12 = 1) ∧ S'.1 9 = (fun _ => 0) ∧ S'.1 59 = (fun _ => 0) ∧ S'.1 69 = (fun _ => 0))) (cc8 : ctMet l yX8_init cX8_init 1 2 13 41965 44 8 [.null, .null, .int 0, .int 0, .null, .int 0, .null, .int 0, .int 0, .null, .long 0, .long 0, .null, .null, .null, .null, .null, .null, .int 0, .int 0, .int 0, .int 0, .int 0, .int 0, .null, .int 0, .null] 87 kM (fun ad S ex => ex = [] ∧ zr S 87 kM.length) (fun _ S' => mv S' = fst0 ∧ S'.1 87 = (fun _ => 0) ∧ S'.2.2 90 = (fun _ => 0) ∧ S'.2.1 87 10 = 0 ∧ S'.2.1 87 11 = 1)) : W p l e room_1 s m #[Value.ref b] below meth c s.heap [] 0 0 (lw_Z below #[Value.ref b] s) (entryFrame m ([Value.ref b] : List Value).toArray 4) := by
  obtain ⟨hx, hb, hr, hml, hown, hts, hX, hbl, hlk, hgv⟩ := C0
  obtain ⟨st, hRO⟩ := lw_RO hts hgv
  obtain ⟨D, g, hK⟩ := lw_K hts
  have C : ctX p s m #[Value.ref b] c code 4 RL D g s.heap.size st (fun q => s.heap.size ≤ q) := ⟨⟨hx, hb, hml, hown⟩, fun x hx => hts x (List.mem_filter.mp hx).1, hK, hRO, fun a h => h, fun q h => h, Nat.le_refl _⟩
  have hl := lv_entry ([.ref b]) (n := 4) (Nat.le_of_ble_eq_true rfl)
  rw [lg_entry_eq]
  generalize (lg_sl ([.ref b]) ++ List.replicate (4 - (lg_sl ([.ref b])).length) Slot.unset).toArray = ls at hl ⊢
  have hl : lv_has ls 4 [(0, .ref b)] := hl
  have hS : va_S (fun q => s.heap.size ≤ q) s.heap s.heap [] := va_S.rf
  have hP : va_P D vwCl ([] ++ []) s.heap := fun k q h => by simp at h
  have hD : va_D (fun q => s.heap.size ≤ q) ([] ++ [] : va_W) := ⟨fun i j p q h => by simp at h, fun k q h => by simp at h⟩
  refine ct_new (X := []) (pl := []) (ci := 7) (C' := RX7) (T := TX7) (N := 13) (fs := [.null, .null, .null, .null, .null, .null, .int 0, .int 0, .int 0, .int 0, .int 0, .long 0, .long 0]) C hP hD hS rfl iX7 tyX7 tyX7_ok cq_87 cq_88 cq_76 (fun j hj => by rcases (show j = 0 ∨ j = 1 ∨ j = 2 ∨ j = 3 ∨ j = 4 ∨ j = 5 ∨ j = 6 ∨ j = 7 ∨ j = 8 ∨ j = 9 ∨ j = 10 ∨ j = 11 ∨ j = 12 by omega) with rfl | rfl | rfl | rfl | rfl | rfl | rfl | rfl | rfl | rfl | rfl | rfl | rfl <;> rfl) (by decide) (by decide) (show decode code 0 = .ok (.new 7, 3) from by decide +kernel) (show decode code 3 = .ok (.dup, 1) from by decide +kernel) (fun q H hq hP hD hS => ?_)
  refine ct_callI (X := []) (pl := []) (b := 0) (sk := k7) (rest := [.ref q]) C (ct_runI (X := []) (pl := []) (n := 0) (ex := []) (rest := [.ref q]) (ad := fun i => st (i - 1000)) (S := sp_Z) C cc7 ⟨rfl, fun _ _ _ => ⟨rfl, rfl, rfl⟩⟩ hq hP hS cq_91 cq_89 cq_90 cq_76 rfl (by decide +kernel) ⟨by decide, by decide⟩ rfl hl.1 rfl (Nat.le_of_ble_eq_true rfl) (show decode code 4 = .ok (.invokespecial 9, 3) from by decide +kernel) ⟨by decide, by decide⟩) hP hD hS [0] [] rfl rfl (by decide) (by decide) (fun u H locs u1 u2 u3 u4 hP hD hS => ?_)
  obtain ⟨ad1, S1⟩ := u
  have a1 : ad1 0 = q := u1
  have o1 : ∀ i, 87 ≤ i → ad1 i = st (i - 1000) := fun i hi => u2 i (Or.inr (by
    omega))
  have e1 : eqOff (fun a => a < 87) sp_Z S1 := eqOff.mono u3 (fun a h => by
    omega)
  obtain ⟨p1, p2, p3, p4, p5, p6⟩ := u4
  rw [List.nil_append] at hP hD
  refine lv_astore_n (k := 1) (lv' := [(1, .ref q), (0, .ref b)]) hx hb (show decode code 7 = .ok (.astore_n 1, 1) from by decide +kernel) rfl hl (by decide) rfl (fun ls hl => ?_)
  refine ct_new (X := []) (pl := sp_wz g ad1 0 k7 S1) (ci := 8) (C' := RX8) (T := TX8) (N := 27) (fs := [.null, .null, .int 0, .int 0, .null, .int 0, .null, .int 0, .int 0, .null, .long 0, .long 0, .null, .null, .null, .null, .null, .null, .int 0, .int 0, .int 0, .int 0, .int 0, .int 0, .null, .int 0, .null]) C hP hD hS rfl iX8 tyX8 tyX8_ok cq_799 cq_800 cq_84 (fun j hj => by rcases (show j = 0 ∨ j = 1 ∨ j = 2 ∨ j = 3 ∨ j = 4 ∨ j = 5 ∨ j = 6 ∨ j = 7 ∨ j = 8 ∨ j = 9 ∨ j = 10 ∨ j = 11 ∨ j = 12 ∨ j = 13 ∨ j = 14 ∨ j = 15 ∨ j = 16 ∨ j = 17 ∨ j = 18 ∨ j = 19 ∨ j = 20 ∨ j = 21 ∨ j = 22 ∨ j = 23 ∨ j = 24 ∨ j = 25 ∨ j = 26 by omega) with rfl | rfl | rfl | rfl | rfl | rfl | rfl | rfl | rfl | rfl | rfl | rfl | rfl | rfl | rfl | rfl | rfl | rfl | rfl | rfl | rfl | rfl | rfl | rfl | rfl | rfl | rfl <;> rfl) (by decide) (by decide) (show decode code 8 = .ok (.new 10, 3) from by decide +kernel) (show decode code 11 = .ok (.dup, 1) from by decide +kernel) (fun q2 H hq2 hP hD hS => ?_)
  have zm : zr S1 87 kM.length := fun a h1 h2 => by
    obtain ⟨z1, z2, z3⟩ := e1 a (by omega)
    rw [z1, z2, z3]
    exact ⟨rfl, rfl, rfl⟩
  refine ct_callI (X := []) (pl := sp_wz g ad1 0 k7 S1) (b := 87) (sk := kM) (rest := [.ref q2]) C (ct_runI (X := []) (pl := sp_wz g ad1 0 k7 S1) (n := 0) (ex := []) (rest := [.ref q2]) (ad := ad1) (S := S1) C cc8 ⟨rfl, zm⟩ hq2 hP hS cq_803 cq_801 cq_802 cq_84 rfl (by decide +kernel) ⟨by decide, by decide⟩ rfl hl.1 rfl (Nat.le_of_ble_eq_true rfl) (show decode code 12 = .ok (.invokespecial 12, 3) from by decide +kernel) ⟨by decide, by decide⟩) hP hD hS [0] [] rfl rfl (by decide) (by decide) (fun u H locs u1 u2 u3 u4 hP hD hS => ?_)
  obtain ⟨ad2, S2⟩ := u
  have a2 : ad2 87 = q2 := u1
  have o2 : ∀ i, i < 87 ∨ 101 ≤ i → ad2 i = ad1 i := fun i hi => u2 i (by omega)
  have e2 : eqOff (fun a => 87 ≤ a ∧ a < 101) S1 S2 := eqOff.mono u3 (fun a h => by omega)
  obtain ⟨r1, r2, r3, r4, r5⟩ := u4
  have em := sp_wz_more (g := g) (b0 := 0) (pre := k7) (sk := kM) (S := S1) (ad := ad1) (u := (ad2, S2)) (b := 87) (by omega) hrf u2 u3
  rw [List.nil_append, em, hall, ← sp_wz_0] at hP hD
  have hPf : va_P D vwCl (sp_ws g ad2 sp_w.1 S2) H := hP
  have hDf : va_D (fun q => s.heap.size ≤ q) (sp_ws g ad2 sp_w.1 S2) := hD
  have hSf : va_S (fun q => s.heap.size ≤ q) s.heap H locs := hS
  have a20 : ad2 0 = q := (o2 0 (by omega)).trans a1
  subst a20 a2
  have gI : Inv S2 := inv_0 ((e2.lv (by omega)).trans p1) (by rw [(e2 0 (by omega)).1]; exact p2) (by rw [(e2 0 (by omega)).2.1]; exact p3) (by rw [(e2 9 (by omega)).1]; exact p4) (by rw [(e2 59 (by omega)).1]; exact p5) (by rw [(e2 69 (by omega)).1]; exact p6) r1 r2 r3 ⟨r4, r5⟩
  refine lv_astore_n (k := 2) (lv' := [(2, .ref (ad2 87)), (1, .ref (ad2 0)), (0, .ref b)]) hx hb (show decode code 15 = .ok (.astore_n 2, 1) from by decide +kernel) rfl hl (by decide) rfl (fun ls hl => ?_)
  refine lv_iconst (n := 0) (v := 0) hx hb (show decode code 16 = .ok (.iconst 0, 1) from by decide +kernel) (by decide) ?_
  refine lv_istore_n (k := 3) (lv' := [(3, .int 0), (2, .ref (ad2 87)), (1, .ref (ad2 0)), (0, .ref b)]) hx hb (show decode code 17 = .ok (.istore_n 3, 1) from by decide +kernel) rfl hl (by decide) rfl (fun ls hl => ?_)
  have CL : lwC p s m c b L xs D g st ad2 (fun q => s.heap.size ≤ q) := ⟨C, ⟨hX, hbl, fun h => by have h' : s.heap.size ≤ b := h; omega⟩, fun i hi => by
    rw [o2 _ (by omega), o1 _ (by omega), show 1000 + i - 1000 = i by omega]⟩
  refine W.widen (k := 101) (n := 51347) (by decide) (by decide) ?_
  have hcs : 101 ≤ 600000 ∧ 51347 ≤ 7302250 := ⟨(Nat.le_of_ble_eq_true rfl), (Nat.le_of_ble_eq_true rfl)⟩
  have hl : lv_has ls 4 [(3, .int (nI 0)), (2, .ref (ad2 87)), (1, .ref (ad2 0)), (0, .ref b)] := hl
  have hn : L < 0 + (L + 1) := by omega
  have h4 : 0 ≤ L + 4 := by omega
  have lp := law_loop (l := l) (e := e) (below := below) (meth := meth) (cells := 101) (slots := 51347) CL hr hlk hL (fun q h => h) hcs (L + 1) 0 S2 H locs ls hn h4
  exact lp hl gI hPf hDf hSf
/-- the law from its entry -/
theorem whole_start {p : Program} {e : Env} {s : State} {m : MethodId} {below : List Frame} {meth : Method} {c : Code} (l : Launch) (hflags : l.flags = flags0) {b L : Nat} {xs : Nat → Int32} (hL : L ≤ 2048) (C0 : lw_At p s m meth c b L xs) : W p l e room_1 s m #[Value.ref b] below meth c s.heap [] 0 0 (lw_Z below #[Value.ref b] s) (entryFrame m ([Value.ref b] : List Value).toArray 4) := whole_2 l hflags hL C0 (k7 := sk7) (kM := skM) rfl rfl sk7_rf sk_all c_class c_model
