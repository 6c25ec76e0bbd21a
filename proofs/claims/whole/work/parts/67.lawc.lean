/-! calls of the law, on -/
section LW
variable {p : Program} {l : Launch} {e : Env} {s : State} {m : MethodId} {below : List Frame} {meth : Method} {c : Code} {H : Heap} {locs : List Loc} {cells slots : Nat} {Qw : State → Prop} {pc : Nat} {ls : Array Slot} {rest : List Value} {D : va_G} {g : sp_G} {A : Nat → Prop} {b L : Nat} {xs : Nat → Int32} {st ad : Nat → Nat} {S : sp_M} {i : Nat}
theorem lg_same (x : Int64) : lg_cmp x x = 0 := by
  unfold lg_cmp
  simp
theorem law_builds (C : lwC p s m c b L xs D g st ad A) (hi : i + 4 ≤ L) (hL : L ≤ 2048) (hl : lv_has ls 4 [(3, .int (nI i)), (2, .ref (ad 87)), (1, .ref (ad 0)), (0, .ref b)]) (gI : Inv S) (hP : va_P D vwCl (sp_ws g ad sp_w.1 S) H) (hD : va_D A (sp_ws g ad sp_w.1 S)) (hS : va_S A s.heap H locs) (hcs : cells ≤ 600000 ∧ slots ≤ 7302250) (K : ∀ (S' : sp_M) (H' : Heap) (locs' : List Loc), Inv S' → va_P D vwCl (sp_ws g ad sp_w.1 S') H' → va_D A (sp_ws g ad sp_w.1 S') → va_S A s.heap H' locs' → W p l e room_1 s m #[Value.ref b] below meth c H' locs' cells slots Qw (F0 m 719 ls [])) : W p l e room_1 s m #[Value.ref b] below meth c H locs cells slots Qw (F0 m 572 ls []) := by
  obtain ⟨N, g0⟩ := gI
  obtain ⟨⟨⟨hx, hb, hml, hown⟩, -⟩, ⟨hX, hbl, hbA⟩, had⟩ := id C
  refine lv_aload_n (k := 1) hx hb (show decode code 572 = .ok (.aload_n 1, 1) from by decide +kernel) rfl (lv_at hl 2 rfl) ?_
  refine lw_call (n := 0) (as := []) (rest := []) C mtX7_builds (iX7_builds (G_builds g0)) rfl cl_0 cq_739 cq_736 cq_737 cq_738 cq_76 (by decide +kernel) ⟨(Nat.le_of_ble_eq_true rfl), (Nat.le_of_ble_eq_true rfl)⟩ hP hD hS hcs rfl hl.1 rfl (Nat.le_of_ble_eq_true rfl) (show decode code 573 = .ok (.invokevirtual 81, 3) from by decide +kernel) (fun rv S1 H locs hq hP hD hS => ?_)
  obtain ⟨hq, x, rfl⟩ := hq
  refine lv_aload_n (k := 2) hx hb (show decode code 576 = .ok (.aload_n 2, 1) from by decide +kernel) rfl (lv_at hl 1 rfl) ?_
  refine lw_call (n := 0) (as := []) (rest := [.int x]) C mtX8_builds hq rfl cl_87 cq_1142 cq_1139 cq_1140 cq_1141 cq_84 (by decide +kernel) ⟨(Nat.le_of_ble_eq_true rfl), (Nat.le_of_ble_eq_true rfl)⟩ hP hD hS hcs rfl hl.1 rfl (Nat.le_of_ble_eq_true rfl) (show decode code 577 = .ok (.invokevirtual 84, 3) from by decide +kernel) (fun rv S2 H locs hq2 hP hD hS => ?_)
  obtain ⟨rfl, gI2⟩ := hq2
  refine lv_icmp_eq (tgt := 719) hx hb (show decode code 580 = .ok (.if_icmp .eq 139, 3) from by decide +kernel) (by decide) (fun _ => K S2 H locs gI2 hP hD hS) (fun q => absurd rfl q)
theorem law_otherwise (C : lwC p s m c b L xs D g st ad A) (hi : i + 4 ≤ L) (hL : L ≤ 2048) (hl : lv_has ls 4 [(3, .int (nI i)), (2, .ref (ad 87)), (1, .ref (ad 0)), (0, .ref b)]) (gI : Inv S) (hP : va_P D vwCl (sp_ws g ad sp_w.1 S) H) (hD : va_D A (sp_ws g ad sp_w.1 S)) (hS : va_S A s.heap H locs) (hcs : cells ≤ 600000 ∧ slots ≤ 7302250) (K : ∀ (S' : sp_M) (H' : Heap) (locs' : List Loc), Inv S' → va_P D vwCl (sp_ws g ad sp_w.1 S') H' → va_D A (sp_ws g ad sp_w.1 S') → va_S A s.heap H' locs' → W p l e room_1 s m #[Value.ref b] below meth c H' locs' cells slots Qw (F0 m 719 ls [])) : W p l e room_1 s m #[Value.ref b] below meth c H locs cells slots Qw (F0 m 585 ls []) := by
  obtain ⟨N, g0⟩ := gI
  obtain ⟨⟨⟨hx, hb, hml, hown⟩, -⟩, ⟨hX, hbl, hbA⟩, had⟩ := id C
  have v1 : vp_in (nI i + 1) L := by rw [show nI i + 1 = nI (i + 1) from nI_add i 1]; exact in_n (by omega) (by omega)
  have v2 : vp_in (nI i + 2) L := by rw [show nI i + 2 = nI (i + 2) from nI_add i 2]; exact in_n (by omega) (by omega)
  refine lv_aload_n (k := 1) hx hb (show decode code 585 = .ok (.aload_n 1, 1) from by decide +kernel) rfl (lv_at hl 2 rfl) ?_
  refine lv_aload_n (k := 0) hx hb (show decode code 586 = .ok (.aload_n 0, 1) from by decide +kernel) rfl (lv_at hl 3 rfl) ?_
  refine lv_iload_n (k := 3) hx hb (show decode code 587 = .ok (.iload_n 3, 1) from by decide +kernel) rfl (lv_at hl 0 rfl) ?_
  refine lv_iconst (n := 1) (v := 1) hx hb (show decode code 588 = .ok (.iconst 1, 1) from by decide +kernel) (by decide) ?_
  refine lv_iadd hx hb (show decode code 589 = .ok (.iadd, 1) from by decide +kernel) ?_
  refine va_sld hx hb hX hbl hbA hS v1 (show decode code 590 = .ok (.iaload, 1) from by decide +kernel) ?_
  refine lv_aload_n (k := 0) hx hb (show decode code 591 = .ok (.aload_n 0, 1) from by decide +kernel) rfl (lv_at hl 3 rfl) ?_
  refine lv_iload_n (k := 3) hx hb (show decode code 592 = .ok (.iload_n 3, 1) from by decide +kernel) rfl (lv_at hl 0 rfl) ?_
  refine lv_iconst (n := 2) (v := 2) hx hb (show decode code 593 = .ok (.iconst 2, 1) from by decide +kernel) (by decide) ?_
  refine lv_iadd hx hb (show decode code 594 = .ok (.iadd, 1) from by decide +kernel) ?_
  refine va_sld hx hb hX hbl hbA hS v2 (show decode code 595 = .ok (.iaload, 1) from by decide +kernel) ?_
  refine lw_call (n := 2) (as := [.int (xs (nI i + 1).toNatClampNeg), .int (xs (nI i + 2).toNatClampNeg)]) (rest := []) C mtX7_otherwise (iX7_otherwise (G_otherwise g0)) rfl cl_0 cq_752 cq_749 cq_750 cq_751 cq_76 (by decide +kernel) ⟨(Nat.le_of_ble_eq_true rfl), (Nat.le_of_ble_eq_true rfl)⟩ hP hD hS hcs rfl hl.1 rfl (Nat.le_of_ble_eq_true rfl) (show decode code 596 = .ok (.invokevirtual 85, 3) from by decide +kernel) (fun rv S1 H locs hq hP hD hS => ?_)
  obtain ⟨hq, x, rfl⟩ := hq
  refine lv_aload_n (k := 2) hx hb (show decode code 599 = .ok (.aload_n 2, 1) from by decide +kernel) rfl (lv_at hl 1 rfl) ?_
  refine lv_aload_n (k := 0) hx hb (show decode code 600 = .ok (.aload_n 0, 1) from by decide +kernel) rfl (lv_at hl 3 rfl) ?_
  refine lv_iload_n (k := 3) hx hb (show decode code 601 = .ok (.iload_n 3, 1) from by decide +kernel) rfl (lv_at hl 0 rfl) ?_
  refine lv_iconst (n := 1) (v := 1) hx hb (show decode code 602 = .ok (.iconst 1, 1) from by decide +kernel) (by decide) ?_
  refine lv_iadd hx hb (show decode code 603 = .ok (.iadd, 1) from by decide +kernel) ?_
  refine va_sld hx hb hX hbl hbA hS v1 (show decode code 604 = .ok (.iaload, 1) from by decide +kernel) ?_
  refine lv_aload_n (k := 0) hx hb (show decode code 605 = .ok (.aload_n 0, 1) from by decide +kernel) rfl (lv_at hl 3 rfl) ?_
  refine lv_iload_n (k := 3) hx hb (show decode code 606 = .ok (.iload_n 3, 1) from by decide +kernel) rfl (lv_at hl 0 rfl) ?_
  refine lv_iconst (n := 2) (v := 2) hx hb (show decode code 607 = .ok (.iconst 2, 1) from by decide +kernel) (by decide) ?_
  refine lv_iadd hx hb (show decode code 608 = .ok (.iadd, 1) from by decide +kernel) ?_
  refine va_sld hx hb hX hbl hbA hS v2 (show decode code 609 = .ok (.iaload, 1) from by decide +kernel) ?_
  refine lw_call (n := 2) (as := [.int (xs (nI i + 1).toNatClampNeg), .int (xs (nI i + 2).toNatClampNeg)]) (rest := [.int x]) C mtX8_otherwise hq rfl cl_87 cq_1146 cq_1143 cq_1144 cq_1145 cq_84 (by decide +kernel) ⟨(Nat.le_of_ble_eq_true rfl), (Nat.le_of_ble_eq_true rfl)⟩ hP hD hS hcs rfl hl.1 rfl (Nat.le_of_ble_eq_true rfl) (show decode code 610 = .ok (.invokevirtual 88, 3) from by decide +kernel) (fun rv S2 H locs hq2 hP hD hS => ?_)
  obtain ⟨rfl, gI2⟩ := hq2
  refine lv_icmp_eq (tgt := 719) hx hb (show decode code 613 = .ok (.if_icmp .eq 106, 3) from by decide +kernel) (by decide) (fun _ => K S2 H locs gI2 hP hD hS) (fun q => absurd rfl q)
theorem law_upper (C : lwC p s m c b L xs D g st ad A) (hi : i + 4 ≤ L) (hL : L ≤ 2048) (hl : lv_has ls 4 [(3, .int (nI i)), (2, .ref (ad 87)), (1, .ref (ad 0)), (0, .ref b)]) (gI : Inv S) (hP : va_P D vwCl (sp_ws g ad sp_w.1 S) H) (hD : va_D A (sp_ws g ad sp_w.1 S)) (hS : va_S A s.heap H locs) (hcs : cells ≤ 600000 ∧ slots ≤ 7302250) (K : ∀ (S' : sp_M) (H' : Heap) (locs' : List Loc), Inv S' → va_P D vwCl (sp_ws g ad sp_w.1 S') H' → va_D A (sp_ws g ad sp_w.1 S') → va_S A s.heap H' locs' → W p l e room_1 s m #[Value.ref b] below meth c H' locs' cells slots Qw (F0 m 719 ls [])) : W p l e room_1 s m #[Value.ref b] below meth c H locs cells slots Qw (F0 m 618 ls []) := by
  obtain ⟨N, g0⟩ := gI
  obtain ⟨⟨⟨hx, hb, hml, hown⟩, -⟩, ⟨hX, hbl, hbA⟩, had⟩ := id C
  refine lv_aload_n (k := 1) hx hb (show decode code 618 = .ok (.aload_n 1, 1) from by decide +kernel) rfl (lv_at hl 2 rfl) ?_
  refine lw_call (n := 0) (as := []) (rest := []) C mtX7_upper (iX7_upper (G_upper g0)) rfl cl_0 cq_756 cq_753 cq_754 cq_755 cq_76 (by decide +kernel) ⟨(Nat.le_of_ble_eq_true rfl), (Nat.le_of_ble_eq_true rfl)⟩ hP hD hS hcs rfl hl.1 rfl (Nat.le_of_ble_eq_true rfl) (show decode code 619 = .ok (.invokevirtual 89, 3) from by decide +kernel) (fun rv S1 H locs hq hP hD hS => ?_)
  obtain ⟨hq, x, rfl⟩ := hq
  refine lv_aload_n (k := 2) hx hb (show decode code 622 = .ok (.aload_n 2, 1) from by decide +kernel) rfl (lv_at hl 1 rfl) ?_
  refine lw_call (n := 0) (as := []) (rest := [.long x]) C mtX8_upper hq rfl cl_87 cq_1054 cq_1051 cq_1052 cq_1053 cq_84 (by decide +kernel) ⟨(Nat.le_of_ble_eq_true rfl), (Nat.le_of_ble_eq_true rfl)⟩ hP hD hS hcs rfl hl.1 rfl (Nat.le_of_ble_eq_true rfl) (show decode code 623 = .ok (.invokevirtual 93, 3) from by decide +kernel) (fun rv S2 H locs hq2 hP hD hS => ?_)
  obtain ⟨rfl, gI2⟩ := hq2
  refine W.lcmp hx hb (show decode code 626 = .ok (.lcmp, 1) from by decide +kernel) ?_
  refine lv_if_eq (tgt := 719) hx hb (show decode code 627 = .ok (.ifCond .eq 92, 3) from by decide +kernel) (by decide) (fun _ => K S2 H locs gI2 hP hD hS) (fun q => absurd (lg_same x) q)
theorem law_lower (C : lwC p s m c b L xs D g st ad A) (hi : i + 4 ≤ L) (hL : L ≤ 2048) (hl : lv_has ls 4 [(3, .int (nI i)), (2, .ref (ad 87)), (1, .ref (ad 0)), (0, .ref b)]) (gI : Inv S) (hP : va_P D vwCl (sp_ws g ad sp_w.1 S) H) (hD : va_D A (sp_ws g ad sp_w.1 S)) (hS : va_S A s.heap H locs) (hcs : cells ≤ 600000 ∧ slots ≤ 7302250) (K : ∀ (S' : sp_M) (H' : Heap) (locs' : List Loc), Inv S' → va_P D vwCl (sp_ws g ad sp_w.1 S') H' → va_D A (sp_ws g ad sp_w.1 S') → va_S A s.heap H' locs' → W p l e room_1 s m #[Value.ref b] below meth c H' locs' cells slots Qw (F0 m 719 ls [])) : W p l e room_1 s m #[Value.ref b] below meth c H locs cells slots Qw (F0 m 632 ls []) := by
  obtain ⟨N, g0⟩ := gI
  obtain ⟨⟨⟨hx, hb, hml, hown⟩, -⟩, ⟨hX, hbl, hbA⟩, had⟩ := id C
  refine lv_aload_n (k := 1) hx hb (show decode code 632 = .ok (.aload_n 1, 1) from by decide +kernel) rfl (lv_at hl 2 rfl) ?_
  refine lw_call (n := 0) (as := []) (rest := []) C mtX7_lower (iX7_lower (G_lower g0)) rfl cl_0 cq_760 cq_757 cq_758 cq_759 cq_76 (by decide +kernel) ⟨(Nat.le_of_ble_eq_true rfl), (Nat.le_of_ble_eq_true rfl)⟩ hP hD hS hcs rfl hl.1 rfl (Nat.le_of_ble_eq_true rfl) (show decode code 633 = .ok (.invokevirtual 94, 3) from by decide +kernel) (fun rv S1 H locs hq hP hD hS => ?_)
  obtain ⟨hq, x, rfl⟩ := hq
  refine lv_aload_n (k := 2) hx hb (show decode code 636 = .ok (.aload_n 2, 1) from by decide +kernel) rfl (lv_at hl 1 rfl) ?_
  refine lw_call (n := 0) (as := []) (rest := [.long x]) C mtX8_lower hq rfl cl_87 cq_1058 cq_1055 cq_1056 cq_1057 cq_84 (by decide +kernel) ⟨(Nat.le_of_ble_eq_true rfl), (Nat.le_of_ble_eq_true rfl)⟩ hP hD hS hcs rfl hl.1 rfl (Nat.le_of_ble_eq_true rfl) (show decode code 637 = .ok (.invokevirtual 97, 3) from by decide +kernel) (fun rv S2 H locs hq2 hP hD hS => ?_)
  obtain ⟨rfl, gI2⟩ := hq2
  refine W.lcmp hx hb (show decode code 640 = .ok (.lcmp, 1) from by decide +kernel) ?_
  refine lv_if_eq (tgt := 719) hx hb (show decode code 641 = .ok (.ifCond .eq 78, 3) from by decide +kernel) (by decide) (fun _ => K S2 H locs gI2 hP hD hS) (fun q => absurd (lg_same x) q)
theorem law_all (C : lwC p s m c b L xs D g st ad A) (hi : i + 4 ≤ L) (hL : L ≤ 2048) (hl : lv_has ls 4 [(3, .int (nI i)), (2, .ref (ad 87)), (1, .ref (ad 0)), (0, .ref b)]) (gI : Inv S) (hP : va_P D vwCl (sp_ws g ad sp_w.1 S) H) (hD : va_D A (sp_ws g ad sp_w.1 S)) (hS : va_S A s.heap H locs) (hcs : cells ≤ 600000 ∧ slots ≤ 7302250) (K : ∀ (S' : sp_M) (H' : Heap) (locs' : List Loc), Inv S' → va_P D vwCl (sp_ws g ad sp_w.1 S') H' → va_D A (sp_ws g ad sp_w.1 S') → va_S A s.heap H' locs' → W p l e room_1 s m #[Value.ref b] below meth c H' locs' cells slots Qw (F0 m 719 ls [])) : W p l e room_1 s m #[Value.ref b] below meth c H locs cells slots Qw (F0 m 646 ls []) := by
  obtain ⟨N, g0⟩ := gI
  obtain ⟨⟨⟨hx, hb, hml, hown⟩, -⟩, ⟨hX, hbl, hbA⟩, had⟩ := id C
  have v1 : vp_in (nI i + 1) L := by rw [show nI i + 1 = nI (i + 1) from nI_add i 1]; exact in_n (by omega) (by omega)
  refine lv_aload_n (k := 1) hx hb (show decode code 646 = .ok (.aload_n 1, 1) from by decide +kernel) rfl (lv_at hl 2 rfl) ?_
  refine lv_aload_n (k := 0) hx hb (show decode code 647 = .ok (.aload_n 0, 1) from by decide +kernel) rfl (lv_at hl 3 rfl) ?_
  refine lv_iload_n (k := 3) hx hb (show decode code 648 = .ok (.iload_n 3, 1) from by decide +kernel) rfl (lv_at hl 0 rfl) ?_
  refine lv_iconst (n := 1) (v := 1) hx hb (show decode code 649 = .ok (.iconst 1, 1) from by decide +kernel) (by decide) ?_
  refine lv_iadd hx hb (show decode code 650 = .ok (.iadd, 1) from by decide +kernel) ?_
  refine va_sld hx hb hX hbl hbA hS v1 (show decode code 651 = .ok (.iaload, 1) from by decide +kernel) ?_
  refine lw_call (n := 1) (as := [.int (xs (nI i + 1).toNatClampNeg)]) (rest := []) C mtX7_all (iX7_all (G_all g0)) rfl cl_0 cq_764 cq_761 cq_762 cq_763 cq_76 (by decide +kernel) ⟨(Nat.le_of_ble_eq_true rfl), (Nat.le_of_ble_eq_true rfl)⟩ hP hD hS hcs rfl hl.1 rfl (Nat.le_of_ble_eq_true rfl) (show decode code 652 = .ok (.invokevirtual 98, 3) from by decide +kernel) (fun rv S1 H locs hq hP hD hS => ?_)
  obtain ⟨hq, x, rfl⟩ := hq
  refine lv_aload_n (k := 2) hx hb (show decode code 655 = .ok (.aload_n 2, 1) from by decide +kernel) rfl (lv_at hl 1 rfl) ?_
  refine lv_aload_n (k := 0) hx hb (show decode code 656 = .ok (.aload_n 0, 1) from by decide +kernel) rfl (lv_at hl 3 rfl) ?_
  refine lv_iload_n (k := 3) hx hb (show decode code 657 = .ok (.iload_n 3, 1) from by decide +kernel) rfl (lv_at hl 0 rfl) ?_
  refine lv_iconst (n := 1) (v := 1) hx hb (show decode code 658 = .ok (.iconst 1, 1) from by decide +kernel) (by decide) ?_
  refine lv_iadd hx hb (show decode code 659 = .ok (.iadd, 1) from by decide +kernel) ?_
  refine va_sld hx hb hX hbl hbA hS v1 (show decode code 660 = .ok (.iaload, 1) from by decide +kernel) ?_
  refine lw_call (n := 1) (as := [.int (xs (nI i + 1).toNatClampNeg)]) (rest := [.int x]) C mtX8_all hq rfl cl_87 cq_1150 cq_1147 cq_1148 cq_1149 cq_84 (by decide +kernel) ⟨(Nat.le_of_ble_eq_true rfl), (Nat.le_of_ble_eq_true rfl)⟩ hP hD hS hcs rfl hl.1 rfl (Nat.le_of_ble_eq_true rfl) (show decode code 661 = .ok (.invokevirtual 101, 3) from by decide +kernel) (fun rv S2 H locs hq2 hP hD hS => ?_)
  obtain ⟨rfl, gI2⟩ := hq2
  refine lv_icmp_eq (tgt := 719) hx hb (show decode code 664 = .ok (.if_icmp .eq 55, 3) from by decide +kernel) (by decide) (fun _ => K S2 H locs gI2 hP hD hS) (fun q => absurd rfl q)
theorem law_back (C : lwC p s m c b L xs D g st ad A) (hi : i + 4 ≤ L) (hL : L ≤ 2048) (hl : lv_has ls 4 [(3, .int (nI i)), (2, .ref (ad 87)), (1, .ref (ad 0)), (0, .ref b)]) (gI : Inv S) (hP : va_P D vwCl (sp_ws g ad sp_w.1 S) H) (hD : va_D A (sp_ws g ad sp_w.1 S)) (hS : va_S A s.heap H locs) (hcs : cells ≤ 600000 ∧ slots ≤ 7302250) (K : ∀ (S' : sp_M) (H' : Heap) (locs' : List Loc), Inv S' → va_P D vwCl (sp_ws g ad sp_w.1 S') H' → va_D A (sp_ws g ad sp_w.1 S') → va_S A s.heap H' locs' → W p l e room_1 s m #[Value.ref b] below meth c H' locs' cells slots Qw (F0 m 719 ls [])) : W p l e room_1 s m #[Value.ref b] below meth c H locs cells slots Qw (F0 m 669 ls []) := by
  obtain ⟨N, g0⟩ := gI
  obtain ⟨⟨⟨hx, hb, hml, hown⟩, -⟩, ⟨hX, hbl, hbA⟩, had⟩ := id C
  refine lv_aload_n (k := 1) hx hb (show decode code 669 = .ok (.aload_n 1, 1) from by decide +kernel) rfl (lv_at hl 2 rfl) ?_
  refine lw_call (n := 0) (as := []) (rest := []) C mtX7_back (iX7_back (G_back g0)) rfl cl_0 cq_777 cq_774 cq_775 cq_776 cq_76 (by decide +kernel) ⟨(Nat.le_of_ble_eq_true rfl), (Nat.le_of_ble_eq_true rfl)⟩ hP hD hS hcs rfl hl.1 rfl (Nat.le_of_ble_eq_true rfl) (show decode code 670 = .ok (.invokevirtual 102, 3) from by decide +kernel) (fun rv S1 H locs hq hP hD hS => ?_)
  obtain ⟨hq, x, rfl⟩ := hq
  refine lv_aload_n (k := 2) hx hb (show decode code 673 = .ok (.aload_n 2, 1) from by decide +kernel) rfl (lv_at hl 1 rfl) ?_
  refine lw_call (n := 0) (as := []) (rest := [.int x]) C mtX8_back hq rfl cl_87 cq_896 cq_893 cq_894 cq_895 cq_84 (by decide +kernel) ⟨(Nat.le_of_ble_eq_true rfl), (Nat.le_of_ble_eq_true rfl)⟩ hP hD hS hcs rfl hl.1 rfl (Nat.le_of_ble_eq_true rfl) (show decode code 674 = .ok (.invokevirtual 105, 3) from by decide +kernel) (fun rv S2 H locs hq2 hP hD hS => ?_)
  obtain ⟨rfl, gI2⟩ := hq2
  refine lv_icmp_eq (tgt := 719) hx hb (show decode code 677 = .ok (.if_icmp .eq 42, 3) from by decide +kernel) (by decide) (fun _ => K S2 H locs gI2 hP hD hS) (fun q => absurd rfl q)
theorem law_told (C : lwC p s m c b L xs D g st ad A) (hi : i + 4 ≤ L) (hL : L ≤ 2048) (hl : lv_has ls 4 [(3, .int (nI i)), (2, .ref (ad 87)), (1, .ref (ad 0)), (0, .ref b)]) (gI : Inv S) (hP : va_P D vwCl (sp_ws g ad sp_w.1 S) H) (hD : va_D A (sp_ws g ad sp_w.1 S)) (hS : va_S A s.heap H locs) (hcs : cells ≤ 600000 ∧ slots ≤ 7302250) (K : ∀ (S' : sp_M) (H' : Heap) (locs' : List Loc), Inv S' → va_P D vwCl (sp_ws g ad sp_w.1 S') H' → va_D A (sp_ws g ad sp_w.1 S') → va_S A s.heap H' locs' → W p l e room_1 s m #[Value.ref b] below meth c H' locs' cells slots Qw (F0 m 719 ls [])) : W p l e room_1 s m #[Value.ref b] below meth c H locs cells slots Qw (F0 m 682 ls []) := by
  obtain ⟨N, g0⟩ := gI
  obtain ⟨⟨⟨hx, hb, hml, hown⟩, -⟩, ⟨hX, hbl, hbA⟩, had⟩ := id C
  have v1 : vp_in (nI i + 1) L := by rw [show nI i + 1 = nI (i + 1) from nI_add i 1]; exact in_n (by omega) (by omega)
  refine lv_aload_n (k := 1) hx hb (show decode code 682 = .ok (.aload_n 1, 1) from by decide +kernel) rfl (lv_at hl 2 rfl) ?_
  refine lv_aload_n (k := 0) hx hb (show decode code 683 = .ok (.aload_n 0, 1) from by decide +kernel) rfl (lv_at hl 3 rfl) ?_
  refine lv_iload_n (k := 3) hx hb (show decode code 684 = .ok (.iload_n 3, 1) from by decide +kernel) rfl (lv_at hl 0 rfl) ?_
  refine lv_iconst (n := 1) (v := 1) hx hb (show decode code 685 = .ok (.iconst 1, 1) from by decide +kernel) (by decide) ?_
  refine lv_iadd hx hb (show decode code 686 = .ok (.iadd, 1) from by decide +kernel) ?_
  refine va_sld hx hb hX hbl hbA hS v1 (show decode code 687 = .ok (.iaload, 1) from by decide +kernel) ?_
  refine lw_call (n := 1) (as := [.int (xs (nI i + 1).toNatClampNeg)]) (rest := []) C mtX7_told (iX7_told (G_told g0)) rfl cl_0 cq_785 cq_782 cq_783 cq_784 cq_76 (by decide +kernel) ⟨(Nat.le_of_ble_eq_true rfl), (Nat.le_of_ble_eq_true rfl)⟩ hP hD hS hcs rfl hl.1 rfl (Nat.le_of_ble_eq_true rfl) (show decode code 688 = .ok (.invokevirtual 106, 3) from by decide +kernel) (fun rv S1 H locs hq hP hD hS => ?_)
  obtain ⟨hq, x, rfl⟩ := hq
  refine lv_aload_n (k := 2) hx hb (show decode code 691 = .ok (.aload_n 2, 1) from by decide +kernel) rfl (lv_at hl 1 rfl) ?_
  refine lv_aload_n (k := 0) hx hb (show decode code 692 = .ok (.aload_n 0, 1) from by decide +kernel) rfl (lv_at hl 3 rfl) ?_
  refine lv_iload_n (k := 3) hx hb (show decode code 693 = .ok (.iload_n 3, 1) from by decide +kernel) rfl (lv_at hl 0 rfl) ?_
  refine lv_iconst (n := 1) (v := 1) hx hb (show decode code 694 = .ok (.iconst 1, 1) from by decide +kernel) (by decide) ?_
  refine lv_iadd hx hb (show decode code 695 = .ok (.iadd, 1) from by decide +kernel) ?_
  refine va_sld hx hb hX hbl hbA hS v1 (show decode code 696 = .ok (.iaload, 1) from by decide +kernel) ?_
  refine lw_call (n := 1) (as := [.int (xs (nI i + 1).toNatClampNeg)]) (rest := [.int x]) C mtX8_told hq rfl cl_87 cq_1166 cq_1163 cq_1164 cq_1165 cq_84 (by decide +kernel) ⟨(Nat.le_of_ble_eq_true rfl), (Nat.le_of_ble_eq_true rfl)⟩ hP hD hS hcs rfl hl.1 rfl (Nat.le_of_ble_eq_true rfl) (show decode code 697 = .ok (.invokevirtual 109, 3) from by decide +kernel) (fun rv S2 H locs hq2 hP hD hS => ?_)
  obtain ⟨rfl, gI2⟩ := hq2
  refine lv_icmp_eq (tgt := 719) hx hb (show decode code 700 = .ok (.if_icmp .eq 19, 3) from by decide +kernel) (by decide) (fun _ => K S2 H locs gI2 hP hD hS) (fun q => absurd rfl q)
theorem law_digest (C : lwC p s m c b L xs D g st ad A) (hi : i + 4 ≤ L) (hL : L ≤ 2048) (hl : lv_has ls 4 [(3, .int (nI i)), (2, .ref (ad 87)), (1, .ref (ad 0)), (0, .ref b)]) (gI : Inv S) (hP : va_P D vwCl (sp_ws g ad sp_w.1 S) H) (hD : va_D A (sp_ws g ad sp_w.1 S)) (hS : va_S A s.heap H locs) (hcs : cells ≤ 600000 ∧ slots ≤ 7302250) (K : ∀ (S' : sp_M) (H' : Heap) (locs' : List Loc), Inv S' → va_P D vwCl (sp_ws g ad sp_w.1 S') H' → va_D A (sp_ws g ad sp_w.1 S') → va_S A s.heap H' locs' → W p l e room_1 s m #[Value.ref b] below meth c H' locs' cells slots Qw (F0 m 719 ls [])) : W p l e room_1 s m #[Value.ref b] below meth c H locs cells slots Qw (F0 m 705 ls []) := by
  obtain ⟨N, g0⟩ := gI
  obtain ⟨⟨⟨hx, hb, hml, hown⟩, -⟩, ⟨hX, hbl, hbA⟩, had⟩ := id C
  refine lv_aload_n (k := 1) hx hb (show decode code 705 = .ok (.aload_n 1, 1) from by decide +kernel) rfl (lv_at hl 2 rfl) ?_
  refine lw_call (n := 0) (as := []) (rest := []) C mtX7_digest (iX7_digest (G_digest g0)) rfl cl_0 cq_789 cq_786 cq_787 cq_788 cq_76 (by decide +kernel) ⟨(Nat.le_of_ble_eq_true rfl), (Nat.le_of_ble_eq_true rfl)⟩ hP hD hS hcs rfl hl.1 rfl (Nat.le_of_ble_eq_true rfl) (show decode code 706 = .ok (.invokevirtual 110, 3) from by decide +kernel) (fun rv S1 H locs hq hP hD hS => ?_)
  obtain ⟨hq, x, rfl⟩ := hq
  refine lv_aload_n (k := 2) hx hb (show decode code 709 = .ok (.aload_n 2, 1) from by decide +kernel) rfl (lv_at hl 1 rfl) ?_
  refine lw_call (n := 0) (as := []) (rest := [.long x]) C mtX8_digest hq rfl cl_87 cq_1174 cq_1171 cq_1172 cq_1173 cq_84 (by decide +kernel) ⟨(Nat.le_of_ble_eq_true rfl), (Nat.le_of_ble_eq_true rfl)⟩ hP hD hS hcs rfl hl.1 rfl (Nat.le_of_ble_eq_true rfl) (show decode code 710 = .ok (.invokevirtual 113, 3) from by decide +kernel) (fun rv S2 H locs hq2 hP hD hS => ?_)
  obtain ⟨rfl, gI2⟩ := hq2
  refine W.lcmp hx hb (show decode code 713 = .ok (.lcmp, 1) from by decide +kernel) ?_
  refine lv_if_eq (tgt := 719) hx hb (show decode code 714 = .ok (.ifCond .eq 5, 3) from by decide +kernel) (by decide) (fun _ => K S2 H locs gI2 hP hD hS) (fun q => absurd (lg_same x) q)
end LW
