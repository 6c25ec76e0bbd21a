/-! calls of the law, on -/
section LW
variable {p : Program} {l : Launch} {e : Env} {s : State} {m : MethodId} {below : List Frame} {meth : Method} {c : Code} {H : Heap} {locs : List Loc} {cells slots : Nat} {Qw : State → Prop} {pc : Nat} {ls : Array Slot} {rest : List Value} {D : va_G} {g : sp_G} {A : Nat → Prop} {b L : Nat} {xs : Nat → Int32} {st ad : Nat → Nat} {S : sp_M} {i : Nat}
theorem law_moves (C : lwC p s m c b L xs D g st ad A) (hi : i + 4 ≤ L) (hL : L ≤ 2048) (hl : lv_has ls 4 [(3, .int (nI i)), (2, .ref (ad 87)), (1, .ref (ad 0)), (0, .ref b)]) (gI : Inv S) (hP : va_P D vwCl (sp_ws g ad sp_w.1 S) H) (hD : va_D A (sp_ws g ad sp_w.1 S)) (hS : va_S A s.heap H locs) (hcs : cells ≤ 600000 ∧ slots ≤ 7302250) (K : ∀ (S' : sp_M) (H' : Heap) (locs' : List Loc), Inv S' → va_P D vwCl (sp_ws g ad sp_w.1 S') H' → va_D A (sp_ws g ad sp_w.1 S') → va_S A s.heap H' locs' → W p l e room_1 s m #[Value.ref b] below meth c H' locs' cells slots Qw (F0 m 719 ls [])) : W p l e room_1 s m #[Value.ref b] below meth c H locs cells slots Qw (F0 m 358 ls []) := by
  obtain ⟨N, g0⟩ := gI
  obtain ⟨⟨⟨hx, hb, hml, hown⟩, -⟩, ⟨hX, hbl, hbA⟩, had⟩ := id C
  have v1 : vp_in (nI i + 1) L := by rw [show nI i + 1 = nI (i + 1) from nI_add i 1]; exact in_n (by omega) (by omega)
  have v2 : vp_in (nI i + 2) L := by rw [show nI i + 2 = nI (i + 2) from nI_add i 2]; exact in_n (by omega) (by omega)
  refine lv_aload_n (k := 1) hx hb (show decode code 358 = .ok (.aload_n 1, 1) from by decide +kernel) rfl (lv_at hl 2 rfl) ?_
  refine lv_aload_n (k := 0) hx hb (show decode code 359 = .ok (.aload_n 0, 1) from by decide +kernel) rfl (lv_at hl 3 rfl) ?_
  refine lv_iload_n (k := 3) hx hb (show decode code 360 = .ok (.iload_n 3, 1) from by decide +kernel) rfl (lv_at hl 0 rfl) ?_
  refine lv_iconst (n := 1) (v := 1) hx hb (show decode code 361 = .ok (.iconst 1, 1) from by decide +kernel) (by decide) ?_
  refine lv_iadd hx hb (show decode code 362 = .ok (.iadd, 1) from by decide +kernel) ?_
  refine va_sld hx hb hX hbl hbA hS v1 (show decode code 363 = .ok (.iaload, 1) from by decide +kernel) ?_
  refine lv_aload_n (k := 0) hx hb (show decode code 364 = .ok (.aload_n 0, 1) from by decide +kernel) rfl (lv_at hl 3 rfl) ?_
  refine lv_iload_n (k := 3) hx hb (show decode code 365 = .ok (.iload_n 3, 1) from by decide +kernel) rfl (lv_at hl 0 rfl) ?_
  refine lv_iconst (n := 2) (v := 2) hx hb (show decode code 366 = .ok (.iconst 2, 1) from by decide +kernel) (by decide) ?_
  refine lv_iadd hx hb (show decode code 367 = .ok (.iadd, 1) from by decide +kernel) ?_
  refine va_sld hx hb hX hbl hbA hS v2 (show decode code 368 = .ok (.iaload, 1) from by decide +kernel) ?_
  refine lw_call (n := 2) (as := [.int (xs (nI i + 1).toNatClampNeg), .int (xs (nI i + 2).toNatClampNeg)]) (rest := []) C mtX7_moves (iX7_moves (G_moves g0)) rfl cl_0 cq_494 cq_491 cq_492 cq_493 cq_76 (by decide +kernel) ⟨(Nat.le_of_ble_eq_true rfl), (Nat.le_of_ble_eq_true rfl)⟩ hP hD hS hcs rfl hl.1 rfl (Nat.le_of_ble_eq_true rfl) (show decode code 369 = .ok (.invokevirtual 49, 3) from by decide +kernel) (fun rv S1 H locs hq hP hD hS => ?_)
  obtain ⟨hq, x, rfl⟩ := hq
  refine lv_aload_n (k := 2) hx hb (show decode code 372 = .ok (.aload_n 2, 1) from by decide +kernel) rfl (lv_at hl 1 rfl) ?_
  refine lv_aload_n (k := 0) hx hb (show decode code 373 = .ok (.aload_n 0, 1) from by decide +kernel) rfl (lv_at hl 3 rfl) ?_
  refine lv_iload_n (k := 3) hx hb (show decode code 374 = .ok (.iload_n 3, 1) from by decide +kernel) rfl (lv_at hl 0 rfl) ?_
  refine lv_iconst (n := 1) (v := 1) hx hb (show decode code 375 = .ok (.iconst 1, 1) from by decide +kernel) (by decide) ?_
  refine lv_iadd hx hb (show decode code 376 = .ok (.iadd, 1) from by decide +kernel) ?_
  refine va_sld hx hb hX hbl hbA hS v1 (show decode code 377 = .ok (.iaload, 1) from by decide +kernel) ?_
  refine lv_aload_n (k := 0) hx hb (show decode code 378 = .ok (.aload_n 0, 1) from by decide +kernel) rfl (lv_at hl 3 rfl) ?_
  refine lv_iload_n (k := 3) hx hb (show decode code 379 = .ok (.iload_n 3, 1) from by decide +kernel) rfl (lv_at hl 0 rfl) ?_
  refine lv_iconst (n := 2) (v := 2) hx hb (show decode code 380 = .ok (.iconst 2, 1) from by decide +kernel) (by decide) ?_
  refine lv_iadd hx hb (show decode code 381 = .ok (.iadd, 1) from by decide +kernel) ?_
  refine va_sld hx hb hX hbl hbA hS v2 (show decode code 382 = .ok (.iaload, 1) from by decide +kernel) ?_
  refine lw_call (n := 2) (as := [.int (xs (nI i + 1).toNatClampNeg), .int (xs (nI i + 2).toNatClampNeg)]) (rest := [.int x]) C mtX8_moves hq rfl cl_87 cq_1006 cq_1003 cq_1004 cq_1005 cq_84 (by decide +kernel) ⟨(Nat.le_of_ble_eq_true rfl), (Nat.le_of_ble_eq_true rfl)⟩ hP hD hS hcs rfl hl.1 rfl (Nat.le_of_ble_eq_true rfl) (show decode code 383 = .ok (.invokevirtual 52, 3) from by decide +kernel) (fun rv S2 H locs hq2 hP hD hS => ?_)
  obtain ⟨rfl, gI2⟩ := hq2
  refine lv_icmp_eq (tgt := 719) hx hb (show decode code 386 = .ok (.if_icmp .eq 333, 3) from by decide +kernel) (by decide) (fun _ => K S2 H locs gI2 hP hD hS) (fun q => absurd rfl q)
theorem law_flaw (C : lwC p s m c b L xs D g st ad A) (hi : i + 4 ≤ L) (hL : L ≤ 2048) (hl : lv_has ls 4 [(3, .int (nI i)), (2, .ref (ad 87)), (1, .ref (ad 0)), (0, .ref b)]) (gI : Inv S) (hP : va_P D vwCl (sp_ws g ad sp_w.1 S) H) (hD : va_D A (sp_ws g ad sp_w.1 S)) (hS : va_S A s.heap H locs) (hcs : cells ≤ 600000 ∧ slots ≤ 7302250) (K : ∀ (S' : sp_M) (H' : Heap) (locs' : List Loc), Inv S' → va_P D vwCl (sp_ws g ad sp_w.1 S') H' → va_D A (sp_ws g ad sp_w.1 S') → va_S A s.heap H' locs' → W p l e room_1 s m #[Value.ref b] below meth c H' locs' cells slots Qw (F0 m 719 ls [])) : W p l e room_1 s m #[Value.ref b] below meth c H locs cells slots Qw (F0 m 391 ls []) := by
  obtain ⟨N, g0⟩ := gI
  obtain ⟨⟨⟨hx, hb, hml, hown⟩, -⟩, ⟨hX, hbl, hbA⟩, had⟩ := id C
  have v1 : vp_in (nI i + 1) L := by rw [show nI i + 1 = nI (i + 1) from nI_add i 1]; exact in_n (by omega) (by omega)
  have v2 : vp_in (nI i + 2) L := by rw [show nI i + 2 = nI (i + 2) from nI_add i 2]; exact in_n (by omega) (by omega)
  refine lv_aload_n (k := 1) hx hb (show decode code 391 = .ok (.aload_n 1, 1) from by decide +kernel) rfl (lv_at hl 2 rfl) ?_
  refine lv_aload_n (k := 0) hx hb (show decode code 392 = .ok (.aload_n 0, 1) from by decide +kernel) rfl (lv_at hl 3 rfl) ?_
  refine lv_iload_n (k := 3) hx hb (show decode code 393 = .ok (.iload_n 3, 1) from by decide +kernel) rfl (lv_at hl 0 rfl) ?_
  refine lv_iconst (n := 1) (v := 1) hx hb (show decode code 394 = .ok (.iconst 1, 1) from by decide +kernel) (by decide) ?_
  refine lv_iadd hx hb (show decode code 395 = .ok (.iadd, 1) from by decide +kernel) ?_
  refine va_sld hx hb hX hbl hbA hS v1 (show decode code 396 = .ok (.iaload, 1) from by decide +kernel) ?_
  refine lv_aload_n (k := 0) hx hb (show decode code 397 = .ok (.aload_n 0, 1) from by decide +kernel) rfl (lv_at hl 3 rfl) ?_
  refine lv_iload_n (k := 3) hx hb (show decode code 398 = .ok (.iload_n 3, 1) from by decide +kernel) rfl (lv_at hl 0 rfl) ?_
  refine lv_iconst (n := 2) (v := 2) hx hb (show decode code 399 = .ok (.iconst 2, 1) from by decide +kernel) (by decide) ?_
  refine lv_iadd hx hb (show decode code 400 = .ok (.iadd, 1) from by decide +kernel) ?_
  refine va_sld hx hb hX hbl hbA hS v2 (show decode code 401 = .ok (.iaload, 1) from by decide +kernel) ?_
  refine lw_call (n := 2) (as := [.int (xs (nI i + 1).toNatClampNeg), .int (xs (nI i + 2).toNatClampNeg)]) (rest := []) C mtX7_flaw (iX7_flaw (G_flaw g0)) rfl cl_0 cq_554 cq_551 cq_552 cq_553 cq_76 (by decide +kernel) ⟨(Nat.le_of_ble_eq_true rfl), (Nat.le_of_ble_eq_true rfl)⟩ hP hD hS hcs rfl hl.1 rfl (Nat.le_of_ble_eq_true rfl) (show decode code 402 = .ok (.invokevirtual 53, 3) from by decide +kernel) (fun rv S1 H locs hq hP hD hS => ?_)
  obtain ⟨hq, x, rfl⟩ := hq
  refine lv_aload_n (k := 2) hx hb (show decode code 405 = .ok (.aload_n 2, 1) from by decide +kernel) rfl (lv_at hl 1 rfl) ?_
  refine lv_aload_n (k := 0) hx hb (show decode code 406 = .ok (.aload_n 0, 1) from by decide +kernel) rfl (lv_at hl 3 rfl) ?_
  refine lv_iload_n (k := 3) hx hb (show decode code 407 = .ok (.iload_n 3, 1) from by decide +kernel) rfl (lv_at hl 0 rfl) ?_
  refine lv_iconst (n := 1) (v := 1) hx hb (show decode code 408 = .ok (.iconst 1, 1) from by decide +kernel) (by decide) ?_
  refine lv_iadd hx hb (show decode code 409 = .ok (.iadd, 1) from by decide +kernel) ?_
  refine va_sld hx hb hX hbl hbA hS v1 (show decode code 410 = .ok (.iaload, 1) from by decide +kernel) ?_
  refine lv_aload_n (k := 0) hx hb (show decode code 411 = .ok (.aload_n 0, 1) from by decide +kernel) rfl (lv_at hl 3 rfl) ?_
  refine lv_iload_n (k := 3) hx hb (show decode code 412 = .ok (.iload_n 3, 1) from by decide +kernel) rfl (lv_at hl 0 rfl) ?_
  refine lv_iconst (n := 2) (v := 2) hx hb (show decode code 413 = .ok (.iconst 2, 1) from by decide +kernel) (by decide) ?_
  refine lv_iadd hx hb (show decode code 414 = .ok (.iadd, 1) from by decide +kernel) ?_
  refine va_sld hx hb hX hbl hbA hS v2 (show decode code 415 = .ok (.iaload, 1) from by decide +kernel) ?_
  refine lw_call (n := 2) (as := [.int (xs (nI i + 1).toNatClampNeg), .int (xs (nI i + 2).toNatClampNeg)]) (rest := [.int x]) C mtX8_flaw hq rfl cl_87 cq_1046 cq_1043 cq_1044 cq_1045 cq_84 (by decide +kernel) ⟨(Nat.le_of_ble_eq_true rfl), (Nat.le_of_ble_eq_true rfl)⟩ hP hD hS hcs rfl hl.1 rfl (Nat.le_of_ble_eq_true rfl) (show decode code 416 = .ok (.invokevirtual 56, 3) from by decide +kernel) (fun rv S2 H locs hq2 hP hD hS => ?_)
  obtain ⟨rfl, gI2⟩ := hq2
  refine lv_icmp_eq (tgt := 719) hx hb (show decode code 419 = .ok (.if_icmp .eq 300, 3) from by decide +kernel) (by decide) (fun _ => K S2 H locs gI2 hP hD hS) (fun q => absurd rfl q)
theorem law_room (C : lwC p s m c b L xs D g st ad A) (hi : i + 4 ≤ L) (hL : L ≤ 2048) (hl : lv_has ls 4 [(3, .int (nI i)), (2, .ref (ad 87)), (1, .ref (ad 0)), (0, .ref b)]) (gI : Inv S) (hP : va_P D vwCl (sp_ws g ad sp_w.1 S) H) (hD : va_D A (sp_ws g ad sp_w.1 S)) (hS : va_S A s.heap H locs) (hcs : cells ≤ 600000 ∧ slots ≤ 7302250) (K : ∀ (S' : sp_M) (H' : Heap) (locs' : List Loc), Inv S' → va_P D vwCl (sp_ws g ad sp_w.1 S') H' → va_D A (sp_ws g ad sp_w.1 S') → va_S A s.heap H' locs' → W p l e room_1 s m #[Value.ref b] below meth c H' locs' cells slots Qw (F0 m 719 ls [])) : W p l e room_1 s m #[Value.ref b] below meth c H locs cells slots Qw (F0 m 424 ls []) := by
  obtain ⟨N, g0⟩ := gI
  obtain ⟨⟨⟨hx, hb, hml, hown⟩, -⟩, ⟨hX, hbl, hbA⟩, had⟩ := id C
  have v1 : vp_in (nI i + 1) L := by rw [show nI i + 1 = nI (i + 1) from nI_add i 1]; exact in_n (by omega) (by omega)
  refine lv_aload_n (k := 1) hx hb (show decode code 424 = .ok (.aload_n 1, 1) from by decide +kernel) rfl (lv_at hl 2 rfl) ?_
  refine lv_aload_n (k := 0) hx hb (show decode code 425 = .ok (.aload_n 0, 1) from by decide +kernel) rfl (lv_at hl 3 rfl) ?_
  refine lv_iload_n (k := 3) hx hb (show decode code 426 = .ok (.iload_n 3, 1) from by decide +kernel) rfl (lv_at hl 0 rfl) ?_
  refine lv_iconst (n := 1) (v := 1) hx hb (show decode code 427 = .ok (.iconst 1, 1) from by decide +kernel) (by decide) ?_
  refine lv_iadd hx hb (show decode code 428 = .ok (.iadd, 1) from by decide +kernel) ?_
  refine va_sld hx hb hX hbl hbA hS v1 (show decode code 429 = .ok (.iaload, 1) from by decide +kernel) ?_
  refine lw_call (n := 1) (as := [.int (xs (nI i + 1).toNatClampNeg)]) (rest := []) C mtX7_room (iX7_room (G_room g0)) rfl cl_0 cq_558 cq_555 cq_556 cq_557 cq_76 (by decide +kernel) ⟨(Nat.le_of_ble_eq_true rfl), (Nat.le_of_ble_eq_true rfl)⟩ hP hD hS hcs rfl hl.1 rfl (Nat.le_of_ble_eq_true rfl) (show decode code 430 = .ok (.invokevirtual 57, 3) from by decide +kernel) (fun rv S1 H locs hq hP hD hS => ?_)
  obtain ⟨hq, x, rfl⟩ := hq
  refine lv_aload_n (k := 2) hx hb (show decode code 433 = .ok (.aload_n 2, 1) from by decide +kernel) rfl (lv_at hl 1 rfl) ?_
  refine lv_aload_n (k := 0) hx hb (show decode code 434 = .ok (.aload_n 0, 1) from by decide +kernel) rfl (lv_at hl 3 rfl) ?_
  refine lv_iload_n (k := 3) hx hb (show decode code 435 = .ok (.iload_n 3, 1) from by decide +kernel) rfl (lv_at hl 0 rfl) ?_
  refine lv_iconst (n := 1) (v := 1) hx hb (show decode code 436 = .ok (.iconst 1, 1) from by decide +kernel) (by decide) ?_
  refine lv_iadd hx hb (show decode code 437 = .ok (.iadd, 1) from by decide +kernel) ?_
  refine va_sld hx hb hX hbl hbA hS v1 (show decode code 438 = .ok (.iaload, 1) from by decide +kernel) ?_
  refine lw_call (n := 1) (as := [.int (xs (nI i + 1).toNatClampNeg)]) (rest := [.int x]) C mtX8_room hq rfl cl_87 cq_1062 cq_1059 cq_1060 cq_1061 cq_84 (by decide +kernel) ⟨(Nat.le_of_ble_eq_true rfl), (Nat.le_of_ble_eq_true rfl)⟩ hP hD hS hcs rfl hl.1 rfl (Nat.le_of_ble_eq_true rfl) (show decode code 439 = .ok (.invokevirtual 60, 3) from by decide +kernel) (fun rv S2 H locs hq2 hP hD hS => ?_)
  obtain ⟨rfl, gI2⟩ := hq2
  refine lv_icmp_eq (tgt := 719) hx hb (show decode code 442 = .ok (.if_icmp .eq 277, 3) from by decide +kernel) (by decide) (fun _ => K S2 H locs gI2 hP hD hS) (fun q => absurd rfl q)
theorem law_nearest (C : lwC p s m c b L xs D g st ad A) (hi : i + 4 ≤ L) (hL : L ≤ 2048) (hl : lv_has ls 4 [(3, .int (nI i)), (2, .ref (ad 87)), (1, .ref (ad 0)), (0, .ref b)]) (gI : Inv S) (hP : va_P D vwCl (sp_ws g ad sp_w.1 S) H) (hD : va_D A (sp_ws g ad sp_w.1 S)) (hS : va_S A s.heap H locs) (hcs : cells ≤ 600000 ∧ slots ≤ 7302250) (K : ∀ (S' : sp_M) (H' : Heap) (locs' : List Loc), Inv S' → va_P D vwCl (sp_ws g ad sp_w.1 S') H' → va_D A (sp_ws g ad sp_w.1 S') → va_S A s.heap H' locs' → W p l e room_1 s m #[Value.ref b] below meth c H' locs' cells slots Qw (F0 m 719 ls [])) : W p l e room_1 s m #[Value.ref b] below meth c H locs cells slots Qw (F0 m 447 ls []) := by
  obtain ⟨N, g0⟩ := gI
  obtain ⟨⟨⟨hx, hb, hml, hown⟩, -⟩, ⟨hX, hbl, hbA⟩, had⟩ := id C
  have v1 : vp_in (nI i + 1) L := by rw [show nI i + 1 = nI (i + 1) from nI_add i 1]; exact in_n (by omega) (by omega)
  refine lv_aload_n (k := 1) hx hb (show decode code 447 = .ok (.aload_n 1, 1) from by decide +kernel) rfl (lv_at hl 2 rfl) ?_
  refine lv_aload_n (k := 0) hx hb (show decode code 448 = .ok (.aload_n 0, 1) from by decide +kernel) rfl (lv_at hl 3 rfl) ?_
  refine lv_iload_n (k := 3) hx hb (show decode code 449 = .ok (.iload_n 3, 1) from by decide +kernel) rfl (lv_at hl 0 rfl) ?_
  refine lv_iconst (n := 1) (v := 1) hx hb (show decode code 450 = .ok (.iconst 1, 1) from by decide +kernel) (by decide) ?_
  refine lv_iadd hx hb (show decode code 451 = .ok (.iadd, 1) from by decide +kernel) ?_
  refine va_sld hx hb hX hbl hbA hS v1 (show decode code 452 = .ok (.iaload, 1) from by decide +kernel) ?_
  refine lw_call (n := 1) (as := [.int (xs (nI i + 1).toNatClampNeg)]) (rest := []) C mtX7_nearest (iX7_nearest (G_nearest g0)) rfl cl_0 cq_580 cq_577 cq_578 cq_579 cq_76 (by decide +kernel) ⟨(Nat.le_of_ble_eq_true rfl), (Nat.le_of_ble_eq_true rfl)⟩ hP hD hS hcs rfl hl.1 rfl (Nat.le_of_ble_eq_true rfl) (show decode code 453 = .ok (.invokevirtual 61, 3) from by decide +kernel) (fun rv S1 H locs hq hP hD hS => ?_)
  obtain ⟨hq, x, rfl⟩ := hq
  refine lv_aload_n (k := 2) hx hb (show decode code 456 = .ok (.aload_n 2, 1) from by decide +kernel) rfl (lv_at hl 1 rfl) ?_
  refine lv_aload_n (k := 0) hx hb (show decode code 457 = .ok (.aload_n 0, 1) from by decide +kernel) rfl (lv_at hl 3 rfl) ?_
  refine lv_iload_n (k := 3) hx hb (show decode code 458 = .ok (.iload_n 3, 1) from by decide +kernel) rfl (lv_at hl 0 rfl) ?_
  refine lv_iconst (n := 1) (v := 1) hx hb (show decode code 459 = .ok (.iconst 1, 1) from by decide +kernel) (by decide) ?_
  refine lv_iadd hx hb (show decode code 460 = .ok (.iadd, 1) from by decide +kernel) ?_
  refine va_sld hx hb hX hbl hbA hS v1 (show decode code 461 = .ok (.iaload, 1) from by decide +kernel) ?_
  refine lw_call (n := 1) (as := [.int (xs (nI i + 1).toNatClampNeg)]) (rest := [.int x]) C mtX8_nearest hq rfl cl_87 cq_1070 cq_1067 cq_1068 cq_1069 cq_84 (by decide +kernel) ⟨(Nat.le_of_ble_eq_true rfl), (Nat.le_of_ble_eq_true rfl)⟩ hP hD hS hcs rfl hl.1 rfl (Nat.le_of_ble_eq_true rfl) (show decode code 462 = .ok (.invokevirtual 64, 3) from by decide +kernel) (fun rv S2 H locs hq2 hP hD hS => ?_)
  obtain ⟨rfl, gI2⟩ := hq2
  refine lv_icmp_eq (tgt := 719) hx hb (show decode code 465 = .ok (.if_icmp .eq 254, 3) from by decide +kernel) (by decide) (fun _ => K S2 H locs gI2 hP hD hS) (fun q => absurd rfl q)
theorem law_pull (C : lwC p s m c b L xs D g st ad A) (hi : i + 4 ≤ L) (hL : L ≤ 2048) (hl : lv_has ls 4 [(3, .int (nI i)), (2, .ref (ad 87)), (1, .ref (ad 0)), (0, .ref b)]) (gI : Inv S) (hP : va_P D vwCl (sp_ws g ad sp_w.1 S) H) (hD : va_D A (sp_ws g ad sp_w.1 S)) (hS : va_S A s.heap H locs) (hcs : cells ≤ 600000 ∧ slots ≤ 7302250) (K : ∀ (S' : sp_M) (H' : Heap) (locs' : List Loc), Inv S' → va_P D vwCl (sp_ws g ad sp_w.1 S') H' → va_D A (sp_ws g ad sp_w.1 S') → va_S A s.heap H' locs' → W p l e room_1 s m #[Value.ref b] below meth c H' locs' cells slots Qw (F0 m 719 ls [])) : W p l e room_1 s m #[Value.ref b] below meth c H locs cells slots Qw (F0 m 470 ls []) := by
  obtain ⟨N, g0⟩ := gI
  obtain ⟨⟨⟨hx, hb, hml, hown⟩, -⟩, ⟨hX, hbl, hbA⟩, had⟩ := id C
  have v1 : vp_in (nI i + 1) L := by rw [show nI i + 1 = nI (i + 1) from nI_add i 1]; exact in_n (by omega) (by omega)
  refine lv_aload_n (k := 1) hx hb (show decode code 470 = .ok (.aload_n 1, 1) from by decide +kernel) rfl (lv_at hl 2 rfl) ?_
  refine lv_aload_n (k := 0) hx hb (show decode code 471 = .ok (.aload_n 0, 1) from by decide +kernel) rfl (lv_at hl 3 rfl) ?_
  refine lv_iload_n (k := 3) hx hb (show decode code 472 = .ok (.iload_n 3, 1) from by decide +kernel) rfl (lv_at hl 0 rfl) ?_
  refine lv_iconst (n := 1) (v := 1) hx hb (show decode code 473 = .ok (.iconst 1, 1) from by decide +kernel) (by decide) ?_
  refine lv_iadd hx hb (show decode code 474 = .ok (.iadd, 1) from by decide +kernel) ?_
  refine va_sld hx hb hX hbl hbA hS v1 (show decode code 475 = .ok (.iaload, 1) from by decide +kernel) ?_
  refine lw_call (n := 1) (as := [.int (xs (nI i + 1).toNatClampNeg)]) (rest := []) C mtX7_pull (iX7_pull (G_pull g0)) rfl cl_0 cq_588 cq_585 cq_586 cq_587 cq_76 (by decide +kernel) ⟨(Nat.le_of_ble_eq_true rfl), (Nat.le_of_ble_eq_true rfl)⟩ hP hD hS hcs rfl hl.1 rfl (Nat.le_of_ble_eq_true rfl) (show decode code 476 = .ok (.invokevirtual 65, 3) from by decide +kernel) (fun rv S1 H locs hq hP hD hS => ?_)
  obtain ⟨hq, x, rfl⟩ := hq
  refine lv_aload_n (k := 2) hx hb (show decode code 479 = .ok (.aload_n 2, 1) from by decide +kernel) rfl (lv_at hl 1 rfl) ?_
  refine lv_aload_n (k := 0) hx hb (show decode code 480 = .ok (.aload_n 0, 1) from by decide +kernel) rfl (lv_at hl 3 rfl) ?_
  refine lv_iload_n (k := 3) hx hb (show decode code 481 = .ok (.iload_n 3, 1) from by decide +kernel) rfl (lv_at hl 0 rfl) ?_
  refine lv_iconst (n := 1) (v := 1) hx hb (show decode code 482 = .ok (.iconst 1, 1) from by decide +kernel) (by decide) ?_
  refine lv_iadd hx hb (show decode code 483 = .ok (.iadd, 1) from by decide +kernel) ?_
  refine va_sld hx hb hX hbl hbA hS v1 (show decode code 484 = .ok (.iaload, 1) from by decide +kernel) ?_
  refine lw_call (n := 1) (as := [.int (xs (nI i + 1).toNatClampNeg)]) (rest := [.int x]) C mtX8_pull hq rfl cl_87 cq_1074 cq_1071 cq_1072 cq_1073 cq_84 (by decide +kernel) ⟨(Nat.le_of_ble_eq_true rfl), (Nat.le_of_ble_eq_true rfl)⟩ hP hD hS hcs rfl hl.1 rfl (Nat.le_of_ble_eq_true rfl) (show decode code 485 = .ok (.invokevirtual 68, 3) from by decide +kernel) (fun rv S2 H locs hq2 hP hD hS => ?_)
  obtain ⟨rfl, gI2⟩ := hq2
  refine lv_icmp_eq (tgt := 719) hx hb (show decode code 488 = .ok (.if_icmp .eq 231, 3) from by decide +kernel) (by decide) (fun _ => K S2 H locs gI2 hP hD hS) (fun q => absurd rfl q)
theorem law_cheapest (C : lwC p s m c b L xs D g st ad A) (hi : i + 4 ≤ L) (hL : L ≤ 2048) (hl : lv_has ls 4 [(3, .int (nI i)), (2, .ref (ad 87)), (1, .ref (ad 0)), (0, .ref b)]) (gI : Inv S) (hP : va_P D vwCl (sp_ws g ad sp_w.1 S) H) (hD : va_D A (sp_ws g ad sp_w.1 S)) (hS : va_S A s.heap H locs) (hcs : cells ≤ 600000 ∧ slots ≤ 7302250) (K : ∀ (S' : sp_M) (H' : Heap) (locs' : List Loc), Inv S' → va_P D vwCl (sp_ws g ad sp_w.1 S') H' → va_D A (sp_ws g ad sp_w.1 S') → va_S A s.heap H' locs' → W p l e room_1 s m #[Value.ref b] below meth c H' locs' cells slots Qw (F0 m 719 ls [])) : W p l e room_1 s m #[Value.ref b] below meth c H locs cells slots Qw (F0 m 493 ls []) := by
  obtain ⟨N, g0⟩ := gI
  obtain ⟨⟨⟨hx, hb, hml, hown⟩, -⟩, ⟨hX, hbl, hbA⟩, had⟩ := id C
  have v1 : vp_in (nI i + 1) L := by rw [show nI i + 1 = nI (i + 1) from nI_add i 1]; exact in_n (by omega) (by omega)
  refine lv_aload_n (k := 1) hx hb (show decode code 493 = .ok (.aload_n 1, 1) from by decide +kernel) rfl (lv_at hl 2 rfl) ?_
  refine lv_aload_n (k := 0) hx hb (show decode code 494 = .ok (.aload_n 0, 1) from by decide +kernel) rfl (lv_at hl 3 rfl) ?_
  refine lv_iload_n (k := 3) hx hb (show decode code 495 = .ok (.iload_n 3, 1) from by decide +kernel) rfl (lv_at hl 0 rfl) ?_
  refine lv_iconst (n := 1) (v := 1) hx hb (show decode code 496 = .ok (.iconst 1, 1) from by decide +kernel) (by decide) ?_
  refine lv_iadd hx hb (show decode code 497 = .ok (.iadd, 1) from by decide +kernel) ?_
  refine va_sld hx hb hX hbl hbA hS v1 (show decode code 498 = .ok (.iaload, 1) from by decide +kernel) ?_
  refine lw_call (n := 1) (as := [.int (xs (nI i + 1).toNatClampNeg)]) (rest := []) C mtX7_cheapest (iX7_cheapest (G_cheapest g0)) rfl cl_0 cq_594 cq_591 cq_592 cq_593 cq_76 (by decide +kernel) ⟨(Nat.le_of_ble_eq_true rfl), (Nat.le_of_ble_eq_true rfl)⟩ hP hD hS hcs rfl hl.1 rfl (Nat.le_of_ble_eq_true rfl) (show decode code 499 = .ok (.invokevirtual 69, 3) from by decide +kernel) (fun rv S1 H locs hq hP hD hS => ?_)
  obtain ⟨hq, x, rfl⟩ := hq
  refine lv_aload_n (k := 2) hx hb (show decode code 502 = .ok (.aload_n 2, 1) from by decide +kernel) rfl (lv_at hl 1 rfl) ?_
  refine lv_aload_n (k := 0) hx hb (show decode code 503 = .ok (.aload_n 0, 1) from by decide +kernel) rfl (lv_at hl 3 rfl) ?_
  refine lv_iload_n (k := 3) hx hb (show decode code 504 = .ok (.iload_n 3, 1) from by decide +kernel) rfl (lv_at hl 0 rfl) ?_
  refine lv_iconst (n := 1) (v := 1) hx hb (show decode code 505 = .ok (.iconst 1, 1) from by decide +kernel) (by decide) ?_
  refine lv_iadd hx hb (show decode code 506 = .ok (.iadd, 1) from by decide +kernel) ?_
  refine va_sld hx hb hX hbl hbA hS v1 (show decode code 507 = .ok (.iaload, 1) from by decide +kernel) ?_
  refine lw_call (n := 1) (as := [.int (xs (nI i + 1).toNatClampNeg)]) (rest := [.int x]) C mtX8_cheapest hq rfl cl_87 cq_1078 cq_1075 cq_1076 cq_1077 cq_84 (by decide +kernel) ⟨(Nat.le_of_ble_eq_true rfl), (Nat.le_of_ble_eq_true rfl)⟩ hP hD hS hcs rfl hl.1 rfl (Nat.le_of_ble_eq_true rfl) (show decode code 508 = .ok (.invokevirtual 72, 3) from by decide +kernel) (fun rv S2 H locs hq2 hP hD hS => ?_)
  obtain ⟨rfl, gI2⟩ := hq2
  refine lv_icmp_eq (tgt := 719) hx hb (show decode code 511 = .ok (.if_icmp .eq 208, 3) from by decide +kernel) (by decide) (fun _ => K S2 H locs gI2 hP hD hS) (fun q => absurd rfl q)
theorem law_spot (C : lwC p s m c b L xs D g st ad A) (hi : i + 4 ≤ L) (hL : L ≤ 2048) (hl : lv_has ls 4 [(3, .int (nI i)), (2, .ref (ad 87)), (1, .ref (ad 0)), (0, .ref b)]) (gI : Inv S) (hP : va_P D vwCl (sp_ws g ad sp_w.1 S) H) (hD : va_D A (sp_ws g ad sp_w.1 S)) (hS : va_S A s.heap H locs) (hcs : cells ≤ 600000 ∧ slots ≤ 7302250) (K : ∀ (S' : sp_M) (H' : Heap) (locs' : List Loc), Inv S' → va_P D vwCl (sp_ws g ad sp_w.1 S') H' → va_D A (sp_ws g ad sp_w.1 S') → va_S A s.heap H' locs' → W p l e room_1 s m #[Value.ref b] below meth c H' locs' cells slots Qw (F0 m 719 ls [])) : W p l e room_1 s m #[Value.ref b] below meth c H locs cells slots Qw (F0 m 516 ls []) := by
  obtain ⟨N, g0⟩ := gI
  obtain ⟨⟨⟨hx, hb, hml, hown⟩, -⟩, ⟨hX, hbl, hbA⟩, had⟩ := id C
  have v1 : vp_in (nI i + 1) L := by rw [show nI i + 1 = nI (i + 1) from nI_add i 1]; exact in_n (by omega) (by omega)
  have v2 : vp_in (nI i + 2) L := by rw [show nI i + 2 = nI (i + 2) from nI_add i 2]; exact in_n (by omega) (by omega)
  refine lv_aload_n (k := 1) hx hb (show decode code 516 = .ok (.aload_n 1, 1) from by decide +kernel) rfl (lv_at hl 2 rfl) ?_
  refine lv_aload_n (k := 0) hx hb (show decode code 517 = .ok (.aload_n 0, 1) from by decide +kernel) rfl (lv_at hl 3 rfl) ?_
  refine lv_iload_n (k := 3) hx hb (show decode code 518 = .ok (.iload_n 3, 1) from by decide +kernel) rfl (lv_at hl 0 rfl) ?_
  refine lv_iconst (n := 1) (v := 1) hx hb (show decode code 519 = .ok (.iconst 1, 1) from by decide +kernel) (by decide) ?_
  refine lv_iadd hx hb (show decode code 520 = .ok (.iadd, 1) from by decide +kernel) ?_
  refine va_sld hx hb hX hbl hbA hS v1 (show decode code 521 = .ok (.iaload, 1) from by decide +kernel) ?_
  refine lv_aload_n (k := 0) hx hb (show decode code 522 = .ok (.aload_n 0, 1) from by decide +kernel) rfl (lv_at hl 3 rfl) ?_
  refine lv_iload_n (k := 3) hx hb (show decode code 523 = .ok (.iload_n 3, 1) from by decide +kernel) rfl (lv_at hl 0 rfl) ?_
  refine lv_iconst (n := 2) (v := 2) hx hb (show decode code 524 = .ok (.iconst 2, 1) from by decide +kernel) (by decide) ?_
  refine lv_iadd hx hb (show decode code 525 = .ok (.iadd, 1) from by decide +kernel) ?_
  refine va_sld hx hb hX hbl hbA hS v2 (show decode code 526 = .ok (.iaload, 1) from by decide +kernel) ?_
  refine lw_call (n := 2) (as := [.int (xs (nI i + 1).toNatClampNeg), .int (xs (nI i + 2).toNatClampNeg)]) (rest := []) C mtX7_spot (iX7_spot (G_spot g0)) rfl cl_0 cq_707 cq_704 cq_705 cq_706 cq_76 (by decide +kernel) ⟨(Nat.le_of_ble_eq_true rfl), (Nat.le_of_ble_eq_true rfl)⟩ hP hD hS hcs rfl hl.1 rfl (Nat.le_of_ble_eq_true rfl) (show decode code 527 = .ok (.invokevirtual 73, 3) from by decide +kernel) (fun rv S1 H locs hq hP hD hS => ?_)
  obtain ⟨hq, x, rfl⟩ := hq
  refine lv_aload_n (k := 2) hx hb (show decode code 530 = .ok (.aload_n 2, 1) from by decide +kernel) rfl (lv_at hl 1 rfl) ?_
  refine lv_aload_n (k := 0) hx hb (show decode code 531 = .ok (.aload_n 0, 1) from by decide +kernel) rfl (lv_at hl 3 rfl) ?_
  refine lv_iload_n (k := 3) hx hb (show decode code 532 = .ok (.iload_n 3, 1) from by decide +kernel) rfl (lv_at hl 0 rfl) ?_
  refine lv_iconst (n := 1) (v := 1) hx hb (show decode code 533 = .ok (.iconst 1, 1) from by decide +kernel) (by decide) ?_
  refine lv_iadd hx hb (show decode code 534 = .ok (.iadd, 1) from by decide +kernel) ?_
  refine va_sld hx hb hX hbl hbA hS v1 (show decode code 535 = .ok (.iaload, 1) from by decide +kernel) ?_
  refine lv_aload_n (k := 0) hx hb (show decode code 536 = .ok (.aload_n 0, 1) from by decide +kernel) rfl (lv_at hl 3 rfl) ?_
  refine lv_iload_n (k := 3) hx hb (show decode code 537 = .ok (.iload_n 3, 1) from by decide +kernel) rfl (lv_at hl 0 rfl) ?_
  refine lv_iconst (n := 2) (v := 2) hx hb (show decode code 538 = .ok (.iconst 2, 1) from by decide +kernel) (by decide) ?_
  refine lv_iadd hx hb (show decode code 539 = .ok (.iadd, 1) from by decide +kernel) ?_
  refine va_sld hx hb hX hbl hbA hS v2 (show decode code 540 = .ok (.iaload, 1) from by decide +kernel) ?_
  refine lw_call (n := 2) (as := [.int (xs (nI i + 1).toNatClampNeg), .int (xs (nI i + 2).toNatClampNeg)]) (rest := [.int x]) C mtX8_spot hq rfl cl_87 cq_1122 cq_1119 cq_1120 cq_1121 cq_84 (by decide +kernel) ⟨(Nat.le_of_ble_eq_true rfl), (Nat.le_of_ble_eq_true rfl)⟩ hP hD hS hcs rfl hl.1 rfl (Nat.le_of_ble_eq_true rfl) (show decode code 541 = .ok (.invokevirtual 76, 3) from by decide +kernel) (fun rv S2 H locs hq2 hP hD hS => ?_)
  obtain ⟨rfl, gI2⟩ := hq2
  refine lv_icmp_eq (tgt := 719) hx hb (show decode code 544 = .ok (.if_icmp .eq 175, 3) from by decide +kernel) (by decide) (fun _ => K S2 H locs gI2 hP hD hS) (fun q => absurd rfl q)
theorem law_through (C : lwC p s m c b L xs D g st ad A) (hi : i + 4 ≤ L) (hL : L ≤ 2048) (hl : lv_has ls 4 [(3, .int (nI i)), (2, .ref (ad 87)), (1, .ref (ad 0)), (0, .ref b)]) (gI : Inv S) (hP : va_P D vwCl (sp_ws g ad sp_w.1 S) H) (hD : va_D A (sp_ws g ad sp_w.1 S)) (hS : va_S A s.heap H locs) (hcs : cells ≤ 600000 ∧ slots ≤ 7302250) (K : ∀ (S' : sp_M) (H' : Heap) (locs' : List Loc), Inv S' → va_P D vwCl (sp_ws g ad sp_w.1 S') H' → va_D A (sp_ws g ad sp_w.1 S') → va_S A s.heap H' locs' → W p l e room_1 s m #[Value.ref b] below meth c H' locs' cells slots Qw (F0 m 719 ls [])) : W p l e room_1 s m #[Value.ref b] below meth c H locs cells slots Qw (F0 m 549 ls []) := by
  obtain ⟨N, g0⟩ := gI
  obtain ⟨⟨⟨hx, hb, hml, hown⟩, -⟩, ⟨hX, hbl, hbA⟩, had⟩ := id C
  have v1 : vp_in (nI i + 1) L := by rw [show nI i + 1 = nI (i + 1) from nI_add i 1]; exact in_n (by omega) (by omega)
  refine lv_aload_n (k := 1) hx hb (show decode code 549 = .ok (.aload_n 1, 1) from by decide +kernel) rfl (lv_at hl 2 rfl) ?_
  refine lv_aload_n (k := 0) hx hb (show decode code 550 = .ok (.aload_n 0, 1) from by decide +kernel) rfl (lv_at hl 3 rfl) ?_
  refine lv_iload_n (k := 3) hx hb (show decode code 551 = .ok (.iload_n 3, 1) from by decide +kernel) rfl (lv_at hl 0 rfl) ?_
  refine lv_iconst (n := 1) (v := 1) hx hb (show decode code 552 = .ok (.iconst 1, 1) from by decide +kernel) (by decide) ?_
  refine lv_iadd hx hb (show decode code 553 = .ok (.iadd, 1) from by decide +kernel) ?_
  refine va_sld hx hb hX hbl hbA hS v1 (show decode code 554 = .ok (.iaload, 1) from by decide +kernel) ?_
  refine lw_call (n := 1) (as := [.int (xs (nI i + 1).toNatClampNeg)]) (rest := []) C mtX7_through (iX7_through (G_through g0)) rfl cl_0 cq_711 cq_708 cq_709 cq_710 cq_76 (by decide +kernel) ⟨(Nat.le_of_ble_eq_true rfl), (Nat.le_of_ble_eq_true rfl)⟩ hP hD hS hcs rfl hl.1 rfl (Nat.le_of_ble_eq_true rfl) (show decode code 555 = .ok (.invokevirtual 77, 3) from by decide +kernel) (fun rv S1 H locs hq hP hD hS => ?_)
  obtain ⟨hq, x, rfl⟩ := hq
  refine lv_aload_n (k := 2) hx hb (show decode code 558 = .ok (.aload_n 2, 1) from by decide +kernel) rfl (lv_at hl 1 rfl) ?_
  refine lv_aload_n (k := 0) hx hb (show decode code 559 = .ok (.aload_n 0, 1) from by decide +kernel) rfl (lv_at hl 3 rfl) ?_
  refine lv_iload_n (k := 3) hx hb (show decode code 560 = .ok (.iload_n 3, 1) from by decide +kernel) rfl (lv_at hl 0 rfl) ?_
  refine lv_iconst (n := 1) (v := 1) hx hb (show decode code 561 = .ok (.iconst 1, 1) from by decide +kernel) (by decide) ?_
  refine lv_iadd hx hb (show decode code 562 = .ok (.iadd, 1) from by decide +kernel) ?_
  refine va_sld hx hb hX hbl hbA hS v1 (show decode code 563 = .ok (.iaload, 1) from by decide +kernel) ?_
  refine lw_call (n := 1) (as := [.int (xs (nI i + 1).toNatClampNeg)]) (rest := [.int x]) C mtX8_through hq rfl cl_87 cq_1130 cq_1127 cq_1128 cq_1129 cq_84 (by decide +kernel) ⟨(Nat.le_of_ble_eq_true rfl), (Nat.le_of_ble_eq_true rfl)⟩ hP hD hS hcs rfl hl.1 rfl (Nat.le_of_ble_eq_true rfl) (show decode code 564 = .ok (.invokevirtual 80, 3) from by decide +kernel) (fun rv S2 H locs hq2 hP hD hS => ?_)
  obtain ⟨rfl, gI2⟩ := hq2
  refine lv_icmp_eq (tgt := 719) hx hb (show decode code 567 = .ok (.if_icmp .eq 152, 3) from by decide +kernel) (by decide) (fun _ => K S2 H locs gI2 hP hD hS) (fun q => absurd rfl q)
end LW
