/-! the class and the reference are made -/
theorem zr_of {S Sk : sp_M} {B b n : Nat} (hz : zr S 0 87) (he : eqOff (fun a => 1 ≤ a ∧ a < B) S Sk) (h1 : B ≤ b) (h2 : b + n ≤ 87) : zr Sk b n := fun a ha hb => by
  obtain ⟨z1, z2, z3⟩ := he a (by omega)
  rw [z1, z2, z3]
  exact hz a (by omega) (by omega)
theorem skT_rf : rfB skT 69 := by
  unfold skT
  refine rfB.app (rfB.cons (fun r h => ?_) (rfB.cons (fun r h => rf_i h) rfB.nil)) skL_rf
  have h' : (Sum.inl (some r) : sp_F) ∈ [(.inl (some 60) : sp_F), .inl (some 61), .inr false, .inr false, .inr false] := h
  simp at h'
  omega
theorem skH_rf : rfB skH 59 := by
  unfold skH
  refine rfB.app (rfB.cons (fun r h => ?_) (rfB.cons (fun r h => ?_) rfB.nil)) (preL_rf 6)
  · have h' : (Sum.inl (some r) : sp_F) ∈ [(.inl (some 10) : sp_F), .inr false, .inr false] := h
    simp at h'
    omega
  · obtain ⟨j, hj⟩ := h
    have h' := getD_mem hj
    simp at h'
    omega
theorem skF_rf : rfB skF 72 := by
  refine rfB.cons (fun r h => ?_) (rfB.cons (fun r h => rf_i h) (rfB.cons (fun r h => rf_i h) rfB.nil))
  have h' : (Sum.inl (some r) : sp_F) ∈ [(.inl (some 70) : sp_F), .inl (some 71), .inr false, .inr false] := h
  simp at h'
  omega
theorem skS_rf : rfB skS 84 := by
  refine rfB.cons (fun r h => ?_) (rfB.cons (fun r h => rf_i h) (rfB.cons (fun r h => rf_i h) (rfB.cons (fun r h => rf_i h) (rfB.cons (fun r h => rf_i h) (rfB.cons (fun r h => rf_i h) (rfB.cons (fun r h => rf_i h) (rfB.cons (fun r h => rf_i h) (rfB.cons (fun r h => rf_i h) (rfB.cons (fun r h => ?_) (rfB.cons (fun r h => rf_i h) (rfB.cons (fun r h => rf_i h) rfB.nil)))))))))))
  · have h' : (Sum.inl (some r) : sp_F) ∈ [(.inl (some 1) : sp_F), .inl (some 73), .inl (some 74), .inl (some 75), .inl (some 76), .inl (some 77), .inl (some 78), .inl (some 79), .inl (some 80), .inl (some 81), .inr false, .inr false, .inr false, .inr false, .inr false, .inl (some 82), .inl (some 83)] := h
    simp at h'
    omega
  · have h' : (Sum.inl (some r) : sp_F) ∈ [(.inr false : sp_F), .inr false, .inr false] := h
    simp at h'
theorem skP_rf : rfB skP 87 := by
  refine rfB.cons (fun r h => ?_) (rfB.cons (fun r h => rf_i h) (rfB.cons (fun r h => rf_i h) rfB.nil))
  have h' : (Sum.inl (some r) : sp_F) ∈ [(.inl (some 1) : sp_F), .inl (some 72), .inl (some 85), .inl (some 86)] := h
  simp at h'
  omega
def sk70 : List sp_C := [.inr (.inr (7, [.inl (some 1), .inl (some 9), .inl (some 59), .inl (some 69), .inl (some 72), .inl (some 84), .inr false, .inr false, .inr false, .inr false, .inr false, .inr true, .inr true]))]
def sk71 : List sp_C := ((((((([] : List sp_C) ++ skL 1) ++ skH) ++ skT) ++ skF) ++ skS) ++ skP)
def sk7 : List sp_C := sk70 ++ sk71
set_option maxHeartbeats 16000000 in
theorem c_class {l : Launch} : ctMet l yX7_init cX7_init 1 3 86 9342 63 7 [.null, .null, .null, .null, .null, .null, .int 0, .int 0, .int 0, .int 0, .int 0, .long 0, .long 0] 0 sk7 (fun _ S ex => ex = [] ∧ zr S 0 87) (fun _ S' => lv S' 1 = fst0 ∧ S'.1 0 = (fun _ => 0) ∧ (S'.2.1 0 11 = 0 ∧ S'.2.1 0 12 = 1) ∧ S'.1 9 = (fun _ => 0) ∧ S'.1 59 = (fun _ => 0) ∧ S'.1 69 = (fun _ => 0)) := by
  refine ct_body (by decide) rfl (fun ad _ ex h => by rw [h.1]; exact (Nat.le_of_ble_eq_true rfl)) ?_
  intro p e s m below meth c D g st z h0 ad S ex A ls hpre C hin hr hlk hP hD hl hz0
  obtain ⟨rfl, hzr⟩ := hpre
  obtain ⟨⟨hx, hb, hml, hown⟩, hts, hK, hRO, hz, hA, hzs⟩ := id C
  have hl : lv_has ls 1 [(0, .ref h0)] := hl
  have hS : va_S A s.heap s.heap [] := va_S.rf
  refine ct_obj C hl.1 (lv_at hl 0 rfl) cq_92 cq_93 cq_94 ⟨(Nat.le_of_ble_eq_true rfl), (Nat.le_of_ble_eq_true rfl)⟩ (show decode cX7_init 0 = .ok (.aload_n 0, 1) from by decide +kernel) (show decode cX7_init 1 = .ok (.invokespecial 3, 3) from by decide +kernel) ?_
  obtain ⟨ad0, a0_0, hout0⟩ : ∃ ad0 : Nat → Nat, ad0 0 = h0 ∧ ∀ i, 87 ≤ i → ad0 i = ad i := ⟨fun i => if i = 0 then h0 else ad i, rfl, fun i hi => if_neg (by omega)⟩
  have heq0 : eqOff (fun a => 1 ≤ a ∧ a < 1) S S := eqOff.rf
  have hP : va_P D vwCl ([(h0, .inr (7, [.null, .null, .null, .null, .null, .null, .int 0, .int 0, .int 0, .int 0, .int 0, .long 0, .long 0]))] ++ sp_wz g ad0 1 ([] : List sp_C) S) s.heap := hP
  have hD : va_D A ([(h0, .inr (7, [.null, .null, .null, .null, .null, .null, .int 0, .int 0, .int 0, .int 0, .int 0, .long 0, .long 0]))] ++ sp_wz g ad0 1 ([] : List sp_C) S) := hD
  refine lv_aload_n (k := 0) hx hb (show decode cX7_init 4 = .ok (.aload_n 0, 1) from by decide +kernel) rfl (lv_at hl 0 rfl) ?_
  refine ct_new (X := [(h0, .inr (7, [.null, .null, .null, .null, .null, .null, .int 0, .int 0, .int 0, .int 0, .int 0, .long 0, .long 0]))]) (pl := sp_wz g ad0 1 ([] : List sp_C) S) (ci := 2) (C' := RX2) (T := TX2) (N := 3) (fs := [.int 0, .null, .null]) C hP hD hS rfl iX2 tyX2 tyX2_ok cq_95 cq_96 cq_77 (fun j hj => by rcases (show j = 0 ∨ j = 1 ∨ j = 2 by omega) with rfl | rfl | rfl <;> rfl) (Nat.le_of_ble_eq_true rfl) (Nat.le_of_ble_eq_true rfl) (show decode cX7_init 5 = .ok (.new 9, 3) from by decide +kernel) (show decode cX7_init 8 = .ok (.dup, 1) from by decide +kernel) (fun q1 H hq1 hP hD hS => ?_)
  refine ct_callI (X := [(h0, .inr (7, [.null, .null, .null, .null, .null, .null, .int 0, .int 0, .int 0, .int 0, .int 0, .long 0, .long 0]))]) (pl := sp_wz g ad0 1 ([] : List sp_C) S) (b := 1) (sk := skL 1) (rest := [.ref q1, .ref h0]) C (ct_runI (X := [(h0, .inr (7, [.null, .null, .null, .null, .null, .null, .int 0, .int 0, .int 0, .int 0, .int 0, .long 0, .long 0]))]) (pl := sp_wz g ad0 1 ([] : List sp_C) S) (n := 0) (ex := []) (rest := [.ref q1, .ref h0]) (ad := ad0) (S := S) C c_line rfl hq1 hP hS cq_99 cq_97 cq_98 cq_77 rfl (by decide +kernel) ⟨(Nat.le_of_ble_eq_true rfl), (Nat.le_of_ble_eq_true rfl)⟩ rfl hl.1 rfl (Nat.le_of_ble_eq_true rfl) (show decode cX7_init 9 = .ok (.invokespecial 11, 3) from by decide +kernel) ⟨(Nat.le_of_ble_eq_true rfl), (Nat.le_of_ble_eq_true rfl)⟩) hP hD hS [1] [0] rfl rfl (by decide) (by decide) (fun u H locs u1 u2 u3 u4 hP hD hS => ?_)
  obtain ⟨ad1, S1⟩ := u
  have a1_1 : ad1 1 = q1 := u1
  have em := sp_wz_more (g := g) (b0 := 1) (pre := ([] : List sp_C)) (sk := skL 1) (S := S) (ad := ad0) (u := (ad1, S1)) (b := 1) rfl (rfB.nil) u2 u3
  rw [em] at hP hD
  have hout1' : ∀ i, i < 1 ∨ 9 ≤ i → ad1 i = ad0 i := u2
  have heq1' : eqOff (fun a => 1 ≤ a ∧ a < 9) S S1 := u3
  have a1_0 : ad1 0 = h0 := (hout1' 0 (by omega)).trans a0_0
  have hout1 : ∀ i, 87 ≤ i → ad1 i = ad i := fun i hi => (hout1' i (by omega)).trans (hout0 i hi)
  have heq1 : eqOff (fun a => 1 ≤ a ∧ a < 9) S S1 := (heq0.tr heq1').mono (by omega)
  have hlv1 : lv S1 1 = fst0 := u4
  have rf1 : rfB (([] : List sp_C) ++ skL 1) 9 := rfB.app rfB.nil skL_rf
  refine ct_putF (ci := 7) (T := TX7) (N := 13) (v := .ref q1) (ty := .object "SpanSpotter$Line") C hin rfl iX7 tyX7 tyX7_ok nmX7 hP hD hS 0 (by decide) cq_312 rfl rfl (by decide +kernel) rfl rfl (Nat.le_of_ble_eq_true rfl) (show decode cX7_init 12 = .ok (.putfield 12, 3) from by decide +kernel) (fun H locs hP hD hS => ?_)
  have hP : va_P D vwCl ([(h0, .inr (7, [.ref q1, .null, .null, .null, .null, .null, .int 0, .int 0, .int 0, .int 0, .int 0, .long 0, .long 0]))] ++ sp_wz g ad1 1 (([] : List sp_C) ++ skL 1) S1) H := hP
  have hD : va_D A ([(h0, .inr (7, [.ref q1, .null, .null, .null, .null, .null, .int 0, .int 0, .int 0, .int 0, .int 0, .long 0, .long 0]))] ++ sp_wz g ad1 1 (([] : List sp_C) ++ skL 1) S1) := hD
  refine lv_aload_n (k := 0) hx hb (show decode cX7_init 15 = .ok (.aload_n 0, 1) from by decide +kernel) rfl (lv_at hl 0 rfl) ?_
  refine ct_new (X := [(h0, .inr (7, [.ref q1, .null, .null, .null, .null, .null, .int 0, .int 0, .int 0, .int 0, .int 0, .long 0, .long 0]))]) (pl := sp_wz g ad1 1 (([] : List sp_C) ++ skL 1) S1) (ci := 1) (C' := RX1) (T := TX1) (N := 3) (fs := [.null, .int 0, .int 0]) C hP hD hS rfl iX1 tyX1 tyX1_ok cq_136 cq_137 cq_78 (fun j hj => by rcases (show j = 0 ∨ j = 1 ∨ j = 2 by omega) with rfl | rfl | rfl <;> rfl) (Nat.le_of_ble_eq_true rfl) (Nat.le_of_ble_eq_true rfl) (show decode cX7_init 16 = .ok (.new 16, 3) from by decide +kernel) (show decode cX7_init 19 = .ok (.dup, 1) from by decide +kernel) (fun q2 H hq2 hP hD hS => ?_)
  refine ct_callI (X := [(h0, .inr (7, [.ref q1, .null, .null, .null, .null, .null, .int 0, .int 0, .int 0, .int 0, .int 0, .long 0, .long 0]))]) (pl := sp_wz g ad1 1 (([] : List sp_C) ++ skL 1) S1) (b := 9) (sk := skH) (rest := [.ref q2, .ref h0]) C (ct_runI (X := [(h0, .inr (7, [.ref q1, .null, .null, .null, .null, .null, .int 0, .int 0, .int 0, .int 0, .int 0, .long 0, .long 0]))]) (pl := sp_wz g ad1 1 (([] : List sp_C) ++ skL 1) S1) (n := 0) (ex := []) (rest := [.ref q2, .ref h0]) (ad := ad1) (S := S1) C c_hist ⟨rfl, zr_of hzr heq1 (by omega) (by omega)⟩ hq2 hP hS cq_140 cq_138 cq_139 cq_78 rfl (by decide +kernel) ⟨(Nat.le_of_ble_eq_true rfl), (Nat.le_of_ble_eq_true rfl)⟩ rfl hl.1 rfl (Nat.le_of_ble_eq_true rfl) (show decode cX7_init 20 = .ok (.invokespecial 18, 3) from by decide +kernel) ⟨(Nat.le_of_ble_eq_true rfl), (Nat.le_of_ble_eq_true rfl)⟩) hP hD hS [1] [0] rfl rfl (by decide) (by decide) (fun u H locs u1 u2 u3 u4 hP hD hS => ?_)
  obtain ⟨ad2, S2⟩ := u
  have a2_9 : ad2 9 = q2 := u1
  have em := sp_wz_more (g := g) (b0 := 1) (pre := (([] : List sp_C) ++ skL 1)) (sk := skH) (S := S1) (ad := ad1) (u := (ad2, S2)) (b := 9) rfl rf1 u2 u3
  rw [em] at hP hD
  have hout2' : ∀ i, i < 9 ∨ 59 ≤ i → ad2 i = ad1 i := u2
  have heq2' : eqOff (fun a => 9 ≤ a ∧ a < 59) S1 S2 := u3
  have a2_0 : ad2 0 = h0 := (hout2' 0 (by omega)).trans a1_0
  have a2_1 : ad2 1 = q1 := (hout2' 1 (by omega)).trans a1_1
  have hout2 : ∀ i, 87 ≤ i → ad2 i = ad i := fun i hi => (hout2' i (by omega)).trans (hout1 i hi)
  have heq2 : eqOff (fun a => 1 ≤ a ∧ a < 59) S S2 := (heq1.tr heq2').mono (by omega)
  have hlv2 : lv S2 1 = fst0 := (heq2'.lv (by omega)).trans hlv1
  have h9_2 : S2.1 9 = (fun _ => 0) := by
    have u4 : eqOff (fun a => 11 ≤ a ∧ a < 59) S1 S2 := u4
    rw [(u4 9 (by omega)).1, (heq1 9 (by omega)).1]
    exact (hzr 9 (by omega) (by omega)).1
  have rf2 : rfB ((([] : List sp_C) ++ skL 1) ++ skH) 59 := rfB.app (rf1.up (by omega)) skH_rf
  refine ct_putF (ci := 7) (T := TX7) (N := 13) (v := .ref q2) (ty := .object "SpanSpotter$History") C hin rfl iX7 tyX7 tyX7_ok nmX7 hP hD hS 1 (by decide) cq_313 rfl rfl (by decide +kernel) rfl rfl (Nat.le_of_ble_eq_true rfl) (show decode cX7_init 23 = .ok (.putfield 19, 3) from by decide +kernel) (fun H locs hP hD hS => ?_)
  have hP : va_P D vwCl ([(h0, .inr (7, [.ref q1, .ref q2, .null, .null, .null, .null, .int 0, .int 0, .int 0, .int 0, .int 0, .long 0, .long 0]))] ++ sp_wz g ad2 1 ((([] : List sp_C) ++ skL 1) ++ skH) S2) H := hP
  have hD : va_D A ([(h0, .inr (7, [.ref q1, .ref q2, .null, .null, .null, .null, .int 0, .int 0, .int 0, .int 0, .int 0, .long 0, .long 0]))] ++ sp_wz g ad2 1 ((([] : List sp_C) ++ skL 1) ++ skH) S2) := hD
  refine lv_aload_n (k := 0) hx hb (show decode cX7_init 26 = .ok (.aload_n 0, 1) from by decide +kernel) rfl (lv_at hl 0 rfl) ?_
  refine ct_new (X := [(h0, .inr (7, [.ref q1, .ref q2, .null, .null, .null, .null, .int 0, .int 0, .int 0, .int 0, .int 0, .long 0, .long 0]))]) (pl := sp_wz g ad2 1 ((([] : List sp_C) ++ skL 1) ++ skH) S2) (ci := 6) (C' := RX6) (T := TX6) (N := 5) (fs := [.null, .null, .int 0, .int 0, .int 0]) C hP hD hS rfl iX6 tyX6 tyX6_ok cq_156 cq_157 cq_79 (fun j hj => by rcases (show j = 0 ∨ j = 1 ∨ j = 2 ∨ j = 3 ∨ j = 4 by omega) with rfl | rfl | rfl | rfl | rfl <;> rfl) (Nat.le_of_ble_eq_true rfl) (Nat.le_of_ble_eq_true rfl) (show decode cX7_init 27 = .ok (.new 23, 3) from by decide +kernel) (show decode cX7_init 30 = .ok (.dup, 1) from by decide +kernel) (fun q3 H hq3 hP hD hS => ?_)
  refine ct_callI (X := [(h0, .inr (7, [.ref q1, .ref q2, .null, .null, .null, .null, .int 0, .int 0, .int 0, .int 0, .int 0, .long 0, .long 0]))]) (pl := sp_wz g ad2 1 ((([] : List sp_C) ++ skL 1) ++ skH) S2) (b := 59) (sk := skT) (rest := [.ref q3, .ref h0]) C (ct_runIN (X := [(h0, .inr (7, [.ref q1, .ref q2, .null, .null, .null, .null, .int 0, .int 0, .int 0, .int 0, .int 0, .long 0, .long 0]))]) (pl := sp_wz g ad2 1 ((([] : List sp_C) ++ skL 1) ++ skH) S2) (n := 0) (ex := []) (rest := [.ref q3, .ref h0]) (ad := ad2) (S := S2) C c_text ⟨rfl, zr_of hzr heq2 (by omega) (by omega)⟩ hq3 hP hS cq_160 cq_158 cq_159 cq_79 rfl (by decide +kernel) ⟨(Nat.le_of_ble_eq_true rfl), (Nat.le_of_ble_eq_true rfl)⟩ rfl hl.1 rfl (Nat.le_of_ble_eq_true rfl) (show decode cX7_init 31 = .ok (.invokespecial 25, 3) from by decide +kernel) ⟨(Nat.le_of_ble_eq_true rfl), (Nat.le_of_ble_eq_true rfl)⟩) hP hD hS [1] [0] rfl rfl (by decide) (by decide) (fun u H locs u1 u2 u3 u4 hP hD hS => ?_)
  obtain ⟨ad3, S3⟩ := u
  have a3_59 : ad3 59 = q3 := u1
  have em := sp_wz_more (g := g) (b0 := 1) (pre := ((([] : List sp_C) ++ skL 1) ++ skH)) (sk := skT) (S := S2) (ad := ad2) (u := (ad3, S3)) (b := 59) rfl rf2 u2 u3
  rw [em] at hP hD
  have hout3' : ∀ i, i < 59 ∨ 69 ≤ i → ad3 i = ad2 i := u2
  have heq3' : eqOff (fun a => 59 ≤ a ∧ a < 69) S2 S3 := u3
  have a3_0 : ad3 0 = h0 := (hout3' 0 (by omega)).trans a2_0
  have a3_1 : ad3 1 = q1 := (hout3' 1 (by omega)).trans a2_1
  have a3_9 : ad3 9 = q2 := (hout3' 9 (by omega)).trans a2_9
  have hout3 : ∀ i, 87 ≤ i → ad3 i = ad i := fun i hi => (hout3' i (by omega)).trans (hout2 i hi)
  have heq3 : eqOff (fun a => 1 ≤ a ∧ a < 69) S S3 := (heq2.tr heq3').mono (by omega)
  have hlv3 : lv S3 1 = fst0 := (heq3'.lv (by omega)).trans hlv2
  have h9_3 : S3.1 9 = (fun _ => 0) := by rw [(heq3' 9 (by omega)).1]; exact h9_2
  have h59_3 : S3.1 59 = (fun _ => 0) := by
    have u4 : eqOff (fun a => 61 ≤ a ∧ a < 69) S2 S3 := u4
    rw [(u4 59 (by omega)).1, (heq2 59 (by omega)).1]
    exact (hzr 59 (by omega) (by omega)).1
  have rf3 : rfB (((([] : List sp_C) ++ skL 1) ++ skH) ++ skT) 69 := rfB.app (rf2.up (by omega)) skT_rf
  refine ct_putF (ci := 7) (T := TX7) (N := 13) (v := .ref q3) (ty := .object "SpanSpotter$Text") C hin rfl iX7 tyX7 tyX7_ok nmX7 hP hD hS 2 (by decide) cq_314 rfl rfl (by decide +kernel) rfl rfl (Nat.le_of_ble_eq_true rfl) (show decode cX7_init 34 = .ok (.putfield 26, 3) from by decide +kernel) (fun H locs hP hD hS => ?_)
  have hP : va_P D vwCl ([(h0, .inr (7, [.ref q1, .ref q2, .ref q3, .null, .null, .null, .int 0, .int 0, .int 0, .int 0, .int 0, .long 0, .long 0]))] ++ sp_wz g ad3 1 (((([] : List sp_C) ++ skL 1) ++ skH) ++ skT) S3) H := hP
  have hD : va_D A ([(h0, .inr (7, [.ref q1, .ref q2, .ref q3, .null, .null, .null, .int 0, .int 0, .int 0, .int 0, .int 0, .long 0, .long 0]))] ++ sp_wz g ad3 1 (((([] : List sp_C) ++ skL 1) ++ skH) ++ skT) S3) := hD
  refine lv_aload_n (k := 0) hx hb (show decode cX7_init 37 = .ok (.aload_n 0, 1) from by decide +kernel) rfl (lv_at hl 0 rfl) ?_
  refine ct_new (X := [(h0, .inr (7, [.ref q1, .ref q2, .ref q3, .null, .null, .null, .int 0, .int 0, .int 0, .int 0, .int 0, .long 0, .long 0]))]) (pl := sp_wz g ad3 1 (((([] : List sp_C) ++ skL 1) ++ skH) ++ skT) S3) (ci := 0) (C' := RX0) (T := TX0) (N := 4) (fs := [.null, .null, .int 0, .int 0]) C hP hD hS rfl iX0 tyX0 tyX0_ok cq_183 cq_184 cq_80 (fun j hj => by rcases (show j = 0 ∨ j = 1 ∨ j = 2 ∨ j = 3 by omega) with rfl | rfl | rfl | rfl <;> rfl) (Nat.le_of_ble_eq_true rfl) (Nat.le_of_ble_eq_true rfl) (show decode cX7_init 38 = .ok (.new 30, 3) from by decide +kernel) (show decode cX7_init 41 = .ok (.dup, 1) from by decide +kernel) (fun q4 H hq4 hP hD hS => ?_)
  refine ct_callI (X := [(h0, .inr (7, [.ref q1, .ref q2, .ref q3, .null, .null, .null, .int 0, .int 0, .int 0, .int 0, .int 0, .long 0, .long 0]))]) (pl := sp_wz g ad3 1 (((([] : List sp_C) ++ skL 1) ++ skH) ++ skT) S3) (b := 69) (sk := skF) (rest := [.ref q4, .ref h0]) C (ct_runIN (X := [(h0, .inr (7, [.ref q1, .ref q2, .ref q3, .null, .null, .null, .int 0, .int 0, .int 0, .int 0, .int 0, .long 0, .long 0]))]) (pl := sp_wz g ad3 1 (((([] : List sp_C) ++ skL 1) ++ skH) ++ skT) S3) (n := 0) (ex := []) (rest := [.ref q4, .ref h0]) (ad := ad3) (S := S3) C c_flaws ⟨rfl, zr_of hzr heq3 (by omega) (by decide)⟩ hq4 hP hS cq_187 cq_185 cq_186 cq_80 rfl (by decide +kernel) ⟨(Nat.le_of_ble_eq_true rfl), (Nat.le_of_ble_eq_true rfl)⟩ rfl hl.1 rfl (Nat.le_of_ble_eq_true rfl) (show decode cX7_init 42 = .ok (.invokespecial 32, 3) from by decide +kernel) ⟨(Nat.le_of_ble_eq_true rfl), (Nat.le_of_ble_eq_true rfl)⟩) hP hD hS [1] [0] rfl rfl (by decide) (by decide) (fun u H locs u1 u2 u3 u4 hP hD hS => ?_)
  obtain ⟨ad4, S4⟩ := u
  have a4_69 : ad4 69 = q4 := u1
  have em := sp_wz_more (g := g) (b0 := 1) (pre := (((([] : List sp_C) ++ skL 1) ++ skH) ++ skT)) (sk := skF) (S := S3) (ad := ad3) (u := (ad4, S4)) (b := 69) rfl rf3 u2 u3
  rw [em] at hP hD
  have hout4' : ∀ i, i < 69 ∨ 72 ≤ i → ad4 i = ad3 i := u2
  have heq4' : eqOff (fun a => 69 ≤ a ∧ a < 72) S3 S4 := u3
  have a4_0 : ad4 0 = h0 := (hout4' 0 (by omega)).trans a3_0
  have a4_1 : ad4 1 = q1 := (hout4' 1 (by omega)).trans a3_1
  have a4_9 : ad4 9 = q2 := (hout4' 9 (by omega)).trans a3_9
  have a4_59 : ad4 59 = q3 := (hout4' 59 (by omega)).trans a3_59
  have hout4 : ∀ i, 87 ≤ i → ad4 i = ad i := fun i hi => (hout4' i (by omega)).trans (hout3 i hi)
  have heq4 : eqOff (fun a => 1 ≤ a ∧ a < 72) S S4 := (heq3.tr heq4').mono (by omega)
  have hlv4 : lv S4 1 = fst0 := (heq4'.lv (by omega)).trans hlv3
  have h9_4 : S4.1 9 = (fun _ => 0) := by rw [(heq4' 9 (by omega)).1]; exact h9_3
  have h59_4 : S4.1 59 = (fun _ => 0) := by rw [(heq4' 59 (by omega)).1]; exact h59_3
  have h69_4 : S4.1 69 = (fun _ => 0) := by
    have u4 : S4 = S3 := u4
    rw [u4, (heq3 69 (by omega)).1]
    exact (hzr 69 (by omega) (by omega)).1
  have rf4 : rfB ((((([] : List sp_C) ++ skL 1) ++ skH) ++ skT) ++ skF) 72 := rfB.app (rf3.up (by omega)) skF_rf
  refine ct_putF (ci := 7) (T := TX7) (N := 13) (v := .ref q4) (ty := .object "SpanSpotter$Flaws") C hin rfl iX7 tyX7 tyX7_ok nmX7 hP hD hS 3 (by decide) cq_315 rfl rfl (by decide +kernel) rfl rfl (Nat.le_of_ble_eq_true rfl) (show decode cX7_init 45 = .ok (.putfield 33, 3) from by decide +kernel) (fun H locs hP hD hS => ?_)
  have hP : va_P D vwCl ([(h0, .inr (7, [.ref q1, .ref q2, .ref q3, .ref q4, .null, .null, .int 0, .int 0, .int 0, .int 0, .int 0, .long 0, .long 0]))] ++ sp_wz g ad4 1 ((((([] : List sp_C) ++ skL 1) ++ skH) ++ skT) ++ skF) S4) H := hP
  have hD : va_D A ([(h0, .inr (7, [.ref q1, .ref q2, .ref q3, .ref q4, .null, .null, .int 0, .int 0, .int 0, .int 0, .int 0, .long 0, .long 0]))] ++ sp_wz g ad4 1 ((((([] : List sp_C) ++ skL 1) ++ skH) ++ skT) ++ skF) S4) := hD
  refine lv_aload_n (k := 0) hx hb (show decode cX7_init 48 = .ok (.aload_n 0, 1) from by decide +kernel) rfl (lv_at hl 0 rfl) ?_
  refine ct_new (X := [(h0, .inr (7, [.ref q1, .ref q2, .ref q3, .ref q4, .null, .null, .int 0, .int 0, .int 0, .int 0, .int 0, .long 0, .long 0]))]) (pl := sp_wz g ad4 1 ((((([] : List sp_C) ++ skL 1) ++ skH) ++ skT) ++ skF) S4) (ci := 4) (C' := RX4) (T := TX4) (N := 17) (fs := [.null, .null, .null, .null, .null, .null, .null, .null, .null, .null, .int 0, .int 0, .int 0, .int 0, .int 0, .null, .null]) C hP hD hS rfl iX4 tyX4 tyX4_ok cq_206 cq_207 cq_81 (fun j hj => by rcases (show j = 0 ∨ j = 1 ∨ j = 2 ∨ j = 3 ∨ j = 4 ∨ j = 5 ∨ j = 6 ∨ j = 7 ∨ j = 8 ∨ j = 9 ∨ j = 10 ∨ j = 11 ∨ j = 12 ∨ j = 13 ∨ j = 14 ∨ j = 15 ∨ j = 16 by omega) with rfl | rfl | rfl | rfl | rfl | rfl | rfl | rfl | rfl | rfl | rfl | rfl | rfl | rfl | rfl | rfl | rfl <;> rfl) (Nat.le_of_ble_eq_true rfl) (Nat.le_of_ble_eq_true rfl) (show decode cX7_init 49 = .ok (.new 37, 3) from by decide +kernel) (show decode cX7_init 52 = .ok (.dup, 1) from by decide +kernel) (fun q5 H hq5 hP hD hS => ?_)
  refine lv_aload_n (k := 0) hx hb (show decode cX7_init 53 = .ok (.aload_n 0, 1) from by decide +kernel) rfl (lv_at hl 0 rfl) ?_
  refine ct_get (ci := 7) (T := TX7) (N := 13) (v := .ref q1) C rfl iX7 hP 0 (by decide) cq_312 rfl rfl (show decode cX7_init 54 = .ok (.getfield 12, 3) from by decide +kernel) ?_
  refine ct_callI (X := [(h0, .inr (7, [.ref q1, .ref q2, .ref q3, .ref q4, .null, .null, .int 0, .int 0, .int 0, .int 0, .int 0, .long 0, .long 0]))]) (pl := sp_wz g ad4 1 ((((([] : List sp_C) ++ skL 1) ++ skH) ++ skT) ++ skF) S4) (b := 72) (sk := skS) (rest := [.ref q5, .ref h0]) C (ct_runI (X := [(h0, .inr (7, [.ref q1, .ref q2, .ref q3, .ref q4, .null, .null, .int 0, .int 0, .int 0, .int 0, .int 0, .long 0, .long 0]))]) (pl := sp_wz g ad4 1 ((((([] : List sp_C) ++ skL 1) ++ skH) ++ skT) ++ skF) S4) (n := 1) (ex := [.ref q1]) (rest := [.ref q5, .ref h0]) (ad := ad4) (S := S4) C c_search ⟨by rw [a4_1], zr_of hzr heq4 (by omega) (by decide)⟩ hq5 hP hS cq_210 cq_208 cq_209 cq_81 rfl (by decide +kernel) ⟨(Nat.le_of_ble_eq_true rfl), (Nat.le_of_ble_eq_true rfl)⟩ rfl hl.1 rfl (Nat.le_of_ble_eq_true rfl) (show decode cX7_init 57 = .ok (.invokespecial 39, 3) from by decide +kernel) ⟨(Nat.le_of_ble_eq_true rfl), (Nat.le_of_ble_eq_true rfl)⟩) hP hD hS [1] [0] rfl rfl (by decide) (by decide) (fun u H locs u1 u2 u3 u4 hP hD hS => ?_)
  obtain ⟨ad5, S5⟩ := u
  have a5_72 : ad5 72 = q5 := u1
  have em := sp_wz_more (g := g) (b0 := 1) (pre := ((((([] : List sp_C) ++ skL 1) ++ skH) ++ skT) ++ skF)) (sk := skS) (S := S4) (ad := ad4) (u := (ad5, S5)) (b := 72) rfl rf4 u2 u3
  rw [em] at hP hD
  have hout5' : ∀ i, i < 72 ∨ 84 ≤ i → ad5 i = ad4 i := u2
  have heq5' : eqOff (fun a => 72 ≤ a ∧ a < 84) S4 S5 := u3
  have a5_0 : ad5 0 = h0 := (hout5' 0 (by omega)).trans a4_0
  have a5_1 : ad5 1 = q1 := (hout5' 1 (by omega)).trans a4_1
  have a5_9 : ad5 9 = q2 := (hout5' 9 (by omega)).trans a4_9
  have a5_59 : ad5 59 = q3 := (hout5' 59 (by omega)).trans a4_59
  have a5_69 : ad5 69 = q4 := (hout5' 69 (by omega)).trans a4_69
  have hout5 : ∀ i, 87 ≤ i → ad5 i = ad i := fun i hi => (hout5' i (by omega)).trans (hout4 i hi)
  have heq5 : eqOff (fun a => 1 ≤ a ∧ a < 84) S S5 := (heq4.tr heq5').mono (by omega)
  have hlv5 : lv S5 1 = fst0 := (heq5'.lv (by omega)).trans hlv4
  have h9_5 : S5.1 9 = (fun _ => 0) := by rw [(heq5' 9 (by omega)).1]; exact h9_4
  have h59_5 : S5.1 59 = (fun _ => 0) := by rw [(heq5' 59 (by omega)).1]; exact h59_4
  have h69_5 : S5.1 69 = (fun _ => 0) := by rw [(heq5' 69 (by omega)).1]; exact h69_4
  have rf5 : rfB (((((([] : List sp_C) ++ skL 1) ++ skH) ++ skT) ++ skF) ++ skS) 84 := rfB.app (rf4.up (by omega)) skS_rf
  refine ct_putF (ci := 7) (T := TX7) (N := 13) (v := .ref q5) (ty := .object "SpanSpotter$Search") C hin rfl iX7 tyX7 tyX7_ok nmX7 hP hD hS 4 (by decide) cq_316 rfl rfl (by decide +kernel) rfl rfl (Nat.le_of_ble_eq_true rfl) (show decode cX7_init 60 = .ok (.putfield 42, 3) from by decide +kernel) (fun H locs hP hD hS => ?_)
  have hP : va_P D vwCl ([(h0, .inr (7, [.ref q1, .ref q2, .ref q3, .ref q4, .ref q5, .null, .int 0, .int 0, .int 0, .int 0, .int 0, .long 0, .long 0]))] ++ sp_wz g ad5 1 (((((([] : List sp_C) ++ skL 1) ++ skH) ++ skT) ++ skF) ++ skS) S5) H := hP
  have hD : va_D A ([(h0, .inr (7, [.ref q1, .ref q2, .ref q3, .ref q4, .ref q5, .null, .int 0, .int 0, .int 0, .int 0, .int 0, .long 0, .long 0]))] ++ sp_wz g ad5 1 (((((([] : List sp_C) ++ skL 1) ++ skH) ++ skT) ++ skF) ++ skS) S5) := hD
  refine lv_aload_n (k := 0) hx hb (show decode cX7_init 63 = .ok (.aload_n 0, 1) from by decide +kernel) rfl (lv_at hl 0 rfl) ?_
  refine ct_new (X := [(h0, .inr (7, [.ref q1, .ref q2, .ref q3, .ref q4, .ref q5, .null, .int 0, .int 0, .int 0, .int 0, .int 0, .long 0, .long 0]))]) (pl := sp_wz g ad5 1 (((((([] : List sp_C) ++ skL 1) ++ skH) ++ skT) ++ skF) ++ skS) S5) (ci := 3) (C' := RX3) (T := TX3) (N := 4) (fs := [.null, .null, .null, .null]) C hP hD hS rfl iX3 tyX3 tyX3_ok cq_292 cq_293 cq_83 (fun j hj => by rcases (show j = 0 ∨ j = 1 ∨ j = 2 ∨ j = 3 by omega) with rfl | rfl | rfl | rfl <;> rfl) (Nat.le_of_ble_eq_true rfl) (Nat.le_of_ble_eq_true rfl) (show decode cX7_init 64 = .ok (.new 46, 3) from by decide +kernel) (show decode cX7_init 67 = .ok (.dup, 1) from by decide +kernel) (fun q6 H hq6 hP hD hS => ?_)
  refine lv_aload_n (k := 0) hx hb (show decode cX7_init 68 = .ok (.aload_n 0, 1) from by decide +kernel) rfl (lv_at hl 0 rfl) ?_
  refine ct_get (ci := 7) (T := TX7) (N := 13) (v := .ref q1) C rfl iX7 hP 0 (by decide) cq_312 rfl rfl (show decode cX7_init 69 = .ok (.getfield 12, 3) from by decide +kernel) ?_
  refine lv_aload_n (k := 0) hx hb (show decode cX7_init 72 = .ok (.aload_n 0, 1) from by decide +kernel) rfl (lv_at hl 0 rfl) ?_
  refine ct_get (ci := 7) (T := TX7) (N := 13) (v := .ref q5) C rfl iX7 hP 4 (by decide) cq_316 rfl rfl (show decode cX7_init 73 = .ok (.getfield 42, 3) from by decide +kernel) ?_
  refine ct_callI (X := [(h0, .inr (7, [.ref q1, .ref q2, .ref q3, .ref q4, .ref q5, .null, .int 0, .int 0, .int 0, .int 0, .int 0, .long 0, .long 0]))]) (pl := sp_wz g ad5 1 (((((([] : List sp_C) ++ skL 1) ++ skH) ++ skT) ++ skF) ++ skS) S5) (b := 84) (sk := skP) (rest := [.ref q6, .ref h0]) C (ct_runI (X := [(h0, .inr (7, [.ref q1, .ref q2, .ref q3, .ref q4, .ref q5, .null, .int 0, .int 0, .int 0, .int 0, .int 0, .long 0, .long 0]))]) (pl := sp_wz g ad5 1 (((((([] : List sp_C) ++ skL 1) ++ skH) ++ skT) ++ skF) ++ skS) S5) (n := 2) (ex := [.ref q1, .ref q5]) (rest := [.ref q6, .ref h0]) (ad := ad5) (S := S5) C c_passage ⟨by rw [a5_1, a5_72], zr_of hzr heq5 (by omega) (by decide)⟩ hq6 hP hS cq_296 cq_294 cq_295 cq_83 rfl (by decide +kernel) ⟨(Nat.le_of_ble_eq_true rfl), (Nat.le_of_ble_eq_true rfl)⟩ rfl hl.1 rfl (Nat.le_of_ble_eq_true rfl) (show decode cX7_init 76 = .ok (.invokespecial 48, 3) from by decide +kernel) ⟨(Nat.le_of_ble_eq_true rfl), (Nat.le_of_ble_eq_true rfl)⟩) hP hD hS [1] [0] rfl rfl (by decide) (by decide) (fun u H locs u1 u2 u3 u4 hP hD hS => ?_)
  obtain ⟨ad6, S6⟩ := u
  have a6_84 : ad6 84 = q6 := u1
  have em := sp_wz_more (g := g) (b0 := 1) (pre := (((((([] : List sp_C) ++ skL 1) ++ skH) ++ skT) ++ skF) ++ skS)) (sk := skP) (S := S5) (ad := ad5) (u := (ad6, S6)) (b := 84) rfl rf5 u2 u3
  rw [em] at hP hD
  have hout6' : ∀ i, i < 84 ∨ 87 ≤ i → ad6 i = ad5 i := u2
  have heq6' : eqOff (fun a => 84 ≤ a ∧ a < 87) S5 S6 := u3
  have a6_0 : ad6 0 = h0 := (hout6' 0 (by omega)).trans a5_0
  have a6_1 : ad6 1 = q1 := (hout6' 1 (by omega)).trans a5_1
  have a6_9 : ad6 9 = q2 := (hout6' 9 (by omega)).trans a5_9
  have a6_59 : ad6 59 = q3 := (hout6' 59 (by omega)).trans a5_59
  have a6_69 : ad6 69 = q4 := (hout6' 69 (by omega)).trans a5_69
  have a6_72 : ad6 72 = q5 := (hout6' 72 (by omega)).trans a5_72
  have hout6 : ∀ i, 87 ≤ i → ad6 i = ad i := fun i hi => (hout6' i (by omega)).trans (hout5 i hi)
  have heq6 : eqOff (fun a => 1 ≤ a ∧ a < 87) S S6 := (heq5.tr heq6').mono (by omega)
  have hlv6 : lv S6 1 = fst0 := (heq6'.lv (by omega)).trans hlv5
  have h9_6 : S6.1 9 = (fun _ => 0) := by rw [(heq6' 9 (by omega)).1]; exact h9_5
  have h59_6 : S6.1 59 = (fun _ => 0) := by rw [(heq6' 59 (by omega)).1]; exact h59_5
  have h69_6 : S6.1 69 = (fun _ => 0) := by rw [(heq6' 69 (by omega)).1]; exact h69_5
  have rf6 : rfB ((((((([] : List sp_C) ++ skL 1) ++ skH) ++ skT) ++ skF) ++ skS) ++ skP) 87 := rfB.app (rf5.up (by omega)) skP_rf
  refine ct_putF (ci := 7) (T := TX7) (N := 13) (v := .ref q6) (ty := .object "SpanSpotter$Passage") C hin rfl iX7 tyX7 tyX7_ok nmX7 hP hD hS 5 (by decide) cq_317 rfl rfl (by decide +kernel) rfl rfl (Nat.le_of_ble_eq_true rfl) (show decode cX7_init 79 = .ok (.putfield 51, 3) from by decide +kernel) (fun H locs hP hD hS => ?_)
  have hP : va_P D vwCl ([(h0, .inr (7, [.ref q1, .ref q2, .ref q3, .ref q4, .ref q5, .ref q6, .int 0, .int 0, .int 0, .int 0, .int 0, .long 0, .long 0]))] ++ sp_wz g ad6 1 ((((((([] : List sp_C) ++ skL 1) ++ skH) ++ skT) ++ skF) ++ skS) ++ skP) S6) H := hP
  have hD : va_D A ([(h0, .inr (7, [.ref q1, .ref q2, .ref q3, .ref q4, .ref q5, .ref q6, .int 0, .int 0, .int 0, .int 0, .int 0, .long 0, .long 0]))] ++ sp_wz g ad6 1 ((((((([] : List sp_C) ++ skL 1) ++ skH) ++ skT) ++ skF) ++ skS) ++ skP) S6) := hD
  refine lv_aload_n (k := 0) hx hb (show decode cX7_init 82 = .ok (.aload_n 0, 1) from by decide +kernel) rfl (lv_at hl 0 rfl) ?_
  refine lv_lconst (n := 1) (v := 1) hx hb (show decode cX7_init 83 = .ok (.lconst 1, 1) from by decide +kernel) rfl ?_
  refine ct_put (ci := 7) (T := TX7) (N := 13) (v := .long 1) (ty := .long) C rfl iX7 tyX7 tyX7_ok nmX7 hP hD hS 12 (by decide) cq_324 rfl rfl (by decide +kernel) rfl rfl (Nat.le_of_ble_eq_true rfl) (show decode cX7_init 84 = .ok (.putfield 55, 3) from by decide +kernel) (fun H locs hP hD hS => ?_)
  have hP : va_P D vwCl ([(h0, .inr (7, [.ref q1, .ref q2, .ref q3, .ref q4, .ref q5, .ref q6, .int 0, .int 0, .int 0, .int 0, .int 0, .long 0, .long 1]))] ++ sp_wz g ad6 1 sk71 S6) H := hP
  have hD : va_D A ([(h0, .inr (7, [.ref q1, .ref q2, .ref q3, .ref q4, .ref q5, .ref q6, .int 0, .int 0, .int 0, .int 0, .int 0, .long 0, .long 1]))] ++ sp_wz g ad6 1 sk71 S6) := hD
  have z0 := heq6 0 (by omega)
  have zz := hzr 0 (by omega) (by omega)
  have k1 : S6.1 0 = (fun _ => 0) := by rw [z0.1]; exact zz.1
  have k2 : S6.2.1 0 = (fun _ => 0) := by rw [z0.2.1]; exact zz.2.1
  have eJ : eqOff (fun a => a = 0) S6 (sp_uJ S6 0 12 1) := eqOff.rf.uJ rfl
  have j2 : (sp_uJ S6 0 12 1).2.1 0 = vp_updL (fun _ => 0) 12 1 := by
    show va_up S6.2.1 0 (vp_updL (S6.2.1 0) 12 1) 0 = _
    rw [k2]
    rfl
  have ew : sp_wz g ad6 0 sk7 (sp_uJ S6 0 12 1) = [(h0, .inr (7, [.ref q1, .ref q2, .ref q3, .ref q4, .ref q5, .ref q6, .int 0, .int 0, .int 0, .int 0, .int 0, .long 0, .long 1]))] ++ sp_wz g ad6 1 sk71 S6 := by
    unfold sk7
    rw [sp_wz_app]
    have e2 : sp_wz g ad6 (0 + sk70.length) sk71 (sp_uJ S6 0 12 1) = sp_wz g ad6 1 sk71 S6 := sp_wz_eq (fun _ _ => rfl) (fun _ _ _ _ => rfl) (fun i _ => by
      obtain ⟨x1, x2, x3⟩ := eJ (1 + i) (by omega)
      exact ⟨x1.symm, x2.symm, x3.symm⟩)
    refine Eq.trans (congrArg (fun x => sp_wz g ad6 0 sk70 (sp_uJ S6 0 12 1) ++ x) e2) (congrArg (fun x => x ++ sp_wz g ad6 1 sk71 S6) ?_)
    show [(ad6 0, (.inr (7, [.ref (ad6 1), .ref (ad6 9), .ref (ad6 59), .ref (ad6 69), .ref (ad6 72), .ref (ad6 84), .int ((sp_uJ S6 0 12 1).1 0 6), .int ((sp_uJ S6 0 12 1).1 0 7), .int ((sp_uJ S6 0 12 1).1 0 8), .int ((sp_uJ S6 0 12 1).1 0 9), .int ((sp_uJ S6 0 12 1).1 0 10), .long ((sp_uJ S6 0 12 1).2.1 0 11), .long ((sp_uJ S6 0 12 1).2.1 0 12)]) : va_E))] = _
    rw [j2, show (sp_uJ S6 0 12 1).1 0 = (fun _ => 0) from k1, a6_0, a6_1, a6_9, a6_59, a6_69, a6_72, a6_84]
    rfl
  refine ct_end (b := 0) (sk := sk7) C hr hlk (ad6, sp_uJ S6 0 12 1) a6_0 (fun i hi => ?_) ((heq6.tr eJ).mono (fun a h => ?_)) ⟨(eJ.lv (by omega)).trans hlv6, k1, ⟨by rw [j2]; rfl, by rw [j2]; rfl⟩, h9_6, h59_6, h69_6⟩ ?_ ?_ hS (show decode cX7_init 87 = .ok (.return_, 1) from by decide +kernel) (Nat.le_of_ble_eq_true rfl) (Nat.le_of_ble_eq_true rfl)
  · have hi' : i < 0 ∨ 0 + 87 ≤ i := hi
    exact hout6 i (by omega)
  · have : sk7.length = 87 := rfl
    omega
  · show va_P D vwCl (sp_wz g ad6 0 sk7 (sp_uJ S6 0 12 1)) _
    rw [ew]
    exact hP
  · show va_D A (sp_wz g ad6 0 sk7 (sp_uJ S6 0 12 1))
    rw [ew]
    exact hD
