/-! a call of the law, on both objects -/
def lwC (p : Program) (s : State) (m : MethodId) (c : Code) (b L : Nat) (xs : Nat → Int32) (D : va_G) (g : sp_G) (st ad : Nat → Nat) (A : Nat → Prop) : Prop := ctX p s m #[Value.ref b] c code 4 RL D g s.heap.size st A ∧ (va_X b L xs s s.heap ∧ b < s.heap.size ∧ ¬ A b) ∧ ∀ i, i < 5 → ad (1000 + i) = st i
section LW
variable {p : Program} {l : Launch} {e : Env} {s : State} {m : MethodId} {below : List Frame} {meth : Method} {c : Code} {H : Heap} {locs : List Loc} {cells slots : Nat} {Qw : State → Prop} {pc : Nat} {ls : Array Slot} {rest : List Value} {D : va_G} {g : sp_G} {A : Nat → Prop} {b L : Nat} {xs : Nat → Int32} {st ad : Nat → Nat} {S : sp_M} {i : Nat}
theorem lw_call {y : MethodName} {cc' : ByteArray} {nL' : Nat} {ret' : Option FieldType} {rf rl : Nat} {M : sp_W → List Value → sp_M → sp_R → Prop} {index n ci a : Nat} {as st0 : List Value} {Q' : sp_R} {Cn : String} {T : u_T} {N : Nat} (C : lwC p s m c b L xs D g st ad A) (hM : sp_Mt y cc' nL' ret' rf rl M) (hk : M sp_w (.ref a :: as) S Q') (hcl : vwCl[ci]? = some (Cn, T, N)) (hc : sp_cl sp_w.1 a = some ci) (qc : Cond.code y cc' nL' ret' ∈ sp_tbl) (q1 : Cond.methodLink RL index y ∈ sp_tbl) (q2 : Cond.instanceMethod y ∈ sp_tbl) (q3 : Cond.selects Cn y y ∈ sp_tbl) (q4 : Cond.initialized y.cls ∈ sp_tbl) (hd : y.cls ≠ "java/lang/invoke/MethodHandle" ∧ y.cls ≠ "java/lang/invoke/VarHandle" ∧ (parseMethodDescriptor y.desc).map (fun d => d.parameters.length) = some n) (hR : rf + 1 ≤ 12 ∧ 8 + (nL' + 11) + rl ≤ 492) (hP : va_P D vwCl (sp_ws g ad sp_w.1 S) H) (hD : va_D A (sp_ws g ad sp_w.1 S)) (hS : va_S A s.heap H locs) (hcs : cells ≤ 600000 ∧ slots ≤ 7302250) (hn : as.length = n) (hsize : ls.size = 4) (hst : st0 = (as.map (sp_cv ad)).reverse ++ .ref (ad a) :: rest) (hw : (rest.map fun v => v.category).sum ≤ 8) (d : decode code pc = .ok (.invokevirtual index, 3))
    (kk : ∀ (rv : Option Value) (S' : sp_M) (H1 : Heap) (locs1 : List Loc), Q' rv S' → va_P D vwCl (sp_ws g ad sp_w.1 S') H1 → va_D A (sp_ws g ad sp_w.1 S') → va_S A s.heap H1 locs1 → W p l e room_1 s m #[Value.ref b] below meth c H1 locs1 cells slots Qw (F0 m (pc + 3) ls ((rv.map (sp_cv ad)).toList ++ rest))) : W p l e room_1 s m #[Value.ref b] below meth c H locs cells slots Qw (F0 m pc ls st0) := by
  obtain ⟨C0, -, had⟩ := C
  obtain ⟨⟨hx, hb, hml, hown⟩, hts, hK, hRO, hz, hA, hzs⟩ := id C0
  have hAA := sp_A_in hD
  have hge : ∀ i, i < sp_w.1.length → s.heap.size ≤ ad i := fun i hi => Classical.not_not.mp (fun hn => hz _ hn (hAA _ ⟨i, hi, rfl⟩))
  have hPr := ct_preS (w := sp_w) (as := .ref a :: as) C0 rfl had hge hP hD hS
  obtain ⟨fs, hfs⟩ := sp_cl_spec hc
  refine ct_call (w := sp_w) (ad := ad) (va_runV (b := ad a) (As := as.map (sp_cv ad)) (rest := rest) (Ts := sp_tbl) (C := Cn) ⟨hx, hb, hml, hown, hts⟩ (hM l D g ad sp_w (.ref a :: as) S Q' hk) ⟨callB_of (Ts := sp_tbl) n hts (sp_goodIn qc (fun _ h => h)) rfl rfl rfl (hts _ q4) (hts _ q1) hd hR, hts _ q2, hts _ q3⟩ ⟨hPr.1, va_recv hK hP hcl (sp_ws_at hfs), hPr.2⟩ rfl (by rw [List.length_map]; exact hn) hsize hst (lv_room hw) d hcs) hS hAA (fun rv S' H1 locs1 hq hP1 hS1 => ?_)
  exact kk rv S' H1 locs1 hq hP1 (sp_D_any hD) hS1
end LW

section LW
variable {p : Program} {l : Launch} {e : Env} {s : State} {m : MethodId} {below : List Frame} {meth : Method} {c : Code} {H : Heap} {locs : List Loc} {cells slots : Nat} {Qw : State → Prop} {pc : Nat} {ls : Array Slot} {rest : List Value} {D : va_G} {g : sp_G} {A : Nat → Prop} {b L : Nat} {xs : Nat → Int32} {st ad : Nat → Nat} {S : sp_M} {i : Nat}
theorem law_type (C : lwC p s m c b L xs D g st ad A) (hi : i + 4 ≤ L) (hL : L ≤ 2048) (hl : lv_has ls 4 [(3, .int (nI i)), (2, .ref (ad 87)), (1, .ref (ad 0)), (0, .ref b)]) (gI : Inv S) (hP : va_P D vwCl (sp_ws g ad sp_w.1 S) H) (hD : va_D A (sp_ws g ad sp_w.1 S)) (hS : va_S A s.heap H locs) (hcs : cells ≤ 600000 ∧ slots ≤ 7302250) (K : ∀ (S' : sp_M) (H' : Heap) (locs' : List Loc), Inv S' → va_P D vwCl (sp_ws g ad sp_w.1 S') H' → va_D A (sp_ws g ad sp_w.1 S') → va_S A s.heap H' locs' → W p l e room_1 s m #[Value.ref b] below meth c H' locs' cells slots Qw (F0 m 719 ls [])) : W p l e room_1 s m #[Value.ref b] below meth c H locs cells slots Qw (F0 m 144 ls []) := by
  obtain ⟨N, g0⟩ := gI
  obtain ⟨⟨⟨hx, hb, hml, hown⟩, -⟩, ⟨hX, hbl, hbA⟩, had⟩ := id C
  have v1 : vp_in (nI i + 1) L := by rw [show nI i + 1 = nI (i + 1) from nI_add i 1]; exact in_n (by omega) (by omega)
  refine lv_aload_n (k := 1) hx hb (show decode code 144 = .ok (.aload_n 1, 1) from by decide +kernel) rfl (lv_at hl 2 rfl) ?_
  refine lv_aload_n (k := 0) hx hb (show decode code 145 = .ok (.aload_n 0, 1) from by decide +kernel) rfl (lv_at hl 3 rfl) ?_
  refine lv_iload_n (k := 3) hx hb (show decode code 146 = .ok (.iload_n 3, 1) from by decide +kernel) rfl (lv_at hl 0 rfl) ?_
  refine lv_iconst (n := 1) (v := 1) hx hb (show decode code 147 = .ok (.iconst 1, 1) from by decide +kernel) (by decide) ?_
  refine lv_iadd hx hb (show decode code 148 = .ok (.iadd, 1) from by decide +kernel) ?_
  refine va_sld hx hb hX hbl hbA hS v1 (show decode code 149 = .ok (.iaload, 1) from by decide +kernel) ?_
  refine lw_call (n := 1) (as := [.int (xs (nI i + 1).toNatClampNeg)]) (rest := []) C mtX7_type (iX7_type (G_type g0)) rfl cl_0 cq_355 cq_352 cq_353 cq_354 cq_76 (by decide +kernel) ⟨(Nat.le_of_ble_eq_true rfl), (Nat.le_of_ble_eq_true rfl)⟩ hP hD hS hcs rfl hl.1 rfl (Nat.le_of_ble_eq_true rfl) (show decode code 150 = .ok (.invokevirtual 13, 3) from by decide +kernel) (fun rv S1 H locs hq hP hD hS => ?_)
  obtain ⟨hq, x, rfl⟩ := hq
  refine lv_aload_n (k := 2) hx hb (show decode code 153 = .ok (.aload_n 2, 1) from by decide +kernel) rfl (lv_at hl 1 rfl) ?_
  refine lv_aload_n (k := 0) hx hb (show decode code 154 = .ok (.aload_n 0, 1) from by decide +kernel) rfl (lv_at hl 3 rfl) ?_
  refine lv_iload_n (k := 3) hx hb (show decode code 155 = .ok (.iload_n 3, 1) from by decide +kernel) rfl (lv_at hl 0 rfl) ?_
  refine lv_iconst (n := 1) (v := 1) hx hb (show decode code 156 = .ok (.iconst 1, 1) from by decide +kernel) (by decide) ?_
  refine lv_iadd hx hb (show decode code 157 = .ok (.iadd, 1) from by decide +kernel) ?_
  refine va_sld hx hb hX hbl hbA hS v1 (show decode code 158 = .ok (.iaload, 1) from by decide +kernel) ?_
  refine lw_call (n := 1) (as := [.int (xs (nI i + 1).toNatClampNeg)]) (rest := [.int x]) C mtX8_type hq rfl cl_87 cq_904 cq_901 cq_902 cq_903 cq_84 (by decide +kernel) ⟨(Nat.le_of_ble_eq_true rfl), (Nat.le_of_ble_eq_true rfl)⟩ hP hD hS hcs rfl hl.1 rfl (Nat.le_of_ble_eq_true rfl) (show decode code 159 = .ok (.invokevirtual 17, 3) from by decide +kernel) (fun rv S2 H locs hq2 hP hD hS => ?_)
  obtain ⟨rfl, gI2⟩ := hq2
  refine lv_icmp_eq (tgt := 719) hx hb (show decode code 162 = .ok (.if_icmp .eq 557, 3) from by decide +kernel) (by decide) (fun _ => K S2 H locs gI2 hP hD hS) (fun q => absurd rfl q)
theorem law_clear (C : lwC p s m c b L xs D g st ad A) (hi : i + 4 ≤ L) (hL : L ≤ 2048) (hl : lv_has ls 4 [(3, .int (nI i)), (2, .ref (ad 87)), (1, .ref (ad 0)), (0, .ref b)]) (gI : Inv S) (hP : va_P D vwCl (sp_ws g ad sp_w.1 S) H) (hD : va_D A (sp_ws g ad sp_w.1 S)) (hS : va_S A s.heap H locs) (hcs : cells ≤ 600000 ∧ slots ≤ 7302250) (K : ∀ (S' : sp_M) (H' : Heap) (locs' : List Loc), Inv S' → va_P D vwCl (sp_ws g ad sp_w.1 S') H' → va_D A (sp_ws g ad sp_w.1 S') → va_S A s.heap H' locs' → W p l e room_1 s m #[Value.ref b] below meth c H' locs' cells slots Qw (F0 m 719 ls [])) : W p l e room_1 s m #[Value.ref b] below meth c H locs cells slots Qw (F0 m 167 ls []) := by
  obtain ⟨N, g0⟩ := gI
  obtain ⟨⟨⟨hx, hb, hml, hown⟩, -⟩, ⟨hX, hbl, hbA⟩, had⟩ := id C
  refine lv_aload_n (k := 1) hx hb (show decode code 167 = .ok (.aload_n 1, 1) from by decide +kernel) rfl (lv_at hl 2 rfl) ?_
  refine lw_call (n := 0) (as := []) (rest := []) C mtX7_clear (iX7_clear (G_clear g0)) rfl cl_0 cq_370 cq_367 cq_368 cq_369 cq_76 (by decide +kernel) ⟨(Nat.le_of_ble_eq_true rfl), (Nat.le_of_ble_eq_true rfl)⟩ hP hD hS hcs rfl hl.1 rfl (Nat.le_of_ble_eq_true rfl) (show decode code 168 = .ok (.invokevirtual 18, 3) from by decide +kernel) (fun rv S1 H locs hq hP hD hS => ?_)
  obtain ⟨hq, x, rfl⟩ := hq
  refine lv_aload_n (k := 2) hx hb (show decode code 171 = .ok (.aload_n 2, 1) from by decide +kernel) rfl (lv_at hl 1 rfl) ?_
  refine lw_call (n := 0) (as := []) (rest := [.int x]) C mtX8_clear hq rfl cl_87 cq_912 cq_909 cq_910 cq_911 cq_84 (by decide +kernel) ⟨(Nat.le_of_ble_eq_true rfl), (Nat.le_of_ble_eq_true rfl)⟩ hP hD hS hcs rfl hl.1 rfl (Nat.le_of_ble_eq_true rfl) (show decode code 172 = .ok (.invokevirtual 22, 3) from by decide +kernel) (fun rv S2 H locs hq2 hP hD hS => ?_)
  obtain ⟨rfl, gI2⟩ := hq2
  refine lv_icmp_eq (tgt := 719) hx hb (show decode code 175 = .ok (.if_icmp .eq 544, 3) from by decide +kernel) (by decide) (fun _ => K S2 H locs gI2 hP hD hS) (fun q => absurd rfl q)
theorem law_reads (C : lwC p s m c b L xs D g st ad A) (hi : i + 4 ≤ L) (hL : L ≤ 2048) (hl : lv_has ls 4 [(3, .int (nI i)), (2, .ref (ad 87)), (1, .ref (ad 0)), (0, .ref b)]) (gI : Inv S) (hP : va_P D vwCl (sp_ws g ad sp_w.1 S) H) (hD : va_D A (sp_ws g ad sp_w.1 S)) (hS : va_S A s.heap H locs) (hcs : cells ≤ 600000 ∧ slots ≤ 7302250) (K : ∀ (S' : sp_M) (H' : Heap) (locs' : List Loc), Inv S' → va_P D vwCl (sp_ws g ad sp_w.1 S') H' → va_D A (sp_ws g ad sp_w.1 S') → va_S A s.heap H' locs' → W p l e room_1 s m #[Value.ref b] below meth c H' locs' cells slots Qw (F0 m 719 ls [])) : W p l e room_1 s m #[Value.ref b] below meth c H locs cells slots Qw (F0 m 180 ls []) := by
  obtain ⟨N, g0⟩ := gI
  obtain ⟨⟨⟨hx, hb, hml, hown⟩, -⟩, ⟨hX, hbl, hbA⟩, had⟩ := id C
  refine lv_aload_n (k := 1) hx hb (show decode code 180 = .ok (.aload_n 1, 1) from by decide +kernel) rfl (lv_at hl 2 rfl) ?_
  refine lw_call (n := 0) (as := []) (rest := []) C mtX7_reads (iX7_reads (G_reads g0)) rfl cl_0 cq_374 cq_371 cq_372 cq_373 cq_76 (by decide +kernel) ⟨(Nat.le_of_ble_eq_true rfl), (Nat.le_of_ble_eq_true rfl)⟩ hP hD hS hcs rfl hl.1 rfl (Nat.le_of_ble_eq_true rfl) (show decode code 181 = .ok (.invokevirtual 23, 3) from by decide +kernel) (fun rv S1 H locs hq hP hD hS => ?_)
  obtain ⟨hq, x, rfl⟩ := hq
  refine lv_aload_n (k := 2) hx hb (show decode code 184 = .ok (.aload_n 2, 1) from by decide +kernel) rfl (lv_at hl 1 rfl) ?_
  refine lw_call (n := 0) (as := []) (rest := [.int x]) C mtX8_reads hq rfl cl_87 cq_916 cq_913 cq_914 cq_915 cq_84 (by decide +kernel) ⟨(Nat.le_of_ble_eq_true rfl), (Nat.le_of_ble_eq_true rfl)⟩ hP hD hS hcs rfl hl.1 rfl (Nat.le_of_ble_eq_true rfl) (show decode code 185 = .ok (.invokevirtual 26, 3) from by decide +kernel) (fun rv S2 H locs hq2 hP hD hS => ?_)
  obtain ⟨rfl, gI2⟩ := hq2
  refine lv_icmp_eq (tgt := 719) hx hb (show decode code 188 = .ok (.if_icmp .eq 531, 3) from by decide +kernel) (by decide) (fun _ => K S2 H locs gI2 hP hD hS) (fun q => absurd rfl q)
theorem law_place (C : lwC p s m c b L xs D g st ad A) (hi : i + 4 ≤ L) (hL : L ≤ 2048) (hl : lv_has ls 4 [(3, .int (nI i)), (2, .ref (ad 87)), (1, .ref (ad 0)), (0, .ref b)]) (gI : Inv S) (hP : va_P D vwCl (sp_ws g ad sp_w.1 S) H) (hD : va_D A (sp_ws g ad sp_w.1 S)) (hS : va_S A s.heap H locs) (hcs : cells ≤ 600000 ∧ slots ≤ 7302250) (K : ∀ (S' : sp_M) (H' : Heap) (locs' : List Loc), Inv S' → va_P D vwCl (sp_ws g ad sp_w.1 S') H' → va_D A (sp_ws g ad sp_w.1 S') → va_S A s.heap H' locs' → W p l e room_1 s m #[Value.ref b] below meth c H' locs' cells slots Qw (F0 m 719 ls [])) : W p l e room_1 s m #[Value.ref b] below meth c H locs cells slots Qw (F0 m 193 ls []) := by
  obtain ⟨N, g0⟩ := gI
  obtain ⟨⟨⟨hx, hb, hml, hown⟩, -⟩, ⟨hX, hbl, hbA⟩, had⟩ := id C
  have v1 : vp_in (nI i + 1) L := by rw [show nI i + 1 = nI (i + 1) from nI_add i 1]; exact in_n (by omega) (by omega)
  have v2 : vp_in (nI i + 2) L := by rw [show nI i + 2 = nI (i + 2) from nI_add i 2]; exact in_n (by omega) (by omega)
  refine lv_aload_n (k := 1) hx hb (show decode code 193 = .ok (.aload_n 1, 1) from by decide +kernel) rfl (lv_at hl 2 rfl) ?_
  refine lv_aload_n (k := 0) hx hb (show decode code 194 = .ok (.aload_n 0, 1) from by decide +kernel) rfl (lv_at hl 3 rfl) ?_
  refine lv_iload_n (k := 3) hx hb (show decode code 195 = .ok (.iload_n 3, 1) from by decide +kernel) rfl (lv_at hl 0 rfl) ?_
  refine lv_iconst (n := 1) (v := 1) hx hb (show decode code 196 = .ok (.iconst 1, 1) from by decide +kernel) (by decide) ?_
  refine lv_iadd hx hb (show decode code 197 = .ok (.iadd, 1) from by decide +kernel) ?_
  refine va_sld hx hb hX hbl hbA hS v1 (show decode code 198 = .ok (.iaload, 1) from by decide +kernel) ?_
  refine lv_aload_n (k := 0) hx hb (show decode code 199 = .ok (.aload_n 0, 1) from by decide +kernel) rfl (lv_at hl 3 rfl) ?_
  refine lv_iload_n (k := 3) hx hb (show decode code 200 = .ok (.iload_n 3, 1) from by decide +kernel) rfl (lv_at hl 0 rfl) ?_
  refine lv_iconst (n := 2) (v := 2) hx hb (show decode code 201 = .ok (.iconst 2, 1) from by decide +kernel) (by decide) ?_
  refine lv_iadd hx hb (show decode code 202 = .ok (.iadd, 1) from by decide +kernel) ?_
  refine va_sld hx hb hX hbl hbA hS v2 (show decode code 203 = .ok (.iaload, 1) from by decide +kernel) ?_
  refine lw_call (n := 2) (as := [.int (xs (nI i + 1).toNatClampNeg), .int (xs (nI i + 2).toNatClampNeg)]) (rest := []) C mtX7_place (iX7_place (G_place g0)) rfl cl_0 cq_446 cq_443 cq_444 cq_445 cq_76 (by decide +kernel) ⟨(Nat.le_of_ble_eq_true rfl), (Nat.le_of_ble_eq_true rfl)⟩ hP hD hS hcs rfl hl.1 rfl (Nat.le_of_ble_eq_true rfl) (show decode code 204 = .ok (.invokevirtual 27, 3) from by decide +kernel) (fun rv S1 H locs hq hP hD hS => ?_)
  obtain ⟨hq, x, rfl⟩ := hq
  refine lv_aload_n (k := 2) hx hb (show decode code 207 = .ok (.aload_n 2, 1) from by decide +kernel) rfl (lv_at hl 1 rfl) ?_
  refine lv_aload_n (k := 0) hx hb (show decode code 208 = .ok (.aload_n 0, 1) from by decide +kernel) rfl (lv_at hl 3 rfl) ?_
  refine lv_iload_n (k := 3) hx hb (show decode code 209 = .ok (.iload_n 3, 1) from by decide +kernel) rfl (lv_at hl 0 rfl) ?_
  refine lv_iconst (n := 1) (v := 1) hx hb (show decode code 210 = .ok (.iconst 1, 1) from by decide +kernel) (by decide) ?_
  refine lv_iadd hx hb (show decode code 211 = .ok (.iadd, 1) from by decide +kernel) ?_
  refine va_sld hx hb hX hbl hbA hS v1 (show decode code 212 = .ok (.iaload, 1) from by decide +kernel) ?_
  refine lv_aload_n (k := 0) hx hb (show decode code 213 = .ok (.aload_n 0, 1) from by decide +kernel) rfl (lv_at hl 3 rfl) ?_
  refine lv_iload_n (k := 3) hx hb (show decode code 214 = .ok (.iload_n 3, 1) from by decide +kernel) rfl (lv_at hl 0 rfl) ?_
  refine lv_iconst (n := 2) (v := 2) hx hb (show decode code 215 = .ok (.iconst 2, 1) from by decide +kernel) (by decide) ?_
  refine lv_iadd hx hb (show decode code 216 = .ok (.iadd, 1) from by decide +kernel) ?_
  refine va_sld hx hb hX hbl hbA hS v2 (show decode code 217 = .ok (.iaload, 1) from by decide +kernel) ?_
  refine lw_call (n := 2) (as := [.int (xs (nI i + 1).toNatClampNeg), .int (xs (nI i + 2).toNatClampNeg)]) (rest := [.int x]) C mtX8_place hq rfl cl_87 cq_964 cq_961 cq_962 cq_963 cq_84 (by decide +kernel) ⟨(Nat.le_of_ble_eq_true rfl), (Nat.le_of_ble_eq_true rfl)⟩ hP hD hS hcs rfl hl.1 rfl (Nat.le_of_ble_eq_true rfl) (show decode code 218 = .ok (.invokevirtual 31, 3) from by decide +kernel) (fun rv S2 H locs hq2 hP hD hS => ?_)
  obtain ⟨rfl, gI2⟩ := hq2
  refine lv_icmp_eq (tgt := 719) hx hb (show decode code 221 = .ok (.if_icmp .eq 498, 3) from by decide +kernel) (by decide) (fun _ => K S2 H locs gI2 hP hD hS) (fun q => absurd rfl q)
theorem law_lays (C : lwC p s m c b L xs D g st ad A) (hi : i + 4 ≤ L) (hL : L ≤ 2048) (hl : lv_has ls 4 [(3, .int (nI i)), (2, .ref (ad 87)), (1, .ref (ad 0)), (0, .ref b)]) (gI : Inv S) (hP : va_P D vwCl (sp_ws g ad sp_w.1 S) H) (hD : va_D A (sp_ws g ad sp_w.1 S)) (hS : va_S A s.heap H locs) (hcs : cells ≤ 600000 ∧ slots ≤ 7302250) (K : ∀ (S' : sp_M) (H' : Heap) (locs' : List Loc), Inv S' → va_P D vwCl (sp_ws g ad sp_w.1 S') H' → va_D A (sp_ws g ad sp_w.1 S') → va_S A s.heap H' locs' → W p l e room_1 s m #[Value.ref b] below meth c H' locs' cells slots Qw (F0 m 719 ls [])) : W p l e room_1 s m #[Value.ref b] below meth c H locs cells slots Qw (F0 m 226 ls []) := by
  obtain ⟨N, g0⟩ := gI
  obtain ⟨⟨⟨hx, hb, hml, hown⟩, -⟩, ⟨hX, hbl, hbA⟩, had⟩ := id C
  have v1 : vp_in (nI i + 1) L := by rw [show nI i + 1 = nI (i + 1) from nI_add i 1]; exact in_n (by omega) (by omega)
  have v2 : vp_in (nI i + 2) L := by rw [show nI i + 2 = nI (i + 2) from nI_add i 2]; exact in_n (by omega) (by omega)
  have v3 : vp_in (nI i + 3) L := by rw [show nI i + 3 = nI (i + 3) from nI_add i 3]; exact in_n (by omega) (by omega)
  refine lv_aload_n (k := 1) hx hb (show decode code 226 = .ok (.aload_n 1, 1) from by decide +kernel) rfl (lv_at hl 2 rfl) ?_
  refine lv_aload_n (k := 0) hx hb (show decode code 227 = .ok (.aload_n 0, 1) from by decide +kernel) rfl (lv_at hl 3 rfl) ?_
  refine lv_iload_n (k := 3) hx hb (show decode code 228 = .ok (.iload_n 3, 1) from by decide +kernel) rfl (lv_at hl 0 rfl) ?_
  refine lv_iconst (n := 1) (v := 1) hx hb (show decode code 229 = .ok (.iconst 1, 1) from by decide +kernel) (by decide) ?_
  refine lv_iadd hx hb (show decode code 230 = .ok (.iadd, 1) from by decide +kernel) ?_
  refine va_sld hx hb hX hbl hbA hS v1 (show decode code 231 = .ok (.iaload, 1) from by decide +kernel) ?_
  refine lv_aload_n (k := 0) hx hb (show decode code 232 = .ok (.aload_n 0, 1) from by decide +kernel) rfl (lv_at hl 3 rfl) ?_
  refine lv_iload_n (k := 3) hx hb (show decode code 233 = .ok (.iload_n 3, 1) from by decide +kernel) rfl (lv_at hl 0 rfl) ?_
  refine lv_iconst (n := 2) (v := 2) hx hb (show decode code 234 = .ok (.iconst 2, 1) from by decide +kernel) (by decide) ?_
  refine lv_iadd hx hb (show decode code 235 = .ok (.iadd, 1) from by decide +kernel) ?_
  refine va_sld hx hb hX hbl hbA hS v2 (show decode code 236 = .ok (.iaload, 1) from by decide +kernel) ?_
  refine lv_aload_n (k := 0) hx hb (show decode code 237 = .ok (.aload_n 0, 1) from by decide +kernel) rfl (lv_at hl 3 rfl) ?_
  refine lv_iload_n (k := 3) hx hb (show decode code 238 = .ok (.iload_n 3, 1) from by decide +kernel) rfl (lv_at hl 0 rfl) ?_
  refine lv_iconst (n := 3) (v := 3) hx hb (show decode code 239 = .ok (.iconst 3, 1) from by decide +kernel) (by decide) ?_
  refine lv_iadd hx hb (show decode code 240 = .ok (.iadd, 1) from by decide +kernel) ?_
  refine va_sld hx hb hX hbl hbA hS v3 (show decode code 241 = .ok (.iaload, 1) from by decide +kernel) ?_
  refine lw_call (n := 3) (as := [.int (xs (nI i + 1).toNatClampNeg), .int (xs (nI i + 2).toNatClampNeg), .int (xs (nI i + 3).toNatClampNeg)]) (rest := []) C mtX7_lays (iX7_lays (G_lays g0)) rfl cl_0 cq_455 cq_452 cq_453 cq_454 cq_76 (by decide +kernel) ⟨(Nat.le_of_ble_eq_true rfl), (Nat.le_of_ble_eq_true rfl)⟩ hP hD hS hcs rfl hl.1 rfl (Nat.le_of_ble_eq_true rfl) (show decode code 242 = .ok (.invokevirtual 32, 3) from by decide +kernel) (fun rv S1 H locs hq hP hD hS => ?_)
  obtain ⟨hq, x, rfl⟩ := hq
  refine lv_aload_n (k := 2) hx hb (show decode code 245 = .ok (.aload_n 2, 1) from by decide +kernel) rfl (lv_at hl 1 rfl) ?_
  refine lv_aload_n (k := 0) hx hb (show decode code 246 = .ok (.aload_n 0, 1) from by decide +kernel) rfl (lv_at hl 3 rfl) ?_
  refine lv_iload_n (k := 3) hx hb (show decode code 247 = .ok (.iload_n 3, 1) from by decide +kernel) rfl (lv_at hl 0 rfl) ?_
  refine lv_iconst (n := 1) (v := 1) hx hb (show decode code 248 = .ok (.iconst 1, 1) from by decide +kernel) (by decide) ?_
  refine lv_iadd hx hb (show decode code 249 = .ok (.iadd, 1) from by decide +kernel) ?_
  refine va_sld hx hb hX hbl hbA hS v1 (show decode code 250 = .ok (.iaload, 1) from by decide +kernel) ?_
  refine lv_aload_n (k := 0) hx hb (show decode code 251 = .ok (.aload_n 0, 1) from by decide +kernel) rfl (lv_at hl 3 rfl) ?_
  refine lv_iload_n (k := 3) hx hb (show decode code 252 = .ok (.iload_n 3, 1) from by decide +kernel) rfl (lv_at hl 0 rfl) ?_
  refine lv_iconst (n := 2) (v := 2) hx hb (show decode code 253 = .ok (.iconst 2, 1) from by decide +kernel) (by decide) ?_
  refine lv_iadd hx hb (show decode code 254 = .ok (.iadd, 1) from by decide +kernel) ?_
  refine va_sld hx hb hX hbl hbA hS v2 (show decode code 255 = .ok (.iaload, 1) from by decide +kernel) ?_
  refine lv_aload_n (k := 0) hx hb (show decode code 256 = .ok (.aload_n 0, 1) from by decide +kernel) rfl (lv_at hl 3 rfl) ?_
  refine lv_iload_n (k := 3) hx hb (show decode code 257 = .ok (.iload_n 3, 1) from by decide +kernel) rfl (lv_at hl 0 rfl) ?_
  refine lv_iconst (n := 3) (v := 3) hx hb (show decode code 258 = .ok (.iconst 3, 1) from by decide +kernel) (by decide) ?_
  refine lv_iadd hx hb (show decode code 259 = .ok (.iadd, 1) from by decide +kernel) ?_
  refine va_sld hx hb hX hbl hbA hS v3 (show decode code 260 = .ok (.iaload, 1) from by decide +kernel) ?_
  refine lw_call (n := 3) (as := [.int (xs (nI i + 1).toNatClampNeg), .int (xs (nI i + 2).toNatClampNeg), .int (xs (nI i + 3).toNatClampNeg)]) (rest := [.int x]) C mtX8_lays hq rfl cl_87 cq_976 cq_973 cq_974 cq_975 cq_84 (by decide +kernel) ⟨(Nat.le_of_ble_eq_true rfl), (Nat.le_of_ble_eq_true rfl)⟩ hP hD hS hcs rfl hl.1 rfl (Nat.le_of_ble_eq_true rfl) (show decode code 261 = .ok (.invokevirtual 36, 3) from by decide +kernel) (fun rv S2 H locs hq2 hP hD hS => ?_)
  obtain ⟨rfl, gI2⟩ := hq2
  refine lv_icmp_eq (tgt := 719) hx hb (show decode code 264 = .ok (.if_icmp .eq 455, 3) from by decide +kernel) (by decide) (fun _ => K S2 H locs gI2 hP hD hS) (fun q => absurd rfl q)
theorem law_sets (C : lwC p s m c b L xs D g st ad A) (hi : i + 4 ≤ L) (hL : L ≤ 2048) (hl : lv_has ls 4 [(3, .int (nI i)), (2, .ref (ad 87)), (1, .ref (ad 0)), (0, .ref b)]) (gI : Inv S) (hP : va_P D vwCl (sp_ws g ad sp_w.1 S) H) (hD : va_D A (sp_ws g ad sp_w.1 S)) (hS : va_S A s.heap H locs) (hcs : cells ≤ 600000 ∧ slots ≤ 7302250) (K : ∀ (S' : sp_M) (H' : Heap) (locs' : List Loc), Inv S' → va_P D vwCl (sp_ws g ad sp_w.1 S') H' → va_D A (sp_ws g ad sp_w.1 S') → va_S A s.heap H' locs' → W p l e room_1 s m #[Value.ref b] below meth c H' locs' cells slots Qw (F0 m 719 ls [])) : W p l e room_1 s m #[Value.ref b] below meth c H locs cells slots Qw (F0 m 269 ls []) := by
  obtain ⟨N, g0⟩ := gI
  obtain ⟨⟨⟨hx, hb, hml, hown⟩, -⟩, ⟨hX, hbl, hbA⟩, had⟩ := id C
  have v1 : vp_in (nI i + 1) L := by rw [show nI i + 1 = nI (i + 1) from nI_add i 1]; exact in_n (by omega) (by omega)
  have v2 : vp_in (nI i + 2) L := by rw [show nI i + 2 = nI (i + 2) from nI_add i 2]; exact in_n (by omega) (by omega)
  refine lv_aload_n (k := 1) hx hb (show decode code 269 = .ok (.aload_n 1, 1) from by decide +kernel) rfl (lv_at hl 2 rfl) ?_
  refine lv_aload_n (k := 0) hx hb (show decode code 270 = .ok (.aload_n 0, 1) from by decide +kernel) rfl (lv_at hl 3 rfl) ?_
  refine lv_iload_n (k := 3) hx hb (show decode code 271 = .ok (.iload_n 3, 1) from by decide +kernel) rfl (lv_at hl 0 rfl) ?_
  refine lv_iconst (n := 1) (v := 1) hx hb (show decode code 272 = .ok (.iconst 1, 1) from by decide +kernel) (by decide) ?_
  refine lv_iadd hx hb (show decode code 273 = .ok (.iadd, 1) from by decide +kernel) ?_
  refine va_sld hx hb hX hbl hbA hS v1 (show decode code 274 = .ok (.iaload, 1) from by decide +kernel) ?_
  refine lv_aload_n (k := 0) hx hb (show decode code 275 = .ok (.aload_n 0, 1) from by decide +kernel) rfl (lv_at hl 3 rfl) ?_
  refine lv_iload_n (k := 3) hx hb (show decode code 276 = .ok (.iload_n 3, 1) from by decide +kernel) rfl (lv_at hl 0 rfl) ?_
  refine lv_iconst (n := 2) (v := 2) hx hb (show decode code 277 = .ok (.iconst 2, 1) from by decide +kernel) (by decide) ?_
  refine lv_iadd hx hb (show decode code 278 = .ok (.iadd, 1) from by decide +kernel) ?_
  refine va_sld hx hb hX hbl hbA hS v2 (show decode code 279 = .ok (.iaload, 1) from by decide +kernel) ?_
  refine lw_call (n := 2) (as := [.int (xs (nI i + 1).toNatClampNeg), .int (xs (nI i + 2).toNatClampNeg)]) (rest := []) C mtX7_sets (iX7_sets (G_sets g0)) rfl cl_0 cq_468 cq_465 cq_466 cq_467 cq_76 (by decide +kernel) ⟨(Nat.le_of_ble_eq_true rfl), (Nat.le_of_ble_eq_true rfl)⟩ hP hD hS hcs rfl hl.1 rfl (Nat.le_of_ble_eq_true rfl) (show decode code 280 = .ok (.invokevirtual 37, 3) from by decide +kernel) (fun rv S1 H locs hq hP hD hS => ?_)
  obtain ⟨hq, x, rfl⟩ := hq
  refine lv_aload_n (k := 2) hx hb (show decode code 283 = .ok (.aload_n 2, 1) from by decide +kernel) rfl (lv_at hl 1 rfl) ?_
  refine lv_aload_n (k := 0) hx hb (show decode code 284 = .ok (.aload_n 0, 1) from by decide +kernel) rfl (lv_at hl 3 rfl) ?_
  refine lv_iload_n (k := 3) hx hb (show decode code 285 = .ok (.iload_n 3, 1) from by decide +kernel) rfl (lv_at hl 0 rfl) ?_
  refine lv_iconst (n := 1) (v := 1) hx hb (show decode code 286 = .ok (.iconst 1, 1) from by decide +kernel) (by decide) ?_
  refine lv_iadd hx hb (show decode code 287 = .ok (.iadd, 1) from by decide +kernel) ?_
  refine va_sld hx hb hX hbl hbA hS v1 (show decode code 288 = .ok (.iaload, 1) from by decide +kernel) ?_
  refine lv_aload_n (k := 0) hx hb (show decode code 289 = .ok (.aload_n 0, 1) from by decide +kernel) rfl (lv_at hl 3 rfl) ?_
  refine lv_iload_n (k := 3) hx hb (show decode code 290 = .ok (.iload_n 3, 1) from by decide +kernel) rfl (lv_at hl 0 rfl) ?_
  refine lv_iconst (n := 2) (v := 2) hx hb (show decode code 291 = .ok (.iconst 2, 1) from by decide +kernel) (by decide) ?_
  refine lv_iadd hx hb (show decode code 292 = .ok (.iadd, 1) from by decide +kernel) ?_
  refine va_sld hx hb hX hbl hbA hS v2 (show decode code 293 = .ok (.iaload, 1) from by decide +kernel) ?_
  refine lw_call (n := 2) (as := [.int (xs (nI i + 1).toNatClampNeg), .int (xs (nI i + 2).toNatClampNeg)]) (rest := [.int x]) C mtX8_sets hq rfl cl_87 cq_983 cq_980 cq_981 cq_982 cq_84 (by decide +kernel) ⟨(Nat.le_of_ble_eq_true rfl), (Nat.le_of_ble_eq_true rfl)⟩ hP hD hS hcs rfl hl.1 rfl (Nat.le_of_ble_eq_true rfl) (show decode code 294 = .ok (.invokevirtual 40, 3) from by decide +kernel) (fun rv S2 H locs hq2 hP hD hS => ?_)
  obtain ⟨rfl, gI2⟩ := hq2
  refine lv_icmp_eq (tgt := 719) hx hb (show decode code 297 = .ok (.if_icmp .eq 422, 3) from by decide +kernel) (by decide) (fun _ => K S2 H locs gI2 hP hD hS) (fun q => absurd rfl q)
theorem law_puts (C : lwC p s m c b L xs D g st ad A) (hi : i + 4 ≤ L) (hL : L ≤ 2048) (hl : lv_has ls 4 [(3, .int (nI i)), (2, .ref (ad 87)), (1, .ref (ad 0)), (0, .ref b)]) (gI : Inv S) (hP : va_P D vwCl (sp_ws g ad sp_w.1 S) H) (hD : va_D A (sp_ws g ad sp_w.1 S)) (hS : va_S A s.heap H locs) (hcs : cells ≤ 600000 ∧ slots ≤ 7302250) (K : ∀ (S' : sp_M) (H' : Heap) (locs' : List Loc), Inv S' → va_P D vwCl (sp_ws g ad sp_w.1 S') H' → va_D A (sp_ws g ad sp_w.1 S') → va_S A s.heap H' locs' → W p l e room_1 s m #[Value.ref b] below meth c H' locs' cells slots Qw (F0 m 719 ls [])) : W p l e room_1 s m #[Value.ref b] below meth c H locs cells slots Qw (F0 m 302 ls []) := by
  obtain ⟨N, g0⟩ := gI
  obtain ⟨⟨⟨hx, hb, hml, hown⟩, -⟩, ⟨hX, hbl, hbA⟩, had⟩ := id C
  have v1 : vp_in (nI i + 1) L := by rw [show nI i + 1 = nI (i + 1) from nI_add i 1]; exact in_n (by omega) (by omega)
  have v2 : vp_in (nI i + 2) L := by rw [show nI i + 2 = nI (i + 2) from nI_add i 2]; exact in_n (by omega) (by omega)
  refine lv_aload_n (k := 1) hx hb (show decode code 302 = .ok (.aload_n 1, 1) from by decide +kernel) rfl (lv_at hl 2 rfl) ?_
  refine lv_aload_n (k := 0) hx hb (show decode code 303 = .ok (.aload_n 0, 1) from by decide +kernel) rfl (lv_at hl 3 rfl) ?_
  refine lv_iload_n (k := 3) hx hb (show decode code 304 = .ok (.iload_n 3, 1) from by decide +kernel) rfl (lv_at hl 0 rfl) ?_
  refine lv_iconst (n := 1) (v := 1) hx hb (show decode code 305 = .ok (.iconst 1, 1) from by decide +kernel) (by decide) ?_
  refine lv_iadd hx hb (show decode code 306 = .ok (.iadd, 1) from by decide +kernel) ?_
  refine va_sld hx hb hX hbl hbA hS v1 (show decode code 307 = .ok (.iaload, 1) from by decide +kernel) ?_
  refine lv_aload_n (k := 0) hx hb (show decode code 308 = .ok (.aload_n 0, 1) from by decide +kernel) rfl (lv_at hl 3 rfl) ?_
  refine lv_iload_n (k := 3) hx hb (show decode code 309 = .ok (.iload_n 3, 1) from by decide +kernel) rfl (lv_at hl 0 rfl) ?_
  refine lv_iconst (n := 2) (v := 2) hx hb (show decode code 310 = .ok (.iconst 2, 1) from by decide +kernel) (by decide) ?_
  refine lv_iadd hx hb (show decode code 311 = .ok (.iadd, 1) from by decide +kernel) ?_
  refine va_sld hx hb hX hbl hbA hS v2 (show decode code 312 = .ok (.iaload, 1) from by decide +kernel) ?_
  refine lw_call (n := 2) (as := [.int (xs (nI i + 1).toNatClampNeg), .int (xs (nI i + 2).toNatClampNeg)]) (rest := []) C mtX7_puts (iX7_puts (G_puts g0)) rfl cl_0 cq_477 cq_474 cq_475 cq_476 cq_76 (by decide +kernel) ⟨(Nat.le_of_ble_eq_true rfl), (Nat.le_of_ble_eq_true rfl)⟩ hP hD hS hcs rfl hl.1 rfl (Nat.le_of_ble_eq_true rfl) (show decode code 313 = .ok (.invokevirtual 41, 3) from by decide +kernel) (fun rv S1 H locs hq hP hD hS => ?_)
  obtain ⟨hq, x, rfl⟩ := hq
  refine lv_aload_n (k := 2) hx hb (show decode code 316 = .ok (.aload_n 2, 1) from by decide +kernel) rfl (lv_at hl 1 rfl) ?_
  refine lv_aload_n (k := 0) hx hb (show decode code 317 = .ok (.aload_n 0, 1) from by decide +kernel) rfl (lv_at hl 3 rfl) ?_
  refine lv_iload_n (k := 3) hx hb (show decode code 318 = .ok (.iload_n 3, 1) from by decide +kernel) rfl (lv_at hl 0 rfl) ?_
  refine lv_iconst (n := 1) (v := 1) hx hb (show decode code 319 = .ok (.iconst 1, 1) from by decide +kernel) (by decide) ?_
  refine lv_iadd hx hb (show decode code 320 = .ok (.iadd, 1) from by decide +kernel) ?_
  refine va_sld hx hb hX hbl hbA hS v1 (show decode code 321 = .ok (.iaload, 1) from by decide +kernel) ?_
  refine lv_aload_n (k := 0) hx hb (show decode code 322 = .ok (.aload_n 0, 1) from by decide +kernel) rfl (lv_at hl 3 rfl) ?_
  refine lv_iload_n (k := 3) hx hb (show decode code 323 = .ok (.iload_n 3, 1) from by decide +kernel) rfl (lv_at hl 0 rfl) ?_
  refine lv_iconst (n := 2) (v := 2) hx hb (show decode code 324 = .ok (.iconst 2, 1) from by decide +kernel) (by decide) ?_
  refine lv_iadd hx hb (show decode code 325 = .ok (.iadd, 1) from by decide +kernel) ?_
  refine va_sld hx hb hX hbl hbA hS v2 (show decode code 326 = .ok (.iaload, 1) from by decide +kernel) ?_
  refine lw_call (n := 2) (as := [.int (xs (nI i + 1).toNatClampNeg), .int (xs (nI i + 2).toNatClampNeg)]) (rest := [.int x]) C mtX8_puts hq rfl cl_87 cq_990 cq_987 cq_988 cq_989 cq_84 (by decide +kernel) ⟨(Nat.le_of_ble_eq_true rfl), (Nat.le_of_ble_eq_true rfl)⟩ hP hD hS hcs rfl hl.1 rfl (Nat.le_of_ble_eq_true rfl) (show decode code 327 = .ok (.invokevirtual 44, 3) from by decide +kernel) (fun rv S2 H locs hq2 hP hD hS => ?_)
  obtain ⟨rfl, gI2⟩ := hq2
  refine lv_icmp_eq (tgt := 719) hx hb (show decode code 330 = .ok (.if_icmp .eq 389, 3) from by decide +kernel) (by decide) (fun _ => K S2 H locs gI2 hP hD hS) (fun q => absurd rfl q)
theorem law_takes (C : lwC p s m c b L xs D g st ad A) (hi : i + 4 ≤ L) (hL : L ≤ 2048) (hl : lv_has ls 4 [(3, .int (nI i)), (2, .ref (ad 87)), (1, .ref (ad 0)), (0, .ref b)]) (gI : Inv S) (hP : va_P D vwCl (sp_ws g ad sp_w.1 S) H) (hD : va_D A (sp_ws g ad sp_w.1 S)) (hS : va_S A s.heap H locs) (hcs : cells ≤ 600000 ∧ slots ≤ 7302250) (K : ∀ (S' : sp_M) (H' : Heap) (locs' : List Loc), Inv S' → va_P D vwCl (sp_ws g ad sp_w.1 S') H' → va_D A (sp_ws g ad sp_w.1 S') → va_S A s.heap H' locs' → W p l e room_1 s m #[Value.ref b] below meth c H' locs' cells slots Qw (F0 m 719 ls [])) : W p l e room_1 s m #[Value.ref b] below meth c H locs cells slots Qw (F0 m 335 ls []) := by
  obtain ⟨N, g0⟩ := gI
  obtain ⟨⟨⟨hx, hb, hml, hown⟩, -⟩, ⟨hX, hbl, hbA⟩, had⟩ := id C
  have v1 : vp_in (nI i + 1) L := by rw [show nI i + 1 = nI (i + 1) from nI_add i 1]; exact in_n (by omega) (by omega)
  refine lv_aload_n (k := 1) hx hb (show decode code 335 = .ok (.aload_n 1, 1) from by decide +kernel) rfl (lv_at hl 2 rfl) ?_
  refine lv_aload_n (k := 0) hx hb (show decode code 336 = .ok (.aload_n 0, 1) from by decide +kernel) rfl (lv_at hl 3 rfl) ?_
  refine lv_iload_n (k := 3) hx hb (show decode code 337 = .ok (.iload_n 3, 1) from by decide +kernel) rfl (lv_at hl 0 rfl) ?_
  refine lv_iconst (n := 1) (v := 1) hx hb (show decode code 338 = .ok (.iconst 1, 1) from by decide +kernel) (by decide) ?_
  refine lv_iadd hx hb (show decode code 339 = .ok (.iadd, 1) from by decide +kernel) ?_
  refine va_sld hx hb hX hbl hbA hS v1 (show decode code 340 = .ok (.iaload, 1) from by decide +kernel) ?_
  refine lw_call (n := 1) (as := [.int (xs (nI i + 1).toNatClampNeg)]) (rest := []) C mtX7_takes (iX7_takes (G_takes g0)) rfl cl_0 cq_489 cq_486 cq_487 cq_488 cq_76 (by decide +kernel) ⟨(Nat.le_of_ble_eq_true rfl), (Nat.le_of_ble_eq_true rfl)⟩ hP hD hS hcs rfl hl.1 rfl (Nat.le_of_ble_eq_true rfl) (show decode code 341 = .ok (.invokevirtual 45, 3) from by decide +kernel) (fun rv S1 H locs hq hP hD hS => ?_)
  obtain ⟨hq, x, rfl⟩ := hq
  refine lv_aload_n (k := 2) hx hb (show decode code 344 = .ok (.aload_n 2, 1) from by decide +kernel) rfl (lv_at hl 1 rfl) ?_
  refine lv_aload_n (k := 0) hx hb (show decode code 345 = .ok (.aload_n 0, 1) from by decide +kernel) rfl (lv_at hl 3 rfl) ?_
  refine lv_iload_n (k := 3) hx hb (show decode code 346 = .ok (.iload_n 3, 1) from by decide +kernel) rfl (lv_at hl 0 rfl) ?_
  refine lv_iconst (n := 1) (v := 1) hx hb (show decode code 347 = .ok (.iconst 1, 1) from by decide +kernel) (by decide) ?_
  refine lv_iadd hx hb (show decode code 348 = .ok (.iadd, 1) from by decide +kernel) ?_
  refine va_sld hx hb hX hbl hbA hS v1 (show decode code 349 = .ok (.iaload, 1) from by decide +kernel) ?_
  refine lw_call (n := 1) (as := [.int (xs (nI i + 1).toNatClampNeg)]) (rest := [.int x]) C mtX8_takes hq rfl cl_87 cq_1002 cq_999 cq_1000 cq_1001 cq_84 (by decide +kernel) ⟨(Nat.le_of_ble_eq_true rfl), (Nat.le_of_ble_eq_true rfl)⟩ hP hD hS hcs rfl hl.1 rfl (Nat.le_of_ble_eq_true rfl) (show decode code 350 = .ok (.invokevirtual 48, 3) from by decide +kernel) (fun rv S2 H locs hq2 hP hD hS => ?_)
  obtain ⟨rfl, gI2⟩ := hq2
  refine lv_icmp_eq (tgt := 719) hx hb (show decode code 353 = .ok (.if_icmp .eq 366, 3) from by decide +kernel) (by decide) (fun _ => K S2 H locs gI2 hP hD hS) (fun q => absurd rfl q)
end LW
