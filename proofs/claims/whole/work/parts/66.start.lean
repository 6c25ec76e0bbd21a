/-! THE CLAIM OUT OF ONE WALK OF THE LAW'S BODY. Your part is whole_start (and what it stands on); all else here is the same for every law, but numbers. -/
def R_law : String := "SpanSpotterLaw"
def lw_P (b : Addr) (xs : List Int32) (args : Array Value) (s : State) : Prop := args = #[.ref b] ∧ s.IntsAt b xs ∧ xs.length ≤ 2048 ∧ (Jvm.Cond.and given_1 narrow_1).before args s = true
def lw_Q (_ : Array Value) (s : State) (o : Outcome) (t : State) : Prop := o = .returned (some (.int 1)) ∧ Framed s o t [] 600000 7302250
def lw_Z (below : List Frame) (a : Array Value) (s : State) : State → Prop := fun t => ∃ o, t.status = .running ∧ Ended t below o ∧ lw_Q a s o t
/-- the law's own end, with 1 on the stack, nothing written that was there before, its room as the claim has it -/
theorem lw_ret {p : Program} {l : Launch} {e : Env} {s : State} {m : MethodId} {below : List Frame} {meth : Method} {c : Code} {b : Nat} (hx : p.tables.exec = Jvm.exec) (hb : c.code = code) (hr : meth.sig.returnType = ret) (hlocks : meth.locks = false) {pc : Nat} {H : Heap} {ls : Array Slot} (hdg : decode code pc = .ok (.ireturn, 1)) : W p l e room_1 s m #[Value.ref b] below meth c H [] 600000 7302250 (lw_Z below #[Value.ref b] s) (F0 m pc ls [.int 1]) := by
  intro T hT X
  obtain ⟨fs, hret, hrun, hended, hW, hframe⟩ := X.leave (v := some (.int 1)) (hlocks := hlocks) (fun h => by rw [hr] at h; cases h)
  have hmeth' : T.vm.method? m = some meth := X.method'
  refine ⟨T.setFrames fs, ?_, .returned (some (.int 1)), hrun, hended, rfl, ⟨_, rfl⟩, hW, hframe⟩
  jvm_step X.here [X.here.top, hx, hb, hdg, hmeth', hr, ret, narrow_b1]
  (try refine ⟨rfl, ?_⟩); (try refine ⟨rfl, ?_⟩)
  first | (intro acts; rw [hret _ acts rfl rfl rfl]) | rw [hret _ _ rfl rfl rfl]
  exact Steps.refl _
/-- what holds at the law's entry: the machine, the code, the tables' words (any of lw_tbl by 'hts w (by decide +kernel)'), the script of L ints xs at the cell b, what the Statement gives of the start (any of its parts by flat_of_before) -/
def lw_At (p : Program) (s : State) (m : MethodId) (meth : Method) (c : Code) (b L : Nat) (xs : Nat → Int32) : Prop :=
  p.tables.exec = Jvm.exec ∧ c.code = code ∧ meth.sig.returnType = ret ∧ c.maxLocals = 4 ∧ s.vm.findClass R_law = some m.cls ∧ (∀ w ∈ lw_tbl, w.before #[Value.ref b] s = true) ∧ va_X b L xs s s.heap ∧ b < s.heap.size ∧ meth.locks = false ∧ (Jvm.Cond.and given_1 narrow_1).before #[Value.ref b] s = true
/-! what the start gives: tables, classes -/
theorem st_0 {s : State} {b : Nat} (hts : ∀ w ∈ lw_tbl, w.before #[Value.ref b] s = true) (hgv : (Jvm.Cond.and given_1 narrow_1).before #[Value.ref b] s = true) : ∃ t : Nat, va_Z "SpanSpotter" (sp_sn 0) "[I" (.ref t) (fun q => s.heap.size ≤ q) s s.heap ∧ va_T .int t (sp_ro 0).1 (fun j => .int ((sp_ro 0).2 j)) (fun q => s.heap.size ≤ q) s s.heap := by
  have hs := flat_of_before _ hgv
  have harr : (Cond.arrayOf (.static "SpanSpotter" "PROPERTY_FIRST" "[I") .int).before #[Value.ref b] s = true := hs _ (by decide +kernel)
  have hlen : (Cond.eq (.length (.static "SpanSpotter" "PROPERTY_FIRST" "[I")) (.int 5)).before #[Value.ref b] s = true := hs _ (by decide +kernel)
  have h0 : (Cond.eq (.elem (.static "SpanSpotter" "PROPERTY_FIRST" "[I") (.int 0)) (.int (0))).before #[Value.ref b] s = true := hs _ (by decide +kernel)
  have h1 : (Cond.eq (.elem (.static "SpanSpotter" "PROPERTY_FIRST" "[I") (.int 1)) (.int (5))).before #[Value.ref b] s = true := hs _ (by decide +kernel)
  have h2 : (Cond.eq (.elem (.static "SpanSpotter" "PROPERTY_FIRST" "[I") (.int 2)) (.int (0))).before #[Value.ref b] s = true := hs _ (by decide +kernel)
  have h3 : (Cond.eq (.elem (.static "SpanSpotter" "PROPERTY_FIRST" "[I") (.int 3)) (.int (0))).before #[Value.ref b] s = true := hs _ (by decide +kernel)
  have h4 : (Cond.eq (.elem (.static "SpanSpotter" "PROPERTY_FIRST" "[I") (.int 4)) (.int (-1))).before #[Value.ref b] s = true := hs _ (by decide +kernel)
  have hA : ∀ a : Nat, a < s.heap.size → ¬ s.heap.size ≤ a := fun a h => by omega
  obtain ⟨t, ht, hT⟩ := va_Tof (tm := (.static "SpanSpotter" "PROPERTY_FIRST" "[I")) (ty := .int) (N := 5) (f := fun j => .int ((sp_ro 0).2 j)) (A := fun q => s.heap.size ≤ q) (by decide) harr (va_eqt hlen) (fun j hj => by
    rcases (show j = 0 ∨ j = 1 ∨ j = 2 ∨ j = 3 ∨ j = 4 by omega) with rfl | rfl | rfl | rfl | rfl
    · exact va_eqt h0
    · exact va_eqt h1
    · exact va_eqt h2
    · exact va_eqt h3
    · exact va_eqt h4) hA
  exact ⟨t, va_Zref (hts (.laysStatic "SpanSpotter" "PROPERTY_FIRST" "[I") (List.mem_of_getElem? (i := 108) (by decide +kernel))) (hts (.initialized "SpanSpotter") (List.mem_of_getElem? (i := 76) (by decide +kernel))) ht hA, hT⟩
theorem st_1 {s : State} {b : Nat} (hts : ∀ w ∈ lw_tbl, w.before #[Value.ref b] s = true) (hgv : (Jvm.Cond.and given_1 narrow_1).before #[Value.ref b] s = true) : ∃ t : Nat, va_Z "SpanSpotter" (sp_sn 1) "[I" (.ref t) (fun q => s.heap.size ≤ q) s s.heap ∧ va_T .int t (sp_ro 1).1 (fun j => .int ((sp_ro 1).2 j)) (fun q => s.heap.size ≤ q) s s.heap := by
  have hs := flat_of_before _ hgv
  have harr : (Cond.arrayOf (.static "SpanSpotter" "PROPERTY_MOST" "[I") .int).before #[Value.ref b] s = true := hs _ (by decide +kernel)
  have hlen : (Cond.eq (.length (.static "SpanSpotter" "PROPERTY_MOST" "[I")) (.int 5)).before #[Value.ref b] s = true := hs _ (by decide +kernel)
  have h0 : (Cond.eq (.elem (.static "SpanSpotter" "PROPERTY_MOST" "[I") (.int 0)) (.int (99))).before #[Value.ref b] s = true := hs _ (by decide +kernel)
  have h1 : (Cond.eq (.elem (.static "SpanSpotter" "PROPERTY_MOST" "[I") (.int 1)) (.int (30))).before #[Value.ref b] s = true := hs _ (by decide +kernel)
  have h2 : (Cond.eq (.elem (.static "SpanSpotter" "PROPERTY_MOST" "[I") (.int 2)) (.int (9))).before #[Value.ref b] s = true := hs _ (by decide +kernel)
  have h3 : (Cond.eq (.elem (.static "SpanSpotter" "PROPERTY_MOST" "[I") (.int 3)) (.int (1))).before #[Value.ref b] s = true := hs _ (by decide +kernel)
  have h4 : (Cond.eq (.elem (.static "SpanSpotter" "PROPERTY_MOST" "[I") (.int 4)) (.int (5))).before #[Value.ref b] s = true := hs _ (by decide +kernel)
  have hA : ∀ a : Nat, a < s.heap.size → ¬ s.heap.size ≤ a := fun a h => by omega
  obtain ⟨t, ht, hT⟩ := va_Tof (tm := (.static "SpanSpotter" "PROPERTY_MOST" "[I")) (ty := .int) (N := 5) (f := fun j => .int ((sp_ro 1).2 j)) (A := fun q => s.heap.size ≤ q) (by decide) harr (va_eqt hlen) (fun j hj => by
    rcases (show j = 0 ∨ j = 1 ∨ j = 2 ∨ j = 3 ∨ j = 4 by omega) with rfl | rfl | rfl | rfl | rfl
    · exact va_eqt h0
    · exact va_eqt h1
    · exact va_eqt h2
    · exact va_eqt h3
    · exact va_eqt h4) hA
  exact ⟨t, va_Zref (hts (.laysStatic "SpanSpotter" "PROPERTY_MOST" "[I") (List.mem_of_getElem? (i := 394) (by decide +kernel))) (hts (.initialized "SpanSpotter") (List.mem_of_getElem? (i := 76) (by decide +kernel))) ht hA, hT⟩
theorem st_2 {s : State} {b : Nat} (hts : ∀ w ∈ lw_tbl, w.before #[Value.ref b] s = true) (hgv : (Jvm.Cond.and given_1 narrow_1).before #[Value.ref b] s = true) : ∃ t : Nat, va_Z "SpanSpotter" (sp_sn 2) "[I" (.ref t) (fun q => s.heap.size ≤ q) s s.heap ∧ va_T .int t (sp_ro 2).1 (fun j => .int ((sp_ro 2).2 j)) (fun q => s.heap.size ≤ q) s s.heap := by
  have hs := flat_of_before _ hgv
  have harr : (Cond.arrayOf (.static "SpanSpotter" "SETTING_FIRST" "[I") .int).before #[Value.ref b] s = true := hs _ (by decide +kernel)
  have hlen : (Cond.eq (.length (.static "SpanSpotter" "SETTING_FIRST" "[I")) (.int 6)).before #[Value.ref b] s = true := hs _ (by decide +kernel)
  have h0 : (Cond.eq (.elem (.static "SpanSpotter" "SETTING_FIRST" "[I") (.int 0)) (.int (12))).before #[Value.ref b] s = true := hs _ (by decide +kernel)
  have h1 : (Cond.eq (.elem (.static "SpanSpotter" "SETTING_FIRST" "[I") (.int 1)) (.int (4))).before #[Value.ref b] s = true := hs _ (by decide +kernel)
  have h2 : (Cond.eq (.elem (.static "SpanSpotter" "SETTING_FIRST" "[I") (.int 2)) (.int (1))).before #[Value.ref b] s = true := hs _ (by decide +kernel)
  have h3 : (Cond.eq (.elem (.static "SpanSpotter" "SETTING_FIRST" "[I") (.int 3)) (.int (10))).before #[Value.ref b] s = true := hs _ (by decide +kernel)
  have h4 : (Cond.eq (.elem (.static "SpanSpotter" "SETTING_FIRST" "[I") (.int 4)) (.int (4))).before #[Value.ref b] s = true := hs _ (by decide +kernel)
  have h5 : (Cond.eq (.elem (.static "SpanSpotter" "SETTING_FIRST" "[I") (.int 5)) (.int (0))).before #[Value.ref b] s = true := hs _ (by decide +kernel)
  have hA : ∀ a : Nat, a < s.heap.size → ¬ s.heap.size ≤ a := fun a h => by omega
  obtain ⟨t, ht, hT⟩ := va_Tof (tm := (.static "SpanSpotter" "SETTING_FIRST" "[I")) (ty := .int) (N := 6) (f := fun j => .int ((sp_ro 2).2 j)) (A := fun q => s.heap.size ≤ q) (by decide) harr (va_eqt hlen) (fun j hj => by
    rcases (show j = 0 ∨ j = 1 ∨ j = 2 ∨ j = 3 ∨ j = 4 ∨ j = 5 by omega) with rfl | rfl | rfl | rfl | rfl | rfl
    · exact va_eqt h0
    · exact va_eqt h1
    · exact va_eqt h2
    · exact va_eqt h3
    · exact va_eqt h4
    · exact va_eqt h5) hA
  exact ⟨t, va_Zref (hts (.laysStatic "SpanSpotter" "SETTING_FIRST" "[I") (List.mem_of_getElem? (i := 110) (by decide +kernel))) (hts (.initialized "SpanSpotter") (List.mem_of_getElem? (i := 76) (by decide +kernel))) ht hA, hT⟩
theorem st_3 {s : State} {b : Nat} (hts : ∀ w ∈ lw_tbl, w.before #[Value.ref b] s = true) (hgv : (Jvm.Cond.and given_1 narrow_1).before #[Value.ref b] s = true) : ∃ t : Nat, va_Z "SpanSpotter" (sp_sn 3) "[I" (.ref t) (fun q => s.heap.size ≤ q) s s.heap ∧ va_T .int t (sp_ro 3).1 (fun j => .int ((sp_ro 3).2 j)) (fun q => s.heap.size ≤ q) s s.heap := by
  have hs := flat_of_before _ hgv
  have harr : (Cond.arrayOf (.static "SpanSpotter" "SETTING_LEAST" "[I") .int).before #[Value.ref b] s = true := hs _ (by decide +kernel)
  have hlen : (Cond.eq (.length (.static "SpanSpotter" "SETTING_LEAST" "[I")) (.int 6)).before #[Value.ref b] s = true := hs _ (by decide +kernel)
  have h0 : (Cond.eq (.elem (.static "SpanSpotter" "SETTING_LEAST" "[I") (.int 0)) (.int (1))).before #[Value.ref b] s = true := hs _ (by decide +kernel)
  have h1 : (Cond.eq (.elem (.static "SpanSpotter" "SETTING_LEAST" "[I") (.int 1)) (.int (0))).before #[Value.ref b] s = true := hs _ (by decide +kernel)
  have h2 : (Cond.eq (.elem (.static "SpanSpotter" "SETTING_LEAST" "[I") (.int 2)) (.int (0))).before #[Value.ref b] s = true := hs _ (by decide +kernel)
  have h3 : (Cond.eq (.elem (.static "SpanSpotter" "SETTING_LEAST" "[I") (.int 3)) (.int (1))).before #[Value.ref b] s = true := hs _ (by decide +kernel)
  have h4 : (Cond.eq (.elem (.static "SpanSpotter" "SETTING_LEAST" "[I") (.int 4)) (.int (1))).before #[Value.ref b] s = true := hs _ (by decide +kernel)
  have h5 : (Cond.eq (.elem (.static "SpanSpotter" "SETTING_LEAST" "[I") (.int 5)) (.int (0))).before #[Value.ref b] s = true := hs _ (by decide +kernel)
  have hA : ∀ a : Nat, a < s.heap.size → ¬ s.heap.size ≤ a := fun a h => by omega
  obtain ⟨t, ht, hT⟩ := va_Tof (tm := (.static "SpanSpotter" "SETTING_LEAST" "[I")) (ty := .int) (N := 6) (f := fun j => .int ((sp_ro 3).2 j)) (A := fun q => s.heap.size ≤ q) (by decide) harr (va_eqt hlen) (fun j hj => by
    rcases (show j = 0 ∨ j = 1 ∨ j = 2 ∨ j = 3 ∨ j = 4 ∨ j = 5 by omega) with rfl | rfl | rfl | rfl | rfl | rfl
    · exact va_eqt h0
    · exact va_eqt h1
    · exact va_eqt h2
    · exact va_eqt h3
    · exact va_eqt h4
    · exact va_eqt h5) hA
  exact ⟨t, va_Zref (hts (.laysStatic "SpanSpotter" "SETTING_LEAST" "[I") (List.mem_of_getElem? (i := 420) (by decide +kernel))) (hts (.initialized "SpanSpotter") (List.mem_of_getElem? (i := 76) (by decide +kernel))) ht hA, hT⟩
theorem st_4 {s : State} {b : Nat} (hts : ∀ w ∈ lw_tbl, w.before #[Value.ref b] s = true) (hgv : (Jvm.Cond.and given_1 narrow_1).before #[Value.ref b] s = true) : ∃ t : Nat, va_Z "SpanSpotter" (sp_sn 4) "[I" (.ref t) (fun q => s.heap.size ≤ q) s s.heap ∧ va_T .int t (sp_ro 4).1 (fun j => .int ((sp_ro 4).2 j)) (fun q => s.heap.size ≤ q) s s.heap := by
  have hs := flat_of_before _ hgv
  have harr : (Cond.arrayOf (.static "SpanSpotter" "SETTING_MOST" "[I") .int).before #[Value.ref b] s = true := hs _ (by decide +kernel)
  have hlen : (Cond.eq (.length (.static "SpanSpotter" "SETTING_MOST" "[I")) (.int 6)).before #[Value.ref b] s = true := hs _ (by decide +kernel)
  have h0 : (Cond.eq (.elem (.static "SpanSpotter" "SETTING_MOST" "[I") (.int 0)) (.int (60))).before #[Value.ref b] s = true := hs _ (by decide +kernel)
  have h1 : (Cond.eq (.elem (.static "SpanSpotter" "SETTING_MOST" "[I") (.int 1)) (.int (20))).before #[Value.ref b] s = true := hs _ (by decide +kernel)
  have h2 : (Cond.eq (.elem (.static "SpanSpotter" "SETTING_MOST" "[I") (.int 2)) (.int (20))).before #[Value.ref b] s = true := hs _ (by decide +kernel)
  have h3 : (Cond.eq (.elem (.static "SpanSpotter" "SETTING_MOST" "[I") (.int 3)) (.int (200))).before #[Value.ref b] s = true := hs _ (by decide +kernel)
  have h4 : (Cond.eq (.elem (.static "SpanSpotter" "SETTING_MOST" "[I") (.int 4)) (.int (8))).before #[Value.ref b] s = true := hs _ (by decide +kernel)
  have h5 : (Cond.eq (.elem (.static "SpanSpotter" "SETTING_MOST" "[I") (.int 5)) (.int (9))).before #[Value.ref b] s = true := hs _ (by decide +kernel)
  have hA : ∀ a : Nat, a < s.heap.size → ¬ s.heap.size ≤ a := fun a h => by omega
  obtain ⟨t, ht, hT⟩ := va_Tof (tm := (.static "SpanSpotter" "SETTING_MOST" "[I")) (ty := .int) (N := 6) (f := fun j => .int ((sp_ro 4).2 j)) (A := fun q => s.heap.size ≤ q) (by decide) harr (va_eqt hlen) (fun j hj => by
    rcases (show j = 0 ∨ j = 1 ∨ j = 2 ∨ j = 3 ∨ j = 4 ∨ j = 5 by omega) with rfl | rfl | rfl | rfl | rfl | rfl
    · exact va_eqt h0
    · exact va_eqt h1
    · exact va_eqt h2
    · exact va_eqt h3
    · exact va_eqt h4
    · exact va_eqt h5) hA
  exact ⟨t, va_Zref (hts (.laysStatic "SpanSpotter" "SETTING_MOST" "[I") (List.mem_of_getElem? (i := 422) (by decide +kernel))) (hts (.initialized "SpanSpotter") (List.mem_of_getElem? (i := 76) (by decide +kernel))) ht hA, hT⟩
theorem lw_RO {s : State} {b : Nat} (hts : ∀ w ∈ lw_tbl, w.before #[Value.ref b] s = true) (hgv : (Jvm.Cond.and given_1 narrow_1).before #[Value.ref b] s = true) : ∃ st : Nat → Nat, ctRO s.heap.size st s := by
  obtain ⟨t0, z0⟩ := st_0 hts hgv
  obtain ⟨t1, z1⟩ := st_1 hts hgv
  obtain ⟨t2, z2⟩ := st_2 hts hgv
  obtain ⟨t3, z3⟩ := st_3 hts hgv
  obtain ⟨t4, z4⟩ := st_4 hts hgv
  refine ⟨fun i => [t0, t1, t2, t3, t4].getD i 0, fun x hx => va_Nw.of (sp_isN_on (List.mem_filter.mp hx).2) (hts x (List.mem_filter.mp hx).1), ⟨va_AO.of (hts (.arrayOver (.object "SpanSpotter$Line")) (List.mem_of_getElem? (i := 143) (by decide +kernel))), va_AOA.of (hts (.arrayOver (.array .int)) (List.mem_of_getElem? (i := 102) (by decide +kernel)))⟩, fun i hi => ?_⟩
  rcases (show i = 0 ∨ i = 1 ∨ i = 2 ∨ i = 3 ∨ i = 4 by omega) with rfl | rfl | rfl | rfl | rfl
  · exact z0
  · exact z1
  · exact z2
  · exact z3
  · exact z4
theorem lw_K {s : State} {b : Nat} (hts : ∀ w ∈ lw_tbl, w.before #[Value.ref b] s = true) : ∃ (D : va_G) (g : sp_G), va_K D vwCl (sp_ty g) s := by
  have ht : ∀ x ∈ sp_tbl, x.before #[Value.ref b] s = true := fun x hx => hts x (List.mem_filter.mp hx).1
  obtain ⟨c0, i0, k0⟩ := u_known (C := RX0) (T := TX0) (N := 4) (n := 4) ht iX0 (ht _ cq_184)
  obtain ⟨c1, i1, k1⟩ := u_known (C := RX1) (T := TX1) (N := 3) (n := 3) ht iX1 (ht _ cq_137)
  obtain ⟨c2, i2, k2⟩ := u_known (C := RX2) (T := TX2) (N := 3) (n := 3) ht iX2 (ht _ cq_96)
  obtain ⟨c3, i3, k3⟩ := u_known (C := RX3) (T := TX3) (N := 4) (n := 4) ht iX3 (ht _ cq_293)
  obtain ⟨c4, i4, k4⟩ := u_known (C := RX4) (T := TX4) (N := 17) (n := 17) ht iX4 (ht _ cq_207)
  obtain ⟨c5, i5, k5⟩ := u_known (C := RX5) (T := TX5) (N := 3) (n := 3) ht iX5 (ht _ cq_213)
  obtain ⟨c6, i6, k6⟩ := u_known (C := RX6) (T := TX6) (N := 5) (n := 5) ht iX6 (ht _ cq_157)
  obtain ⟨c7, i7, k7⟩ := u_known (C := RX7) (T := TX7) (N := 13) (n := 13) ht iX7 (ht _ cq_88)
  obtain ⟨c8, i8, k8⟩ := u_known (C := RX8) (T := TX8) (N := 27) (n := 27) ht iX8 (ht _ cq_800)
  obtain ⟨cI, kI, compI, f1, f2, f3⟩ := Cond.arrayClass_spec (ht _ cq_135)
  obtain ⟨compL, cL, kL, l1, l2, l3, l4, l5⟩ := Cond.arrayOver_spec (hts (.arrayOver (.object "SpanSpotter$Line")) (List.mem_of_getElem? (i := 143) (by decide +kernel)))
  obtain ⟨compA, cA, kA, a1, a2, a3, a4, a5⟩ := Jvm.Stand.arrayOver_specB (hts (.arrayOver (.array .int)) (List.mem_of_getElem? (i := 102) (by decide +kernel)))
  refine ⟨(fun k => [c0, c1, c2, c3, c4, c5, c6, c7, c8].getD k 0, fun k => [i0, i1, i2, i3, i4, i5, i6, i7, i8].getD k (fun j => j)), (cI, cL, cA), ?_, ?_⟩
  · intro k q hq
    match k, hq with
    | 0, hq => cases hq; exact k0
    | 1, hq => cases hq; exact k1
    | 2, hq => cases hq; exact k2
    | 3, hq => cases hq; exact k3
    | 4, hq => cases hq; exact k4
    | 5, hq => cases hq; exact k5
    | 6, hq => cases hq; exact k6
    | 7, hq => cases hq; exact k7
    | 8, hq => cases hq; exact k8
    | k + 9, hq => simp [vwCl] at hq
  · intro k q hq
    match k, hq with
    | 0, hq => cases hq; exact ⟨fun n z => ⟨(fun q hq => by cases hq), kI, f2, compI, f3⟩, f1⟩
    | 1, hq => cases hq; exact ⟨fun n z => ⟨(fun q hq => by cases hq), kL, l3, compL, l4⟩, kL, compL, l3, l4, l1, l5⟩
    | 2, hq => cases hq; exact ⟨fun n z => ⟨(fun q hq => by cases hq), kA, a3, compA, a4⟩, a5⟩
    | k + 3, hq => simp [sp_ty] at hq
/-- the first state of both -/
theorem inv_0 {S : sp_M} (h1 : lv S 1 = fst0) (h0 : S.1 0 = (fun _ => 0)) (hj : S.2.1 0 11 = 0 ∧ S.2.1 0 12 = 1) (h9 : S.1 9 = (fun _ => 0)) (h59 : S.1 59 = (fun _ => 0)) (h69 : S.1 69 = (fun _ => 0)) (hm : mv S = fst0) (h87 : S.1 87 = (fun _ => 0)) (h90 : S.2.2 90 = (fun _ => 0)) (hk : S.2.1 87 10 = 0 ∧ S.2.1 87 11 = 1) : Inv S := by
  refine ⟨10, ?_, by rw [h1, hm], Or.inl (by rw [h69]), ⟨Or.inl (by rw [h0]), Or.inl (by rw [h0])⟩, ⟨0, 0, 0, ⟨by omega, by omega, by omega⟩, ⟨by rw [h9]; rfl, by rw [h9]; rfl, by rw [h87]; rfl, by rw [h87]; rfl⟩, fun i hi => by omega⟩, ⟨0, by omega, by rw [h59]; rfl, by rw [h87]; rfl, fun i hi => by omega⟩, ⟨by rw [h0, h90], by rw [h0, h90], by rw [h0, h90]⟩, ⟨by rw [hj.1, hk.1], by rw [hj.2, hk.2]⟩⟩
  rw [hm]
  have h := hOK.fin (x := 10) fst_ok (by omega) (by omega)
  have e : upd fst0 0 (nI 10) = fst0 := by
    funext k
    by_cases hk : k = 0
    · subst hk
      rw [pk_us]
      rfl
    · rw [pk_un hk]
  rw [e] at h
  exact h
theorem sk_all : sk7 ++ skM = sp_sk := rfl
