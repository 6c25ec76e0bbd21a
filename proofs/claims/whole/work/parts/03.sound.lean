/-! the machine's run over blocks; what a block's soundness is; a method's contract out of its blocks -/
def sp_run (B : (Nat → sp_K) → Nat → sp_K) (pc : Nat) : sp_K := fun L st S => ∀ P : Nat → sp_K, (∀ pc L st S, (∃ P' : Nat → sp_K, (∀ t L st S, P' t L st S → P t L st S) ∧ B P' pc L st S) → P pc L st S) → P pc L st S
theorem sp_go {B : (Nat → sp_K) → Nat → sp_K} {pc : Nat} {L : sp_L} {st : List Value} {S : sp_M} (h : B (sp_run B) pc L st S) : sp_run B pc L st S := fun P hP => hP _ _ _ _ ⟨sp_run B, fun _ _ _ _ h' => h' P hP, h⟩
def sp_me (nL : Nat) (B : sp_W → sp_R → (Nat → sp_K) → Nat → sp_K) (w : sp_W) (as : List Value) (S : sp_M) (Q : sp_R) : Prop := ∃ Q' : sp_R, (∀ r S, Q' r S → Q r S) ∧ (as.map fun v => v.category).sum ≤ nL ∧ sp_run (B w Q') 0 (sp_ent nL as) [] S
theorem sp_me.mono {nL : Nat} {B : sp_W → sp_R → (Nat → sp_K) → Nat → sp_K} {w : sp_W} {as : List Value} {S : sp_M} {Q Q2 : sp_R} (h : sp_me nL B w as S Q) (hq : ∀ r S, Q r S → Q2 r S) : sp_me nL B w as S Q2 := by
  obtain ⟨Q', h1, h2, h3⟩ := h
  exact ⟨Q', fun r S h => hq r S (h1 r S h), h2, h3⟩
def sp_isN : Cond → Bool
  | .fieldLinkNest _ _ _ _ _ _ => true
  | .methodLinkNest _ _ _ _ => true
  | _ => false
def sp_nest : List Cond := lw_tbl.filter sp_isN
theorem sp_inN {x : Cond} (h : x ∈ lw_tbl) (g : sp_isN x = true) : x ∈ sp_nest := List.mem_filter.mpr ⟨h, g⟩
theorem sp_isN_on {x : Cond} (h : sp_isN x = true) : x.onTables = true := by
  cases x <;> first | rfl | cases h
theorem sp_isN_warm {x : Cond} (h : sp_isN x = true) {s U : State} (hW : s.WarmedH U.vm) (hz : va_Nw x s) : va_Nw x U := by
  cases x with
  | fieldLinkNest a i b n d hh => exact va_Nw.warmF hW hz
  | methodLinkNest a i y hh => exact va_Nw.warmM hW hz
  | _ => cases h
def sp_sn : Nat → String
  | 0 => "PROPERTY_FIRST"
  | 1 => "PROPERTY_MOST"
  | 2 => "SETTING_FIRST"
  | 3 => "SETTING_LEAST"
  | _ => "SETTING_MOST"
def sp_RO (ad : Nat → Nat) (w : sp_W) (U : State) : Prop := (∀ x ∈ sp_nest, va_Nw x U) ∧ ∀ i, i < 5 → va_Z "SpanSpotter" (sp_sn i) "[I" (.ref (ad (1000 + i))) (sp_A ad w.1.length) U U.heap ∧ va_T .int (ad (1000 + i)) (w.2 i).1 (fun j => .int ((w.2 i).2 j)) (sp_A ad w.1.length) U U.heap
theorem sp_RO.mv {ad : Nat → Nat} {w : sp_W} {s U : State} (h : sp_RO ad w s) (hW : s.WarmedH U.vm) (hk : ∀ a : Nat, a < s.heap.size → ¬ sp_A ad w.1.length a → U.heap[a]? = s.heap[a]?) : sp_RO ad w U := by
  refine ⟨fun x hx => sp_isN_warm (List.mem_filter.mp hx).2 hW (h.1 x hx), fun i hi => ?_⟩
  obtain ⟨h1, h2⟩ := h.2 i hi
  exact ⟨(h1.moved hW.alike).kept hk, (h2.moved hW.alike).kept hk⟩
theorem sp_RO.blind {ad : Nat → Nat} {w : sp_W} {U : State} {g : JFrame} {mk : MethodId} {a : Array Value} (h : sp_RO ad w U) : sp_RO ad w (U.calling g mk a) := by
  refine ⟨fun x hx => va_Nw.same (sp_isN_on (List.mem_filter.mp hx).2) (u := U) rfl (h.1 x hx), fun i hi => ?_⟩
  obtain ⟨h1, h2⟩ := h.2 i hi
  exact ⟨va_Z.moved (u := U) (U := U.calling g mk a) (Vm.Alike.refl U.vm) h1, va_T.moved (u := U) (U := U.calling g mk a) (Vm.Alike.refl U.vm) h2⟩
def sp_Pc (D : va_G) (g : sp_G) (ad : Nat → Nat) (w : sp_W) (as : List Value) (S : sp_M) : Array Value → State → Prop := va_Pc (as.map (sp_cv ad)) (fun U => va_P D vwCl (sp_ws g ad w.1 S) U.heap ∧ va_K D vwCl (sp_ty g) U ∧ va_D (fun _ => True) (sp_ws g ad w.1 S) ∧ sp_RO ad w U)
def sp_Qc (D : va_G) (g : sp_G) (ad : Nat → Nat) (w : sp_W) (Q : sp_R) : Array Value → State → Outcome → State → Prop := fun _ st oc t => (∃ (rv : Option Value) (S' : sp_M), oc = .returned (rv.map (sp_cv ad)) ∧ Q rv S' ∧ va_P D vwCl (sp_ws g ad w.1 S') t.heap) ∧ va_F (sp_A ad w.1.length) st t
theorem sp_Pc_blind {D : va_G} {g : sp_G} {ad : Nat → Nat} {w : sp_W} {as : List Value} {S : sp_M} : FrameBlind (sp_Pc D g ad w as S) := by
  intro a U gg mk h
  obtain ⟨h0, h1, h2, h3, h4⟩ := h
  exact ⟨h0, h1, va_K.moved (u := U) (U := U.calling gg mk a) (Vm.Alike.refl U.vm) h2, h3, h4.blind⟩
def sp_Mt (y : MethodName) (cc : ByteArray) (nL : Nat) (ret : Option FieldType) (rf rl : Nat) (M : sp_W → List Value → sp_M → sp_R → Prop) : Prop := ∀ (l : Launch) (D : va_G) (g : sp_G) (ad : Nat → Nat) (w : sp_W) (as : List Value) (S : sp_M) (Q : sp_R), M w as S Q → Met l y (sp_wd y cc nL ret) { frames := rf, cells := 0, slots := 0, locals := rl } (sp_Pc D g ad w as S) (sp_Qc D g ad w Q) 0 0 (sp_A ad w.1.length)
def sp_Cx (p : Program) (R : Room) (s : State) (m : MethodId) (args : Array Value) (meth : Method) (c : Code) (cc : ByteArray) (nL : Nat) (own : String) (ret : Option FieldType) (rf rl : Nat) (D : va_G) (g : sp_G) (ad : Nat → Nat) (w : sp_W) : Prop :=
  (p.tables.exec = Jvm.exec ∧ c.code = cc ∧ c.maxLocals = nL ∧ s.vm.findClass own = some m.cls) ∧ (∀ x ∈ sp_tbl, x.before args s = true) ∧ va_K D vwCl (sp_ty g) s ∧ sp_RO ad w s ∧ meth.locks = false ∧ meth.sig.returnType = ret ∧ rf ≤ R.frames ∧ rl ≤ R.locals
def sp_Sd (p : Program) (l : Launch) (e : Env) (R : Room) (s : State) (m : MethodId) (args : Array Value) (below : List Frame) (meth : Method) (c : Code) (nL : Nat) (D : va_G) (g : sp_G) (ad : Nat → Nat) (w : sp_W) (Q : sp_R) (pc : Nat) (k : sp_K) : Prop :=
  ∀ (L : sp_L) (st : List Value) (S : sp_M) (ls : Array Slot) (H : Heap) (locs : List Loc), sp_lr ad ls nL L → va_P D vwCl (sp_ws g ad w.1 S) H → va_D (sp_A ad w.1.length) (sp_ws g ad w.1 S) → va_S (sp_A ad w.1.length) s.heap H locs → k L st S →
    W p l e R s m args below meth c H locs 0 0 (MQ below (sp_Qc D g ad w Q) args s 0 0 (sp_A ad w.1.length)) (F0 m pc ls (st.map (sp_cv ad)))
/-- a continuation at a place of the code is sound, if the labels' continuations are -/
def sp_Ok (cc : ByteArray) (nL : Nat) (own : String) (ret : Option FieldType) (rf rl : Nat) (w : sp_W) (Q : sp_R) (P : Nat → sp_K) (pc : Nat) (k : sp_K) : Prop :=
  ∀ (p : Program) (l : Launch) (e : Env) (R : Room) (s : State) (m : MethodId) (args : Array Value) (below : List Frame) (meth : Method) (c : Code) (D : va_G) (g : sp_G) (ad : Nat → Nat), sp_Cx p R s m args meth c cc nL own ret rf rl D g ad w →
    (∀ t, sp_Sd p l e R s m args below meth c nL D g ad w Q t (P t)) → sp_Sd p l e R s m args below meth c nL D g ad w Q pc k
theorem sp_W_mono {p : Program} {l : Launch} {e : Env} {R : Room} {s : State} {m : MethodId} {args : Array Value} {below : List Frame} {meth : Method} {c : Code} {H : Heap} {locs : List Loc} {cells slots : Nat} {Q Q2 : State → Prop} {gg : JFrame} (h : W p l e R s m args below meth c H locs cells slots Q gg) (hq : ∀ t, Q t → Q2 t) : W p l e R s m args below meth c H locs cells slots Q2 gg := by
  intro T hT X
  obtain ⟨t, a, b⟩ := h T hT X
  exact ⟨t, a, hq t b⟩
theorem sp_met {y : MethodName} {cc : ByteArray} {nL : Nat} {ret : Option FieldType} {rf rl : Nat} {B : sp_W → sp_R → (Nat → sp_K) → Nat → sp_K} (hy : plainName y.cls = true) (hsd : ∀ w Q P pc, sp_Ok cc nL y.cls ret rf rl w Q P pc (B w Q P pc)) : sp_Mt y cc nL ret rf rl (sp_me nL B) := by
  intro l D g ad w as S Q hM
  obtain ⟨Q', hQ, hfit, hrun⟩ := hM
  refine Met.ofW (cc := cc) (maxL := nL) (ret := ret) hy rfl ?_
  intro p e s m args below meth c s₁ B0 hml hv
  obtain ⟨rfl, hP, hK, hD0, hRO⟩ := hv
  have hts := atoms_spec (ws := sp_wd y cc nL ret) B0.pre
  have hown : s.vm.findClass y.cls = some m.cls := findClass_of_methodNamed B0.named
  have hD := sp_D_self hD0
  have hl := lv_entry (as.map (sp_cv ad)) (n := nL) (by rw [sp_sl_len, sp_cats]; exact hfit)
  rw [lg_entry_eq]
  generalize (lg_sl (as.map (sp_cv ad)) ++ List.replicate (nL - (lg_sl (as.map (sp_cv ad))).length) Slot.unset).toArray = ls at hl ⊢
  have hlr : sp_lr ad ls nL (sp_ent nL as) := ⟨hl.1, hl.2.1, fun i v h => by
    have := sp_ent_args ad as nL 0 i v h
    rw [Nat.zero_add] at this
    exact hl.2.2 _ this⟩
  have hCx : sp_Cx p (headSpec (sp_wd y cc nL ret) { frames := rf, cells := 0, slots := 0, locals := rl }).room s m (as.map (sp_cv ad)).toArray meth c cc nL y.cls ret rf rl D g ad w :=
    ⟨⟨B0.exec, B0.bytes, hml, hown⟩, fun x hx => hts x (List.mem_cons_of_mem _ hx), hK, hRO, B0.notSynchronized, B0.returns, Nat.le_refl _, Nat.le_refl _⟩
  have key := hrun (fun pc L st S => ∀ (ls : Array Slot) (H : Heap) (locs : List Loc), sp_lr ad ls nL L → va_P D vwCl (sp_ws g ad w.1 S) H → va_D (sp_A ad w.1.length) (sp_ws g ad w.1 S) → va_S (sp_A ad w.1.length) s.heap H locs →
    W p l e (headSpec (sp_wd y cc nL ret) { frames := rf, cells := 0, slots := 0, locals := rl }).room s m (as.map (sp_cv ad)).toArray below meth c H locs 0 0 (MQ below (sp_Qc D g ad w Q') (as.map (sp_cv ad)).toArray s 0 0 (sp_A ad w.1.length)) (F0 m pc ls (st.map (sp_cv ad)))) (by
    rintro pc L st S ⟨P', hP', hB⟩ ls H locs h1 h2 h3 h4
    exact hsd w Q' P' pc p l e _ s m _ below meth c D g ad hCx (fun t L st S ls H locs h1 h2 h3 h4 hk => hP' t L st S hk ls H locs h1 h2 h3 h4) L st S ls H locs h1 h2 h3 h4 hB)
  refine sp_W_mono (key ls s.heap [] hlr hP hD va_S.rf) ?_
  rintro t ⟨o, h1, h2, ⟨⟨rv, S', h3, h4, h5⟩, h6⟩, h7⟩
  exact ⟨o, h1, h2, ⟨⟨rv, S', h3, hQ _ _ h4, h5⟩, h6⟩, h7⟩
theorem ok_jump {cc : ByteArray} {nL : Nat} {own : String} {ret : Option FieldType} {rf rl : Nat} {w : sp_W} {Q : sp_R} {P : Nat → sp_K} {t : Nat} : sp_Ok cc nL own ret rf rl w Q P t (P t) := fun _ _ _ _ _ _ _ _ _ _ _ _ _ _ h => h t
theorem ok_if {cc : ByteArray} {nL : Nat} {own : String} {ret : Option FieldType} {rf rl : Nat} {w : sp_W} {Q : sp_R} {P : Nat → sp_K} {n : Nat} {b : sp_K} {F : Nat → sp_K} (h1 : sp_Ok cc nL own ret rf rl w Q P n b) (h2 : ∀ pc, sp_Ok cc nL own ret rf rl w Q P pc (F pc)) (pc : Nat) : sp_Ok cc nL own ret rf rl w Q P pc (if pc = n then b else F pc) := by
  by_cases h : pc = n
  · subst h
    rw [if_pos rfl]
    exact h1
  · rw [if_neg h]
    exact h2 pc
theorem ok_no {cc : ByteArray} {nL : Nat} {own : String} {ret : Option FieldType} {rf rl : Nat} {w : sp_W} {Q : sp_R} {P : Nat → sp_K} (pc : Nat) : sp_Ok cc nL own ret rf rl w Q P pc (fun _ _ _ => False) := fun _ _ _ _ _ _ _ _ _ _ _ _ _ _ _ _ _ _ _ _ _ _ _ _ _ h => h.elim
