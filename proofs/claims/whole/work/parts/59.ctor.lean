/-! constructors: worlds that grow -/
def sp_wz (g : sp_G) (ad : Nat → Nat) (b : Nat) (sk : List sp_C) (S : sp_M) : va_W := sk.mapIdx (fun i c => (ad (b + i), sp_ce g ad S (b + i) c))
theorem sp_wz_0 {g : sp_G} {ad : Nat → Nat} {sk : List sp_C} {S : sp_M} : sp_ws g ad sk S = sp_wz g ad 0 sk S := by
  unfold sp_ws sp_wz
  refine congrArg (fun f => List.mapIdx f sk) (funext fun i => funext fun c => ?_)
  rw [Nat.zero_add]
theorem sp_wz_app {g : sp_G} {ad : Nat → Nat} {b : Nat} {S : sp_M} {s1 s2 : List sp_C} : sp_wz g ad b (s1 ++ s2) S = sp_wz g ad b s1 S ++ sp_wz g ad (b + s1.length) s2 S := by
  unfold sp_wz
  rw [List.mapIdx_append]
  congr 2
  funext i c
  rw [show b + (i + s1.length) = b + s1.length + i by omega]
theorem sp_wz_len {g : sp_G} {ad : Nat → Nat} {b : Nat} {sk : List sp_C} {S : sp_M} : (sp_wz g ad b sk S).length = sk.length := by
  unfold sp_wz
  rw [List.length_mapIdx]
/-- the addresses that a cell's shape names -/
def sp_rf : sp_C → Nat → Prop
  | .inl _, _ => False
  | .inr (.inl (_, _, f)), r => ∃ j, f j = some r
  | .inr (.inr (_, fs)), r => (Sum.inl (some r) : sp_F) ∈ fs
theorem sp_ce_ad {g : sp_G} {ad ad' : Nat → Nat} {S : sp_M} {a : Nat} {c : sp_C} (h : ∀ r, sp_rf c r → ad r = ad' r) : sp_ce g ad S a c = sp_ce g ad' S a c := by
  rcases c with n | ⟨t, n, f⟩ | ⟨ci, fs⟩
  · rfl
  · have e : (fun j => (f j).map ad) = (fun j => (f j).map ad') := by
      funext j
      cases hj : f j with
      | none => rfl
      | some r =>
        simp only [Option.map_some]
        rw [h r ⟨j, hj⟩]
    simp only [sp_ce]
    rw [e]
  · have e : fs.mapIdx (fun k f => sp_cv ad (sp_gv S a k f)) = fs.mapIdx (fun k f => sp_cv ad' (sp_gv S a k f)) := by
      apply List.ext_getElem?
      intro k
      rw [List.getElem?_mapIdx, List.getElem?_mapIdx]
      cases hk : fs[k]? with
      | none => rfl
      | some f =>
        simp only [Option.map_some]
        rcases f with (_ | r) | (_ | _)
        · rfl
        · show some (Value.ref (ad r)) = some (Value.ref (ad' r))
          rw [h r (List.mem_of_getElem? hk)]
        · rfl
        · rfl
    simp only [sp_ce]
    rw [e]
theorem sp_wz_eq {g : sp_G} {ad ad' : Nat → Nat} {b : Nat} {sk : List sp_C} {S S' : sp_M} (h1 : ∀ i, i < sk.length → ad (b + i) = ad' (b + i)) (h2 : ∀ c ∈ sk, ∀ r, sp_rf c r → ad r = ad' r) (h3 : ∀ i, i < sk.length → S'.1 (b + i) = S.1 (b + i) ∧ S'.2.1 (b + i) = S.2.1 (b + i) ∧ S'.2.2 (b + i) = S.2.2 (b + i)) : sp_wz g ad b sk S = sp_wz g ad' b sk S' := by
  apply List.ext_getElem?
  intro i
  unfold sp_wz
  rw [List.getElem?_mapIdx, List.getElem?_mapIdx]
  cases hk : sk[i]? with
  | none => rfl
  | some c =>
    have hi := (List.getElem?_eq_some_iff.mp hk).1
    simp only [Option.map_some]
    rw [h1 i hi, sp_ce_ad (h2 c (List.mem_of_getElem? hk)), sp_ce_same (h3 i hi).1 (h3 i hi).2.1 (h3 i hi).2.2 c]
def rfB (sk : List sp_C) (b : Nat) : Prop := ∀ c ∈ sk, ∀ r, sp_rf c r → r < b
theorem rfB.nil {b : Nat} : rfB [] b := fun c h => absurd h List.not_mem_nil
theorem rfB.cons {c : sp_C} {sk : List sp_C} {b : Nat} (h : ∀ r, sp_rf c r → r < b) (t : rfB sk b) : rfB (c :: sk) b := fun d hd => by
  rcases List.mem_cons.mp hd with rfl | hd
  · exact h
  · exact t d hd
theorem rfB.app {s1 s2 : List sp_C} {b : Nat} (h1 : rfB s1 b) (h2 : rfB s2 b) : rfB (s1 ++ s2) b := fun d hd => (List.mem_append.mp hd).elim (h1 d) (h2 d)
theorem rfB.up {sk : List sp_C} {b b' : Nat} (h : rfB sk b) (hb : b ≤ b') : rfB sk b' := fun c hc r hr => Nat.lt_of_lt_of_le (h c hc r hr) hb
theorem rf_i {n r b : Nat} (h : sp_rf (.inl n) r) : r < b := False.elim h
theorem getD_mem {l : List (Option Nat)} {j r : Nat} (h : l.getD j none = some r) : some r ∈ l := by
  rw [List.getD_eq_getElem?_getD] at h
  cases hj : l[j]? with
  | none => rw [hj] at h; cases h
  | some x =>
    rw [hj] at h
    have : x = some r := h
    subst this
    exact List.mem_of_getElem? hj
theorem sp_wz_more {g : sp_G} {ad : Nat → Nat} {b0 : Nat} {pre sk : List sp_C} {S : sp_M} {u : (Nat → Nat) × sp_M} {b : Nat} (hb : b0 + pre.length = b) (hrf : rfB pre b) (h1 : ∀ i, i < b ∨ b + sk.length ≤ i → u.1 i = ad i) (h2 : eqOff (fun a => b ≤ a ∧ a < b + sk.length) S u.2) : sp_wz g ad b0 pre S ++ sp_wz g u.1 b sk u.2 = sp_wz g u.1 b0 (pre ++ sk) u.2 := by
  subst hb
  rw [sp_wz_app]
  congr 1
  exact sp_wz_eq (fun i hi => (h1 _ (Or.inl (by omega))).symm) (fun c hc r hr => (h1 r (Or.inl (hrf c hc r hr))).symm) (fun i hi => h2 _ (by omega))
/-! what nobody writes -/
theorem va_AOA.moved {ty : FieldType} {u U : State} (hvm : u.vm.Alike U.vm) (h : va_AOA ty u) : va_AOA ty U := Jvm.Stand.arrayOver_alikeB hvm h
def ctRO (z : Nat) (st : Nat → Nat) (U : State) : Prop := (∀ x ∈ sp_nest, va_Nw x U) ∧ (va_AO "SpanSpotter$Line" U ∧ va_AOA .int U) ∧ ∀ i, i < 5 → va_Z "SpanSpotter" (sp_sn i) "[I" (.ref (st i)) (fun q => z ≤ q) U U.heap ∧ va_T .int (st i) (sp_ro i).1 (fun j => .int ((sp_ro i).2 j)) (fun q => z ≤ q) U U.heap
theorem ctRO.mv {z : Nat} {st : Nat → Nat} {s U : State} (h : ctRO z st s) (hW : s.WarmedH U.vm) (hk : ∀ a : Nat, a < s.heap.size → ¬ z ≤ a → U.heap[a]? = s.heap[a]?) : ctRO z st U := by
  refine ⟨fun x hx => sp_isN_warm (List.mem_filter.mp hx).2 hW (h.1 x hx), ⟨va_AO.moved hW.alike h.2.1.1, va_AOA.moved hW.alike h.2.1.2⟩, fun i hi => ?_⟩
  obtain ⟨h1, h2⟩ := h.2.2 i hi
  exact ⟨(h1.moved hW.alike).kept hk, (h2.moved hW.alike).kept hk⟩
theorem ctRO.blind {z : Nat} {st : Nat → Nat} {U : State} {g : JFrame} {mk : MethodId} {a : Array Value} (h : ctRO z st U) : ctRO z st (U.calling g mk a) := by
  refine ⟨fun x hx => va_Nw.same (sp_isN_on (List.mem_filter.mp hx).2) (u := U) rfl (h.1 x hx), ⟨va_AO.moved (u := U) (U := U.calling g mk a) (Vm.Alike.refl U.vm) h.2.1.1, va_AOA.moved (u := U) (U := U.calling g mk a) (Vm.Alike.refl U.vm) h.2.1.2⟩, fun i hi => ?_⟩
  obtain ⟨h1, h2⟩ := h.2.2 i hi
  exact ⟨va_Z.moved (u := U) (U := U.calling g mk a) (Vm.Alike.refl U.vm) h1, va_T.moved (u := U) (U := U.calling g mk a) (Vm.Alike.refl U.vm) h2⟩
theorem ctRO.sp {z : Nat} {st ad : Nat → Nat} {w : sp_W} {U : State} (h : ctRO z st U) (hw : w.2 = sp_ro) (had : ∀ i, i < 5 → ad (1000 + i) = st i) (hge : ∀ i, i < w.1.length → z ≤ ad i) : sp_RO ad w U := by
  refine ⟨h.1, fun i hi => ?_⟩
  rw [had i hi, hw]
  obtain ⟨h1, h2⟩ := h.2.2 i hi
  exact ⟨h1.narrow (fun q hq => by obtain ⟨j, hj, rfl⟩ := hq; exact hge j hj), h2.narrow (fun q hq => by obtain ⟨j, hj, rfl⟩ := hq; exact hge j hj)⟩
/-! what a constructor is called with, and what it leaves -/
def ctPc (D : va_G) (g : sp_G) (st : Nat → Nat) (z h0 sz ci : Nat) (fs0 ex : List Value) : Array Value → State → Prop := va_Pc (.ref h0 :: ex) (fun U => U.heap.size = sz ∧ va_P D vwCl [(h0, .inr (ci, fs0))] U.heap ∧ va_K D vwCl (sp_ty g) U ∧ va_D (fun _ => True) [(h0, .inr (ci, fs0))] ∧ ctRO z st U ∧ z ≤ h0 ∧ z ≤ sz)
def ctQ (D : va_G) (g : sp_G) (b : Nat) (sk : List sp_C) (ad : Nat → Nat) (S : sp_M) (post : sp_M → sp_M → Prop) (h0 sz ci : Nat) (fs0 : List Value) : Array Value → State → Outcome → State → Prop :=
  va_Qv (fun u : (Nat → Nat) × sp_M => u.1 b = h0 ∧ (∀ i, i < b ∨ b + sk.length ≤ i → u.1 i = ad i) ∧ eqOff (fun a => b ≤ a ∧ a < b + sk.length) S u.2 ∧ post S u.2) (fun u t => va_P D vwCl (sp_wz g u.1 b sk u.2) t.heap ∧ va_D (va_A [(h0, .inr (ci, fs0))] sz) (sp_wz g u.1 b sk u.2)) (va_A [(h0, .inr (ci, fs0))] sz)
def ctMet (l : Launch) (y : MethodName) (cc : ByteArray) (nL rf mc ms rl ci : Nat) (fs0 : List Value) (b : Nat) (sk : List sp_C) (pre : (Nat → Nat) → sp_M → List Value → Prop) (post : sp_M → sp_M → Prop) : Prop :=
  ∀ (D : va_G) (g : sp_G) (st : Nat → Nat) (z h0 sz : Nat) (ad : Nat → Nat) (S : sp_M) (ex : List Value), pre ad S ex →
    Met l y (sp_wd y cc nL none) { frames := rf, cells := mc, slots := ms, locals := rl } (ctPc D g st z h0 sz ci fs0 ex) (ctQ D g b sk ad S post h0 sz ci fs0) mc ms (va_A [(h0, .inr (ci, fs0))] sz)
theorem ctPc_blind {D : va_G} {g : sp_G} {st : Nat → Nat} {z h0 sz ci : Nat} {fs0 ex : List Value} : FrameBlind (ctPc D g st z h0 sz ci fs0 ex) := by
  intro a U gg mk h
  obtain ⟨h0, h1, h2, h3, h4, h5, h6, h7⟩ := h
  exact ⟨h0, h1, h2, va_K.moved (u := U) (U := U.calling gg mk a) (Vm.Alike.refl U.vm) h3, h4, h5.blind, h6, h7⟩
def ctX (p : Program) (s : State) (m : MethodId) (args : Array Value) (c : Code) (cc : ByteArray) (nL : Nat) (own : String) (D : va_G) (g : sp_G) (z : Nat) (st : Nat → Nat) (A : Nat → Prop) : Prop :=
  (p.tables.exec = Jvm.exec ∧ c.code = cc ∧ c.maxLocals = nL ∧ s.vm.findClass own = some m.cls) ∧ (∀ x ∈ sp_tbl, x.before args s = true) ∧ va_K D vwCl (sp_ty g) s ∧ ctRO z st s ∧ (∀ a, ¬ z ≤ a → ¬ A a) ∧ (∀ q, s.heap.size ≤ q → A q) ∧ z ≤ s.heap.size
section CT
variable {p : Program} {l : Launch} {e : Env} {R : Room} {s : State} {m : MethodId} {args : Array Value} {below : List Frame} {meth : Method} {c : Code} {H : Heap} {locs : List Loc} {cells slots : Nat} {Qw : State → Prop} {cc : ByteArray} {pc nL : Nat} {ls : Array Slot} {rest : List Value} {D : va_G} {g : sp_G} {A : Nat → Prop} {own : String} {z : Nat} {st : Nat → Nat} {X pl : va_W}
theorem ct_int (hK : va_K D vwCl (sp_ty g) s) {cA : ClassId} (h : va_K D vwCl (sp_ty g ++ [(cA, .int)]) s) : cA = g.1 := by
  have h1 := (hK.2 0 (g.1, .int) rfl).2
  have h2 := (h.2 3 (cA, .int) rfl).2
  exact Option.some.inj (h2.symm.trans h1)
theorem ct_new (C : ctX p s m args c cc nL own D g z st A) (hP : va_P D vwCl (X ++ pl) H) (hD : va_D A (X ++ pl)) (hS : va_S A s.heap H locs) {C' : String} {T : u_T} {N ci : Nat} (hc : vwCl[ci]? = some (C', T, N)) (hin : ∀ x ∈ u_ws C' T N, x ∈ sp_tbl) (ty : Nat → FieldType) (hty : ∀ k, k < N → parseFieldDescriptor (T k).2.2.1 = some (ty k)) {index : Nat} (q1 : Cond.classLink own index C' ∈ sp_tbl) (q2 : Cond.instantiable C' N ∈ sp_tbl) (q3 : Cond.initialized C' ∈ sp_tbl) {fs : List Value} (hfs : ∀ j, j < N → defaultValue (ty j) = vp_V fs j) (hcells : cells + 1 ≤ R.cells) (hslots : slots + N ≤ R.slots) (d : decode cc pc = .ok (.new index, 3)) (d2 : decode cc (pc + 3) = .ok (.dup, 1))
    (kk : ∀ (q : Nat) (H1 : Heap), z ≤ q → va_P D vwCl ((X ++ [(q, .inr (ci, fs))]) ++ pl) H1 → va_D A ((X ++ [(q, .inr (ci, fs))]) ++ pl) → va_S A s.heap H1 locs → W p l e R s m args below meth c H1 locs (cells + 1) (slots + N) Qw (F0 m (pc + 4) ls (.ref q :: .ref q :: rest))) : W p l e R s m args below meth c H locs cells slots Qw (F0 m pc ls rest) := by
  obtain ⟨⟨hx, hb, hml, hown⟩, hts, hK, hRO, hz, hA, hzs⟩ := C
  refine va_new (C := C') (T := T) (N := N) (ci := ci) (fs := fs) hx hb hts hin ty hty hown (hts _ q1) (hts _ q2) (hts _ q3) hK hP hD hS hA hc hfs hcells hslots d (fun q H1 hP1 hD1 hS1 => ?_)
  refine lv_dup hx hb d2 rfl ?_
  have hq : z ≤ q := Classical.not_not.mp (fun hn => hz q hn (hD1.2 (X ++ pl).length (q, .inr (ci, fs)) (by rw [List.getElem?_append_right (Nat.le_refl _), Nat.sub_self]; rfl)))
  exact kk q H1 hq hP1.swap hD1.swap hS1
theorem ct_callI {q ci b mc ms : Nat} {fs0 : List Value} {sk : List sp_C} {ad : Nat → Nat} {S : sp_M} {post : sp_M → sp_M → Prop} {a : Array Value} {st0 : List Value} (C : ctX p s m args c cc nL own D g z st A) (hr : va_Run p l e R s m args below meth c H locs cells slots mc ms (F0 m pc ls st0) rest (ctQ D g b sk ad S post q H.size ci fs0 a) (va_A [(q, .inr (ci, fs0))] H.size)) (hP : va_P D vwCl ((X ++ [(q, .inr (ci, fs0))]) ++ pl) H) (hD : va_D A ((X ++ [(q, .inr (ci, fs0))]) ++ pl)) (hS : va_S A s.heap H locs) (isC isR : List Nat) (hC : isC.map (fun i => (X ++ [(q, .inr (ci, fs0))])[i]?) = ([(q, .inr (ci, fs0))] : va_W).map some) (hR : isR.map (fun i => (X ++ [(q, .inr (ci, fs0))])[i]?) = X.map some) (hn : va_nd isR = true) (hdis : ∀ i ∈ isR, i ∉ isC)
    (kk : ∀ (u : (Nat → Nat) × sp_M) (H1 : Heap) (locs1 : List Loc), u.1 b = q → (∀ i, i < b ∨ b + sk.length ≤ i → u.1 i = ad i) → eqOff (fun a => b ≤ a ∧ a < b + sk.length) S u.2 → post S u.2 → va_P D vwCl (X ++ (pl ++ sp_wz g u.1 b sk u.2)) H1 → va_D A (X ++ (pl ++ sp_wz g u.1 b sk u.2)) → va_S A s.heap H1 locs1 → W p l e R s m args below meth c H1 locs1 (cells + mc) (slots + ms) Qw (F0 m (pc + 3) ls rest)) : W p l e R s m args below meth c H locs cells slots Qw (F0 m pc ls st0) := by
  obtain ⟨-, -, -, -, hz, hA, hzs⟩ := C
  have hF : ∀ q', va_A [(q, .inr (ci, fs0))] H.size q' → A q' := by
    rintro q' (⟨k, e', h⟩ | h)
    · have h0 : k < 1 := (List.getElem?_eq_some_iff.mp h).1
      rw [show k = 0 by omega] at h
      cases h
      exact hD.2 X.length (q, .inr (ci, fs0)) (by rw [List.getElem?_append_left (by simp), List.getElem?_append_right (Nat.le_refl _), Nat.sub_self]; rfl)
    · exact hA q' (Nat.le_trans hS.1 h)
  refine va_callv hr hS (fun q' _ h => hF q' h) hF (fun u t H1 locs1 ht hvm hpost hB hz1 hk hS1 => ?_)
  obtain ⟨hP1, hD1⟩ := hB
  rw [ht] at hP1
  obtain ⟨hP2, hD2⟩ := va_joinQ (X := X ++ [(q, .inr (ci, fs0))]) (cx := [(q, .inr (ci, fs0))]) (wr := X) (pl := pl) hP hD isC isR hC hR hn hdis hk hF hP1 hD1
  have hP3 := hP2.swap
  have hD3 := hD2.swap
  rw [List.append_assoc] at hP3 hD3
  exact kk u H1 locs1 hpost.1 hpost.2.1 hpost.2.2.1 hpost.2.2.2 hP3 hD3 hS1
theorem ct_pre {q ci : Nat} {fs0 ex : List Value} (C : ctX p s m args c cc nL own D g z st A) (hq : z ≤ q) (hP : va_P D vwCl ((X ++ [(q, .inr (ci, fs0))]) ++ pl) H) (hS : va_S A s.heap H locs) : PreS s H (ctPc D g st z q H.size ci fs0 ex) (.ref q :: ex) := by
  obtain ⟨-, -, hK, hRO, hz, hA, hzs⟩ := C
  have hP1 : va_P D vwCl [(q, .inr (ci, fs0))] H := fun k x hx => by
    have h0 : k < 1 := (List.getElem?_eq_some_iff.mp hx).1
    rw [show k = 0 by omega] at hx
    cases hx
    exact hP X.length _ (by rw [List.getElem?_append_left (by simp), List.getElem?_append_right (Nat.le_refl _), Nat.sub_self]; rfl)
  refine ⟨ctPc_blind, fun U hU hW => ⟨rfl, by rw [hU], by rw [hU]; exact hP1, va_K.moved hW.alike hK, ⟨fun i j x y hi hj _ => ?_, fun _ _ _ => trivial⟩, hRO.mv hW (fun a h1 h2 => by rw [hU]; exact hS.2.1 a h1 (hz a h2)), hq, Nat.le_trans hzs hS.1⟩⟩
  have h1 := (List.getElem?_eq_some_iff.mp hi).1
  have h2 := (List.getElem?_eq_some_iff.mp hj).1
  have e1 : ([(q, .inr (ci, fs0))] : va_W).length = 1 := rfl
  omega
theorem ct_runI {y : MethodName} {cc' : ByteArray} {nL' rf' mc ms rl' ci b n index q : Nat} {fs0 ex st0 : List Value} {sk : List sp_C} {pre : (Nat → Nat) → sp_M → List Value → Prop} {post : sp_M → sp_M → Prop} {ad : Nat → Nat} {S : sp_M} (C : ctX p s m args c cc nL own D g z st A) (hM : ctMet l y cc' nL' rf' mc ms rl' ci fs0 b sk pre post) (hpre : pre ad S ex) (hq : z ≤ q) (hP : va_P D vwCl ((X ++ [(q, .inr (ci, fs0))]) ++ pl) H) (hS : va_S A s.heap H locs) (qc : Cond.code y cc' nL' none ∈ sp_tbl) (q1 : Cond.methodLink own index y ∈ sp_tbl) (q2 : Cond.instanceMethod y ∈ sp_tbl) (q3 : Cond.initialized y.cls ∈ sp_tbl) (hy : y.name = "<init>") (hd : y.cls ≠ "java/lang/invoke/MethodHandle" ∧ y.cls ≠ "java/lang/invoke/VarHandle" ∧ (parseMethodDescriptor y.desc).map (fun d => d.parameters.length) = some n) (hR : rf' + 1 ≤ R.frames ∧ 8 + (nL' + 11) + rl' ≤ R.locals) (hn : ex.length = n) (hsize : ls.size = nL) (hst : st0 = ex.reverse ++ .ref q :: rest) (hw : (rest.map fun v => v.category).sum ≤ 8) (d : decode cc pc = .ok (.invokespecial index, 3)) (hf : cells + mc ≤ R.cells ∧ slots + ms ≤ R.slots) :
    va_Run p l e R s m args below meth c H locs cells slots mc ms (F0 m pc ls st0) rest (ctQ D g b sk ad S post q H.size ci fs0 (Value.ref q :: ex).toArray) (va_A [(q, .inr (ci, fs0))] H.size) := by
  have hPr := ct_pre (ex := ex) C hq hP hS
  obtain ⟨⟨hx, hb, hml, hown⟩, hts, hK, hRO, hz, hA, hzs⟩ := C
  exact va_runI (As := ex) (rest := rest) (Ts := sp_tbl) ⟨hx, hb, hml, hown, hts⟩ (hM D g st z q H.size ad S ex hpre) (cwI n hts (sp_goodIn qc (fun _ h => h)) rfl rfl rfl (hts _ q3) (hts _ q1) (hts _ q2) hy hd hR) hPr rfl hn hsize hst (lv_room hw) d hf
theorem ct_runIN {y : MethodName} {cc' : ByteArray} {nL' rf' mc ms rl' ci b n index q : Nat} {host : String} {fs0 ex st0 : List Value} {sk : List sp_C} {pre : (Nat → Nat) → sp_M → List Value → Prop} {post : sp_M → sp_M → Prop} {ad : Nat → Nat} {S : sp_M} (C : ctX p s m args c cc nL own D g z st A) (hM : ctMet l y cc' nL' rf' mc ms rl' ci fs0 b sk pre post) (hpre : pre ad S ex) (hq : z ≤ q) (hP : va_P D vwCl ((X ++ [(q, .inr (ci, fs0))]) ++ pl) H) (hS : va_S A s.heap H locs) (qc : Cond.code y cc' nL' none ∈ sp_tbl) (q1 : Cond.methodLinkNest own index y host ∈ sp_nest) (q2 : Cond.instanceMethod y ∈ sp_tbl) (q3 : Cond.initialized y.cls ∈ sp_tbl) (hy : y.name = "<init>") (hd : y.cls ≠ "java/lang/invoke/MethodHandle" ∧ y.cls ≠ "java/lang/invoke/VarHandle" ∧ (parseMethodDescriptor y.desc).map (fun d => d.parameters.length) = some n) (hR : rf' + 1 ≤ R.frames ∧ 8 + (nL' + 11) + rl' ≤ R.locals) (hn : ex.length = n) (hsize : ls.size = nL) (hst : st0 = ex.reverse ++ .ref q :: rest) (hw : (rest.map fun v => v.category).sum ≤ 8) (d : decode cc pc = .ok (.invokespecial index, 3)) (hf : cells + mc ≤ R.cells ∧ slots + ms ≤ R.slots) :
    va_Run p l e R s m args below meth c H locs cells slots mc ms (F0 m pc ls st0) rest (ctQ D g b sk ad S post q H.size ci fs0 (Value.ref q :: ex).toArray) (va_A [(q, .inr (ci, fs0))] H.size) := by
  have hPr := ct_pre (ex := ex) C hq hP hS
  obtain ⟨⟨hx, hb, hml, hown⟩, hts, hK, hRO, hz, hA, hzs⟩ := C
  exact va_runIN (As := ex) (rest := rest) (Ts := sp_tbl) ⟨hx, hb, hml, hown, hts⟩ (hM D g st z q H.size ad S ex hpre) ⟨va_cnB (Ts := sp_tbl) n hts (sp_goodIn qc (fun _ h => h)) rfl rfl rfl (hRO.1 _ q1) (hts _ q3) hd hR, hy, hts _ q2⟩ hPr rfl hn hsize hst (lv_room hw) d hf
/-- a final field of the object that is made -/
theorem ct_putF (C : ctX p s m args c cc nL own D g z st A) (hinit : meth.name = "<init>") {T : u_T} {N ci h0 : Nat} {fs : List Value} {ws : va_W} (hc : vwCl[ci]? = some (own, T, N)) (hin : ∀ x ∈ u_ws own T N, x ∈ sp_tbl) (ty0 : Nat → FieldType) (hty : ∀ k, k < N → parseFieldDescriptor (T k).2.2.1 = some (ty0 k)) (hnm : ∀ a, a < N → ∀ b, b < N → a ≠ b → (T a).2.1 ≠ (T b).2.1) (hP : va_P D vwCl ((h0, .inr (ci, fs)) :: ws) H) (hD : va_D A ((h0, .inr (ci, fs)) :: ws)) (hS : va_S A s.heap H locs) (k : Nat) (hk : k < N) {index : Nat} (q1 : Cond.fieldLink own index own (T k).2.1 (T k).2.2.1 ∈ sp_tbl) (hdecl : (T k).1 = own) (hfin : (T k).2.2.2 = true) {ty : FieldType} {v : Value} (hd : parseFieldDescriptor (T k).2.2.1 = some ty) (hn : narrow ty v = v) (hfit : fits ty v = true) (hl : k < fs.length) (d : decode cc pc = .ok (.putfield index, 3))
    (kk : ∀ (H1 : Heap) (locs1 : List Loc), va_P D vwCl ((h0, .inr (ci, fs.set k v)) :: ws) H1 → va_D A ((h0, .inr (ci, fs.set k v)) :: ws) → va_S A s.heap H1 locs1 → W p l e R s m args below meth c H1 locs1 cells slots Qw (F0 m (pc + 3) ls rest)) : W p l e R s m args below meth c H locs cells slots Qw (F0 m pc ls (v :: .ref h0 :: rest)) := by
  obtain ⟨⟨hx, hb, hml, hown⟩, hts, hK, hRO, hz, hA, hzs⟩ := C
  exact va_putF (C := own) (T := T) (N := N) (ci := ci) (ref := own) hx hb hts hin ty0 hty hnm hown hK hP hD hS 0 rfl hc k hk (hts _ q1) (fun x h => by rw [hdecl] at h; exact h) hfin hinit hdecl hd hn hfit hl d (fun H1 locs1 h1 h2 h3 => kk H1 locs1 h1 h2 h3)
/-- a field that is not final -/
theorem ct_put (C : ctX p s m args c cc nL own D g z st A) {T : u_T} {N ci h0 : Nat} {fs : List Value} {ws : va_W} (hc : vwCl[ci]? = some (own, T, N)) (hin : ∀ x ∈ u_ws own T N, x ∈ sp_tbl) (ty0 : Nat → FieldType) (hty : ∀ k, k < N → parseFieldDescriptor (T k).2.2.1 = some (ty0 k)) (hnm : ∀ a, a < N → ∀ b, b < N → a ≠ b → (T a).2.1 ≠ (T b).2.1) (hP : va_P D vwCl ((h0, .inr (ci, fs)) :: ws) H) (hD : va_D A ((h0, .inr (ci, fs)) :: ws)) (hS : va_S A s.heap H locs) (k : Nat) (hk : k < N) {index : Nat} (q1 : Cond.fieldLink own index own (T k).2.1 (T k).2.2.1 ∈ sp_tbl) (hdecl : (T k).1 = own) (hfin : (T k).2.2.2 = false) {ty : FieldType} {v : Value} (hd : parseFieldDescriptor (T k).2.2.1 = some ty) (hn : narrow ty v = v) (hfit : fits ty v = true) (hl : k < fs.length) (d : decode cc pc = .ok (.putfield index, 3))
    (kk : ∀ (H1 : Heap) (locs1 : List Loc), va_P D vwCl ((h0, .inr (ci, fs.set k v)) :: ws) H1 → va_D A ((h0, .inr (ci, fs.set k v)) :: ws) → va_S A s.heap H1 locs1 → W p l e R s m args below meth c H1 locs1 cells slots Qw (F0 m (pc + 3) ls rest)) : W p l e R s m args below meth c H locs cells slots Qw (F0 m pc ls (v :: .ref h0 :: rest)) := by
  obtain ⟨⟨hx, hb, hml, hown⟩, hts, hK, hRO, hz, hA, hzs⟩ := C
  exact va_put (C := own) (T := T) (N := N) (ci := ci) (ref := own) hx hb hts hin ty0 hty hnm hown hK hP hD hS 0 rfl hc k hk (hts _ q1) (fun x h => by rw [hdecl] at h; exact h) hfin hd hn hfit hl d (fun H1 locs1 h1 h2 h3 => kk H1 locs1 h1 h2 h3)
theorem ct_get (C : ctX p s m args c cc nL own D g z st A) {T : u_T} {N ci h0 : Nat} {fs : List Value} {ws : va_W} (hc : vwCl[ci]? = some (own, T, N)) (hin : ∀ x ∈ u_ws own T N, x ∈ sp_tbl) (hP : va_P D vwCl ((h0, .inr (ci, fs)) :: ws) H) (k : Nat) (hk : k < N) {index : Nat} (q1 : Cond.fieldLink own index own (T k).2.1 (T k).2.2.1 ∈ sp_tbl) (hdecl : (T k).1 = own) {v : Value} (hv : fs[k]? = some v) (d : decode cc pc = .ok (.getfield index, 3))
    (kk : W p l e R s m args below meth c H locs cells slots Qw (F0 m (pc + 3) ls (v :: rest))) : W p l e R s m args below meth c H locs cells slots Qw (F0 m pc ls (.ref h0 :: rest)) := by
  obtain ⟨⟨hx, hb, hml, hown⟩, hts, hK, hRO, hz, hA, hzs⟩ := C
  exact va_get (C := own) (T := T) (N := N) (ci := ci) (ref := own) hx hb hts hin hown hK hP 0 rfl hc k hk (hts _ q1) (fun x h => by rw [hdecl] at h; exact h) hv d kk
/-- a row of ints into a final field -/
theorem ct_arr (C : ctX p s m args c cc nL own D g z st A) (hinit : meth.name = "<init>") (qa : Cond.arrayClass .int ∈ sp_tbl) {T : u_T} {N ci h0 : Nat} {fs : List Value} {ws : va_W} (hc : vwCl[ci]? = some (own, T, N)) (hin : ∀ x ∈ u_ws own T N, x ∈ sp_tbl) (ty0 : Nat → FieldType) (hty : ∀ k, k < N → parseFieldDescriptor (T k).2.2.1 = some (ty0 k)) (hnm : ∀ a, a < N → ∀ b, b < N → a ≠ b → (T a).2.1 ≠ (T b).2.1) (hP : va_P D vwCl ((h0, .inr (ci, fs)) :: ws) H) (hD : va_D A ((h0, .inr (ci, fs)) :: ws)) (hS : va_S A s.heap H locs) {n : Int32} {N' : Nat} (hn : ¬ n < 0) (hN : n.toNatClampNeg = N') (hbytes : N' * 4 ≤ 536870912) (k : Nat) (hk : k < N) {index : Nat} (q1 : Cond.fieldLink own index own (T k).2.1 (T k).2.2.1 ∈ sp_tbl) (hdecl : (T k).1 = own) (hfin : (T k).2.2.2 = true) (hd : parseFieldDescriptor (T k).2.2.1 = some (.array .int)) (hl : k < fs.length) (hcells : cells + 1 ≤ R.cells) (hslots : slots + N' ≤ R.slots) (d1 : decode cc pc = .ok (.newarray .int, 2)) (d2 : decode cc (pc + 2) = .ok (.putfield index, 3))
    (kk : ∀ (q : Nat) (H1 : Heap) (locs1 : List Loc), va_P D vwCl ((h0, .inr (ci, fs.set k (.ref q))) :: (ws ++ [(q, .inl (g.1, N', .inl (fun _ => 0)))])) H1 → va_D A ((h0, .inr (ci, fs.set k (.ref q))) :: (ws ++ [(q, .inl (g.1, N', .inl (fun _ => 0)))])) → va_S A s.heap H1 locs1 → W p l e R s m args below meth c H1 locs1 (cells + 1) (slots + N') Qw (F0 m (pc + 5) ls rest)) : W p l e R s m args below meth c H locs cells slots Qw (F0 m pc ls (.int n :: .ref h0 :: rest)) := by
  obtain ⟨⟨hx, hb, hml, hown⟩, hts, hK, hRO, hz, hA, hzs⟩ := id C
  refine va_newa (atype := .int) (ty := .int) (a0 := (N', .inl (fun _ => 0))) (N' := N') hx hb (hts _ qa) rfl hK hP hD hS hA (fun cA => rfl) hn hN hbytes hcells hslots d1 (fun q cA H1 hK1 hP1 hD1 hS1 => ?_)
  have ec := ct_int hK hK1
  subst ec
  exact ct_putF (v := .ref q) (ty := .array .int) C hinit hc hin ty0 hty hnm hP1 hD1 hS1 k hk q1 hdecl hfin hd rfl rfl hl d2 (fun H2 locs2 hP2 hD2 hS2 => kk q H2 locs2 hP2 hD2 hS2)
/-- a call of a method over the abstract machine -/
theorem ct_call {w : sp_W} {ad : Nat → Nat} {Q' : sp_R} {a : Array Value} {st0 : List Value} (hr : va_Run p l e R s m args below meth c H locs cells slots 0 0 (F0 m pc ls st0) rest (sp_Qc D g ad w Q' a) (sp_A ad w.1.length)) (hS : va_S A s.heap H locs) (hA : ∀ q, sp_A ad w.1.length q → A q)
    (kk : ∀ (rv : Option Value) (S' : sp_M) (H1 : Heap) (locs1 : List Loc), Q' rv S' → va_P D vwCl (sp_ws g ad w.1 S') H1 → va_S A s.heap H1 locs1 → W p l e R s m args below meth c H1 locs1 cells slots Qw (F0 m (pc + 3) ls ((rv.map (sp_cv ad)).toList ++ rest))) : W p l e R s m args below meth c H locs cells slots Qw (F0 m pc ls st0) := by
  intro T hT X
  obtain ⟨v, st₀, t, T', L, h0, X', hL, e1, e2, ⟨⟨rv, S', hv, hq, hp⟩, hz, hk⟩, st⟩ := hr T hT X
  cases hv
  rw [h0] at hz hk
  obtain ⟨t2, a1, b1⟩ := kk rv S' T'.heap (locs ++ L) hq (by rw [e1]; exact hp)
    ⟨Nat.le_trans hS.1 (by rw [e1]; exact hz), fun q h1 h2 => by rw [e1, hk q (Nat.lt_of_lt_of_le h1 hS.1) (fun z => h2 (hA q z))]; exact hS.2.1 q h1 h2, fun q hq => by
      rcases List.mem_append.mp hq with h | h
      · exact hS.2.2 q h
      · exact hA _ (hL q h)⟩ T' rfl X'
  exact ⟨t2, st t2 a1, b1⟩
theorem ct_preS {w : sp_W} {ad : Nat → Nat} {as : List Value} {S : sp_M} (C : ctX p s m args c cc nL own D g z st A) (hw : w.2 = sp_ro) (had : ∀ i, i < 5 → ad (1000 + i) = st i) (hge : ∀ i, i < w.1.length → z ≤ ad i) (hP : va_P D vwCl (sp_ws g ad w.1 S) H) (hD : va_D A (sp_ws g ad w.1 S)) (hS : va_S A s.heap H locs) : PreS s H (sp_Pc D g ad w as S) (as.map (sp_cv ad)) := by
  obtain ⟨-, -, hK, hRO, hz, hA, hzs⟩ := C
  exact ⟨sp_Pc_blind, fun U hU hW => ⟨rfl, by rw [hU]; exact hP, va_K.moved hW.alike hK, hD.weaken (fun _ _ _ _ => trivial), (hRO.mv hW (fun a h1 h2 => by rw [hU]; exact hS.2.1 a h1 (hz a h2))).sp hw had hge⟩⟩
end CT
