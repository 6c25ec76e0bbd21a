/-! fields, rows, statics, library calls, switches, calls, returns: each is sound -/
theorem sp_gf_spec {sk : List sp_C} {S : sp_M} {a ci fk : Nat} {v : Value} (h : sp_gf sk S a ci fk = some v) : ∃ fs f, sk[a]? = some (.inr (.inr (ci, fs))) ∧ fs[fk]? = some f ∧ v = sp_gv S a fk f := by
  unfold sp_gf at h
  split at h
  · rename_i c' fs hs
    split at h
    · rename_i hc
      subst hc
      cases hf : fs[fk]? with
      | none => rw [hf] at h; cases h
      | some f =>
        rw [hf] at h
        cases h
        exact ⟨fs, f, hs, hf, rfl⟩
    · cases h
  · cases h
theorem sp_pf_spec {sk : List sp_C} {S S' : sp_M} {a ci fk : Nat} {v : Value} (h : sp_pf sk S a ci fk v = some S') : ∃ fs, sk[a]? = some (.inr (.inr (ci, fs))) ∧ ((∃ x, fs[fk]? = some (.inr false) ∧ v = .int x ∧ S' = sp_uI S a fk x) ∨ (∃ x, fs[fk]? = some (.inr true) ∧ v = .long x ∧ S' = sp_uJ S a fk x)) := by
  unfold sp_pf at h
  split at h
  · rename_i c' fs hs
    split at h
    · rename_i hc
      subst hc
      refine ⟨fs, hs, ?_⟩
      split at h
      · rename_i x hf
        cases h
        exact Or.inl ⟨_, hf, rfl, rfl⟩
      · rename_i x hf
        cases h
        exact Or.inr ⟨_, hf, rfl, rfl⟩
      · cases h
    · cases h
  · cases h
theorem sp_setI {g : sp_G} {ad : Nat → Nat} {S : sp_M} {a ci fk : Nat} {fs : List sp_F} {x : Int32} (hf : fs[fk]? = some (.inr false)) : (.inr (ci, (fs.mapIdx (fun k f => sp_cv ad (sp_gv S a k f))).set fk (.int x)) : va_E) = sp_ce g ad (sp_uI S a fk x) a (.inr (.inr (ci, fs))) := by
  show _ = Sum.inr (ci, fs.mapIdx (fun k f => sp_cv ad (sp_gv (sp_uI S a fk x) a k f)))
  congr 2
  apply List.ext_getElem?
  intro i
  rw [List.getElem?_set, List.getElem?_mapIdx, List.getElem?_mapIdx]
  by_cases hi : fk = i
  · subst hi
    have hlt : fk < (fs.mapIdx (fun k f => sp_cv ad (sp_gv S a k f))).length := by
      rw [List.length_mapIdx]; exact (List.getElem?_eq_some_iff.mp hf).1
    rw [if_pos rfl, if_pos hlt, hf]
    simp [sp_gv, sp_uI, va_up, upd, sp_cv]
  · rw [if_neg hi]
    cases fs[i]? with
    | none => rfl
    | some f =>
      have hne : i ≠ fk := fun q => hi q.symm
      rcases f with (_ | b) | (_ | _) <;> simp [sp_gv, sp_uI, va_up, upd, hne]
theorem sp_setJ {g : sp_G} {ad : Nat → Nat} {S : sp_M} {a ci fk : Nat} {fs : List sp_F} {x : Int64} (hf : fs[fk]? = some (.inr true)) : (.inr (ci, (fs.mapIdx (fun k f => sp_cv ad (sp_gv S a k f))).set fk (.long x)) : va_E) = sp_ce g ad (sp_uJ S a fk x) a (.inr (.inr (ci, fs))) := by
  show _ = Sum.inr (ci, fs.mapIdx (fun k f => sp_cv ad (sp_gv (sp_uJ S a fk x) a k f)))
  congr 2
  apply List.ext_getElem?
  intro i
  rw [List.getElem?_set, List.getElem?_mapIdx, List.getElem?_mapIdx]
  by_cases hi : fk = i
  · subst hi
    have hlt : fk < (fs.mapIdx (fun k f => sp_cv ad (sp_gv S a k f))).length := by
      rw [List.length_mapIdx]; exact (List.getElem?_eq_some_iff.mp hf).1
    rw [if_pos rfl, if_pos hlt, hf]
    simp [sp_gv, sp_uJ, va_up, vp_updL, sp_cv]
  · rw [if_neg hi]
    cases fs[i]? with
    | none => rfl
    | some f =>
      have hne : i ≠ fk := fun q => hi q.symm
      rcases f with (_ | b) | (_ | _) <;> simp [sp_gv, sp_uJ, va_up, vp_updL, hne]
theorem sp_uI_ne {S : sp_M} {a k : Nat} {x : Int32} : (∀ b, b ≠ a → (sp_uI S a k x).1 b = S.1 b) ∧ (∀ b, b ≠ a → (sp_uI S a k x).2.1 b = S.2.1 b) ∧ (∀ b, b ≠ a → (sp_uI S a k x).2.2 b = S.2.2 b) := ⟨fun b h => va_up_ne _ _ h, fun _ _ => rfl, fun _ _ => rfl⟩
theorem sp_uJ_ne {S : sp_M} {a k : Nat} {x : Int64} : (∀ b, b ≠ a → (sp_uJ S a k x).1 b = S.1 b) ∧ (∀ b, b ≠ a → (sp_uJ S a k x).2.1 b = S.2.1 b) ∧ (∀ b, b ≠ a → (sp_uJ S a k x).2.2 b = S.2.2 b) := ⟨fun _ _ => rfl, fun b h => va_up_ne _ _ h, fun _ _ => rfl⟩
theorem sp_uR_ne {S : sp_M} {a : Nat} {f : Nat → Int32} : (∀ b, b ≠ a → (sp_uR S a f).1 b = S.1 b) ∧ (∀ b, b ≠ a → (sp_uR S a f).2.1 b = S.2.1 b) ∧ (∀ b, b ≠ a → (sp_uR S a f).2.2 b = S.2.2 b) := ⟨fun _ _ => rfl, fun _ _ => rfl, fun b h => va_up_ne _ _ h⟩
theorem sp_setR {g : sp_G} {ad : Nat → Nat} {S : sp_M} {a n : Nat} {f : Nat → Int32} : (.inl (g.1, n, .inl f) : va_E) = sp_ce g ad (sp_uR S a f) a (.inl n) := by
  simp [sp_ce, sp_uR, va_up]
theorem sp_ia_spec {w : sp_W} {S : sp_M} {a : Nat} {q : Nat × (Nat → Int32)} (h : sp_ia w S a = some q) : (∃ i, i < 5 ∧ a = 1000 + i ∧ q = w.2 i) ∨ (∃ n, w.1[a]? = some (.inl n) ∧ q = (n, S.2.2 a)) := by
  unfold sp_ia at h
  split at h
  · split at h
    · cases h
      exact Or.inl ⟨a - 1000, by omega, by omega, rfl⟩
    · cases h
  · split at h
    · rename_i n hn
      cases h
      exact Or.inr ⟨n, hn, rfl⟩
    · cases h
theorem sp_spl_spec : ∀ (n : Nat) (acc st as r : List Value), sp_spl n acc st = some (as, r) → ∃ fr, st = fr ++ r ∧ fr.length = n ∧ as = fr.reverse ++ acc
  | 0, acc, st, as, r, h => by
    cases h
    exact ⟨[], rfl, rfl, rfl⟩
  | n + 1, acc, [], as, r, h => by cases h
  | n + 1, acc, v :: st, as, r, h => by
    obtain ⟨fr, h1, h2, h3⟩ := sp_spl_spec n (v :: acc) st as r h
    exact ⟨v :: fr, by rw [h1]; rfl, by rw [List.length_cons, h2], by rw [h3]; simp⟩
theorem sp_cl_spec {sk : List sp_C} {a ci : Nat} (h : sp_cl sk a = some ci) : ∃ fs, sk[a]? = some (.inr (.inr (ci, fs))) := by
  unfold sp_cl at h
  split at h
  · rename_i c' fs hs
    cases h
    exact ⟨fs, hs⟩
  · cases h
section SPO
variable {cc : ByteArray} {nL : Nat} {own : String} {ret : Option FieldType} {rf rl : Nat} {w : sp_W} {Q : sp_R} {P : Nat → sp_K} {pc : Nat} {k kt kf kd : sp_K}
theorem ok_getf {C : String} {T : u_T} {N ci fk index : Nat} (hc : vwCl[ci]? = some (C, T, N)) (hin : ∀ x ∈ u_ws C T N, x ∈ sp_tbl) (hfk : fk < N) (hT : (T fk).1 = C) (q : Cond.fieldLink own index C (T fk).2.1 (T fk).2.2.1 ∈ sp_tbl) (d : decode cc pc = .ok (.getfield index, 3)) (h : sp_Ok cc nL own ret rf rl w Q P (pc + 3) k) : sp_Ok cc nL own ret rf rl w Q P pc (o_getf w ci fk k) := by
  intro p l e R s m args below meth c D g ad X hP L st S ls H locs h1 h2 h3 h4 hk
  have h0 := h p l e R s m args below meth c D g ad X hP
  obtain ⟨⟨hx, hb, hml, hown⟩, hts, hK, hRO, hlk, hr, hf1, hf2⟩ := X
  match st, hk with
  | .ref a :: r, hk =>
    simp only [o_getf] at hk
    split at hk
    · rename_i v hv
      obtain ⟨fs, f, e1, e2, e3⟩ := sp_gf_spec hv
      exact va_get (D := D) (ws := sp_ws g ad w.1 S) hx hb hts hin hown hK h2 a (sp_ws_at e1) hc fk hfk (hts _ q) (fun x9 h9 => by rw [← hT]; exact h9) (v := sp_cv ad v) (by rw [List.getElem?_mapIdx, e2, e3]; rfl) d (h0 L (v :: r) S ls H locs h1 h2 h3 h4 hk)
    · exact hk.elim
theorem ok_getfN {C host : String} {T : u_T} {N ci fk index : Nat} (hc : vwCl[ci]? = some (C, T, N)) (hin : ∀ x ∈ u_ws C T N, x ∈ sp_tbl) (hfk : fk < N) (hT : (T fk).1 = C) (q : Cond.fieldLinkNest own index C (T fk).2.1 (T fk).2.2.1 host ∈ sp_nest) (d : decode cc pc = .ok (.getfield index, 3)) (h : sp_Ok cc nL own ret rf rl w Q P (pc + 3) k) : sp_Ok cc nL own ret rf rl w Q P pc (o_getf w ci fk k) := by
  intro p l e R s m args below meth c D g ad X hP L st S ls H locs h1 h2 h3 h4 hk
  have h0 := h p l e R s m args below meth c D g ad X hP
  obtain ⟨⟨hx, hb, hml, hown⟩, hts, hK, hRO, hlk, hr, hf1, hf2⟩ := X
  match st, hk with
  | .ref a :: r, hk =>
    simp only [o_getf] at hk
    split at hk
    · rename_i v hv
      obtain ⟨fs, f, e1, e2, e3⟩ := sp_gf_spec hv
      exact va_getN (D := D) (ws := sp_ws g ad w.1 S) hx hb hts hin hown hK h2 a (sp_ws_at e1) hc fk hfk (va_Nw.use rfl (hRO.1 _ q)) (fun x9 h9 => by rw [← hT]; exact h9) (v := sp_cv ad v) (by rw [List.getElem?_mapIdx, e2, e3]; rfl) d (h0 L (v :: r) S ls H locs h1 h2 h3 h4 hk)
    · exact hk.elim
theorem ok_puti {C : String} {T : u_T} {N ci fk index : Nat} {ty0 : Nat → FieldType} (hc : vwCl[ci]? = some (C, T, N)) (hin : ∀ x ∈ u_ws C T N, x ∈ sp_tbl) (hty : ∀ k, k < N → parseFieldDescriptor (T k).2.2.1 = some (ty0 k)) (hnm : ∀ a, a < N → ∀ b, b < N → a ≠ b → (T a).2.1 ≠ (T b).2.1) (hfk : fk < N) (hT : (T fk).1 = C) (hfin : (T fk).2.2.2 = false) (hty0 : ty0 fk = .int) (q : Cond.fieldLink own index C (T fk).2.1 (T fk).2.2.1 ∈ sp_tbl) (d : decode cc pc = .ok (.putfield index, 3)) (h : sp_Ok cc nL own ret rf rl w Q P (pc + 3) k) : sp_Ok cc nL own ret rf rl w Q P pc (o_puti w ci fk k) := by
  intro p l e R s m args below meth c D g ad X hP L st S ls H locs h1 h2 h3 h4 hk
  have h0 := h p l e R s m args below meth c D g ad X hP
  obtain ⟨⟨hx, hb, hml, hown⟩, hts, hK, hRO, hlk, hr, hf1, hf2⟩ := X
  match st, hk with
  | .int x :: .ref a :: r, hk =>
    simp only [o_puti] at hk
    split at hk
    · rename_i S' hv
      obtain ⟨fs, e1, e2⟩ := sp_pf_spec hv
      rcases e2 with ⟨y, f1, f2, f3⟩ | ⟨y, f1, f2, f3⟩
      · cases f2
        subst f3
        refine va_put (D := D) (ws := sp_ws g ad w.1 S) (v := .int x) hx hb hts hin ty0 hty hnm hown hK h2 h3 h4 a (sp_ws_at e1) hc fk hfk (hts _ q) (fun x9 h9 => by rw [← hT]; exact h9) hfin (hty fk hfk) (by rw [hty0]; rfl) (by rw [hty0]; rfl) (by rw [List.length_mapIdx]; exact (List.getElem?_eq_some_iff.mp f1).1) d (fun H1 locs1 p1 p2 p3 => ?_)
        rw [sp_ws_set e1 sp_uI_ne.1 sp_uI_ne.2.1 sp_uI_ne.2.2 (sp_setI f1)] at p1 p2
        exact h0 L r _ ls H1 locs1 h1 p1 p2 p3 hk
      · cases f2
    · exact hk.elim
theorem ok_putz {C : String} {T : u_T} {N ci fk index : Nat} {ty0 : Nat → FieldType} (hc : vwCl[ci]? = some (C, T, N)) (hin : ∀ x ∈ u_ws C T N, x ∈ sp_tbl) (hty : ∀ k, k < N → parseFieldDescriptor (T k).2.2.1 = some (ty0 k)) (hnm : ∀ a, a < N → ∀ b, b < N → a ≠ b → (T a).2.1 ≠ (T b).2.1) (hfk : fk < N) (hT : (T fk).1 = C) (hfin : (T fk).2.2.2 = false) (hty0 : ty0 fk = .boolean) (q : Cond.fieldLink own index C (T fk).2.1 (T fk).2.2.1 ∈ sp_tbl) (d : decode cc pc = .ok (.putfield index, 3)) (h : sp_Ok cc nL own ret rf rl w Q P (pc + 3) k) : sp_Ok cc nL own ret rf rl w Q P pc (o_putz w ci fk k) := by
  intro p l e R s m args below meth c D g ad X hP L st S ls H locs h1 h2 h3 h4 hk
  have h0 := h p l e R s m args below meth c D g ad X hP
  obtain ⟨⟨hx, hb, hml, hown⟩, hts, hK, hRO, hlk, hr, hf1, hf2⟩ := X
  match st, hk with
  | .int x :: .ref a :: r, hk =>
    simp only [o_putz] at hk
    obtain ⟨hz, hk⟩ := hk
    split at hk
    · rename_i S' hv
      obtain ⟨fs, e1, e2⟩ := sp_pf_spec hv
      rcases e2 with ⟨y, f1, f2, f3⟩ | ⟨y, f1, f2, f3⟩
      · cases f2
        subst f3
        refine va_put (D := D) (ws := sp_ws g ad w.1 S) (v := .int x) hx hb hts hin ty0 hty hnm hown hK h2 h3 h4 a (sp_ws_at e1) hc fk hfk (hts _ q) (fun x9 h9 => by rw [← hT]; exact h9) hfin (hty fk hfk) (by rw [hty0]; rcases hz with z | z <;> subst z <;> rfl) (by rw [hty0]; rcases hz with z | z <;> subst z <;> rfl) (by rw [List.length_mapIdx]; exact (List.getElem?_eq_some_iff.mp f1).1) d (fun H1 locs1 p1 p2 p3 => ?_)
        rw [sp_ws_set e1 sp_uI_ne.1 sp_uI_ne.2.1 sp_uI_ne.2.2 (sp_setI f1)] at p1 p2
        exact h0 L r _ ls H1 locs1 h1 p1 p2 p3 hk
      · cases f2
    · exact hk.elim
theorem ok_putl {C : String} {T : u_T} {N ci fk index : Nat} {ty0 : Nat → FieldType} (hc : vwCl[ci]? = some (C, T, N)) (hin : ∀ x ∈ u_ws C T N, x ∈ sp_tbl) (hty : ∀ k, k < N → parseFieldDescriptor (T k).2.2.1 = some (ty0 k)) (hnm : ∀ a, a < N → ∀ b, b < N → a ≠ b → (T a).2.1 ≠ (T b).2.1) (hfk : fk < N) (hT : (T fk).1 = C) (hfin : (T fk).2.2.2 = false) (hty0 : ty0 fk = .long) (q : Cond.fieldLink own index C (T fk).2.1 (T fk).2.2.1 ∈ sp_tbl) (d : decode cc pc = .ok (.putfield index, 3)) (h : sp_Ok cc nL own ret rf rl w Q P (pc + 3) k) : sp_Ok cc nL own ret rf rl w Q P pc (o_putl w ci fk k) := by
  intro p l e R s m args below meth c D g ad X hP L st S ls H locs h1 h2 h3 h4 hk
  have h0 := h p l e R s m args below meth c D g ad X hP
  obtain ⟨⟨hx, hb, hml, hown⟩, hts, hK, hRO, hlk, hr, hf1, hf2⟩ := X
  match st, hk with
  | .long x :: .ref a :: r, hk =>
    simp only [o_putl] at hk
    split at hk
    · rename_i S' hv
      obtain ⟨fs, e1, e2⟩ := sp_pf_spec hv
      rcases e2 with ⟨y, f1, f2, f3⟩ | ⟨y, f1, f2, f3⟩
      · cases f2
      · cases f2
        subst f3
        refine va_put (D := D) (ws := sp_ws g ad w.1 S) (v := .long x) hx hb hts hin ty0 hty hnm hown hK h2 h3 h4 a (sp_ws_at e1) hc fk hfk (hts _ q) (fun x9 h9 => by rw [← hT]; exact h9) hfin (hty fk hfk) (by rw [hty0]; rfl) (by rw [hty0]; rfl) (by rw [List.length_mapIdx]; exact (List.getElem?_eq_some_iff.mp f1).1) d (fun H1 locs1 p1 p2 p3 => ?_)
        rw [sp_ws_set e1 sp_uJ_ne.1 sp_uJ_ne.2.1 sp_uJ_ne.2.2 (sp_setJ f1)] at p1 p2
        exact h0 L r _ ls H1 locs1 h1 p1 p2 p3 hk
    · exact hk.elim
theorem ok_putiN {C host : String} {T : u_T} {N ci fk index : Nat} {ty0 : Nat → FieldType} (hc : vwCl[ci]? = some (C, T, N)) (hin : ∀ x ∈ u_ws C T N, x ∈ sp_tbl) (hty : ∀ k, k < N → parseFieldDescriptor (T k).2.2.1 = some (ty0 k)) (hnm : ∀ a, a < N → ∀ b, b < N → a ≠ b → (T a).2.1 ≠ (T b).2.1) (hfk : fk < N) (hT : (T fk).1 = C) (hfin : (T fk).2.2.2 = false) (hty0 : ty0 fk = .int) (q : Cond.fieldLinkNest own index C (T fk).2.1 (T fk).2.2.1 host ∈ sp_nest) (d : decode cc pc = .ok (.putfield index, 3)) (h : sp_Ok cc nL own ret rf rl w Q P (pc + 3) k) : sp_Ok cc nL own ret rf rl w Q P pc (o_puti w ci fk k) := by
  intro p l e R s m args below meth c D g ad X hP L st S ls H locs h1 h2 h3 h4 hk
  have h0 := h p l e R s m args below meth c D g ad X hP
  obtain ⟨⟨hx, hb, hml, hown⟩, hts, hK, hRO, hlk, hr, hf1, hf2⟩ := X
  match st, hk with
  | .int x :: .ref a :: r, hk =>
    simp only [o_puti] at hk
    split at hk
    · rename_i S' hv
      obtain ⟨fs, e1, e2⟩ := sp_pf_spec hv
      rcases e2 with ⟨y, f1, f2, f3⟩ | ⟨y, f1, f2, f3⟩
      · cases f2
        subst f3
        refine va_putN (D := D) (ws := sp_ws g ad w.1 S) (v := .int x) hx hb hts hin ty0 hty hnm hown hK h2 h3 h4 a (sp_ws_at e1) hc fk hfk (va_Nw.use rfl (hRO.1 _ q)) (fun x9 h9 => by rw [← hT]; exact h9) hfin (hty fk hfk) (by rw [hty0]; rfl) (by rw [hty0]; rfl) (by rw [List.length_mapIdx]; exact (List.getElem?_eq_some_iff.mp f1).1) d (fun H1 locs1 p1 p2 p3 => ?_)
        rw [sp_ws_set e1 sp_uI_ne.1 sp_uI_ne.2.1 sp_uI_ne.2.2 (sp_setI f1)] at p1 p2
        exact h0 L r _ ls H1 locs1 h1 p1 p2 p3 hk
      · cases f2
    · exact hk.elim
theorem ok_putzN {C host : String} {T : u_T} {N ci fk index : Nat} {ty0 : Nat → FieldType} (hc : vwCl[ci]? = some (C, T, N)) (hin : ∀ x ∈ u_ws C T N, x ∈ sp_tbl) (hty : ∀ k, k < N → parseFieldDescriptor (T k).2.2.1 = some (ty0 k)) (hnm : ∀ a, a < N → ∀ b, b < N → a ≠ b → (T a).2.1 ≠ (T b).2.1) (hfk : fk < N) (hT : (T fk).1 = C) (hfin : (T fk).2.2.2 = false) (hty0 : ty0 fk = .boolean) (q : Cond.fieldLinkNest own index C (T fk).2.1 (T fk).2.2.1 host ∈ sp_nest) (d : decode cc pc = .ok (.putfield index, 3)) (h : sp_Ok cc nL own ret rf rl w Q P (pc + 3) k) : sp_Ok cc nL own ret rf rl w Q P pc (o_putz w ci fk k) := by
  intro p l e R s m args below meth c D g ad X hP L st S ls H locs h1 h2 h3 h4 hk
  have h0 := h p l e R s m args below meth c D g ad X hP
  obtain ⟨⟨hx, hb, hml, hown⟩, hts, hK, hRO, hlk, hr, hf1, hf2⟩ := X
  match st, hk with
  | .int x :: .ref a :: r, hk =>
    simp only [o_putz] at hk
    obtain ⟨hz, hk⟩ := hk
    split at hk
    · rename_i S' hv
      obtain ⟨fs, e1, e2⟩ := sp_pf_spec hv
      rcases e2 with ⟨y, f1, f2, f3⟩ | ⟨y, f1, f2, f3⟩
      · cases f2
        subst f3
        refine va_putN (D := D) (ws := sp_ws g ad w.1 S) (v := .int x) hx hb hts hin ty0 hty hnm hown hK h2 h3 h4 a (sp_ws_at e1) hc fk hfk (va_Nw.use rfl (hRO.1 _ q)) (fun x9 h9 => by rw [← hT]; exact h9) hfin (hty fk hfk) (by rw [hty0]; rcases hz with z | z <;> subst z <;> rfl) (by rw [hty0]; rcases hz with z | z <;> subst z <;> rfl) (by rw [List.length_mapIdx]; exact (List.getElem?_eq_some_iff.mp f1).1) d (fun H1 locs1 p1 p2 p3 => ?_)
        rw [sp_ws_set e1 sp_uI_ne.1 sp_uI_ne.2.1 sp_uI_ne.2.2 (sp_setI f1)] at p1 p2
        exact h0 L r _ ls H1 locs1 h1 p1 p2 p3 hk
      · cases f2
    · exact hk.elim
theorem ok_putlN {C host : String} {T : u_T} {N ci fk index : Nat} {ty0 : Nat → FieldType} (hc : vwCl[ci]? = some (C, T, N)) (hin : ∀ x ∈ u_ws C T N, x ∈ sp_tbl) (hty : ∀ k, k < N → parseFieldDescriptor (T k).2.2.1 = some (ty0 k)) (hnm : ∀ a, a < N → ∀ b, b < N → a ≠ b → (T a).2.1 ≠ (T b).2.1) (hfk : fk < N) (hT : (T fk).1 = C) (hfin : (T fk).2.2.2 = false) (hty0 : ty0 fk = .long) (q : Cond.fieldLinkNest own index C (T fk).2.1 (T fk).2.2.1 host ∈ sp_nest) (d : decode cc pc = .ok (.putfield index, 3)) (h : sp_Ok cc nL own ret rf rl w Q P (pc + 3) k) : sp_Ok cc nL own ret rf rl w Q P pc (o_putl w ci fk k) := by
  intro p l e R s m args below meth c D g ad X hP L st S ls H locs h1 h2 h3 h4 hk
  have h0 := h p l e R s m args below meth c D g ad X hP
  obtain ⟨⟨hx, hb, hml, hown⟩, hts, hK, hRO, hlk, hr, hf1, hf2⟩ := X
  match st, hk with
  | .long x :: .ref a :: r, hk =>
    simp only [o_putl] at hk
    split at hk
    · rename_i S' hv
      obtain ⟨fs, e1, e2⟩ := sp_pf_spec hv
      rcases e2 with ⟨y, f1, f2, f3⟩ | ⟨y, f1, f2, f3⟩
      · cases f2
      · cases f2
        subst f3
        refine va_putN (D := D) (ws := sp_ws g ad w.1 S) (v := .long x) hx hb hts hin ty0 hty hnm hown hK h2 h3 h4 a (sp_ws_at e1) hc fk hfk (va_Nw.use rfl (hRO.1 _ q)) (fun x9 h9 => by rw [← hT]; exact h9) hfin (hty fk hfk) (by rw [hty0]; rfl) (by rw [hty0]; rfl) (by rw [List.length_mapIdx]; exact (List.getElem?_eq_some_iff.mp f1).1) d (fun H1 locs1 p1 p2 p3 => ?_)
        rw [sp_ws_set e1 sp_uJ_ne.1 sp_uJ_ne.2.1 sp_uJ_ne.2.2 (sp_setJ f1)] at p1 p2
        exact h0 L r _ ls H1 locs1 h1 p1 p2 p3 hk
    · exact hk.elim
theorem ok_iald (d : decode cc pc = .ok (.iaload, 1)) (h : sp_Ok cc nL own ret rf rl w Q P (pc + 1) k) : sp_Ok cc nL own ret rf rl w Q P pc (o_iald w k) := by
  intro p l e R s m args below meth c D g ad X hP L st S ls H locs h1 h2 h3 h4 hk
  have h0 := h p l e R s m args below meth c D g ad X hP
  obtain ⟨⟨hx, hb, hml, hown⟩, hts, hK, hRO, hlk, hr, hf1, hf2⟩ := X
  match st, hk with
  | .int i :: .ref a :: r, hk =>
    simp only [o_iald] at hk
    split at hk
    · rename_i q hq
      rcases sp_ia_spec hq with ⟨j, hj, e1, e2⟩ | ⟨n, e1, e2⟩
      · subst e1; subst e2
        exact va_ti hx hb (hRO.2 j hj).2 h4 hk.1 rfl d (h0 L (.int _ :: r) S ls H locs h1 h2 h3 h4 hk.2)
      · subst e2
        exact va_iald (D := D) (ws := sp_ws g ad w.1 S) hx hb hK h2 a 0 (sp_ws_at e1) rfl hk.1 d (h0 L (.int _ :: r) S ls H locs h1 h2 h3 h4 hk.2)
    · exact hk.elim
theorem ok_iast (d : decode cc pc = .ok (.iastore, 1)) (h : sp_Ok cc nL own ret rf rl w Q P (pc + 1) k) : sp_Ok cc nL own ret rf rl w Q P pc (o_iast w k) := by
  intro p l e R s m args below meth c D g ad X hP L st S ls H locs h1 h2 h3 h4 hk
  have h0 := h p l e R s m args below meth c D g ad X hP
  obtain ⟨⟨hx, hb, hml, hown⟩, hts, hK, hRO, hlk, hr, hf1, hf2⟩ := X
  match st, hk with
  | .int x :: .int i :: .ref a :: r, hk =>
    simp only [o_iast] at hk
    split at hk
    · rename_i n hn
      refine va_iast (D := D) (ws := sp_ws g ad w.1 S) hx hb hK h2 h3 h4 a 0 (sp_ws_at hn) rfl hk.1 d (fun H1 locs1 p1 p2 p3 => ?_)
      rw [sp_ws_set hn sp_uR_ne.1 sp_uR_ne.2.1 sp_uR_ne.2.2 sp_setR] at p1 p2
      exact h0 L r _ ls H1 locs1 h1 p1 p2 p3 hk.2
    · exact hk.elim
theorem ok_aald (d : decode cc pc = .ok (.aaload, 1)) (h : sp_Ok cc nL own ret rf rl w Q P (pc + 1) k) : sp_Ok cc nL own ret rf rl w Q P pc (o_aald w k) := by
  intro p l e R s m args below meth c D g ad X hP L st S ls H locs h1 h2 h3 h4 hk
  have h0 := h p l e R s m args below meth c D g ad X hP
  obtain ⟨⟨hx, hb, hml, hown⟩, hts, hK, hRO, hlk, hr, hf1, hf2⟩ := X
  match st, hk with
  | .int i :: .ref a :: r, hk =>
    simp only [o_aald] at hk
    split at hk
    · rename_i t n f hn
      obtain ⟨hi, hk⟩ := hk
      split at hk
      · rename_i b hfb
        have hW := h0 L (.ref b :: r) S ls H locs h1 h2 h3 h4 hk
        have he := sp_ws_at (g := g) (ad := ad) (S := S) hn
        have hv : va_rf ((f i.toNatClampNeg).map ad) = .ref (ad b) := by rw [hfb]; rfl
        have hlt : i.toNatClampNeg < n := Nat.not_le.mp fun q => hi (Or.inr q)
        have hcell := h2 a _ he
        by_cases ht : t = 0
        · have harr := (hK.2 1 _ (show (sp_ty g)[1]? = some (g.2.1, .object "SpanSpotter$Line") from rfl)).1 n (fun j => va_rf ((f j).map ad))
          simp only [sp_ce, va_at, if_pos ht] at hcell
          exact W.aald (v := .ref (ad b)) (ty := .object "SpanSpotter$Line") hx hb hcell harr rfl (fun q => by cases q) (by show ¬ (i < 0 ∨ (arrV _ _ _).slots.size ≤ _); rw [arrV_size]; exact hi) (by show (arrV _ _ _).slots[_]? = _; rw [arrV_read _ _ hlt, hv]) rfl rfl d hW
        · have harr := (hK.2 2 _ (show (sp_ty g)[2]? = some (g.2.2, .array .int) from rfl)).1 n (fun j => va_rf ((f j).map ad))
          simp only [sp_ce, va_at, if_neg ht] at hcell
          exact W.aald (v := .ref (ad b)) (ty := .array .int) hx hb hcell harr rfl (fun q => by cases q) (by show ¬ (i < 0 ∨ (arrV _ _ _).slots.size ≤ _); rw [arrV_size]; exact hi) (by show (arrV _ _ _).slots[_]? = _; rw [arrV_read _ _ hlt, hv]) rfl rfl d hW
      · exact hk.elim
    · exact hk.elim
theorem ok_gets {i index : Nat} (hi : i < 5) (q : Cond.fieldLink own index "SpanSpotter" (sp_sn i) "[I" ∈ sp_tbl) (d : decode cc pc = .ok (.getstatic index, 3)) (h : sp_Ok cc nL own ret rf rl w Q P (pc + 3) k) : sp_Ok cc nL own ret rf rl w Q P pc (o_gets i k) := by
  intro p l e R s m args below meth c D g ad X hP L st S ls H locs h1 h2 h3 h4 hk
  have h0 := h p l e R s m args below meth c D g ad X hP
  obtain ⟨⟨hx, hb, hml, hown⟩, hts, hK, hRO, hlk, hr, hf1, hf2⟩ := X
  exact va_gets hx hb (hRO.2 i hi).1 h4 hown (hts _ q) (fun _ h9 => h9) d (h0 L (.ref (1000 + i) :: st) S ls H locs h1 h2 h3 h4 hk)
theorem ok_getsN {i index : Nat} {host : String} (hi : i < 5) (q : Cond.fieldLinkNest own index "SpanSpotter" (sp_sn i) "[I" host ∈ sp_nest) (d : decode cc pc = .ok (.getstatic index, 3)) (h : sp_Ok cc nL own ret rf rl w Q P (pc + 3) k) : sp_Ok cc nL own ret rf rl w Q P pc (o_gets i k) := by
  intro p l e R s m args below meth c D g ad X hP L st S ls H locs h1 h2 h3 h4 hk
  have h0 := h p l e R s m args below meth c D g ad X hP
  obtain ⟨⟨hx, hb, hml, hown⟩, hts, hK, hRO, hlk, hr, hf1, hf2⟩ := X
  exact va_getsN hx hb (hRO.2 i hi).1 h4 hown (va_Nw.use rfl (hRO.1 _ q)) (fun _ h9 => h9) d (h0 L (.ref (1000 + i) :: st) S ls H locs h1 h2 h3 h4 hk)
theorem ok_mmax {index : Nat} (q1 : Cond.methodLink own index Lib.Math.max.name ∈ sp_tbl) (q2 : Cond.static Lib.Math.max.name ∈ sp_tbl) (q3 : Cond.initialized "java/lang/Math" ∈ sp_tbl) (q4 : Cond.code Lib.Math.max.name Lib.Math.max.code 2 (some .int) ∈ sp_tbl) (hF : 1 ≤ rf) (hL : 21 ≤ rl) (d : decode cc pc = .ok (.invokestatic index, 3)) (h : sp_Ok cc nL own ret rf rl w Q P (pc + 3) k) : sp_Ok cc nL own ret rf rl w Q P pc (o_mmax k) := by
  intro p l e R s m args below meth c D g ad X hP L st S ls H locs h1 h2 h3 h4 hk
  have h0 := h p l e R s m args below meth c D g ad X hP
  obtain ⟨⟨hx, hb, hml, hown⟩, hts, hK, hRO, hlk, hr, hf1, hf2⟩ := X
  match st, hk with
  | .int y :: .int x :: r, hk =>
    have hw : sp_wt r ≤ 8 := hk.1
    exact va_mmax hx hb (by rw [hml, h1.1]) hown (hts _ q1) (hts _ q2) (hts _ q3) (hts _ q4) (Nat.le_trans hF hf1) (by rw [sp_cats]; unfold sp_wt at hw; omega) (Nat.zero_le _) (Nat.zero_le _) d (h0 L (.int _ :: r) S ls H locs h1 h2 h3 h4 hk.2)
theorem ok_mmin {index : Nat} (q1 : Cond.methodLink own index Lib.Math.min.name ∈ sp_tbl) (q2 : Cond.static Lib.Math.min.name ∈ sp_tbl) (q3 : Cond.initialized "java/lang/Math" ∈ sp_tbl) (q4 : Cond.code Lib.Math.min.name Lib.Math.min.code 2 (some .int) ∈ sp_tbl) (hF : 1 ≤ rf) (hL : 21 ≤ rl) (d : decode cc pc = .ok (.invokestatic index, 3)) (h : sp_Ok cc nL own ret rf rl w Q P (pc + 3) k) : sp_Ok cc nL own ret rf rl w Q P pc (o_mmin k) := by
  intro p l e R s m args below meth c D g ad X hP L st S ls H locs h1 h2 h3 h4 hk
  have h0 := h p l e R s m args below meth c D g ad X hP
  obtain ⟨⟨hx, hb, hml, hown⟩, hts, hK, hRO, hlk, hr, hf1, hf2⟩ := X
  match st, hk with
  | .int y :: .int x :: r, hk =>
    have hw : sp_wt r ≤ 8 := hk.1
    exact va_mmin hx hb (by rw [hml, h1.1]) hown (hts _ q1) (hts _ q2) (hts _ q3) (hts _ q4) (Nat.le_trans hF hf1) (by rw [sp_cats]; unfold sp_wt at hw; omega) (Nat.zero_le _) (Nat.zero_le _) d (h0 L (.int _ :: r) S ls H locs h1 h2 h3 h4 hk.2)
theorem ok_mabs {index : Nat} (q1 : Cond.methodLink own index Lib.MathLoose.abs_long.x ∈ sp_tbl) (q2 : Cond.static Lib.MathLoose.abs_long.x ∈ sp_tbl) (q3 : Cond.initialized "java/lang/Math" ∈ sp_tbl) (q4 : Cond.code Lib.MathLoose.abs_long.x Lib.MathLoose.abs_long.code 2 (some .long) ∈ sp_tbl) (hF : 1 ≤ rf) (hL : 21 ≤ rl) (d : decode cc pc = .ok (.invokestatic index, 3)) (h : sp_Ok cc nL own ret rf rl w Q P (pc + 3) k) : sp_Ok cc nL own ret rf rl w Q P pc (o_mabs k) := by
  intro p l e R s m args below meth c D g ad X hP L st S ls H locs h1 h2 h3 h4 hk
  have h0 := h p l e R s m args below meth c D g ad X hP
  obtain ⟨⟨hx, hb, hml, hown⟩, hts, hK, hRO, hlk, hr, hf1, hf2⟩ := X
  match st, hk with
  | .long x :: r, hk =>
    have hw : sp_wt r ≤ 8 := hk.1
    exact va_mabs_long hx hb (by rw [hml, h1.1]) hown (hts _ q1) (hts _ q2) (hts _ q3) (hts _ q4) (Nat.le_trans hF hf1) (by rw [sp_cats]; unfold sp_wt at hw; omega) (Nat.zero_le _) (Nat.zero_le _) d (h0 L (.long _ :: r) S ls H locs h1 h2 h3 h4 hk.2)
theorem sp_nfw : nativeFrameWords "java/lang/System" "arraycopy" 5 = 7 := by decide +kernel
theorem ok_copy {index : Nat} (q1 : Cond.methodLink own index arraycopyName ∈ sp_tbl) (q2 : Cond.native arraycopyName ∈ sp_tbl) (q3 : Cond.static arraycopyName ∈ sp_tbl) (q4 : Cond.initialized "java/lang/System" ∈ sp_tbl) (hF : 1 ≤ rf) (hL : 26 ≤ rl) (d : decode cc pc = .ok (.invokestatic index, 3)) (h : sp_Ok cc nL own ret rf rl w Q P (pc + 3) k) : sp_Ok cc nL own ret rf rl w Q P pc (o_copy w k) := by
  intro p l e R s m args below meth c D g ad X hP L st S ls H locs h1 h2 h3 h4 hk
  have h0 := h p l e R s m args below meth c D g ad X hP
  obtain ⟨⟨hx, hb, hml, hown⟩, hts, hK, hRO, hlk, hr, hf1, hf2⟩ := X
  match st, hk with
  | .int n :: .int dp :: .ref a :: .int sp :: .ref a0 :: r, hk =>
    simp only [o_copy] at hk
    obtain ⟨hw, hk⟩ := hk
    split at hk
    · rename_i n0 n1 e0 e1
      obtain ⟨⟨b1, b2, b3, b4, b5⟩, hk⟩ := hk
      refine va_copyi (D := D) (ws := sp_ws g ad w.1 S) hx hb (by rw [hml, h1.1]) hown (hts _ q1) (hts _ q2) (hts _ q3) (hts _ q4) hK h2 h3 h4 a0 a 0 0 (ty := .int) (sp_ws_at e0) (sp_ws_at e1) rfl rfl rfl b1 b2 b3 b4 b5 (fun _ _ => rfl) (Nat.le_trans hF hf1) (by rw [sp_nfw, sp_cats]; unfold sp_wt at hw; omega) d (fun H1 locs1 p1 p2 p3 => ?_)
      rw [sp_ws_set e1 sp_uR_ne.1 sp_uR_ne.2.1 sp_uR_ne.2.2 sp_setR] at p1 p2
      exact h0 L r _ ls H1 locs1 h1 p1 p2 p3 hk
    · exact hk.elim
/-- the arms of a switch -/
def sp_swOk (cc : ByteArray) (nL : Nat) (own : String) (ret : Option FieldType) (rf rl : Nat) (w : sp_W) (Q : sp_R) (P : Nat → sp_K) (pc : Nat) (lo : Int) (offs : Array Int) : Nat → List (Int32 × sp_K) → Prop
  | _, [] => True
  | j, q :: qs => (∃ (off : Int) (tgt : Nat), offs[j]? = some off ∧ (pc : Int) + off = (tgt : Int) ∧ q.1.toInt = lo + j ∧ sp_Ok cc nL own ret rf rl w Q P tgt q.2) ∧ sp_swOk cc nL own ret rf rl w Q P pc lo offs (j + 1) qs
theorem sp_swOk_at {lo : Int} {offs : Array Int} : ∀ (cs : List (Int32 × sp_K)) (j : Nat), sp_swOk cc nL own ret rf rl w Q P pc lo offs j cs → ∀ (i : Nat) (q : Int32 × sp_K), cs[i]? = some q → ∃ (off : Int) (tgt : Nat), offs[j + i]? = some off ∧ (pc : Int) + off = (tgt : Int) ∧ q.1.toInt = lo + ((j + i : Nat) : Int) ∧ sp_Ok cc nL own ret rf rl w Q P tgt q.2
  | [], j, h, i, q, hq => by simp at hq
  | u :: us, j, h, 0, q, hq => by
    simp only [List.getElem?_cons_zero, Option.some.injEq] at hq
    subst hq
    exact h.1
  | u :: us, j, h, i + 1, q, hq => by
    have := sp_swOk_at us (j + 1) h.2 i q (by simpa using hq)
    rw [show j + (i + 1) = j + 1 + i by omega]
    exact this
theorem sp_sw_cases {x : Int32} {r : List Value} {L : sp_L} {S : sp_M} : ∀ (cs : List (Int32 × sp_K)), sp_sw x r L S kd cs → (∃ (i : Nat) (q : Int32 × sp_K), cs[i]? = some q ∧ x = q.1 ∧ q.2 L r S) ∨ ((∀ (i : Nat) (q : Int32 × sp_K), cs[i]? = some q → ¬ x = q.1) ∧ kd L r S)
  | [], h => Or.inr ⟨fun i q hq => by simp at hq, h⟩
  | u :: us, h => by
    by_cases hx : x = u.1
    · exact Or.inl ⟨0, u, rfl, hx, h.1 hx⟩
    · rcases sp_sw_cases us (h.2 hx) with ⟨i, q, h1, h2⟩ | ⟨h1, h2⟩
      · exact Or.inl ⟨i + 1, q, by simpa using h1, h2⟩
      · refine Or.inr ⟨fun i q hq => ?_, h2⟩
        cases i with
        | zero =>
          simp only [List.getElem?_cons_zero, Option.some.injEq] at hq
          subst hq
          exact hx
        | succ i => exact h1 i q (by simpa using hq)
theorem ok_sw {dflt lo hi : Int} {offs : Array Int} {len tgd : Nat} {cs : List (Int32 × sp_K)} (d : decode cc pc = .ok (.tableswitch dflt lo hi offs, len)) (hlen : (cs.length : Int) = hi - lo + 1) (hcs : sp_swOk cc nL own ret rf rl w Q P pc lo offs 0 cs) (htd : (pc : Int) + dflt = (tgd : Int)) (hd : sp_Ok cc nL own ret rf rl w Q P tgd kd) : sp_Ok cc nL own ret rf rl w Q P pc (o_sw cs kd) := by
  intro p l e R s m args below meth c D g ad X hP L st S ls H locs h1 h2 h3 h4 hk
  have hd0 := hd p l e R s m args below meth c D g ad X hP
  have X0 := X
  obtain ⟨⟨hx, hb, hml, hown⟩, hts, hK, hRO, hlk, hr, hf1, hf2⟩ := X
  match st, hk with
  | .int x :: r, hk =>
    rcases sp_sw_cases cs hk with ⟨i, q, e1, e2, e3⟩ | ⟨e1, e2⟩
    · obtain ⟨off, tgt, f1, f2, f3, f4⟩ := sp_swOk_at cs 0 hcs i q e1
      have hil := (List.getElem?_eq_some_iff.mp e1).1
      rw [Nat.zero_add] at f1 f3
      rw [← e2] at f3
      exact lv_tableIn hx hb d (by omega) (by omega) (by rw [show (x.toInt - lo).toNat = i by omega]; exact f1) f2 (f4 p l e R s m args below meth c D g ad X0 hP L r S ls H locs h1 h2 h3 h4 e3)
    · refine lv_tableOut hx hb d ?_ htd (hd0 L r S ls H locs h1 h2 h3 h4 e2)
      rcases Int.lt_or_le x.toInt lo with z | z
      · exact Or.inl z
      · rcases Int.lt_or_le hi x.toInt with z2 | z2
        · exact Or.inr z2
        · exfalso
          have hl : (x.toInt - lo).toNat < cs.length := by omega
          have hq := List.getElem?_eq_getElem hl
          obtain ⟨off, tgt, f1, f2, f3, f4⟩ := sp_swOk_at cs 0 hcs _ _ hq
          refine e1 _ _ hq (Int32.toInt_inj.mp ?_)
          rw [f3]
          omega
theorem sp_callW {p : Program} {l : Launch} {e : Env} {R : Room} {s : State} {m : MethodId} {args : Array Value} {below : List Frame} {meth : Method} {c : Code} {H : Heap} {locs : List Loc} {D : va_G} {g : sp_G} {ad : Nat → Nat} {Qw : State → Prop} {ls : Array Slot} {st0 : List Value} {r : List Value} {Q' : sp_R} {a : Array Value} (hr : va_Run p l e R s m args below meth c H locs 0 0 0 0 (F0 m pc ls st0) (r.map (sp_cv ad)) (sp_Qc D g ad w Q' a) (sp_A ad w.1.length)) (hS : va_S (sp_A ad w.1.length) s.heap H locs)
    (kk : ∀ (rv : Option Value) (S' : sp_M) (H1 : Heap) (locs1 : List Loc), Q' rv S' → va_P D vwCl (sp_ws g ad w.1 S') H1 → va_S (sp_A ad w.1.length) s.heap H1 locs1 → W p l e R s m args below meth c H1 locs1 0 0 Qw (F0 m (pc + 3) ls ((rv.toList ++ r).map (sp_cv ad)))) : W p l e R s m args below meth c H locs 0 0 Qw (F0 m pc ls st0) := by
  intro T hT X
  obtain ⟨v, st₀, t, T', L, h0, X', hL, e1, e2, ⟨⟨rv, S', hv, hq, hp⟩, hz, hk⟩, st⟩ := hr T hT X
  cases hv
  rw [h0] at hz hk
  obtain ⟨t2, a1, b1⟩ := kk rv S' T'.heap (locs ++ L) hq (by rw [e1]; exact hp)
    ⟨Nat.le_trans hS.1 (by rw [e1]; exact hz), fun q h1 h2 => by rw [e1, hk q (Nat.lt_of_lt_of_le h1 hS.1) h2]; exact hS.2.1 q h1 h2, fun q hq => by
      rcases List.mem_append.mp hq with h | h
      · exact hS.2.2 q h
      · exact hL q h⟩ T' rfl X'
  have es : (rv.map (sp_cv ad)).toList ++ r.map (sp_cv ad) = (rv.toList ++ r).map (sp_cv ad) := by
    cases rv <;> simp
  rw [es] at st
  exact ⟨t2, st t2 a1, b1⟩
theorem sp_preS {s : State} {H : Heap} {locs : List Loc} {D : va_G} {g : sp_G} {ad : Nat → Nat} {as : List Value} {S : sp_M} (hK : va_K D vwCl (sp_ty g) s) (hRO : sp_RO ad w s) (hP : va_P D vwCl (sp_ws g ad w.1 S) H) (hD : va_D (sp_A ad w.1.length) (sp_ws g ad w.1 S)) (hS : va_S (sp_A ad w.1.length) s.heap H locs) : PreS s H (sp_Pc D g ad w as S) (as.map (sp_cv ad)) :=
  ⟨sp_Pc_blind, fun U hU hW => ⟨rfl, by rw [hU]; exact hP, va_K.moved hW.alike hK, hD.weaken (fun _ _ _ _ => trivial), hRO.mv hW (fun a h1 h2 => by rw [hU]; exact hS.2.1 a h1 h2)⟩⟩
theorem ok_calls {y : MethodName} {cc' : ByteArray} {nL' : Nat} {ret' : Option FieldType} {rf' rl' : Nat} {M : sp_W → List Value → sp_M → sp_R → Prop} {index n : Nat} (hM : sp_Mt y cc' nL' ret' rf' rl' M) (hR1 : rf' + 1 ≤ rf) (hR2 : 8 + (nL' + 11) + rl' ≤ rl) (qc : Cond.code y cc' nL' ret' ∈ sp_tbl) (q1 : Cond.methodLink own index y ∈ sp_tbl) (q2 : Cond.static y ∈ sp_tbl) (q3 : Cond.initialized y.cls ∈ sp_tbl) (hd : y.cls ≠ "java/lang/invoke/MethodHandle" ∧ y.cls ≠ "java/lang/invoke/VarHandle" ∧ (parseMethodDescriptor y.desc).map (fun d => d.parameters.length) = some n) (d : decode cc pc = .ok (.invokestatic index, 3)) (h : sp_Ok cc nL own ret rf rl w Q P (pc + 3) k) : sp_Ok cc nL own ret rf rl w Q P pc (o_calls w M n k) := by
  intro p l e R s m args below meth c D g ad X hP L st S ls H locs h1 h2 h3 h4 hk
  have h0 := h p l e R s m args below meth c D g ad X hP
  obtain ⟨⟨hx, hb, hml, hown⟩, hts, hK, hRO, hlk, hr, hf1, hf2⟩ := X
  unfold o_calls at hk
  split at hk
  · rename_i as r hs
    obtain ⟨hw, hk⟩ := hk
    obtain ⟨fr, e1, e2, e3⟩ := sp_spl_spec n [] st as r hs
    rw [List.append_nil] at e3
    have hmet := hM l D g ad w as S _ hk
    have hcb : CallB R s args own index y cc' nL' ret' (sp_wd y cc' nL' ret') { frames := rf', cells := 0, slots := 0, locals := rl' } 0 0 n := callB_of (Ts := sp_tbl) n hts (sp_goodIn qc (fun _ h => h)) rfl rfl rfl (hts _ q3) (hts _ q1) hd ⟨Nat.le_trans hR1 hf1, Nat.le_trans hR2 hf2⟩
    refine sp_callW (va_runS (As := as.map (sp_cv ad)) (rest := r.map (sp_cv ad)) (Ts := sp_tbl) ⟨hx, hb, hml, hown, hts⟩ hmet ⟨hcb, hts _ q2⟩ (sp_preS hK hRO h2 h3 h4) rfl (by rw [List.length_map, e3, List.length_reverse, e2]) h1.1 (by rw [e1, e3]; simp) (lv_room (by rw [sp_cats]; exact hw)) d ⟨Nat.zero_le _, Nat.zero_le _⟩) h4 (fun rv S' H1 locs1 g1 g2 g3 => ?_)
    exact h0 L (rv.toList ++ r) S' ls H1 locs1 h1 g2 (sp_D_any h3) g3 g1
  · exact hk.elim
theorem ok_callsN {y : MethodName} {cc' : ByteArray} {nL' : Nat} {ret' : Option FieldType} {rf' rl' : Nat} {M : sp_W → List Value → sp_M → sp_R → Prop} {index n : Nat} (hM : sp_Mt y cc' nL' ret' rf' rl' M) (hR1 : rf' + 1 ≤ rf) (hR2 : 8 + (nL' + 11) + rl' ≤ rl) (qc : Cond.code y cc' nL' ret' ∈ sp_tbl) {host : String} (q1 : Cond.methodLinkNest own index y host ∈ sp_nest) (q2 : Cond.static y ∈ sp_tbl) (q3 : Cond.initialized y.cls ∈ sp_tbl) (hd : y.cls ≠ "java/lang/invoke/MethodHandle" ∧ y.cls ≠ "java/lang/invoke/VarHandle" ∧ (parseMethodDescriptor y.desc).map (fun d => d.parameters.length) = some n) (d : decode cc pc = .ok (.invokestatic index, 3)) (h : sp_Ok cc nL own ret rf rl w Q P (pc + 3) k) : sp_Ok cc nL own ret rf rl w Q P pc (o_calls w M n k) := by
  intro p l e R s m args below meth c D g ad X hP L st S ls H locs h1 h2 h3 h4 hk
  have h0 := h p l e R s m args below meth c D g ad X hP
  obtain ⟨⟨hx, hb, hml, hown⟩, hts, hK, hRO, hlk, hr, hf1, hf2⟩ := X
  unfold o_calls at hk
  split at hk
  · rename_i as r hs
    obtain ⟨hw, hk⟩ := hk
    obtain ⟨fr, e1, e2, e3⟩ := sp_spl_spec n [] st as r hs
    rw [List.append_nil] at e3
    have hmet := hM l D g ad w as S _ hk
    have hcb : va_CN R s args own index y host cc' nL' ret' (sp_wd y cc' nL' ret') { frames := rf', cells := 0, slots := 0, locals := rl' } 0 0 n := va_cnB (Ts := sp_tbl) n hts (sp_goodIn qc (fun _ h => h)) rfl rfl rfl (hRO.1 _ q1) (hts _ q3) hd ⟨Nat.le_trans hR1 hf1, Nat.le_trans hR2 hf2⟩
    refine sp_callW (va_runSN (As := as.map (sp_cv ad)) (rest := r.map (sp_cv ad)) (Ts := sp_tbl) ⟨hx, hb, hml, hown, hts⟩ hmet ⟨hcb, hts _ q2, trivial⟩ (sp_preS hK hRO h2 h3 h4) rfl (by rw [List.length_map, e3, List.length_reverse, e2]) h1.1 (by rw [e1, e3]; simp) (lv_room (by rw [sp_cats]; exact hw)) d ⟨Nat.zero_le _, Nat.zero_le _⟩) h4 (fun rv S' H1 locs1 g1 g2 g3 => ?_)
    exact h0 L (rv.toList ++ r) S' ls H1 locs1 h1 g2 (sp_D_any h3) g3 g1
  · exact hk.elim
theorem ok_callv {y : MethodName} {cc' : ByteArray} {nL' : Nat} {ret' : Option FieldType} {rf' rl' : Nat} {M : sp_W → List Value → sp_M → sp_R → Prop} {index n : Nat} (hM : sp_Mt y cc' nL' ret' rf' rl' M) (hR1 : rf' + 1 ≤ rf) (hR2 : 8 + (nL' + 11) + rl' ≤ rl) (qc : Cond.code y cc' nL' ret' ∈ sp_tbl) {C : String} {T : u_T} {N ci : Nat} (hc : vwCl[ci]? = some (C, T, N)) (q1 : Cond.methodLink own index y ∈ sp_tbl) (q2 : Cond.instanceMethod y ∈ sp_tbl) (q3 : Cond.selects C y y ∈ sp_tbl) (q4 : Cond.initialized y.cls ∈ sp_tbl) (hd : y.cls ≠ "java/lang/invoke/MethodHandle" ∧ y.cls ≠ "java/lang/invoke/VarHandle" ∧ (parseMethodDescriptor y.desc).map (fun d => d.parameters.length) = some n) (d : decode cc pc = .ok (.invokevirtual index, 3)) (h : sp_Ok cc nL own ret rf rl w Q P (pc + 3) k) : sp_Ok cc nL own ret rf rl w Q P pc (o_callv w M ci (n + 1) k) := by
  intro p l e R s m args below meth c D g ad X hP L st S ls H locs h1 h2 h3 h4 hk
  have h0 := h p l e R s m args below meth c D g ad X hP
  obtain ⟨⟨hx, hb, hml, hown⟩, hts, hK, hRO, hlk, hr, hf1, hf2⟩ := X
  unfold o_callv at hk
  split at hk
  · rename_i a as r hs
    obtain ⟨⟨hcl, hw⟩, hk⟩ := hk
    obtain ⟨fr, e1, e2, e3⟩ := sp_spl_spec (n + 1) [] st _ r hs
    rw [List.append_nil] at e3
    obtain ⟨fs, hfs⟩ := sp_cl_spec hcl
    have hmet := hM l D g ad w (.ref a :: as) S _ hk
    have hcb : CallB R s args own index y cc' nL' ret' (sp_wd y cc' nL' ret') { frames := rf', cells := 0, slots := 0, locals := rl' } 0 0 n := callB_of (Ts := sp_tbl) n hts (sp_goodIn qc (fun _ h => h)) rfl rfl rfl (hts _ q4) (hts _ q1) hd ⟨Nat.le_trans hR1 hf1, Nat.le_trans hR2 hf2⟩
    have hpre := sp_preS (as := .ref a :: as) hK hRO h2 h3 h4
    have hfr : fr = as.reverse ++ [.ref a] := by
      have := congrArg List.reverse e3
      rw [List.reverse_reverse] at this
      rw [← this]
      simp
    refine sp_callW (va_runV (b := ad a) (As := as.map (sp_cv ad)) (rest := r.map (sp_cv ad)) (Ts := sp_tbl) (C := C) ⟨hx, hb, hml, hown, hts⟩ hmet ⟨hcb, hts _ q2, hts _ q3⟩ ⟨hpre.1, va_recv hK h2 hc (sp_ws_at hfs), hpre.2⟩ rfl (by
      rw [List.length_map]
      have : fr.length = as.length + 1 := by rw [hfr]; simp
      omega) h1.1 (by rw [e1, hfr]; simp [sp_cv]) (lv_room (by rw [sp_cats]; exact hw)) d ⟨Nat.zero_le _, Nat.zero_le _⟩) h4 (fun rv S' H1 locs1 g1 g2 g3 => ?_)
    exact h0 L (rv.toList ++ r) S' ls H1 locs1 h1 g2 (sp_D_any h3) g3 g1
  · exact hk.elim
theorem ok_iret (hret : ret = some .int) (d : decode cc pc = .ok (.ireturn, 1)) : sp_Ok cc nL own ret rf rl w Q P pc (o_iret Q) := by
  intro p l e R s m args below meth c D g ad X hP L st S ls H locs h1 h2 h3 h4 hk
  obtain ⟨⟨hx, hb, hml, hown⟩, hts, hK, hRO, hlk, hr, hf1, hf2⟩ := X
  match st, hk with
  | [.int v], hk => exact W.iret (v := v) hx hb (by rw [hr, hret]) (fun t ht hW => ⟨⟨some (.int v), S, rfl, hk, by rw [ht]; exact h2⟩, h4.F ht⟩) h4.2.2 d hlk
theorem ok_zret (hret : ret = some .boolean) (d : decode cc pc = .ok (.ireturn, 1)) : sp_Ok cc nL own ret rf rl w Q P pc (o_zret Q) := by
  intro p l e R s m args below meth c D g ad X hP L st S ls H locs h1 h2 h3 h4 hk
  obtain ⟨⟨hx, hb, hml, hown⟩, hts, hK, hRO, hlk, hr, hf1, hf2⟩ := X
  match st, hk with
  | [.int v], hk => exact W.zret (v := v) (ty := .boolean) hx hb (by rw [hr, hret]) (by rcases hk.1 with z | z <;> subst z <;> rfl) (fun t ht hW => ⟨⟨some (.int v), S, rfl, hk.2, by rw [ht]; exact h2⟩, h4.F ht⟩) h4.2.2 d hlk
theorem ok_lret (hret : ret = some .long) (d : decode cc pc = .ok (.lreturn, 1)) : sp_Ok cc nL own ret rf rl w Q P pc (o_lret Q) := by
  intro p l e R s m args below meth c D g ad X hP L st S ls H locs h1 h2 h3 h4 hk
  obtain ⟨⟨hx, hb, hml, hown⟩, hts, hK, hRO, hlk, hr, hf1, hf2⟩ := X
  match st, hk with
  | [.long v], hk => exact W.lret (v := v) hx hb (by rw [hr, hret]) (fun t ht hW => ⟨⟨some (.long v), S, rfl, hk, by rw [ht]; exact h2⟩, h4.F ht⟩) h4.2.2 d hlk
theorem ok_vret (hret : ret = none) (d : decode cc pc = .ok (.return_, 1)) : sp_Ok cc nL own ret rf rl w Q P pc (o_vret Q) := by
  intro p l e R s m args below meth c D g ad X hP L st S ls H locs h1 h2 h3 h4 hk
  obtain ⟨⟨hx, hb, hml, hown⟩, hts, hK, hRO, hlk, hr, hf1, hf2⟩ := X
  match st, hk with
  | [], hk => exact W.vret hx hb (by rw [hr, hret]) (fun t ht hW => ⟨⟨none, S, rfl, hk, by rw [ht]; exact h2⟩, h4.F ht⟩) h4.2.2 d hlk
end SPO
