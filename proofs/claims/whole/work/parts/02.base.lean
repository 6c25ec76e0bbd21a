/-! words that hold at every state of the run (the good words of the tables), by membership -/
def sp_tbl : List Cond := lw_tbl.filter goodWord
theorem sp_in {x : Cond} (h : x ∈ lw_tbl) (g : goodWord x = true) : x ∈ sp_tbl := List.mem_filter.mpr ⟨h, g⟩
def sp_wd (y : MethodName) (cc : ByteArray) (nL : Nat) (ret : Option FieldType) : List Cond := .code y cc nL ret :: sp_tbl
theorem sp_goodIn {y : MethodName} {cc : ByteArray} {nL : Nat} {ret : Option FieldType} {big : List Cond} (h : Cond.code y cc nL ret ∈ sp_tbl) (hb : ∀ x ∈ sp_tbl, x ∈ big) : GoodIn big (sp_wd y cc nL ret) := by
  intro x hx
  rcases List.mem_cons.mp hx with rfl | hx
  · exact ⟨hb _ h, good_of_word (List.mem_filter.mp h).2⟩
  · exact ⟨hb _ hx, good_of_word (List.mem_filter.mp hx).2⟩
/-! the abstract machine: values with abstract addresses, locals, memory, worlds -/
abbrev sp_M : Type := (Nat → Nat → Int32) × (Nat → Nat → Int64) × (Nat → Nat → Int32)
abbrev sp_L : Type := List (Option Value)
abbrev sp_K : Type := sp_L → List Value → sp_M → Prop
abbrev sp_R : Type := Option Value → sp_M → Prop
/-- a field: a reference that stays, or a number (true: a long) -/
abbrev sp_F : Type := Option Nat ⊕ Bool
/-- a cell's shape: an int row of a length; a row of references that stay; an object -/
abbrev sp_C : Type := Nat ⊕ ((Nat × Nat × (Nat → Option Nat)) ⊕ (Nat × List sp_F))
/-- a world: the shapes, and the rows that nobody writes -/
abbrev sp_W : Type := List sp_C × (Nat → Nat × (Nat → Int32))
def sp_uI (S : sp_M) (a k : Nat) (x : Int32) : sp_M := (va_up S.1 a (upd (S.1 a) k x), S.2.1, S.2.2)
def sp_uJ (S : sp_M) (a k : Nat) (x : Int64) : sp_M := (S.1, va_up S.2.1 a (vp_updL (S.2.1 a) k x), S.2.2)
def sp_uR (S : sp_M) (a : Nat) (f : Nat → Int32) : sp_M := (S.1, S.2.1, va_up S.2.2 a f)
def sp_cv (ad : Nat → Nat) : Value → Value
  | .ref k => .ref (ad k)
  | v => v
def sp_gv (S : sp_M) (a k : Nat) : sp_F → Value
  | .inl none => .null
  | .inl (some b) => .ref b
  | .inr false => .int (S.1 a k)
  | .inr true => .long (S.2.1 a k)
abbrev sp_G : Type := ClassId × ClassId × ClassId
def sp_ce (g : sp_G) (ad : Nat → Nat) (S : sp_M) (a : Nat) : sp_C → va_E
  | .inl n => .inl (g.1, n, .inl (S.2.2 a))
  | .inr (.inl (t, n, f)) => .inl ((if t = 0 then g.2.1 else g.2.2), n, .inr (.inr (.inr (.inr (fun j => (f j).map ad)))))
  | .inr (.inr (ci, fs)) => .inr (ci, fs.mapIdx (fun k f => sp_cv ad (sp_gv S a k f)))
def sp_ws (g : sp_G) (ad : Nat → Nat) (sk : List sp_C) (S : sp_M) : va_W := sk.mapIdx (fun a c => (ad a, sp_ce g ad S a c))
def sp_ty (g : sp_G) : List (ClassId × FieldType) := [(g.1, .int), (g.2.1, .object "SpanSpotter$Line"), (g.2.2, .array .int)]
def sp_A (ad : Nat → Nat) (n : Nat) : Nat → Prop := fun q => ∃ i, i < n ∧ q = ad i
theorem sp_ws_at {g : sp_G} {ad : Nat → Nat} {sk : List sp_C} {S : sp_M} {a : Nat} {c : sp_C} (h : sk[a]? = some c) : (sp_ws g ad sk S)[a]? = some (ad a, sp_ce g ad S a c) := by
  unfold sp_ws
  rw [List.getElem?_mapIdx, h]
  rfl
theorem sp_ce_same {g : sp_G} {ad : Nat → Nat} {S S' : sp_M} {a : Nat} (h1 : S'.1 a = S.1 a) (h2 : S'.2.1 a = S.2.1 a) (h3 : S'.2.2 a = S.2.2 a) (c : sp_C) : sp_ce g ad S' a c = sp_ce g ad S a c := by
  rcases c with n | ⟨t, n, f⟩ | ⟨ci, fs⟩
  · simp [sp_ce, h3]
  · rfl
  · simp only [sp_ce]
    congr 3
    funext k f
    rcases f with (_ | b) | (_ | _) <;> simp [sp_gv, h1, h2]
theorem sp_ws_set {g : sp_G} {ad : Nat → Nat} {sk : List sp_C} {S S' : sp_M} {a : Nat} {c : sp_C} (h : sk[a]? = some c) (h1 : ∀ b, b ≠ a → S'.1 b = S.1 b) (h2 : ∀ b, b ≠ a → S'.2.1 b = S.2.1 b) (h3 : ∀ b, b ≠ a → S'.2.2 b = S.2.2 b) {e : va_E} (he : e = sp_ce g ad S' a c) :
    (sp_ws g ad sk S).set a (ad a, e) = sp_ws g ad sk S' := by
  subst he
  apply List.ext_getElem?
  intro i
  rw [List.getElem?_set]
  by_cases hi : a = i
  · subst hi
    have hlt : a < (sp_ws g ad sk S).length := by
      have := (List.getElem?_eq_some_iff.mp (sp_ws_at (g := g) (ad := ad) (S := S) h)).1
      exact this
    rw [if_pos rfl, if_pos hlt, sp_ws_at h]
  · rw [if_neg hi]
    unfold sp_ws
    rw [List.getElem?_mapIdx, List.getElem?_mapIdx]
    cases sk[i]? with
    | none => rfl
    | some c' =>
      have hne : i ≠ a := fun q => hi q.symm
      simp only [Option.map_some]
      rw [sp_ce_same (h1 i hne) (h2 i hne) (h3 i hne)]
theorem sp_D_any {g : sp_G} {ad : Nat → Nat} {sk : List sp_C} {S S' : sp_M} {A : Nat → Prop} (h : va_D A (sp_ws g ad sk S)) : va_D A (sp_ws g ad sk S') := by
  have key : ∀ (S1 S2 : sp_M) (i : Nat) (p : Nat × va_E), (sp_ws g ad sk S1)[i]? = some p → ∃ p', (sp_ws g ad sk S2)[i]? = some p' ∧ p'.1 = p.1 := by
    intro S1 S2 i p hp
    unfold sp_ws at hp ⊢
    rw [List.getElem?_mapIdx] at hp ⊢
    cases hs : sk[i]? with
    | none => rw [hs] at hp; cases hp
    | some c =>
      rw [hs] at hp
      cases hp
      exact ⟨_, rfl, rfl⟩
  refine ⟨fun i j p q hp hq hpq => ?_, fun k q hq => ?_⟩
  · obtain ⟨p', hp', ep⟩ := key S' S i p hp
    obtain ⟨q', hq', eq'⟩ := key S' S j q hq
    exact h.1 i j p' q' hp' hq' (by rw [ep, eq', hpq])
  · obtain ⟨q', hq', eq'⟩ := key S' S k q hq
    have := h.2 k q' hq'
    rw [eq'] at this
    exact this
theorem sp_D_self {g : sp_G} {ad : Nat → Nat} {sk : List sp_C} {S : sp_M} {A : Nat → Prop} (h : va_D A (sp_ws g ad sk S)) : va_D (sp_A ad sk.length) (sp_ws g ad sk S) := by
  refine ⟨h.1, fun k q hq => ?_⟩
  unfold sp_ws at hq
  rw [List.getElem?_mapIdx] at hq
  cases hs : sk[k]? with
  | none => rw [hs] at hq; cases hq
  | some c =>
    rw [hs] at hq
    cases hq
    exact ⟨k, (List.getElem?_eq_some_iff.mp hs).1, rfl⟩
theorem sp_A_in {g : sp_G} {ad : Nat → Nat} {sk : List sp_C} {S : sp_M} {A : Nat → Prop} (h : va_D A (sp_ws g ad sk S)) : ∀ q, sp_A ad sk.length q → A q := by
  rintro q ⟨i, hi, rfl⟩
  exact h.2 i _ (sp_ws_at (List.getElem?_eq_getElem hi))
/-! locals -/
def sp_nth : sp_L → Nat → Option Value
  | [], _ => none
  | v :: _, 0 => v
  | _ :: r, n + 1 => sp_nth r n
/-- a long that began one slot below goes -/
def sp_clr (L : sp_L) (i : Nat) : sp_L := match i with
  | 0 => L
  | n + 1 => match sp_nth L n with
    | some (.long _) => L.set n none
    | some (.double _) => L.set n none
    | _ => L
def sp_st1 (L : sp_L) (i : Nat) (v : Value) : sp_L := (sp_clr L i).set i (some v)
def sp_st2 (L : sp_L) (i : Nat) (v : Value) : sp_L := ((sp_clr L i).set i (some v)).set (i + 1) none
def sp_lr (ad : Nat → Nat) (ls : Array Slot) (nL : Nat) (L : sp_L) : Prop := ls.size = nL ∧ lv_wf ls ∧ ∀ i v, sp_nth L i = some v → ls[i]? = some (.val (sp_cv ad v))
def sp_ent (nL : Nat) : List Value → sp_L
  | [] => List.replicate nL none
  | v :: r => if v.category = 2 then some v :: none :: sp_ent (nL - 2) r else some v :: sp_ent (nL - 1) r
theorem sp_nth_set : ∀ (L : sp_L) (i : Nat) (x : Option Value) (j : Nat), sp_nth (L.set i x) j = if j = i ∧ i < L.length then x else sp_nth L j
  | [], i, x, j => by simp [sp_nth]
  | u :: r, 0, x, 0 => by simp [sp_nth]
  | u :: r, 0, x, j + 1 => by simp [sp_nth]
  | u :: r, i + 1, x, 0 => by simp [sp_nth]
  | u :: r, i + 1, x, j + 1 => by
    simp only [List.set_cons_succ, sp_nth, List.length_cons, Nat.add_right_cancel_iff, Nat.add_lt_add_iff_right]
    exact sp_nth_set r i x j
theorem sp_nth_ge : ∀ (L : sp_L) (i : Nat), L.length ≤ i → sp_nth L i = none
  | [], i, _ => rfl
  | u :: r, 0, h => by simp at h
  | u :: r, i + 1, h => by
    simp only [sp_nth]
    exact sp_nth_ge r i (by simpa using h)
theorem sp_cat (ad : Nat → Nat) (v : Value) : (sp_cv ad v).category = v.category := by cases v <;> rfl
theorem sp_cats (ad : Nat → Nat) (r : List Value) : ((r.map (sp_cv ad)).map fun v => v.category).sum = (r.map fun v => v.category).sum := by
  rw [List.map_map]
  congr 1
  apply List.map_congr_left
  intro v _
  exact sp_cat ad v
theorem sp_clr_nth (L : sp_L) (i j : Nat) (v : Value) (h : sp_nth (sp_clr L i) j = some v) : sp_nth L j = some v ∧ ¬ (j + 1 = i ∧ v.category = 2) := by
  unfold sp_clr at h
  cases i with
  | zero => exact ⟨h, fun q => by omega⟩
  | succ n =>
    dsimp only at h
    have key : ∀ u : Value, sp_nth L n = some u → sp_nth (L.set n none) j = some v → sp_nth L j = some v ∧ ¬ (j + 1 = n + 1 ∧ v.category = 2) := by
      intro u hu h
      rw [sp_nth_set] at h
      have hn : n < L.length := by
        rcases Nat.lt_or_ge n L.length with q | q
        · exact q
        · rw [sp_nth_ge L n q] at hu; cases hu
      by_cases hj : j = n
      · rw [if_pos ⟨hj, hn⟩] at h; cases h
      · rw [if_neg (fun q => hj q.1)] at h
        exact ⟨h, fun q => hj (by omega)⟩
    cases hu : sp_nth L n with
    | none =>
      rw [hu] at h
      refine ⟨h, fun q => ?_⟩
      have hj : j = n := by omega
      subst hj
      rw [hu] at h
      cases h
    | some u =>
      rw [hu] at h
      cases u with
      | long x => exact key _ hu h
      | double x => exact key _ hu h
      | _ =>
        refine ⟨h, fun q => ?_⟩
        have hj : j = n := by omega
        subst hj
        have h' : sp_nth L j = some v := h
        rw [hu] at h'
        cases h'
        exact absurd q.2 (by simp [Value.category])
def sp_lv (ad : Nat → Nat) (L : sp_L) : List (Nat × Value) := (List.range L.length).filterMap (fun i => (sp_nth L i).map (fun v => (i, sp_cv ad v)))
theorem sp_lv_mem {ad : Nat → Nat} {L : sp_L} {i : Nat} {v : Value} (h : sp_nth L i = some v) : (i, sp_cv ad v) ∈ sp_lv ad L := by
  have hi : i < L.length := by
    rcases Nat.lt_or_ge i L.length with q | q
    · exact q
    · rw [sp_nth_ge L i q] at h; cases h
  exact List.mem_filterMap.mpr ⟨i, List.mem_range.mpr hi, by rw [h]; rfl⟩
theorem sp_lr.has {ad : Nat → Nat} {ls : Array Slot} {nL : Nat} {L : sp_L} (h : sp_lr ad ls nL L) : lv_has ls nL (sp_lv ad L) := by
  refine ⟨h.1, h.2.1, fun q hq => ?_⟩
  obtain ⟨i, -, hi⟩ := List.mem_filterMap.mp hq
  cases hv : sp_nth L i with
  | none => rw [hv] at hi; cases hi
  | some v =>
    rw [hv] at hi
    cases hi
    exact h.2.2 i v hv
theorem sp_lr.st1 {ad : Nat → Nat} {ls : Array Slot} {nL i : Nat} {L : sp_L} {v : Value} (h : lv_has ls nL ((i, sp_cv ad v) :: (sp_lv ad L).filter (fun q => !(q.1 == i) && !(q.1 + 1 == i && q.2.category == 2)))) : sp_lr ad ls nL (sp_st1 L i v) := by
  refine ⟨h.1, h.2.1, fun j u hj => ?_⟩
  unfold sp_st1 at hj
  rw [sp_nth_set] at hj
  by_cases hc : j = i ∧ i < (sp_clr L i).length
  · rw [if_pos hc] at hj
    cases hj
    rw [hc.1]
    exact h.2.2 (i, sp_cv ad v) List.mem_cons_self
  · rw [if_neg hc] at hj
    have hji : j ≠ i := fun q => hc ⟨q, by
      rcases Nat.lt_or_ge i (sp_clr L i).length with z | z
      · exact z
      · rw [q, sp_nth_ge _ _ z] at hj; cases hj⟩
    obtain ⟨h1, h2⟩ := sp_clr_nth L i j u hj
    refine h.2.2 (j, sp_cv ad u) (List.mem_cons_of_mem _ (List.mem_filter.mpr ⟨sp_lv_mem h1, ?_⟩))
    simp only [sp_cat]
    simp [hji]
    exact Classical.or_iff_not_imp_left.mpr (fun q z => h2 ⟨Classical.not_not.mp q, z⟩)
theorem sp_lr.st2 {ad : Nat → Nat} {ls : Array Slot} {nL i : Nat} {L : sp_L} {v : Value} (h : lv_has ls nL ((i, sp_cv ad v) :: (sp_lv ad L).filter (fun q => !(q.1 == i) && (!(q.1 == i + 1) && !(q.1 + 1 == i && q.2.category == 2))))) : sp_lr ad ls nL (sp_st2 L i v) := by
  refine ⟨h.1, h.2.1, fun j u hj => ?_⟩
  unfold sp_st2 at hj
  rw [sp_nth_set] at hj
  by_cases hd : j = i + 1 ∧ i + 1 < ((sp_clr L i).set i (some v)).length
  · rw [if_pos hd] at hj; cases hj
  · rw [if_neg hd] at hj
    have hji1 : j ≠ i + 1 := fun q => hd ⟨q, by
      rcases Nat.lt_or_ge (i + 1) ((sp_clr L i).set i (some v)).length with z | z
      · exact z
      · rw [q, sp_nth_ge _ _ z] at hj; cases hj⟩
    rw [sp_nth_set] at hj
    by_cases hc : j = i ∧ i < (sp_clr L i).length
    · rw [if_pos hc] at hj
      cases hj
      rw [hc.1]
      exact h.2.2 (i, sp_cv ad v) List.mem_cons_self
    · rw [if_neg hc] at hj
      have hji : j ≠ i := fun q => hc ⟨q, by
        rcases Nat.lt_or_ge i (sp_clr L i).length with z | z
        · exact z
        · rw [q, sp_nth_ge _ _ z] at hj; cases hj⟩
      obtain ⟨h1, h2⟩ := sp_clr_nth L i j u hj
      refine h.2.2 (j, sp_cv ad u) (List.mem_cons_of_mem _ (List.mem_filter.mpr ⟨sp_lv_mem h1, ?_⟩))
      simp only [sp_cat]
      simp [hji, hji1]
      exact Classical.or_iff_not_imp_left.mpr (fun q z => h2 ⟨Classical.not_not.mp q, z⟩)
theorem sp_ent_args (ad : Nat → Nat) : ∀ (as : List Value) (n off i : Nat) (v : Value), sp_nth (sp_ent n as) i = some v → (off + i, sp_cv ad v) ∈ lv_args off (as.map (sp_cv ad))
  | [], n, off, i, v, h => by
    have : ∀ (n i : Nat), sp_nth (List.replicate n none) i = none := by
      intro n
      induction n with
      | zero => intro i; rfl
      | succ n ih =>
        intro i
        cases i with
        | zero => rfl
        | succ i => exact ih i
    rw [sp_ent, this] at h
    cases h
  | u :: r, n, off, i, v, h => by
    unfold sp_ent at h
    simp only [List.map_cons, lv_args, sp_cat]
    by_cases hu : u.category = 2
    · rw [if_pos hu] at h
      rw [if_pos hu]
      match i, h with
      | 0, h =>
        simp only [sp_nth] at h
        cases h
        exact List.mem_cons_self
      | 1, h =>
        simp only [sp_nth] at h
        cases h
      | i + 2, h =>
        simp only [sp_nth] at h
        have := sp_ent_args ad r _ (off + 2) i v h
        rw [show off + (i + 2) = off + 2 + i by omega]
        exact List.mem_cons_of_mem _ this
    · rw [if_neg hu] at h
      rw [if_neg hu]
      match i, h with
      | 0, h =>
        simp only [sp_nth] at h
        cases h
        exact List.mem_cons_self
      | i + 1, h =>
        simp only [sp_nth] at h
        have := sp_ent_args ad r _ (off + 1) i v h
        rw [show off + (i + 1) = off + 1 + i by omega]
        exact List.mem_cons_of_mem _ this
theorem sp_sl_len : ∀ (as : List Value), (lg_sl as).length = (as.map fun v => v.category).sum
  | [] => rfl
  | v :: r => by
    have ih := sp_sl_len r
    unfold lg_sl at ih ⊢
    simp only [List.flatMap_cons, List.length_append, List.map_cons, List.sum_cons, ih]
    congr 1
    rcases lv_cat v with h | h <;> simp [h]
