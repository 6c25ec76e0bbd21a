/-! the first of the least -/
theorem t_add_1 {t o : tT} (h : o.1 < 100000000) : (t_add t o).1 = if o.1 < t.1 then o.1 else t.1 := by
  unfold t_add
  rw [if_neg (by omega)]
/-- candidate i is open -/
def fV (t : Nat → Nat → tT) (hold : Nat → Nat → Prop) (i : Nat) : Prop := (t (i / 6 + 1) (i % 6)).1 < 100000000 ∧ hold (i / 6 + 1) (i % 6)
def fC (t : Nat → Nat → tT) (own : Nat) (i : Nat) : Nat := (t (i / 6 + 1) (i % 6)).1 + own
theorem fm_first {t : Nat → Nat → tT} {hold : Nat → Nat → Prop} {own b n : Nat} (hc : ∀ i, i < n → (t (i / 6 + 1) (i % 6)).1 < 100000000 → fC t own i < 100000000) : ∀ j, j ≤ n →
    ((fmN t hold own b j).1.1 < 100000000 → ∃ i, i < j ∧ fV t hold i ∧ (fmN t hold own b j).1.1 = fC t own i ∧ (fmN t hold own b j).2 = nI (6 * (b + (i / 6 + 1)) + i % 6) ∧ (∀ i', i' < j → fV t hold i' → fC t own i ≤ fC t own i') ∧ ∀ i', i' < i → fV t hold i' → fC t own i < fC t own i') ∧
    (¬ (fmN t hold own b j).1.1 < 100000000 → (fmN t hold own b j).1.1 = 100000000 ∧ ∀ i', i' < j → ¬ fV t hold i')
  | 0, _ => ⟨fun h => absurd h (Nat.lt_irrefl 100000000), fun _ => ⟨rfl, fun i' h => by omega⟩⟩
  | j + 1, hj => by
    obtain ⟨ih1, ih2⟩ := fm_first (hold := hold) (b := b) hc j (by omega)
    by_cases g : fV t hold j
    · rw [fmN_y rfl rfl g]
      have hC := hc j (by omega) g.1
      have e1 : (t_add (fmN t hold own b j).1 (t_sh own (t (j / 6 + 1) (j % 6)))).1 = if fC t own j < (fmN t hold own b j).1.1 then fC t own j else (fmN t hold own b j).1.1 := t_add_1 hC
      show ((t_add (fmN t hold own b j).1 (t_sh own (t (j / 6 + 1) (j % 6)))).1 < 100000000 → ∃ i, i < j + 1 ∧ fV t hold i ∧ (t_add (fmN t hold own b j).1 (t_sh own (t (j / 6 + 1) (j % 6)))).1 = fC t own i ∧ (if fC t own j < (fmN t hold own b j).1.1 then nI (6 * (b + (j / 6 + 1)) + j % 6) else (fmN t hold own b j).2) = _ ∧ _ ∧ _) ∧ (¬ (t_add (fmN t hold own b j).1 (t_sh own (t (j / 6 + 1) (j % 6)))).1 < 100000000 → (t_add (fmN t hold own b j).1 (t_sh own (t (j / 6 + 1) (j % 6)))).1 = _ ∧ _)
      rw [e1]
      by_cases u : fC t own j < (fmN t hold own b j).1.1
      · rw [if_pos u, if_pos u]
        have old : ∀ i', i' < j → fV t hold i' → fC t own j < fC t own i' := fun i' h1 h2 => by
          by_cases u2 : (fmN t hold own b j).1.1 < 100000000
          · obtain ⟨i, -, -, q3, -, q5, -⟩ := ih1 u2
            have := q5 i' h1 h2
            omega
          · exact absurd h2 ((ih2 u2).2 i' h1)
        refine ⟨fun _ => ⟨j, by omega, g, rfl, rfl, fun i' h1 h2 => ?_, old⟩, fun z => absurd hC z⟩
        rcases Nat.lt_or_ge i' j with k | k
        · exact Nat.le_of_lt (old i' k h2)
        · rw [show i' = j by omega]
          exact Nat.le_refl _
      · rw [if_neg u, if_neg u]
        have u2 : (fmN t hold own b j).1.1 < 100000000 := by omega
        obtain ⟨i, q1, q2, q3, q4, q5, q6⟩ := ih1 u2
        refine ⟨fun _ => ⟨i, by omega, q2, q3, q4, fun i' h1 h2 => ?_, q6⟩, fun z => absurd u2 z⟩
        rcases Nat.lt_or_ge i' j with k | k
        · exact q5 i' k h2
        · rw [show i' = j by omega]
          omega
    · rw [fmN_no rfl rfl g]
      refine ⟨fun h => ?_, fun h => ⟨(ih2 h).1, fun i' h1 h2 => ?_⟩⟩
      · obtain ⟨i, q1, q2, q3, q4, q5, q6⟩ := ih1 h
        refine ⟨i, by omega, q2, q3, q4, fun i' h1 h2 => ?_, q6⟩
        rcases Nat.lt_or_ge i' j with k | k
        · exact q5 i' k h2
        · rw [show i' = j by omega] at h2
          exact absurd h2 g
      · rcases Nat.lt_or_ge i' j with k | k
        · exact (ih2 h).2 i' k h2
        · rw [show i' = j by omega] at h2
          exact absurd h2 g
def fT (t : Nat → Nat → tT) (i : Nat) : Prop := (t (i / 6 + 1) (i % 6)).1 < 100000000
theorem ls_first {t : Nat → Nat → tT} {own ka n : Nat} {p0 : lE} (hc : ∀ i, i < n → fT t i → fC t own i < 100000000) : ∀ j, j ≤ n →
    ((lsF t own ka p0 j).1.1 < p0.1.1 → ∃ i, i < j ∧ fT t i ∧ (lsF t own ka p0 j).1.1 = fC t own i ∧ (lsF t own ka p0 j).2 = (nI ka, nI (6 * (i / 6 + 1) + i % 6)) ∧ (∀ i', i' < j → fT t i' → fC t own i ≤ fC t own i') ∧ ∀ i', i' < i → fT t i' → fC t own i < fC t own i') ∧
    (¬ (lsF t own ka p0 j).1.1 < p0.1.1 → (lsF t own ka p0 j).1.1 = p0.1.1 ∧ (lsF t own ka p0 j).2 = p0.2 ∧ ∀ i', i' < j → fT t i' → p0.1.1 ≤ fC t own i')
  | 0, _ => ⟨fun h => absurd h (Nat.lt_irrefl _), fun _ => ⟨rfl, rfl, fun i' h => by omega⟩⟩
  | j + 1, hj => by
    obtain ⟨ih1, ih2⟩ := ls_first (ka := ka) (p0 := p0) hc j (by omega)
    have e0 : lsF t own ka p0 (j + 1) = lsS own ka (j / 6 + 1) (j % 6) (t (j / 6 + 1) (j % 6)) (lsF t own ka p0 j) := rfl
    by_cases g : fT t j
    · have hC := hc j (by omega) g
      have e1 : (lsF t own ka p0 (j + 1)).1.1 = if fC t own j < (lsF t own ka p0 j).1.1 then fC t own j else (lsF t own ka p0 j).1.1 := by
        rw [e0]
        unfold lsS
        rw [if_pos (show (t (j / 6 + 1) (j % 6)).1 < 100000000 from g)]
        exact t_add_1 hC
      have e2 : (lsF t own ka p0 (j + 1)).2 = if fC t own j < (lsF t own ka p0 j).1.1 then (nI ka, nI (6 * (j / 6 + 1) + j % 6)) else (lsF t own ka p0 j).2 := by
        rw [e0]
        unfold lsS
        rw [if_pos (show (t (j / 6 + 1) (j % 6)).1 < 100000000 from g)]
        rfl
      rw [e1, e2]
      have le0 : (lsF t own ka p0 j).1.1 ≤ p0.1.1 := by
        by_cases u2 : (lsF t own ka p0 j).1.1 < p0.1.1
        · omega
        · rw [(ih2 u2).1]
          exact Nat.le_refl _
      by_cases u : fC t own j < (lsF t own ka p0 j).1.1
      · rw [if_pos u, if_pos u]
        have old : ∀ i', i' < j → fT t i' → fC t own j < fC t own i' := fun i' h1 h2 => by
          by_cases u2 : (lsF t own ka p0 j).1.1 < p0.1.1
          · obtain ⟨i, -, -, q3, -, q5, -⟩ := ih1 u2
            have := q5 i' h1 h2
            omega
          · have := (ih2 u2).2.2 i' h1 h2
            omega
        refine ⟨fun _ => ⟨j, by omega, g, rfl, rfl, fun i' h1 h2 => ?_, old⟩, fun z => by omega⟩
        rcases Nat.lt_or_ge i' j with k | k
        · exact Nat.le_of_lt (old i' k h2)
        · rw [show i' = j by omega]
          exact Nat.le_refl _
      · rw [if_neg u, if_neg u]
        refine ⟨fun h => ?_, fun h => ⟨(ih2 h).1, (ih2 h).2.1, fun i' h1 h2 => ?_⟩⟩
        · obtain ⟨i, q1, q2, q3, q4, q5, q6⟩ := ih1 h
          refine ⟨i, by omega, q2, q3, q4, fun i' h1 h2 => ?_, q6⟩
          rcases Nat.lt_or_ge i' j with k | k
          · exact q5 i' k h2
          · rw [show i' = j by omega]
            omega
        · rcases Nat.lt_or_ge i' j with k | k
          · exact (ih2 h).2.2 i' k h2
          · rw [show i' = j by omega]
            have := (ih2 h).1
            omega
    · have e1 : lsF t own ka p0 (j + 1) = lsF t own ka p0 j := by
        rw [e0]
        unfold lsS
        rw [if_neg (show ¬ (t (j / 6 + 1) (j % 6)).1 < 100000000 from g)]
      rw [e1]
      refine ⟨fun h => ?_, fun h => ⟨(ih2 h).1, (ih2 h).2.1, fun i' h1 h2 => ?_⟩⟩
      · obtain ⟨i, q1, q2, q3, q4, q5, q6⟩ := ih1 h
        refine ⟨i, by omega, q2, q3, q4, fun i' h1 h2 => ?_, q6⟩
        rcases Nat.lt_or_ge i' j with k | k
        · exact q5 i' k h2
        · rw [show i' = j by omega] at h2
          exact absurd h2 g
      · rcases Nat.lt_or_ge i' j with k | k
        · exact (ih2 h).2.2 i' k h2
        · rw [show i' = j by omega] at h2
          exact absurd h2 g
section T
variable {v : Nat → Int32} {N : Nat}
/-- the reference's last table -/
noncomputable def mT (v : Nat → Int32) (N a ka l k : Nat) : tT := (mTab v N N a ka l k).1
theorem lgN_pos (hv : lineOK v N) {a : Nat} (ha : a < N) : 1 ≤ lgN v N a := by
  have h5 := hv.2.1.2.2.2.2.1.eq (by omega)
  unfold lgN vN
  split <;> omega
theorem mT_n (hv : lineOK v N) {a ka l k : Nat} (h1 : 1 ≤ l) (h2 : l ≤ lgN v N a) : t_n (N - a) (mT v N a ka l k) := by
  have := lgN_le hv a
  exact mTab_ok2 hv N a ka l k h1 h2 (by omega)
theorem mTab_eq {a ka len kb : Nat} (ha : a < N) (h1 : 1 ≤ len) : mTab v N N a ka len kb = mspan v N (mTab v N N) a ka len kb := by
  have e : mTab v N (N - a) a = if a + (N - a - 1 + 1) = N then mspan v N (mTab v N (N - a - 1)) a else mTab v N (N - a - 1) a := by
    rw [show N - a = N - a - 1 + 1 by omega]
    rfl
  rw [mTab_stay (n := N - a) (m := N) (by omega) (by omega), e, if_pos (by omega)]
  unfold mspan
  rw [mTab_stay (a := a + len) (n := N - a - 1) (m := N) (by omega) (by omega)]
/-- an entry of the reference that is open: the last tower, or the first of the least -/
theorem mT_next (hv : lineOK v N) {a ka len kb : Nat} (h1 : 1 ≤ len) (h2 : len ≤ lgN v N a) (hf : (mT v N a ka len kb).1 < 100000000) :
    (a + len = N ∧ (mTab v N N a ka len kb).2 = -1 ∧ mT v N a ka len kb = (wN v N kb, 1, 1)) ∨
    (a + len < N ∧ ∃ i, i < 6 * lgN v N (a + len) ∧ fV (mT v N (a + len) kb) (fun l k => f_holds v a (a + len) (a + len + l) (nI ka) (nI kb) (nI k)) i ∧ (mT v N a ka len kb).1 = fC (mT v N (a + len) kb) (wN v (a + len) kb) i ∧ (mTab v N N a ka len kb).2 = nI (6 * (a + len + (i / 6 + 1)) + i % 6) ∧ (∀ i', i' < 6 * lgN v N (a + len) → fV (mT v N (a + len) kb) (fun l k => f_holds v a (a + len) (a + len + l) (nI ka) (nI kb) (nI k)) i' → fC (mT v N (a + len) kb) (wN v (a + len) kb) i ≤ fC (mT v N (a + len) kb) (wN v (a + len) kb) i') ∧ ∀ i', i' < i → fV (mT v N (a + len) kb) (fun l k => f_holds v a (a + len) (a + len + l) (nI ka) (nI kb) (nI k)) i' → fC (mT v N (a + len) kb) (wN v (a + len) kb) i < fC (mT v N (a + len) kb) (wN v (a + len) kb) i') := by
  have hlg := lgN_le hv a
  have h20 := hv.1.2.2
  have e := mTab_eq (v := v) (N := N) (a := a) (ka := ka) (len := len) (kb := kb) (by omega) h1
  have em : mT v N a ka len kb = (mspan v N (mTab v N N) a ka len kb).1 := by unfold mT; rw [e]
  rw [em] at hf ⊢
  rw [e]
  unfold mspan at hf ⊢
  by_cases g : mspOK v N a ka (a + len) kb
  · rw [@if_pos _ (Classical.propDecidable _) g] at hf ⊢
    by_cases g2 : a + len = N
    · rw [if_pos g2] at hf ⊢
      refine Or.inl ⟨g2, rfl, ?_⟩
      have hw := wN_le hv (x := N) (k := kb) (by omega)
      unfold t_add t_z
      rw [if_neg (by show ¬ 100000000 ≤ wN v N kb; omega)]
      show (if wN v N kb < 100000000 then wN v N kb else 100000000, if wN v N kb / 32 < 100000000 / 32 then 1 else if wN v N kb / 32 = 100000000 / 32 then (0 + 1) % 1000000 else 0, (0 + 1) % 1000000) = _
      rw [if_pos (by omega), if_pos (by omega)]
    · rw [if_neg g2] at hf ⊢
      refine Or.inr ⟨by omega, ?_⟩
      have hl2 := lgN_le hv (a + len)
      have hw := wN_le hv (x := a + len) (k := kb) (by omega)
      refine (fm_first (t := mT v N (a + len) kb) (own := wN v (a + len) kb) (b := a + len) (n := 6 * lgN v N (a + len)) (fun i hi hfi => ?_) _ (Nat.le_refl _)).1 hf
      have := (mT_n hv (a := a + len) (ka := kb) (l := i / 6 + 1) (k := i % 6) (by omega) (by omega)).fin hfi
      unfold fC
      omega
  · rw [@if_neg _ (Classical.propDecidable _) g] at hf
    exact absurd hf (by decide)
/-- the first of the least, of all first towers -/
theorem ls_all (hv : lineOK v N) : ∀ k, k ≤ 3 →
    ((lsV v N k).1.1 < 100000000 → ∃ ka i, 3 ≤ ka ∧ ka < 3 + k ∧ i < 6 * lgN v N 0 ∧ fT (mT v N 0 ka) i ∧ (lsV v N k).1.1 = fC (mT v N 0 ka) (wN v 0 ka) i ∧ (lsV v N k).2 = (nI ka, nI (6 * (i / 6 + 1) + i % 6)) ∧ (∀ ka' i', 3 ≤ ka' → ka' < 3 + k → i' < 6 * lgN v N 0 → fT (mT v N 0 ka') i' → fC (mT v N 0 ka) (wN v 0 ka) i ≤ fC (mT v N 0 ka') (wN v 0 ka') i') ∧ (∀ ka' i', 3 ≤ ka' → ka' < ka → i' < 6 * lgN v N 0 → fT (mT v N 0 ka') i' → fC (mT v N 0 ka) (wN v 0 ka) i < fC (mT v N 0 ka') (wN v 0 ka') i') ∧ ∀ i', i' < i → fT (mT v N 0 ka) i' → fC (mT v N 0 ka) (wN v 0 ka) i < fC (mT v N 0 ka) (wN v 0 ka) i') ∧
    (¬ (lsV v N k).1.1 < 100000000 → (lsV v N k).1.1 = 100000000 ∧ ∀ ka' i', 3 ≤ ka' → ka' < 3 + k → i' < 6 * lgN v N 0 → ¬ fT (mT v N 0 ka') i')
  | 0, _ => ⟨fun h => absurd h (Nat.lt_irrefl 100000000), fun _ => ⟨rfl, fun _ _ h1 h2 => by omega⟩⟩
  | k + 1, hk => by
    obtain ⟨ih1, ih2⟩ := ls_all hv k (by omega)
    have hl2 := lgN_le hv 0
    have h20 := hv.1.2.2
    have hw := wN_le hv (x := 0) (k := 3 + k) (by omega)
    have hc : ∀ ka, ∀ i, i < 6 * lgN v N 0 → fT (mT v N 0 ka) i → fC (mT v N 0 ka) (wN v 0 ka) i < 100000000 := fun ka i hi hfi => by
      have hw := wN_le hv (x := 0) (k := ka) (by omega)
      have := (mT_n hv (a := 0) (ka := ka) (l := i / 6 + 1) (k := i % 6) (by omega) (by omega)).fin hfi
      unfold fC
      omega
    obtain ⟨f1, f2⟩ := ls_first (t := mT v N 0 (3 + k)) (own := wN v 0 (3 + k)) (ka := 3 + k) (p0 := lsV v N k) (n := 6 * lgN v N 0) (hc (3 + k)) _ (Nat.le_refl _)
    have e : lsV v N (k + 1) = lsF (mT v N 0 (3 + k)) (wN v 0 (3 + k)) (3 + k) (lsV v N k) (6 * lgN v N 0) := rfl
    rw [e]
    have low : (lsV v N k).1.1 ≤ 100000000 := (lsV_ok hv k).1
    by_cases u : (lsF (mT v N 0 (3 + k)) (wN v 0 (3 + k)) (3 + k) (lsV v N k) (6 * lgN v N 0)).1.1 < (lsV v N k).1.1
    · obtain ⟨i, q1, q2, q3, q4, q5, q6⟩ := f1 u
      have old : ∀ ka' i', 3 ≤ ka' → ka' < 3 + k → i' < 6 * lgN v N 0 → fT (mT v N 0 ka') i' → fC (mT v N 0 (3 + k)) (wN v 0 (3 + k)) i < fC (mT v N 0 ka') (wN v 0 ka') i' := fun ka' i' g1 g2 g3 g4 => by
        by_cases u2 : (lsV v N k).1.1 < 100000000
        · obtain ⟨ka, j, -, -, -, -, p5, -, p7, -⟩ := ih1 u2
          have := p7 ka' i' g1 g2 g3 g4
          omega
        · exact absurd g4 ((ih2 u2).2 ka' i' g1 g2 g3)
      refine ⟨fun _ => ⟨3 + k, i, by omega, by omega, q1, q2, q3, q4, fun ka' i' g1 g2 g3 g4 => ?_, old, q6⟩, fun z => by omega⟩
      rcases Nat.lt_or_ge ka' (3 + k) with g | g
      · exact Nat.le_of_lt (old ka' i' g1 g g3 g4)
      · have : ka' = 3 + k := by omega
        subst this
        exact q5 i' g3 g4
    · obtain ⟨q1, q2, q3⟩ := f2 u
      rw [q1, q2]
      refine ⟨fun h => ?_, fun h => ⟨(ih2 h).1, fun ka' i' g1 g2 g3 g4 => ?_⟩⟩
      · obtain ⟨ka, j, p1, p2, p3, p4, p5, p6, p7, p8, p9⟩ := ih1 h
        refine ⟨ka, j, p1, by omega, p3, p4, p5, p6, fun ka' i' g1 g2 g3 g4 => ?_, p8, p9⟩
        rcases Nat.lt_or_ge ka' (3 + k) with g | g
        · exact p7 ka' i' g1 g g3 g4
        · have : ka' = 3 + k := by omega
          subst this
          have := q3 i' g3 g4
          omega
      · rcases Nat.lt_or_ge ka' (3 + k) with g | g
        · exact (ih2 h).2 ka' i' g1 g g3 g4
        · have : ka' = 3 + k := by omega
          subst this
          have := q3 i' g3 g4
          have := hc _ i' g3 g4
          omega
/-- the towers of the cheapest, two by two -/
noncomputable def pq (v : Nat → Int32) (N : Nat) : Nat → Nat × Nat
  | 0 => ((lsV v N 3).2.1.toNatClampNeg, (lsV v N 3).2.2.toNatClampNeg)
  | i + 1 => ((pq v N i).2, (mTab v N N ((pq v N i).1 / 6) ((pq v N i).1 % 6) ((pq v N i).2 / 6 - (pq v N i).1 / 6) ((pq v N i).2 % 6)).2.toNatClampNeg)
/-- the towers of the cheapest: six times the place, and the kind -/
noncomputable def pl (v : Nat → Int32) (N i : Nat) : Nat := (pq v N i).1
noncomputable def plN (v : Nat → Int32) (N : Nat) : Nat := (lsV v N 3).1.1 % 32
/-- the i-th tower and the next: places, kinds, the entry -/
def plE (v : Nat → Int32) (N i : Nat) : Prop := pl v N i / 6 < pl v N (i + 1) / 6 ∧ pl v N (i + 1) / 6 - pl v N i / 6 ≤ lgN v N (pl v N i / 6) ∧ pl v N (i + 1) / 6 ≤ N ∧ (mT v N (pl v N i / 6) (pl v N i % 6) (pl v N (i + 1) / 6 - pl v N i / 6) (pl v N (i + 1) % 6)).1 < 100000000 ∧ (mT v N (pl v N i / 6) (pl v N i % 6) (pl v N (i + 1) / 6 - pl v N i / 6) (pl v N (i + 1) % 6)).1 % 32 + i + 1 = plN v N
theorem pl_first (hv : lineOK v N) (hf : (lsV v N 3).1.1 < 100000000) : plE v N 0 ∧ pl v N 0 / 6 = 0 ∧ 3 ≤ pl v N 0 ∧ pl v N 0 < 6 ∧ (lsV v N 3).2 = (nI (pl v N 0), nI (pl v N 1)) ∧ pl v N 1 < 126 ∧ (lsV v N 3).1.1 = (mT v N 0 (pl v N 0) (pl v N 1 / 6) (pl v N 1 % 6)).1 + wN v 0 (pl v N 0) := by
  obtain ⟨ka, i, p1, p2, p3, p4, p5, p6, -⟩ := (ls_all hv 3 (by omega)).1 hf
  have hl2 := lgN_le hv 0
  have h20 := hv.1.2.2
  have e0 : pl v N 0 = ka := by
    show (lsV v N 3).2.1.toNatClampNeg = ka
    rw [p6]
    exact nI_clamp (by omega)
  have e1 : pl v N 1 = 6 * (i / 6 + 1) + i % 6 := by
    show (lsV v N 3).2.2.toNatClampNeg = _
    rw [p6]
    exact nI_clamp (by omega)
  unfold plE plN
  rw [p5, p6, Nat.zero_add, e0, e1, show ka / 6 = 0 by omega, show ka % 6 = ka by omega, show (6 * (i / 6 + 1) + i % 6) / 6 = i / 6 + 1 by omega, show (6 * (i / 6 + 1) + i % 6) % 6 = i % 6 by omega, Nat.sub_zero]
  have hn := (mT_n hv (a := 0) (ka := ka) (l := i / 6 + 1) (k := i % 6) (by omega) (by omega)).fin p4
  have hm := wN_mod (v := v) (x := 0) (k := ka)
  refine ⟨⟨by omega, by omega, by omega, p4, ?_⟩, rfl, p1, by omega, rfl, by omega, rfl⟩
  unfold fC
  omega
theorem pl_next (hv : lineOK v N) {i : Nat} (h : plE v N i) (hi : i + 2 ≤ plN v N) : (pl v N (i + 1) / 6 = N ↔ i + 2 = plN v N) ∧ (mTab v N N (pl v N i / 6) (pl v N i % 6) (pl v N (i + 1) / 6 - pl v N i / 6) (pl v N (i + 1) % 6)).2 = (if i + 2 = plN v N then -1 else nI (pl v N (i + 2))) ∧ (¬ i + 2 = plN v N → plE v N (i + 1) ∧ pl v N (i + 2) < 126) := by
  obtain ⟨h1, h2, h3, h4, h5⟩ := h
  have hl2 := lgN_le hv (pl v N i / 6)
  have h20 := hv.1.2.2
  have e2 : pl v N (i + 2) = (mTab v N N (pl v N i / 6) (pl v N i % 6) (pl v N (i + 1) / 6 - pl v N i / 6) (pl v N (i + 1) % 6)).2.toNatClampNeg := rfl
  have hab : pl v N i / 6 + (pl v N (i + 1) / 6 - pl v N i / 6) = pl v N (i + 1) / 6 := by omega
  rcases mT_next hv (by omega) h2 h4 with ⟨g1, g2, g3⟩ | ⟨g1, j, q1, q2, q3, q4, -⟩
  · have hm := wN_mod (v := v) (x := N) (k := pl v N (i + 1) % 6)
    rw [g3] at h5
    have h5' : wN v N (pl v N (i + 1) % 6) % 32 + i + 1 = plN v N := h5
    refine ⟨⟨fun _ => by omega, fun _ => by omega⟩, ?_, fun z => by omega⟩
    rw [if_pos (by omega)]
    exact g2
  · rw [hab] at g1 q1 q2 q3 q4
    have hl3 := lgN_le hv (pl v N (i + 1) / 6)
    have hn := (mT_n hv (a := pl v N (i + 1) / 6) (ka := pl v N (i + 1) % 6) (l := j / 6 + 1) (k := j % 6) (by omega) (by omega)).fin q2.1
    have hm := wN_mod (v := v) (x := pl v N (i + 1) / 6) (k := pl v N (i + 1) % 6)
    unfold fC at q3
    have e3 : pl v N (i + 2) = 6 * (pl v N (i + 1) / 6 + (j / 6 + 1)) + j % 6 := by
      rw [e2, q4]
      exact nI_clamp (by omega)
    have ne : ¬ i + 2 = plN v N := by
      have := (mT_n hv (a := pl v N (i + 1) / 6) (ka := pl v N (i + 1) % 6) (l := j / 6 + 1) (k := j % 6) (by omega) (by omega))
      have hge : ∀ t, t = mT v N (pl v N (i + 1) / 6) (pl v N (i + 1) % 6) (j / 6 + 1) (j % 6) → t.1 < 100000000 → 1 ≤ t.1 % 32 := fun t ht hft => by
        subst ht
        rcases mT_next hv (by omega) (by omega) hft with ⟨-, -, g3⟩ | ⟨g1', j', q1', q2', q3', -⟩
        · rw [g3]
          have hm := wN_mod (v := v) (x := N) (k := j % 6)
          show 1 ≤ wN v N (j % 6) % 32
          omega
        · have hl4 := lgN_le hv (pl v N (i + 1) / 6 + (j / 6 + 1))
          have hn' := (mT_n hv (a := pl v N (i + 1) / 6 + (j / 6 + 1)) (ka := j % 6) (l := j' / 6 + 1) (k := j' % 6) (by omega) (by omega)).fin q2'.1
          have hm' := wN_mod (v := v) (x := pl v N (i + 1) / 6 + (j / 6 + 1)) (k := j % 6)
          rw [q3']
          unfold fC
          omega
      have := hge _ rfl q2.1
      omega
    refine ⟨⟨fun z => by omega, fun z => absurd z ne⟩, ?_, fun _ => ⟨⟨?_, ?_, ?_, ?_, ?_⟩, by omega⟩⟩
    · rw [if_neg ne, q4, e3]
    · show pl v N (i + 1) / 6 < pl v N (i + 2) / 6
      omega
    · show pl v N (i + 2) / 6 - pl v N (i + 1) / 6 ≤ _
      omega
    · show pl v N (i + 2) / 6 ≤ N
      omega
    · show (mT v N (pl v N (i + 1) / 6) (pl v N (i + 1) % 6) (pl v N (i + 2) / 6 - pl v N (i + 1) / 6) (pl v N (i + 2) % 6)).1 < _
      rw [show pl v N (i + 2) / 6 - pl v N (i + 1) / 6 = j / 6 + 1 by omega, show pl v N (i + 2) % 6 = j % 6 by omega]
      exact q2.1
    · show (mT v N (pl v N (i + 1) / 6) (pl v N (i + 1) % 6) (pl v N (i + 2) / 6 - pl v N (i + 1) / 6) (pl v N (i + 2) % 6)).1 % 32 + (i + 1) + 1 = _
      rw [show pl v N (i + 2) / 6 - pl v N (i + 1) / 6 = j / 6 + 1 by omega, show pl v N (i + 2) % 6 = j % 6 by omega]
      omega
theorem plN_le (hv : lineOK v N) (hf : (lsV v N 3).1.1 < 100000000) : 2 ≤ plN v N ∧ plN v N ≤ 21 := by
  obtain ⟨⟨h1, h2, h3, h4, h5⟩, g0, -⟩ := pl_first hv hf
  have h20 := hv.1.2.2
  have hn := (mT_n hv (a := pl v N 0 / 6) (ka := pl v N 0 % 6) (l := pl v N (0 + 1) / 6 - pl v N 0 / 6) (k := pl v N (0 + 1) % 6) (by omega) h2).fin h4
  have : ¬ (mT v N (pl v N 0 / 6) (pl v N 0 % 6) (pl v N (0 + 1) / 6 - pl v N 0 / 6) (pl v N (0 + 1) % 6)).1 % 32 = 0 := fun z => by
    rcases mT_next hv (by omega) h2 h4 with ⟨-, -, g3⟩ | ⟨g1', j', q1', q2', q3', -⟩
    · rw [g3] at z
      have hm := wN_mod (v := v) (x := N) (k := pl v N (0 + 1) % 6)
      have : wN v N (pl v N (0 + 1) % 6) % 32 = 0 := z
      omega
    · have hl4 := lgN_le hv (pl v N 0 / 6 + (pl v N (0 + 1) / 6 - pl v N 0 / 6))
      have hn' := (mT_n hv (a := pl v N 0 / 6 + (pl v N (0 + 1) / 6 - pl v N 0 / 6)) (ka := pl v N (0 + 1) % 6) (l := j' / 6 + 1) (k := j' % 6) (by omega) (by omega)).fin q2'.1
      have hm' := wN_mod (v := v) (x := pl v N 0 / 6 + (pl v N (0 + 1) / 6 - pl v N 0 / 6)) (k := pl v N (0 + 1) % 6)
      rw [q3'] at z
      unfold fC at z
      omega
  omega
/-- all pairs of the cheapest -/
theorem pl_all (hv : lineOK v N) (hf : (lsV v N 3).1.1 < 100000000) : ∀ i, i + 2 ≤ plN v N → plE v N i ∧ pl v N i < 126 ∧ pl v N (i + 1) < 126
  | 0, _ => ⟨(pl_first hv hf).1, by have := (pl_first hv hf).2.2.2.1; omega, (pl_first hv hf).2.2.2.2.2.1⟩
  | i + 1, hi => by
    obtain ⟨g1, g2, g3⟩ := pl_all hv hf i (by omega)
    have := (pl_next hv g1 (by omega)).2.2 (by omega)
    exact ⟨this.1, g3, this.2⟩
end T
