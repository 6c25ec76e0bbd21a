/-! what leads through a place, in both -/
section T
variable {v : Nat → Int32} {N : Nat}
theorem mT_sp (hv : lineOK v N) {a ka len kb : Nat} (h1 : 1 ≤ len) (h2 : len ≤ lgN v N a) (hf : (mT v N a ka len kb).1 < 100000000) : mspOK v N a ka (a + len) kb := by
  have hl := lgN_le hv a
  unfold mT at hf
  rw [mTab_eq (by omega) h1] at hf
  unfold mspan at hf
  by_cases g : mspOK v N a ka (a + len) kb
  · exact g
  · rw [@if_neg _ (Classical.propDecidable _) g] at hf
    exact absurd hf (by decide)
theorem mT_st (hv : lineOK v N) {a ka len kb : Nat} (h1 : 1 ≤ len) (h2 : len ≤ lgN v N a) (hf : (mT v N a ka len kb).1 < 100000000) : 0 < a ∨ 3 ≤ ka := by
  have := (mT_sp hv h1 h2 hf).1.2
  omega
theorem cR_min (hv : lineOK v N) {a ka len lb : Nat} (h1 : 1 ≤ len) (h2 : len ≤ lgN v N a) (hka : ka < 6) (hlb : lb < 3) (h3 : 0 < a ∨ 3 ≤ ka) : cR v N a (ka % 3) len lb = if (mT v N a ka len lb).1 < (mT v N a ka len (lb + 3)).1 then (mT v N a ka len lb).1 else (mT v N a ka len (lb + 3)).1 := by
  have hl := lgN_le hv a
  have h20 := hv.1.2.2
  unfold cR
  rw [row_same hv (by omega) ka len lb hka h1 h2 hlb h3]
  exact (t_add_f ((mT_n hv h1 h2).d (by omega)) ((mT_n hv h1 h2).d (by omega))).1
theorem cR_le (hv : lineOK v N) {a ka len kb : Nat} (h1 : 1 ≤ len) (h2 : len ≤ lgN v N a) (hka : ka < 6) (hkb : kb < 6) (h3 : 0 < a ∨ 3 ≤ ka) : cR v N a (ka % 3) len (kb % 3) ≤ (mT v N a ka len kb).1 := by
  rw [cR_min hv h1 h2 hka (by omega) h3]
  rcases (show kb = kb % 3 ∨ kb = kb % 3 + 3 by omega) with u | u
  · rw [← u]
    split <;> omega
  · rw [← u]
    split <;> omega
theorem cR_ex (hv : lineOK v N) {a ka len lb : Nat} (h1 : 1 ≤ len) (h2 : len ≤ lgN v N a) (hka : ka < 6) (hlb : lb < 3) (h3 : 0 < a ∨ 3 ≤ ka) : ∃ kb, kb < 6 ∧ kb % 3 = lb ∧ cR v N a (ka % 3) len lb = (mT v N a ka len kb).1 := by
  rw [cR_min hv h1 h2 hka hlb h3]
  split
  · exact ⟨lb, by omega, by omega, rfl⟩
  · exact ⟨lb + 3, by omega, by omega, rfl⟩
theorem mT_fin (hv : lineOK v N) {z kz l ka len kb : Nat} (hl1 : 1 ≤ l) (hl2 : l ≤ lgN v N z) (h1 : 1 ≤ len) (h2 : len ≤ lgN v N (z + l)) (hkz : kz < 6) (hka : ka < 6) (hkb : kb < 6) (hst : 0 < z ∨ 3 ≤ kz) (hsp : spOK v z (kz % 3) (z + l) (ka % 3)) (hf : (mT v N (z + l) ka len kb).1 < 100000000) (hh : f_holds v z (z + l) (z + l + len) (nI kz) (nI ka) (nI kb)) : (mT v N z kz l ka).1 < 100000000 := by
  have h20 := hv.1.2.2
  have hl := lgN_le hv z
  have hlb := lgN_le hv (z + l)
  have hms : mspOK v N z kz (z + l) ka := ⟨⟨hsp.1, by omega⟩, ⟨hsp.2.1, by omega⟩, (clr_mod hv (a := z) (b := z + l) (ka := kz) (kb := ka) (by omega) (by omega) hkz hka).mp hsp.2.2⟩
  have hw := wN_le hv (x := z + l) (k := ka) (by omega)
  unfold mT
  rw [mTab_eq (by omega) hl1]
  unfold mspan
  rw [@if_pos _ (Classical.propDecidable _) hms, if_neg (by omega)]
  refine Classical.byContradiction (fun g => ?_)
  have no := ((fm_first (t := mT v N (z + l) ka) (hold := fun l' k => f_holds v z (z + l) (z + l + l') (nI kz) (nI ka) (nI k)) (own := wN v (z + l) ka) (b := z + l) (n := 6 * lgN v N (z + l)) (fun i hi hfi => by
    have := (mT_n hv (a := z + l) (ka := ka) (l := i / 6 + 1) (k := i % 6) (by omega) (by omega)).fin hfi
    unfold fC
    omega) _ (Nat.le_refl _)).2 g).2 (6 * (len - 1) + kb) (by omega)
  apply no
  unfold fV
  rw [show (6 * (len - 1) + kb) / 6 + 1 = len by omega, show (6 * (len - 1) + kb) % 6 = kb by omega]
  exact ⟨hf, hh⟩
/-- what leads to a tower of a kind, as the class sums it -/
def yP (v : Nat → Int32) (bf : Nat → Nat) (a ka len kb y : Nat) : Prop := (3 ≤ ka → (0 < a → liQ v bf a (ka % 3) (-1000000000) 24 y) ∧ (a = 0 → y = 0)) ∧ (ka < 3 → liQ v bf a (ka % 3) (lpI v - pA v a (ka % 3) len (kb % 3)) 24 y)
def aD (v : Nat → Int32) (N : Nat) (bf : Nat → Nat) (ah : aTb) (a : Nat) : Prop := ∀ ka len kb y, ka < 6 → kb < 6 → 1 ≤ len → len ≤ lgN v N a → (mT v N a ka len kb).1 < 100000000 → yP v bf a ka len kb y → (wN v a ka + y < 100000000 → ah a ka len kb = (wN v a ka + y) / 32 ∧ (wN v a ka + y) % 32 ≤ a + 1 ∧ wN v a ka + y ≤ 7000 * (a + 1)) ∧ (¬ wN v a ka + y < 100000000 → ah a ka len kb = 3125000)
def bA (v : Nat → Int32) (N : Nat) (bf : Nat → Nat) : Prop := ∀ a la len lb, a < N → la < 3 → 1 ≤ len → len ≤ lgN v N a → lb < 3 → bfP v N bf a la len lb (bf (spI a la len lb))
def aA (v : Nat → Int32) (N : Nat) (ah : aTb) : Prop := ∀ a ka len kb, a < N → ka < 6 → 1 ≤ len → len ≤ lgN v N a → kb < 6 → ahP v N ah a ka len kb (ah a ka len kb)
/-- a span's way in, by kinds -/
theorem bf_kinds {bf : Nat → Nat} (hb : bA v N bf) {a la len lb : Nat} (ha : a < N) (hla : la < 3) (h1 : 1 ≤ len) (h2 : len ≤ lgN v N a) (hlb : lb < 3) (hf : cR v N a la len lb < 100000000) : ∃ y3 y0, (∀ kb, kb % 3 = lb → yP v bf a (la + 3) len kb y3 ∧ yP v bf a la len kb y0) ∧ bf (spI a la len lb) = (if wN v a la + y0 < wN v a (la + 3) + y3 then wN v a la + y0 else wN v a (la + 3) + y3) := by
  obtain ⟨y3, y0, q1, q2, q3⟩ := (hb a la len lb ha hla h1 h2 hlb).2 hf
  refine ⟨if 0 < a then y3 else 0, y0, fun kb hk => ⟨⟨fun _ => ⟨fun z => ?_, fun z => ?_⟩, fun z => by omega⟩, ⟨fun z => by omega, fun _ => ?_⟩⟩, q3⟩
  · rw [if_pos z, show (la + 3) % 3 = la by omega]
    exact q1 z
  · rw [if_neg (by omega)]
  · rw [hk, show la % 3 = la by omega]
    exact q2
theorem y_zero {bf : Nat → Nat} {ka len kb y : Nat} (h : yP v bf 0 ka len kb y) (hk : ka < 3) : y = 100000000 := by
  obtain ⟨-, -, q | ⟨l, la, c, -⟩⟩ := h.2 hk
  · exact q
  · have := c.1
    omega
theorem need_holds (hv : lineOK v N) {a l ka kz len kb : Nat} (hl1 : 1 ≤ l) (hl8 : l ≤ 8) (hla : l ≤ a) (h1 : 1 ≤ len) (h2 : len ≤ lgN v N a) (haN : a < N) (hka : ka < 6) (hkz : kz < 6) (hkb : kb < 6) (need : Int32) (hn : need = if 3 ≤ ka then -1000000000 else lpI v - pA v a (ka % 3) len (kb % 3)) : need ≤ pB v (a - l) (kz % 3) l (ka % 3) ↔ f_holds v (a - l) a (a + len) (nI kz) (nI ka) (nI kb) := by
  have h20 := hv.1.2.2
  have hl := lgN_le hv a
  rw [hn]
  by_cases g : 3 ≤ ka
  · rw [if_pos g]
    exact ⟨fun _ => Or.inl (nI_lt (a := 2) (by omega) (by omega)), fun _ => pB_any hv hl1 hl8 (by omega) (by omega) (by omega)⟩
  · rw [if_neg g]
    have := hold_B hv (a := a - l) (len := l) (l := len) (ka := kz) (kb := ka) (kc := kb) hl1 hl8 h1 (by omega) (by omega) hkz (by omega) hkb
    rw [show a - l + l = a by omega] at this
    rw [show ka % 3 = ka by omega]
    exact this
theorem aD_all (hv : lineOK v N) {bf : Nat → Nat} {ah : aTb} (hb : bA v N bf) (ha : aA v N ah) : ∀ n a, a ≤ n → a < N → aD v N bf ah a := by
  have h20 := hv.1.2.2
  have h5 := (set_N hv).2.2.1.2
  intro n
  induction n with
  | zero =>
    intro a han haN
    have : a = 0 := by omega
    subst this
    intro ka len kb y hka hkb h1 h2 hf hy
    have h3 : 3 ≤ ka := by
      have := mT_st hv h1 h2 hf
      omega
    have hy0 := (hy.1 h3).2 rfl
    subst hy0
    have hx := (ha 0 ka len kb haN hka h1 h2 hkb).2.1 hf rfl
    have hw := wN_le hv (x := 0) (k := ka) (by omega)
    refine ⟨fun _ => ⟨?_, ?_, by omega⟩, fun z => by omega⟩
    · rw [hx]
      unfold wN
      omega
    · have := wN_mod (v := v) (x := 0) (k := ka)
      omega
  | succ n ih =>
    intro a han haN
    by_cases ha0 : a ≤ n
    · exact ih a ha0 haN
    intro ka len kb y hka hkb h1 h2 hf hy
    have hla := lgN_le hv a
    have hw := wN_le hv (x := a) (k := ka) (by omega)
    have hwm := wN_mod (v := v) (x := a) (k := ka)
    have ew : wN v a ka = cN v a ka * 32 + 1 := rfl
    obtain ⟨m1, m2⟩ := (ha a ka len kb haN hka h1 h2 hkb).2.2 hf (by omega)
    obtain ⟨need, hn⟩ : ∃ need : Int32, need = if 3 ≤ ka then -1000000000 else lpI v - pA v a (ka % 3) len (kb % 3) := ⟨_, rfl⟩
    have hq : liQ v bf a (ka % 3) need 24 y := by
      rw [hn]
      by_cases g : 3 ≤ ka
      · rw [if_pos g]
        exact (hy.1 g).1 (by omega)
      · rw [if_neg g]
        exact hy.2 (by omega)
    obtain ⟨q0, q1, q2⟩ := hq
    /- from the reference to the class -/
    have c2 : ∀ l kz, ahC v N ah a ka len kb l kz → wN v a ka + y ≤ 7000 * (a + 1) ∧ (wN v a ka + y) / 32 ≤ ah (a - l) kz l ka + cN v a ka := fun l kz c => by
      obtain ⟨⟨d1, d2, d3, d4⟩, d5, d6, d7⟩ := c
      have hlz : l ≤ lgN v N (a - l) := by unfold lgN; split <;> omega
      have hst := mT_st hv d1 hlz d5
      have hcR : cR v N (a - l) (kz % 3) l (ka % 3) < 100000000 := Nat.lt_of_le_of_lt (cR_le hv d1 hlz d4 hka hst) d5
      obtain ⟨y3, y0, hyy, hbf⟩ := bf_kinds hb (a := a - l) (la := kz % 3) (len := l) (lb := ka % 3) (by omega) (by omega) d1 hlz (by omega) hcR
      obtain ⟨hy3, hy0⟩ := hyy ka rfl
      have hle := q1 l (kz % 3) ⟨⟨d1, d2, d3, by omega⟩, (need_holds hv d1 (by omega) d3 h1 h2 haN hka d4 hkb need hn).mpr d7⟩ (by omega)
      rw [hbf] at hle
      have dz := ih (a - l) (by omega) (by omega)
      rcases (show kz = kz % 3 ∨ kz = kz % 3 + 3 by omega) with u | u
      · rw [← u] at hy0
        have r := dz kz l ka y0 d4 hka d1 hlz d5 hy0
        by_cases g : wN v (a - l) kz + y0 < 100000000
        · obtain ⟨r1, r2, r3⟩ := r.1 g
          have : y ≤ wN v (a - l) kz + y0 := by
            rw [← u] at hle
            split at hle <;> omega
          rw [r1]
          omega
        · have := r.2 g
          omega
      · rw [← u] at hy3
        have r := dz kz l ka y3 d4 hka d1 hlz d5 hy3
        by_cases g : wN v (a - l) kz + y3 < 100000000
        · obtain ⟨r1, r2, r3⟩ := r.1 g
          have : y ≤ wN v (a - l) kz + y3 := by
            rw [← u] at hle
            split at hle <;> omega
          rw [r1]
          omega
        · have := r.2 g
          omega
    constructor
    · intro hW
      rcases q2 with q | ⟨l, lz, c, q⟩
      · omega
      obtain ⟨⟨d1, d2, d3, d4⟩, d5⟩ := c
      have hlz : l ≤ lgN v N (a - l) := by unfold lgN; split <;> omega
      have hcR : cR v N (a - l) lz l (ka % 3) < 100000000 := Classical.byContradiction (fun g => by
        have := (hb (a - l) lz l (ka % 3) (by omega) d4 d1 hlz (by omega)).1 g
        omega)
      obtain ⟨y3, y0, hyy, hbf⟩ := bf_kinds hb (a := a - l) (la := lz) (len := l) (lb := ka % 3) (by omega) d4 d1 hlz (by omega) hcR
      obtain ⟨hy3, hy0⟩ := hyy ka rfl
      have hsp := row_sp (v := v) (N := N) (a := a - l) (la := lz) (len := l) (lb := ka % 3) (by omega) d1 hcR
      have dz := ih (a - l) (by omega) (by omega)
      have key : ∀ kz y', kz < 6 → kz % 3 = lz → yP v bf (a - l) kz l ka y' → y = wN v (a - l) kz + y' → ah a ka len kb ≤ (wN v a ka + y) / 32 ∧ (wN v a ka + y) % 32 ≤ a + 1 ∧ wN v a ka + y ≤ 7000 * (a + 1) := fun kz y' e1 e2 e3 e4 => by
        have hst : 0 < a - l ∨ 3 ≤ kz := by
          rcases Nat.lt_or_ge 0 (a - l) with u | u
          · exact Or.inl u
          · refine Or.inr (Classical.byContradiction (fun g => ?_))
            rw [show a - l = 0 by omega] at e3
            have := y_zero e3 (by omega)
            omega
        have hh : f_holds v (a - l) a (a + len) (nI kz) (nI ka) (nI kb) := (need_holds hv d1 (by omega) d3 h1 h2 haN hka e1 hkb need hn).mp (by rw [e2]; exact d5)
        have ea : a - l + l = a := by omega
        have d6 : (mT v N (a - l) kz l ka).1 < 100000000 := mT_fin hv (kb := kb) (len := len) d1 hlz h1 (by rw [ea]; exact h2) e1 hka hkb hst (by rw [e2]; exact hsp) (by rw [ea]; exact hf) (by rw [ea]; exact hh)
        obtain ⟨r1, r2, r3⟩ := (dz kz l ka y' e1 hka d1 hlz d6 e3).1 (by omega)
        have := m1 l kz ⟨⟨d1, d2, d3, e1⟩, d6, by omega, hh⟩ (by omega)
        rw [r1] at this
        omega
      have k : ah a ka len kb ≤ (wN v a ka + y) / 32 ∧ (wN v a ka + y) % 32 ≤ a + 1 ∧ wN v a ka + y ≤ 7000 * (a + 1) := by
        rw [hbf] at q
        by_cases g : wN v (a - l) lz + y0 < wN v (a - l) (lz + 3) + y3
        · rw [if_pos g] at q
          exact key lz y0 (by omega) (by omega) hy0 q
        · rw [if_neg g] at q
          exact key (lz + 3) y3 (by omega) (by omega) hy3 q
      refine ⟨?_, k.2⟩
      rcases m2 with g | ⟨l', kz', c, g⟩
      · omega
      · have := (c2 l' kz' c).2
        omega
    · intro hW
      rcases m2 with g | ⟨l', kz', c, g⟩
      · exact g
      · have := (c2 l' kz' c).1
        omega
/-- both say the same of a place -/
theorem thru_same (hv : lineOK v N) {bf : Nat → Nat} {ah : aTb} (hb : bA v N bf) (ha : aA v N ah) {x y t : Nat} (hx : x ≤ N) (hy : wQ v N bf x 1512 y) (ht : tQ v N ah x 6804 t) : (y < 100000000 → t = y / 32) ∧ (100000000 ≤ y → t = 3125000) := by
  have h20 := hv.1.2.2
  have h5 := (set_N hv).2.2.1.2
  /- from the reference to the class -/
  have c2 : ∀ a ka len kb, tC v N ah x 6804 a ka len kb → y < 100000000 ∧ y / 32 ≤ ah a ka len kb + (mT v N a ka len kb).1 / 32 := fun a ka len kb c => by
    obtain ⟨⟨d0, d1, d2, d3, d4, -⟩, d5⟩ := c
    have hl := lgN_le hv a
    have hf : (mT v N a ka len kb).1 < 100000000 := Classical.byContradiction (fun g => by
      have := (ha a ka len kb (by omega) d3 d1 d2 d4).1 g
      omega)
    have hst := mT_st hv d1 d2 hf
    have hle := cR_le hv d1 d2 d3 d4 hst
    have hn := (mT_n hv (ka := ka) (k := kb) d1 d2).fin hf
    obtain ⟨y3, y0, hyy, hbf⟩ := bf_kinds hb (a := a) (la := ka % 3) (len := len) (lb := kb % 3) (by omega) (by omega) d1 d2 (by omega) (by omega)
    obtain ⟨hy3, hy0⟩ := hyy kb rfl
    have dz := aD_all hv hb ha a a (Nat.le_refl _) (by omega)
    have hq := hy.1 a (ka % 3) len (kb % 3) ⟨d0, d1, d2, by omega, by omega, by
      rw [spI_eq d1]
      omega⟩
    rw [hbf] at hq
    rcases (show ka = ka % 3 ∨ ka = ka % 3 + 3 by omega) with u | u
    · rw [← u] at hy0
      have r := dz ka len kb y0 d3 d4 d1 d2 hf hy0
      by_cases g : wN v a ka + y0 < 100000000
      · obtain ⟨r1, r2, r3⟩ := r.1 g
        have : (if wN v a (ka % 3) + y0 < wN v a (ka % 3 + 3) + y3 then wN v a (ka % 3) + y0 else wN v a (ka % 3 + 3) + y3) ≤ wN v a ka + y0 := by
          rw [← u]
          split <;> omega
        rw [r1]
        omega
      · have := r.2 g
        omega
    · rw [← u] at hy3
      have r := dz ka len kb y3 d3 d4 d1 d2 hf hy3
      by_cases g : wN v a ka + y3 < 100000000
      · obtain ⟨r1, r2, r3⟩ := r.1 g
        have : (if wN v a (ka % 3) + y0 < wN v a (ka % 3 + 3) + y3 then wN v a (ka % 3) + y0 else wN v a (ka % 3 + 3) + y3) ≤ wN v a ka + y3 := by
          rw [← u]
          split <;> omega
        rw [r1]
        omega
      · have := r.2 g
        omega
  constructor
  · intro hW
    rcases hy.2 with q | ⟨a, la, len, lb, ⟨d0, d1, d2, d3, d4, -⟩, q⟩
    · omega
    have hl := lgN_le hv a
    obtain ⟨y3, y0, hyy, hbf⟩ := bf_kinds hb (a := a) (la := la) (len := len) (lb := lb) (by omega) d3 d1 d2 d4 (by omega)
    have dz := aD_all hv hb ha a a (Nat.le_refl _) (by omega)
    have key : ∀ ka y', ka < 6 → ka % 3 = la → (∀ kb, kb % 3 = lb → yP v bf a ka len kb y') → bf (spI a la len lb) = wN v a ka + y' → t ≤ y / 32 := fun ka y' e1 e2 e3 e4 => by
      have hst : 0 < a ∨ 3 ≤ ka := by
        rcases Nat.lt_or_ge 0 a with u | u
        · exact Or.inl u
        · refine Or.inr (Classical.byContradiction (fun g => ?_))
          have e3 := e3 lb (by omega)
          rw [show a = 0 by omega] at e3
          have := y_zero e3 (by omega)
          omega
      obtain ⟨kb, k1, k2, k3⟩ := cR_ex hv d1 d2 e1 d4 hst
      rw [e2] at k3
      have hf : (mT v N a ka len kb).1 < 100000000 := by omega
      have hn := (mT_n hv (ka := ka) (k := kb) d1 d2).fin hf
      obtain ⟨r1, r2, r3⟩ := (dz ka len kb y' e1 k1 d1 d2 hf (e3 kb k2)).1 (by omega)
      have := ht.1 a ka len kb ⟨⟨d0, d1, d2, e1, k1, prI_lt (by omega) (by omega) e1 k1⟩, by omega⟩
      rw [r1] at this
      omega
    have k : t ≤ y / 32 := by
      by_cases g : wN v a la + y0 < wN v a (la + 3) + y3
      · rw [if_pos g] at hbf
        exact key la y0 (by omega) (by omega) (fun kb hk => (hyy kb hk).2) hbf
      · rw [if_neg g] at hbf
        exact key (la + 3) y3 (by omega) (by omega) (fun kb hk => (hyy kb hk).1) hbf
    rcases ht.2 with g | ⟨a', ka', len', kb', c, g⟩
    · omega
    · have := (c2 a' ka' len' kb' c).2
      omega
  · intro hW
    rcases ht.2 with g | ⟨a', ka', len', kb', c, g⟩
    · exact g
    · have := (c2 a' ka' len' kb' c).1
      omega
end T
