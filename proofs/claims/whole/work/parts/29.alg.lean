/-! tallies add up in any order -/
def t_d (t : tT) : Prop := t = t_z ∨ (t.1 < 100000000 ∧ t.2.1 < 1000000 ∧ t.2.2 < 1000000)
theorem t_n.d {m : Nat} {t : tT} (h : t_n m t) (hm : m ≤ 21) : t_d t := by
  rcases h with h | ⟨h1, h2, h3, h4⟩
  · exact Or.inl h
  · exact Or.inr ⟨by omega, h3, h4⟩
theorem t_d_z : t_d t_z := Or.inl rfl
theorem t_d.b {t : tT} (h : t_d t) : (t.1 < 100000000 ∨ (t.1 = 100000000 ∧ t.2.1 = 0 ∧ t.2.2 = 0)) ∧ t.2.1 < 1000000 ∧ t.2.2 < 1000000 := by
  rcases h with rfl | h
  · exact ⟨Or.inr ⟨rfl, rfl, rfl⟩, by decide, by decide⟩
  · exact ⟨Or.inl h.1, h.2⟩
theorem t_d.of {t : tT} (h : (t.1 < 100000000 ∨ (t.1 = 100000000 ∧ t.2.1 = 0 ∧ t.2.2 = 0)) ∧ t.2.1 < 1000000 ∧ t.2.2 < 1000000) : t_d t := by
  rcases h with ⟨h | ⟨h1, h2, h3⟩, h4⟩
  · exact Or.inr ⟨h, h4⟩
  · exact Or.inl (Prod.ext h1 (Prod.ext h2 h3))
theorem t_add_f {t o : tT} (ht : t_d t) (ho : t_d o) : (t_add t o).1 = (if o.1 < t.1 then o.1 else t.1) ∧ (t_add t o).2.1 = (if o.1 / 32 < t.1 / 32 then o.2.1 else if o.1 / 32 = t.1 / 32 then (t.2.1 + o.2.1) % 1000000 else t.2.1) ∧ (t_add t o).2.2 = (t.2.2 + o.2.2) % 1000000 := by
  have b1 := ht.b
  have b2 := ho.b
  unfold t_add
  by_cases h : 100000000 ≤ o.1
  · rw [if_pos h]
    refine ⟨?_, ?_, ?_⟩
    · rw [if_neg (by omega)]
    · rw [if_neg (by omega)]
      split
      · omega
      · rfl
    · omega
  · rw [if_neg h]
    exact ⟨rfl, rfl, rfl⟩
theorem t_ext {t o : tT} (h1 : t.1 = o.1) (h2 : t.2.1 = o.2.1) (h3 : t.2.2 = o.2.2) : t = o := Prod.ext h1 (Prod.ext h2 h3)
theorem t_add_d {t o : tT} (ht : t_d t) (ho : t_d o) : t_d (t_add t o) := by
  have b1 := ht.b
  have b2 := ho.b
  obtain ⟨f1, f2, f3⟩ := t_add_f ht ho
  refine t_d.of ?_
  rw [f1, f2, f3]
  refine ⟨?_, ?_, by omega⟩
  · by_cases h : o.1 < t.1
    · rw [if_pos h]
      exact Or.inl (by omega)
    · rw [if_neg h]
      rcases Nat.lt_or_ge t.1 100000000 with g | g
      · exact Or.inl g
      · refine Or.inr ⟨by omega, ?_, by omega⟩
        rw [if_neg (by omega), if_pos (by omega)]
        omega
  · split
    · omega
    · split <;> omega
theorem t_add_c {t o : tT} (ht : t_d t) (ho : t_d o) : t_add t o = t_add o t := by
  obtain ⟨f1, f2, f3⟩ := t_add_f ht ho
  obtain ⟨g1, g2, g3⟩ := t_add_f ho ht
  refine t_ext ?_ ?_ ?_
  · rw [f1, g1]
    split <;> split <;> omega
  · rw [f2, g2, Nat.add_comm t.2.1]
    rcases Nat.lt_trichotomy (o.1 / 32) (t.1 / 32) with h | h | h
    · rw [if_pos h, if_neg (by omega), if_neg (by omega)]
    · rw [if_neg (by omega), if_pos h, if_neg (by omega), if_pos h.symm]
    · rw [if_neg (by omega), if_neg (by omega), if_pos h]
  · rw [f3, g3, Nat.add_comm]
theorem t_add_a {t o p : tT} (ht : t_d t) (ho : t_d o) (hp : t_d p) : t_add (t_add t o) p = t_add t (t_add o p) := by
  have bt := ht.b
  have bo := ho.b
  have bp := hp.b
  obtain ⟨f1, f2, f3⟩ := t_add_f ht ho
  obtain ⟨g1, g2, g3⟩ := t_add_f ho hp
  obtain ⟨k1, k2, k3⟩ := t_add_f (t_add_d ht ho) hp
  obtain ⟨l1, l2, l3⟩ := t_add_f ht (t_add_d ho hp)
  have c1 : (t_add t o).1 / 32 = if o.1 / 32 < t.1 / 32 then o.1 / 32 else t.1 / 32 := by
    rw [f1]
    split <;> split <;> omega
  have c2 : (t_add o p).1 / 32 = if p.1 / 32 < o.1 / 32 then p.1 / 32 else o.1 / 32 := by
    rw [g1]
    split <;> split <;> omega
  refine t_ext ?_ ?_ ?_
  · rw [k1, l1, f1, g1]
    split <;> split <;> (try split) <;> (try split) <;> omega
  · rw [k2, l2, c1, c2, f2, g2]
    generalize t.1 / 32 = x at *
    generalize o.1 / 32 = y at *
    generalize p.1 / 32 = z at *
    rcases Nat.lt_trichotomy y x with h | h | h <;> rcases Nat.lt_trichotomy z y with h2 | h2 | h2 <;> rcases Nat.lt_trichotomy z x with h3 | h3 | h3 <;> (try omega) <;> simp [h, h2, h3, Nat.lt_asymm, Nat.ne_of_lt, Nat.ne_of_gt, Nat.not_lt_of_gt, Nat.lt_irrefl] <;> (try omega)
  · rw [k3, l3, f3, g3]
    omega
theorem t_z_add {t : tT} (ht : t_d t) : t_add t_z t = t := by
  rw [t_add_c t_d_z ht]
  unfold t_add t_z
  rw [if_pos (by decide)]
theorem t_add_z {t : tT} : t_add t t_z = t := by
  unfold t_add t_z
  rw [if_pos (by decide)]
def tD : Type := {t : tT // t_d t}
def tOp (x y : tD) : tD := ⟨t_add x.1 y.1, t_add_d x.2 y.2⟩
theorem tOp_a (x y z : tD) : tOp (tOp x y) z = tOp x (tOp y z) := Subtype.ext (t_add_a x.2 y.2 z.2)
theorem tOp_c (x y : tD) : tOp x y = tOp y x := Subtype.ext (t_add_c x.2 y.2)
theorem t_six (s a b c d e f : tD) : tOp (tOp (tOp (tOp (tOp (tOp s a) b) c) d) e) f = tOp (tOp (tOp s (tOp d a)) (tOp e b)) (tOp f c) := by
  haveI : Std.Associative tOp := ⟨tOp_a⟩
  haveI : Std.Commutative tOp := ⟨tOp_c⟩
  ac_rfl
theorem t_four (a b c d : tD) : tOp (tOp a b) (tOp c d) = tOp (tOp a c) (tOp b d) := by
  haveI : Std.Associative tOp := ⟨tOp_a⟩
  haveI : Std.Commutative tOp := ⟨tOp_c⟩
  ac_rfl
/-- a tally behind one more tower -/
def t_s (w : Nat) (t : tT) : tT := if t.1 < 100000000 then t_sh w t else t_z
theorem t_add_s {p t : tT} {w : Nat} (h : ¬ t.1 < 100000000 → 100000000 ≤ t.1) : t_add p (t_sh w t) = t_add p (t_s w t) := by
  unfold t_s
  by_cases g : t.1 < 100000000
  · rw [if_pos g]
  · rw [if_neg g, t_add_z]
    unfold t_add t_sh
    rw [if_pos (by show 100000000 ≤ t.1 + w; omega)]
theorem t_s_n {m w : Nat} {t : tT} (ht : t_n m t) (hm : m ≤ 20) (ho : w % 32 = 1) (h7 : w ≤ 7000) : t_n (m + 1) (t_s w t) := by
  unfold t_s
  split
  · exact t_n_sh ht hm (by assumption) ho h7
  · exact t_n_z
theorem t_s_add {m w : Nat} {t o : tT} (ht : t_n m t) (ho : t_n m o) (hm : m ≤ 20) (hw : w % 32 = 1) (h7 : w ≤ 7000) : t_s w (t_add t o) = t_add (t_s w t) (t_s w o) := by
  have dt := ht.d (by omega)
  have dd := ho.d (by omega)
  by_cases g : t.1 < 100000000
  · by_cases g2 : o.1 < 100000000
    · have f := t_add_f dt dd
      have b1 := ht.fin g
      have b2 := ho.fin g2
      have k := t_add_f ((t_s_n ht hm hw h7).d (by omega)) ((t_s_n ho hm hw h7).d (by omega))
      have e1 : t_s w t = (t.1 + w, t.2.1, t.2.2) := by unfold t_s; rw [if_pos g]; rfl
      have e2 : t_s w o = (o.1 + w, o.2.1, o.2.2) := by unfold t_s; rw [if_pos g2]; rfl
      have e3 : t_s w (t_add t o) = ((t_add t o).1 + w, (t_add t o).2.1, (t_add t o).2.2) := by
        unfold t_s
        rw [if_pos]
        · rfl
        · rw [f.1]
          split <;> omega
      rw [e1, e2] at k ⊢
      rw [e3]
      have q1 : (t.1 + w) / 32 = t.1 / 32 + w / 32 := by omega
      have q2 : (o.1 + w) / 32 = o.1 / 32 + w / 32 := by omega
      obtain ⟨k1, k2, k3⟩ := k
      refine t_ext ?_ ?_ ?_
      · rw [k1]
        show (t_add t o).1 + w = if o.1 + w < t.1 + w then o.1 + w else t.1 + w
        rw [f.1]
        split <;> split <;> omega
      · rw [k2]
        show (t_add t o).2.1 = if (o.1 + w) / 32 < (t.1 + w) / 32 then o.2.1 else if (o.1 + w) / 32 = (t.1 + w) / 32 then (t.2.1 + o.2.1) % 1000000 else t.2.1
        rw [f.2.1, q1, q2]
        rcases Nat.lt_trichotomy (o.1 / 32) (t.1 / 32) with h | h | h
        · rw [if_pos h, if_pos (by omega)]
        · rw [if_neg (by omega), if_pos h, if_neg (by omega), if_pos (by omega)]
        · rw [if_neg (by omega), if_neg (by omega), if_neg (by omega), if_neg (by omega)]
      · rw [k3]
        exact f.2.2
    · have : o = t_z := by
        rcases ho with h | h
        · exact h
        · omega
      subst this
      rw [t_add_z]
      have : t_s w t_z = t_z := rfl
      rw [this, t_add_z]
  · have : t = t_z := by
      rcases ht with h | h
      · exact h
      · omega
    subst this
    rw [t_z_add dd, show t_s w t_z = t_z from rfl, t_z_add ((t_s_n ho hm hw h7).d (by omega))]
/-- a sum of tallies -/
def sumT (f : Nat → tT) : Nat → tT
  | 0 => t_z
  | n + 1 => t_add (sumT f n) (f n)
theorem sumT_n {f : Nat → tT} {m : Nat} (hm : m ≤ 21) : ∀ n, (∀ i, i < n → t_n m (f i)) → t_n m (sumT f n)
  | 0, _ => t_n_z
  | n + 1, h => t_n_add (sumT_n hm n (fun i hi => h i (by omega))) (h n (by omega)) hm
theorem sumT_d {f : Nat → tT} : ∀ n, (∀ i, i < n → t_d (f i)) → t_d (sumT f n)
  | 0, _ => t_d_z
  | n + 1, h => t_add_d (sumT_d n (fun i hi => h i (by omega))) (h n (by omega))
theorem sumT_congr {f g : Nat → tT} : ∀ n, (∀ i, i < n → f i = g i) → sumT f n = sumT g n
  | 0, _ => rfl
  | n + 1, h => by
    unfold sumT
    rw [sumT_congr n (fun i hi => h i (by omega)), h n (by omega)]
theorem sumT_s {f : Nat → tT} {m w : Nat} (hm : m ≤ 20) (hw : w % 32 = 1) (h7 : w ≤ 7000) : ∀ n, (∀ i, i < n → t_n m (f i)) → t_s w (sumT f n) = sumT (fun i => t_s w (f i)) n
  | 0, _ => rfl
  | n + 1, h => by
    unfold sumT
    rw [t_s_add (m := m) (sumT_n (by omega) n (fun i hi => h i (by omega))) (h n (by omega)) hm hw h7, sumT_s hm hw h7 n (fun i hi => h i (by omega))]
/-- six kinds are three levels, twice -/
theorem sumT_six {f : Nat → tT} : ∀ n, (∀ i, i < 6 * n → t_d (f i)) → sumT f (6 * n) = sumT (fun i => t_add (f (6 * (i / 3) + i % 3 + 3)) (f (6 * (i / 3) + i % 3))) (3 * n)
  | 0, _ => rfl
  | n + 1, h => by
    have ih := sumT_six n (fun i hi => h i (by omega))
    have e1 : sumT f (6 * (n + 1)) = t_add (t_add (t_add (t_add (t_add (t_add (sumT f (6 * n)) (f (6 * n))) (f (6 * n + 1))) (f (6 * n + 2))) (f (6 * n + 3))) (f (6 * n + 4))) (f (6 * n + 5)) := rfl
    have e2 : ∀ g : Nat → tT, sumT g (3 * (n + 1)) = t_add (t_add (t_add (sumT g (3 * n)) (g (3 * n))) (g (3 * n + 1))) (g (3 * n + 2)) := fun g => rfl
    rw [e1, e2, ih]
    have d0 := sumT_d (f := f) (6 * n) (fun i hi => h i (by omega))
    rw [ih] at d0
    have := congrArg Subtype.val (t_six ⟨_, d0⟩ ⟨_, h (6 * n) (by omega)⟩ ⟨_, h (6 * n + 1) (by omega)⟩ ⟨_, h (6 * n + 2) (by omega)⟩ ⟨_, h (6 * n + 3) (by omega)⟩ ⟨_, h (6 * n + 4) (by omega)⟩ ⟨_, h (6 * n + 5) (by omega)⟩)
    rw [show 6 * (3 * n / 3) + 3 * n % 3 = 6 * n by omega, show 6 * ((3 * n + 1) / 3) + (3 * n + 1) % 3 = 6 * n + 1 by omega, show 6 * ((3 * n + 2) / 3) + (3 * n + 2) % 3 = 6 * n + 2 by omega]
    exact this
