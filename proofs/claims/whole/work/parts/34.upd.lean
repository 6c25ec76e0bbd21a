/-! a line with one entry changed -/
def okAt (N k : Nat) (y : Int32) : Prop :=
  if k = 0 then y = nI N else if k = 1 then isB y 1 60 else if k = 2 then isB y 0 20 else if k = 3 then isB y 0 20 else if k = 4 then isB y 1 200 else if k = 5 then isB y 1 8 else if k = 6 then isB y 0 9 else
  if k < 28 then isB y 0 99 else if k < 49 then isB y 0 30 else if k < 70 then isB y 0 9 else if k < 91 then isB y 0 1 ∧ (k = 70 ∨ k = 70 + N → y = 0) else isKd y ∧ (91 + N < k → y = -1)
theorem okAt_g {N x : Nat} {y : Int32} (h : x < 21) : okAt N (7 + x) y ↔ isB y 0 99 := by
  unfold okAt
  rw [if_neg (by omega), if_neg (by omega), if_neg (by omega), if_neg (by omega), if_neg (by omega), if_neg (by omega), if_neg (by omega), if_pos (by omega)]
theorem okAt_n {N x : Nat} {y : Int32} (h : x < 21) : okAt N (28 + x) y ↔ isB y 0 30 := by
  unfold okAt
  rw [if_neg (by omega), if_neg (by omega), if_neg (by omega), if_neg (by omega), if_neg (by omega), if_neg (by omega), if_neg (by omega), if_neg (by omega), if_pos (by omega)]
theorem okAt_c {N x : Nat} {y : Int32} (h : x < 21) : okAt N (49 + x) y ↔ isB y 0 9 := by
  unfold okAt
  rw [if_neg (by omega), if_neg (by omega), if_neg (by omega), if_neg (by omega), if_neg (by omega), if_neg (by omega), if_neg (by omega), if_neg (by omega), if_neg (by omega), if_pos (by omega)]
theorem okAt_b {N x : Nat} {y : Int32} (h : x < 21) : okAt N (70 + x) y ↔ isB y 0 1 ∧ (x = 0 ∨ x = N → y = 0) := by
  unfold okAt
  rw [if_neg (by omega), if_neg (by omega), if_neg (by omega), if_neg (by omega), if_neg (by omega), if_neg (by omega), if_neg (by omega), if_neg (by omega), if_neg (by omega), if_neg (by omega), if_pos (by omega)]
  rw [show (70 + x = 70 ∨ 70 + x = 70 + N) ↔ (x = 0 ∨ x = N) by omega]
theorem okAt_k {N x : Nat} {y : Int32} : okAt N (91 + x) y ↔ isKd y ∧ (N < x → y = -1) := by
  unfold okAt
  rw [if_neg (by omega), if_neg (by omega), if_neg (by omega), if_neg (by omega), if_neg (by omega), if_neg (by omega), if_neg (by omega), if_neg (by omega), if_neg (by omega), if_neg (by omega), if_neg (by omega)]
  rw [show (91 + N < 91 + x) ↔ (N < x) by omega]
theorem line_of {v : Nat → Int32} {N : Nat} (h2 : 2 ≤ N) (h20 : N ≤ 20) (h : ∀ k, k < 112 → okAt N k (v k)) : lineOK v N := by
  refine ⟨⟨h 0 (by omega), h2, h20⟩, ⟨h 1 (by omega), h 2 (by omega), h 3 (by omega), h 4 (by omega), h 5 (by omega), h 6 (by omega)⟩, fun x hx => ⟨(okAt_g hx).mp (h _ (by omega)), (okAt_n hx).mp (h _ (by omega)), (okAt_c hx).mp (h _ (by omega)), ((okAt_b hx).mp (h _ (by omega))).1, (okAt_k.mp (h _ (by omega))).1⟩, ⟨?_, ?_⟩, fun x h1 h3 => (okAt_k.mp (h _ (by omega))).2 h1⟩
  · exact ((okAt_b (x := 0) (by omega)).mp (h 70 (by omega))).2 (Or.inl rfl)
  · exact ((okAt_b (x := N) (by omega)).mp (h (70 + N) (by omega))).2 (Or.inr rfl)
theorem line_at {v : Nat → Int32} {N : Nat} (h : lineOK v N) (k : Nat) (hk : k < 112) : okAt N k (v k) := by
  obtain ⟨⟨h0, h2, h20⟩, ⟨s1, s2, s3, s4, s5, s6⟩, hp, ⟨b0, bN⟩, hz⟩ := h
  rcases (show k = 0 ∨ k = 1 ∨ k = 2 ∨ k = 3 ∨ k = 4 ∨ k = 5 ∨ k = 6 ∨ 7 ≤ k by omega) with rfl | rfl | rfl | rfl | rfl | rfl | rfl | h7
  · exact h0
  · exact s1
  · exact s2
  · exact s3
  · exact s4
  · exact s5
  · exact s6
  rcases Nat.lt_or_ge k 28 with g | g
  · have := (okAt_g (N := N) (x := k - 7) (by omega)).mpr (hp (k - 7) (by omega)).1
    rw [show 7 + (k - 7) = k by omega] at this
    exact this
  rcases Nat.lt_or_ge k 49 with g | g
  · have := (okAt_n (N := N) (x := k - 28) (by omega)).mpr (hp (k - 28) (by omega)).2.1
    rw [show 28 + (k - 28) = k by omega] at this
    exact this
  rcases Nat.lt_or_ge k 70 with g | g
  · have := (okAt_c (N := N) (x := k - 49) (by omega)).mpr (hp (k - 49) (by omega)).2.2.1
    rw [show 49 + (k - 49) = k by omega] at this
    exact this
  rcases Nat.lt_or_ge k 91 with g | g
  · have := (okAt_b (N := N) (x := k - 70) (y := v (70 + (k - 70))) (by omega)).mpr ⟨(hp (k - 70) (by omega)).2.2.2.1, fun z => by
      rcases z with z | z
      · rw [z]; exact b0
      · rw [z]; exact bN⟩
    rw [show 70 + (k - 70) = k by omega] at this
    exact this
  · have := (okAt_k (N := N) (x := k - 91) (y := v (91 + (k - 91)))).mpr ⟨(hp (k - 91) (by omega)).2.2.2.2, fun z => hz _ z (by omega)⟩
    rw [show 91 + (k - 91) = k by omega] at this
    exact this
theorem lineOK.upd {v : Nat → Int32} {N k : Nat} {y : Int32} (h : lineOK v N) (hy : okAt N k y) : lineOK (upd v k y) N := line_of h.1.2.1 h.1.2.2 (fun j hj => by
  by_cases g : j = k
  · subst g
    rw [pk_us]
    exact hy
  · rw [pk_un g]
    exact line_at h j hj)
theorem lv_uP {S : sp_M} {b p x : Nat} {y : Int32} (hp : p < 5) (hx : x < 21) : lv (sp_uR S (b + 2 + p) (upd (S.2.2 (b + 2 + p)) x y)) b = upd (lv S b) (7 + 21 * p + x) y := by
  funext k
  by_cases hk : k = 7 + 21 * p + x
  · subst hk
    rw [lv_p _ b hp hx, uR_get, pk_us, pk_us]
  · rw [pk_un hk]
    unfold lv
    by_cases h0 : k = 0
    · rw [if_pos h0, if_pos h0]
      rfl
    rw [if_neg h0, if_neg h0]
    by_cases h7 : k < 7
    · rw [if_pos h7, if_pos h7, uR_get_ne (by omega)]
    rw [if_neg h7, if_neg h7]
    by_cases h112 : k < 112
    · rw [if_pos h112, if_pos h112]
      by_cases hq : (k - 7) / 21 = p
      · rw [hq, uR_get, pk_un (by omega)]
      · rw [uR_get_ne (by omega)]
    · rw [if_neg h112, if_neg h112]
theorem lv_uS {S : sp_M} {b i : Nat} {y : Int32} (hi : i < 6) : lv (sp_uR S (b + 7) (upd (S.2.2 (b + 7)) i y)) b = upd (lv S b) (1 + i) y := by
  funext k
  by_cases hk : k = 1 + i
  · subst hk
    rw [lv_s _ b hi, uR_get, pk_us, pk_us]
  · rw [pk_un hk]
    unfold lv
    by_cases h0 : k = 0
    · rw [if_pos h0, if_pos h0]
      rfl
    rw [if_neg h0, if_neg h0]
    by_cases h7 : k < 7
    · rw [if_pos h7, if_pos h7, uR_get, pk_un (by omega)]
    rw [if_neg h7, if_neg h7]
    by_cases h112 : k < 112
    · rw [if_pos h112, if_pos h112, uR_get_ne (by omega)]
    · rw [if_neg h112, if_neg h112]
theorem lv_uN {S : sp_M} {b : Nat} {y : Int32} : lv (sp_uI S b 0 y) b = upd (lv S b) 0 y := by
  funext k
  by_cases hk : k = 0
  · subst hk
    rw [pk_us]
    exact uI_get
  · rw [pk_un hk]
    unfold lv
    rw [if_neg hk, if_neg hk]
    rfl
theorem mv_u {S : sp_M} {k : Nat} {y : Int32} (h : k < 112) : mv (sp_uR S 88 (upd (S.2.2 88) k y)) = upd (mv S) k y := by
  funext j
  by_cases hk : j = k
  · subst hk
    rw [pk_us]
    unfold mv
    rw [if_pos h, uR_get, pk_us]
  · rw [pk_un hk]
    unfold mv
    split
    · rw [uR_get, pk_un hk]
    · rfl
theorem lv_out {S : sp_M} {b k : Nat} (h : 112 ≤ k) : lv S b k = 0 := by
  unfold lv
  rw [if_neg (by omega), if_neg (by omega), if_neg (by omega)]
theorem mv_out {S : sp_M} {k : Nat} (h : 112 ≤ k) : mv S k = 0 := by
  unfold mv
  rw [if_neg (by omega)]
