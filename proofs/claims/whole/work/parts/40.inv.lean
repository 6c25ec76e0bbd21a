/-! what holds between the calls -/
theorem stp_ok {v : Nat → Int32} {N : Nat} (h : lineOK v N) : lineOK (stp v) N := line_of h.1.2.1 h.1.2.2 (fun k hk => by
  by_cases g : k < 91
  · rw [stp_at g]
    exact line_at h k hk
  · unfold stp
    rw [if_neg g, if_pos hk]
    have := (okAt_k (N := N) (x := k - 91) (y := -1)).mpr ⟨Or.inl rfl, fun _ => rfl⟩
    rw [show 91 + (k - 91) = k by omega] at this
    exact this)
theorem stp_upd {v : Nat → Int32} {k : Nat} {y : Int32} (h : 91 ≤ k) (h2 : k < 112) : stp (upd v k y) = stp v := by
  funext j
  unfold stp
  by_cases g : j < 91
  · rw [if_pos g, if_pos g, pk_un (by omega)]
  · rw [if_neg g, if_neg g]
def hsR (S : sp_M) : Prop := ∃ o c t, (o < 6 ∧ c ≤ 6 ∧ t < 6) ∧ (S.1 9 1 = nI o ∧ S.1 9 2 = nI c ∧ S.1 87 2 = nI c ∧ S.1 87 3 = nI t) ∧ ∀ i, i < c → (∃ N', lineOK (lv S (11 + 8 * ((o + i) % 6))) N') ∧ ∀ k, k < 112 → S.2.2 89 (112 * ((t + 6 - c + i) % 6) + k) = lv S (11 + 8 * ((o + i) % 6)) k
def txR (S : sp_M) : Prop := ∃ n, n ≤ 200 ∧ S.1 59 2 = nI n ∧ S.1 87 5 = nI n ∧ ∀ i, i < n → S.2.2 60 i = S.2.2 91 i
def cnR (S : sp_M) : Prop := S.1 0 8 = S.2.2 90 0 ∧ S.1 0 9 = S.2.2 90 1 ∧ S.1 0 10 = S.2.2 90 2
def frR (S : sp_M) : Prop := S.2.1 0 11 = S.2.1 87 10 ∧ S.2.1 0 12 = S.2.1 87 11
def flO (S : sp_M) (v : Nat → Int32) (N : Nat) : Prop := S.1 69 2 = nI (flN v N (5 * (N + 1))) ∧ ∀ j, j < 5 * (N + 1) → flB v N j = true → S.2.2 70 (flN v N j) = nI (j / 5) ∧ S.2.2 71 (flN v N j) = nI (j % 5 + 1)
def flR (S : sp_M) (N : Nat) : Prop := S.1 69 3 = 0 ∨ S.1 69 3 = 1 ∧ flO S (mv S) N
def paO (S : sp_M) (u : Nat → Int32) (N : Nat) : Prop := S.2.2 86 0 = nI (bstV u N 3).1 ∧ bM S u N 1512 ∧ wM S u N 1512
def seR (S : sp_M) (N : Nat) : Prop := (S.1 0 6 = 0 ∨ S.1 0 6 = 1 ∧ srT S (mkv S) N ∧ plIs S (mkv S) N) ∧ (S.1 0 7 = 0 ∨ S.1 0 7 = 1 ∧ paO S (mkv S) N)
def InvN (S : sp_M) (N : Nat) : Prop := lineOK (mv S) N ∧ lv S 1 = mv S ∧ flR S N ∧ seR S N ∧ hsR S ∧ txR S ∧ cnR S ∧ frR S
def Inv (S : sp_M) : Prop := ∃ N, InvN S N
section T
variable {S S' : sp_M} {Q : sp_R} {A : Nat → Prop} {N : Nat}
theorem hsR.keep (g : hsR S) (h : eqOff A S S') (hA : ∀ a, (a = 9 ∨ 11 ≤ a ∧ a ≤ 58 ∨ a = 89) → ¬ A a) (h2 : S'.1 87 2 = S.1 87 2) (h3 : S'.1 87 3 = S.1 87 3) : hsR S' := by
  obtain ⟨o, c, t, ⟨b1, b2, b3⟩, ⟨g1, g2, g3, g4⟩, g5⟩ := g
  refine ⟨o, c, t, ⟨b1, b2, b3⟩, ⟨by rw [(h 9 (hA _ (by omega))).1]; exact g1, by rw [(h 9 (hA _ (by omega))).1]; exact g2, by rw [h2]; exact g3, by rw [h3]; exact g4⟩, fun i hi => ?_⟩
  have e : lv S' (11 + 8 * ((o + i) % 6)) = lv S (11 + 8 * ((o + i) % 6)) := h.lv (fun a f1 f2 => hA a (by omega))
  rw [e, (h 89 (hA _ (by omega))).2.2]
  exact g5 i hi
theorem txR.keep (g : txR S) (h : eqOff A S S') (hA : ∀ a, (a = 59 ∨ a = 60 ∨ a = 91) → ¬ A a) (h5 : S'.1 87 5 = S.1 87 5) : txR S' := by
  obtain ⟨n, g1, g2, g3, g4⟩ := g
  refine ⟨n, g1, by rw [(h 59 (hA _ (by omega))).1]; exact g2, by rw [h5]; exact g3, fun i hi => ?_⟩
  rw [(h 60 (hA _ (by omega))).2.2, (h 91 (hA _ (by omega))).2.2]
  exact g4 i hi
theorem cnR.keep (g : cnR S) (h : eqOff A S S') (hA : ¬ A 90) (h8 : ∀ k, 8 ≤ k → k ≤ 10 → S'.1 0 k = S.1 0 k) : cnR S' := by
  unfold cnR
  rw [(h 90 hA).2.2, h8 8 (by omega) (by omega), h8 9 (by omega) (by omega), h8 10 (by omega) (by omega)]
  exact g
theorem frR.keep (g : frR S) (h0 : S'.2.1 0 = S.2.1 0) (h87 : S'.2.1 87 = S.2.1 87) : frR S' := by
  unfold frR
  rw [h0, h87]
  exact g
theorem flO.keep {v : Nat → Int32} (g : flO S v N) (h : eqOff A S S') (hA : ∀ a, 69 ≤ a → a ≤ 71 → ¬ A a) : flO S' v N := by
  unfold flO
  rw [(h 69 (hA _ (by omega) (by omega))).1, (h 70 (hA _ (by omega) (by omega))).2.2, (h 71 (hA _ (by omega) (by omega))).2.2]
  exact g
theorem flR.keep (g : flR S N) (h : eqOff A S S') (hA : ∀ a, 69 ≤ a → a ≤ 71 → ¬ A a) (hm : mv S' = mv S) : flR S' N := by
  unfold flR
  rw [(h 69 (hA _ (by omega) (by omega))).1, hm]
  rcases g with g | ⟨g1, g2⟩
  · exact Or.inl g
  · exact Or.inr ⟨g1, g2.keep h hA⟩
theorem plIs.keep {u : Nat → Int32} (g : plIs S u N) (h : eqOff A S S') (hA : ¬ A 72 ∧ ¬ A 82 ∧ ¬ A 83) : plIs S' u N := by
  unfold plIs
  rw [(h 72 hA.1).1, (h 82 hA.2.1).2.2, (h 83 hA.2.2).2.2]
  exact g
theorem bM.keep {u : Nat → Int32} {P : Nat} (g : bM S u N P) (h : S'.2.2 85 = S.2.2 85) : bM S' u N P := fun a la len lb f1 f2 f3 f4 f5 f6 => by
  have e : bfS S' = bfS S := by funext i; exact bfS_keep (by rw [h])
  rw [e]
  exact ⟨(g a la len lb f1 f2 f3 f4 f5 f6).1.keep (by rw [h]), (g a la len lb f1 f2 f3 f4 f5 f6).2⟩
theorem wM.keep {u : Nat → Int32} {P : Nat} (g : wM S u N P) (h : S'.2.2 85 = S.2.2 85) (h6 : S'.2.2 86 = S.2.2 86) : wM S' u N P := fun x f1 f2 => by
  have e : bfS S' = bfS S := by funext i; exact bfS_keep (by rw [h])
  rw [e, zsS_keep (S := S) (S' := S') (i := x) (by rw [h6])]
  exact ⟨(g x f1 f2).1.keep (by rw [h6]), (g x f1 f2).2⟩
theorem paO.keep {u : Nat → Int32} (g : paO S u N) (h : eqOff A S S') (hA : ¬ A 85 ∧ ¬ A 86) : paO S' u N := ⟨by rw [(h 86 hA.2).2.2]; exact g.1, g.2.1.keep (h 85 hA.1).2.2, g.2.2.keep (h 85 hA.1).2.2 (h 86 hA.2).2.2⟩
theorem seR.keep (g : seR S N) (h : eqOff A S S') (hA : ∀ a, 72 ≤ a → a ≤ 86 → a ≠ 81 → ¬ A a) (h6 : S'.1 0 6 = S.1 0 6) (h7 : S'.1 0 7 = S.1 0 7) (hm : mkv S' = mkv S) : seR S' N := by
  unfold seR
  rw [h6, h7, hm]
  refine ⟨?_, ?_⟩
  · rcases g.1 with g | ⟨g1, g2, g3⟩
    · exact Or.inl g
    · exact Or.inr ⟨g1, h.sr (fun a f1 f2 => hA a f1 (by omega) (by omega)) g2, g3.keep h ⟨hA _ (by omega) (by omega) (by omega), hA _ (by omega) (by omega) (by omega), hA _ (by omega) (by omega) (by omega)⟩⟩
  · rcases g.2 with g | ⟨g1, g2⟩
    · exact Or.inl g
    · exact Or.inr ⟨g1, g2.keep h ⟨hA _ (by omega) (by omega) (by omega), hA _ (by omega) (by omega) (by omega)⟩⟩
/-- a call that only counts an error, and what the reference computes for itself -/
theorem InvN.cnt {k : Nat} (g : InvN S N) (hk : 8 ≤ k ∧ k ≤ 10) (e : eqOff (fun a => a = 0 ∨ a = 87 ∨ a = 90 ∨ 92 ≤ a ∧ a ≤ 100) S S') (e0 : ∀ j, j ≠ k → S'.1 0 j = S.1 0 j) (ek : S'.1 0 k = S.1 0 k + 1) (j0 : S'.2.1 0 = S.2.1 0) (j87 : S'.2.1 87 = S.2.1 87) (e87 : ∀ j, j < 7 → S'.1 87 j = S.1 87 j) (e90 : S'.2.2 90 = upd (S.2.2 90) (k - 8) (S.2.2 90 (k - 8) + 1)) : InvN S' N := by
  obtain ⟨g1, g2, g3, g4, g5, g6, g7, g8⟩ := g
  have hm : mv S' = mv S := mv_off e (by omega)
  have hl : lv S' 1 = lv S 1 := e.lv (by omega)
  refine ⟨by rw [hm]; exact g1, by rw [hm, hl]; exact g2, g3.keep e (by omega) hm, g4.keep e (by omega) (e0 6 (by omega)) (e0 7 (by omega)) (mk_off e (by omega)), g5.keep e (by omega) (e87 2 (by omega)) (e87 3 (by omega)), g6.keep e (by omega) (e87 5 (by omega)), ?_, g8.keep j0 j87⟩
  unfold cnR
  rw [e90]
  obtain ⟨c1, c2, c3⟩ := g7
  rcases (show k = 8 ∨ k = 9 ∨ k = 10 by omega) with rfl | rfl | rfl
  · rw [ek, c1, e0 9 (by omega), e0 10 (by omega), pk_us, pk_un (by omega), pk_un (by omega)]
    exact ⟨rfl, c2, c3⟩
  · rw [ek, c2, e0 8 (by omega), e0 10 (by omega), pk_us, pk_un (by omega), pk_un (by omega)]
    exact ⟨c1, rfl, c3⟩
  · rw [ek, c3, e0 8 (by omega), e0 9 (by omega), pk_us, pk_un (by omega), pk_un (by omega)]
    exact ⟨c1, c2, rfl⟩
/-- what the reference computes for itself -/
theorem InvN.tmp (g : InvN S N) (e : eqOff (fun a => a = 87 ∨ 92 ≤ a ∧ a ≤ 100) S S') (j87 : S'.2.1 87 = S.2.1 87) (e87 : ∀ j, j < 7 → S'.1 87 j = S.1 87 j) : InvN S' N := by
  obtain ⟨g1, g2, g3, g4, g5, g6, g7, g8⟩ := g
  have hm : mv S' = mv S := mv_off e (by omega)
  have hl : lv S' 1 = lv S 1 := e.lv (by omega)
  have e0 := e 0 (by omega)
  exact ⟨by rw [hm]; exact g1, by rw [hm, hl]; exact g2, g3.keep e (by omega) hm, g4.keep e (by omega) (by rw [e0.1]) (by rw [e0.1]) (mk_off e (by omega)), g5.keep e (by omega) (e87 2 (by omega)) (e87 3 (by omega)), g6.keep e (by omega) (e87 5 (by omega)), g7.keep e (by omega) (fun k _ _ => by rw [e0.1]), g8.keep e0.2.1 j87⟩
theorem InvN.mo (g : InvN S N) (e : mOff S S') : InvN S' N := g.tmp (e.1.mono (by omega)) e.2.1 (fun j hj => e.2.2 j (by omega))
/-- both fail -/
theorem g_bad (g : InvN S N) : MX7_fails sp_w [.ref 0, .int (-2)] S (fun r S1 => MX8_bad sp_w [.ref 87] S1 (fun r' S2 => r = r' ∧ InvN S2 N)) := by
  refine h_fails (k := 8) (Or.inl ⟨rfl, rfl⟩) (m_bad (fun S2 e2 k2 => ⟨rfl, ?_⟩))
  have e1 : eqOff (fun a => a = 0) S (sp_uI S 0 8 (S.1 0 8 + 1)) := eqOff.rf.uI rfl
  refine g.cnt (k := 8) (by omega) ((e1.tr e2).mono (by omega)) (fun j hj => ?_) ?_ ?_ ?_ (fun j hj => ?_) k2
  · rw [(e2 0 (by omega)).1, uI_ne (by omega)]
  · rw [(e2 0 (by omega)).1, uI_get]
  · rw [(e2 0 (by omega)).2.1]; rfl
  · rw [(e2 87 (by omega)).2.1]; rfl
  · rw [(e2 87 (by omega)).1, uI_ne (by omega)]
theorem g_no (g : InvN S N) : MX7_fails sp_w [.ref 0, .int (-3)] S (fun r S1 => MX8_no sp_w [.ref 87] S1 (fun r' S2 => r = r' ∧ InvN S2 N)) := by
  refine h_fails (k := 9) (Or.inr (Or.inl ⟨rfl, rfl⟩)) (m_no (fun S2 e2 k2 => ⟨rfl, ?_⟩))
  have e1 : eqOff (fun a => a = 0) S (sp_uI S 0 9 (S.1 0 9 + 1)) := eqOff.rf.uI rfl
  refine g.cnt (k := 9) (by omega) ((e1.tr e2).mono (by omega)) (fun j hj => ?_) ?_ ?_ ?_ (fun j hj => ?_) k2
  · rw [(e2 0 (by omega)).1, uI_ne (by omega)]
  · rw [(e2 0 (by omega)).1, uI_get]
  · rw [(e2 0 (by omega)).2.1]; rfl
  · rw [(e2 87 (by omega)).2.1]; rfl
  · rw [(e2 87 (by omega)).1, uI_ne (by omega)]
/-- the search is there -/
theorem h_findCheapest (g : InvN S N) (h : ∀ S', eqOff (fun a => a = 0 ∨ 72 ≤ a ∧ a ≤ 83) S S' → InvN S' N → (∀ j, j ≠ 6 → S'.1 0 j = S.1 0 j) → srT S' (mkv S) N → plIs S' (mkv S) N → Q none S') : MX7_findCheapest sp_w [.ref 0] S Q := by
  have hu : lineOK (mkv S) N := stp_ok g.1
  have hlk : lkv S = mkv S := by unfold lkv mkv; rw [g.2.1]
  refine stX7_findCheapest (L0 := [some (.ref 0)]) (Nat.le_of_ble_eq_true rfl) rfl ?_
  unfold bX7_findCheapest_0
  (repeat (first | (with_reducible refine r_push ?_) | ((with_reducible apply r_iload); (case hx => exact rfl)) | ((with_reducible apply r_aload); (case hx => exact rfl)) | ((with_reducible apply r_getf); (case hx => exact rfl)) | (with_reducible refine r_ib ?_) | (with_reducible refine r_ret1 ?_) | (with_reducible refine r_ret0 ?_) | ((with_reducible apply r_istore); (case hx => (dsimp only [sp_st1, sp_st2, sp_clr, sp_nth, List.set, Nat.reduceAdd] <;> exact rfl))) | ((with_reducible apply r_lload); (case hx => exact rfl)) | ((with_reducible apply r_lstore); (case hx => (dsimp only [sp_st1, sp_st2, sp_clr, sp_nth, List.set, Nat.reduceAdd] <;> exact rfl))) | ((with_reducible apply r_iinc); (case hx => exact rfl); (case hy => (dsimp only [sp_st1, sp_st2, sp_clr, sp_nth, List.set, Nat.reduceAdd] <;> exact rfl))) | ((with_reducible apply r_iald); (case hx => exact rfl); (try (case hb => (first | assumption | (unfold vp_in; decide))))) | ((with_reducible apply r_iast); (case hx => exact rfl); (try (case hb => (first | assumption | (unfold vp_in; decide))))) | ((with_reducible apply r_puti); (case hx => exact rfl)) | ((with_reducible apply r_putl); (case hx => exact rfl)) | ((with_reducible apply r_putz); (case hz => decide); (case hx => exact rfl)) | ((with_reducible apply r_id); (case hd => decide)) | (with_reducible refine r_ineg ?_) | (with_reducible refine r_i2l ?_) | (with_reducible refine r_lb ?_) | (with_reducible refine r_lcmp ?_) | ((with_reducible apply r_dup); (case hv => exact rfl)) | ((with_reducible apply r_dup2); (case hv => exact rfl)) | (with_reducible refine r_gets ?_) | ((with_reducible apply r_callv); (case hs => exact rfl); (case hc => exact rfl); (case hw => exact (Nat.le_of_ble_eq_true rfl))) | ((with_reducible apply r_calls); (case hs => exact rfl); (case hw => exact (Nat.le_of_ble_eq_true rfl))) | ((with_reducible apply r_mmax); (case hw => exact (Nat.le_of_ble_eq_true rfl))) | ((with_reducible apply r_mmin); (case hw => exact (Nat.le_of_ble_eq_true rfl))) | ((with_reducible apply r_mabs); (case hw => exact (Nat.le_of_ble_eq_true rfl))) | (with_reducible refine r_iret ?_) | ((with_reducible apply r_zret); (case hz => decide)) | (with_reducible refine r_lret ?_) | (with_reducible refine r_vret ?_) | ((with_reducible apply r_aald); (case hx => exact rfl); (case hf => exact rfl); (try (case hb => (first | assumption | (unfold vp_in; decide))))) | ((with_reducible apply r_copy); (case hw => exact (Nat.le_of_ble_eq_true rfl)); (case h0 => exact rfl); (case h1 => exact rfl); (case hb => decide))))
  refine r_if (fun q => ?_) (fun q => ?_)
  · refine jX7_findCheapest_26 ?_
    unfold bX7_findCheapest_26
    (repeat (first | (with_reducible refine r_push ?_) | ((with_reducible apply r_iload); (case hx => exact rfl)) | ((with_reducible apply r_aload); (case hx => exact rfl)) | ((with_reducible apply r_getf); (case hx => exact rfl)) | (with_reducible refine r_ib ?_) | (with_reducible refine r_ret1 ?_) | (with_reducible refine r_ret0 ?_) | ((with_reducible apply r_istore); (case hx => (dsimp only [sp_st1, sp_st2, sp_clr, sp_nth, List.set, Nat.reduceAdd] <;> exact rfl))) | ((with_reducible apply r_lload); (case hx => exact rfl)) | ((with_reducible apply r_lstore); (case hx => (dsimp only [sp_st1, sp_st2, sp_clr, sp_nth, List.set, Nat.reduceAdd] <;> exact rfl))) | ((with_reducible apply r_iinc); (case hx => exact rfl); (case hy => (dsimp only [sp_st1, sp_st2, sp_clr, sp_nth, List.set, Nat.reduceAdd] <;> exact rfl))) | ((with_reducible apply r_iald); (case hx => exact rfl); (try (case hb => (first | assumption | (unfold vp_in; decide))))) | ((with_reducible apply r_iast); (case hx => exact rfl); (try (case hb => (first | assumption | (unfold vp_in; decide))))) | ((with_reducible apply r_puti); (case hx => exact rfl)) | ((with_reducible apply r_putl); (case hx => exact rfl)) | ((with_reducible apply r_putz); (case hz => decide); (case hx => exact rfl)) | ((with_reducible apply r_id); (case hd => decide)) | (with_reducible refine r_ineg ?_) | (with_reducible refine r_i2l ?_) | (with_reducible refine r_lb ?_) | (with_reducible refine r_lcmp ?_) | ((with_reducible apply r_dup); (case hv => exact rfl)) | ((with_reducible apply r_dup2); (case hv => exact rfl)) | (with_reducible refine r_gets ?_) | ((with_reducible apply r_callv); (case hs => exact rfl); (case hc => exact rfl); (case hw => exact (Nat.le_of_ble_eq_true rfl))) | ((with_reducible apply r_calls); (case hs => exact rfl); (case hw => exact (Nat.le_of_ble_eq_true rfl))) | ((with_reducible apply r_mmax); (case hw => exact (Nat.le_of_ble_eq_true rfl))) | ((with_reducible apply r_mmin); (case hw => exact (Nat.le_of_ble_eq_true rfl))) | ((with_reducible apply r_mabs); (case hw => exact (Nat.le_of_ble_eq_true rfl))) | (with_reducible refine r_iret ?_) | ((with_reducible apply r_zret); (case hz => decide)) | (with_reducible refine r_lret ?_) | (with_reducible refine r_vret ?_) | ((with_reducible apply r_aald); (case hx => exact rfl); (case hf => exact rfl); (try (case hb => (first | assumption | (unfold vp_in; decide))))) | ((with_reducible apply r_copy); (case hw => exact (Nat.le_of_ble_eq_true rfl)); (case h0 => exact rfl); (case h1 => exact rfl); (case hb => decide))))
    rcases g.2.2.2.1.1 with z | ⟨-, z1, z2⟩
    · exact absurd z q
    · exact h S eqOff.rf g (fun _ _ => rfl) z1 z2
  · (repeat (first | (with_reducible refine r_push ?_) | ((with_reducible apply r_iload); (case hx => exact rfl)) | ((with_reducible apply r_aload); (case hx => exact rfl)) | ((with_reducible apply r_getf); (case hx => exact rfl)) | (with_reducible refine r_ib ?_) | (with_reducible refine r_ret1 ?_) | (with_reducible refine r_ret0 ?_) | ((with_reducible apply r_istore); (case hx => (dsimp only [sp_st1, sp_st2, sp_clr, sp_nth, List.set, Nat.reduceAdd] <;> exact rfl))) | ((with_reducible apply r_lload); (case hx => exact rfl)) | ((with_reducible apply r_lstore); (case hx => (dsimp only [sp_st1, sp_st2, sp_clr, sp_nth, List.set, Nat.reduceAdd] <;> exact rfl))) | ((with_reducible apply r_iinc); (case hx => exact rfl); (case hy => (dsimp only [sp_st1, sp_st2, sp_clr, sp_nth, List.set, Nat.reduceAdd] <;> exact rfl))) | ((with_reducible apply r_iald); (case hx => exact rfl); (try (case hb => (first | assumption | (unfold vp_in; decide))))) | ((with_reducible apply r_iast); (case hx => exact rfl); (try (case hb => (first | assumption | (unfold vp_in; decide))))) | ((with_reducible apply r_puti); (case hx => exact rfl)) | ((with_reducible apply r_putl); (case hx => exact rfl)) | ((with_reducible apply r_putz); (case hz => decide); (case hx => exact rfl)) | ((with_reducible apply r_id); (case hd => decide)) | (with_reducible refine r_ineg ?_) | (with_reducible refine r_i2l ?_) | (with_reducible refine r_lb ?_) | (with_reducible refine r_lcmp ?_) | ((with_reducible apply r_dup); (case hv => exact rfl)) | ((with_reducible apply r_dup2); (case hv => exact rfl)) | (with_reducible refine r_gets ?_) | ((with_reducible apply r_callv); (case hs => exact rfl); (case hc => exact rfl); (case hw => exact (Nat.le_of_ble_eq_true rfl))) | ((with_reducible apply r_calls); (case hs => exact rfl); (case hw => exact (Nat.le_of_ble_eq_true rfl))) | ((with_reducible apply r_mmax); (case hw => exact (Nat.le_of_ble_eq_true rfl))) | ((with_reducible apply r_mmin); (case hw => exact (Nat.le_of_ble_eq_true rfl))) | ((with_reducible apply r_mabs); (case hw => exact (Nat.le_of_ble_eq_true rfl))) | (with_reducible refine r_iret ?_) | ((with_reducible apply r_zret); (case hz => decide)) | (with_reducible refine r_lret ?_) | (with_reducible refine r_vret ?_) | ((with_reducible apply r_aald); (case hx => exact rfl); (case hf => exact rfl); (try (case hb => (first | assumption | (unfold vp_in; decide))))) | ((with_reducible apply r_copy); (case hw => exact (Nat.le_of_ble_eq_true rfl)); (case h0 => exact rfl); (case h1 => exact rfl); (case hb => decide))))
    refine h_solve hu hlk (fun S1 e1 s1 => ?_)
    (repeat (first | (with_reducible refine r_push ?_) | ((with_reducible apply r_iload); (case hx => exact rfl)) | ((with_reducible apply r_aload); (case hx => exact rfl)) | ((with_reducible apply r_getf); (case hx => exact rfl)) | (with_reducible refine r_ib ?_) | (with_reducible refine r_ret1 ?_) | (with_reducible refine r_ret0 ?_) | ((with_reducible apply r_istore); (case hx => (dsimp only [sp_st1, sp_st2, sp_clr, sp_nth, List.set, Nat.reduceAdd] <;> exact rfl))) | ((with_reducible apply r_lload); (case hx => exact rfl)) | ((with_reducible apply r_lstore); (case hx => (dsimp only [sp_st1, sp_st2, sp_clr, sp_nth, List.set, Nat.reduceAdd] <;> exact rfl))) | ((with_reducible apply r_iinc); (case hx => exact rfl); (case hy => (dsimp only [sp_st1, sp_st2, sp_clr, sp_nth, List.set, Nat.reduceAdd] <;> exact rfl))) | ((with_reducible apply r_iald); (case hx => exact rfl); (try (case hb => (first | assumption | (unfold vp_in; decide))))) | ((with_reducible apply r_iast); (case hx => exact rfl); (try (case hb => (first | assumption | (unfold vp_in; decide))))) | ((with_reducible apply r_puti); (case hx => exact rfl)) | ((with_reducible apply r_putl); (case hx => exact rfl)) | ((with_reducible apply r_putz); (case hz => decide); (case hx => exact rfl)) | ((with_reducible apply r_id); (case hd => decide)) | (with_reducible refine r_ineg ?_) | (with_reducible refine r_i2l ?_) | (with_reducible refine r_lb ?_) | (with_reducible refine r_lcmp ?_) | ((with_reducible apply r_dup); (case hv => exact rfl)) | ((with_reducible apply r_dup2); (case hv => exact rfl)) | (with_reducible refine r_gets ?_) | ((with_reducible apply r_callv); (case hs => exact rfl); (case hc => exact rfl); (case hw => exact (Nat.le_of_ble_eq_true rfl))) | ((with_reducible apply r_calls); (case hs => exact rfl); (case hw => exact (Nat.le_of_ble_eq_true rfl))) | ((with_reducible apply r_mmax); (case hw => exact (Nat.le_of_ble_eq_true rfl))) | ((with_reducible apply r_mmin); (case hw => exact (Nat.le_of_ble_eq_true rfl))) | ((with_reducible apply r_mabs); (case hw => exact (Nat.le_of_ble_eq_true rfl))) | (with_reducible refine r_iret ?_) | ((with_reducible apply r_zret); (case hz => decide)) | (with_reducible refine r_lret ?_) | (with_reducible refine r_vret ?_) | ((with_reducible apply r_aald); (case hx => exact rfl); (case hf => exact rfl); (try (case hb => (first | assumption | (unfold vp_in; decide))))) | ((with_reducible apply r_copy); (case hw => exact (Nat.le_of_ble_eq_true rfl)); (case h0 => exact rfl); (case h1 => exact rfl); (case hb => decide))))
    refine h_pickPlan hu ((e1.lk (by omega)).trans hlk) s1 (fun S2 p2 s2 pl2 => ?_)
    (repeat (first | (with_reducible refine r_push ?_) | ((with_reducible apply r_iload); (case hx => exact rfl)) | ((with_reducible apply r_aload); (case hx => exact rfl)) | ((with_reducible apply r_getf); (case hx => exact rfl)) | (with_reducible refine r_ib ?_) | (with_reducible refine r_ret1 ?_) | (with_reducible refine r_ret0 ?_) | ((with_reducible apply r_istore); (case hx => (dsimp only [sp_st1, sp_st2, sp_clr, sp_nth, List.set, Nat.reduceAdd] <;> exact rfl))) | ((with_reducible apply r_lload); (case hx => exact rfl)) | ((with_reducible apply r_lstore); (case hx => (dsimp only [sp_st1, sp_st2, sp_clr, sp_nth, List.set, Nat.reduceAdd] <;> exact rfl))) | ((with_reducible apply r_iinc); (case hx => exact rfl); (case hy => (dsimp only [sp_st1, sp_st2, sp_clr, sp_nth, List.set, Nat.reduceAdd] <;> exact rfl))) | ((with_reducible apply r_iald); (case hx => exact rfl); (try (case hb => (first | assumption | (unfold vp_in; decide))))) | ((with_reducible apply r_iast); (case hx => exact rfl); (try (case hb => (first | assumption | (unfold vp_in; decide))))) | ((with_reducible apply r_puti); (case hx => exact rfl)) | ((with_reducible apply r_putl); (case hx => exact rfl)) | ((with_reducible apply r_putz); (case hz => decide); (case hx => exact rfl)) | ((with_reducible apply r_id); (case hd => decide)) | (with_reducible refine r_ineg ?_) | (with_reducible refine r_i2l ?_) | (with_reducible refine r_lb ?_) | (with_reducible refine r_lcmp ?_) | ((with_reducible apply r_dup); (case hv => exact rfl)) | ((with_reducible apply r_dup2); (case hv => exact rfl)) | (with_reducible refine r_gets ?_) | ((with_reducible apply r_callv); (case hs => exact rfl); (case hc => exact rfl); (case hw => exact (Nat.le_of_ble_eq_true rfl))) | ((with_reducible apply r_calls); (case hs => exact rfl); (case hw => exact (Nat.le_of_ble_eq_true rfl))) | ((with_reducible apply r_mmax); (case hw => exact (Nat.le_of_ble_eq_true rfl))) | ((with_reducible apply r_mmin); (case hw => exact (Nat.le_of_ble_eq_true rfl))) | ((with_reducible apply r_mabs); (case hw => exact (Nat.le_of_ble_eq_true rfl))) | (with_reducible refine r_iret ?_) | ((with_reducible apply r_zret); (case hz => decide)) | (with_reducible refine r_lret ?_) | (with_reducible refine r_vret ?_) | ((with_reducible apply r_aald); (case hx => exact rfl); (case hf => exact rfl); (try (case hb => (first | assumption | (unfold vp_in; decide))))) | ((with_reducible apply r_copy); (case hw => exact (Nat.le_of_ble_eq_true rfl)); (case h0 => exact rfl); (case h1 => exact rfl); (case hb => decide))))
    refine jX7_findCheapest_26 ?_
    unfold bX7_findCheapest_26
    (repeat (first | (with_reducible refine r_push ?_) | ((with_reducible apply r_iload); (case hx => exact rfl)) | ((with_reducible apply r_aload); (case hx => exact rfl)) | ((with_reducible apply r_getf); (case hx => exact rfl)) | (with_reducible refine r_ib ?_) | (with_reducible refine r_ret1 ?_) | (with_reducible refine r_ret0 ?_) | ((with_reducible apply r_istore); (case hx => (dsimp only [sp_st1, sp_st2, sp_clr, sp_nth, List.set, Nat.reduceAdd] <;> exact rfl))) | ((with_reducible apply r_lload); (case hx => exact rfl)) | ((with_reducible apply r_lstore); (case hx => (dsimp only [sp_st1, sp_st2, sp_clr, sp_nth, List.set, Nat.reduceAdd] <;> exact rfl))) | ((with_reducible apply r_iinc); (case hx => exact rfl); (case hy => (dsimp only [sp_st1, sp_st2, sp_clr, sp_nth, List.set, Nat.reduceAdd] <;> exact rfl))) | ((with_reducible apply r_iald); (case hx => exact rfl); (try (case hb => (first | assumption | (unfold vp_in; decide))))) | ((with_reducible apply r_iast); (case hx => exact rfl); (try (case hb => (first | assumption | (unfold vp_in; decide))))) | ((with_reducible apply r_puti); (case hx => exact rfl)) | ((with_reducible apply r_putl); (case hx => exact rfl)) | ((with_reducible apply r_putz); (case hz => decide); (case hx => exact rfl)) | ((with_reducible apply r_id); (case hd => decide)) | (with_reducible refine r_ineg ?_) | (with_reducible refine r_i2l ?_) | (with_reducible refine r_lb ?_) | (with_reducible refine r_lcmp ?_) | ((with_reducible apply r_dup); (case hv => exact rfl)) | ((with_reducible apply r_dup2); (case hv => exact rfl)) | (with_reducible refine r_gets ?_) | ((with_reducible apply r_callv); (case hs => exact rfl); (case hc => exact rfl); (case hw => exact (Nat.le_of_ble_eq_true rfl))) | ((with_reducible apply r_calls); (case hs => exact rfl); (case hw => exact (Nat.le_of_ble_eq_true rfl))) | ((with_reducible apply r_mmax); (case hw => exact (Nat.le_of_ble_eq_true rfl))) | ((with_reducible apply r_mmin); (case hw => exact (Nat.le_of_ble_eq_true rfl))) | ((with_reducible apply r_mabs); (case hw => exact (Nat.le_of_ble_eq_true rfl))) | (with_reducible refine r_iret ?_) | ((with_reducible apply r_zret); (case hz => decide)) | (with_reducible refine r_lret ?_) | (with_reducible refine r_vret ?_) | ((with_reducible apply r_aald); (case hx => exact rfl); (case hf => exact rfl); (try (case hb => (first | assumption | (unfold vp_in; decide))))) | ((with_reducible apply r_copy); (case hw => exact (Nat.le_of_ble_eq_true rfl)); (case h0 => exact rfl); (case h1 => exact rfl); (case hb => decide))))
    have e2 : eqOff (fun a => 72 ≤ a ∧ a ≤ 83) S S2 := (e1.tr p2.1).mono (by omega)
    have e3 : eqOff (fun a => a = 0 ∨ 72 ≤ a ∧ a ≤ 83) S (sp_uI S2 0 6 1) := (e2.mono (by omega)).uI (by omega)
    have e23 : eqOff (fun a => a = 0) S2 (sp_uI S2 0 6 1) := eqOff.rf.uI rfl
    have s3 := e23.sr (by omega) s2
    have pl3 := pl2.keep e23 (by omega)
    obtain ⟨g1, g2, g3, g4, g5, g6, g7, g8⟩ := g
    have hm : mv (sp_uI S2 0 6 1) = mv S := mv_off e3 (by omega)
    have hmk : mkv (sp_uI S2 0 6 1) = mkv S := mk_off e3 (by omega)
    have hl : lv (sp_uI S2 0 6 1) 1 = lv S 1 := e3.lv (by omega)
    have z0 : ∀ j, j ≠ 6 → (sp_uI S2 0 6 1).1 0 j = S.1 0 j := fun j hj => by rw [uI_ne (by omega), (e2 0 (by omega)).1]
    have z1 := e3 87 (by omega)
    refine h _ e3 ⟨by rw [hm]; exact g1, by rw [hm, hl]; exact g2, g3.keep e3 (by omega) hm, ⟨Or.inr ⟨uI_get, by rw [hmk]; exact s3, by rw [hmk]; exact pl3⟩, ?_⟩, g5.keep e3 (by omega) (by rw [z1.1]) (by rw [z1.1]), g6.keep e3 (by omega) (by rw [z1.1]), g7.keep e3 (by omega) (fun k f1 f2 => z0 k (by omega)), g8.keep ?_ z1.2.1⟩ z0 s3 pl3
    · rw [z0 7 (by omega), hmk]
      rcases g4.2 with z | ⟨z, z2⟩
      · exact Or.inl z
      · exact Or.inr ⟨z, z2.keep e3 (by omega)⟩
    · show S2.2.1 0 = _
      rw [(e2 0 (by omega)).2.1]
theorem h_findPassages (g : InvN S N) (hs : srT S (mkv S) N) (h : ∀ S', eqOff (fun a => a = 0 ∨ a = 85 ∨ a = 86) S S' → InvN S' N → (∀ j, j ≠ 7 → S'.1 0 j = S.1 0 j) → paO S' (mkv S) N → Q none S') : MX7_findPassages sp_w [.ref 0] S Q := by
  have hu : lineOK (mkv S) N := stp_ok g.1
  have hlk : lkv S = mkv S := by unfold lkv mkv; rw [g.2.1]
  refine stX7_findPassages (L0 := [some (.ref 0)]) (Nat.le_of_ble_eq_true rfl) rfl ?_
  unfold bX7_findPassages_0
  (repeat (first | (with_reducible refine r_push ?_) | ((with_reducible apply r_iload); (case hx => exact rfl)) | ((with_reducible apply r_aload); (case hx => exact rfl)) | ((with_reducible apply r_getf); (case hx => exact rfl)) | (with_reducible refine r_ib ?_) | (with_reducible refine r_ret1 ?_) | (with_reducible refine r_ret0 ?_) | ((with_reducible apply r_istore); (case hx => (dsimp only [sp_st1, sp_st2, sp_clr, sp_nth, List.set, Nat.reduceAdd] <;> exact rfl))) | ((with_reducible apply r_lload); (case hx => exact rfl)) | ((with_reducible apply r_lstore); (case hx => (dsimp only [sp_st1, sp_st2, sp_clr, sp_nth, List.set, Nat.reduceAdd] <;> exact rfl))) | ((with_reducible apply r_iinc); (case hx => exact rfl); (case hy => (dsimp only [sp_st1, sp_st2, sp_clr, sp_nth, List.set, Nat.reduceAdd] <;> exact rfl))) | ((with_reducible apply r_iald); (case hx => exact rfl); (try (case hb => (first | assumption | (unfold vp_in; decide))))) | ((with_reducible apply r_iast); (case hx => exact rfl); (try (case hb => (first | assumption | (unfold vp_in; decide))))) | ((with_reducible apply r_puti); (case hx => exact rfl)) | ((with_reducible apply r_putl); (case hx => exact rfl)) | ((with_reducible apply r_putz); (case hz => decide); (case hx => exact rfl)) | ((with_reducible apply r_id); (case hd => decide)) | (with_reducible refine r_ineg ?_) | (with_reducible refine r_i2l ?_) | (with_reducible refine r_lb ?_) | (with_reducible refine r_lcmp ?_) | ((with_reducible apply r_dup); (case hv => exact rfl)) | ((with_reducible apply r_dup2); (case hv => exact rfl)) | (with_reducible refine r_gets ?_) | ((with_reducible apply r_callv); (case hs => exact rfl); (case hc => exact rfl); (case hw => exact (Nat.le_of_ble_eq_true rfl))) | ((with_reducible apply r_calls); (case hs => exact rfl); (case hw => exact (Nat.le_of_ble_eq_true rfl))) | ((with_reducible apply r_mmax); (case hw => exact (Nat.le_of_ble_eq_true rfl))) | ((with_reducible apply r_mmin); (case hw => exact (Nat.le_of_ble_eq_true rfl))) | ((with_reducible apply r_mabs); (case hw => exact (Nat.le_of_ble_eq_true rfl))) | (with_reducible refine r_iret ?_) | ((with_reducible apply r_zret); (case hz => decide)) | (with_reducible refine r_lret ?_) | (with_reducible refine r_vret ?_) | ((with_reducible apply r_aald); (case hx => exact rfl); (case hf => exact rfl); (try (case hb => (first | assumption | (unfold vp_in; decide))))) | ((with_reducible apply r_copy); (case hw => exact (Nat.le_of_ble_eq_true rfl)); (case h0 => exact rfl); (case h1 => exact rfl); (case hb => decide))))
  refine r_if (fun q => ?_) (fun q => ?_)
  · refine jX7_findPassages_19 ?_
    unfold bX7_findPassages_19
    (repeat (first | (with_reducible refine r_push ?_) | ((with_reducible apply r_iload); (case hx => exact rfl)) | ((with_reducible apply r_aload); (case hx => exact rfl)) | ((with_reducible apply r_getf); (case hx => exact rfl)) | (with_reducible refine r_ib ?_) | (with_reducible refine r_ret1 ?_) | (with_reducible refine r_ret0 ?_) | ((with_reducible apply r_istore); (case hx => (dsimp only [sp_st1, sp_st2, sp_clr, sp_nth, List.set, Nat.reduceAdd] <;> exact rfl))) | ((with_reducible apply r_lload); (case hx => exact rfl)) | ((with_reducible apply r_lstore); (case hx => (dsimp only [sp_st1, sp_st2, sp_clr, sp_nth, List.set, Nat.reduceAdd] <;> exact rfl))) | ((with_reducible apply r_iinc); (case hx => exact rfl); (case hy => (dsimp only [sp_st1, sp_st2, sp_clr, sp_nth, List.set, Nat.reduceAdd] <;> exact rfl))) | ((with_reducible apply r_iald); (case hx => exact rfl); (try (case hb => (first | assumption | (unfold vp_in; decide))))) | ((with_reducible apply r_iast); (case hx => exact rfl); (try (case hb => (first | assumption | (unfold vp_in; decide))))) | ((with_reducible apply r_puti); (case hx => exact rfl)) | ((with_reducible apply r_putl); (case hx => exact rfl)) | ((with_reducible apply r_putz); (case hz => decide); (case hx => exact rfl)) | ((with_reducible apply r_id); (case hd => decide)) | (with_reducible refine r_ineg ?_) | (with_reducible refine r_i2l ?_) | (with_reducible refine r_lb ?_) | (with_reducible refine r_lcmp ?_) | ((with_reducible apply r_dup); (case hv => exact rfl)) | ((with_reducible apply r_dup2); (case hv => exact rfl)) | (with_reducible refine r_gets ?_) | ((with_reducible apply r_callv); (case hs => exact rfl); (case hc => exact rfl); (case hw => exact (Nat.le_of_ble_eq_true rfl))) | ((with_reducible apply r_calls); (case hs => exact rfl); (case hw => exact (Nat.le_of_ble_eq_true rfl))) | ((with_reducible apply r_mmax); (case hw => exact (Nat.le_of_ble_eq_true rfl))) | ((with_reducible apply r_mmin); (case hw => exact (Nat.le_of_ble_eq_true rfl))) | ((with_reducible apply r_mabs); (case hw => exact (Nat.le_of_ble_eq_true rfl))) | (with_reducible refine r_iret ?_) | ((with_reducible apply r_zret); (case hz => decide)) | (with_reducible refine r_lret ?_) | (with_reducible refine r_vret ?_) | ((with_reducible apply r_aald); (case hx => exact rfl); (case hf => exact rfl); (try (case hb => (first | assumption | (unfold vp_in; decide))))) | ((with_reducible apply r_copy); (case hw => exact (Nat.le_of_ble_eq_true rfl)); (case h0 => exact rfl); (case h1 => exact rfl); (case hb => decide))))
    rcases g.2.2.2.1.2 with z | ⟨-, z1⟩
    · exact absurd z q
    · exact h S eqOff.rf g (fun _ _ => rfl) z1
  · (repeat (first | (with_reducible refine r_push ?_) | ((with_reducible apply r_iload); (case hx => exact rfl)) | ((with_reducible apply r_aload); (case hx => exact rfl)) | ((with_reducible apply r_getf); (case hx => exact rfl)) | (with_reducible refine r_ib ?_) | (with_reducible refine r_ret1 ?_) | (with_reducible refine r_ret0 ?_) | ((with_reducible apply r_istore); (case hx => (dsimp only [sp_st1, sp_st2, sp_clr, sp_nth, List.set, Nat.reduceAdd] <;> exact rfl))) | ((with_reducible apply r_lload); (case hx => exact rfl)) | ((with_reducible apply r_lstore); (case hx => (dsimp only [sp_st1, sp_st2, sp_clr, sp_nth, List.set, Nat.reduceAdd] <;> exact rfl))) | ((with_reducible apply r_iinc); (case hx => exact rfl); (case hy => (dsimp only [sp_st1, sp_st2, sp_clr, sp_nth, List.set, Nat.reduceAdd] <;> exact rfl))) | ((with_reducible apply r_iald); (case hx => exact rfl); (try (case hb => (first | assumption | (unfold vp_in; decide))))) | ((with_reducible apply r_iast); (case hx => exact rfl); (try (case hb => (first | assumption | (unfold vp_in; decide))))) | ((with_reducible apply r_puti); (case hx => exact rfl)) | ((with_reducible apply r_putl); (case hx => exact rfl)) | ((with_reducible apply r_putz); (case hz => decide); (case hx => exact rfl)) | ((with_reducible apply r_id); (case hd => decide)) | (with_reducible refine r_ineg ?_) | (with_reducible refine r_i2l ?_) | (with_reducible refine r_lb ?_) | (with_reducible refine r_lcmp ?_) | ((with_reducible apply r_dup); (case hv => exact rfl)) | ((with_reducible apply r_dup2); (case hv => exact rfl)) | (with_reducible refine r_gets ?_) | ((with_reducible apply r_callv); (case hs => exact rfl); (case hc => exact rfl); (case hw => exact (Nat.le_of_ble_eq_true rfl))) | ((with_reducible apply r_calls); (case hs => exact rfl); (case hw => exact (Nat.le_of_ble_eq_true rfl))) | ((with_reducible apply r_mmax); (case hw => exact (Nat.le_of_ble_eq_true rfl))) | ((with_reducible apply r_mmin); (case hw => exact (Nat.le_of_ble_eq_true rfl))) | ((with_reducible apply r_mabs); (case hw => exact (Nat.le_of_ble_eq_true rfl))) | (with_reducible refine r_iret ?_) | ((with_reducible apply r_zret); (case hz => decide)) | (with_reducible refine r_lret ?_) | (with_reducible refine r_vret ?_) | ((with_reducible apply r_aald); (case hx => exact rfl); (case hf => exact rfl); (try (case hb => (first | assumption | (unfold vp_in; decide))))) | ((with_reducible apply r_copy); (case hw => exact (Nat.le_of_ble_eq_true rfl)); (case h0 => exact rfl); (case h1 => exact rfl); (case hb => decide))))
    refine h_trace hu hlk hs (fun S1 e1 k1 b1 w1 => ?_)
    (repeat (first | (with_reducible refine r_push ?_) | ((with_reducible apply r_iload); (case hx => exact rfl)) | ((with_reducible apply r_aload); (case hx => exact rfl)) | ((with_reducible apply r_getf); (case hx => exact rfl)) | (with_reducible refine r_ib ?_) | (with_reducible refine r_ret1 ?_) | (with_reducible refine r_ret0 ?_) | ((with_reducible apply r_istore); (case hx => (dsimp only [sp_st1, sp_st2, sp_clr, sp_nth, List.set, Nat.reduceAdd] <;> exact rfl))) | ((with_reducible apply r_lload); (case hx => exact rfl)) | ((with_reducible apply r_lstore); (case hx => (dsimp only [sp_st1, sp_st2, sp_clr, sp_nth, List.set, Nat.reduceAdd] <;> exact rfl))) | ((with_reducible apply r_iinc); (case hx => exact rfl); (case hy => (dsimp only [sp_st1, sp_st2, sp_clr, sp_nth, List.set, Nat.reduceAdd] <;> exact rfl))) | ((with_reducible apply r_iald); (case hx => exact rfl); (try (case hb => (first | assumption | (unfold vp_in; decide))))) | ((with_reducible apply r_iast); (case hx => exact rfl); (try (case hb => (first | assumption | (unfold vp_in; decide))))) | ((with_reducible apply r_puti); (case hx => exact rfl)) | ((with_reducible apply r_putl); (case hx => exact rfl)) | ((with_reducible apply r_putz); (case hz => decide); (case hx => exact rfl)) | ((with_reducible apply r_id); (case hd => decide)) | (with_reducible refine r_ineg ?_) | (with_reducible refine r_i2l ?_) | (with_reducible refine r_lb ?_) | (with_reducible refine r_lcmp ?_) | ((with_reducible apply r_dup); (case hv => exact rfl)) | ((with_reducible apply r_dup2); (case hv => exact rfl)) | (with_reducible refine r_gets ?_) | ((with_reducible apply r_callv); (case hs => exact rfl); (case hc => exact rfl); (case hw => exact (Nat.le_of_ble_eq_true rfl))) | ((with_reducible apply r_calls); (case hs => exact rfl); (case hw => exact (Nat.le_of_ble_eq_true rfl))) | ((with_reducible apply r_mmax); (case hw => exact (Nat.le_of_ble_eq_true rfl))) | ((with_reducible apply r_mmin); (case hw => exact (Nat.le_of_ble_eq_true rfl))) | ((with_reducible apply r_mabs); (case hw => exact (Nat.le_of_ble_eq_true rfl))) | (with_reducible refine r_iret ?_) | ((with_reducible apply r_zret); (case hz => decide)) | (with_reducible refine r_lret ?_) | (with_reducible refine r_vret ?_) | ((with_reducible apply r_aald); (case hx => exact rfl); (case hf => exact rfl); (try (case hb => (first | assumption | (unfold vp_in; decide))))) | ((with_reducible apply r_copy); (case hw => exact (Nat.le_of_ble_eq_true rfl)); (case h0 => exact rfl); (case h1 => exact rfl); (case hb => decide))))
    refine jX7_findPassages_19 ?_
    unfold bX7_findPassages_19
    (repeat (first | (with_reducible refine r_push ?_) | ((with_reducible apply r_iload); (case hx => exact rfl)) | ((with_reducible apply r_aload); (case hx => exact rfl)) | ((with_reducible apply r_getf); (case hx => exact rfl)) | (with_reducible refine r_ib ?_) | (with_reducible refine r_ret1 ?_) | (with_reducible refine r_ret0 ?_) | ((with_reducible apply r_istore); (case hx => (dsimp only [sp_st1, sp_st2, sp_clr, sp_nth, List.set, Nat.reduceAdd] <;> exact rfl))) | ((with_reducible apply r_lload); (case hx => exact rfl)) | ((with_reducible apply r_lstore); (case hx => (dsimp only [sp_st1, sp_st2, sp_clr, sp_nth, List.set, Nat.reduceAdd] <;> exact rfl))) | ((with_reducible apply r_iinc); (case hx => exact rfl); (case hy => (dsimp only [sp_st1, sp_st2, sp_clr, sp_nth, List.set, Nat.reduceAdd] <;> exact rfl))) | ((with_reducible apply r_iald); (case hx => exact rfl); (try (case hb => (first | assumption | (unfold vp_in; decide))))) | ((with_reducible apply r_iast); (case hx => exact rfl); (try (case hb => (first | assumption | (unfold vp_in; decide))))) | ((with_reducible apply r_puti); (case hx => exact rfl)) | ((with_reducible apply r_putl); (case hx => exact rfl)) | ((with_reducible apply r_putz); (case hz => decide); (case hx => exact rfl)) | ((with_reducible apply r_id); (case hd => decide)) | (with_reducible refine r_ineg ?_) | (with_reducible refine r_i2l ?_) | (with_reducible refine r_lb ?_) | (with_reducible refine r_lcmp ?_) | ((with_reducible apply r_dup); (case hv => exact rfl)) | ((with_reducible apply r_dup2); (case hv => exact rfl)) | (with_reducible refine r_gets ?_) | ((with_reducible apply r_callv); (case hs => exact rfl); (case hc => exact rfl); (case hw => exact (Nat.le_of_ble_eq_true rfl))) | ((with_reducible apply r_calls); (case hs => exact rfl); (case hw => exact (Nat.le_of_ble_eq_true rfl))) | ((with_reducible apply r_mmax); (case hw => exact (Nat.le_of_ble_eq_true rfl))) | ((with_reducible apply r_mmin); (case hw => exact (Nat.le_of_ble_eq_true rfl))) | ((with_reducible apply r_mabs); (case hw => exact (Nat.le_of_ble_eq_true rfl))) | (with_reducible refine r_iret ?_) | ((with_reducible apply r_zret); (case hz => decide)) | (with_reducible refine r_lret ?_) | (with_reducible refine r_vret ?_) | ((with_reducible apply r_aald); (case hx => exact rfl); (case hf => exact rfl); (try (case hb => (first | assumption | (unfold vp_in; decide))))) | ((with_reducible apply r_copy); (case hw => exact (Nat.le_of_ble_eq_true rfl)); (case h0 => exact rfl); (case h1 => exact rfl); (case hb => decide))))
    have p1 : paO S1 (mkv S) N := ⟨k1, b1, w1⟩
    have e3 : eqOff (fun a => a = 0 ∨ a = 85 ∨ a = 86) S (sp_uI S1 0 7 1) := (e1.mono (by omega)).uI (by omega)
    have e23 : eqOff (fun a => a = 0) S1 (sp_uI S1 0 7 1) := eqOff.rf.uI rfl
    have p3 := p1.keep e23 (by omega)
    obtain ⟨g1, g2, g3, g4, g5, g6, g7, g8⟩ := g
    have hm : mv (sp_uI S1 0 7 1) = mv S := mv_off e3 (by omega)
    have hmk : mkv (sp_uI S1 0 7 1) = mkv S := mk_off e3 (by omega)
    have hl : lv (sp_uI S1 0 7 1) 1 = lv S 1 := e3.lv (by omega)
    have z0 : ∀ j, j ≠ 7 → (sp_uI S1 0 7 1).1 0 j = S.1 0 j := fun j hj => by rw [uI_ne (by omega), (e1 0 (by omega)).1]
    have z1 := e3 87 (by omega)
    refine h _ e3 ⟨by rw [hm]; exact g1, by rw [hm, hl]; exact g2, g3.keep e3 (by omega) hm, ⟨?_, Or.inr ⟨uI_get, by rw [hmk]; exact p3⟩⟩, g5.keep e3 (by omega) (by rw [z1.1]) (by rw [z1.1]), g6.keep e3 (by omega) (by rw [z1.1]), g7.keep e3 (by omega) (fun k f1 f2 => z0 k (by omega)), g8.keep ?_ z1.2.1⟩ z0 p3
    · rw [z0 6 (by omega), hmk]
      rcases g4.1 with z | ⟨z, z2, z3⟩
      · exact Or.inl z
      · exact Or.inr ⟨z, e3.sr (by omega) z2, z3.keep e3 (by omega)⟩
    · show S1.2.1 0 = _
      rw [(e1 0 (by omega)).2.1]
theorem eqOff_add {S : sp_M} {x n : Nat} : eqOff (fun a => 69 ≤ a ∧ a ≤ 71) S (f_add S x n) := by
  unfold f_add
  exact ((eqOff.rf.uR (by omega)).uR (by omega)).uI (by omega)
theorem eqOff_fl {v : Nat → Int32} {S : sp_M} : ∀ i, eqOff (fun a => 69 ≤ a ∧ a ≤ 71) S (f_fl v N S i)
  | 0 => eqOff.rf
  | i + 1 => by
    unfold f_fl
    split
    · exact ((eqOff_fl i).tr eqOff_add).mono (by omega)
    · exact eqOff_fl i
theorem fl_3 {v : Nat → Int32} {S : sp_M} : ∀ i, (f_fl v N S i).1 69 3 = S.1 69 3
  | 0 => rfl
  | i + 1 => by
    unfold f_fl
    split
    · have ih := fl_3 (v := v) (S := S) i
      unfold f_add
      rw [uI_ne (by omega)]
      exact ih
    · exact fl_3 i
/-- the flaws are listed -/
theorem h_list (g : InvN S N) (h : ∀ S', eqOff (fun a => 69 ≤ a ∧ a ≤ 71) S S' → InvN S' N → flO S' (mv S) N → Q none S') : MX0_list sp_w [.ref 69, .ref 1] S Q := by
  obtain ⟨g1, g2, g3, g4, g5, g6, g7, g8⟩ := g
  rcases g3 with z | ⟨z, z2⟩
  · refine h_list0 g1 g2 z ?_
    have eo : eqOff (fun a => 69 ≤ a ∧ a ≤ 71) S (f_fl (mv S) N (sp_uI (sp_uI S 69 3 1) 69 2 0) (5 * (N + 1))) := (((eqOff.rf (A := fun a => 69 ≤ a ∧ a ≤ 71)).uI (by omega)).uI (by omega) |>.tr (eqOff_fl _)).mono (by omega)
    have h0 : (sp_uI (sp_uI S 69 3 1) 69 2 0).1 69 2 = 0 := uI_get
    have o : flO (f_fl (mv S) N (sp_uI (sp_uI S 69 3 1) 69 2 0) (5 * (N + 1))) (mv S) N := ⟨fl_cnt h0 _, fun j hj hb => fl_rows h0 _ (by have := g1.1.2.2; omega) j hj hb⟩
    have h3 : (f_fl (mv S) N (sp_uI (sp_uI S 69 3 1) 69 2 0) (5 * (N + 1))).1 69 3 = 1 := by rw [fl_3, uI_ne (by omega), uI_get]
    generalize f_fl (mv S) N (sp_uI (sp_uI S 69 3 1) 69 2 0) (5 * (N + 1)) = S2 at eo o h3 ⊢
    have hm : mv S2 = mv S := mv_off eo (by omega)
    have hl : lv S2 1 = lv S 1 := eo.lv (by omega)
    have z0 := eo 0 (by omega)
    have z1 := eo 87 (by omega)
    exact h S2 eo ⟨by rw [hm]; exact g1, by rw [hm, hl]; exact g2, Or.inr ⟨h3, by rw [hm]; exact o⟩, g4.keep eo (by omega) (by rw [z0.1]) (by rw [z0.1]) (mk_off eo (by omega)), g5.keep eo (by omega) (by rw [z1.1]) (by rw [z1.1]), g6.keep eo (by omega) (by rw [z1.1]), g7.keep eo (by omega) (fun k _ _ => by rw [z0.1]), g8.keep z0.2.1 z1.2.1⟩ o
  · exact h_list1 (h S eqOff.rf ⟨g1, g2, Or.inr ⟨z, z2⟩, g4, g5, g6, g7, g8⟩ z2) z
end T
