/-! the search's tables and the reference's are one -/
theorem t_s_0 {t : tT} (h : t_d t) : t_s 0 t = t := by
  unfold t_s
  rcases h with rfl | h
  · rfl
  · rw [if_pos h.1]
    rfl
theorem folN_sum {t : Nat → Nat → tT} {pa : Nat → Nat → Int32} {need : Int32} {own : Nat} {t0 : tT} (h0 : t_d t0) : ∀ n, (∀ i, i < n → t_d (t_s own (t (i / 3 + 1) (i % 3)))) → folN t pa need own t0 n = t_add t0 (sumT (fun i => if need ≤ pa (i / 3 + 1) (i % 3) then t_s own (t (i / 3 + 1) (i % 3)) else t_z) n)
  | 0, _ => t_add_z.symm
  | n + 1, h => by
    have ih := folN_sum (pa := pa) (need := need) h0 n (fun i hi => h i (by omega))
    have hd : ∀ i, i < n → t_d ((fun i => if need ≤ pa (i / 3 + 1) (i % 3) then t_s own (t (i / 3 + 1) (i % 3)) else t_z) i) := fun i hi => by
      show t_d (if need ≤ pa (i / 3 + 1) (i % 3) then t_s own (t (i / 3 + 1) (i % 3)) else t_z)
      split
      · exact h i (by omega)
      · exact t_d_z
    unfold folN sumT
    by_cases g : need ≤ pa (n / 3 + 1) (n % 3)
    · rw [if_pos g, if_pos g, t_add_s (by omega), ih, t_add_a h0 (sumT_d n hd) (h n (by omega))]
    · rw [if_neg g, if_neg g, ih, t_add_z]
theorem fmN_sum {t : Nat → Nat → tT} {hold : Nat → Nat → Prop} {own b : Nat} : ∀ n, (fmN t hold own b n).1 = sumT (fun j => @ite _ (hold (j / 6 + 1) (j % 6)) (Classical.propDecidable _) (t_s own (t (j / 6 + 1) (j % 6))) t_z) n
  | 0 => rfl
  | n + 1 => by
    have ih := fmN_sum (t := t) (hold := hold) (own := own) (b := b) n
    unfold sumT
    by_cases g : hold (n / 6 + 1) (n % 6)
    · rw [@if_pos _ (Classical.propDecidable _) g]
      by_cases g2 : (t (n / 6 + 1) (n % 6)).1 < 100000000
      · rw [fmN_y rfl rfl ⟨g2, g⟩, ← ih, ← t_add_s (by omega)]
      · rw [fmN_no rfl rfl (fun z => g2 z.1), ih]
        unfold t_s
        rw [if_neg g2, t_add_z]
    · rw [fmN_no rfl rfl (fun z => g z.2), @if_neg _ (Classical.propDecidable _) g, t_add_z, ih]
theorem lsF_sum {t : Nat → Nat → tT} {w ka : Nat} {p0 : lE} (h0 : t_d p0.1) : ∀ n, (∀ i, i < n → t_d (t_s w (t (i / 6 + 1) (i % 6)))) → (lsF t w ka p0 n).1 = t_add p0.1 (sumT (fun j => t_s w (t (j / 6 + 1) (j % 6))) n)
  | 0, _ => t_add_z.symm
  | n + 1, h => by
    have ih := lsF_sum (ka := ka) h0 n (fun i hi => h i (by omega))
    have e0 : lsF t w ka p0 (n + 1) = lsS w ka (n / 6 + 1) (n % 6) (t (n / 6 + 1) (n % 6)) (lsF t w ka p0 n) := rfl
    rw [e0]
    unfold lsS sumT
    by_cases g : (t (n / 6 + 1) (n % 6)).1 < 100000000
    · rw [if_pos g]
      show t_add (lsF t w ka p0 n).1 (t_sh w (t (n / 6 + 1) (n % 6))) = _
      rw [t_add_s (by omega), ih, t_add_a h0 (sumT_d n (fun i hi => h i (by omega))) (h n (by omega))]
    · rw [if_neg g, ih]
      have : t_s w (t (n / 6 + 1) (n % 6)) = t_z := by unfold t_s; rw [if_neg g]
      rw [this, t_add_z]
section T
variable {v : Nat → Int32} {N : Nat}
theorem cTab_N {a : Nat} (ha : a < N) : cTab v N N a = (spanV v N (cTab v N (N - a - 1)) a, openV v N (spanV v N (cTab v N (N - a - 1)) a) a) := by
  have e : cTab v N (N - a) a = if a + (N - a - 1 + 1) = N then (spanV v N (cTab v N (N - a - 1)) a, openV v N (spanV v N (cTab v N (N - a - 1)) a) a) else cTab v N (N - a - 1) a := by
    rw [show N - a = N - a - 1 + 1 by omega]
    rfl
  rw [cTab_stay (n := N - a) (m := N) (by omega) (by omega), e, if_pos (by omega)]
theorem cTab_eq {a la len lb : Nat} (ha : a < N) (h1 : 1 ≤ len) : (cTab v N N a).1 la len lb = spanV v N (cTab v N N) a la len lb := by
  rw [cTab_N ha]
  show spanV v N (cTab v N (N - a - 1)) a la len lb = _
  unfold spanV
  rw [cTab_stay (a := a + len) (n := N - a - 1) (m := N) (by omega) (by omega)]
theorem cTab_op {a la : Nat} (ha : a < N) : (cTab v N N a).2 la = openV v N (cTab v N N a).1 a la := by
  rw [cTab_N ha]
/-- the tally with a kind at the span's end -/
noncomputable def wiV (v : Nat → Int32) (N a la len kb : Nat) : tT := if kb < 3 then folN ((cTab v N N (a + len)).1 kb) (pA v (a + len) kb) (lpI v - pB v a la len kb) (wN v (a + len) kb) t_z (3 * lgN v N (a + len)) else ancV N (a + len) (wN v (a + len) kb) ((cTab v N N (a + len)).2 (kb - 3)) t_z
/-- one place's rows are the reference's -/
def rowS (v : Nat → Int32) (N a : Nat) : Prop := ∀ ka len lb, ka < 6 → 1 ≤ len → len ≤ lgN v N a → lb < 3 → (0 < a ∨ 3 ≤ ka) → (cTab v N N a).1 (ka % 3) len lb = t_add (mT v N a ka len (lb + 3)) (mT v N a ka len lb)
theorem open_sum (hv : lineOK v N) {b kb : Nat} (hb : b < N) (hkb : 3 ≤ kb) (hk6 : kb < 6) (ih : rowS v N b) : t_s (wN v b kb) ((cTab v N N b).2 (kb - 3)) = sumT (fun j => t_s (wN v b kb) (mT v N b kb (j / 6 + 1) (j % 6))) (6 * lgN v N b) := by
  have h20 := hv.1.2.2
  have hl := lgN_le hv b
  have hw := wN_le hv (x := b) (k := kb) (by omega)
  have hm := wN_mod (v := v) (x := b) (k := kb)
  have mn : ∀ l k, 1 ≤ l → l ≤ lgN v N b → t_n 20 (mT v N b kb l k) := fun l k g1 g2 => (mT_n hv g1 g2).up (by omega)
  have row : ∀ i, i < 3 * lgN v N b → (cTab v N N b).1 (kb - 3) (i / 3 + 1) (i % 3) = t_add (mT v N b kb (i / 3 + 1) (i % 3 + 3)) (mT v N b kb (i / 3 + 1) (i % 3)) := fun i hi => by
    have := ih kb (i / 3 + 1) (i % 3) hk6 (by omega) (by omega) (by omega) (Or.inr hkb)
    rw [show kb % 3 = kb - 3 by omega] at this
    exact this
  have rn : ∀ i, i < 3 * lgN v N b → t_n 20 ((cTab v N N b).1 (kb - 3) (i / 3 + 1) (i % 3)) := fun i hi => by
    rw [row i hi]
    exact t_n_add (mn _ _ (by omega) (by omega)) (mn _ _ (by omega) (by omega)) (by omega)
  rw [cTab_op hb]
  unfold openV
  rw [folN_sum t_d_z _ (fun i hi => by rw [t_s_0 ((rn i hi).d (by omega))]; exact (rn i hi).d (by omega))]
  have e1 : sumT (fun i => if -1000000000 ≤ pA v b (kb - 3) (i / 3 + 1) (i % 3) then t_s 0 ((cTab v N N b).1 (kb - 3) (i / 3 + 1) (i % 3)) else t_z) (3 * lgN v N b) = sumT (fun i => (cTab v N N b).1 (kb - 3) (i / 3 + 1) (i % 3)) (3 * lgN v N b) := sumT_congr _ (fun i hi => by
    rw [if_pos (pA_any hv (by omega) (by omega) (by omega) (by omega) (by omega)), t_s_0 ((rn i hi).d (by omega))])
  rw [e1, t_z_add ((sumT_n (m := 20) (by omega) _ rn).d (by omega)), sumT_s (m := 20) (by omega) hm hw _ rn]
  rw [sumT_six _ (fun i hi => (t_s_n (mn _ _ (by omega) (by omega)) (by omega) hm hw).d (by omega))]
  refine sumT_congr _ (fun i hi => ?_)
  rw [row i hi, t_s_add (m := 20) (mn _ _ (by omega) (by omega)) (mn _ _ (by omega) (by omega)) (by omega) hm hw]
  rw [show (6 * (i / 3) + i % 3 + 3) / 6 = i / 3 by omega, show (6 * (i / 3) + i % 3 + 3) % 6 = i % 3 + 3 by omega, show (6 * (i / 3) + i % 3) / 6 = i / 3 by omega, show (6 * (i / 3) + i % 3) % 6 = i % 3 by omega]
theorem clr_mod (hv : lineOK v N) {a ka b kb : Nat} (ha : a < 21) (hb : b < 21) (hka : ka < 6) (hkb : kb < 6) : clrV v a (ka % 3) b (kb % 3) ↔ clrV v a ka b kb := by
  unfold clrV
  rw [top_mod hv ha hka, top_mod hv hb hkb]
theorem wi_eq (hv : lineOK v N) {a ka len kb : Nat} (ha : a < N) (h1 : 1 ≤ len) (h2 : len ≤ lgN v N a) (hka : ka < 6) (hkb : kb < 6) (h3 : 0 < a ∨ 3 ≤ ka) (hsp : spOK v a (ka % 3) (a + len) (kb % 3)) (ih : a + len < N → rowS v N (a + len)) : wiV v N a (ka % 3) len kb = mT v N a ka len kb := by
  have h20 := hv.1.2.2
  have hl := lgN_le hv a
  have hl2 := lgN_le hv (a + len)
  have hc := (clr_mod hv (a := a) (b := a + len) (ka := ka) (kb := kb) (by omega) (by omega) hka hkb).mp hsp.2.2
  have st : stOK v N a ka := ⟨hsp.1, by omega⟩
  have hw := wN_le hv (x := a + len) (k := kb) (by omega)
  have hm := wN_mod (v := v) (x := a + len) (k := kb)
  have em : mT v N a ka len kb = (mspan v N (mTab v N N) a ka len kb).1 := by unfold mT; rw [mTab_eq ha h1]
  rw [em]
  unfold mspan wiV
  by_cases hN : a + len = N
  · have hz : lgN v N (a + len) = 0 := by omega
    by_cases hk : kb < 3
    · rw [if_pos hk, hz, @if_neg _ (Classical.propDecidable _) (fun z : mspOK v N a ka (a + len) kb => by have := z.2.1.2; omega)]
      rfl
    · have hms : mspOK v N a ka (a + len) kb := ⟨st, ⟨hsp.2.1, by omega⟩, hc⟩
      rw [if_neg hk, @if_pos _ (Classical.propDecidable _) hms, if_pos hN]
      unfold ancV
      rw [if_pos hN, hN]
  · have ih := ih (by omega)
    have hms : mspOK v N a ka (a + len) kb := ⟨st, ⟨hsp.2.1, by omega⟩, hc⟩
    rw [@if_pos _ (Classical.propDecidable _) hms, if_neg hN, fmN_sum]
    have mn : ∀ l k, 1 ≤ l → l ≤ lgN v N (a + len) → t_n 20 (mT v N (a + len) kb l k) := fun l k g1 g2 => (mT_n hv g1 g2).up (by omega)
    have row : ∀ i, i < 3 * lgN v N (a + len) → (cTab v N N (a + len)).1 (kb % 3) (i / 3 + 1) (i % 3) = t_add (mT v N (a + len) kb (i / 3 + 1) (i % 3 + 3)) (mT v N (a + len) kb (i / 3 + 1) (i % 3)) := fun i hi => ih kb (i / 3 + 1) (i % 3) hkb (by omega) (by omega) (by omega) (Or.inl (by omega))
    have rn : ∀ i, i < 3 * lgN v N (a + len) → t_n 20 ((cTab v N N (a + len)).1 (kb % 3) (i / 3 + 1) (i % 3)) := fun i hi => by
      rw [row i hi]
      exact t_n_add (mn _ _ (by omega) (by omega)) (mn _ _ (by omega) (by omega)) (by omega)
    by_cases hk : kb < 3
    · rw [if_pos hk]
      rw [show kb % 3 = kb by omega] at row rn
      have hd : ∀ i, i < 3 * lgN v N (a + len) → t_d (t_s (wN v (a + len) kb) ((cTab v N N (a + len)).1 kb (i / 3 + 1) (i % 3))) := fun i hi => (t_s_n (rn i hi) (by omega) hm hw).d (by omega)
      rw [folN_sum t_d_z _ hd]
      have hd2 : t_d (sumT (fun i => if lpI v - pB v a (ka % 3) len kb ≤ pA v (a + len) kb (i / 3 + 1) (i % 3) then t_s (wN v (a + len) kb) ((cTab v N N (a + len)).1 kb (i / 3 + 1) (i % 3)) else t_z) (3 * lgN v N (a + len))) := sumT_d _ (fun i hi => by
        show t_d (if _ then _ else _)
        split
        · exact hd i hi
        · exact t_d_z)
      rw [t_z_add hd2]
      have hold : ∀ l k, 1 ≤ l → l ≤ lgN v N (a + len) → k < 6 → (lpI v - pB v a (ka % 3) len kb ≤ pA v (a + len) kb l (k % 3) ↔ f_holds v a (a + len) (a + len + l) (nI ka) (nI kb) (nI k)) := fun l k g1 g2 g3 => hold_A hv h1 (by omega) g1 (by omega) (by omega) hka hk g3
      refine Eq.trans ?_ (sumT_six (f := fun j => @ite _ (f_holds v a (a + len) (a + len + (j / 6 + 1)) (nI ka) (nI kb) (nI (j % 6))) (Classical.propDecidable _) (t_s (wN v (a + len) kb) (mT v N (a + len) kb (j / 6 + 1) (j % 6))) t_z) (lgN v N (a + len)) (fun i hi => by
        show t_d (@ite _ _ (Classical.propDecidable _) _ _)
        split
        · exact (t_s_n (mn _ _ (by omega) (by omega)) (by omega) hm hw).d (by omega)
        · exact t_d_z)).symm
      refine sumT_congr _ (fun i hi => ?_)
      rw [show (6 * (i / 3) + i % 3 + 3) / 6 = i / 3 by omega, show (6 * (i / 3) + i % 3 + 3) % 6 = i % 3 + 3 by omega, show (6 * (i / 3) + i % 3) / 6 = i / 3 by omega, show (6 * (i / 3) + i % 3) % 6 = i % 3 by omega]
      have e1 := hold (i / 3 + 1) (i % 3) (by omega) (by omega) (by omega)
      have e2 := hold (i / 3 + 1) (i % 3 + 3) (by omega) (by omega) (by omega)
      rw [show i % 3 % 3 = i % 3 by omega] at e1
      rw [show (i % 3 + 3) % 3 = i % 3 by omega] at e2
      by_cases g : lpI v - pB v a (ka % 3) len kb ≤ pA v (a + len) kb (i / 3 + 1) (i % 3)
      · rw [if_pos g, @if_pos _ (Classical.propDecidable _) (e1.mp g), @if_pos _ (Classical.propDecidable _) (e2.mp g), row i hi, t_s_add (m := 20) (mn _ _ (by omega) (by omega)) (mn _ _ (by omega) (by omega)) (by omega) hm hw]
      · rw [if_neg g, @if_neg _ (Classical.propDecidable _) (fun z => g (e1.mpr z)), @if_neg _ (Classical.propDecidable _) (fun z => g (e2.mpr z)), t_add_z]
    · rw [if_neg hk]
      unfold ancV
      rw [if_neg hN, t_add_s (by omega), open_sum hv (by omega) (by omega) hkb ih]
      have hd3 : ∀ i, i < 6 * lgN v N (a + len) → t_d (t_s (wN v (a + len) kb) (mT v N (a + len) kb (i / 6 + 1) (i % 6))) := fun i hi => (t_s_n (mn _ _ (by omega) (by omega)) (by omega) hm hw).d (by omega)
      rw [t_z_add (sumT_d _ hd3)]
      refine sumT_congr _ (fun i hi => ?_)
      have hh : f_holds v a (a + len) (a + len + (i / 6 + 1)) (nI ka) (nI kb) (nI (i % 6)) := Or.inl (nI_lt (a := 2) (by omega) (by omega))
      rw [@if_pos _ (Classical.propDecidable _) hh]
      rfl
theorem rowS_step (hv : lineOK v N) {a : Nat} (ha : a < N) (ih : ∀ b, a < b → b < N → rowS v N b) : rowS v N a := by
  intro ka len lb hka h1 h2 hlb h3
  have h20 := hv.1.2.2
  have hl := lgN_le hv a
  rw [cTab_eq ha h1]
  by_cases hsp : spOK v a (ka % 3) (a + len) lb
  · have w1 := wi_eq hv (kb := lb) ha h1 h2 hka (by omega) h3 (by rw [show lb % 3 = lb by omega]; exact hsp) (fun z => ih _ (by omega) z)
    have w2 := wi_eq hv (kb := lb + 3) ha h1 h2 hka (by omega) h3 (by rw [show (lb + 3) % 3 = lb by omega]; exact hsp) (fun z => ih _ (by omega) z)
    have d1 : t_d (mT v N a ka len lb) := (mT_n hv h1 h2).d (by omega)
    have d2 : t_d (mT v N a ka len (lb + 3)) := (mT_n hv h1 h2).d (by omega)
    rw [← w1] at d1 ⊢
    rw [← w2] at d2 ⊢
    unfold spanV
    rw [@if_pos _ (Classical.propDecidable _) hsp]
    have e2 : wiV v N a (ka % 3) len (lb + 3) = ancV N (a + len) (wN v (a + len) (lb + 3)) ((cTab v N N (a + len)).2 lb) t_z := by
      unfold wiV
      rw [if_neg (by omega), show lb + 3 - 3 = lb by omega]
    have e1 : wiV v N a (ka % 3) len lb = folN ((cTab v N N (a + len)).1 lb) (pA v (a + len) lb) (lpI v - pB v a (ka % 3) len lb) (wN v (a + len) lb) t_z (3 * lgN v N (a + len)) := by
      unfold wiV
      rw [if_pos hlb]
    rw [← e2]
    have hw := wN_le hv (x := a + len) (k := lb) (by omega)
    have hm := wN_mod (v := v) (x := a + len) (k := lb)
    have hl2 := lgN_le hv (a + len)
    have hd : ∀ i, i < 3 * lgN v N (a + len) → t_d (t_s (wN v (a + len) lb) ((cTab v N N (a + len)).1 lb (i / 3 + 1) (i % 3))) := fun i hi => by
      have r := ih (a + len) (by omega) (by omega) lb (i / 3 + 1) (i % 3) (by omega) (by omega) (by omega) (by omega) (Or.inl (by omega))
      rw [show lb % 3 = lb by omega] at r
      rw [r]
      refine (t_s_n (m := 20) (t_n_add ((mT_n hv (by omega) (by omega)).up (by omega)) ((mT_n hv (by omega) (by omega)).up (by omega)) (by omega)) (by omega) hm hw).d (by omega)
    rw [folN_sum d2 _ hd]
    rw [e1, folN_sum t_d_z _ hd, t_z_add]
    refine sumT_d _ (fun i hi => ?_)
    show t_d (if _ then _ else _)
    split
    · exact hd i hi
    · exact t_d_z
  · have nz : ∀ kb, kb < 6 → kb % 3 = lb → mT v N a ka len kb = t_z := fun kb hkb hl3 => by
      unfold mT
      rw [mTab_eq ha h1]
      unfold mspan
      rw [@if_neg _ (Classical.propDecidable _) (fun z : mspOK v N a ka (a + len) kb => hsp ⟨z.1.1, z.2.1.1, ?_⟩)]
      have := (clr_mod hv (a := a) (b := a + len) (ka := ka) (kb := kb) (by omega) (by omega) hka hkb).mpr z.2.2
      rw [hl3] at this
      exact this
    unfold spanV
    rw [@if_neg _ (Classical.propDecidable _) hsp, nz lb (by omega) (by omega), nz (lb + 3) (by omega) (by omega)]
    rfl
theorem rowS_all (hv : lineOK v N) : ∀ n a, a < N → N ≤ a + n → rowS v N a
  | 0, a, h1, h2 => by omega
  | n + 1, a, h1, h2 => rowS_step hv h1 (fun b h3 h4 => rowS_all hv n b h4 (by omega))
theorem row_same (hv : lineOK v N) {a : Nat} (ha : a < N) : rowS v N a := rowS_all hv N a ha (by omega)
theorem wi_same (hv : lineOK v N) {a ka len kb : Nat} (ha : a < N) (h1 : 1 ≤ len) (h2 : len ≤ lgN v N a) (hka : ka < 6) (hkb : kb < 6) (h3 : 0 < a ∨ 3 ≤ ka) (hsp : spOK v a (ka % 3) (a + len) (kb % 3)) : wiV v N a (ka % 3) len kb = mT v N a ka len kb := wi_eq hv ha h1 h2 hka hkb h3 hsp (fun z => row_same hv z)
theorem bst_d (hv : lineOK v N) : ∀ k, k ≤ 3 → t_d (lsV v N k).1 ∧ bstV v N k = (lsV v N k).1
  | 0, _ => ⟨t_d_z, rfl⟩
  | k + 1, hk => by
    obtain ⟨d, ih⟩ := bst_d hv k (by omega)
    have h20 := hv.1.2.2
    have hN2 := hv.1.2.1
    have hl := lgN_le hv 0
    have hw := wN_le hv (x := 0) (k := 3 + k) (by omega)
    have hm := wN_mod (v := v) (x := 0) (k := 3 + k)
    have hd : ∀ i, i < 6 * lgN v N 0 → t_d (t_s (wN v 0 (3 + k)) (mT v N 0 (3 + k) (i / 6 + 1) (i % 6))) := fun i hi => (t_s_n (m := 20) ((mT_n hv (by omega) (by omega)).up (by omega)) (by omega) hm hw).d (by omega)
    have e : (lsV v N (k + 1)).1 = t_add (lsV v N k).1 (sumT (fun j => t_s (wN v 0 (3 + k)) (mT v N 0 (3 + k) (j / 6 + 1) (j % 6))) (6 * lgN v N 0)) := lsF_sum (t := mT v N 0 (3 + k)) (ka := 3 + k) d _ hd
    have e2 : bstV v N (k + 1) = ancV N 0 (wN v 0 (k + 3)) ((cTab v N N 0).2 k) (bstV v N k) := rfl
    have o := open_sum hv (b := 0) (kb := 3 + k) (by omega) (by omega) (by omega) (row_same hv (by omega))
    rw [show 3 + k - 3 = k by omega] at o
    refine ⟨by rw [e]; exact t_add_d d (sumT_d _ hd), ?_⟩
    rw [e, e2, ih, ← o]
    unfold ancV
    rw [if_neg (by omega), t_add_s (by omega), Nat.add_comm k 3]
theorem bst_same (hv : lineOK v N) : bstV v N 3 = (lsV v N 3).1 := (bst_d hv 3 (by omega)).2
end T
