/-! rules: a step of the machine, goal first -/
def sp_cont (k : sp_K) (L : sp_L) (r : List Value) : sp_R := fun rv S' => k L (rv.toList ++ r) S'
def sp_gx (sk : List sp_C) (S : sp_M) (a ci fk : Nat) : Option Value := match sk[a]? with
  | some (.inr (.inr (c', fs))) => (match decide (c' = ci), fs[fk]? with
    | true, some (.inl (some b)) => some (.ref b)
    | true, some (.inl none) => some .null
    | true, some (.inr false) => some (.int (S.1 a fk))
    | true, some (.inr true) => some (.long (S.2.1 a fk))
    | _, _ => none)
  | _ => none
theorem sp_gx_gf {sk : List sp_C} {S : sp_M} {a ci fk : Nat} {v : Value} (h : sp_gx sk S a ci fk = some v) : sp_gf sk S a ci fk = some v := by
  unfold sp_gx at h
  unfold sp_gf
  split at h
  · rename_i c' fs hs
    rw [hs]
    dsimp only
    split at h <;> rename_i h1 h2
    all_goals first | (rw [if_pos (of_decide_eq_true h1), h2]; exact h) | cases h
  · cases h
def sp_ix (w : sp_W) (S : sp_M) (a : Nat) : Option (Nat × (Nat → Int32)) := match w.1[a]? with
  | some (.inl n) => (match Nat.blt a 1000 with
    | true => some (n, S.2.2 a)
    | false => none)
  | some _ => none
  | none => (match a with
    | 1000 => some (w.2 0)
    | 1001 => some (w.2 1)
    | 1002 => some (w.2 2)
    | 1003 => some (w.2 3)
    | 1004 => some (w.2 4)
    | _ => none)
theorem sp_ix_ia {w : sp_W} {S : sp_M} {a : Nat} {q : Nat × (Nat → Int32)} (h : sp_ix w S a = some q) : sp_ia w S a = some q := by
  unfold sp_ix at h
  unfold sp_ia
  split at h
  · rename_i n hn
    split at h
    · rename_i hb
      have hb' : a < 1000 := by simpa using hb
      rw [if_neg (by omega), hn]
      exact h
    · cases h
  · cases h
  · split at h <;> first | (cases h; done) | (cases h; simp)
section RU
variable {w : sp_W} {k kt kf kd : sp_K} {L : sp_L} {st r : List Value} {S : sp_M} {Q : sp_R} {x y i : Int32} {X Y : Int64} {v u : Value} {a b n j : Nat} {ci fk : Nat}
theorem r_push (h : k L (v :: st) S) : o_push v k L st S := h
theorem r_iload (hx : sp_nth L j = some (.int x)) (h : k L (.int x :: st) S) : o_iload j k L st S := by unfold o_iload; rw [hx]; exact h
theorem r_lload (hx : sp_nth L j = some (.long X)) (h : k L (.long X :: st) S) : o_lload j k L st S := by unfold o_lload; rw [hx]; exact h
theorem r_aload (hx : sp_nth L j = some (.ref a)) (h : k L (.ref a :: st) S) : o_aload j k L st S := by unfold o_aload; rw [hx]; exact h
theorem r_istore {L' : sp_L} (hx : sp_st1 L j (.int x) = L') (h : k L' r S) : o_istore j k L (.int x :: r) S := by subst hx; exact h
theorem r_lstore {L' : sp_L} (hx : sp_st2 L j (.long X) = L') (h : k L' r S) : o_lstore j k L (.long X :: r) S := by subst hx; exact h
theorem r_iinc {n : Int32} {L' : sp_L} (hx : sp_nth L j = some (.int x)) (hy : sp_st1 L j (.int (x + n)) = L') (h : k L' st S) : o_iinc j n k L st S := by unfold o_iinc; rw [hx]; subst hy; exact h
theorem r_ib {f : Int32 → Int32 → Int32} (h : k L (.int (f x y) :: r) S) : o_ib f k L (.int y :: .int x :: r) S := h
theorem r_id {f : Int32 → Int32 → Int32} (hd : ¬ y = 0) (h : k L (.int (f x y) :: r) S) : o_id f k L (.int y :: .int x :: r) S := ⟨hd, h⟩
theorem r_ineg (h : k L (.int (-x) :: r) S) : o_ineg k L (.int x :: r) S := h
theorem r_i2l (h : k L (.long x.toInt64 :: r) S) : o_i2l k L (.int x :: r) S := h
theorem r_lb {f : Int64 → Int64 → Int64} (h : k L (.long (f X Y) :: r) S) : o_lb f k L (.long Y :: .long X :: r) S := h
theorem r_ld {f : Int64 → Int64 → Int64} (hd : ¬ Y = 0) (h : k L (.long (f X Y) :: r) S) : o_ld f k L (.long Y :: .long X :: r) S := ⟨hd, h⟩
theorem r_lcmp (h : k L (.int (lg_cmp X Y) :: r) S) : o_lcmp k L (.long Y :: .long X :: r) S := h
theorem r_dup (hv : sp_c1 v = true) (h : k L (v :: v :: r) S) : o_dup k L (v :: r) S := ⟨hv, h⟩
theorem r_dup2 (hv : (sp_c1 u && sp_c1 v) = true) (h : k L (u :: v :: u :: v :: r) S) : o_dup2 k L (u :: v :: r) S := ⟨hv, h⟩
theorem r_if {q : Int32 → Prop} (ht : q x → kt L r S) (hf : ¬ q x → kf L r S) : o_if q kt kf L (.int x :: r) S := ⟨ht, hf⟩
theorem r_ic {q : Int32 → Int32 → Prop} (ht : q x y → kt L r S) (hf : ¬ q x y → kf L r S) : o_ic q kt kf L (.int y :: .int x :: r) S := ⟨ht, hf⟩
theorem r_getf (hx : sp_gx w.1 S a ci fk = some v) (h : k L (v :: r) S) : o_getf w ci fk k L (.ref a :: r) S := by
  simp only [o_getf]; rw [sp_gx_gf hx]; exact h
theorem r_puti {S' : sp_M} (hx : sp_pf w.1 S a ci fk (.int x) = some S') (h : k L r S') : o_puti w ci fk k L (.int x :: .ref a :: r) S := by
  simp only [o_puti]; rw [hx]; exact h
theorem r_putl {S' : sp_M} (hx : sp_pf w.1 S a ci fk (.long X) = some S') (h : k L r S') : o_putl w ci fk k L (.long X :: .ref a :: r) S := by
  simp only [o_putl]; rw [hx]; exact h
theorem r_putz {S' : sp_M} (hz : x = 0 ∨ x = 1) (hx : sp_pf w.1 S a ci fk (.int x) = some S') (h : k L r S') : o_putz w ci fk k L (.int x :: .ref a :: r) S := by
  simp only [o_putz]; rw [hx]; exact ⟨hz, h⟩
theorem r_iald {f : Nat → Int32} (hx : sp_ix w S a = some (n, f)) (h : k L (.int (f i.toNatClampNeg) :: r) S) (hb : vp_in i n) : o_iald w k L (.int i :: .ref a :: r) S := by
  simp only [o_iald]; rw [sp_ix_ia hx]; exact ⟨hb, h⟩
theorem r_iast (hx : w.1[a]? = some (.inl n)) (h : k L r (sp_uR S a (upd (S.2.2 a) i.toNatClampNeg x))) (hb : vp_in i n) : o_iast w k L (.int x :: .int i :: .ref a :: r) S := by
  simp only [o_iast]; rw [hx]; exact ⟨hb, h⟩
theorem r_aald {t : Nat} {f : Nat → Option Nat} (hx : w.1[a]? = some (.inr (.inl (t, n, f)))) (hf : f i.toNatClampNeg = some b) (h : k L (.ref b :: r) S) (hb : vp_in i n) : o_aald w k L (.int i :: .ref a :: r) S := by
  simp only [o_aald]; rw [hx]; refine ⟨hb, ?_⟩; rw [hf]; exact h
theorem r_gets (h : k L (.ref (1000 + j) :: st) S) : o_gets j k L st S := h
theorem r_mmax (hw : sp_wt r ≤ 8) (h : k L (.int (if x < y then y else x) :: r) S) : o_mmax k L (.int y :: .int x :: r) S := ⟨hw, h⟩
theorem r_mmin (hw : sp_wt r ≤ 8) (h : k L (.int (if y < x then y else x) :: r) S) : o_mmin k L (.int y :: .int x :: r) S := ⟨hw, h⟩
theorem r_mabs (hw : sp_wt r ≤ 8) (h : k L (.long (if 0 < X then X else -X) :: r) S) : o_mabs k L (.long X :: r) S := ⟨hw, h⟩
theorem r_copy {sp dp m : Int32} {a0 n0 n1 : Nat} (hw : sp_wt r ≤ 8) (h0 : w.1[a0]? = some (.inl n0)) (h1 : w.1[a]? = some (.inl n1)) (hb : ¬ sp < 0 ∧ ¬ dp < 0 ∧ ¬ m < 0 ∧ sp.toNatClampNeg + m.toNatClampNeg ≤ n0 ∧ dp.toNatClampNeg + m.toNatClampNeg ≤ n1) (h : k L r (sp_uR S a (va_cpy (S.2.2 a0) (S.2.2 a) sp.toNatClampNeg dp.toNatClampNeg m.toNatClampNeg))) : o_copy w k L (.int m :: .int dp :: .ref a :: .int sp :: .ref a0 :: r) S := by
  simp only [o_copy]; rw [h0, h1]; exact ⟨hw, hb, h⟩
theorem r_calls {M : sp_W → List Value → sp_M → sp_R → Prop} {as : List Value} (hs : sp_spl n [] st = some (as, r)) (hw : sp_wt r ≤ 8) (h : M w as S (sp_cont k L r)) : o_calls w M n k L st S := by
  unfold o_calls; rw [hs]; exact ⟨hw, h⟩
theorem r_callv {M : sp_W → List Value → sp_M → sp_R → Prop} {as : List Value} (hs : sp_spl n [] st = some (.ref a :: as, r)) (hc : sp_cl w.1 a = some ci) (hw : sp_wt r ≤ 8) (h : M w (.ref a :: as) S (sp_cont k L r)) : o_callv w M ci n k L st S := by
  unfold o_callv; rw [hs]; exact ⟨⟨hc, hw⟩, h⟩
theorem r_ret1 (h : k L (v :: r) S) : sp_cont k L r (some v) S := h
theorem r_ret0 (h : k L r S) : sp_cont k L r none S := h
theorem r_iret (h : Q (some (.int x)) S) : o_iret Q L [.int x] S := h
theorem r_zret (hz : x = 0 ∨ x = 1) (h : Q (some (.int x)) S) : o_zret Q L [.int x] S := ⟨hz, h⟩
theorem r_lret (h : Q (some (.long X)) S) : o_lret Q L [.long X] S := h
theorem r_vret (h : Q none S) : o_vret Q L [] S := h
theorem r_sw {cs : List (Int32 × sp_K)} (h : sp_sw x r L S kd cs) : o_sw cs kd L (.int x :: r) S := h
theorem sw_c {c : Int32} {k1 : sp_K} {qs : List (Int32 × sp_K)} (h1 : x = c → k1 L r S) (h2 : ¬ x = c → sp_sw x r L S kd qs) : sp_sw x r L S kd ((c, k1) :: qs) := ⟨h1, h2⟩
theorem sw_d (h : kd L r S) : sp_sw x r L S kd [] := h
end RU
