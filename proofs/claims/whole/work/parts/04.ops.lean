/-! the instructions as transformers of continuations, and that each is sound -/
def o_push (v : Value) (k : sp_K) : sp_K := fun L st S => k L (v :: st) S
def o_iload (i : Nat) (k : sp_K) : sp_K := fun L st S => match sp_nth L i with
  | some (.int x) => k L (.int x :: st) S
  | _ => False
def o_lload (i : Nat) (k : sp_K) : sp_K := fun L st S => match sp_nth L i with
  | some (.long x) => k L (.long x :: st) S
  | _ => False
def o_aload (i : Nat) (k : sp_K) : sp_K := fun L st S => match sp_nth L i with
  | some (.ref x) => k L (.ref x :: st) S
  | _ => False
def o_istore (i : Nat) (k : sp_K) : sp_K := fun L st S => match st with
  | .int x :: r => k (sp_st1 L i (.int x)) r S
  | _ => False
def o_lstore (i : Nat) (k : sp_K) : sp_K := fun L st S => match st with
  | .long x :: r => k (sp_st2 L i (.long x)) r S
  | _ => False
def o_astore (i : Nat) (k : sp_K) : sp_K := fun L st S => match st with
  | .ref x :: r => k (sp_st1 L i (.ref x)) r S
  | _ => False
def o_iinc (i : Nat) (n : Int32) (k : sp_K) : sp_K := fun L st S => match sp_nth L i with
  | some (.int x) => k (sp_st1 L i (.int (x + n))) st S
  | _ => False
def o_ib (f : Int32 → Int32 → Int32) (k : sp_K) : sp_K := fun L st S => match st with
  | .int y :: .int x :: r => k L (.int (f x y) :: r) S
  | _ => False
/-- a division or a remainder: the divisor isn't 0 -/
def o_id (f : Int32 → Int32 → Int32) (k : sp_K) : sp_K := fun L st S => match st with
  | .int y :: .int x :: r => ¬ y = 0 ∧ k L (.int (f x y) :: r) S
  | _ => False
def o_ineg (k : sp_K) : sp_K := fun L st S => match st with
  | .int x :: r => k L (.int (-x) :: r) S
  | _ => False
def o_i2l (k : sp_K) : sp_K := fun L st S => match st with
  | .int x :: r => k L (.long x.toInt64 :: r) S
  | _ => False
def o_lb (f : Int64 → Int64 → Int64) (k : sp_K) : sp_K := fun L st S => match st with
  | .long y :: .long x :: r => k L (.long (f x y) :: r) S
  | _ => False
def o_ld (f : Int64 → Int64 → Int64) (k : sp_K) : sp_K := fun L st S => match st with
  | .long y :: .long x :: r => ¬ y = 0 ∧ k L (.long (f x y) :: r) S
  | _ => False
def o_lcmp (k : sp_K) : sp_K := fun L st S => match st with
  | .long y :: .long x :: r => k L (.int (lg_cmp x y) :: r) S
  | _ => False
def sp_c1 : Value → Bool
  | .int _ => true
  | .ref _ => true
  | _ => false
def o_dup (k : sp_K) : sp_K := fun L st S => match st with
  | v :: r => sp_c1 v = true ∧ k L (v :: v :: r) S
  | _ => False
def o_dup2 (k : sp_K) : sp_K := fun L st S => match st with
  | u :: v :: r => (sp_c1 u && sp_c1 v) = true ∧ k L (u :: v :: u :: v :: r) S
  | _ => False
def o_if (q : Int32 → Prop) (kt kf : sp_K) : sp_K := fun L st S => match st with
  | .int x :: r => (q x → kt L r S) ∧ (¬ q x → kf L r S)
  | _ => False
def o_ic (q : Int32 → Int32 → Prop) (kt kf : sp_K) : sp_K := fun L st S => match st with
  | .int y :: .int x :: r => (q x y → kt L r S) ∧ (¬ q x y → kf L r S)
  | _ => False
def sp_sw (x : Int32) (r : List Value) (L : sp_L) (S : sp_M) (kd : sp_K) : List (Int32 × sp_K) → Prop
  | [] => kd L r S
  | q :: qs => (x = q.1 → q.2 L r S) ∧ (¬ x = q.1 → sp_sw x r L S kd qs)
def o_sw (cs : List (Int32 × sp_K)) (kd : sp_K) : sp_K := fun L st S => match st with
  | .int x :: r => sp_sw x r L S kd cs
  | _ => False
def sp_gf (sk : List sp_C) (S : sp_M) (a ci fk : Nat) : Option Value := match sk[a]? with
  | some (.inr (.inr (c', fs))) => if c' = ci then (fs[fk]?).map (sp_gv S a fk) else none
  | _ => none
def sp_pf (sk : List sp_C) (S : sp_M) (a ci fk : Nat) (v : Value) : Option sp_M := match sk[a]? with
  | some (.inr (.inr (c', fs))) => if c' = ci then (match fs[fk]?, v with
    | some (.inr false), .int x => some (sp_uI S a fk x)
    | some (.inr true), .long x => some (sp_uJ S a fk x)
    | _, _ => none) else none
  | _ => none
def o_getf (w : sp_W) (ci fk : Nat) (k : sp_K) : sp_K := fun L st S => match st with
  | .ref a :: r => (match sp_gf w.1 S a ci fk with
    | some v => k L (v :: r) S
    | none => False)
  | _ => False
def o_puti (w : sp_W) (ci fk : Nat) (k : sp_K) : sp_K := fun L st S => match st with
  | .int x :: .ref a :: r => (match sp_pf w.1 S a ci fk (.int x) with
    | some S' => k L r S'
    | none => False)
  | _ => False
def o_putl (w : sp_W) (ci fk : Nat) (k : sp_K) : sp_K := fun L st S => match st with
  | .long x :: .ref a :: r => (match sp_pf w.1 S a ci fk (.long x) with
    | some S' => k L r S'
    | none => False)
  | _ => False
/-- a boolean field -/
def o_putz (w : sp_W) (ci fk : Nat) (k : sp_K) : sp_K := fun L st S => match st with
  | .int x :: .ref a :: r => (x = 0 ∨ x = 1) ∧ (match sp_pf w.1 S a ci fk (.int x) with
    | some S' => k L r S'
    | none => False)
  | _ => False
def sp_ia (w : sp_W) (S : sp_M) (a : Nat) : Option (Nat × (Nat → Int32)) := if 1000 ≤ a then (if a < 1005 then some (w.2 (a - 1000)) else none) else match w.1[a]? with
  | some (.inl n) => some (n, S.2.2 a)
  | _ => none
def o_iald (w : sp_W) (k : sp_K) : sp_K := fun L st S => match st with
  | .int i :: .ref a :: r => (match sp_ia w S a with
    | some q => vp_in i q.1 ∧ k L (.int (q.2 i.toNatClampNeg) :: r) S
    | none => False)
  | _ => False
def o_iast (w : sp_W) (k : sp_K) : sp_K := fun L st S => match st with
  | .int x :: .int i :: .ref a :: r => (match w.1[a]? with
    | some (.inl n) => vp_in i n ∧ k L r (sp_uR S a (upd (S.2.2 a) i.toNatClampNeg x))
    | _ => False)
  | _ => False
def o_aald (w : sp_W) (k : sp_K) : sp_K := fun L st S => match st with
  | .int i :: .ref a :: r => (match w.1[a]? with
    | some (.inr (.inl (_, n, f))) => vp_in i n ∧ (match f i.toNatClampNeg with
      | some b => k L (.ref b :: r) S
      | none => False)
    | _ => False)
  | _ => False
def o_gets (i : Nat) (k : sp_K) : sp_K := fun L st S => k L (.ref (1000 + i) :: st) S
def sp_wt (r : List Value) : Nat := (r.map fun v => v.category).sum
def o_mmax (k : sp_K) : sp_K := fun L st S => match st with
  | .int y :: .int x :: r => sp_wt r ≤ 8 ∧ k L (.int (if x < y then y else x) :: r) S
  | _ => False
def o_mmin (k : sp_K) : sp_K := fun L st S => match st with
  | .int y :: .int x :: r => sp_wt r ≤ 8 ∧ k L (.int (if y < x then y else x) :: r) S
  | _ => False
def o_mabs (k : sp_K) : sp_K := fun L st S => match st with
  | .long x :: r => sp_wt r ≤ 8 ∧ k L (.long (if 0 < x then x else -x) :: r) S
  | _ => False
def o_copy (w : sp_W) (k : sp_K) : sp_K := fun L st S => match st with
  | .int n :: .int dp :: .ref a :: .int sp :: .ref a0 :: r => sp_wt r ≤ 8 ∧ (match w.1[a0]?, w.1[a]? with
    | some (.inl n0), some (.inl n1) => (¬ sp < 0 ∧ ¬ dp < 0 ∧ ¬ n < 0 ∧ sp.toNatClampNeg + n.toNatClampNeg ≤ n0 ∧ dp.toNatClampNeg + n.toNatClampNeg ≤ n1) ∧ k L r (sp_uR S a (va_cpy (S.2.2 a0) (S.2.2 a) sp.toNatClampNeg dp.toNatClampNeg n.toNatClampNeg))
    | _, _ => False)
  | _ => False
def sp_spl : Nat → List Value → List Value → Option (List Value × List Value)
  | 0, acc, st => some (acc, st)
  | n + 1, acc, v :: st => sp_spl n (v :: acc) st
  | _ + 1, _, [] => none
def sp_cl (sk : List sp_C) (a : Nat) : Option Nat := match sk[a]? with
  | some (.inr (.inr (c', _))) => some c'
  | _ => none
def o_calls (w : sp_W) (M : sp_W → List Value → sp_M → sp_R → Prop) (n : Nat) (k : sp_K) : sp_K := fun L st S => match sp_spl n [] st with
  | some (as, r) => sp_wt r ≤ 8 ∧ M w as S (fun rv S' => k L (rv.toList ++ r) S')
  | none => False
def o_callv (w : sp_W) (M : sp_W → List Value → sp_M → sp_R → Prop) (ci n : Nat) (k : sp_K) : sp_K := fun L st S => match sp_spl n [] st with
  | some (.ref a :: as, r) => (sp_cl w.1 a = some ci ∧ sp_wt r ≤ 8) ∧ M w (.ref a :: as) S (fun rv S' => k L (rv.toList ++ r) S')
  | _ => False
def o_iret (Q : sp_R) : sp_K := fun _ st S => match st with
  | [.int v] => Q (some (.int v)) S
  | _ => False
def o_zret (Q : sp_R) : sp_K := fun _ st S => match st with
  | [.int v] => (v = 0 ∨ v = 1) ∧ Q (some (.int v)) S
  | _ => False
def o_lret (Q : sp_R) : sp_K := fun _ st S => match st with
  | [.long v] => Q (some (.long v)) S
  | _ => False
def o_vret (Q : sp_R) : sp_K := fun _ st S => match st with
  | [] => Q none S
  | _ => False
section SPO
variable {cc : ByteArray} {nL : Nat} {own : String} {ret : Option FieldType} {rf rl : Nat} {w : sp_W} {Q : sp_R} {P : Nat → sp_K} {pc : Nat} {k kt kf kd : sp_K}
theorem ok_iconst {n : Int} {v : Int32} (d : decode cc pc = .ok (.iconst n, 1)) (hv : Int32.ofInt n = v) (h : sp_Ok cc nL own ret rf rl w Q P (pc + 1) k) : sp_Ok cc nL own ret rf rl w Q P pc (o_push (.int v) k) := by
  intro p l e R s m args below meth c D g ad X hP L st S ls H locs h1 h2 h3 h4 hk
  have h0 := h p l e R s m args below meth c D g ad X hP
  obtain ⟨⟨hx, hb, hml, hown⟩, hts, hK, hRO, hlk, hr, hf1, hf2⟩ := X
  exact lv_iconst hx hb d hv (h0 L (.int v :: st) S ls H locs h1 h2 h3 h4 hk)
theorem ok_bipush {n : Int} {v : Int32} (d : decode cc pc = .ok (.bipush n, 2)) (hv : (Int8.ofInt n).toInt32 = v) (h : sp_Ok cc nL own ret rf rl w Q P (pc + 2) k) : sp_Ok cc nL own ret rf rl w Q P pc (o_push (.int v) k) := by
  intro p l e R s m args below meth c D g ad X hP L st S ls H locs h1 h2 h3 h4 hk
  have h0 := h p l e R s m args below meth c D g ad X hP
  obtain ⟨⟨hx, hb, hml, hown⟩, hts, hK, hRO, hlk, hr, hf1, hf2⟩ := X
  exact lv_bipush hx hb d hv (h0 L (.int v :: st) S ls H locs h1 h2 h3 h4 hk)
theorem ok_sipush {n : Int} {v : Int32} (d : decode cc pc = .ok (.sipush n, 3)) (hv : (Int16.ofInt n).toInt32 = v) (h : sp_Ok cc nL own ret rf rl w Q P (pc + 3) k) : sp_Ok cc nL own ret rf rl w Q P pc (o_push (.int v) k) := by
  intro p l e R s m args below meth c D g ad X hP L st S ls H locs h1 h2 h3 h4 hk
  have h0 := h p l e R s m args below meth c D g ad X hP
  obtain ⟨⟨hx, hb, hml, hown⟩, hts, hK, hRO, hlk, hr, hf1, hf2⟩ := X
  exact lv_sipush hx hb d hv (h0 L (.int v :: st) S ls H locs h1 h2 h3 h4 hk)
theorem ok_lconst {n : Fin 2} {v : Int64} (d : decode cc pc = .ok (.lconst n, 1)) (hv : Int64.ofNat (n : Nat) = v) (h : sp_Ok cc nL own ret rf rl w Q P (pc + 1) k) : sp_Ok cc nL own ret rf rl w Q P pc (o_push (.long v) k) := by
  intro p l e R s m args below meth c D g ad X hP L st S ls H locs h1 h2 h3 h4 hk
  have h0 := h p l e R s m args below meth c D g ad X hP
  obtain ⟨⟨hx, hb, hml, hown⟩, hts, hK, hRO, hlk, hr, hf1, hf2⟩ := X
  exact lv_lconst hx hb d hv (h0 L (.long v :: st) S ls H locs h1 h2 h3 h4 hk)
theorem ok_ldc {index : Nat} {v : Int32} (q : Cond.constant own index v ∈ sp_tbl) (d : decode cc pc = .ok (.ldc index, 2)) (h : sp_Ok cc nL own ret rf rl w Q P (pc + 2) k) : sp_Ok cc nL own ret rf rl w Q P pc (o_push (.int v) k) := by
  intro p l e R s m args below meth c D g ad X hP L st S ls H locs h1 h2 h3 h4 hk
  have h0 := h p l e R s m args below meth c D g ad X hP
  obtain ⟨⟨hx, hb, hml, hown⟩, hts, hK, hRO, hlk, hr, hf1, hf2⟩ := X
  exact lv_ldc hx hb hown (hts _ q) d (h0 L (.int v :: st) S ls H locs h1 h2 h3 h4 hk)
theorem ok_ldc2 {index : Nat} {v : Int64} (q : Cond.constantLong own index v ∈ sp_tbl) (d : decode cc pc = .ok (.ldc2_w index, 3)) (h : sp_Ok cc nL own ret rf rl w Q P (pc + 3) k) : sp_Ok cc nL own ret rf rl w Q P pc (o_push (.long v) k) := by
  intro p l e R s m args below meth c D g ad X hP L st S ls H locs h1 h2 h3 h4 hk
  have h0 := h p l e R s m args below meth c D g ad X hP
  obtain ⟨⟨hx, hb, hml, hown⟩, hts, hK, hRO, hlk, hr, hf1, hf2⟩ := X
  exact lv_ldc2 hx hb hown (hts _ q) d (h0 L (.long v :: st) S ls H locs h1 h2 h3 h4 hk)
theorem ok_iload {i : Nat} (d : decode cc pc = .ok (.iload i, 2)) (h : sp_Ok cc nL own ret rf rl w Q P (pc + 2) k) : sp_Ok cc nL own ret rf rl w Q P pc (o_iload i k) := by
  intro p l e R s m args below meth c D g ad X hP L st S ls H locs h1 h2 h3 h4 hk
  have h0 := h p l e R s m args below meth c D g ad X hP
  obtain ⟨⟨hx, hb, hml, hown⟩, hts, hK, hRO, hlk, hr, hf1, hf2⟩ := X
  unfold o_iload at hk
  split at hk
  · rename_i x hx2
    exact lv_iload hx hb d (h1.2.2 i _ hx2) (h0 L (.int x :: st) S ls H locs h1 h2 h3 h4 hk)
  · exact hk.elim
theorem ok_iload_n {i : Nat} {j : Fin 4} (d : decode cc pc = .ok (.iload_n j, 1)) (hj : (j : Nat) = i) (h : sp_Ok cc nL own ret rf rl w Q P (pc + 1) k) : sp_Ok cc nL own ret rf rl w Q P pc (o_iload i k) := by
  intro p l e R s m args below meth c D g ad X hP L st S ls H locs h1 h2 h3 h4 hk
  have h0 := h p l e R s m args below meth c D g ad X hP
  obtain ⟨⟨hx, hb, hml, hown⟩, hts, hK, hRO, hlk, hr, hf1, hf2⟩ := X
  unfold o_iload at hk
  split at hk
  · rename_i x hx2
    exact lv_iload_n hx hb d hj (h1.2.2 i _ hx2) (h0 L (.int x :: st) S ls H locs h1 h2 h3 h4 hk)
  · exact hk.elim
theorem ok_lload {i : Nat} (d : decode cc pc = .ok (.lload i, 2)) (h : sp_Ok cc nL own ret rf rl w Q P (pc + 2) k) : sp_Ok cc nL own ret rf rl w Q P pc (o_lload i k) := by
  intro p l e R s m args below meth c D g ad X hP L st S ls H locs h1 h2 h3 h4 hk
  have h0 := h p l e R s m args below meth c D g ad X hP
  obtain ⟨⟨hx, hb, hml, hown⟩, hts, hK, hRO, hlk, hr, hf1, hf2⟩ := X
  unfold o_lload at hk
  split at hk
  · rename_i x hx2
    exact lv_lload hx hb d (h1.2.2 i _ hx2) (h0 L (.long x :: st) S ls H locs h1 h2 h3 h4 hk)
  · exact hk.elim
theorem ok_lload_n {i : Nat} {j : Fin 4} (d : decode cc pc = .ok (.lload_n j, 1)) (hj : (j : Nat) = i) (h : sp_Ok cc nL own ret rf rl w Q P (pc + 1) k) : sp_Ok cc nL own ret rf rl w Q P pc (o_lload i k) := by
  intro p l e R s m args below meth c D g ad X hP L st S ls H locs h1 h2 h3 h4 hk
  have h0 := h p l e R s m args below meth c D g ad X hP
  obtain ⟨⟨hx, hb, hml, hown⟩, hts, hK, hRO, hlk, hr, hf1, hf2⟩ := X
  unfold o_lload at hk
  split at hk
  · rename_i x hx2
    exact lv_lload_n hx hb d hj (h1.2.2 i _ hx2) (h0 L (.long x :: st) S ls H locs h1 h2 h3 h4 hk)
  · exact hk.elim
theorem ok_aload {i : Nat} (d : decode cc pc = .ok (.aload i, 2)) (h : sp_Ok cc nL own ret rf rl w Q P (pc + 2) k) : sp_Ok cc nL own ret rf rl w Q P pc (o_aload i k) := by
  intro p l e R s m args below meth c D g ad X hP L st S ls H locs h1 h2 h3 h4 hk
  have h0 := h p l e R s m args below meth c D g ad X hP
  obtain ⟨⟨hx, hb, hml, hown⟩, hts, hK, hRO, hlk, hr, hf1, hf2⟩ := X
  unfold o_aload at hk
  split at hk
  · rename_i x hx2
    exact lv_aload hx hb d (h1.2.2 i _ hx2) (h0 L (.ref x :: st) S ls H locs h1 h2 h3 h4 hk)
  · exact hk.elim
theorem ok_aload_n {i : Nat} {j : Fin 4} (d : decode cc pc = .ok (.aload_n j, 1)) (hj : (j : Nat) = i) (h : sp_Ok cc nL own ret rf rl w Q P (pc + 1) k) : sp_Ok cc nL own ret rf rl w Q P pc (o_aload i k) := by
  intro p l e R s m args below meth c D g ad X hP L st S ls H locs h1 h2 h3 h4 hk
  have h0 := h p l e R s m args below meth c D g ad X hP
  obtain ⟨⟨hx, hb, hml, hown⟩, hts, hK, hRO, hlk, hr, hf1, hf2⟩ := X
  unfold o_aload at hk
  split at hk
  · rename_i x hx2
    exact lv_aload_n hx hb d hj (h1.2.2 i _ hx2) (h0 L (.ref x :: st) S ls H locs h1 h2 h3 h4 hk)
  · exact hk.elim
theorem ok_istore {i : Nat} (d : decode cc pc = .ok (.istore i, 2)) (hi : i < nL) (h : sp_Ok cc nL own ret rf rl w Q P (pc + 2) k) : sp_Ok cc nL own ret rf rl w Q P pc (o_istore i k) := by
  intro p l e R s m args below meth c D g ad X hP L st S ls H locs h1 h2 h3 h4 hk
  have h0 := h p l e R s m args below meth c D g ad X hP
  obtain ⟨⟨hx, hb, hml, hown⟩, hts, hK, hRO, hlk, hr, hf1, hf2⟩ := X
  match st, hk with
  | .int x :: r, hk => exact lv_istore hx hb d h1.has hi rfl (fun ls' hl' => h0 _ r S ls' H locs (sp_lr.st1 (v := .int x) hl') h2 h3 h4 hk)
theorem ok_istore_n {i : Nat} {j : Fin 4} (d : decode cc pc = .ok (.istore_n j, 1)) (hj : (j : Nat) = i) (hi : i < nL) (h : sp_Ok cc nL own ret rf rl w Q P (pc + 1) k) : sp_Ok cc nL own ret rf rl w Q P pc (o_istore i k) := by
  intro p l e R s m args below meth c D g ad X hP L st S ls H locs h1 h2 h3 h4 hk
  have h0 := h p l e R s m args below meth c D g ad X hP
  obtain ⟨⟨hx, hb, hml, hown⟩, hts, hK, hRO, hlk, hr, hf1, hf2⟩ := X
  match st, hk with
  | .int x :: r, hk => exact lv_istore_n hx hb d hj h1.has hi rfl (fun ls' hl' => h0 _ r S ls' H locs (sp_lr.st1 (v := .int x) hl') h2 h3 h4 hk)
theorem ok_lstore {i : Nat} (d : decode cc pc = .ok (.lstore i, 2)) (hi : i + 1 < nL) (h : sp_Ok cc nL own ret rf rl w Q P (pc + 2) k) : sp_Ok cc nL own ret rf rl w Q P pc (o_lstore i k) := by
  intro p l e R s m args below meth c D g ad X hP L st S ls H locs h1 h2 h3 h4 hk
  have h0 := h p l e R s m args below meth c D g ad X hP
  obtain ⟨⟨hx, hb, hml, hown⟩, hts, hK, hRO, hlk, hr, hf1, hf2⟩ := X
  match st, hk with
  | .long x :: r, hk => exact lv_lstore hx hb d h1.has hi rfl (fun ls' hl' => h0 _ r S ls' H locs (sp_lr.st2 (v := .long x) hl') h2 h3 h4 hk)
theorem ok_lstore_n {i : Nat} {j : Fin 4} (d : decode cc pc = .ok (.lstore_n j, 1)) (hj : (j : Nat) = i) (hi : i + 1 < nL) (h : sp_Ok cc nL own ret rf rl w Q P (pc + 1) k) : sp_Ok cc nL own ret rf rl w Q P pc (o_lstore i k) := by
  intro p l e R s m args below meth c D g ad X hP L st S ls H locs h1 h2 h3 h4 hk
  have h0 := h p l e R s m args below meth c D g ad X hP
  obtain ⟨⟨hx, hb, hml, hown⟩, hts, hK, hRO, hlk, hr, hf1, hf2⟩ := X
  match st, hk with
  | .long x :: r, hk => exact lv_lstore_n hx hb d hj h1.has hi rfl (fun ls' hl' => h0 _ r S ls' H locs (sp_lr.st2 (v := .long x) hl') h2 h3 h4 hk)
theorem ok_iinc {i : Nat} {n : Int} {v : Int32} (d : decode cc pc = .ok (.iinc i n, 3)) (hv : Int32.ofInt n = v) (hi : i < nL) (h : sp_Ok cc nL own ret rf rl w Q P (pc + 3) k) : sp_Ok cc nL own ret rf rl w Q P pc (o_iinc i v k) := by
  intro p l e R s m args below meth c D g ad X hP L st S ls H locs h1 h2 h3 h4 hk
  have h0 := h p l e R s m args below meth c D g ad X hP
  obtain ⟨⟨hx, hb, hml, hown⟩, hts, hK, hRO, hlk, hr, hf1, hf2⟩ := X
  unfold o_iinc at hk
  split at hk
  · rename_i x hx2
    obtain ⟨j, hj⟩ := List.getElem?_of_mem (sp_lv_mem (ad := ad) hx2)
    exact lv_iinc (v := x + v) hx hb d h1.has hj (by rw [hv]) hi rfl (fun ls' hl' => h0 _ st S ls' H locs (sp_lr.st1 (v := .int (x + v)) hl') h2 h3 h4 hk)
  · exact hk.elim
theorem ok_goto {off : Int} {tgt : Nat} (d : decode cc pc = .ok (.goto off, 3)) (ht : (pc : Int) + off = (tgt : Int)) (h : sp_Ok cc nL own ret rf rl w Q P tgt k) : sp_Ok cc nL own ret rf rl w Q P pc k := by
  intro p l e R s m args below meth c D g ad X hP L st S ls H locs h1 h2 h3 h4 hk
  have h0 := h p l e R s m args below meth c D g ad X hP
  obtain ⟨⟨hx, hb, hml, hown⟩, hts, hK, hRO, hlk, hr, hf1, hf2⟩ := X
  exact lv_goto hx hb d ht (h0 L st S ls H locs h1 h2 h3 h4 hk)
theorem ok_dup (d : decode cc pc = .ok (.dup, 1)) (h : sp_Ok cc nL own ret rf rl w Q P (pc + 1) k) : sp_Ok cc nL own ret rf rl w Q P pc (o_dup k) := by
  intro p l e R s m args below meth c D g ad X hP L st S ls H locs h1 h2 h3 h4 hk
  have h0 := h p l e R s m args below meth c D g ad X hP
  obtain ⟨⟨hx, hb, hml, hown⟩, hts, hK, hRO, hlk, hr, hf1, hf2⟩ := X
  match st, hk with
  | v :: r, hk => exact lv_dup hx hb d (by cases v <;> first | rfl | cases hk.1) (h0 L (v :: v :: r) S ls H locs h1 h2 h3 h4 hk.2)
theorem ok_dup2 (d : decode cc pc = .ok (.dup2, 1)) (h : sp_Ok cc nL own ret rf rl w Q P (pc + 1) k) : sp_Ok cc nL own ret rf rl w Q P pc (o_dup2 k) := by
  intro p l e R s m args below meth c D g ad X hP L st S ls H locs h1 h2 h3 h4 hk
  have h0 := h p l e R s m args below meth c D g ad X hP
  obtain ⟨⟨hx, hb, hml, hown⟩, hts, hK, hRO, hlk, hr, hf1, hf2⟩ := X
  match st, hk with
  | u :: v :: r, hk =>
    have hq := Bool.and_eq_true_iff.mp hk.1
    exact lv_dup2_11 hx hb d (by cases u <;> first | rfl | cases hq.1) (by cases v <;> first | rfl | cases hq.2) (h0 L (u :: v :: u :: v :: r) S ls H locs h1 h2 h3 h4 hk.2)
theorem ok_iadd (d : decode cc pc = .ok (.iadd, 1)) (h : sp_Ok cc nL own ret rf rl w Q P (pc + 1) k) : sp_Ok cc nL own ret rf rl w Q P pc (o_ib (fun x y => x + y) k) := by
  intro p l e R s m args below meth c D g ad X hP L st S ls H locs h1 h2 h3 h4 hk
  have h0 := h p l e R s m args below meth c D g ad X hP
  obtain ⟨⟨hx, hb, hml, hown⟩, hts, hK, hRO, hlk, hr, hf1, hf2⟩ := X
  match st, hk with
  | .int y :: .int x :: r, hk => exact lv_iadd hx hb d (h0 L _ S ls H locs h1 h2 h3 h4 hk)
theorem ok_isub (d : decode cc pc = .ok (.isub, 1)) (h : sp_Ok cc nL own ret rf rl w Q P (pc + 1) k) : sp_Ok cc nL own ret rf rl w Q P pc (o_ib (fun x y => x - y) k) := by
  intro p l e R s m args below meth c D g ad X hP L st S ls H locs h1 h2 h3 h4 hk
  have h0 := h p l e R s m args below meth c D g ad X hP
  obtain ⟨⟨hx, hb, hml, hown⟩, hts, hK, hRO, hlk, hr, hf1, hf2⟩ := X
  match st, hk with
  | .int y :: .int x :: r, hk => exact lv_isub hx hb d (h0 L _ S ls H locs h1 h2 h3 h4 hk)
theorem ok_imul (d : decode cc pc = .ok (.imul, 1)) (h : sp_Ok cc nL own ret rf rl w Q P (pc + 1) k) : sp_Ok cc nL own ret rf rl w Q P pc (o_ib (fun x y => x * y) k) := by
  intro p l e R s m args below meth c D g ad X hP L st S ls H locs h1 h2 h3 h4 hk
  have h0 := h p l e R s m args below meth c D g ad X hP
  obtain ⟨⟨hx, hb, hml, hown⟩, hts, hK, hRO, hlk, hr, hf1, hf2⟩ := X
  match st, hk with
  | .int y :: .int x :: r, hk => exact lv_imul hx hb d (h0 L _ S ls H locs h1 h2 h3 h4 hk)
theorem ok_iand (d : decode cc pc = .ok (.iand, 1)) (h : sp_Ok cc nL own ret rf rl w Q P (pc + 1) k) : sp_Ok cc nL own ret rf rl w Q P pc (o_ib (fun x y => x &&& y) k) := by
  intro p l e R s m args below meth c D g ad X hP L st S ls H locs h1 h2 h3 h4 hk
  have h0 := h p l e R s m args below meth c D g ad X hP
  obtain ⟨⟨hx, hb, hml, hown⟩, hts, hK, hRO, hlk, hr, hf1, hf2⟩ := X
  match st, hk with
  | .int y :: .int x :: r, hk => exact lv_iand hx hb d (h0 L _ S ls H locs h1 h2 h3 h4 hk)
theorem ok_idiv (d : decode cc pc = .ok (.idiv, 1)) (h : sp_Ok cc nL own ret rf rl w Q P (pc + 1) k) : sp_Ok cc nL own ret rf rl w Q P pc (o_id (fun x y => x / y) k) := by
  intro p l e R s m args below meth c D g ad X hP L st S ls H locs h1 h2 h3 h4 hk
  have h0 := h p l e R s m args below meth c D g ad X hP
  obtain ⟨⟨hx, hb, hml, hown⟩, hts, hK, hRO, hlk, hr, hf1, hf2⟩ := X
  match st, hk with
  | .int y :: .int x :: r, hk => exact lv_idiv hx hb d hk.1 (h0 L _ S ls H locs h1 h2 h3 h4 hk.2)
theorem ok_irem (d : decode cc pc = .ok (.irem, 1)) (h : sp_Ok cc nL own ret rf rl w Q P (pc + 1) k) : sp_Ok cc nL own ret rf rl w Q P pc (o_id (fun x y => x - x / y * y) k) := by
  intro p l e R s m args below meth c D g ad X hP L st S ls H locs h1 h2 h3 h4 hk
  have h0 := h p l e R s m args below meth c D g ad X hP
  obtain ⟨⟨hx, hb, hml, hown⟩, hts, hK, hRO, hlk, hr, hf1, hf2⟩ := X
  match st, hk with
  | .int y :: .int x :: r, hk => exact lv_irem hx hb d hk.1 (h0 L _ S ls H locs h1 h2 h3 h4 hk.2)
theorem ok_ladd (d : decode cc pc = .ok (.ladd, 1)) (h : sp_Ok cc nL own ret rf rl w Q P (pc + 1) k) : sp_Ok cc nL own ret rf rl w Q P pc (o_lb (fun x y => x + y) k) := by
  intro p l e R s m args below meth c D g ad X hP L st S ls H locs h1 h2 h3 h4 hk
  have h0 := h p l e R s m args below meth c D g ad X hP
  obtain ⟨⟨hx, hb, hml, hown⟩, hts, hK, hRO, hlk, hr, hf1, hf2⟩ := X
  match st, hk with
  | .long y :: .long x :: r, hk => exact lv_ladd hx hb d (h0 L _ S ls H locs h1 h2 h3 h4 hk)
theorem ok_lmul (d : decode cc pc = .ok (.lmul, 1)) (h : sp_Ok cc nL own ret rf rl w Q P (pc + 1) k) : sp_Ok cc nL own ret rf rl w Q P pc (o_lb (fun x y => x * y) k) := by
  intro p l e R s m args below meth c D g ad X hP L st S ls H locs h1 h2 h3 h4 hk
  have h0 := h p l e R s m args below meth c D g ad X hP
  obtain ⟨⟨hx, hb, hml, hown⟩, hts, hK, hRO, hlk, hr, hf1, hf2⟩ := X
  match st, hk with
  | .long y :: .long x :: r, hk => exact lv_lmul hx hb d (h0 L _ S ls H locs h1 h2 h3 h4 hk)
theorem ok_ldiv (d : decode cc pc = .ok (.ldiv, 1)) (h : sp_Ok cc nL own ret rf rl w Q P (pc + 1) k) : sp_Ok cc nL own ret rf rl w Q P pc (o_ld (fun x y => x / y) k) := by
  intro p l e R s m args below meth c D g ad X hP L st S ls H locs h1 h2 h3 h4 hk
  have h0 := h p l e R s m args below meth c D g ad X hP
  obtain ⟨⟨hx, hb, hml, hown⟩, hts, hK, hRO, hlk, hr, hf1, hf2⟩ := X
  match st, hk with
  | .long y :: .long x :: r, hk => exact lv_ldiv hx hb d hk.1 (h0 L _ S ls H locs h1 h2 h3 h4 hk.2)
theorem ok_lrem (d : decode cc pc = .ok (.lrem, 1)) (h : sp_Ok cc nL own ret rf rl w Q P (pc + 1) k) : sp_Ok cc nL own ret rf rl w Q P pc (o_ld (fun x y => x - x / y * y) k) := by
  intro p l e R s m args below meth c D g ad X hP L st S ls H locs h1 h2 h3 h4 hk
  have h0 := h p l e R s m args below meth c D g ad X hP
  obtain ⟨⟨hx, hb, hml, hown⟩, hts, hK, hRO, hlk, hr, hf1, hf2⟩ := X
  match st, hk with
  | .long y :: .long x :: r, hk => exact lv_lrem hx hb d hk.1 (h0 L _ S ls H locs h1 h2 h3 h4 hk.2)
theorem ok_lcmp (d : decode cc pc = .ok (.lcmp, 1)) (h : sp_Ok cc nL own ret rf rl w Q P (pc + 1) k) : sp_Ok cc nL own ret rf rl w Q P pc (o_lcmp k) := by
  intro p l e R s m args below meth c D g ad X hP L st S ls H locs h1 h2 h3 h4 hk
  have h0 := h p l e R s m args below meth c D g ad X hP
  obtain ⟨⟨hx, hb, hml, hown⟩, hts, hK, hRO, hlk, hr, hf1, hf2⟩ := X
  match st, hk with
  | .long y :: .long x :: r, hk => exact W.lcmp hx hb d (h0 L _ S ls H locs h1 h2 h3 h4 hk)
theorem ok_ineg (d : decode cc pc = .ok (.ineg, 1)) (h : sp_Ok cc nL own ret rf rl w Q P (pc + 1) k) : sp_Ok cc nL own ret rf rl w Q P pc (o_ineg k) := by
  intro p l e R s m args below meth c D g ad X hP L st S ls H locs h1 h2 h3 h4 hk
  have h0 := h p l e R s m args below meth c D g ad X hP
  obtain ⟨⟨hx, hb, hml, hown⟩, hts, hK, hRO, hlk, hr, hf1, hf2⟩ := X
  match st, hk with
  | .int x :: r, hk => exact lv_ineg hx hb d (h0 L _ S ls H locs h1 h2 h3 h4 hk)
theorem ok_i2l (d : decode cc pc = .ok (.i2l, 1)) (h : sp_Ok cc nL own ret rf rl w Q P (pc + 1) k) : sp_Ok cc nL own ret rf rl w Q P pc (o_i2l k) := by
  intro p l e R s m args below meth c D g ad X hP L st S ls H locs h1 h2 h3 h4 hk
  have h0 := h p l e R s m args below meth c D g ad X hP
  obtain ⟨⟨hx, hb, hml, hown⟩, hts, hK, hRO, hlk, hr, hf1, hf2⟩ := X
  match st, hk with
  | .int x :: r, hk => exact lv_i2l hx hb d rfl (h0 L (.long x.toInt64 :: r) S ls H locs h1 h2 h3 h4 hk)
theorem ok_if_eq {off : Int} {tgt : Nat} (d : decode cc pc = .ok (.ifCond .eq off, 3)) (ht : (pc : Int) + off = (tgt : Int)) (hkt : sp_Ok cc nL own ret rf rl w Q P tgt kt) (hkf : sp_Ok cc nL own ret rf rl w Q P (pc + 3) kf) : sp_Ok cc nL own ret rf rl w Q P pc (o_if (fun x => x = 0) kt kf) := by
  intro p l e R s m args below meth c D g ad X hP L st S ls H locs h1 h2 h3 h4 hk
  have ha := hkt p l e R s m args below meth c D g ad X hP
  have hz := hkf p l e R s m args below meth c D g ad X hP
  obtain ⟨⟨hx, hb, hml, hown⟩, hts, hK, hRO, hlk, hr, hf1, hf2⟩ := X
  match st, hk with
  | .int x :: r, hk => exact lv_if_eq hx hb d ht (fun z => ha L r S ls H locs h1 h2 h3 h4 (hk.1 z)) (fun z => hz L r S ls H locs h1 h2 h3 h4 (hk.2 z))
theorem ok_ic_eq {off : Int} {tgt : Nat} (d : decode cc pc = .ok (.if_icmp .eq off, 3)) (ht : (pc : Int) + off = (tgt : Int)) (hkt : sp_Ok cc nL own ret rf rl w Q P tgt kt) (hkf : sp_Ok cc nL own ret rf rl w Q P (pc + 3) kf) : sp_Ok cc nL own ret rf rl w Q P pc (o_ic (fun x y => x = y) kt kf) := by
  intro p l e R s m args below meth c D g ad X hP L st S ls H locs h1 h2 h3 h4 hk
  have ha := hkt p l e R s m args below meth c D g ad X hP
  have hz := hkf p l e R s m args below meth c D g ad X hP
  obtain ⟨⟨hx, hb, hml, hown⟩, hts, hK, hRO, hlk, hr, hf1, hf2⟩ := X
  match st, hk with
  | .int y :: .int x :: r, hk => exact lv_icmp_eq hx hb d ht (fun z => ha L r S ls H locs h1 h2 h3 h4 (hk.1 z)) (fun z => hz L r S ls H locs h1 h2 h3 h4 (hk.2 z))
theorem ok_if_ne {off : Int} {tgt : Nat} (d : decode cc pc = .ok (.ifCond .ne off, 3)) (ht : (pc : Int) + off = (tgt : Int)) (hkt : sp_Ok cc nL own ret rf rl w Q P tgt kt) (hkf : sp_Ok cc nL own ret rf rl w Q P (pc + 3) kf) : sp_Ok cc nL own ret rf rl w Q P pc (o_if (fun x => ¬ x = 0) kt kf) := by
  intro p l e R s m args below meth c D g ad X hP L st S ls H locs h1 h2 h3 h4 hk
  have ha := hkt p l e R s m args below meth c D g ad X hP
  have hz := hkf p l e R s m args below meth c D g ad X hP
  obtain ⟨⟨hx, hb, hml, hown⟩, hts, hK, hRO, hlk, hr, hf1, hf2⟩ := X
  match st, hk with
  | .int x :: r, hk => exact lv_if_ne hx hb d ht (fun z => ha L r S ls H locs h1 h2 h3 h4 (hk.1 z)) (fun z => hz L r S ls H locs h1 h2 h3 h4 (hk.2 (fun q => q z)))
theorem ok_ic_ne {off : Int} {tgt : Nat} (d : decode cc pc = .ok (.if_icmp .ne off, 3)) (ht : (pc : Int) + off = (tgt : Int)) (hkt : sp_Ok cc nL own ret rf rl w Q P tgt kt) (hkf : sp_Ok cc nL own ret rf rl w Q P (pc + 3) kf) : sp_Ok cc nL own ret rf rl w Q P pc (o_ic (fun x y => ¬ x = y) kt kf) := by
  intro p l e R s m args below meth c D g ad X hP L st S ls H locs h1 h2 h3 h4 hk
  have ha := hkt p l e R s m args below meth c D g ad X hP
  have hz := hkf p l e R s m args below meth c D g ad X hP
  obtain ⟨⟨hx, hb, hml, hown⟩, hts, hK, hRO, hlk, hr, hf1, hf2⟩ := X
  match st, hk with
  | .int y :: .int x :: r, hk => exact lv_icmp_ne hx hb d ht (fun z => ha L r S ls H locs h1 h2 h3 h4 (hk.1 z)) (fun z => hz L r S ls H locs h1 h2 h3 h4 (hk.2 (fun q => q z)))
theorem ok_if_lt {off : Int} {tgt : Nat} (d : decode cc pc = .ok (.ifCond .lt off, 3)) (ht : (pc : Int) + off = (tgt : Int)) (hkt : sp_Ok cc nL own ret rf rl w Q P tgt kt) (hkf : sp_Ok cc nL own ret rf rl w Q P (pc + 3) kf) : sp_Ok cc nL own ret rf rl w Q P pc (o_if (fun x => x < 0) kt kf) := by
  intro p l e R s m args below meth c D g ad X hP L st S ls H locs h1 h2 h3 h4 hk
  have ha := hkt p l e R s m args below meth c D g ad X hP
  have hz := hkf p l e R s m args below meth c D g ad X hP
  obtain ⟨⟨hx, hb, hml, hown⟩, hts, hK, hRO, hlk, hr, hf1, hf2⟩ := X
  match st, hk with
  | .int x :: r, hk => exact lv_if_lt hx hb d ht (fun z => ha L r S ls H locs h1 h2 h3 h4 (hk.1 z)) (fun z => hz L r S ls H locs h1 h2 h3 h4 (hk.2 z))
theorem ok_ic_lt {off : Int} {tgt : Nat} (d : decode cc pc = .ok (.if_icmp .lt off, 3)) (ht : (pc : Int) + off = (tgt : Int)) (hkt : sp_Ok cc nL own ret rf rl w Q P tgt kt) (hkf : sp_Ok cc nL own ret rf rl w Q P (pc + 3) kf) : sp_Ok cc nL own ret rf rl w Q P pc (o_ic (fun x y => x < y) kt kf) := by
  intro p l e R s m args below meth c D g ad X hP L st S ls H locs h1 h2 h3 h4 hk
  have ha := hkt p l e R s m args below meth c D g ad X hP
  have hz := hkf p l e R s m args below meth c D g ad X hP
  obtain ⟨⟨hx, hb, hml, hown⟩, hts, hK, hRO, hlk, hr, hf1, hf2⟩ := X
  match st, hk with
  | .int y :: .int x :: r, hk => exact lv_icmp_lt hx hb d ht (fun z => ha L r S ls H locs h1 h2 h3 h4 (hk.1 z)) (fun z => hz L r S ls H locs h1 h2 h3 h4 (hk.2 z))
theorem ok_if_ge {off : Int} {tgt : Nat} (d : decode cc pc = .ok (.ifCond .ge off, 3)) (ht : (pc : Int) + off = (tgt : Int)) (hkt : sp_Ok cc nL own ret rf rl w Q P tgt kt) (hkf : sp_Ok cc nL own ret rf rl w Q P (pc + 3) kf) : sp_Ok cc nL own ret rf rl w Q P pc (o_if (fun x => 0 ≤ x) kt kf) := by
  intro p l e R s m args below meth c D g ad X hP L st S ls H locs h1 h2 h3 h4 hk
  have ha := hkt p l e R s m args below meth c D g ad X hP
  have hz := hkf p l e R s m args below meth c D g ad X hP
  obtain ⟨⟨hx, hb, hml, hown⟩, hts, hK, hRO, hlk, hr, hf1, hf2⟩ := X
  match st, hk with
  | .int x :: r, hk => exact lv_if_ge hx hb d ht (fun z => ha L r S ls H locs h1 h2 h3 h4 (hk.1 z)) (fun z => hz L r S ls H locs h1 h2 h3 h4 (hk.2 z))
theorem ok_ic_ge {off : Int} {tgt : Nat} (d : decode cc pc = .ok (.if_icmp .ge off, 3)) (ht : (pc : Int) + off = (tgt : Int)) (hkt : sp_Ok cc nL own ret rf rl w Q P tgt kt) (hkf : sp_Ok cc nL own ret rf rl w Q P (pc + 3) kf) : sp_Ok cc nL own ret rf rl w Q P pc (o_ic (fun x y => y ≤ x) kt kf) := by
  intro p l e R s m args below meth c D g ad X hP L st S ls H locs h1 h2 h3 h4 hk
  have ha := hkt p l e R s m args below meth c D g ad X hP
  have hz := hkf p l e R s m args below meth c D g ad X hP
  obtain ⟨⟨hx, hb, hml, hown⟩, hts, hK, hRO, hlk, hr, hf1, hf2⟩ := X
  match st, hk with
  | .int y :: .int x :: r, hk => exact lv_icmp_ge hx hb d ht (fun z => ha L r S ls H locs h1 h2 h3 h4 (hk.1 z)) (fun z => hz L r S ls H locs h1 h2 h3 h4 (hk.2 z))
theorem ok_if_gt {off : Int} {tgt : Nat} (d : decode cc pc = .ok (.ifCond .gt off, 3)) (ht : (pc : Int) + off = (tgt : Int)) (hkt : sp_Ok cc nL own ret rf rl w Q P tgt kt) (hkf : sp_Ok cc nL own ret rf rl w Q P (pc + 3) kf) : sp_Ok cc nL own ret rf rl w Q P pc (o_if (fun x => 0 < x) kt kf) := by
  intro p l e R s m args below meth c D g ad X hP L st S ls H locs h1 h2 h3 h4 hk
  have ha := hkt p l e R s m args below meth c D g ad X hP
  have hz := hkf p l e R s m args below meth c D g ad X hP
  obtain ⟨⟨hx, hb, hml, hown⟩, hts, hK, hRO, hlk, hr, hf1, hf2⟩ := X
  match st, hk with
  | .int x :: r, hk => exact lv_if_gt hx hb d ht (fun z => ha L r S ls H locs h1 h2 h3 h4 (hk.1 z)) (fun z => hz L r S ls H locs h1 h2 h3 h4 (hk.2 z))
theorem ok_ic_gt {off : Int} {tgt : Nat} (d : decode cc pc = .ok (.if_icmp .gt off, 3)) (ht : (pc : Int) + off = (tgt : Int)) (hkt : sp_Ok cc nL own ret rf rl w Q P tgt kt) (hkf : sp_Ok cc nL own ret rf rl w Q P (pc + 3) kf) : sp_Ok cc nL own ret rf rl w Q P pc (o_ic (fun x y => y < x) kt kf) := by
  intro p l e R s m args below meth c D g ad X hP L st S ls H locs h1 h2 h3 h4 hk
  have ha := hkt p l e R s m args below meth c D g ad X hP
  have hz := hkf p l e R s m args below meth c D g ad X hP
  obtain ⟨⟨hx, hb, hml, hown⟩, hts, hK, hRO, hlk, hr, hf1, hf2⟩ := X
  match st, hk with
  | .int y :: .int x :: r, hk => exact lv_icmp_gt hx hb d ht (fun z => ha L r S ls H locs h1 h2 h3 h4 (hk.1 z)) (fun z => hz L r S ls H locs h1 h2 h3 h4 (hk.2 z))
theorem ok_if_le {off : Int} {tgt : Nat} (d : decode cc pc = .ok (.ifCond .le off, 3)) (ht : (pc : Int) + off = (tgt : Int)) (hkt : sp_Ok cc nL own ret rf rl w Q P tgt kt) (hkf : sp_Ok cc nL own ret rf rl w Q P (pc + 3) kf) : sp_Ok cc nL own ret rf rl w Q P pc (o_if (fun x => x ≤ 0) kt kf) := by
  intro p l e R s m args below meth c D g ad X hP L st S ls H locs h1 h2 h3 h4 hk
  have ha := hkt p l e R s m args below meth c D g ad X hP
  have hz := hkf p l e R s m args below meth c D g ad X hP
  obtain ⟨⟨hx, hb, hml, hown⟩, hts, hK, hRO, hlk, hr, hf1, hf2⟩ := X
  match st, hk with
  | .int x :: r, hk => exact lv_if_le hx hb d ht (fun z => ha L r S ls H locs h1 h2 h3 h4 (hk.1 z)) (fun z => hz L r S ls H locs h1 h2 h3 h4 (hk.2 z))
theorem ok_ic_le {off : Int} {tgt : Nat} (d : decode cc pc = .ok (.if_icmp .le off, 3)) (ht : (pc : Int) + off = (tgt : Int)) (hkt : sp_Ok cc nL own ret rf rl w Q P tgt kt) (hkf : sp_Ok cc nL own ret rf rl w Q P (pc + 3) kf) : sp_Ok cc nL own ret rf rl w Q P pc (o_ic (fun x y => x ≤ y) kt kf) := by
  intro p l e R s m args below meth c D g ad X hP L st S ls H locs h1 h2 h3 h4 hk
  have ha := hkt p l e R s m args below meth c D g ad X hP
  have hz := hkf p l e R s m args below meth c D g ad X hP
  obtain ⟨⟨hx, hb, hml, hown⟩, hts, hK, hRO, hlk, hr, hf1, hf2⟩ := X
  match st, hk with
  | .int y :: .int x :: r, hk => exact lv_icmp_le hx hb d ht (fun z => ha L r S ls H locs h1 h2 h3 h4 (hk.1 z)) (fun z => hz L r S ls H locs h1 h2 h3 h4 (hk.2 z))
end SPO
