/-! the public methods answer with numbers -/
def sp_le (k k' : sp_K) : Prop := ∀ L st S, k L st S → k' L st S
theorem mo_rf {k : sp_K} : sp_le k k := fun _ _ _ h => h
section MO
variable {w : sp_W} {k k' kt kt' kf kf' kd kd' : sp_K}
theorem mo_push {v : Value} (h : sp_le k k') : sp_le (o_push v k) (o_push v k') := fun L st S q => h _ _ _ q
theorem mo_gets {i : Nat} (h : sp_le k k') : sp_le (o_gets i k) (o_gets i k') := fun L st S q => h _ _ _ q
theorem mo_iload {i : Nat} (h : sp_le k k') : sp_le (o_iload i k) (o_iload i k') := fun L st S q => by
  unfold o_iload at q ⊢
  split at q
  · first | exact h _ _ _ q | exact ⟨q.1, h _ _ _ q.2⟩
  · exact q.elim
theorem mo_lload {i : Nat} (h : sp_le k k') : sp_le (o_lload i k) (o_lload i k') := fun L st S q => by
  unfold o_lload at q ⊢
  split at q
  · first | exact h _ _ _ q | exact ⟨q.1, h _ _ _ q.2⟩
  · exact q.elim
theorem mo_aload {i : Nat} (h : sp_le k k') : sp_le (o_aload i k) (o_aload i k') := fun L st S q => by
  unfold o_aload at q ⊢
  split at q
  · first | exact h _ _ _ q | exact ⟨q.1, h _ _ _ q.2⟩
  · exact q.elim
theorem mo_istore {i : Nat} (h : sp_le k k') : sp_le (o_istore i k) (o_istore i k') := fun L st S q => by
  unfold o_istore at q ⊢
  split at q
  · first | exact h _ _ _ q | exact ⟨q.1, h _ _ _ q.2⟩
  · exact q.elim
theorem mo_lstore {i : Nat} (h : sp_le k k') : sp_le (o_lstore i k) (o_lstore i k') := fun L st S q => by
  unfold o_lstore at q ⊢
  split at q
  · first | exact h _ _ _ q | exact ⟨q.1, h _ _ _ q.2⟩
  · exact q.elim
theorem mo_astore {i : Nat} (h : sp_le k k') : sp_le (o_astore i k) (o_astore i k') := fun L st S q => by
  unfold o_astore at q ⊢
  split at q
  · first | exact h _ _ _ q | exact ⟨q.1, h _ _ _ q.2⟩
  · exact q.elim
theorem mo_iinc {i : Nat} {n : Int32} (h : sp_le k k') : sp_le (o_iinc i n k) (o_iinc i n k') := fun L st S q => by
  unfold o_iinc at q ⊢
  split at q
  · first | exact h _ _ _ q | exact ⟨q.1, h _ _ _ q.2⟩
  · exact q.elim
theorem mo_ib {f : Int32 → Int32 → Int32} (h : sp_le k k') : sp_le (o_ib f k) (o_ib f k') := fun L st S q => by
  unfold o_ib at q ⊢
  split at q
  · first | exact h _ _ _ q | exact ⟨q.1, h _ _ _ q.2⟩
  · exact q.elim
theorem mo_id {f : Int32 → Int32 → Int32} (h : sp_le k k') : sp_le (o_id f k) (o_id f k') := fun L st S q => by
  unfold o_id at q ⊢
  split at q
  · first | exact h _ _ _ q | exact ⟨q.1, h _ _ _ q.2⟩
  · exact q.elim
theorem mo_lb {f : Int64 → Int64 → Int64} (h : sp_le k k') : sp_le (o_lb f k) (o_lb f k') := fun L st S q => by
  unfold o_lb at q ⊢
  split at q
  · first | exact h _ _ _ q | exact ⟨q.1, h _ _ _ q.2⟩
  · exact q.elim
theorem mo_ld {f : Int64 → Int64 → Int64} (h : sp_le k k') : sp_le (o_ld f k) (o_ld f k') := fun L st S q => by
  unfold o_ld at q ⊢
  split at q
  · first | exact h _ _ _ q | exact ⟨q.1, h _ _ _ q.2⟩
  · exact q.elim
theorem mo_ineg  (h : sp_le k k') : sp_le (o_ineg k) (o_ineg k') := fun L st S q => by
  unfold o_ineg at q ⊢
  split at q
  · first | exact h _ _ _ q | exact ⟨q.1, h _ _ _ q.2⟩
  · exact q.elim
theorem mo_i2l  (h : sp_le k k') : sp_le (o_i2l k) (o_i2l k') := fun L st S q => by
  unfold o_i2l at q ⊢
  split at q
  · first | exact h _ _ _ q | exact ⟨q.1, h _ _ _ q.2⟩
  · exact q.elim
theorem mo_lcmp  (h : sp_le k k') : sp_le (o_lcmp k) (o_lcmp k') := fun L st S q => by
  unfold o_lcmp at q ⊢
  split at q
  · first | exact h _ _ _ q | exact ⟨q.1, h _ _ _ q.2⟩
  · exact q.elim
theorem mo_dup  (h : sp_le k k') : sp_le (o_dup k) (o_dup k') := fun L st S q => by
  unfold o_dup at q ⊢
  split at q
  · first | exact h _ _ _ q | exact ⟨q.1, h _ _ _ q.2⟩
  · exact q.elim
theorem mo_dup2  (h : sp_le k k') : sp_le (o_dup2 k) (o_dup2 k') := fun L st S q => by
  unfold o_dup2 at q ⊢
  split at q
  · first | exact h _ _ _ q | exact ⟨q.1, h _ _ _ q.2⟩
  · exact q.elim
theorem mo_mmax  (h : sp_le k k') : sp_le (o_mmax k) (o_mmax k') := fun L st S q => by
  unfold o_mmax at q ⊢
  split at q
  · first | exact h _ _ _ q | exact ⟨q.1, h _ _ _ q.2⟩
  · exact q.elim
theorem mo_mmin  (h : sp_le k k') : sp_le (o_mmin k) (o_mmin k') := fun L st S q => by
  unfold o_mmin at q ⊢
  split at q
  · first | exact h _ _ _ q | exact ⟨q.1, h _ _ _ q.2⟩
  · exact q.elim
theorem mo_mabs  (h : sp_le k k') : sp_le (o_mabs k) (o_mabs k') := fun L st S q => by
  unfold o_mabs at q ⊢
  split at q
  · first | exact h _ _ _ q | exact ⟨q.1, h _ _ _ q.2⟩
  · exact q.elim
theorem mo_if {q : Int32 → Prop} (h1 : sp_le kt kt') (h2 : sp_le kf kf') : sp_le (o_if q kt kf) (o_if q kt' kf') := fun L st S z => by
  unfold o_if at z ⊢
  split at z
  · exact ⟨fun y => h1 _ _ _ (z.1 y), fun y => h2 _ _ _ (z.2 y)⟩
  · exact z.elim
theorem mo_ic {q : Int32 → Int32 → Prop} (h1 : sp_le kt kt') (h2 : sp_le kf kf') : sp_le (o_ic q kt kf) (o_ic q kt' kf') := fun L st S z => by
  unfold o_ic at z ⊢
  split at z
  · exact ⟨fun y => h1 _ _ _ (z.1 y), fun y => h2 _ _ _ (z.2 y)⟩
  · exact z.elim
def sp_les : List (Int32 × sp_K) → List (Int32 × sp_K) → Prop
  | [], [] => True
  | q :: qs, q' :: qs' => (q.1 = q'.1 ∧ sp_le q.2 q'.2) ∧ sp_les qs qs'
  | _, _ => False
theorem les_n : sp_les [] [] := trivial
theorem les_c {x : Int32} {qs qs' : List (Int32 × sp_K)} (h : sp_le k k') (t : sp_les qs qs') : sp_les ((x, k) :: qs) ((x, k') :: qs') := ⟨⟨rfl, h⟩, t⟩
theorem mo_sws {x : Int32} {r : List Value} {L : sp_L} {S : sp_M} (hd : sp_le kd kd') : ∀ (qs qs' : List (Int32 × sp_K)), sp_les qs qs' → sp_sw x r L S kd qs → sp_sw x r L S kd' qs'
  | [], [], _, h => hd _ _ _ h
  | q :: qs, q' :: qs', hs, h => by
    obtain ⟨⟨e, h1⟩, h2⟩ := hs
    refine ⟨fun y => h1 _ _ _ (h.1 (by rw [e]; exact y)), fun y => mo_sws hd qs qs' h2 (h.2 (by rw [e]; exact y))⟩
  | [], _ :: _, hs, _ => hs.elim
  | _ :: _, [], hs, _ => hs.elim
theorem mo_sw {qs qs' : List (Int32 × sp_K)} (hs : sp_les qs qs') (hd : sp_le kd kd') : sp_le (o_sw qs kd) (o_sw qs' kd') := fun L st S z => by
  unfold o_sw at z ⊢
  split at z
  · exact mo_sws hd qs qs' hs z
  · exact z.elim
theorem mo_getf {ci fk : Nat} (h : sp_le k k') : sp_le (o_getf w ci fk k) (o_getf w ci fk k') := fun L st S z => by
  unfold o_getf at z ⊢
  split at z
  · split at z
    · exact h _ _ _ z
    · exact z.elim
  · exact z.elim
theorem mo_puti {ci fk : Nat} (h : sp_le k k') : sp_le (o_puti w ci fk k) (o_puti w ci fk k') := fun L st S z => by
  unfold o_puti at z ⊢
  split at z
  · split at z
    · exact h _ _ _ z
    · exact z.elim
  · exact z.elim
theorem mo_putl {ci fk : Nat} (h : sp_le k k') : sp_le (o_putl w ci fk k) (o_putl w ci fk k') := fun L st S z => by
  unfold o_putl at z ⊢
  split at z
  · split at z
    · exact h _ _ _ z
    · exact z.elim
  · exact z.elim
theorem mo_putz {ci fk : Nat} (h : sp_le k k') : sp_le (o_putz w ci fk k) (o_putz w ci fk k') := fun L st S z => by
  unfold o_putz at z ⊢
  split at z
  · obtain ⟨z1, z⟩ := z
    refine ⟨z1, ?_⟩
    split at z
    · exact h _ _ _ z
    · exact z.elim
  · exact z.elim
theorem mo_iald (h : sp_le k k') : sp_le (o_iald w k) (o_iald w k') := fun L st S z => by
  unfold o_iald at z ⊢
  split at z
  · split at z
    · exact ⟨z.1, h _ _ _ z.2⟩
    · exact z.elim
  · exact z.elim
theorem mo_iast (h : sp_le k k') : sp_le (o_iast w k) (o_iast w k') := fun L st S z => by
  unfold o_iast at z ⊢
  split at z
  · split at z
    · exact ⟨z.1, h _ _ _ z.2⟩
    · exact z.elim
  · exact z.elim
theorem mo_aald (h : sp_le k k') : sp_le (o_aald w k) (o_aald w k') := fun L st S z => by
  unfold o_aald at z ⊢
  split at z
  · split at z
    · obtain ⟨z1, z⟩ := z
      refine ⟨z1, ?_⟩
      split at z
      · exact h _ _ _ z
      · exact z.elim
    · exact z.elim
  · exact z.elim
theorem mo_calls {nL : Nat} {B : sp_W → sp_R → (Nat → sp_K) → Nat → sp_K} {n : Nat} (h : sp_le k k') : sp_le (o_calls w (sp_me nL B) n k) (o_calls w (sp_me nL B) n k') := fun L st S z => by
  unfold o_calls at z ⊢
  split at z
  · exact ⟨z.1, z.2.mono (fun r S q => h _ _ _ q)⟩
  · exact z.elim
theorem mo_callv {nL : Nat} {B : sp_W → sp_R → (Nat → sp_K) → Nat → sp_K} {ci n : Nat} (h : sp_le k k') : sp_le (o_callv w (sp_me nL B) ci n k) (o_callv w (sp_me nL B) ci n k') := fun L st S z => by
  unfold o_callv at z ⊢
  split at z
  · exact ⟨z.1, z.2.mono (fun r S q => h _ _ _ q)⟩
  · exact z.elim
def isI (r : Option Value) : Prop := ∃ x, r = some (.int x)
def isJ (r : Option Value) : Prop := ∃ x, r = some (.long x)
theorem mo_iret {Q : sp_R} : sp_le (o_iret Q) (o_iret (fun r S => Q r S ∧ isI r)) := fun L st S z => by
  unfold o_iret at z ⊢
  split at z
  · exact ⟨z, _, rfl⟩
  · exact z.elim
theorem mo_lret {Q : sp_R} : sp_le (o_lret Q) (o_lret (fun r S => Q r S ∧ isJ r)) := fun L st S z => by
  unfold o_lret at z ⊢
  split at z
  · exact ⟨z, _, rfl⟩
  · exact z.elim
theorem mo_ite {pc n : Nat} {F F' : sp_K} (h1 : sp_le k k') (h2 : sp_le F F') : sp_le (if pc = n then k else F) (if pc = n then k' else F') := by
  by_cases h : pc = n
  · rw [if_pos h, if_pos h]
    exact h1
  · rw [if_neg h, if_neg h]
    exact h2
theorem mo_run {B B' : (Nat → sp_K) → Nat → sp_K} (h : ∀ P pc, sp_le (B P pc) (B' P pc)) {pc : Nat} {L : sp_L} {st : List Value} {S : sp_M} (z : sp_run B pc L st S) : sp_run B' pc L st S := fun P hP => z P (fun pc L st S ⟨P', h1, h2⟩ => hP pc L st S ⟨P', h1, h P' pc L st S h2⟩)
theorem mo_me {nL : Nat} {B : sp_W → sp_R → (Nat → sp_K) → Nat → sp_K} {q : Option Value → Prop} (h : ∀ Q P pc, sp_le (B w Q P pc) (B w (fun r S => Q r S ∧ q r) P pc)) {as : List Value} {S : sp_M} {Q : sp_R} (z : sp_me nL B w as S Q) : sp_me nL B w as S (fun r S => Q r S ∧ q r) := by
  obtain ⟨Q', h1, h2, h3⟩ := z
  exact ⟨fun r S => Q' r S ∧ q r, fun r S y => ⟨h1 r S y.1, y.2⟩, h2, mo_run (fun P pc => h Q' P pc) h3⟩
end MO
theorem nX7_type_0 (w : sp_W) (Q : sp_R) (P : Nat → sp_K) : sp_le (bX7_type_0 w Q P) (bX7_type_0 w (fun r S => Q r S ∧ isI r) P) := mo_iload <| mo_push <| mo_push <| mo_calls <| mo_if (mo_aload <| mo_getf <| mo_getf <| mo_push <| mo_ic (mo_aload <| mo_getf <| mo_iload <| mo_callv <| mo_aload <| mo_getf <| mo_getf <| mo_iret) <| mo_aload <| mo_push <| mo_callv <| mo_iret) <| mo_aload <| mo_push <| mo_callv <| mo_iret
theorem iX7_type {w : sp_W} {as : List Value} {S : sp_M} {Q : sp_R} (z : MX7_type w as S Q) : MX7_type w as S (fun r S => Q r S ∧ isI r) := mo_me (nL := 2) (B := BX7_type) (q := isI) (fun Q P pc => mo_ite (nX7_type_0 w Q P) (mo_rf)) z
theorem nX7_clear_0 (w : sp_W) (Q : sp_R) (P : Nat → sp_K) : sp_le (bX7_clear_0 w Q P) (bX7_clear_0 w (fun r S => Q r S ∧ isI r) P) := mo_aload <| mo_getf <| mo_getf <| mo_istore <| mo_aload <| mo_getf <| mo_push <| mo_puti <| mo_iload <| mo_iret
theorem iX7_clear {w : sp_W} {as : List Value} {S : sp_M} {Q : sp_R} (z : MX7_clear w as S Q) : MX7_clear w as S (fun r S => Q r S ∧ isI r) := mo_me (nL := 2) (B := BX7_clear) (q := isI) (fun Q P pc => mo_ite (nX7_clear_0 w Q P) (mo_rf)) z
theorem nX7_reads_0 (w : sp_W) (Q : sp_R) (P : Nat → sp_K) : sp_le (bX7_reads_0 w Q P) (bX7_reads_0 w (fun r S => Q r S ∧ isI r) P) := mo_aload <| mo_getf <| mo_callv <| mo_istore <| mo_iload <| mo_push <| mo_ic (mo_aload <| mo_callv <| mo_aload <| mo_getf <| mo_aload <| mo_getf <| mo_getf <| mo_callv <| mo_aload <| mo_callv <| mo_iload <| mo_iret) <| mo_push <| mo_aload <| mo_getf <| mo_getf <| mo_ib <| mo_iret
theorem iX7_reads {w : sp_W} {as : List Value} {S : sp_M} {Q : sp_R} (z : MX7_reads w as S Q) : MX7_reads w as S (fun r S => Q r S ∧ isI r) := mo_me (nL := 2) (B := BX7_reads) (q := isI) (fun Q P pc => mo_ite (nX7_reads_0 w Q P) (mo_rf)) z
theorem nX7_place_0 (w : sp_W) (Q : sp_R) (P : Nat → sp_K) : sp_le (bX7_place_0 w Q P) (bX7_place_0 w (fun r S => Q r S ∧ isI r) P) := mo_aload <| mo_getf <| mo_iload <| mo_callv <| mo_if (mo_rf) <| mo_iload <| mo_push <| mo_push <| mo_calls <| mo_if (mo_aload <| mo_getf <| mo_getf <| mo_iload <| mo_aald <| mo_iload <| mo_iald <| mo_iret) <| mo_rf
theorem nX7_place_20 (w : sp_W) (Q : sp_R) (P : Nat → sp_K) : sp_le (bX7_place_20 w Q P) (bX7_place_20 w (fun r S => Q r S ∧ isI r) P) := mo_aload <| mo_push <| mo_callv <| mo_iret
theorem iX7_place {w : sp_W} {as : List Value} {S : sp_M} {Q : sp_R} (z : MX7_place w as S Q) : MX7_place w as S (fun r S => Q r S ∧ isI r) := mo_me (nL := 3) (B := BX7_place) (q := isI) (fun Q P pc => mo_ite (nX7_place_0 w Q P) (mo_ite (nX7_place_20 w Q P) (mo_rf))) z
theorem nX7_lays_0 (w : sp_W) (Q : sp_R) (P : Nat → sp_K) : sp_le (bX7_lays_0 w Q P) (bX7_lays_0 w (fun r S => Q r S ∧ isI r) P) := mo_aload <| mo_getf <| mo_iload <| mo_callv <| mo_if (mo_rf) <| mo_iload <| mo_push <| mo_push <| mo_calls <| mo_if (mo_rf) <| mo_iload <| mo_push <| mo_aload <| mo_getf <| mo_iload <| mo_iload <| mo_callv <| mo_calls <| mo_if (mo_aload <| mo_getf <| mo_getf <| mo_iload <| mo_aald <| mo_iload <| mo_iald <| mo_istore <| mo_iload <| mo_iload <| mo_ic (mo_aload <| mo_callv <| mo_aload <| mo_getf <| mo_getf <| mo_iload <| mo_aald <| mo_iload <| mo_iload <| mo_iast <| mo_aload <| mo_callv <| mo_iload <| mo_iret) <| mo_aload <| mo_push <| mo_callv <| mo_iret) <| mo_rf
theorem nX7_lays_37 (w : sp_W) (Q : sp_R) (P : Nat → sp_K) : sp_le (bX7_lays_37 w Q P) (bX7_lays_37 w (fun r S => Q r S ∧ isI r) P) := mo_aload <| mo_push <| mo_callv <| mo_iret
theorem iX7_lays {w : sp_W} {as : List Value} {S : sp_M} {Q : sp_R} (z : MX7_lays w as S Q) : MX7_lays w as S (fun r S => Q r S ∧ isI r) := mo_me (nL := 5) (B := BX7_lays) (q := isI) (fun Q P pc => mo_ite (nX7_lays_0 w Q P) (mo_ite (nX7_lays_37 w Q P) (mo_rf))) z
theorem nX7_sets_0 (w : sp_W) (Q : sp_R) (P : Nat → sp_K) : sp_le (bX7_sets_0 w Q P) (bX7_sets_0 w (fun r S => Q r S ∧ isI r) P) := mo_iload <| mo_iload <| mo_calls <| mo_if (mo_aload <| mo_getf <| mo_getf <| mo_iload <| mo_iald <| mo_istore <| mo_iload <| mo_iload <| mo_ic (mo_aload <| mo_callv <| mo_aload <| mo_getf <| mo_getf <| mo_iload <| mo_iload <| mo_iast <| mo_aload <| mo_callv <| mo_iload <| mo_iret) <| mo_aload <| mo_push <| mo_callv <| mo_iret) <| mo_aload <| mo_push <| mo_callv <| mo_iret
theorem iX7_sets {w : sp_W} {as : List Value} {S : sp_M} {Q : sp_R} (z : MX7_sets w as S Q) : MX7_sets w as S (fun r S => Q r S ∧ isI r) := mo_me (nL := 4) (B := BX7_sets) (q := isI) (fun Q P pc => mo_ite (nX7_sets_0 w Q P) (mo_rf)) z
theorem nX7_puts_0 (w : sp_W) (Q : sp_R) (P : Nat → sp_K) : sp_le (bX7_puts_0 w Q P) (bX7_puts_0 w (fun r S => Q r S ∧ isI r) P) := mo_aload <| mo_getf <| mo_iload <| mo_callv <| mo_if (mo_rf) <| mo_iload <| mo_push <| mo_push <| mo_calls <| mo_if (mo_aload <| mo_getf <| mo_getf <| mo_push <| mo_aald <| mo_iload <| mo_iald <| mo_iload <| mo_ic (mo_aload <| mo_callv <| mo_aload <| mo_getf <| mo_getf <| mo_push <| mo_aald <| mo_iload <| mo_iload <| mo_iast <| mo_aload <| mo_getf <| mo_push <| mo_callv <| mo_iret) <| mo_aload <| mo_push <| mo_callv <| mo_iret) <| mo_rf
theorem nX7_puts_20 (w : sp_W) (Q : sp_R) (P : Nat → sp_K) : sp_le (bX7_puts_20 w Q P) (bX7_puts_20 w (fun r S => Q r S ∧ isI r) P) := mo_aload <| mo_push <| mo_callv <| mo_iret
theorem iX7_puts {w : sp_W} {as : List Value} {S : sp_M} {Q : sp_R} (z : MX7_puts w as S Q) : MX7_puts w as S (fun r S => Q r S ∧ isI r) := mo_me (nL := 3) (B := BX7_puts) (q := isI) (fun Q P pc => mo_ite (nX7_puts_0 w Q P) (mo_ite (nX7_puts_20 w Q P) (mo_rf))) z
theorem nX7_takes_0 (w : sp_W) (Q : sp_R) (P : Nat → sp_K) : sp_le (bX7_takes_0 w Q P) (bX7_takes_0 w (fun r S => Q r S ∧ isI r) P) := mo_aload <| mo_getf <| mo_iload <| mo_callv <| mo_if (mo_aload <| mo_getf <| mo_iload <| mo_callv <| mo_if (mo_aload <| mo_callv <| mo_aload <| mo_getf <| mo_getf <| mo_push <| mo_aald <| mo_iload <| mo_push <| mo_iast <| mo_aload <| mo_getf <| mo_push <| mo_callv <| mo_iret) <| mo_aload <| mo_push <| mo_callv <| mo_iret) <| mo_aload <| mo_push <| mo_callv <| mo_iret
theorem iX7_takes {w : sp_W} {as : List Value} {S : sp_M} {Q : sp_R} (z : MX7_takes w as S Q) : MX7_takes w as S (fun r S => Q r S ∧ isI r) := mo_me (nL := 2) (B := BX7_takes) (q := isI) (fun Q P pc => mo_ite (nX7_takes_0 w Q P) (mo_rf)) z
theorem nX7_moves_0 (w : sp_W) (Q : sp_R) (P : Nat → sp_K) : sp_le (bX7_moves_0 w Q P) (bX7_moves_0 w (fun r S => Q r S ∧ isI r) P) := mo_aload <| mo_getf <| mo_iload <| mo_callv <| mo_if (mo_rf) <| mo_aload <| mo_getf <| mo_iload <| mo_callv <| mo_if (mo_aload <| mo_getf <| mo_iload <| mo_callv <| mo_if (mo_rf) <| mo_aload <| mo_getf <| mo_iload <| mo_callv <| mo_if (mo_rf) <| mo_aload <| mo_getf <| mo_iload <| mo_iload <| mo_callv <| mo_if (mo_aload <| mo_callv <| mo_aload <| mo_getf <| mo_getf <| mo_push <| mo_aald <| mo_iload <| mo_aload <| mo_getf <| mo_getf <| mo_push <| mo_aald <| mo_iload <| mo_iald <| mo_iast <| mo_aload <| mo_getf <| mo_getf <| mo_push <| mo_aald <| mo_iload <| mo_push <| mo_iast <| mo_aload <| mo_getf <| mo_aload <| mo_getf <| mo_callv <| mo_aload <| mo_getf <| mo_getf <| mo_iret) <| mo_rf) <| mo_rf
theorem nX7_moves_22 (w : sp_W) (Q : sp_R) (P : Nat → sp_K) : sp_le (bX7_moves_22 w Q P) (bX7_moves_22 w (fun r S => Q r S ∧ isI r) P) := mo_aload <| mo_push <| mo_callv <| mo_iret
theorem nX7_moves_63 (w : sp_W) (Q : sp_R) (P : Nat → sp_K) : sp_le (bX7_moves_63 w Q P) (bX7_moves_63 w (fun r S => Q r S ∧ isI r) P) := mo_aload <| mo_push <| mo_callv <| mo_iret
theorem iX7_moves {w : sp_W} {as : List Value} {S : sp_M} {Q : sp_R} (z : MX7_moves w as S Q) : MX7_moves w as S (fun r S => Q r S ∧ isI r) := mo_me (nL := 3) (B := BX7_moves) (q := isI) (fun Q P pc => mo_ite (nX7_moves_0 w Q P) (mo_ite (nX7_moves_22 w Q P) (mo_ite (nX7_moves_63 w Q P) (mo_rf)))) z
theorem nX7_flaw_0 (w : sp_W) (Q : sp_R) (P : Nat → sp_K) : sp_le (bX7_flaw_0 w Q P) (bX7_flaw_0 w (fun r S => Q r S ∧ isI r) P) := mo_iload <| mo_if (mo_rf) <| mo_iload <| mo_push <| mo_push <| mo_calls <| mo_if (mo_aload <| mo_getf <| mo_aload <| mo_getf <| mo_callv <| mo_iload <| mo_aload <| mo_getf <| mo_getf <| mo_ic (mo_iload <| mo_if (mo_aload <| mo_getf <| mo_getf <| mo_iload <| mo_iald <| mo_rf) <| mo_aload <| mo_getf <| mo_getf <| mo_iload <| mo_iald <| mo_rf) <| mo_push <| mo_iret) <| mo_rf
theorem nX7_flaw_13 (w : sp_W) (Q : sp_R) (P : Nat → sp_K) : sp_le (bX7_flaw_13 w Q P) (bX7_flaw_13 w (fun r S => Q r S ∧ isI r) P) := mo_aload <| mo_push <| mo_callv <| mo_iret
theorem nX7_flaw_69 (w : sp_W) (Q : sp_R) (P : Nat → sp_K) : sp_le (bX7_flaw_69 w Q P) (bX7_flaw_69 w (fun r S => Q r S ∧ isI r) P) := mo_iret
theorem iX7_flaw {w : sp_W} {as : List Value} {S : sp_M} {Q : sp_R} (z : MX7_flaw w as S Q) : MX7_flaw w as S (fun r S => Q r S ∧ isI r) := mo_me (nL := 3) (B := BX7_flaw) (q := isI) (fun Q P pc => mo_ite (nX7_flaw_0 w Q P) (mo_ite (nX7_flaw_13 w Q P) (mo_ite (nX7_flaw_69 w Q P) (mo_rf)))) z
theorem nX7_room_0 (w : sp_W) (Q : sp_R) (P : Nat → sp_K) : sp_le (bX7_room_0 w Q P) (bX7_room_0 w (fun r S => Q r S ∧ isI r) P) := mo_aload <| mo_getf <| mo_iload <| mo_callv <| mo_if (mo_aload <| mo_getf <| mo_iload <| mo_callv <| mo_istore <| mo_aload <| mo_getf <| mo_iload <| mo_callv <| mo_istore <| mo_aload <| mo_getf <| mo_iload <| mo_callv <| mo_if (mo_rf) <| mo_iload <| mo_push <| mo_ic (mo_rf) <| mo_iload <| mo_push <| mo_ic (mo_aload <| mo_aload <| mo_getf <| mo_iload <| mo_aload <| mo_getf <| mo_iload <| mo_callv <| mo_iload <| mo_aload <| mo_getf <| mo_iload <| mo_callv <| mo_iload <| mo_callv <| mo_i2l <| mo_aload <| mo_getf <| mo_iload <| mo_iload <| mo_callv <| mo_i2l <| mo_callv <| mo_push <| mo_iret) <| mo_rf) <| mo_aload <| mo_push <| mo_callv <| mo_iret
theorem nX7_room_57 (w : sp_W) (Q : sp_R) (P : Nat → sp_K) : sp_le (bX7_room_57 w Q P) (bX7_room_57 w (fun r S => Q r S ∧ isI r) P) := mo_aload <| mo_push <| mo_callv <| mo_iret
theorem iX7_room {w : sp_W} {as : List Value} {S : sp_M} {Q : sp_R} (z : MX7_room w as S Q) : MX7_room w as S (fun r S => Q r S ∧ isI r) := mo_me (nL := 4) (B := BX7_room) (q := isI) (fun Q P pc => mo_ite (nX7_room_0 w Q P) (mo_ite (nX7_room_57 w Q P) (mo_rf))) z
theorem nX7_nearest_0 (w : sp_W) (Q : sp_R) (P : Nat → sp_K) : sp_le (bX7_nearest_0 w Q P) (bX7_nearest_0 w (fun r S => Q r S ∧ isI r) P) := mo_aload <| mo_getf <| mo_iload <| mo_callv <| mo_if (mo_aload <| mo_getf <| mo_iload <| mo_callv <| mo_istore <| mo_aload <| mo_getf <| mo_iload <| mo_callv <| mo_if (mo_rf) <| mo_iload <| mo_push <| mo_ic (mo_rf) <| mo_iload <| mo_iload <| mo_push <| mo_ib <| mo_ic (mo_aload <| mo_getf <| mo_iload <| mo_aload <| mo_getf <| mo_iload <| mo_callv <| mo_iload <| mo_aload <| mo_getf <| mo_iload <| mo_callv <| mo_callv <| mo_istore <| mo_aload <| mo_aload <| mo_getf <| mo_iload <| mo_aload <| mo_getf <| mo_iload <| mo_callv <| mo_iload <| mo_aload <| mo_getf <| mo_iload <| mo_callv <| mo_iload <| mo_callv <| mo_i2l <| mo_aload <| mo_getf <| mo_iload <| mo_iload <| mo_callv <| mo_i2l <| mo_callv <| mo_iload <| mo_iret) <| mo_rf) <| mo_aload <| mo_push <| mo_callv <| mo_iret
theorem nX7_nearest_50 (w : sp_W) (Q : sp_R) (P : Nat → sp_K) : sp_le (bX7_nearest_50 w Q P) (bX7_nearest_50 w (fun r S => Q r S ∧ isI r) P) := mo_aload <| mo_push <| mo_callv <| mo_iret
theorem iX7_nearest {w : sp_W} {as : List Value} {S : sp_M} {Q : sp_R} (z : MX7_nearest w as S Q) : MX7_nearest w as S (fun r S => Q r S ∧ isI r) := mo_me (nL := 4) (B := BX7_nearest) (q := isI) (fun Q P pc => mo_ite (nX7_nearest_0 w Q P) (mo_ite (nX7_nearest_50 w Q P) (mo_rf))) z
theorem nX7_pull_0 (w : sp_W) (Q : sp_R) (P : Nat → sp_K) : sp_le (bX7_pull_0 w Q P) (bX7_pull_0 w (fun r S => Q r S ∧ isI r) P) := mo_aload <| mo_getf <| mo_iload <| mo_callv <| mo_if (mo_aload <| mo_getf <| mo_iload <| mo_callv <| mo_istore <| mo_aload <| mo_getf <| mo_iload <| mo_callv <| mo_istore <| mo_aload <| mo_getf <| mo_iload <| mo_callv <| mo_if (mo_rf) <| mo_iload <| mo_push <| mo_ic (mo_rf) <| mo_iload <| mo_push <| mo_ic (mo_aload <| mo_aload <| mo_getf <| mo_iload <| mo_iload <| mo_iload <| mo_callv <| mo_i2l <| mo_aload <| mo_getf <| mo_iload <| mo_iload <| mo_iload <| mo_callv <| mo_i2l <| mo_callv <| mo_push <| mo_iret) <| mo_rf) <| mo_aload <| mo_push <| mo_callv <| mo_iret
theorem nX7_pull_57 (w : sp_W) (Q : sp_R) (P : Nat → sp_K) : sp_le (bX7_pull_57 w Q P) (bX7_pull_57 w (fun r S => Q r S ∧ isI r) P) := mo_aload <| mo_push <| mo_callv <| mo_iret
theorem iX7_pull {w : sp_W} {as : List Value} {S : sp_M} {Q : sp_R} (z : MX7_pull w as S Q) : MX7_pull w as S (fun r S => Q r S ∧ isI r) := mo_me (nL := 4) (B := BX7_pull) (q := isI) (fun Q P pc => mo_ite (nX7_pull_0 w Q P) (mo_ite (nX7_pull_57 w Q P) (mo_rf))) z
theorem nX7_cheapest_0 (w : sp_W) (Q : sp_R) (P : Nat → sp_K) : sp_le (bX7_cheapest_0 w Q P) (bX7_cheapest_0 w (fun r S => Q r S ∧ isI r) P) := mo_iload <| mo_push <| mo_push <| mo_calls <| mo_if (mo_aload <| mo_callv <| mo_iload <| mo_sw (les_c (mo_aload <| mo_getf <| mo_getf <| mo_calls <| mo_iret) (les_c (mo_aload <| mo_getf <| mo_getf <| mo_push <| mo_ic (mo_aload <| mo_getf <| mo_getf <| mo_rf) <| mo_push <| mo_rf) (les_c (mo_aload <| mo_getf <| mo_getf <| mo_iret) (les_n)))) <| mo_aload <| mo_getf <| mo_getf <| mo_iret) <| mo_aload <| mo_push <| mo_callv <| mo_iret
theorem nX7_cheapest_82 (w : sp_W) (Q : sp_R) (P : Nat → sp_K) : sp_le (bX7_cheapest_82 w Q P) (bX7_cheapest_82 w (fun r S => Q r S ∧ isI r) P) := mo_iret
theorem iX7_cheapest {w : sp_W} {as : List Value} {S : sp_M} {Q : sp_R} (z : MX7_cheapest w as S Q) : MX7_cheapest w as S (fun r S => Q r S ∧ isI r) := mo_me (nL := 2) (B := BX7_cheapest) (q := isI) (fun Q P pc => mo_ite (nX7_cheapest_0 w Q P) (mo_ite (nX7_cheapest_82 w Q P) (mo_rf))) z
theorem nX7_spot_0 (w : sp_W) (Q : sp_R) (P : Nat → sp_K) : sp_le (bX7_spot_0 w Q P) (bX7_spot_0 w (fun r S => Q r S ∧ isI r) P) := mo_iload <| mo_if (mo_rf) <| mo_iload <| mo_push <| mo_push <| mo_calls <| mo_if (mo_aload <| mo_callv <| mo_iload <| mo_aload <| mo_getf <| mo_getf <| mo_ic (mo_iload <| mo_if (mo_aload <| mo_getf <| mo_getf <| mo_iload <| mo_iald <| mo_rf) <| mo_aload <| mo_getf <| mo_getf <| mo_iload <| mo_iald <| mo_rf) <| mo_push <| mo_iret) <| mo_rf
theorem nX7_spot_13 (w : sp_W) (Q : sp_R) (P : Nat → sp_K) : sp_le (bX7_spot_13 w Q P) (bX7_spot_13 w (fun r S => Q r S ∧ isI r) P) := mo_aload <| mo_push <| mo_callv <| mo_iret
theorem nX7_spot_62 (w : sp_W) (Q : sp_R) (P : Nat → sp_K) : sp_le (bX7_spot_62 w Q P) (bX7_spot_62 w (fun r S => Q r S ∧ isI r) P) := mo_iret
theorem iX7_spot {w : sp_W} {as : List Value} {S : sp_M} {Q : sp_R} (z : MX7_spot w as S Q) : MX7_spot w as S (fun r S => Q r S ∧ isI r) := mo_me (nL := 3) (B := BX7_spot) (q := isI) (fun Q P pc => mo_ite (nX7_spot_0 w Q P) (mo_ite (nX7_spot_13 w Q P) (mo_ite (nX7_spot_62 w Q P) (mo_rf)))) z
theorem nX7_through_0 (w : sp_W) (Q : sp_R) (P : Nat → sp_K) : sp_le (bX7_through_0 w Q P) (bX7_through_0 w (fun r S => Q r S ∧ isI r) P) := mo_aload <| mo_getf <| mo_iload <| mo_callv <| mo_if (mo_aload <| mo_callv <| mo_aload <| mo_callv <| mo_aload <| mo_getf <| mo_getf <| mo_iload <| mo_iald <| mo_calls <| mo_iret) <| mo_aload <| mo_push <| mo_callv <| mo_iret
theorem iX7_through {w : sp_W} {as : List Value} {S : sp_M} {Q : sp_R} (z : MX7_through w as S Q) : MX7_through w as S (fun r S => Q r S ∧ isI r) := mo_me (nL := 2) (B := BX7_through) (q := isI) (fun Q P pc => mo_ite (nX7_through_0 w Q P) (mo_rf)) z
theorem nX7_builds_0 (w : sp_W) (Q : sp_R) (P : Nat → sp_K) : sp_le (bX7_builds_0 w Q P) (bX7_builds_0 w (fun r S => Q r S ∧ isI r) P) := mo_aload <| mo_callv <| mo_aload <| mo_getf <| mo_getf <| mo_push <| mo_ic (mo_rf) <| mo_aload <| mo_getf <| mo_callv <| mo_if (mo_aload <| mo_callv <| mo_aload <| mo_getf <| mo_callv <| mo_aload <| mo_getf <| mo_getf <| mo_iret) <| mo_rf
theorem nX7_builds_26 (w : sp_W) (Q : sp_R) (P : Nat → sp_K) : sp_le (bX7_builds_26 w Q P) (bX7_builds_26 w (fun r S => Q r S ∧ isI r) P) := mo_aload <| mo_push <| mo_callv <| mo_iret
theorem iX7_builds {w : sp_W} {as : List Value} {S : sp_M} {Q : sp_R} (z : MX7_builds w as S Q) : MX7_builds w as S (fun r S => Q r S ∧ isI r) := mo_me (nL := 1) (B := BX7_builds) (q := isI) (fun Q P pc => mo_ite (nX7_builds_0 w Q P) (mo_ite (nX7_builds_26 w Q P) (mo_rf))) z
theorem nX7_otherwise_0 (w : sp_W) (Q : sp_R) (P : Nat → sp_K) : sp_le (bX7_otherwise_0 w Q P) (bX7_otherwise_0 w (fun r S => Q r S ∧ isI r) P) := mo_iload <| mo_iload <| mo_calls <| mo_if (mo_aload <| mo_getf <| mo_getf <| mo_iload <| mo_iald <| mo_istore <| mo_iload <| mo_iload <| mo_ic (mo_aload <| mo_getf <| mo_getf <| mo_iload <| mo_iload <| mo_iast <| mo_aload <| mo_getf <| mo_callv <| mo_aload <| mo_getf <| mo_getf <| mo_iload <| mo_iload <| mo_iast <| mo_aload <| mo_callv <| mo_aload <| mo_getf <| mo_getf <| mo_calls <| mo_iret) <| mo_aload <| mo_callv <| mo_aload <| mo_getf <| mo_getf <| mo_calls <| mo_iret) <| mo_aload <| mo_push <| mo_callv <| mo_iret
theorem iX7_otherwise {w : sp_W} {as : List Value} {S : sp_M} {Q : sp_R} (z : MX7_otherwise w as S Q) : MX7_otherwise w as S (fun r S => Q r S ∧ isI r) := mo_me (nL := 4) (B := BX7_otherwise) (q := isI) (fun Q P pc => mo_ite (nX7_otherwise_0 w Q P) (mo_rf)) z
theorem nX7_upper_0 (w : sp_W) (Q : sp_R) (P : Nat → sp_K) : sp_le (bX7_upper_0 w Q P) (bX7_upper_0 w (fun r S => Q r S ∧ isJ r) P) := mo_aload <| mo_getf <| mo_lret
theorem iX7_upper {w : sp_W} {as : List Value} {S : sp_M} {Q : sp_R} (z : MX7_upper w as S Q) : MX7_upper w as S (fun r S => Q r S ∧ isJ r) := mo_me (nL := 1) (B := BX7_upper) (q := isJ) (fun Q P pc => mo_ite (nX7_upper_0 w Q P) (mo_rf)) z
theorem nX7_lower_0 (w : sp_W) (Q : sp_R) (P : Nat → sp_K) : sp_le (bX7_lower_0 w Q P) (bX7_lower_0 w (fun r S => Q r S ∧ isJ r) P) := mo_aload <| mo_getf <| mo_lret
theorem iX7_lower {w : sp_W} {as : List Value} {S : sp_M} {Q : sp_R} (z : MX7_lower w as S Q) : MX7_lower w as S (fun r S => Q r S ∧ isJ r) := mo_me (nL := 1) (B := BX7_lower) (q := isJ) (fun Q P pc => mo_ite (nX7_lower_0 w Q P) (mo_rf)) z
theorem nX7_all_0 (w : sp_W) (Q : sp_R) (P : Nat → sp_K) : sp_le (bX7_all_0 w Q P) (bX7_all_0 w (fun r S => Q r S ∧ isI r) P) := mo_iload <| mo_push <| mo_push <| mo_calls <| mo_if (mo_iload <| mo_push <| mo_push <| mo_calls <| mo_if (mo_iload <| mo_sw (les_c (mo_aload <| mo_getf <| mo_push <| mo_callv <| mo_iret) (les_c (mo_aload <| mo_getf <| mo_callv <| mo_iret) (les_c (mo_aload <| mo_getf <| mo_aload <| mo_getf <| mo_callv <| mo_aload <| mo_getf <| mo_getf <| mo_iret) (les_c (mo_aload <| mo_getf <| mo_push <| mo_callv <| mo_iret) (les_c (mo_aload <| mo_getf <| mo_getf <| mo_iret) (les_c (mo_rf) (les_c (mo_rf) (les_c (mo_rf) (les_c (mo_rf) (les_c (mo_rf) (les_c (mo_rf) (les_c (mo_aload <| mo_getf <| mo_callv <| mo_iret) (les_n))))))))))))) <| mo_rf) <| mo_aload <| mo_getf <| mo_getf <| mo_iload <| mo_push <| mo_ib <| mo_iald <| mo_iret) <| mo_aload <| mo_push <| mo_callv <| mo_iret
theorem nX7_all_166 (w : sp_W) (Q : sp_R) (P : Nat → sp_K) : sp_le (bX7_all_166 w Q P) (bX7_all_166 w (fun r S => Q r S ∧ isI r) P) := mo_aload <| mo_callv <| mo_aload <| mo_getf <| mo_getf <| mo_push <| mo_ic (mo_aload <| mo_getf <| mo_callv <| mo_aload <| mo_getf <| mo_getf <| mo_calls <| mo_ib <| mo_push <| mo_ib <| mo_rf) <| mo_push <| mo_rf
theorem nX7_all_208 (w : sp_W) (Q : sp_R) (P : Nat → sp_K) : sp_le (bX7_all_208 w Q P) (bX7_all_208 w (fun r S => Q r S ∧ isI r) P) := mo_iret
theorem iX7_all {w : sp_W} {as : List Value} {S : sp_M} {Q : sp_R} (z : MX7_all w as S Q) : MX7_all w as S (fun r S => Q r S ∧ isI r) := mo_me (nL := 2) (B := BX7_all) (q := isI) (fun Q P pc => mo_ite (nX7_all_0 w Q P) (mo_ite (nX7_all_166 w Q P) (mo_ite (nX7_all_208 w Q P) (mo_rf)))) z
theorem nX7_back_0 (w : sp_W) (Q : sp_R) (P : Nat → sp_K) : sp_le (bX7_back_0 w Q P) (bX7_back_0 w (fun r S => Q r S ∧ isI r) P) := mo_aload <| mo_getf <| mo_getf <| mo_if (mo_aload <| mo_getf <| mo_aload <| mo_getf <| mo_callv <| mo_aload <| mo_getf <| mo_push <| mo_putz <| mo_aload <| mo_callv <| mo_aload <| mo_getf <| mo_getf <| mo_iret) <| mo_aload <| mo_push <| mo_callv <| mo_iret
theorem iX7_back {w : sp_W} {as : List Value} {S : sp_M} {Q : sp_R} (z : MX7_back w as S Q) : MX7_back w as S (fun r S => Q r S ∧ isI r) := mo_me (nL := 1) (B := BX7_back) (q := isI) (fun Q P pc => mo_ite (nX7_back_0 w Q P) (mo_rf)) z
theorem nX7_told_0 (w : sp_W) (Q : sp_R) (P : Nat → sp_K) : sp_le (bX7_told_0 w Q P) (bX7_told_0 w (fun r S => Q r S ∧ isI r) P) := mo_iload <| mo_sw (les_c (mo_aload <| mo_getf <| mo_iret) (les_c (mo_aload <| mo_getf <| mo_iret) (les_c (mo_aload <| mo_getf <| mo_iret) (les_c (mo_aload <| mo_getf <| mo_getf <| mo_iret) (les_c (mo_aload <| mo_getf <| mo_getf <| mo_iret) (les_n)))))) <| mo_aload <| mo_push <| mo_callv <| mo_iret
theorem iX7_told {w : sp_W} {as : List Value} {S : sp_M} {Q : sp_R} (z : MX7_told w as S Q) : MX7_told w as S (fun r S => Q r S ∧ isI r) := mo_me (nL := 2) (B := BX7_told) (q := isI) (fun Q P pc => mo_ite (nX7_told_0 w Q P) (mo_rf)) z
theorem nX7_digest_0 (w : sp_W) (Q : sp_R) (P : Nat → sp_K) : sp_le (bX7_digest_0 w Q P) (bX7_digest_0 w (fun r S => Q r S ∧ isJ r) P) := mo_push <| mo_lstore <| mo_push <| mo_istore <| mo_rf
theorem nX7_digest_6 (w : sp_W) (Q : sp_R) (P : Nat → sp_K) : sp_le (bX7_digest_6 w Q P) (bX7_digest_6 w (fun r S => Q r S ∧ isJ r) P) := mo_iload <| mo_push <| mo_ic (mo_push <| mo_istore <| mo_rf) <| mo_push <| mo_lload <| mo_lb <| mo_aload <| mo_iload <| mo_callv <| mo_i2l <| mo_lb <| mo_lstore <| mo_iinc <| mo_rf
theorem nX7_digest_32 (w : sp_W) (Q : sp_R) (P : Nat → sp_K) : sp_le (bX7_digest_32 w Q P) (bX7_digest_32 w (fun r S => Q r S ∧ isJ r) P) := mo_iload <| mo_push <| mo_ic (mo_push <| mo_istore <| mo_rf) <| mo_push <| mo_lload <| mo_lb <| mo_aload <| mo_iload <| mo_callv <| mo_i2l <| mo_lb <| mo_lstore <| mo_iinc <| mo_rf
theorem nX7_digest_59 (w : sp_W) (Q : sp_R) (P : Nat → sp_K) : sp_le (bX7_digest_59 w Q P) (bX7_digest_59 w (fun r S => Q r S ∧ isJ r) P) := mo_iload <| mo_aload <| mo_getf <| mo_getf <| mo_ic (mo_aload <| mo_getf <| mo_aload <| mo_getf <| mo_callv <| mo_push <| mo_istore <| mo_rf) <| mo_push <| mo_istore <| mo_rf
theorem nX7_digest_73 (w : sp_W) (Q : sp_R) (P : Nat → sp_K) : sp_le (bX7_digest_73 w Q P) (bX7_digest_73 w (fun r S => Q r S ∧ isJ r) P) := mo_iload <| mo_push <| mo_ic (mo_iinc <| mo_rf) <| mo_push <| mo_lload <| mo_lb <| mo_aload <| mo_iload <| mo_iload <| mo_callv <| mo_i2l <| mo_lb <| mo_lstore <| mo_iinc <| mo_rf
theorem nX7_digest_119 (w : sp_W) (Q : sp_R) (P : Nat → sp_K) : sp_le (bX7_digest_119 w Q P) (bX7_digest_119 w (fun r S => Q r S ∧ isJ r) P) := mo_iload <| mo_aload <| mo_getf <| mo_getf <| mo_ic (mo_push <| mo_istore <| mo_rf) <| mo_push <| mo_lload <| mo_lb <| mo_aload <| mo_iload <| mo_push <| mo_callv <| mo_i2l <| mo_lb <| mo_lstore <| mo_push <| mo_lload <| mo_lb <| mo_aload <| mo_iload <| mo_push <| mo_callv <| mo_i2l <| mo_lb <| mo_lstore <| mo_iinc <| mo_rf
theorem nX7_digest_166 (w : sp_W) (Q : sp_R) (P : Nat → sp_K) : sp_le (bX7_digest_166 w Q P) (bX7_digest_166 w (fun r S => Q r S ∧ isJ r) P) := mo_iload <| mo_push <| mo_ic (mo_push <| mo_istore <| mo_rf) <| mo_push <| mo_lload <| mo_lb <| mo_aload <| mo_iload <| mo_callv <| mo_i2l <| mo_lb <| mo_lstore <| mo_iinc <| mo_rf
theorem nX7_digest_192 (w : sp_W) (Q : sp_R) (P : Nat → sp_K) : sp_le (bX7_digest_192 w Q P) (bX7_digest_192 w (fun r S => Q r S ∧ isJ r) P) := mo_iload <| mo_aload <| mo_getf <| mo_getf <| mo_ic (mo_push <| mo_istore <| mo_rf) <| mo_push <| mo_lload <| mo_lb <| mo_aload <| mo_iload <| mo_push <| mo_callv <| mo_i2l <| mo_lb <| mo_lstore <| mo_push <| mo_lload <| mo_lb <| mo_aload <| mo_iload <| mo_push <| mo_callv <| mo_i2l <| mo_lb <| mo_lstore <| mo_iinc <| mo_rf
theorem nX7_digest_239 (w : sp_W) (Q : sp_R) (P : Nat → sp_K) : sp_le (bX7_digest_239 w Q P) (bX7_digest_239 w (fun r S => Q r S ∧ isJ r) P) := mo_iload <| mo_aload <| mo_getf <| mo_getf <| mo_ic (mo_lload <| mo_lret) <| mo_push <| mo_lload <| mo_lb <| mo_aload <| mo_iload <| mo_callv <| mo_i2l <| mo_lb <| mo_lstore <| mo_iinc <| mo_rf
theorem iX7_digest {w : sp_W} {as : List Value} {S : sp_M} {Q : sp_R} (z : MX7_digest w as S Q) : MX7_digest w as S (fun r S => Q r S ∧ isJ r) := mo_me (nL := 5) (B := BX7_digest) (q := isJ) (fun Q P pc => mo_ite (nX7_digest_0 w Q P) (mo_ite (nX7_digest_6 w Q P) (mo_ite (nX7_digest_32 w Q P) (mo_ite (nX7_digest_59 w Q P) (mo_ite (nX7_digest_73 w Q P) (mo_ite (nX7_digest_119 w Q P) (mo_ite (nX7_digest_166 w Q P) (mo_ite (nX7_digest_192 w Q P) (mo_ite (nX7_digest_239 w Q P) (mo_rf)))))))))) z
