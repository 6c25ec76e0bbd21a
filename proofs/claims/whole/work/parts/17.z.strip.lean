/-! a line without its plan -/
def stp (v : Nat → Int32) (k : Nat) : Int32 := if k < 91 then v k else if k < 112 then -1 else 0
def lkv (S : sp_M) : Nat → Int32 := stp (lv S 1)
def mkv (S : sp_M) : Nat → Int32 := stp (mv S)
theorem stp_at {v : Nat → Int32} {k : Nat} (h : k < 91) : stp v k = v k := by
  unfold stp
  rw [if_pos h]
theorem stp_hgt (v : Nat → Int32) (k : Int32) : f_hgt (stp v) k = f_hgt v k := rfl
theorem stp_top {v : Nat → Int32} {x : Nat} (h : x < 21) (k : Int32) : f_top (stp v) x k = f_top v x k := by
  unfold f_top
  rw [stp_at (by omega), stp_hgt]
theorem stp_cost {v : Nat → Int32} {x : Nat} (h : x < 21) (k : Int32) : f_cost (stp v) x k = f_cost v x k := by
  unfold f_cost
  rw [stp_at (by omega), stp_hgt]
theorem stp_room {v : Nat → Int32} {a tA b tB : Int32} {x : Nat} (h : x < 21) : f_room (stp v) a tA b tB x = f_room v a tA b tB x := by
  unfold f_room
  rw [stp_at (k := 7 + x) (by omega), stp_at (k := 28 + x) (by omega)]
  rfl
theorem stp_pull {v : Nat → Int32} {a b c : Nat} {ka kb kc : Int32} (ha : a < 21) (hb : b < 21) (hc : c < 21) : f_pull (stp v) a b c ka kb kc = f_pull v a b c ka kb kc := by
  unfold f_pull
  rw [stp_top ha, stp_top hb, stp_top hc]
  rfl
theorem stp_holds {v : Nat → Int32} {a b c : Nat} {ka kb kc : Int32} (ha : a < 21) (hb : b < 21) (hc : c < 21) : f_holds (stp v) a b c ka kb kc ↔ f_holds v a b c ka kb kc := by
  unfold f_holds
  rw [stp_pull ha hb hc]
  exact Iff.rfl
theorem eqOff.lk {A : Nat → Prop} {S S' : sp_M} (h : eqOff A S S') (hA : ∀ a, 1 ≤ a → a ≤ 8 → ¬ A a) : lkv S' = lkv S := by
  unfold lkv
  rw [h.lv (by
    intro a h1 h2
    exact hA a h1 (by omega))]
section T
variable {S : sp_M} {Q : sp_R}
theorem h_topWithK {j : Nat} {k : Int32} (hj : j < 21) (h : Q (some (.int (f_top (lkv S) j k))) S) : MX2_topWith sp_w [.ref 1, .int (nI j), .int k] S Q := by
  unfold lkv at h
  rw [stp_top hj] at h
  exact h_topWith hj h
theorem h_towerCostK {j : Nat} {k : Int32} (hj : j < 21) (h : Q (some (.int (f_cost (lkv S) j k))) S) : MX2_towerCost sp_w [.ref 1, .int (nI j), .int k] S Q := by
  unfold lkv at h
  rw [stp_cost hj] at h
  exact h_towerCost hj h
theorem h_clearsK {a b : Nat} {tA tB : Int32} (hb : b ≤ 21) (hab : a < 21) (h1 : (∀ x, a < x → x < b → 0 ≤ f_room (lkv S) (nI a) tA (nI b) tB x) → Q (some (.int 1)) S) (h0 : ¬ (∀ x, a < x → x < b → 0 ≤ f_room (lkv S) (nI a) tA (nI b) tB x) → Q (some (.int 0)) S) : MX2_clears sp_w [.ref 1, .int (nI a), .int tA, .int (nI b), .int tB] S Q := by
  have e : (∀ x, a < x → x < b → 0 ≤ f_room (lkv S) (nI a) tA (nI b) tB x) ↔ (∀ x, a < x → x < b → 0 ≤ f_room (lv S 1) (nI a) tA (nI b) tB x) := by
    constructor
    · intro h x g1 g2
      have := h x g1 g2
      unfold lkv at this
      rw [stp_room (by omega)] at this
      exact this
    · intro h x g1 g2
      unfold lkv
      rw [stp_room (by omega)]
      exact h x g1 g2
  exact h_clears hb hab (fun g => h1 (e.mpr g)) (fun g => h0 (fun z => g (e.mp z)))
theorem m_costK {j : Nat} {k : Int32} (hj : j < 21) (h : Q (some (.int (f_cost (mkv S) j k))) S) : MX8_cost sp_w [.ref 87, .int (nI j), .int k] S Q := by
  unfold mkv at h
  rw [stp_cost hj] at h
  exact m_cost hj h
theorem m_holdsK {a b c : Nat} {ka kb kc : Int32} (ha : a < 21) (hb : b < 21) (hc : c < 21) (h1 : f_holds (mkv S) a b c ka kb kc → Q (some (.int 1)) S) (h0 : ¬ f_holds (mkv S) a b c ka kb kc → Q (some (.int 0)) S) : MX8_holds sp_w [.ref 87, .int (nI a), .int ka, .int (nI b), .int kb, .int (nI c), .int kc] S Q :=
  m_holds ha hb hc (fun g => h1 ((stp_holds ha hb hc).mpr g)) (fun g => h0 (fun z => g ((stp_holds ha hb hc).mp z)))
theorem m_isClearK {a b : Nat} {ka kb : Int32} (hb : b < 21) (hab : a < 21) (h1 : (∀ x, a < x → x < b → 0 ≤ f_room (mkv S) (nI a) (f_top (mkv S) a ka) (nI b) (f_top (mkv S) b kb) x) → Q (some (.int 1)) S) (h0 : ¬ (∀ x, a < x → x < b → 0 ≤ f_room (mkv S) (nI a) (f_top (mkv S) a ka) (nI b) (f_top (mkv S) b kb) x) → Q (some (.int 0)) S) : MX8_isClear sp_w [.ref 87, .int (nI a), .int ka, .int (nI b), .int kb] S Q := by
  have e : (∀ x, a < x → x < b → 0 ≤ f_room (mkv S) (nI a) (f_top (mkv S) a ka) (nI b) (f_top (mkv S) b kb) x) ↔ (∀ x, a < x → x < b → 0 ≤ f_room (mv S) (nI a) (f_top (mv S) a ka) (nI b) (f_top (mv S) b kb) x) := by
    unfold mkv
    rw [stp_top hab, stp_top hb]
    constructor
    · intro h x g1 g2
      have := h x g1 g2
      rw [stp_room (by omega)] at this
      exact this
    · intro h x g1 g2
      rw [stp_room (by omega)]
      exact h x g1 g2
  exact m_isClear hb hab (fun g => h1 (e.mpr g)) (fun g => h0 (fun z => g (e.mp z)))
end T
