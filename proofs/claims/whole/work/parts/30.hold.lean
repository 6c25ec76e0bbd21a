/-! pulls as whole numbers -/
theorem zN (n : Nat) : nI n = Int32.ofInt (n : Int) := (Int32.ofInt_eq_ofNat).symm
theorem z_le {x y : Int} (h1 : -2147483648 ≤ x) (h2 : x < 2147483648) (h3 : -2147483648 ≤ y) (h4 : y < 2147483648) : Int32.ofInt x ≤ Int32.ofInt y ↔ x ≤ y := by
  rw [Int32.le_iff_toInt_le, Int32.toInt_ofInt_of_le h1 h2, Int32.toInt_ofInt_of_le h3 h4]
def tN (v : Nat → Int32) (x k : Nat) : Nat := vN v (7 + x) + hN v k
def qN (v : Nat → Int32) (x k : Nat) : Nat := tN v x k * vN v 4
section T
variable {v : Nat → Int32} {N : Nat}
theorem hN_mod {k : Nat} : hN v (k % 3) = hN v k := by
  unfold hN
  rw [show k % 3 % 3 = k % 3 by omega]
theorem tN_mod {x k : Nat} : tN v x (k % 3) = tN v x k := by
  unfold tN
  rw [hN_mod]
theorem qN_mod {x k : Nat} : qN v x (k % 3) = qN v x k := by
  unfold qN
  rw [tN_mod]
theorem top_N (hv : lineOK v N) {x k : Nat} (hx : x < 21) (hk : k < 6) : f_top v x (nI k) = nI (tN v x k) := by
  unfold f_top tN
  rw [hgt_N hv hk, ((hv.2.2.1 x hx).1.eq (by omega)).1, nI_add]
  rfl
theorem top_mod (hv : lineOK v N) {x k : Nat} (hx : x < 21) (hk : k < 6) : f_top v x (nI (k % 3)) = f_top v x (nI k) := by
  rw [top_N hv hx hk, top_N hv hx (by omega), tN_mod]
theorem tN_le (hv : lineOK v N) {x k : Nat} (hx : x < 21) : tN v x k ≤ 199 := by
  have h1 := (hv.2.2.1 x hx).1.eq (by omega)
  have h2 := hN_le hv (k := k)
  unfold tN vN
  omega
theorem set_N (hv : lineOK v N) : (v 3 = nI (vN v 3) ∧ vN v 3 ≤ 20) ∧ (v 4 = nI (vN v 4) ∧ 1 ≤ vN v 4 ∧ vN v 4 ≤ 200) ∧ (v 5 = nI (vN v 5) ∧ 1 ≤ vN v 5 ∧ vN v 5 ≤ 8) ∧ (v 6 = nI (vN v 6) ∧ vN v 6 ≤ 9) := by
  have h3 := hv.2.1.2.2.1.eq (by omega)
  have h4 := hv.2.1.2.2.2.1.eq (by omega)
  have h5 := hv.2.1.2.2.2.2.1.eq (by omega)
  have h6 := hv.2.1.2.2.2.2.2.eq (by omega)
  exact ⟨⟨h3.1, h3.2.2⟩, ⟨h4.1, h4.2.1, h4.2.2⟩, ⟨h5.1, h5.2.1, h5.2.2⟩, ⟨h6.1, h6.2.2⟩⟩
theorem qN_le (hv : lineOK v N) {x k : Nat} (hx : x < 21) : qN v x k ≤ 39800 := by
  have := Nat.mul_le_mul (tN_le hv (k := k) hx) (set_N hv).2.1.2.2
  exact this
theorem slI_z (hv : lineOK v N) {a la len lb : Nat} (h1 : 1 ≤ len) (h8 : len ≤ 8) (hb : a + len < 21) (hla : la < 6) (hlb : lb < 6) : slI v a la len lb = Int32.ofInt (((qN v (a + len) lb : Nat) - (qN v a la : Nat) : Int) * ((840 / len : Nat) : Int)) := by
  unfold slI
  rw [top_N hv hb hlb, top_N hv (x := a) (by omega) hla, (set_N hv).2.1.1, show (840 : Int32) / nI len = nI (840 / len) from pk_div (a := 840) (by omega) (by omega) (by omega)]
  rw [zN, zN, zN, zN, ← Int32.ofInt_sub, ← Int32.ofInt_mul, ← Int32.ofInt_mul]
  unfold qN
  rw [Int.natCast_mul, Int.natCast_mul, ← Int.sub_mul]
theorem pA_z (hv : lineOK v N) {a la len lb : Nat} (h1 : 1 ≤ len) (h8 : len ≤ 8) (hb : a + len < 21) (hla : la < 6) (hlb : lb < 6) : pA v a la len lb = Int32.ofInt (((840 * vN v 3 * len : Nat) : Int) - ((qN v (a + len) lb : Nat) - (qN v a la : Nat) : Int) * ((840 / len : Nat) : Int)) := by
  unfold pA
  rw [slI_z hv h1 h8 hb hla hlb, (set_N hv).1.1, show (840 : Int32) = nI 840 from rfl, pk_mul, pk_mul, zN, ← Int32.ofInt_sub]
theorem pB_z (hv : lineOK v N) {a la len lb : Nat} (h1 : 1 ≤ len) (h8 : len ≤ 8) (hb : a + len < 21) (hla : la < 6) (hlb : lb < 6) : pB v a la len lb = Int32.ofInt (((840 * vN v 3 * len : Nat) : Int) + ((qN v (a + len) lb : Nat) - (qN v a la : Nat) : Int) * ((840 / len : Nat) : Int)) := by
  unfold pB
  rw [slI_z hv h1 h8 hb hla hlb, (set_N hv).1.1, show (840 : Int32) = nI 840 from rfl, pk_mul, pk_mul, zN, ← Int32.ofInt_add]
theorem lpI_z (hv : lineOK v N) : lpI v = Int32.ofInt ((840 * (vN v 6 * vN v 4) : Nat) : Int) := by
  unfold lpI
  rw [(set_N hv).2.1.1, (set_N hv).2.2.2.1, show (840 : Int32) = nI 840 from rfl, pk_mul, pk_mul, zN, Nat.mul_assoc, Nat.mul_comm (vN v 4)]
theorem p_bound {u len : Nat} {x y : Nat} (h1 : 1 ≤ len) (h8 : len ≤ 8) (hu : u ≤ 20) (hx : x ≤ 39800) (hy : y ≤ 39800) : -40000000 ≤ ((840 * u * len : Nat) : Int) - ((x : Nat) - (y : Nat) : Int) * ((840 / len : Nat) : Int) ∧ ((840 * u * len : Nat) : Int) - ((x : Nat) - (y : Nat) : Int) * ((840 / len : Nat) : Int) ≤ 40000000 ∧ -40000000 ≤ ((840 * u * len : Nat) : Int) + ((x : Nat) - (y : Nat) : Int) * ((840 / len : Nat) : Int) ∧ ((840 * u * len : Nat) : Int) + ((x : Nat) - (y : Nat) : Int) * ((840 / len : Nat) : Int) ≤ 40000000 := by
  rcases (show len = 1 ∨ len = 2 ∨ len = 3 ∨ len = 4 ∨ len = 5 ∨ len = 6 ∨ len = 7 ∨ len = 8 by omega) with rfl | rfl | rfl | rfl | rfl | rfl | rfl | rfl <;> refine ⟨?_, ?_, ?_, ?_⟩ <;> omega
theorem pA_any (hv : lineOK v N) {a la len lb : Nat} (h1 : 1 ≤ len) (h8 : len ≤ 8) (hb : a + len < 21) (hla : la < 6) (hlb : lb < 6) : -1000000000 ≤ pA v a la len lb := by
  have b := p_bound h1 h8 (set_N hv).1.2 (qN_le hv (x := a + len) (k := lb) hb) (qN_le hv (x := a) (k := la) (by omega))
  rw [pA_z hv h1 h8 hb hla hlb, show (-1000000000 : Int32) = Int32.ofInt (-1000000000) from rfl, z_le (by omega) (by omega) (by omega) (by omega)]
  omega
theorem pB_any (hv : lineOK v N) {a la len lb : Nat} (h1 : 1 ≤ len) (h8 : len ≤ 8) (hb : a + len < 21) (hla : la < 6) (hlb : lb < 6) : -1000000000 ≤ pB v a la len lb := by
  have b := p_bound h1 h8 (set_N hv).1.2 (qN_le hv (x := a + len) (k := lb) hb) (qN_le hv (x := a) (k := la) (by omega))
  rw [pB_z hv h1 h8 hb hla hlb, show (-1000000000 : Int32) = Int32.ofInt (-1000000000) from rfl, z_le (by omega) (by omega) (by omega) (by omega)]
  omega
theorem hold_int {U V A B C len l : Nat} (h1 : 1 ≤ len) (h8 : len ≤ 8) (g1 : 1 ≤ l) (g8 : l ≤ 8) :
    (((840 * V : Nat) : Int) ≤ ((840 * U * len : Nat) : Int) + ((B : Nat) - (A : Nat) : Int) * ((840 / len : Nat) : Int) + (((840 * U * l : Nat) : Int) - ((C : Nat) - (B : Nat) : Int) * ((840 / l : Nat) : Int))) ↔
    (((V * (len * l) : Nat) : Int) ≤ ((U * (len + l) * len * l : Nat) : Int) + (((B : Nat) - (A : Nat) : Int) * l + ((B : Nat) - (C : Nat) : Int) * len)) := by
  rcases (show len = 1 ∨ len = 2 ∨ len = 3 ∨ len = 4 ∨ len = 5 ∨ len = 6 ∨ len = 7 ∨ len = 8 by omega) with rfl | rfl | rfl | rfl | rfl | rfl | rfl | rfl <;> rcases (show l = 1 ∨ l = 2 ∨ l = 3 ∨ l = 4 ∨ l = 5 ∨ l = 6 ∨ l = 7 ∨ l = 8 by omega) with rfl | rfl | rfl | rfl | rfl | rfl | rfl | rfl <;> constructor <;> intro h <;> omega
theorem pull_z (hv : lineOK v N) {a len l ka kb kc : Nat} (h1 : 1 ≤ len) (g1 : 1 ≤ l) (hc : a + len + l < 21) (hka : ka < 6) (hkb : kb < 6) (hkc : kc < 6) : f_pull v a (a + len) (a + len + l) (nI ka) (nI kb) (nI kc) = Int32.ofInt (((vN v 3 * (len + l) * len * l : Nat) : Int) + (((qN v (a + len) kb : Nat) - (qN v a ka : Nat) : Int) * l + ((qN v (a + len) kb : Nat) - (qN v (a + len + l) kc : Nat) : Int) * len)) := by
  unfold f_pull
  rw [top_N hv (x := a) (by omega) hka, top_N hv (x := a + len) (by omega) hkb, top_N hv (x := a + len + l) (by omega) hkc, (set_N hv).1.1, (set_N hv).2.1.1, pk_sub (a := a + len + l) (b := a) (by omega), pk_sub (a := a + len) (b := a) (by omega), pk_sub (a := a + len + l) (b := a + len) (by omega)]
  rw [show a + len + l - a = len + l by omega, show a + len - a = len by omega, show a + len + l - (a + len) = l by omega]
  rw [pk_mul, pk_mul, pk_mul]
  simp only [zN]
  rw [← Int32.ofInt_sub, ← Int32.ofInt_sub, ← Int32.ofInt_mul, ← Int32.ofInt_mul, ← Int32.ofInt_add, ← Int32.ofInt_mul, ← Int32.ofInt_add]
  congr 2
  unfold qN
  rw [Int.natCast_mul, Int.natCast_mul, Int.natCast_mul, ← Int.sub_mul, ← Int.sub_mul, Int.mul_add, Int.mul_comm (_ - _) (vN v 4 : Int), Int.mul_comm (_ - _) (vN v 4 : Int), Int.mul_assoc, Int.mul_assoc]
theorem pull_b {U A B C len l : Nat} (h1 : 1 ≤ len) (h8 : len ≤ 8) (g1 : 1 ≤ l) (g8 : l ≤ 8) (hU : U ≤ 20) (hA : A ≤ 39800) (hB : B ≤ 39800) (hC : C ≤ 39800) : -40000000 ≤ ((U * (len + l) * len * l : Nat) : Int) + (((B : Nat) - (A : Nat) : Int) * l + ((B : Nat) - (C : Nat) : Int) * len) ∧ ((U * (len + l) * len * l : Nat) : Int) + (((B : Nat) - (A : Nat) : Int) * l + ((B : Nat) - (C : Nat) : Int) * len) ≤ 40000000 := by
  rcases (show len = 1 ∨ len = 2 ∨ len = 3 ∨ len = 4 ∨ len = 5 ∨ len = 6 ∨ len = 7 ∨ len = 8 by omega) with rfl | rfl | rfl | rfl | rfl | rfl | rfl | rfl <;> rcases (show l = 1 ∨ l = 2 ∨ l = 3 ∨ l = 4 ∨ l = 5 ∨ l = 6 ∨ l = 7 ∨ l = 8 by omega) with rfl | rfl | rfl | rfl | rfl | rfl | rfl | rfl <;> constructor <;> omega
/-- what is asked of a hanger's pull, in the reference and between the search's parts -/
theorem hold_p (hv : lineOK v N) {a len l ka kb kc : Nat} (h1 : 1 ≤ len) (h8 : len ≤ 8) (g1 : 1 ≤ l) (g8 : l ≤ 8) (hc : a + len + l < 21) (hka : ka < 6) (hkb : kb < 3) (hkc : kc < 6) : f_holds v a (a + len) (a + len + l) (nI ka) (nI kb) (nI kc) ↔ (((840 * (vN v 6 * vN v 4) : Nat) : Int) ≤ ((840 * vN v 3 * len : Nat) : Int) + ((qN v (a + len) kb : Nat) - (qN v a ka : Nat) : Int) * ((840 / len : Nat) : Int) + (((840 * vN v 3 * l : Nat) : Int) - ((qN v (a + len + l) kc : Nat) - (qN v (a + len) kb : Nat) : Int) * ((840 / l : Nat) : Int))) := by
  rw [hold_int h1 h8 g1 g8]
  have b := pull_b h1 h8 g1 g8 (set_N hv).1.2 (qN_le hv (x := a) (k := ka) (by omega)) (qN_le hv (x := a + len) (k := kb) (by omega)) (qN_le hv (x := a + len + l) (k := kc) (by omega))
  have e6 : v 6 * (nI (a + len) - nI a) * (nI (a + len + l) - nI (a + len)) * v 4 = Int32.ofInt ((vN v 6 * vN v 4 * (len * l) : Nat) : Int) := by
    rw [(set_N hv).2.1.1, (set_N hv).2.2.2.1, pk_sub (by omega), pk_sub (by omega), show a + len - a = len by omega, show a + len + l - (a + len) = l by omega, pk_mul, pk_mul, pk_mul, zN]
    congr 2
    rw [Nat.mul_assoc (vN v 6), Nat.mul_assoc (vN v 6), Nat.mul_assoc (vN v 6), Nat.mul_comm (len * l)]
  have b6 : vN v 6 * vN v 4 ≤ 1800 := by
    have := Nat.mul_le_mul (set_N hv).2.2.2.2 (set_N hv).2.1.2.2
    omega
  have b7 : vN v 6 * vN v 4 * (len * l) ≤ 1800 * 64 := Nat.mul_le_mul b6 (Nat.mul_le_mul h8 g8)
  unfold f_holds
  rw [pull_z hv h1 g1 hc hka (by omega) hkc, e6, z_le (by omega) (by omega) (by omega) (by omega)]
  constructor
  · rintro (h | h)
    · exfalso
      have := (nI_ltI (a := 2) (b := kb) (by omega) (by omega)).mp h
      omega
    · exact h
  · exact fun h => Or.inr h
theorem hold_A (hv : lineOK v N) {a len l ka kb kc : Nat} (h1 : 1 ≤ len) (h8 : len ≤ 8) (g1 : 1 ≤ l) (g8 : l ≤ 8) (hc : a + len + l < 21) (hka : ka < 6) (hkb : kb < 3) (hkc : kc < 6) : lpI v - pB v a (ka % 3) len kb ≤ pA v (a + len) kb l (kc % 3) ↔ f_holds v a (a + len) (a + len + l) (nI ka) (nI kb) (nI kc) := by
  rw [hold_p hv h1 h8 g1 g8 hc hka hkb hkc]
  have b1 := p_bound h1 h8 (set_N hv).1.2 (qN_le hv (x := a + len) (k := kb) (by omega)) (qN_le hv (x := a) (k := ka) (by omega))
  have b2 := p_bound g1 g8 (set_N hv).1.2 (qN_le hv (x := a + len + l) (k := kc) (by omega)) (qN_le hv (x := a + len) (k := kb) (by omega))
  have b6 : vN v 6 * vN v 4 ≤ 1800 := by
    have := Nat.mul_le_mul (set_N hv).2.2.2.2 (set_N hv).2.1.2.2
    omega
  rw [pA_z hv g1 g8 hc (by omega) (by omega), pB_z hv h1 h8 (by omega) (by omega) (by omega), lpI_z hv, ← Int32.ofInt_sub, qN_mod, qN_mod, z_le (by omega) (by omega) (by omega) (by omega)]
  constructor <;> intro h <;> omega
theorem hold_B (hv : lineOK v N) {a len l ka kb kc : Nat} (h1 : 1 ≤ len) (h8 : len ≤ 8) (g1 : 1 ≤ l) (g8 : l ≤ 8) (hc : a + len + l < 21) (hka : ka < 6) (hkb : kb < 3) (hkc : kc < 6) : lpI v - pA v (a + len) kb l (kc % 3) ≤ pB v a (ka % 3) len kb ↔ f_holds v a (a + len) (a + len + l) (nI ka) (nI kb) (nI kc) := by
  rw [hold_p hv h1 h8 g1 g8 hc hka hkb hkc]
  have b1 := p_bound h1 h8 (set_N hv).1.2 (qN_le hv (x := a + len) (k := kb) (by omega)) (qN_le hv (x := a) (k := ka) (by omega))
  have b2 := p_bound g1 g8 (set_N hv).1.2 (qN_le hv (x := a + len + l) (k := kc) (by omega)) (qN_le hv (x := a + len) (k := kb) (by omega))
  have b6 : vN v 6 * vN v 4 ≤ 1800 := by
    have := Nat.mul_le_mul (set_N hv).2.2.2.2 (set_N hv).2.1.2.2
    omega
  rw [pA_z hv g1 g8 hc (by omega) (by omega), pB_z hv h1 h8 (by omega) (by omega) (by omega), lpI_z hv, ← Int32.ofInt_sub, qN_mod, qN_mod, z_le (by omega) (by omega) (by omega) (by omega)]
  constructor <;> intro h <;> omega
end T
