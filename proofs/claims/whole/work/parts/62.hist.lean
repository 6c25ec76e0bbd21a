/-! the text and the saved states are made -/
def skT0 : List sp_C := [.inr (.inr (6, [.inl (some 60), .inl (some 61), .inr false, .inr false, .inr false])), .inl 200]
def skT : List sp_C := skT0 ++ skL 61
theorem c_text {l : Launch} : ctMet l yX6_init cX6_init 1 2 9 319 42 6 [.null, .null, .int 0, .int 0, .int 0] 59 skT (fun _ S ex => ex = [] ∧ zr S 59 2) (fun S S' => eqOff (fun a => 61 ≤ a ∧ a < 69) S S') := by
  refine ct_body (by decide) rfl (fun ad _ ex h => by rw [h.1]; exact (Nat.le_of_ble_eq_true rfl)) ?_
  intro p e s m below meth c D g st z h0 ad S ex A ls hpre C hin hr hlk hP hD hl hz0
  obtain ⟨rfl, hzr⟩ := hpre
  obtain ⟨⟨hx, hb, hml, hown⟩, hts, hK, hRO, hz, hA, hzs⟩ := id C
  have hl : lv_has ls 1 [(0, .ref h0)] := hl
  have hS : va_S A s.heap s.heap [] := va_S.rf
  refine ct_obj C hl.1 (lv_at hl 0 rfl) cq_161 cq_93 cq_94 ⟨(Nat.le_of_ble_eq_true rfl), (Nat.le_of_ble_eq_true rfl)⟩ (show decode cX6_init 0 = .ok (.aload_n 0, 1) from by decide +kernel) (show decode cX6_init 1 = .ok (.invokespecial 3, 3) from by decide +kernel) ?_
  refine lv_aload_n (k := 0) hx hb (show decode cX6_init 4 = .ok (.aload_n 0, 1) from by decide +kernel) rfl (lv_at hl 0 rfl) ?_
  refine lv_sipush (n := 200) (v := 200) hx hb (show decode cX6_init 5 = .ok (.sipush 200, 3) from by decide +kernel) (by decide) ?_
  refine ct_arr (ci := 6) (T := TX6) (N := 5) (N' := 200) C hin cq_135 rfl iX6 tyX6 tyX6_ok nmX6 hP hD hS (by decide) rfl (Nat.le_of_ble_eq_true rfl) 0 (by decide) cq_164 rfl rfl (by decide +kernel) (Nat.le_of_ble_eq_true rfl) (Nat.le_of_ble_eq_true rfl) (Nat.le_of_ble_eq_true rfl) (show decode cX6_init 8 = .ok (.newarray .int, 2) from by decide +kernel) (show decode cX6_init 10 = .ok (.putfield 9, 3) from by decide +kernel) (fun q1 H locs hP hD hS => ?_)
  obtain ⟨ad', e59, e60, hout⟩ : ∃ ad' : Nat → Nat, ad' 59 = h0 ∧ ad' 60 = q1 ∧ ∀ i, i < 59 ∨ 61 ≤ i → ad' i = ad i :=
    ⟨fun i => if 59 ≤ i ∧ i < 61 then [h0, q1].getD (i - 59) 0 else ad i, rfl, rfl, fun i hi => if_neg (by omega)⟩
  have hP : va_P D vwCl ([(h0, .inr (6, [.ref q1, .null, .int 0, .int 0, .int 0])), (q1, .inl (g.1, 200, .inl (fun _ => 0)))] ++ []) H := hP
  have hD : va_D A ([(h0, .inr (6, [.ref q1, .null, .int 0, .int 0, .int 0])), (q1, .inl (g.1, 200, .inl (fun _ => 0)))] ++ []) := hD
  refine lv_aload_n (k := 0) hx hb (show decode cX6_init 13 = .ok (.aload_n 0, 1) from by decide +kernel) rfl (lv_at hl 0 rfl) ?_
  refine ct_new (ci := 2) (C' := RX2) (T := TX2) (N := 3) (fs := [.int 0, .null, .null]) C hP hD hS rfl iX2 tyX2 tyX2_ok cq_162 cq_96 cq_77 (fun j hj => by rcases (show j = 0 ∨ j = 1 ∨ j = 2 by omega) with rfl | rfl | rfl <;> rfl) (Nat.le_of_ble_eq_true rfl) (Nat.le_of_ble_eq_true rfl) (show decode cX6_init 14 = .ok (.new 15, 3) from by decide +kernel) (show decode cX6_init 17 = .ok (.dup, 1) from by decide +kernel) (fun q H hq hP hD hS => ?_)
  refine ct_callI (b := 61) (sk := skL 61) (rest := [.ref q, .ref h0]) C (ct_runI (ex := []) (rest := [.ref q, .ref h0]) (ad := ad') (S := S) C c_line rfl hq hP hS cq_99 cq_163 cq_98 cq_77 rfl (by decide +kernel) ⟨(Nat.le_of_ble_eq_true rfl), (Nat.le_of_ble_eq_true rfl)⟩ rfl hl.1 rfl (Nat.le_of_ble_eq_true rfl) (show decode cX6_init 18 = .ok (.invokespecial 17, 3) from by decide +kernel) ⟨(Nat.le_of_ble_eq_true rfl), (Nat.le_of_ble_eq_true rfl)⟩) hP hD hS [2] [0, 1] rfl rfl (by decide) (by decide) (fun u H locs u1 u2 u3 u4 hP hD hS => ?_)
  obtain ⟨u, uS⟩ := u
  have u1 : u 61 = q := u1
  have u2 : ∀ i, i < 61 ∨ 69 ≤ i → u i = ad' i := u2
  have u3 : eqOff (fun a => 61 ≤ a ∧ a < 69) S uS := u3
  refine ct_putF (ci := 6) (T := TX6) (N := 5) (v := .ref q) (ty := .object "SpanSpotter$Line") C hin rfl iX6 tyX6 tyX6_ok nmX6 hP hD hS 1 (by decide) cq_165 rfl rfl (by decide +kernel) rfl rfl (Nat.le_of_ble_eq_true rfl) (show decode cX6_init 21 = .ok (.putfield 18, 3) from by decide +kernel) (fun H locs hP hD hS => ?_)
  have f59 : u 59 = h0 := (u2 59 (by omega)).trans e59
  have f60 : u 60 = q1 := (u2 60 (by omega)).trans e60
  have zr2 : zr uS 59 2 := fun a h1 h2 => by
    obtain ⟨z1, z2, z3⟩ := u3 a (by omega)
    rw [z1, z2, z3]
    exact hzr a h1 h2
  have ew : sp_wz g u 59 skT uS = [(h0, .inr (6, [.ref q1, .ref q, .int 0, .int 0, .int 0])), (q1, .inl (g.1, 200, .inl (fun _ => 0)))] ++ sp_wz g u 61 (skL 61) uS := by
    unfold skT
    rw [sp_wz_app, wz_Z (sk := skT0) zr2, ← f59, ← f60, ← u1]
    rfl
  refine ct_end (b := 59) (sk := skT) C hr hlk (u, uS) f59 (fun i hi => ?_) (u3.mono (fun a h => ?_)) u3 ?_ ?_ hS (show decode cX6_init 24 = .ok (.return_, 1) from by decide +kernel) (Nat.le_of_ble_eq_true rfl) (Nat.le_of_ble_eq_true rfl)
  · have hi' : i < 59 ∨ 69 ≤ i := hi
    exact (u2 i (by omega)).trans (hout i (by omega))
  · have : skT.length = 10 := rfl
    omega
  · show va_P D vwCl (sp_wz g u 59 skT uS) _
    rw [ew]
    exact hP
  · show va_D A (sp_wz g u 59 skT uS)
    rw [ew]
    exact hD
def preL : Nat → List sp_C
  | 0 => []
  | i + 1 => preL i ++ skL (11 + 8 * i)
theorem preL_len : ∀ i, (preL i).length = 8 * i
  | 0 => rfl
  | i + 1 => by
    unfold preL
    rw [List.length_append, preL_len i, show (skL (11 + 8 * i)).length = 8 from rfl]
    omega
theorem preL_rf : ∀ i, rfB (preL i) (11 + 8 * i)
  | 0 => rfB.nil
  | i + 1 => by
    unfold preL
    exact rfB.app ((preL_rf i).up (by omega)) (skL_rf.up (by omega))
def skH0 : List sp_C := [.inr (.inr (1, [.inl (some 10), .inr false, .inr false])), .inr (.inl (0, 6, fun j => [some 11, some 19, some 27, some 35, some 43, some 51].getD j none))]
def skH : List sp_C := skH0 ++ preL 6
def rgF (ad : Nat → Nat) (i : Nat) : Nat → Option Nat := fun j => if j < i then some (ad (11 + 8 * j)) else none
theorem rgF_ad {ad ad' : Nat → Nat} {i : Nat} (h : ∀ j, j < i → ad (11 + 8 * j) = ad' (11 + 8 * j)) : rgF ad i = rgF ad' i := by
  funext j
  unfold rgF
  split
  · rename_i hj
    rw [h j hj]
  · rfl
theorem rgF_s {ad : Nat → Nat} {i : Nat} : va_up (rgF ad i) i (some (ad (11 + 8 * i))) = rgF ad (i + 1) := by
  funext j
  unfold va_up rgF
  by_cases h : j = i
  · subst h
    rw [if_pos rfl, if_pos (by omega)]
  · rw [if_neg h]
    by_cases h2 : j < i
    · rw [if_pos h2, if_pos (by omega)]
    · rw [if_neg h2, if_neg (by omega)]
theorem rgF_6 {ad : Nat → Nat} : rgF ad 6 = fun j => ([some 11, some 19, some 27, some 35, some 43, some 51].getD j none).map ad := by
  funext j
  rcases j with _ | _ | _ | _ | _ | _ | j
  · rfl
  · rfl
  · rfl
  · rfl
  · rfl
  · rfl
  · unfold rgF
    rw [if_neg (by omega)]
    rfl
theorem ring_cls {s : State} {D : va_G} {g : sp_G} (hK : va_K D vwCl (sp_ty g) s) {cA : ClassId} (h : va_K D vwCl (sp_ty g ++ [(cA, .object "SpanSpotter$Line")]) s) : cA = g.2.1 := by
  obtain ⟨k1, c1, -, -, -, h1⟩ := (hK.2 1 (g.2.1, .object "SpanSpotter$Line") rfl).2
  obtain ⟨k2, c2, -, -, -, h2⟩ := (h.2 3 (cA, .object "SpanSpotter$Line") rfl).2
  exact Option.some.inj (h2.symm.trans h1)
theorem line_at8 {g : sp_G} {u : Nat → Nat} {uS : sp_M} {i : Nat} : (sp_wz g u 11 (preL (i + 1)) uS)[8 * i]? = some (u (11 + 8 * i), .inr (2, [.int (uS.1 (11 + 8 * i) 0), .ref (u (11 + 8 * i + 1)), .ref (u (11 + 8 * i + 7))])) := by
  have e : (preL (i + 1))[8 * i]? = some (.inr (.inr (2, [.inr false, .inl (some (11 + 8 * i + 1)), .inl (some (11 + 8 * i + 7))]))) := by
    unfold preL
    rw [List.getElem?_append_right (by rw [preL_len]; omega), preL_len, Nat.sub_self]
    rfl
  unfold sp_wz
  rw [List.getElem?_mapIdx, e]
  rfl
theorem c_hist {l : Launch} : ctMet l yX1_init cX1_init 2 2 49 720 42 1 [.null, .int 0, .int 0] 9 skH (fun _ S ex => ex = [] ∧ zr S 9 2) (fun S S' => eqOff (fun a => 11 ≤ a ∧ a < 59) S S') := by
  refine ct_body (by decide) rfl (fun ad _ ex h => by rw [h.1]; exact (Nat.le_of_ble_eq_true rfl)) ?_
  intro p e s m below meth c D g st z h0 ad S ex A ls hpre C hin hr hlk hP hD hl hz0
  obtain ⟨rfl, hzr⟩ := hpre
  obtain ⟨⟨hx, hb, hml, hown⟩, hts, hK, hRO, hz, hA, hzs⟩ := id C
  have hl : lv_has ls 2 [(0, .ref h0)] := hl
  have hS : va_S A s.heap s.heap [] := va_S.rf
  refine ct_obj C hl.1 (lv_at hl 0 rfl) cq_141 cq_93 cq_94 ⟨(Nat.le_of_ble_eq_true rfl), (Nat.le_of_ble_eq_true rfl)⟩ (show decode cX1_init 0 = .ok (.aload_n 0, 1) from by decide +kernel) (show decode cX1_init 1 = .ok (.invokespecial 3, 3) from by decide +kernel) ?_
  refine lv_aload_n (k := 0) hx hb (show decode cX1_init 4 = .ok (.aload_n 0, 1) from by decide +kernel) rfl (lv_at hl 0 rfl) ?_
  refine lv_bipush (n := 6) (v := 6) hx hb (show decode cX1_init 5 = .ok (.bipush 6, 2) from by decide +kernel) (by decide) ?_
  refine va_newq (C := "SpanSpotter$Line") (N' := 6) hx hb hown (hts _ cq_142) hRO.2.1.1 hK hP hD hS hA (by decide) rfl (Nat.le_of_ble_eq_true rfl) (Nat.le_of_ble_eq_true rfl) (Nat.le_of_ble_eq_true rfl) (show decode cX1_init 7 = .ok (.anewarray 9, 3) from by decide +kernel) (fun rr cA H hK1 hP hD hS => ?_)
  have ec := ring_cls hK hK1
  subst ec
  refine ct_putF (ci := 1) (T := TX1) (N := 3) (v := .ref rr) (ty := .array (.object "SpanSpotter$Line")) C hin rfl iX1 tyX1 tyX1_ok nmX1 hP hD hS 0 (by decide) cq_145 rfl rfl (by decide +kernel) rfl rfl (Nat.le_of_ble_eq_true rfl) (show decode cX1_init 10 = .ok (.putfield 11, 3) from by decide +kernel) (fun H locs hP hD hS => ?_)
  obtain ⟨ad', e9, e10, hout⟩ : ∃ ad' : Nat → Nat, ad' 9 = h0 ∧ ad' 10 = rr ∧ ∀ i, i < 9 ∨ 11 ≤ i → ad' i = ad i :=
    ⟨fun i => if 9 ≤ i ∧ i < 11 then [h0, rr].getD (i - 9) 0 else ad i, rfl, rfl, fun i hi => if_neg (by omega)⟩
  refine lv_iconst (n := 0) (v := 0) hx hb (show decode cX1_init 13 = .ok (.iconst 0, 1) from by decide +kernel) (by decide) ?_
  refine lv_istore_n (k := 1) (lv' := [(1, .int 0), (0, .ref h0)]) hx hb (show decode cX1_init 14 = .ok (.istore_n 1, 1) from by decide +kernel) rfl hl (by decide) rfl (fun ls hl => ?_)
  have loop : ∀ (k i : Nat) (adi : Nat → Nat) (Si : sp_M) (H : Heap) (locs : List Loc) (ls : Array Slot), i + k = 6 → (∀ j, j < 11 ∨ 59 ≤ j → adi j = ad' j) → eqOff (fun a => 11 ≤ a ∧ a < 59) S Si → va_P D vwCl ([(h0, .inr (1, [.ref rr, .int 0, .int 0])), (rr, .inl (g.2.1, 6, .inr (.inr (.inr (.inr (rgF adi i))))))] ++ sp_wz g adi 11 (preL i) Si) H → va_D A ([(h0, .inr (1, [.ref rr, .int 0, .int 0])), (rr, .inl (g.2.1, 6, .inr (.inr (.inr (.inr (rgF adi i))))))] ++ sp_wz g adi 11 (preL i) Si) → va_S A s.heap H locs → lv_has ls 2 [(1, .int (nI i)), (0, .ref h0)] →
      W p l e { frames := 2, cells := 49, slots := 720, locals := 42 } s m (Value.ref h0 :: []).toArray below meth c H locs (1 + 8 * i) (6 + 119 * i) (MQ below (ctQA D g 9 skH ad S (fun S S' => eqOff (fun a => 11 ≤ a ∧ a < 59) S S') h0 A) (Value.ref h0 :: []).toArray s 49 720 A) (F0 m 15 ls []) := by
    intro k
    induction k with
    | zero =>
      intro i adi Si H locs ls hi hout2 heq hP hD hS hl
      obtain rfl : i = 6 := by omega
      refine lv_iload_n (k := 1) hx hb (show decode cX1_init 15 = .ok (.iload_n 1, 1) from by decide +kernel) rfl (lv_at hl 0 rfl) ?_
      refine lv_bipush (n := 6) (v := 6) hx hb (show decode cX1_init 16 = .ok (.bipush 6, 2) from by decide +kernel) (by decide) ?_
      refine lv_icmp_ge (tgt := 40) hx hb (show decode cX1_init 18 = .ok (.if_icmp .ge 22, 3) from by decide +kernel) (by decide) (fun _ => ?_) (fun q => absurd (by decide) q)
      have f9 : adi 9 = h0 := (hout2 9 (by omega)).trans e9
      have f10 : adi 10 = rr := (hout2 10 (by omega)).trans e10
      have zr2 : zr Si 9 2 := fun a h1 h2 => by
        obtain ⟨z1, z2, z3⟩ := heq a (by omega)
        rw [z1, z2, z3]
        exact hzr a h1 h2
      have ew : sp_wz g adi 9 skH Si = [(h0, .inr (1, [.ref rr, .int 0, .int 0])), (rr, .inl (g.2.1, 6, .inr (.inr (.inr (.inr (rgF adi 6))))))] ++ sp_wz g adi 11 (preL 6) Si := by
        unfold skH
        rw [sp_wz_app, wz_Z (sk := skH0) zr2, ← f9, ← f10, rgF_6]
        rfl
      refine ct_end (b := 9) (sk := skH) C hr hlk (adi, Si) f9 (fun i hi => ?_) (heq.mono (fun a h => ?_)) heq ?_ ?_ hS (show decode cX1_init 40 = .ok (.return_, 1) from by decide +kernel) (Nat.le_of_ble_eq_true rfl) (Nat.le_of_ble_eq_true rfl)
      · have hi' : i < 9 ∨ 59 ≤ i := hi
        exact (hout2 i (by omega)).trans (hout i (by omega))
      · have : skH.length = 50 := rfl
        omega
      · show va_P D vwCl (sp_wz g adi 9 skH Si) _
        rw [ew]
        exact hP
      · show va_D A (sp_wz g adi 9 skH Si)
        rw [ew]
        exact hD
    | succ k ih =>
      intro i adi Si H locs ls hi hout2 heq hP hD hS hl
      have hbi : vp_in (nI i) 6 := in_n (by omega) (by decide)
      refine lv_iload_n (k := 1) hx hb (show decode cX1_init 15 = .ok (.iload_n 1, 1) from by decide +kernel) rfl (lv_at hl 0 rfl) ?_
      refine lv_bipush (n := 6) (v := 6) hx hb (show decode cX1_init 16 = .ok (.bipush 6, 2) from by decide +kernel) (by decide) ?_
      refine lv_icmp_ge (tgt := 40) hx hb (show decode cX1_init 18 = .ok (.if_icmp .ge 22, 3) from by decide +kernel) (by decide) (fun q => absurd q (nI_ge (b := 6) (by omega) (by omega))) (fun _ => ?_)
      refine lv_aload_n (k := 0) hx hb (show decode cX1_init 21 = .ok (.aload_n 0, 1) from by decide +kernel) rfl (lv_at hl 1 rfl) ?_
      refine ct_get (ci := 1) (T := TX1) (N := 3) (v := .ref rr) C rfl iX1 hP 0 (by decide) cq_145 rfl rfl (show decode cX1_init 22 = .ok (.getfield 11, 3) from by decide +kernel) ?_
      refine lv_iload_n (k := 1) hx hb (show decode cX1_init 25 = .ok (.iload_n 1, 1) from by decide +kernel) rfl (lv_at hl 0 rfl) ?_
      refine ct_new (ci := 2) (C' := RX2) (T := TX2) (N := 3) (fs := [.int 0, .null, .null]) C hP hD hS rfl iX2 tyX2 tyX2_ok cq_142 cq_96 cq_77 (fun j hj => by rcases (show j = 0 ∨ j = 1 ∨ j = 2 by omega) with rfl | rfl | rfl <;> rfl) (by show 1 + 8 * i + 1 ≤ 49; omega) (by show 6 + 119 * i + 3 ≤ 720; omega) (show decode cX1_init 26 = .ok (.new 9, 3) from by decide +kernel) (show decode cX1_init 29 = .ok (.dup, 1) from by decide +kernel) (fun q H hq hP hD hS => ?_)
      refine ct_callI (b := 11 + 8 * i) (sk := skL (11 + 8 * i)) (rest := [.ref q, .int (nI i), .ref rr]) C (ct_runI (ex := []) (rest := [.ref q, .int (nI i), .ref rr]) (ad := adi) (S := Si) C c_line rfl hq hP hS cq_99 cq_144 cq_98 cq_77 rfl (by decide +kernel) ⟨(Nat.le_of_ble_eq_true rfl), (Nat.le_of_ble_eq_true rfl)⟩ rfl hl.1 rfl (Nat.le_of_ble_eq_true rfl) (show decode cX1_init 30 = .ok (.invokespecial 17, 3) from by decide +kernel) ⟨by show 1 + 8 * i + 1 + 7 ≤ 49; omega, by show 6 + 119 * i + 3 + 116 ≤ 720; omega⟩) hP hD hS [2] [0, 1] rfl rfl (by decide) (by decide) (fun u H locs u1 u2 u3 u4 hP hD hS => ?_)
      obtain ⟨u, uS⟩ := u
      have u1 : u (11 + 8 * i) = q := u1
      have u2' : ∀ j, j < 11 + 8 * i ∨ 11 + 8 * i + 8 ≤ j → u j = adi j := u2
      have u3' : eqOff (fun a => 11 + 8 * i ≤ a ∧ a < 11 + 8 * i + 8) Si uS := u3
      have em := sp_wz_more (g := g) (b0 := 11) (pre := preL i) (sk := skL (11 + 8 * i)) (S := Si) (ad := adi) (u := (u, uS)) (b := 11 + 8 * i) (by rw [preL_len]) (preL_rf i) u2 u3
      rw [em, rgF_ad (fun j hj => (u2' (11 + 8 * j) (by omega)).symm)] at hP hD
      have hP : va_P D vwCl ([(h0, .inr (1, [.ref rr, .int 0, .int 0])), (rr, .inl (g.2.1, 6, .inr (.inr (.inr (.inr (rgF u i))))))] ++ sp_wz g u 11 (preL (i + 1)) uS) H := hP
      have hD : va_D A ([(h0, .inr (1, [.ref rr, .int 0, .int 0])), (rr, .inl (g.2.1, 6, .inr (.inr (.inr (.inr (rgF u i))))))] ++ sp_wz g u 11 (preL (i + 1)) uS) := hD
      refine va_astq (r := (RX2, TX2, 3)) (vs := [.int (uS.1 (11 + 8 * i) 0), .ref (u (11 + 8 * i + 1)), .ref (u (11 + 8 * i + 7))]) hx hb hK hP hD hS 1 1 (8 * i + 2) 2 rfl rfl (by
        rw [List.getElem?_append_right (by simp), ← u1]
        exact line_at8) rfl hbi (show decode cX1_init 33 = .ok (.aastore, 1) from by decide +kernel) (fun H locs hP hD hS => ?_)
      rw [nI_clamp (by omega), ← u1, rgF_s] at hP hD
      have hP : va_P D vwCl ([(h0, .inr (1, [.ref rr, .int 0, .int 0])), (rr, .inl (g.2.1, 6, .inr (.inr (.inr (.inr (rgF u (i + 1)))))))] ++ sp_wz g u 11 (preL (i + 1)) uS) H := hP
      have hD : va_D A ([(h0, .inr (1, [.ref rr, .int 0, .int 0])), (rr, .inl (g.2.1, 6, .inr (.inr (.inr (.inr (rgF u (i + 1)))))))] ++ sp_wz g u 11 (preL (i + 1)) uS) := hD
      refine lv_iinc (n := 1) (v := nI (i + 1)) (lv' := [(1, .int (nI (i + 1))), (0, .ref h0)]) hx hb (show decode cX1_init 34 = .ok (.iinc 1 1, 3) from by decide +kernel) hl (k := 0) rfl (nI_1 i) (by decide) rfl (fun ls hl => ?_)
      refine lv_goto (tgt := 15) hx hb (show decode cX1_init 37 = .ok (.goto (-22), 3) from by decide +kernel) (by decide) ?_
      refine W.widen (k := 1 + 8 * (i + 1)) (n := 6 + 119 * (i + 1)) (by omega) (by omega) ?_
      exact ih (i + 1) u uS H locs ls (by omega) (fun j hj => (u2' j (by omega)).trans (hout2 j hj)) ((heq.tr u3').mono (by omega)) hP hD hS hl
  refine W.widen (k := 1 + 8 * 0) (n := 6 + 119 * 0) (Nat.le_of_ble_eq_true rfl) (Nat.le_of_ble_eq_true rfl) ?_
  exact loop 6 0 ad' S H locs ls (by omega) (fun _ _ => rfl) eqOff.rf hP hD hS hl
