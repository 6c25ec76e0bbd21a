/-- the cells of both objects behind their constructors -/
def sp_sk : List sp_C := [.inr (.inr (7, [.inl (some 1), .inl (some 9), .inl (some 59), .inl (some 69), .inl (some 72), .inl (some 84), .inr false, .inr false, .inr false, .inr false, .inr false, .inr true, .inr true])),
  .inr (.inr (2, [.inr false, .inl (some 2), .inl (some 8)])),
  .inr (.inl (1, 5, fun j => [some 3, some 4, some 5, some 6, some 7].getD j none)),
  .inl 21,
  .inl 21,
  .inl 21,
  .inl 21,
  .inl 21,
  .inl 6,
  .inr (.inr (1, [.inl (some 10), .inr false, .inr false])),
  .inr (.inl (0, 6, fun j => [some 11, some 19, some 27, some 35, some 43, some 51].getD j none)),
  .inr (.inr (2, [.inr false, .inl (some 12), .inl (some 18)])),
  .inr (.inl (1, 5, fun j => [some 13, some 14, some 15, some 16, some 17].getD j none)),
  .inl 21,
  .inl 21,
  .inl 21,
  .inl 21,
  .inl 21,
  .inl 6,
  .inr (.inr (2, [.inr false, .inl (some 20), .inl (some 26)])),
  .inr (.inl (1, 5, fun j => [some 21, some 22, some 23, some 24, some 25].getD j none)),
  .inl 21,
  .inl 21,
  .inl 21,
  .inl 21,
  .inl 21,
  .inl 6,
  .inr (.inr (2, [.inr false, .inl (some 28), .inl (some 34)])),
  .inr (.inl (1, 5, fun j => [some 29, some 30, some 31, some 32, some 33].getD j none)),
  .inl 21,
  .inl 21,
  .inl 21,
  .inl 21,
  .inl 21,
  .inl 6,
  .inr (.inr (2, [.inr false, .inl (some 36), .inl (some 42)])),
  .inr (.inl (1, 5, fun j => [some 37, some 38, some 39, some 40, some 41].getD j none)),
  .inl 21,
  .inl 21,
  .inl 21,
  .inl 21,
  .inl 21,
  .inl 6,
  .inr (.inr (2, [.inr false, .inl (some 44), .inl (some 50)])),
  .inr (.inl (1, 5, fun j => [some 45, some 46, some 47, some 48, some 49].getD j none)),
  .inl 21,
  .inl 21,
  .inl 21,
  .inl 21,
  .inl 21,
  .inl 6,
  .inr (.inr (2, [.inr false, .inl (some 52), .inl (some 58)])),
  .inr (.inl (1, 5, fun j => [some 53, some 54, some 55, some 56, some 57].getD j none)),
  .inl 21,
  .inl 21,
  .inl 21,
  .inl 21,
  .inl 21,
  .inl 6,
  .inr (.inr (6, [.inl (some 60), .inl (some 61), .inr false, .inr false, .inr false])),
  .inl 200,
  .inr (.inr (2, [.inr false, .inl (some 62), .inl (some 68)])),
  .inr (.inl (1, 5, fun j => [some 63, some 64, some 65, some 66, some 67].getD j none)),
  .inl 21,
  .inl 21,
  .inl 21,
  .inl 21,
  .inl 21,
  .inl 6,
  .inr (.inr (0, [.inl (some 70), .inl (some 71), .inr false, .inr false])),
  .inl 105,
  .inl 105,
  .inr (.inr (4, [.inl (some 1), .inl (some 73), .inl (some 74), .inl (some 75), .inl (some 76), .inl (some 77), .inl (some 78), .inl (some 79), .inl (some 80), .inl (some 81), .inr false, .inr false, .inr false, .inr false, .inr false, .inl (some 82), .inl (some 83)])),
  .inl 126,
  .inl 1512,
  .inl 1512,
  .inl 1512,
  .inl 1512,
  .inl 63,
  .inl 63,
  .inl 63,
  .inr (.inr (5, [.inr false, .inr false, .inr false])),
  .inl 21,
  .inl 21,
  .inr (.inr (3, [.inl (some 1), .inl (some 72), .inl (some 85), .inl (some 86)])),
  .inl 1512,
  .inl 21,
  .inr (.inr (8, [.inl (some 88), .inl (some 89), .inr false, .inr false, .inl (some 90), .inr false, .inl (some 91), .inr false, .inr false, .inl (some 92), .inr true, .inr true, .inl (some 93), .inl (some 94), .inl (some 95), .inl (some 96), .inl (some 97), .inl (some 98), .inr false, .inr false, .inr false, .inr false, .inr false, .inr false, .inl (some 99), .inr false, .inl (some 100)])),
  .inl 112,
  .inl 672,
  .inl 3,
  .inl 200,
  .inl 112,
  .inl 6804,
  .inl 6804,
  .inl 6804,
  .inl 6804,
  .inl 6804,
  .inl 6804,
  .inl 21,
  .inl 21]
def sp_ro : Nat → Nat × (Nat → Int32)
  | 0 => (5, fun j => [0, 5, 0, 0, -1].getD j 0)
  | 1 => (5, fun j => [99, 30, 9, 1, 5].getD j 0)
  | 2 => (6, fun j => [12, 4, 1, 10, 4, 0].getD j 0)
  | 3 => (6, fun j => [1, 0, 0, 1, 1, 0].getD j 0)
  | _ => (6, fun j => [60, 20, 20, 200, 8, 9].getD j 0)
def sp_w : sp_W := (sp_sk, sp_ro)
theorem gf_0_0 (S : sp_M) : sp_gf sp_w.1 S 0 7 0 = some (.ref 1) := rfl
theorem gf_0_1 (S : sp_M) : sp_gf sp_w.1 S 0 7 1 = some (.ref 9) := rfl
theorem gf_0_2 (S : sp_M) : sp_gf sp_w.1 S 0 7 2 = some (.ref 59) := rfl
theorem gf_0_3 (S : sp_M) : sp_gf sp_w.1 S 0 7 3 = some (.ref 69) := rfl
theorem gf_0_4 (S : sp_M) : sp_gf sp_w.1 S 0 7 4 = some (.ref 72) := rfl
theorem gf_0_5 (S : sp_M) : sp_gf sp_w.1 S 0 7 5 = some (.ref 84) := rfl
theorem gf_0_6 (S : sp_M) : sp_gf sp_w.1 S 0 7 6 = some (.int (S.1 0 6)) := rfl
theorem pf_0_6 (S : sp_M) (x : Int32) : sp_pf sp_w.1 S 0 7 6 (.int x) = some (sp_uI S 0 6 x) := rfl
theorem gf_0_7 (S : sp_M) : sp_gf sp_w.1 S 0 7 7 = some (.int (S.1 0 7)) := rfl
theorem pf_0_7 (S : sp_M) (x : Int32) : sp_pf sp_w.1 S 0 7 7 (.int x) = some (sp_uI S 0 7 x) := rfl
theorem gf_0_8 (S : sp_M) : sp_gf sp_w.1 S 0 7 8 = some (.int (S.1 0 8)) := rfl
theorem pf_0_8 (S : sp_M) (x : Int32) : sp_pf sp_w.1 S 0 7 8 (.int x) = some (sp_uI S 0 8 x) := rfl
theorem gf_0_9 (S : sp_M) : sp_gf sp_w.1 S 0 7 9 = some (.int (S.1 0 9)) := rfl
theorem pf_0_9 (S : sp_M) (x : Int32) : sp_pf sp_w.1 S 0 7 9 (.int x) = some (sp_uI S 0 9 x) := rfl
theorem gf_0_10 (S : sp_M) : sp_gf sp_w.1 S 0 7 10 = some (.int (S.1 0 10)) := rfl
theorem pf_0_10 (S : sp_M) (x : Int32) : sp_pf sp_w.1 S 0 7 10 (.int x) = some (sp_uI S 0 10 x) := rfl
theorem gf_0_11 (S : sp_M) : sp_gf sp_w.1 S 0 7 11 = some (.long (S.2.1 0 11)) := rfl
theorem pf_0_11 (S : sp_M) (x : Int64) : sp_pf sp_w.1 S 0 7 11 (.long x) = some (sp_uJ S 0 11 x) := rfl
theorem gf_0_12 (S : sp_M) : sp_gf sp_w.1 S 0 7 12 = some (.long (S.2.1 0 12)) := rfl
theorem pf_0_12 (S : sp_M) (x : Int64) : sp_pf sp_w.1 S 0 7 12 (.long x) = some (sp_uJ S 0 12 x) := rfl
theorem cl_0 : sp_cl sp_w.1 0 = some 7 := rfl
theorem gf_1_0 (S : sp_M) : sp_gf sp_w.1 S 1 2 0 = some (.int (S.1 1 0)) := rfl
theorem pf_1_0 (S : sp_M) (x : Int32) : sp_pf sp_w.1 S 1 2 0 (.int x) = some (sp_uI S 1 0 x) := rfl
theorem gf_1_1 (S : sp_M) : sp_gf sp_w.1 S 1 2 1 = some (.ref 2) := rfl
theorem gf_1_2 (S : sp_M) : sp_gf sp_w.1 S 1 2 2 = some (.ref 8) := rfl
theorem cl_1 : sp_cl sp_w.1 1 = some 2 := rfl
theorem sk_2 : sp_w.1[2]? = some (.inr (.inl (1, 5, fun j => [some 3, some 4, some 5, some 6, some 7].getD j none))) := rfl
theorem sk_3 : sp_w.1[3]? = some (.inl 21) := rfl
theorem ia_3 (S : sp_M) : sp_ia sp_w S 3 = some (21, S.2.2 3) := rfl
theorem sk_4 : sp_w.1[4]? = some (.inl 21) := rfl
theorem ia_4 (S : sp_M) : sp_ia sp_w S 4 = some (21, S.2.2 4) := rfl
theorem sk_5 : sp_w.1[5]? = some (.inl 21) := rfl
theorem ia_5 (S : sp_M) : sp_ia sp_w S 5 = some (21, S.2.2 5) := rfl
theorem sk_6 : sp_w.1[6]? = some (.inl 21) := rfl
theorem ia_6 (S : sp_M) : sp_ia sp_w S 6 = some (21, S.2.2 6) := rfl
theorem sk_7 : sp_w.1[7]? = some (.inl 21) := rfl
theorem ia_7 (S : sp_M) : sp_ia sp_w S 7 = some (21, S.2.2 7) := rfl
theorem sk_8 : sp_w.1[8]? = some (.inl 6) := rfl
theorem ia_8 (S : sp_M) : sp_ia sp_w S 8 = some (6, S.2.2 8) := rfl
theorem gf_9_0 (S : sp_M) : sp_gf sp_w.1 S 9 1 0 = some (.ref 10) := rfl
theorem gf_9_1 (S : sp_M) : sp_gf sp_w.1 S 9 1 1 = some (.int (S.1 9 1)) := rfl
theorem pf_9_1 (S : sp_M) (x : Int32) : sp_pf sp_w.1 S 9 1 1 (.int x) = some (sp_uI S 9 1 x) := rfl
theorem gf_9_2 (S : sp_M) : sp_gf sp_w.1 S 9 1 2 = some (.int (S.1 9 2)) := rfl
theorem pf_9_2 (S : sp_M) (x : Int32) : sp_pf sp_w.1 S 9 1 2 (.int x) = some (sp_uI S 9 2 x) := rfl
theorem cl_9 : sp_cl sp_w.1 9 = some 1 := rfl
theorem sk_10 : sp_w.1[10]? = some (.inr (.inl (0, 6, fun j => [some 11, some 19, some 27, some 35, some 43, some 51].getD j none))) := rfl
theorem gf_11_0 (S : sp_M) : sp_gf sp_w.1 S 11 2 0 = some (.int (S.1 11 0)) := rfl
theorem pf_11_0 (S : sp_M) (x : Int32) : sp_pf sp_w.1 S 11 2 0 (.int x) = some (sp_uI S 11 0 x) := rfl
theorem gf_11_1 (S : sp_M) : sp_gf sp_w.1 S 11 2 1 = some (.ref 12) := rfl
theorem gf_11_2 (S : sp_M) : sp_gf sp_w.1 S 11 2 2 = some (.ref 18) := rfl
theorem cl_11 : sp_cl sp_w.1 11 = some 2 := rfl
theorem sk_12 : sp_w.1[12]? = some (.inr (.inl (1, 5, fun j => [some 13, some 14, some 15, some 16, some 17].getD j none))) := rfl
theorem sk_13 : sp_w.1[13]? = some (.inl 21) := rfl
theorem ia_13 (S : sp_M) : sp_ia sp_w S 13 = some (21, S.2.2 13) := rfl
theorem sk_14 : sp_w.1[14]? = some (.inl 21) := rfl
theorem ia_14 (S : sp_M) : sp_ia sp_w S 14 = some (21, S.2.2 14) := rfl
theorem sk_15 : sp_w.1[15]? = some (.inl 21) := rfl
theorem ia_15 (S : sp_M) : sp_ia sp_w S 15 = some (21, S.2.2 15) := rfl
theorem sk_16 : sp_w.1[16]? = some (.inl 21) := rfl
theorem ia_16 (S : sp_M) : sp_ia sp_w S 16 = some (21, S.2.2 16) := rfl
theorem sk_17 : sp_w.1[17]? = some (.inl 21) := rfl
theorem ia_17 (S : sp_M) : sp_ia sp_w S 17 = some (21, S.2.2 17) := rfl
theorem sk_18 : sp_w.1[18]? = some (.inl 6) := rfl
theorem ia_18 (S : sp_M) : sp_ia sp_w S 18 = some (6, S.2.2 18) := rfl
theorem gf_19_0 (S : sp_M) : sp_gf sp_w.1 S 19 2 0 = some (.int (S.1 19 0)) := rfl
theorem pf_19_0 (S : sp_M) (x : Int32) : sp_pf sp_w.1 S 19 2 0 (.int x) = some (sp_uI S 19 0 x) := rfl
theorem gf_19_1 (S : sp_M) : sp_gf sp_w.1 S 19 2 1 = some (.ref 20) := rfl
theorem gf_19_2 (S : sp_M) : sp_gf sp_w.1 S 19 2 2 = some (.ref 26) := rfl
theorem cl_19 : sp_cl sp_w.1 19 = some 2 := rfl
theorem sk_20 : sp_w.1[20]? = some (.inr (.inl (1, 5, fun j => [some 21, some 22, some 23, some 24, some 25].getD j none))) := rfl
theorem sk_21 : sp_w.1[21]? = some (.inl 21) := rfl
theorem ia_21 (S : sp_M) : sp_ia sp_w S 21 = some (21, S.2.2 21) := rfl
theorem sk_22 : sp_w.1[22]? = some (.inl 21) := rfl
theorem ia_22 (S : sp_M) : sp_ia sp_w S 22 = some (21, S.2.2 22) := rfl
theorem sk_23 : sp_w.1[23]? = some (.inl 21) := rfl
theorem ia_23 (S : sp_M) : sp_ia sp_w S 23 = some (21, S.2.2 23) := rfl
theorem sk_24 : sp_w.1[24]? = some (.inl 21) := rfl
theorem ia_24 (S : sp_M) : sp_ia sp_w S 24 = some (21, S.2.2 24) := rfl
theorem sk_25 : sp_w.1[25]? = some (.inl 21) := rfl
theorem ia_25 (S : sp_M) : sp_ia sp_w S 25 = some (21, S.2.2 25) := rfl
theorem sk_26 : sp_w.1[26]? = some (.inl 6) := rfl
theorem ia_26 (S : sp_M) : sp_ia sp_w S 26 = some (6, S.2.2 26) := rfl
theorem gf_27_0 (S : sp_M) : sp_gf sp_w.1 S 27 2 0 = some (.int (S.1 27 0)) := rfl
theorem pf_27_0 (S : sp_M) (x : Int32) : sp_pf sp_w.1 S 27 2 0 (.int x) = some (sp_uI S 27 0 x) := rfl
theorem gf_27_1 (S : sp_M) : sp_gf sp_w.1 S 27 2 1 = some (.ref 28) := rfl
theorem gf_27_2 (S : sp_M) : sp_gf sp_w.1 S 27 2 2 = some (.ref 34) := rfl
theorem cl_27 : sp_cl sp_w.1 27 = some 2 := rfl
theorem sk_28 : sp_w.1[28]? = some (.inr (.inl (1, 5, fun j => [some 29, some 30, some 31, some 32, some 33].getD j none))) := rfl
theorem sk_29 : sp_w.1[29]? = some (.inl 21) := rfl
theorem ia_29 (S : sp_M) : sp_ia sp_w S 29 = some (21, S.2.2 29) := rfl
theorem sk_30 : sp_w.1[30]? = some (.inl 21) := rfl
theorem ia_30 (S : sp_M) : sp_ia sp_w S 30 = some (21, S.2.2 30) := rfl
theorem sk_31 : sp_w.1[31]? = some (.inl 21) := rfl
theorem ia_31 (S : sp_M) : sp_ia sp_w S 31 = some (21, S.2.2 31) := rfl
theorem sk_32 : sp_w.1[32]? = some (.inl 21) := rfl
theorem ia_32 (S : sp_M) : sp_ia sp_w S 32 = some (21, S.2.2 32) := rfl
theorem sk_33 : sp_w.1[33]? = some (.inl 21) := rfl
theorem ia_33 (S : sp_M) : sp_ia sp_w S 33 = some (21, S.2.2 33) := rfl
theorem sk_34 : sp_w.1[34]? = some (.inl 6) := rfl
theorem ia_34 (S : sp_M) : sp_ia sp_w S 34 = some (6, S.2.2 34) := rfl
theorem gf_35_0 (S : sp_M) : sp_gf sp_w.1 S 35 2 0 = some (.int (S.1 35 0)) := rfl
theorem pf_35_0 (S : sp_M) (x : Int32) : sp_pf sp_w.1 S 35 2 0 (.int x) = some (sp_uI S 35 0 x) := rfl
theorem gf_35_1 (S : sp_M) : sp_gf sp_w.1 S 35 2 1 = some (.ref 36) := rfl
theorem gf_35_2 (S : sp_M) : sp_gf sp_w.1 S 35 2 2 = some (.ref 42) := rfl
theorem cl_35 : sp_cl sp_w.1 35 = some 2 := rfl
theorem sk_36 : sp_w.1[36]? = some (.inr (.inl (1, 5, fun j => [some 37, some 38, some 39, some 40, some 41].getD j none))) := rfl
theorem sk_37 : sp_w.1[37]? = some (.inl 21) := rfl
theorem ia_37 (S : sp_M) : sp_ia sp_w S 37 = some (21, S.2.2 37) := rfl
theorem sk_38 : sp_w.1[38]? = some (.inl 21) := rfl
theorem ia_38 (S : sp_M) : sp_ia sp_w S 38 = some (21, S.2.2 38) := rfl
theorem sk_39 : sp_w.1[39]? = some (.inl 21) := rfl
theorem ia_39 (S : sp_M) : sp_ia sp_w S 39 = some (21, S.2.2 39) := rfl
theorem sk_40 : sp_w.1[40]? = some (.inl 21) := rfl
theorem ia_40 (S : sp_M) : sp_ia sp_w S 40 = some (21, S.2.2 40) := rfl
theorem sk_41 : sp_w.1[41]? = some (.inl 21) := rfl
theorem ia_41 (S : sp_M) : sp_ia sp_w S 41 = some (21, S.2.2 41) := rfl
theorem sk_42 : sp_w.1[42]? = some (.inl 6) := rfl
theorem ia_42 (S : sp_M) : sp_ia sp_w S 42 = some (6, S.2.2 42) := rfl
theorem gf_43_0 (S : sp_M) : sp_gf sp_w.1 S 43 2 0 = some (.int (S.1 43 0)) := rfl
theorem pf_43_0 (S : sp_M) (x : Int32) : sp_pf sp_w.1 S 43 2 0 (.int x) = some (sp_uI S 43 0 x) := rfl
theorem gf_43_1 (S : sp_M) : sp_gf sp_w.1 S 43 2 1 = some (.ref 44) := rfl
theorem gf_43_2 (S : sp_M) : sp_gf sp_w.1 S 43 2 2 = some (.ref 50) := rfl
theorem cl_43 : sp_cl sp_w.1 43 = some 2 := rfl
theorem sk_44 : sp_w.1[44]? = some (.inr (.inl (1, 5, fun j => [some 45, some 46, some 47, some 48, some 49].getD j none))) := rfl
theorem sk_45 : sp_w.1[45]? = some (.inl 21) := rfl
theorem ia_45 (S : sp_M) : sp_ia sp_w S 45 = some (21, S.2.2 45) := rfl
theorem sk_46 : sp_w.1[46]? = some (.inl 21) := rfl
theorem ia_46 (S : sp_M) : sp_ia sp_w S 46 = some (21, S.2.2 46) := rfl
theorem sk_47 : sp_w.1[47]? = some (.inl 21) := rfl
theorem ia_47 (S : sp_M) : sp_ia sp_w S 47 = some (21, S.2.2 47) := rfl
theorem sk_48 : sp_w.1[48]? = some (.inl 21) := rfl
theorem ia_48 (S : sp_M) : sp_ia sp_w S 48 = some (21, S.2.2 48) := rfl
theorem sk_49 : sp_w.1[49]? = some (.inl 21) := rfl
theorem ia_49 (S : sp_M) : sp_ia sp_w S 49 = some (21, S.2.2 49) := rfl
theorem sk_50 : sp_w.1[50]? = some (.inl 6) := rfl
theorem ia_50 (S : sp_M) : sp_ia sp_w S 50 = some (6, S.2.2 50) := rfl
theorem gf_51_0 (S : sp_M) : sp_gf sp_w.1 S 51 2 0 = some (.int (S.1 51 0)) := rfl
theorem pf_51_0 (S : sp_M) (x : Int32) : sp_pf sp_w.1 S 51 2 0 (.int x) = some (sp_uI S 51 0 x) := rfl
theorem gf_51_1 (S : sp_M) : sp_gf sp_w.1 S 51 2 1 = some (.ref 52) := rfl
theorem gf_51_2 (S : sp_M) : sp_gf sp_w.1 S 51 2 2 = some (.ref 58) := rfl
theorem cl_51 : sp_cl sp_w.1 51 = some 2 := rfl
theorem sk_52 : sp_w.1[52]? = some (.inr (.inl (1, 5, fun j => [some 53, some 54, some 55, some 56, some 57].getD j none))) := rfl
theorem sk_53 : sp_w.1[53]? = some (.inl 21) := rfl
theorem ia_53 (S : sp_M) : sp_ia sp_w S 53 = some (21, S.2.2 53) := rfl
theorem sk_54 : sp_w.1[54]? = some (.inl 21) := rfl
theorem ia_54 (S : sp_M) : sp_ia sp_w S 54 = some (21, S.2.2 54) := rfl
theorem sk_55 : sp_w.1[55]? = some (.inl 21) := rfl
theorem ia_55 (S : sp_M) : sp_ia sp_w S 55 = some (21, S.2.2 55) := rfl
theorem sk_56 : sp_w.1[56]? = some (.inl 21) := rfl
theorem ia_56 (S : sp_M) : sp_ia sp_w S 56 = some (21, S.2.2 56) := rfl
theorem sk_57 : sp_w.1[57]? = some (.inl 21) := rfl
theorem ia_57 (S : sp_M) : sp_ia sp_w S 57 = some (21, S.2.2 57) := rfl
theorem sk_58 : sp_w.1[58]? = some (.inl 6) := rfl
theorem ia_58 (S : sp_M) : sp_ia sp_w S 58 = some (6, S.2.2 58) := rfl
theorem gf_59_0 (S : sp_M) : sp_gf sp_w.1 S 59 6 0 = some (.ref 60) := rfl
theorem gf_59_1 (S : sp_M) : sp_gf sp_w.1 S 59 6 1 = some (.ref 61) := rfl
theorem gf_59_2 (S : sp_M) : sp_gf sp_w.1 S 59 6 2 = some (.int (S.1 59 2)) := rfl
theorem pf_59_2 (S : sp_M) (x : Int32) : sp_pf sp_w.1 S 59 6 2 (.int x) = some (sp_uI S 59 2 x) := rfl
theorem gf_59_3 (S : sp_M) : sp_gf sp_w.1 S 59 6 3 = some (.int (S.1 59 3)) := rfl
theorem pf_59_3 (S : sp_M) (x : Int32) : sp_pf sp_w.1 S 59 6 3 (.int x) = some (sp_uI S 59 3 x) := rfl
theorem gf_59_4 (S : sp_M) : sp_gf sp_w.1 S 59 6 4 = some (.int (S.1 59 4)) := rfl
theorem pf_59_4 (S : sp_M) (x : Int32) : sp_pf sp_w.1 S 59 6 4 (.int x) = some (sp_uI S 59 4 x) := rfl
theorem cl_59 : sp_cl sp_w.1 59 = some 6 := rfl
theorem sk_60 : sp_w.1[60]? = some (.inl 200) := rfl
theorem ia_60 (S : sp_M) : sp_ia sp_w S 60 = some (200, S.2.2 60) := rfl
theorem gf_61_0 (S : sp_M) : sp_gf sp_w.1 S 61 2 0 = some (.int (S.1 61 0)) := rfl
theorem pf_61_0 (S : sp_M) (x : Int32) : sp_pf sp_w.1 S 61 2 0 (.int x) = some (sp_uI S 61 0 x) := rfl
theorem gf_61_1 (S : sp_M) : sp_gf sp_w.1 S 61 2 1 = some (.ref 62) := rfl
theorem gf_61_2 (S : sp_M) : sp_gf sp_w.1 S 61 2 2 = some (.ref 68) := rfl
theorem cl_61 : sp_cl sp_w.1 61 = some 2 := rfl
theorem sk_62 : sp_w.1[62]? = some (.inr (.inl (1, 5, fun j => [some 63, some 64, some 65, some 66, some 67].getD j none))) := rfl
theorem sk_63 : sp_w.1[63]? = some (.inl 21) := rfl
theorem ia_63 (S : sp_M) : sp_ia sp_w S 63 = some (21, S.2.2 63) := rfl
theorem sk_64 : sp_w.1[64]? = some (.inl 21) := rfl
theorem ia_64 (S : sp_M) : sp_ia sp_w S 64 = some (21, S.2.2 64) := rfl
theorem sk_65 : sp_w.1[65]? = some (.inl 21) := rfl
theorem ia_65 (S : sp_M) : sp_ia sp_w S 65 = some (21, S.2.2 65) := rfl
theorem sk_66 : sp_w.1[66]? = some (.inl 21) := rfl
theorem ia_66 (S : sp_M) : sp_ia sp_w S 66 = some (21, S.2.2 66) := rfl
theorem sk_67 : sp_w.1[67]? = some (.inl 21) := rfl
theorem ia_67 (S : sp_M) : sp_ia sp_w S 67 = some (21, S.2.2 67) := rfl
theorem sk_68 : sp_w.1[68]? = some (.inl 6) := rfl
theorem ia_68 (S : sp_M) : sp_ia sp_w S 68 = some (6, S.2.2 68) := rfl
theorem gf_69_0 (S : sp_M) : sp_gf sp_w.1 S 69 0 0 = some (.ref 70) := rfl
theorem gf_69_1 (S : sp_M) : sp_gf sp_w.1 S 69 0 1 = some (.ref 71) := rfl
theorem gf_69_2 (S : sp_M) : sp_gf sp_w.1 S 69 0 2 = some (.int (S.1 69 2)) := rfl
theorem pf_69_2 (S : sp_M) (x : Int32) : sp_pf sp_w.1 S 69 0 2 (.int x) = some (sp_uI S 69 2 x) := rfl
theorem gf_69_3 (S : sp_M) : sp_gf sp_w.1 S 69 0 3 = some (.int (S.1 69 3)) := rfl
theorem pf_69_3 (S : sp_M) (x : Int32) : sp_pf sp_w.1 S 69 0 3 (.int x) = some (sp_uI S 69 3 x) := rfl
theorem cl_69 : sp_cl sp_w.1 69 = some 0 := rfl
theorem sk_70 : sp_w.1[70]? = some (.inl 105) := rfl
theorem ia_70 (S : sp_M) : sp_ia sp_w S 70 = some (105, S.2.2 70) := rfl
theorem sk_71 : sp_w.1[71]? = some (.inl 105) := rfl
theorem ia_71 (S : sp_M) : sp_ia sp_w S 71 = some (105, S.2.2 71) := rfl
theorem gf_72_0 (S : sp_M) : sp_gf sp_w.1 S 72 4 0 = some (.ref 1) := rfl
theorem gf_72_1 (S : sp_M) : sp_gf sp_w.1 S 72 4 1 = some (.ref 73) := rfl
theorem gf_72_2 (S : sp_M) : sp_gf sp_w.1 S 72 4 2 = some (.ref 74) := rfl
theorem gf_72_3 (S : sp_M) : sp_gf sp_w.1 S 72 4 3 = some (.ref 75) := rfl
theorem gf_72_4 (S : sp_M) : sp_gf sp_w.1 S 72 4 4 = some (.ref 76) := rfl
theorem gf_72_5 (S : sp_M) : sp_gf sp_w.1 S 72 4 5 = some (.ref 77) := rfl
theorem gf_72_6 (S : sp_M) : sp_gf sp_w.1 S 72 4 6 = some (.ref 78) := rfl
theorem gf_72_7 (S : sp_M) : sp_gf sp_w.1 S 72 4 7 = some (.ref 79) := rfl
theorem gf_72_8 (S : sp_M) : sp_gf sp_w.1 S 72 4 8 = some (.ref 80) := rfl
theorem gf_72_9 (S : sp_M) : sp_gf sp_w.1 S 72 4 9 = some (.ref 81) := rfl
theorem gf_72_10 (S : sp_M) : sp_gf sp_w.1 S 72 4 10 = some (.int (S.1 72 10)) := rfl
theorem pf_72_10 (S : sp_M) (x : Int32) : sp_pf sp_w.1 S 72 4 10 (.int x) = some (sp_uI S 72 10 x) := rfl
theorem gf_72_11 (S : sp_M) : sp_gf sp_w.1 S 72 4 11 = some (.int (S.1 72 11)) := rfl
theorem pf_72_11 (S : sp_M) (x : Int32) : sp_pf sp_w.1 S 72 4 11 (.int x) = some (sp_uI S 72 11 x) := rfl
theorem gf_72_12 (S : sp_M) : sp_gf sp_w.1 S 72 4 12 = some (.int (S.1 72 12)) := rfl
theorem pf_72_12 (S : sp_M) (x : Int32) : sp_pf sp_w.1 S 72 4 12 (.int x) = some (sp_uI S 72 12 x) := rfl
theorem gf_72_13 (S : sp_M) : sp_gf sp_w.1 S 72 4 13 = some (.int (S.1 72 13)) := rfl
theorem pf_72_13 (S : sp_M) (x : Int32) : sp_pf sp_w.1 S 72 4 13 (.int x) = some (sp_uI S 72 13 x) := rfl
theorem gf_72_14 (S : sp_M) : sp_gf sp_w.1 S 72 4 14 = some (.int (S.1 72 14)) := rfl
theorem pf_72_14 (S : sp_M) (x : Int32) : sp_pf sp_w.1 S 72 4 14 (.int x) = some (sp_uI S 72 14 x) := rfl
theorem gf_72_15 (S : sp_M) : sp_gf sp_w.1 S 72 4 15 = some (.ref 82) := rfl
theorem gf_72_16 (S : sp_M) : sp_gf sp_w.1 S 72 4 16 = some (.ref 83) := rfl
theorem cl_72 : sp_cl sp_w.1 72 = some 4 := rfl
theorem sk_73 : sp_w.1[73]? = some (.inl 126) := rfl
theorem ia_73 (S : sp_M) : sp_ia sp_w S 73 = some (126, S.2.2 73) := rfl
theorem sk_74 : sp_w.1[74]? = some (.inl 1512) := rfl
theorem ia_74 (S : sp_M) : sp_ia sp_w S 74 = some (1512, S.2.2 74) := rfl
theorem sk_75 : sp_w.1[75]? = some (.inl 1512) := rfl
theorem ia_75 (S : sp_M) : sp_ia sp_w S 75 = some (1512, S.2.2 75) := rfl
theorem sk_76 : sp_w.1[76]? = some (.inl 1512) := rfl
theorem ia_76 (S : sp_M) : sp_ia sp_w S 76 = some (1512, S.2.2 76) := rfl
theorem sk_77 : sp_w.1[77]? = some (.inl 1512) := rfl
theorem ia_77 (S : sp_M) : sp_ia sp_w S 77 = some (1512, S.2.2 77) := rfl
theorem sk_78 : sp_w.1[78]? = some (.inl 63) := rfl
theorem ia_78 (S : sp_M) : sp_ia sp_w S 78 = some (63, S.2.2 78) := rfl
theorem sk_79 : sp_w.1[79]? = some (.inl 63) := rfl
theorem ia_79 (S : sp_M) : sp_ia sp_w S 79 = some (63, S.2.2 79) := rfl
theorem sk_80 : sp_w.1[80]? = some (.inl 63) := rfl
theorem ia_80 (S : sp_M) : sp_ia sp_w S 80 = some (63, S.2.2 80) := rfl
theorem gf_81_0 (S : sp_M) : sp_gf sp_w.1 S 81 5 0 = some (.int (S.1 81 0)) := rfl
theorem pf_81_0 (S : sp_M) (x : Int32) : sp_pf sp_w.1 S 81 5 0 (.int x) = some (sp_uI S 81 0 x) := rfl
theorem gf_81_1 (S : sp_M) : sp_gf sp_w.1 S 81 5 1 = some (.int (S.1 81 1)) := rfl
theorem pf_81_1 (S : sp_M) (x : Int32) : sp_pf sp_w.1 S 81 5 1 (.int x) = some (sp_uI S 81 1 x) := rfl
theorem gf_81_2 (S : sp_M) : sp_gf sp_w.1 S 81 5 2 = some (.int (S.1 81 2)) := rfl
theorem pf_81_2 (S : sp_M) (x : Int32) : sp_pf sp_w.1 S 81 5 2 (.int x) = some (sp_uI S 81 2 x) := rfl
theorem cl_81 : sp_cl sp_w.1 81 = some 5 := rfl
theorem sk_82 : sp_w.1[82]? = some (.inl 21) := rfl
theorem ia_82 (S : sp_M) : sp_ia sp_w S 82 = some (21, S.2.2 82) := rfl
theorem sk_83 : sp_w.1[83]? = some (.inl 21) := rfl
theorem ia_83 (S : sp_M) : sp_ia sp_w S 83 = some (21, S.2.2 83) := rfl
theorem gf_84_0 (S : sp_M) : sp_gf sp_w.1 S 84 3 0 = some (.ref 1) := rfl
theorem gf_84_1 (S : sp_M) : sp_gf sp_w.1 S 84 3 1 = some (.ref 72) := rfl
theorem gf_84_2 (S : sp_M) : sp_gf sp_w.1 S 84 3 2 = some (.ref 85) := rfl
theorem gf_84_3 (S : sp_M) : sp_gf sp_w.1 S 84 3 3 = some (.ref 86) := rfl
theorem cl_84 : sp_cl sp_w.1 84 = some 3 := rfl
theorem sk_85 : sp_w.1[85]? = some (.inl 1512) := rfl
theorem ia_85 (S : sp_M) : sp_ia sp_w S 85 = some (1512, S.2.2 85) := rfl
theorem sk_86 : sp_w.1[86]? = some (.inl 21) := rfl
theorem ia_86 (S : sp_M) : sp_ia sp_w S 86 = some (21, S.2.2 86) := rfl
theorem gf_87_0 (S : sp_M) : sp_gf sp_w.1 S 87 8 0 = some (.ref 88) := rfl
theorem gf_87_1 (S : sp_M) : sp_gf sp_w.1 S 87 8 1 = some (.ref 89) := rfl
theorem gf_87_2 (S : sp_M) : sp_gf sp_w.1 S 87 8 2 = some (.int (S.1 87 2)) := rfl
theorem pf_87_2 (S : sp_M) (x : Int32) : sp_pf sp_w.1 S 87 8 2 (.int x) = some (sp_uI S 87 2 x) := rfl
theorem gf_87_3 (S : sp_M) : sp_gf sp_w.1 S 87 8 3 = some (.int (S.1 87 3)) := rfl
theorem pf_87_3 (S : sp_M) (x : Int32) : sp_pf sp_w.1 S 87 8 3 (.int x) = some (sp_uI S 87 3 x) := rfl
theorem gf_87_4 (S : sp_M) : sp_gf sp_w.1 S 87 8 4 = some (.ref 90) := rfl
theorem gf_87_5 (S : sp_M) : sp_gf sp_w.1 S 87 8 5 = some (.int (S.1 87 5)) := rfl
theorem pf_87_5 (S : sp_M) (x : Int32) : sp_pf sp_w.1 S 87 8 5 (.int x) = some (sp_uI S 87 5 x) := rfl
theorem gf_87_6 (S : sp_M) : sp_gf sp_w.1 S 87 8 6 = some (.ref 91) := rfl
theorem gf_87_7 (S : sp_M) : sp_gf sp_w.1 S 87 8 7 = some (.int (S.1 87 7)) := rfl
theorem pf_87_7 (S : sp_M) (x : Int32) : sp_pf sp_w.1 S 87 8 7 (.int x) = some (sp_uI S 87 7 x) := rfl
theorem gf_87_8 (S : sp_M) : sp_gf sp_w.1 S 87 8 8 = some (.int (S.1 87 8)) := rfl
theorem pf_87_8 (S : sp_M) (x : Int32) : sp_pf sp_w.1 S 87 8 8 (.int x) = some (sp_uI S 87 8 x) := rfl
theorem gf_87_9 (S : sp_M) : sp_gf sp_w.1 S 87 8 9 = some (.ref 92) := rfl
theorem gf_87_10 (S : sp_M) : sp_gf sp_w.1 S 87 8 10 = some (.long (S.2.1 87 10)) := rfl
theorem pf_87_10 (S : sp_M) (x : Int64) : sp_pf sp_w.1 S 87 8 10 (.long x) = some (sp_uJ S 87 10 x) := rfl
theorem gf_87_11 (S : sp_M) : sp_gf sp_w.1 S 87 8 11 = some (.long (S.2.1 87 11)) := rfl
theorem pf_87_11 (S : sp_M) (x : Int64) : sp_pf sp_w.1 S 87 8 11 (.long x) = some (sp_uJ S 87 11 x) := rfl
theorem gf_87_12 (S : sp_M) : sp_gf sp_w.1 S 87 8 12 = some (.ref 93) := rfl
theorem gf_87_13 (S : sp_M) : sp_gf sp_w.1 S 87 8 13 = some (.ref 94) := rfl
theorem gf_87_14 (S : sp_M) : sp_gf sp_w.1 S 87 8 14 = some (.ref 95) := rfl
theorem gf_87_15 (S : sp_M) : sp_gf sp_w.1 S 87 8 15 = some (.ref 96) := rfl
theorem gf_87_16 (S : sp_M) : sp_gf sp_w.1 S 87 8 16 = some (.ref 97) := rfl
theorem gf_87_17 (S : sp_M) : sp_gf sp_w.1 S 87 8 17 = some (.ref 98) := rfl
theorem gf_87_18 (S : sp_M) : sp_gf sp_w.1 S 87 8 18 = some (.int (S.1 87 18)) := rfl
theorem pf_87_18 (S : sp_M) (x : Int32) : sp_pf sp_w.1 S 87 8 18 (.int x) = some (sp_uI S 87 18 x) := rfl
theorem gf_87_19 (S : sp_M) : sp_gf sp_w.1 S 87 8 19 = some (.int (S.1 87 19)) := rfl
theorem pf_87_19 (S : sp_M) (x : Int32) : sp_pf sp_w.1 S 87 8 19 (.int x) = some (sp_uI S 87 19 x) := rfl
theorem gf_87_20 (S : sp_M) : sp_gf sp_w.1 S 87 8 20 = some (.int (S.1 87 20)) := rfl
theorem pf_87_20 (S : sp_M) (x : Int32) : sp_pf sp_w.1 S 87 8 20 (.int x) = some (sp_uI S 87 20 x) := rfl
theorem gf_87_21 (S : sp_M) : sp_gf sp_w.1 S 87 8 21 = some (.int (S.1 87 21)) := rfl
theorem pf_87_21 (S : sp_M) (x : Int32) : sp_pf sp_w.1 S 87 8 21 (.int x) = some (sp_uI S 87 21 x) := rfl
theorem gf_87_22 (S : sp_M) : sp_gf sp_w.1 S 87 8 22 = some (.int (S.1 87 22)) := rfl
theorem pf_87_22 (S : sp_M) (x : Int32) : sp_pf sp_w.1 S 87 8 22 (.int x) = some (sp_uI S 87 22 x) := rfl
theorem gf_87_23 (S : sp_M) : sp_gf sp_w.1 S 87 8 23 = some (.int (S.1 87 23)) := rfl
theorem pf_87_23 (S : sp_M) (x : Int32) : sp_pf sp_w.1 S 87 8 23 (.int x) = some (sp_uI S 87 23 x) := rfl
theorem gf_87_24 (S : sp_M) : sp_gf sp_w.1 S 87 8 24 = some (.ref 99) := rfl
theorem gf_87_25 (S : sp_M) : sp_gf sp_w.1 S 87 8 25 = some (.int (S.1 87 25)) := rfl
theorem pf_87_25 (S : sp_M) (x : Int32) : sp_pf sp_w.1 S 87 8 25 (.int x) = some (sp_uI S 87 25 x) := rfl
theorem gf_87_26 (S : sp_M) : sp_gf sp_w.1 S 87 8 26 = some (.ref 100) := rfl
theorem cl_87 : sp_cl sp_w.1 87 = some 8 := rfl
theorem sk_88 : sp_w.1[88]? = some (.inl 112) := rfl
theorem ia_88 (S : sp_M) : sp_ia sp_w S 88 = some (112, S.2.2 88) := rfl
theorem sk_89 : sp_w.1[89]? = some (.inl 672) := rfl
theorem ia_89 (S : sp_M) : sp_ia sp_w S 89 = some (672, S.2.2 89) := rfl
theorem sk_90 : sp_w.1[90]? = some (.inl 3) := rfl
theorem ia_90 (S : sp_M) : sp_ia sp_w S 90 = some (3, S.2.2 90) := rfl
theorem sk_91 : sp_w.1[91]? = some (.inl 200) := rfl
theorem ia_91 (S : sp_M) : sp_ia sp_w S 91 = some (200, S.2.2 91) := rfl
theorem sk_92 : sp_w.1[92]? = some (.inl 112) := rfl
theorem ia_92 (S : sp_M) : sp_ia sp_w S 92 = some (112, S.2.2 92) := rfl
theorem sk_93 : sp_w.1[93]? = some (.inl 6804) := rfl
theorem ia_93 (S : sp_M) : sp_ia sp_w S 93 = some (6804, S.2.2 93) := rfl
theorem sk_94 : sp_w.1[94]? = some (.inl 6804) := rfl
theorem ia_94 (S : sp_M) : sp_ia sp_w S 94 = some (6804, S.2.2 94) := rfl
theorem sk_95 : sp_w.1[95]? = some (.inl 6804) := rfl
theorem ia_95 (S : sp_M) : sp_ia sp_w S 95 = some (6804, S.2.2 95) := rfl
theorem sk_96 : sp_w.1[96]? = some (.inl 6804) := rfl
theorem ia_96 (S : sp_M) : sp_ia sp_w S 96 = some (6804, S.2.2 96) := rfl
theorem sk_97 : sp_w.1[97]? = some (.inl 6804) := rfl
theorem ia_97 (S : sp_M) : sp_ia sp_w S 97 = some (6804, S.2.2 97) := rfl
theorem sk_98 : sp_w.1[98]? = some (.inl 6804) := rfl
theorem ia_98 (S : sp_M) : sp_ia sp_w S 98 = some (6804, S.2.2 98) := rfl
theorem sk_99 : sp_w.1[99]? = some (.inl 21) := rfl
theorem ia_99 (S : sp_M) : sp_ia sp_w S 99 = some (21, S.2.2 99) := rfl
theorem sk_100 : sp_w.1[100]? = some (.inl 21) := rfl
theorem ia_100 (S : sp_M) : sp_ia sp_w S 100 = some (21, S.2.2 100) := rfl
theorem ia_1000 (S : sp_M) : sp_ia sp_w S 1000 = some (sp_ro 0) := rfl
theorem ia_1001 (S : sp_M) : sp_ia sp_w S 1001 = some (sp_ro 1) := rfl
theorem ia_1002 (S : sp_M) : sp_ia sp_w S 1002 = some (sp_ro 2) := rfl
theorem ia_1003 (S : sp_M) : sp_ia sp_w S 1003 = some (sp_ro 3) := rfl
theorem ia_1004 (S : sp_M) : sp_ia sp_w S 1004 = some (sp_ro 4) := rfl
