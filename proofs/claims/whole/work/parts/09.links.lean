/-! ===== the cells, the links (written by a program) ===== -/
def zY0 : zY := [.inl (10, [some (some 1), some (some 14), some (some 41), some (some 50), some (some 52), some (some 55), some (some 58), some (some 67), some (some 70), some (some 74), some (some 75), none]), .inl (7, [some (some 2), some (some 6), some (some 10), some (some 13), none]), .inl (2, [none, some (some 3), some (some 4), some (some 5)]), .inr (0, 10, []), .inr (0, 10, []), .inr (0, 40, []), .inl (2, [none, some (some 7), some (some 8), some (some 9)]), .inr (0, 10, []), .inr (0, 10, []), .inr (0, 40, []), .inl (6, [some (some 11), some (some 12)]), .inr (0, 10, []), .inr (0, 64, []), .inr (0, 10, []), .inr (4, 2, [some 15, some 28]), .inl (7, [some (some 16), some (some 20), some (some 24), some (some 27), none]), .inl (2, [none, some (some 17), some (some 18), some (some 19)]), .inr (0, 10, []), .inr (0, 10, []), .inr (0, 40, []), .inl (2, [none, some (some 21), some (some 22), some (some 23)]), .inr (0, 10, []), .inr (0, 10, []), .inr (0, 40, []), .inl (6, [some (some 25), some (some 26)]), .inr (0, 10, []), .inr (0, 64, []), .inr (0, 10, []), .inl (7, [some (some 29), some (some 33), some (some 37), some (some 40), none]), .inl (2, [none, some (some 30), some (some 31), some (some 32)]), .inr (0, 10, []), .inr (0, 10, []), .inr (0, 40, []), .inl (2, [none, some (some 34), some (some 35), some (some 36)]), .inr (0, 10, []), .inr (0, 10, []), .inr (0, 40, []), .inl (6, [some (some 38), some (some 39)]), .inr (0, 10, []), .inr (0, 64, []), .inr (0, 10, []), .inr (5, 4, [some 42, some 44, some 46, some 48]), .inl (8, [none, none, none, some (some 43)]), .inr (0, 64, []), .inl (8, [none, none, none, some (some 45)]), .inr (0, 64, []), .inl (8, [none, none, none, some (some 47)]), .inr (0, 64, []), .inl (8, [none, none, none, some (some 49)]), .inr (0, 64, []), .inl (9, [some (some 51), none, none, none, none, none, none, none, none]), .inr (2, 320, []), .inl (6, [some (some 53), some (some 54)]), .inr (0, 10, []), .inr (0, 64, []), .inl (5, [none, none, none, none, some (some 56), some (some 57)]), .inr (0, 100, []), .inr (0, 100, []), .inl (4, [some (some 55), some (some 59), some (some 66)]), .inl (3, [none, none, some (some 60), some (some 61), some (some 62), some (some 63), some (some 64), some (some 65)]), .inr (1, 100, []), .inr (1, 11, []), .inr (1, 11, []), .inr (1, 11, []), .inr (0, 11, []), .inr (0, 11, []), .inr (0, 10, []), .inl (0, [some (some 68), some (some 69)]), .inr (0, 1024, []), .inr (0, 1024, []), .inl (1, [none, some (some 71), some (some 72), some (some 73)]), .inr (0, 10, []), .inr (3, 1024, []), .inr (0, 1024, []), .inr (0, 20, []), .inr (0, 64, []), .inl (11, [some (some 77), none, none, none, none, none, none, none, none, some (some 78), some (some 79), some (some 80), some (some 81), some (some 82), some (some 83), none, some (some 84), some (some 85), some (some 86), some (some 87), some (some 88), some (some 89), some (some 90), some (some 91), some (some 92), some (some 93), some (some 94), some (some 95), some (some 96), some (some 97), some (some 98), some (some 99), none]), .inr (0, 320, []), .inr (0, 10, []), .inr (0, 47, []), .inr (0, 10, []), .inr (0, 30, []), .inr (0, 10, []), .inr (0, 64, []), .inr (0, 660, []), .inr (0, 100, []), .inr (0, 11264, []), .inr (1, 11264, []), .inr (1, 11264, []), .inr (0, 11264, []), .inr (0, 11264, []), .inr (0, 10, []), .inr (0, 10, []), .inr (1, 1024, []), .inr (0, 1024, []), .inr (3, 1024, []), .inr (3, 2, []), .inr (0, 4, []), .inr (0, 4, []), .inr (0, 256, [])]
theorem zy_0 : zY0[0]? = some (.inl (10, [some (some 1), some (some 14), some (some 41), some (some 50), some (some 52), some (some 55), some (some 58), some (some 67), some (some 70), some (some 74), some (some 75), none])) := rfl
theorem zy_1 : zY0[1]? = some (.inl (7, [some (some 2), some (some 6), some (some 10), some (some 13), none])) := rfl
theorem zy_2 : zY0[2]? = some (.inl (2, [none, some (some 3), some (some 4), some (some 5)])) := rfl
theorem zy_3 : zY0[3]? = some (.inr (0, 10, [])) := rfl
theorem zy_4 : zY0[4]? = some (.inr (0, 10, [])) := rfl
theorem zy_5 : zY0[5]? = some (.inr (0, 40, [])) := rfl
theorem zy_6 : zY0[6]? = some (.inl (2, [none, some (some 7), some (some 8), some (some 9)])) := rfl
theorem zy_7 : zY0[7]? = some (.inr (0, 10, [])) := rfl
theorem zy_8 : zY0[8]? = some (.inr (0, 10, [])) := rfl
theorem zy_9 : zY0[9]? = some (.inr (0, 40, [])) := rfl
theorem zy_10 : zY0[10]? = some (.inl (6, [some (some 11), some (some 12)])) := rfl
theorem zy_11 : zY0[11]? = some (.inr (0, 10, [])) := rfl
theorem zy_12 : zY0[12]? = some (.inr (0, 64, [])) := rfl
theorem zy_13 : zY0[13]? = some (.inr (0, 10, [])) := rfl
theorem zy_14 : zY0[14]? = some (.inr (4, 2, [some 15, some 28])) := rfl
theorem zy_15 : zY0[15]? = some (.inl (7, [some (some 16), some (some 20), some (some 24), some (some 27), none])) := rfl
theorem zy_16 : zY0[16]? = some (.inl (2, [none, some (some 17), some (some 18), some (some 19)])) := rfl
theorem zy_17 : zY0[17]? = some (.inr (0, 10, [])) := rfl
theorem zy_18 : zY0[18]? = some (.inr (0, 10, [])) := rfl
theorem zy_19 : zY0[19]? = some (.inr (0, 40, [])) := rfl
theorem zy_20 : zY0[20]? = some (.inl (2, [none, some (some 21), some (some 22), some (some 23)])) := rfl
theorem zy_21 : zY0[21]? = some (.inr (0, 10, [])) := rfl
theorem zy_22 : zY0[22]? = some (.inr (0, 10, [])) := rfl
theorem zy_23 : zY0[23]? = some (.inr (0, 40, [])) := rfl
theorem zy_24 : zY0[24]? = some (.inl (6, [some (some 25), some (some 26)])) := rfl
theorem zy_25 : zY0[25]? = some (.inr (0, 10, [])) := rfl
theorem zy_26 : zY0[26]? = some (.inr (0, 64, [])) := rfl
theorem zy_27 : zY0[27]? = some (.inr (0, 10, [])) := rfl
theorem zy_28 : zY0[28]? = some (.inl (7, [some (some 29), some (some 33), some (some 37), some (some 40), none])) := rfl
theorem zy_29 : zY0[29]? = some (.inl (2, [none, some (some 30), some (some 31), some (some 32)])) := rfl
theorem zy_30 : zY0[30]? = some (.inr (0, 10, [])) := rfl
theorem zy_31 : zY0[31]? = some (.inr (0, 10, [])) := rfl
theorem zy_32 : zY0[32]? = some (.inr (0, 40, [])) := rfl
theorem zy_33 : zY0[33]? = some (.inl (2, [none, some (some 34), some (some 35), some (some 36)])) := rfl
theorem zy_34 : zY0[34]? = some (.inr (0, 10, [])) := rfl
theorem zy_35 : zY0[35]? = some (.inr (0, 10, [])) := rfl
theorem zy_36 : zY0[36]? = some (.inr (0, 40, [])) := rfl
theorem zy_37 : zY0[37]? = some (.inl (6, [some (some 38), some (some 39)])) := rfl
theorem zy_38 : zY0[38]? = some (.inr (0, 10, [])) := rfl
theorem zy_39 : zY0[39]? = some (.inr (0, 64, [])) := rfl
theorem zy_40 : zY0[40]? = some (.inr (0, 10, [])) := rfl
theorem zy_41 : zY0[41]? = some (.inr (5, 4, [some 42, some 44, some 46, some 48])) := rfl
theorem zy_42 : zY0[42]? = some (.inl (8, [none, none, none, some (some 43)])) := rfl
theorem zy_43 : zY0[43]? = some (.inr (0, 64, [])) := rfl
theorem zy_44 : zY0[44]? = some (.inl (8, [none, none, none, some (some 45)])) := rfl
theorem zy_45 : zY0[45]? = some (.inr (0, 64, [])) := rfl
theorem zy_46 : zY0[46]? = some (.inl (8, [none, none, none, some (some 47)])) := rfl
theorem zy_47 : zY0[47]? = some (.inr (0, 64, [])) := rfl
theorem zy_48 : zY0[48]? = some (.inl (8, [none, none, none, some (some 49)])) := rfl
theorem zy_49 : zY0[49]? = some (.inr (0, 64, [])) := rfl
theorem zy_50 : zY0[50]? = some (.inl (9, [some (some 51), none, none, none, none, none, none, none, none])) := rfl
theorem zy_51 : zY0[51]? = some (.inr (2, 320, [])) := rfl
theorem zy_52 : zY0[52]? = some (.inl (6, [some (some 53), some (some 54)])) := rfl
theorem zy_53 : zY0[53]? = some (.inr (0, 10, [])) := rfl
theorem zy_54 : zY0[54]? = some (.inr (0, 64, [])) := rfl
theorem zy_55 : zY0[55]? = some (.inl (5, [none, none, none, none, some (some 56), some (some 57)])) := rfl
theorem zy_56 : zY0[56]? = some (.inr (0, 100, [])) := rfl
theorem zy_57 : zY0[57]? = some (.inr (0, 100, [])) := rfl
theorem zy_58 : zY0[58]? = some (.inl (4, [some (some 55), some (some 59), some (some 66)])) := rfl
theorem zy_59 : zY0[59]? = some (.inl (3, [none, none, some (some 60), some (some 61), some (some 62), some (some 63), some (some 64), some (some 65)])) := rfl
theorem zy_60 : zY0[60]? = some (.inr (1, 100, [])) := rfl
theorem zy_61 : zY0[61]? = some (.inr (1, 11, [])) := rfl
theorem zy_62 : zY0[62]? = some (.inr (1, 11, [])) := rfl
theorem zy_63 : zY0[63]? = some (.inr (1, 11, [])) := rfl
theorem zy_64 : zY0[64]? = some (.inr (0, 11, [])) := rfl
theorem zy_65 : zY0[65]? = some (.inr (0, 11, [])) := rfl
theorem zy_66 : zY0[66]? = some (.inr (0, 10, [])) := rfl
theorem zy_67 : zY0[67]? = some (.inl (0, [some (some 68), some (some 69)])) := rfl
theorem zy_68 : zY0[68]? = some (.inr (0, 1024, [])) := rfl
theorem zy_69 : zY0[69]? = some (.inr (0, 1024, [])) := rfl
theorem zy_70 : zY0[70]? = some (.inl (1, [none, some (some 71), some (some 72), some (some 73)])) := rfl
theorem zy_71 : zY0[71]? = some (.inr (0, 10, [])) := rfl
theorem zy_72 : zY0[72]? = some (.inr (3, 1024, [])) := rfl
theorem zy_73 : zY0[73]? = some (.inr (0, 1024, [])) := rfl
theorem zy_74 : zY0[74]? = some (.inr (0, 20, [])) := rfl
theorem zy_75 : zY0[75]? = some (.inr (0, 64, [])) := rfl
theorem zy_76 : zY0[76]? = some (.inl (11, [some (some 77), none, none, none, none, none, none, none, none, some (some 78), some (some 79), some (some 80), some (some 81), some (some 82), some (some 83), none, some (some 84), some (some 85), some (some 86), some (some 87), some (some 88), some (some 89), some (some 90), some (some 91), some (some 92), some (some 93), some (some 94), some (some 95), some (some 96), some (some 97), some (some 98), some (some 99), none])) := rfl
theorem zy_77 : zY0[77]? = some (.inr (0, 320, [])) := rfl
theorem zy_78 : zY0[78]? = some (.inr (0, 10, [])) := rfl
theorem zy_79 : zY0[79]? = some (.inr (0, 47, [])) := rfl
theorem zy_80 : zY0[80]? = some (.inr (0, 10, [])) := rfl
theorem zy_81 : zY0[81]? = some (.inr (0, 30, [])) := rfl
theorem zy_82 : zY0[82]? = some (.inr (0, 10, [])) := rfl
theorem zy_83 : zY0[83]? = some (.inr (0, 64, [])) := rfl
theorem zy_84 : zY0[84]? = some (.inr (0, 660, [])) := rfl
theorem zy_85 : zY0[85]? = some (.inr (0, 100, [])) := rfl
theorem zy_86 : zY0[86]? = some (.inr (0, 11264, [])) := rfl
theorem zy_87 : zY0[87]? = some (.inr (1, 11264, [])) := rfl
theorem zy_88 : zY0[88]? = some (.inr (1, 11264, [])) := rfl
theorem zy_89 : zY0[89]? = some (.inr (0, 11264, [])) := rfl
theorem zy_90 : zY0[90]? = some (.inr (0, 11264, [])) := rfl
theorem zy_91 : zY0[91]? = some (.inr (0, 10, [])) := rfl
theorem zy_92 : zY0[92]? = some (.inr (0, 10, [])) := rfl
theorem zy_93 : zY0[93]? = some (.inr (1, 1024, [])) := rfl
theorem zy_94 : zY0[94]? = some (.inr (0, 1024, [])) := rfl
theorem zy_95 : zY0[95]? = some (.inr (3, 1024, [])) := rfl
theorem zy_96 : zY0[96]? = some (.inr (3, 2, [])) := rfl
theorem zy_97 : zY0[97]? = some (.inr (0, 4, [])) := rfl
theorem zy_98 : zY0[98]? = some (.inr (0, 4, [])) := rfl
theorem zy_99 : zY0[99]? = some (.inr (0, 256, [])) := rfl
def zsX2 (Y : zY) (a : Nat) : Prop := Y[a]? = some (.inl (2, [none, some (some (a + 1)), some (some (a + 2)), some (some (a + 3))])) ∧ Y[a + 1]? = some (.inr (0, 10, [])) ∧ Y[a + 2]? = some (.inr (0, 10, [])) ∧ Y[a + 3]? = some (.inr (0, 40, []))
def zsX6 (Y : zY) (a : Nat) : Prop := Y[a]? = some (.inl (6, [some (some (a + 1)), some (some (a + 2))])) ∧ Y[a + 1]? = some (.inr (0, 10, [])) ∧ Y[a + 2]? = some (.inr (0, 64, []))
def zsX8 (Y : zY) (a : Nat) : Prop := Y[a]? = some (.inl (8, [none, none, none, some (some (a + 1))])) ∧ Y[a + 1]? = some (.inr (0, 64, []))
def zsX7 (Y : zY) (a : Nat) : Prop := Y[a]? = some (.inl (7, [some (some (a + 1)), some (some (a + 5)), some (some (a + 9)), some (some (a + 12)), none])) ∧ zsX2 Y (a + 1) ∧ zsX2 Y (a + 5) ∧ zsX6 Y (a + 9) ∧ Y[a + 12]? = some (.inr (0, 10, []))
theorem zs_X2_2 : zsX2 zY0 2 := ⟨zy_2, zy_3, zy_4, zy_5⟩
theorem zs_X2_6 : zsX2 zY0 6 := ⟨zy_6, zy_7, zy_8, zy_9⟩
theorem zs_X6_10 : zsX6 zY0 10 := ⟨zy_10, zy_11, zy_12⟩
theorem zs_X2_16 : zsX2 zY0 16 := ⟨zy_16, zy_17, zy_18, zy_19⟩
theorem zs_X2_20 : zsX2 zY0 20 := ⟨zy_20, zy_21, zy_22, zy_23⟩
theorem zs_X6_24 : zsX6 zY0 24 := ⟨zy_24, zy_25, zy_26⟩
theorem zs_X2_29 : zsX2 zY0 29 := ⟨zy_29, zy_30, zy_31, zy_32⟩
theorem zs_X2_33 : zsX2 zY0 33 := ⟨zy_33, zy_34, zy_35, zy_36⟩
theorem zs_X6_37 : zsX6 zY0 37 := ⟨zy_37, zy_38, zy_39⟩
theorem zs_X8_42 : zsX8 zY0 42 := ⟨zy_42, zy_43⟩
theorem zs_X8_44 : zsX8 zY0 44 := ⟨zy_44, zy_45⟩
theorem zs_X8_46 : zsX8 zY0 46 := ⟨zy_46, zy_47⟩
theorem zs_X8_48 : zsX8 zY0 48 := ⟨zy_48, zy_49⟩
theorem zs_X6_52 : zsX6 zY0 52 := ⟨zy_52, zy_53, zy_54⟩
theorem zs_X7_1 : zsX7 zY0 1 := ⟨zy_1, zs_X2_2, zs_X2_6, zs_X6_10, zy_13⟩
theorem zs_X7_15 : zsX7 zY0 15 := ⟨zy_15, zs_X2_16, zs_X2_20, zs_X6_24, zy_27⟩
theorem zs_X7_28 : zsX7 zY0 28 := ⟨zy_28, zs_X2_29, zs_X2_33, zs_X6_37, zy_40⟩
theorem zar_14 : ∀ j, j < 2 → ([some 15, some 28] : List (Option Nat)).getD j none = some (15 + 13 * j) := by decide
theorem zap_14 : ∀ j, j < 2 → zsX7 zY0 (15 + 13 * j) := fun j hj => by
  rcases (show j = 0 ∨ j = 1 by omega) with rfl | rfl
  · exact zs_X7_15
  · exact zs_X7_28
theorem zar_41 : ∀ j, j < 4 → ([some 42, some 44, some 46, some 48] : List (Option Nat)).getD j none = some (42 + 2 * j) := by decide
theorem zap_41 : ∀ j, j < 4 → zsX8 zY0 (42 + 2 * j) := fun j hj => by
  rcases (show j = 0 ∨ j = 1 ∨ j = 2 ∨ j = 3 by omega) with rfl | rfl | rfl | rfl
  · exact zs_X8_42
  · exact zs_X8_44
  · exact zs_X8_46
  · exact zs_X8_48
theorem zinc {n : Int} {v : Int32} (h : Int32.ofInt n = v) (x : Int32) : x + Int32.ofInt n = x + v := by rw [h]
theorem zbp_m99 : (Int8.ofInt (-99)).toInt32 = -99 := by decide
theorem zbp_m30 : (Int8.ofInt (-30)).toInt32 = -30 := by decide
theorem zbp_m20 : (Int8.ofInt (-20)).toInt32 = -20 := by decide
theorem zbp_m14 : (Int8.ofInt (-14)).toInt32 = -14 := by decide
theorem zbp_m12 : (Int8.ofInt (-12)).toInt32 = -12 := by decide
theorem zbp_m11 : (Int8.ofInt (-11)).toInt32 = -11 := by decide
theorem zbp_m10 : (Int8.ofInt (-10)).toInt32 = -10 := by decide
theorem zbp_m4 : (Int8.ofInt (-4)).toInt32 = -4 := by decide
theorem zbp_m3 : (Int8.ofInt (-3)).toInt32 = -3 := by decide
theorem zbp_m2 : (Int8.ofInt (-2)).toInt32 = -2 := by decide
theorem zbp_6 : (Int8.ofInt (6)).toInt32 = 6 := by decide
theorem zbp_7 : (Int8.ofInt (7)).toInt32 = 7 := by decide
theorem zbp_8 : (Int8.ofInt (8)).toInt32 = 8 := by decide
theorem zbp_9 : (Int8.ofInt (9)).toInt32 = 9 := by decide
theorem zbp_10 : (Int8.ofInt (10)).toInt32 = 10 := by decide
theorem zbp_11 : (Int8.ofInt (11)).toInt32 = 11 := by decide
theorem zbp_13 : (Int8.ofInt (13)).toInt32 = 13 := by decide
theorem zbp_15 : (Int8.ofInt (15)).toInt32 = 15 := by decide
theorem zbp_16 : (Int8.ofInt (16)).toInt32 = 16 := by decide
theorem zbp_17 : (Int8.ofInt (17)).toInt32 = 17 := by decide
theorem zbp_24 : (Int8.ofInt (24)).toInt32 = 24 := by decide
theorem zbp_30 : (Int8.ofInt (30)).toInt32 = 30 := by decide
theorem zbp_31 : (Int8.ofInt (31)).toInt32 = 31 := by decide
theorem zbp_32 : (Int8.ofInt (32)).toInt32 = 32 := by decide
theorem zbp_40 : (Int8.ofInt (40)).toInt32 = 40 := by decide
theorem zbp_48 : (Int8.ofInt (48)).toInt32 = 48 := by decide
theorem zbp_50 : (Int8.ofInt (50)).toInt32 = 50 := by decide
theorem zbp_56 : (Int8.ofInt (56)).toInt32 = 56 := by decide
theorem zbp_57 : (Int8.ofInt (57)).toInt32 = 57 := by decide
theorem zbp_59 : (Int8.ofInt (59)).toInt32 = 59 := by decide
theorem zbp_60 : (Int8.ofInt (60)).toInt32 = 60 := by decide
theorem zbp_63 : (Int8.ofInt (63)).toInt32 = 63 := by decide
theorem zbp_64 : (Int8.ofInt (64)).toInt32 = 64 := by decide
theorem zbp_70 : (Int8.ofInt (70)).toInt32 = 70 := by decide
theorem zbp_97 : (Int8.ofInt (97)).toInt32 = 97 := by decide
theorem zbp_99 : (Int8.ofInt (99)).toInt32 = 99 := by decide
theorem zbp_122 : (Int8.ofInt (122)).toInt32 = 122 := by decide
theorem zci_m8 : Int32.ofInt (-8) = -8 := by decide
theorem zci_m1 : Int32.ofInt (-1) = -1 := by decide
theorem zci_0 : Int32.ofInt (0) = 0 := by decide
theorem zci_1 : Int32.ofInt (1) = 1 := by decide
theorem zci_2 : Int32.ofInt (2) = 2 := by decide
theorem zci_3 : Int32.ofInt (3) = 3 := by decide
theorem zci_4 : Int32.ofInt (4) = 4 := by decide
theorem zci_5 : Int32.ofInt (5) = 5 := by decide
theorem zlc_0 : Int64.ofNat ((0 : Fin 2) : Nat) = 0 := by decide
theorem zlc_1 : Int64.ofNat ((1 : Fin 2) : Nat) = 1 := by decide
theorem zsp_m10004 : (Int16.ofInt (-10004)).toInt32 = -10004 := by decide
theorem zsp_m10000 : (Int16.ofInt (-10000)).toInt32 = -10000 := by decide
theorem zsp_m1000 : (Int16.ofInt (-1000)).toInt32 = -1000 := by decide
theorem zsp_m999 : (Int16.ofInt (-999)).toInt32 = -999 := by decide
theorem zsp_128 : (Int16.ofInt (128)).toInt32 = 128 := by decide
theorem zsp_190 : (Int16.ofInt (190)).toInt32 = 190 := by decide
theorem zsp_220 : (Int16.ofInt (220)).toInt32 = 220 := by decide
theorem zsp_255 : (Int16.ofInt (255)).toInt32 = 255 := by decide
theorem zsp_320 : (Int16.ofInt (320)).toInt32 = 320 := by decide
theorem zsp_500 : (Int16.ofInt (500)).toInt32 = 500 := by decide
theorem zsp_999 : (Int16.ofInt (999)).toInt32 = 999 := by decide
theorem zsp_1024 : (Int16.ofInt (1024)).toInt32 = 1024 := by decide
theorem zall (ws : List Cond) (is : List Nat) (h : is.map (fun i => lw_tbl[i]?) = ws.map some) (hg : ws.all goodWord = true) : ∀ w ∈ ws, w ∈ zT := by
  intro w hw
  have h1 : some w ∈ ws.map some := List.mem_map_of_mem hw
  rw [← h] at h1
  obtain ⟨i, -, hi⟩ := List.mem_map.mp h1
  exact List.mem_filter.mpr ⟨List.mem_of_getElem? hi, List.all_eq_true.mp hg w hw⟩
theorem zinX0 : ∀ w ∈ u_ws RX0 TX0 2, w ∈ zT := zall _ [358, 360] (by decide +kernel) (by decide +kernel)
theorem zinX1 : ∀ w ∈ u_ws RX1 TX1 4, w ∈ zT := zall _ [373, 375, 377, 379] (by decide +kernel) (by decide +kernel)
theorem zinX2 : ∀ w ∈ u_ws RX2 TX2 4, w ∈ zT := zall _ [140, 142, 144, 146] (by decide +kernel) (by decide +kernel)
theorem zinX3 : ∀ w ∈ u_ws RX3 TX3 8, w ∈ zT := zall _ [320, 322, 324, 326, 328, 330, 332, 334] (by decide +kernel) (by decide +kernel)
theorem zinX4 : ∀ w ∈ u_ws RX4 TX4 3, w ∈ zT := zall _ [343, 345, 347] (by decide +kernel) (by decide +kernel)
theorem zinX5 : ∀ w ∈ u_ws RX5 TX5 6, w ∈ zT := zall _ [287, 289, 291, 293, 295, 297] (by decide +kernel) (by decide +kernel)
theorem zinX6 : ∀ w ∈ u_ws RX6 TX6 2, w ∈ zT := zall _ [175, 177] (by decide +kernel) (by decide +kernel)
theorem zinX7 : ∀ w ∈ u_ws RX7 TX7 5, w ∈ zT := zall _ [193, 195, 197, 199, 201] (by decide +kernel) (by decide +kernel)
theorem zinX8 : ∀ w ∈ u_ws RX8 TX8 4, w ∈ zT := zall _ [219, 221, 223, 225] (by decide +kernel) (by decide +kernel)
theorem zinX9 : ∀ w ∈ u_ws RX9 TX9 9, w ∈ zT := zall _ [245, 247, 249, 251, 253, 255, 257, 259, 261] (by decide +kernel) (by decide +kernel)
theorem zinX10 : ∀ w ∈ u_ws RX10 TX10 12, w ∈ zT := zall _ [395, 397, 399, 401, 403, 405, 407, 409, 411, 413, 415, 417] (by decide +kernel) (by decide +kernel)
theorem zinX11 : ∀ w ∈ u_ws RX11 TX11 33, w ∈ zT := zall _ [1194, 1196, 1198, 1200, 1202, 1204, 1206, 1208, 1210, 1212, 1214, 1216, 1218, 1220, 1222, 1224, 1226, 1228, 1230, 1232, 1234, 1236, 1238, 1240, 1242, 1244, 1246, 1248, 1250, 1252, 1254, 1256, 1258] (by decide +kernel) (by decide +kernel)
theorem plJ6 : plainName RJ6 = true := by decide
theorem plJ7 : plainName RJ7 = true := by decide
theorem plL : plainName RL = true := by decide
theorem plX0 : plainName RX0 = true := by decide
theorem plX1 : plainName RX1 = true := by decide
theorem plX10 : plainName RX10 = true := by decide
theorem plX11 : plainName RX11 = true := by decide
theorem plX2 : plainName RX2 = true := by decide
theorem plX3 : plainName RX3 = true := by decide
theorem plX4 : plainName RX4 = true := by decide
theorem plX5 : plainName RX5 = true := by decide
theorem plX6 : plainName RX6 = true := by decide
theorem plX7 : plainName RX7 = true := by decide
theorem plX8 : plainName RX8 = true := by decide
theorem plX9 : plainName RX9 = true := by decide
theorem fl_X0_9 : zFl RX0 9 0 0 := ⟨_, rfl, by decide, zinX0, zmem 356 (by decide +kernel) rfl⟩
theorem fl_X0_15 : zFl RX0 15 0 1 := ⟨_, rfl, by decide, zinX0, zmem 357 (by decide +kernel) rfl⟩
theorem fl_X0_22 : zFl RX0 22 5 1 := ⟨_, rfl, by decide, zinX5, zmem 277 (by decide +kernel) rfl⟩
theorem fl_X0_40 : zFl RX0 40 5 0 := ⟨_, rfl, by decide, zinX5, zmem 275 (by decide +kernel) rfl⟩
theorem fl_X1_9 : zFl RX1 9 1 1 := ⟨_, rfl, by decide, zinX1, zmem 370 (by decide +kernel) rfl⟩
theorem fl_X1_15 : zFl RX1 15 1 2 := ⟨_, rfl, by decide, zinX1, zmem 371 (by decide +kernel) rfl⟩
theorem fl_X1_19 : zFl RX1 19 1 3 := ⟨_, rfl, by decide, zinX1, zmem 372 (by decide +kernel) rfl⟩
theorem fl_X1_22 : zFl RX1 22 1 0 := ⟨_, rfl, by decide, zinX1, zmem 369 (by decide +kernel) rfl⟩
theorem fl_X10_12 : zFl RX10 12 10 0 := ⟨_, rfl, by decide, zinX10, zmem 383 (by decide +kernel) rfl⟩
theorem fl_X10_16 : zFl RX10 16 10 1 := ⟨_, rfl, by decide, zinX10, zmem 384 (by decide +kernel) rfl⟩
theorem fl_X10_23 : zFl RX10 23 10 2 := ⟨_, rfl, by decide, zinX10, zmem 385 (by decide +kernel) rfl⟩
theorem fl_X10_30 : zFl RX10 30 10 3 := ⟨_, rfl, by decide, zinX10, zmem 386 (by decide +kernel) rfl⟩
theorem fl_X10_37 : zFl RX10 37 10 4 := ⟨_, rfl, by decide, zinX10, zmem 387 (by decide +kernel) rfl⟩
theorem fl_X10_44 : zFl RX10 44 10 5 := ⟨_, rfl, by decide, zinX10, zmem 388 (by decide +kernel) rfl⟩
theorem fl_X10_53 : zFl RX10 53 10 6 := ⟨_, rfl, by decide, zinX10, zmem 389 (by decide +kernel) rfl⟩
theorem fl_X10_60 : zFl RX10 60 10 7 := ⟨_, rfl, by decide, zinX10, zmem 390 (by decide +kernel) rfl⟩
theorem fl_X10_67 : zFl RX10 67 10 8 := ⟨_, rfl, by decide, zinX10, zmem 391 (by decide +kernel) rfl⟩
theorem fl_X10_71 : zFl RX10 71 10 9 := ⟨_, rfl, by decide, zinX10, zmem 392 (by decide +kernel) rfl⟩
theorem fl_X10_75 : zFl RX10 75 10 10 := ⟨_, rfl, by decide, zinX10, zmem 393 (by decide +kernel) rfl⟩
theorem fl_X10_78 : zFl RX10 78 10 11 := ⟨_, rfl, by decide, zinX10, zmem 394 (by decide +kernel) rfl⟩
theorem fl_X10_86 : zFl RX10 86 9 1 := ⟨_, rfl, by decide, zinX9, zmem 236 (by decide +kernel) rfl⟩
theorem fl_X10_97 : zFl RX10 97 7 2 := ⟨_, rfl, by decide, zinX7, zmem 189 (by decide +kernel) rfl⟩
theorem fl_X10_104 : zFl RX10 104 9 2 := ⟨_, rfl, by decide, zinX9, zmem 238 (by decide +kernel) rfl⟩
theorem fl_X10_107 : zFl RX10 107 6 0 := ⟨_, rfl, by decide, zinX6, zmem 170 (by decide +kernel) rfl⟩
theorem fl_X10_114 : zFl RX10 114 6 1 := ⟨_, rfl, by decide, zinX6, zmem 173 (by decide +kernel) rfl⟩
theorem fl_X10_125 : zFl RX10 125 2 0 := ⟨_, rfl, by decide, zinX2, zmem 129 (by decide +kernel) rfl⟩
theorem fl_X10_145 : zFl RX10 145 2 1 := ⟨_, rfl, by decide, zinX2, zmem 132 (by decide +kernel) rfl⟩
theorem fl_X10_152 : zFl RX10 152 2 2 := ⟨_, rfl, by decide, zinX2, zmem 135 (by decide +kernel) rfl⟩
theorem fl_X10_155 : zFl RX10 155 2 3 := ⟨_, rfl, by decide, zinX2, zmem 139 (by decide +kernel) rfl⟩
theorem fl_X10_170 : zFl RX10 170 7 0 := ⟨_, rfl, by decide, zinX7, zmem 183 (by decide +kernel) rfl⟩
theorem fl_X10_174 : zFl RX10 174 7 1 := ⟨_, rfl, by decide, zinX7, zmem 186 (by decide +kernel) rfl⟩
theorem fl_X10_194 : zFl RX10 194 5 2 := ⟨_, rfl, by decide, zinX5, zmem 283 (by decide +kernel) rfl⟩
theorem fl_X10_203 : zFl RX10 203 4 2 := ⟨_, rfl, by decide, zinX4, zmem 342 (by decide +kernel) rfl⟩
theorem fl_X10_245 : zFl RX10 245 7 3 := ⟨_, rfl, by decide, zinX7, zmem 191 (by decide +kernel) rfl⟩
theorem fl_X10_343 : zFl RX10 343 7 4 := ⟨_, rfl, by decide, zinX7, zmem 192 (by decide +kernel) rfl⟩
theorem fl_X10_353 : zFl RX10 353 8 0 := ⟨_, rfl, by decide, zinX8, zmem 213 (by decide +kernel) rfl⟩
theorem fl_X10_356 : zFl RX10 356 8 2 := ⟨_, rfl, by decide, zinX8, zmem 216 (by decide +kernel) rfl⟩
theorem fl_X10_385 : zFl RX10 385 5 0 := ⟨_, rfl, by decide, zinX5, zmem 276 (by decide +kernel) rfl⟩
theorem fl_X10_388 : zFl RX10 388 5 1 := ⟨_, rfl, by decide, zinX5, zmem 280 (by decide +kernel) rfl⟩
theorem fl_X10_396 : zFl RX10 396 8 3 := ⟨_, rfl, by decide, zinX8, zmem 218 (by decide +kernel) rfl⟩
theorem fl_X11_7 : zFl RX11 7 11 0 := ⟨_, rfl, by decide, zinX11, zmem 1161 (by decide +kernel) rfl⟩
theorem fl_X11_13 : zFl RX11 13 11 9 := ⟨_, rfl, by decide, zinX11, zmem 1170 (by decide +kernel) rfl⟩
theorem fl_X11_16 : zFl RX11 16 11 10 := ⟨_, rfl, by decide, zinX11, zmem 1171 (by decide +kernel) rfl⟩
theorem fl_X11_19 : zFl RX11 19 11 11 := ⟨_, rfl, by decide, zinX11, zmem 1172 (by decide +kernel) rfl⟩
theorem fl_X11_22 : zFl RX11 22 11 12 := ⟨_, rfl, by decide, zinX11, zmem 1173 (by decide +kernel) rfl⟩
theorem fl_X11_25 : zFl RX11 25 11 13 := ⟨_, rfl, by decide, zinX11, zmem 1174 (by decide +kernel) rfl⟩
theorem fl_X11_28 : zFl RX11 28 11 14 := ⟨_, rfl, by decide, zinX11, zmem 1175 (by decide +kernel) rfl⟩
theorem fl_X11_31 : zFl RX11 31 11 16 := ⟨_, rfl, by decide, zinX11, zmem 1177 (by decide +kernel) rfl⟩
theorem fl_X11_34 : zFl RX11 34 11 17 := ⟨_, rfl, by decide, zinX11, zmem 1178 (by decide +kernel) rfl⟩
theorem fl_X11_37 : zFl RX11 37 11 18 := ⟨_, rfl, by decide, zinX11, zmem 1179 (by decide +kernel) rfl⟩
theorem fl_X11_40 : zFl RX11 40 11 19 := ⟨_, rfl, by decide, zinX11, zmem 1180 (by decide +kernel) rfl⟩
theorem fl_X11_44 : zFl RX11 44 11 20 := ⟨_, rfl, by decide, zinX11, zmem 1181 (by decide +kernel) rfl⟩
theorem fl_X11_47 : zFl RX11 47 11 21 := ⟨_, rfl, by decide, zinX11, zmem 1182 (by decide +kernel) rfl⟩
theorem fl_X11_50 : zFl RX11 50 11 22 := ⟨_, rfl, by decide, zinX11, zmem 1183 (by decide +kernel) rfl⟩
theorem fl_X11_53 : zFl RX11 53 11 23 := ⟨_, rfl, by decide, zinX11, zmem 1184 (by decide +kernel) rfl⟩
theorem fl_X11_56 : zFl RX11 56 11 24 := ⟨_, rfl, by decide, zinX11, zmem 1185 (by decide +kernel) rfl⟩
theorem fl_X11_59 : zFl RX11 59 11 25 := ⟨_, rfl, by decide, zinX11, zmem 1186 (by decide +kernel) rfl⟩
theorem fl_X11_62 : zFl RX11 62 11 26 := ⟨_, rfl, by decide, zinX11, zmem 1187 (by decide +kernel) rfl⟩
theorem fl_X11_65 : zFl RX11 65 11 27 := ⟨_, rfl, by decide, zinX11, zmem 1188 (by decide +kernel) rfl⟩
theorem fl_X11_69 : zFl RX11 69 11 28 := ⟨_, rfl, by decide, zinX11, zmem 1189 (by decide +kernel) rfl⟩
theorem fl_X11_72 : zFl RX11 72 11 29 := ⟨_, rfl, by decide, zinX11, zmem 1190 (by decide +kernel) rfl⟩
theorem fl_X11_75 : zFl RX11 75 11 30 := ⟨_, rfl, by decide, zinX11, zmem 1191 (by decide +kernel) rfl⟩
theorem fl_X11_78 : zFl RX11 78 11 31 := ⟨_, rfl, by decide, zinX11, zmem 1192 (by decide +kernel) rfl⟩
theorem fl_X11_81 : zFl RX11 81 11 1 := ⟨_, rfl, by decide, zinX11, zmem 1162 (by decide +kernel) rfl⟩
theorem fl_X11_89 : zFl RX11 89 11 3 := ⟨_, rfl, by decide, zinX11, zmem 1164 (by decide +kernel) rfl⟩
theorem fl_X11_92 : zFl RX11 92 11 6 := ⟨_, rfl, by decide, zinX11, zmem 1167 (by decide +kernel) rfl⟩
theorem fl_X11_95 : zFl RX11 95 11 4 := ⟨_, rfl, by decide, zinX11, zmem 1165 (by decide +kernel) rfl⟩
theorem fl_X11_98 : zFl RX11 98 11 5 := ⟨_, rfl, by decide, zinX11, zmem 1166 (by decide +kernel) rfl⟩
theorem fl_X11_105 : zFl RX11 105 11 8 := ⟨_, rfl, by decide, zinX11, zmem 1169 (by decide +kernel) rfl⟩
theorem fl_X11_108 : zFl RX11 108 11 7 := ⟨_, rfl, by decide, zinX11, zmem 1168 (by decide +kernel) rfl⟩
theorem fl_X11_139 : zFl RX11 139 11 15 := ⟨_, rfl, by decide, zinX11, zmem 1176 (by decide +kernel) rfl⟩
theorem fl_X11_148 : zFl RX11 148 11 2 := ⟨_, rfl, by decide, zinX11, zmem 1163 (by decide +kernel) rfl⟩
theorem fl_X11_297 : zFl RX11 297 11 32 := ⟨_, rfl, by decide, zinX11, zmem 1193 (by decide +kernel) rfl⟩
theorem fl_X2_9 : zFl RX2 9 2 1 := ⟨_, rfl, by decide, zinX2, zmem 130 (by decide +kernel) rfl⟩
theorem fl_X2_15 : zFl RX2 15 2 2 := ⟨_, rfl, by decide, zinX2, zmem 133 (by decide +kernel) rfl⟩
theorem fl_X2_18 : zFl RX2 18 2 3 := ⟨_, rfl, by decide, zinX2, zmem 136 (by decide +kernel) rfl⟩
theorem fl_X2_21 : zFl RX2 21 2 0 := ⟨_, rfl, by decide, zinX2, zmem 127 (by decide +kernel) rfl⟩
theorem fl_X3_9 : zFl RX3 9 3 2 := ⟨_, rfl, by decide, zinX3, zmem 314 (by decide +kernel) rfl⟩
theorem fl_X3_15 : zFl RX3 15 3 3 := ⟨_, rfl, by decide, zinX3, zmem 315 (by decide +kernel) rfl⟩
theorem fl_X3_18 : zFl RX3 18 3 4 := ⟨_, rfl, by decide, zinX3, zmem 316 (by decide +kernel) rfl⟩
theorem fl_X3_21 : zFl RX3 21 3 5 := ⟨_, rfl, by decide, zinX3, zmem 317 (by decide +kernel) rfl⟩
theorem fl_X3_24 : zFl RX3 24 3 6 := ⟨_, rfl, by decide, zinX3, zmem 318 (by decide +kernel) rfl⟩
theorem fl_X3_28 : zFl RX3 28 3 7 := ⟨_, rfl, by decide, zinX3, zmem 319 (by decide +kernel) rfl⟩
theorem fl_X3_47 : zFl RX3 47 3 0 := ⟨_, rfl, by decide, zinX3, zmem 312 (by decide +kernel) rfl⟩
theorem fl_X3_60 : zFl RX3 60 3 1 := ⟨_, rfl, by decide, zinX3, zmem 313 (by decide +kernel) rfl⟩
theorem fl_X4_12 : zFl RX4 12 4 1 := ⟨_, rfl, by decide, zinX4, zmem 340 (by decide +kernel) rfl⟩
theorem fl_X4_18 : zFl RX4 18 4 2 := ⟨_, rfl, by decide, zinX4, zmem 341 (by decide +kernel) rfl⟩
theorem fl_X4_22 : zFl RX4 22 4 0 := ⟨_, rfl, by decide, zinX4, zmem 339 (by decide +kernel) rfl⟩
theorem fl_X4_35 : zFl RX4 35 5 0 := ⟨_, rfl, by decide, zinX5, zmem 274 (by decide +kernel) rfl⟩
theorem fl_X4_41 : zFl RX4 41 5 1 := ⟨_, rfl, by decide, zinX5, zmem 279 (by decide +kernel) rfl⟩
theorem fl_X4_71 : zFl RX4 71 5 2 := ⟨_, rfl, by decide, zinX5, zmem 282 (by decide +kernel) rfl⟩
theorem fl_X5_9 : zFl RX5 9 5 4 := ⟨_, rfl, by decide, zinX5, zmem 285 (by decide +kernel) rfl⟩
theorem fl_X5_15 : zFl RX5 15 5 5 := ⟨_, rfl, by decide, zinX5, zmem 286 (by decide +kernel) rfl⟩
theorem fl_X5_18 : zFl RX5 18 7 0 := ⟨_, rfl, by decide, zinX7, zmem 182 (by decide +kernel) rfl⟩
theorem fl_X5_24 : zFl RX5 24 2 0 := ⟨_, rfl, by decide, zinX2, zmem 128 (by decide +kernel) rfl⟩
theorem fl_X5_30 : zFl RX5 30 5 0 := ⟨_, rfl, by decide, zinX5, zmem 273 (by decide +kernel) rfl⟩
theorem fl_X5_33 : zFl RX5 33 7 1 := ⟨_, rfl, by decide, zinX7, zmem 185 (by decide +kernel) rfl⟩
theorem fl_X5_36 : zFl RX5 36 5 1 := ⟨_, rfl, by decide, zinX5, zmem 278 (by decide +kernel) rfl⟩
theorem fl_X5_39 : zFl RX5 39 7 2 := ⟨_, rfl, by decide, zinX7, zmem 188 (by decide +kernel) rfl⟩
theorem fl_X5_43 : zFl RX5 43 6 0 := ⟨_, rfl, by decide, zinX6, zmem 169 (by decide +kernel) rfl⟩
theorem fl_X5_51 : zFl RX5 51 5 3 := ⟨_, rfl, by decide, zinX5, zmem 284 (by decide +kernel) rfl⟩
theorem fl_X5_76 : zFl RX5 76 2 2 := ⟨_, rfl, by decide, zinX2, zmem 134 (by decide +kernel) rfl⟩
theorem fl_X5_83 : zFl RX5 83 2 3 := ⟨_, rfl, by decide, zinX2, zmem 137 (by decide +kernel) rfl⟩
theorem fl_X6_9 : zFl RX6 9 6 0 := ⟨_, rfl, by decide, zinX6, zmem 168 (by decide +kernel) rfl⟩
theorem fl_X6_15 : zFl RX6 15 6 1 := ⟨_, rfl, by decide, zinX6, zmem 172 (by decide +kernel) rfl⟩
theorem fl_X7_12 : zFl RX7 12 7 0 := ⟨_, rfl, by decide, zinX7, zmem 181 (by decide +kernel) rfl⟩
theorem fl_X7_18 : zFl RX7 18 7 1 := ⟨_, rfl, by decide, zinX7, zmem 184 (by decide +kernel) rfl⟩
theorem fl_X7_24 : zFl RX7 24 7 2 := ⟨_, rfl, by decide, zinX7, zmem 187 (by decide +kernel) rfl⟩
theorem fl_X7_28 : zFl RX7 28 7 3 := ⟨_, rfl, by decide, zinX7, zmem 190 (by decide +kernel) rfl⟩
theorem fl_X7_51 : zFl RX7 51 2 1 := ⟨_, rfl, by decide, zinX2, zmem 131 (by decide +kernel) rfl⟩
theorem fl_X8_11 : zFl RX8 11 8 3 := ⟨_, rfl, by decide, zinX8, zmem 217 (by decide +kernel) rfl⟩
theorem fl_X8_15 : zFl RX8 15 8 0 := ⟨_, rfl, by decide, zinX8, zmem 212 (by decide +kernel) rfl⟩
theorem fl_X8_19 : zFl RX8 19 8 1 := ⟨_, rfl, by decide, zinX8, zmem 214 (by decide +kernel) rfl⟩
theorem fl_X8_23 : zFl RX8 23 8 2 := ⟨_, rfl, by decide, zinX8, zmem 215 (by decide +kernel) rfl⟩
theorem fl_X8_42 : zFl RX8 42 2 3 := ⟨_, rfl, by decide, zinX2, zmem 138 (by decide +kernel) rfl⟩
theorem fl_X9_11 : zFl RX9 11 9 0 := ⟨_, rfl, by decide, zinX9, zmem 234 (by decide +kernel) rfl⟩
theorem fl_X9_15 : zFl RX9 15 9 1 := ⟨_, rfl, by decide, zinX9, zmem 235 (by decide +kernel) rfl⟩
theorem fl_X9_24 : zFl RX9 24 9 4 := ⟨_, rfl, by decide, zinX9, zmem 240 (by decide +kernel) rfl⟩
theorem fl_X9_27 : zFl RX9 27 9 8 := ⟨_, rfl, by decide, zinX9, zmem 244 (by decide +kernel) rfl⟩
theorem fl_X9_30 : zFl RX9 30 9 2 := ⟨_, rfl, by decide, zinX9, zmem 237 (by decide +kernel) rfl⟩
theorem fl_X9_37 : zFl RX9 37 9 5 := ⟨_, rfl, by decide, zinX9, zmem 241 (by decide +kernel) rfl⟩
theorem fl_X9_44 : zFl RX9 44 9 3 := ⟨_, rfl, by decide, zinX9, zmem 239 (by decide +kernel) rfl⟩
theorem fl_X9_47 : zFl RX9 47 9 6 := ⟨_, rfl, by decide, zinX9, zmem 242 (by decide +kernel) rfl⟩
theorem fl_X9_54 : zFl RX9 54 9 7 := ⟨_, rfl, by decide, zinX9, zmem 243 (by decide +kernel) rfl⟩
theorem fl_X9_80 : zFl RX9 80 6 0 := ⟨_, rfl, by decide, zinX6, zmem 171 (by decide +kernel) rfl⟩
theorem fl_X9_100 : zFl RX9 100 6 1 := ⟨_, rfl, by decide, zinX6, zmem 174 (by decide +kernel) rfl⟩
theorem fp_X1_22 : zFp RX1 22 1 0 .int := ⟨_, tyX1, rfl, by decide, zinX1, zmem 369 (by decide +kernel) rfl, tyX1_ok, nmX1, rfl, by decide +kernel⟩
theorem fp_X10_78 : zFp RX10 78 10 11 .int := ⟨_, tyX10, rfl, by decide, zinX10, zmem 394 (by decide +kernel) rfl, tyX10_ok, nmX10, rfl, by decide +kernel⟩
theorem fp_X10_86 : zFp RX10 86 9 1 .int := ⟨_, tyX9, rfl, by decide, zinX9, zmem 236 (by decide +kernel) rfl, tyX9_ok, nmX9, rfl, by decide +kernel⟩
theorem fp_X10_343 : zFp RX10 343 7 4 .boolean := ⟨_, tyX7, rfl, by decide, zinX7, zmem 192 (by decide +kernel) rfl, tyX7_ok, nmX7, rfl, by decide +kernel⟩
theorem fp_X11_81 : zFp RX11 81 11 1 .int := ⟨_, tyX11, rfl, by decide, zinX11, zmem 1162 (by decide +kernel) rfl, tyX11_ok, nmX11, rfl, by decide +kernel⟩
theorem fp_X11_89 : zFp RX11 89 11 3 .int := ⟨_, tyX11, rfl, by decide, zinX11, zmem 1164 (by decide +kernel) rfl, tyX11_ok, nmX11, rfl, by decide +kernel⟩
theorem fp_X11_92 : zFp RX11 92 11 6 .int := ⟨_, tyX11, rfl, by decide, zinX11, zmem 1167 (by decide +kernel) rfl, tyX11_ok, nmX11, rfl, by decide +kernel⟩
theorem fp_X11_95 : zFp RX11 95 11 4 .int := ⟨_, tyX11, rfl, by decide, zinX11, zmem 1165 (by decide +kernel) rfl, tyX11_ok, nmX11, rfl, by decide +kernel⟩
theorem fp_X11_98 : zFp RX11 98 11 5 .int := ⟨_, tyX11, rfl, by decide, zinX11, zmem 1166 (by decide +kernel) rfl, tyX11_ok, nmX11, rfl, by decide +kernel⟩
theorem fp_X11_105 : zFp RX11 105 11 8 .int := ⟨_, tyX11, rfl, by decide, zinX11, zmem 1169 (by decide +kernel) rfl, tyX11_ok, nmX11, rfl, by decide +kernel⟩
theorem fp_X11_108 : zFp RX11 108 11 7 .int := ⟨_, tyX11, rfl, by decide, zinX11, zmem 1168 (by decide +kernel) rfl, tyX11_ok, nmX11, rfl, by decide +kernel⟩
theorem fp_X11_139 : zFp RX11 139 11 15 .int := ⟨_, tyX11, rfl, by decide, zinX11, zmem 1176 (by decide +kernel) rfl, tyX11_ok, nmX11, rfl, by decide +kernel⟩
theorem fp_X11_148 : zFp RX11 148 11 2 .int := ⟨_, tyX11, rfl, by decide, zinX11, zmem 1163 (by decide +kernel) rfl, tyX11_ok, nmX11, rfl, by decide +kernel⟩
theorem fp_X11_297 : zFp RX11 297 11 32 .int := ⟨_, tyX11, rfl, by decide, zinX11, zmem 1193 (by decide +kernel) rfl, tyX11_ok, nmX11, rfl, by decide +kernel⟩
theorem fp_X2_21 : zFp RX2 21 2 0 .int := ⟨_, tyX2, rfl, by decide, zinX2, zmem 127 (by decide +kernel) rfl, tyX2_ok, nmX2, rfl, by decide +kernel⟩
theorem fp_X3_47 : zFp RX3 47 3 0 .int := ⟨_, tyX3, rfl, by decide, zinX3, zmem 312 (by decide +kernel) rfl, tyX3_ok, nmX3, rfl, by decide +kernel⟩
theorem fp_X3_60 : zFp RX3 60 3 1 .int := ⟨_, tyX3, rfl, by decide, zinX3, zmem 313 (by decide +kernel) rfl, tyX3_ok, nmX3, rfl, by decide +kernel⟩
theorem fp_X5_30 : zFp RX5 30 5 0 .int := ⟨_, tyX5, rfl, by decide, zinX5, zmem 273 (by decide +kernel) rfl, tyX5_ok, nmX5, rfl, by decide +kernel⟩
theorem fp_X5_36 : zFp RX5 36 5 1 .int := ⟨_, tyX5, rfl, by decide, zinX5, zmem 278 (by decide +kernel) rfl, tyX5_ok, nmX5, rfl, by decide +kernel⟩
theorem fp_X5_48 : zFp RX5 48 5 2 .int := ⟨_, tyX5, rfl, by decide, zinX5, zmem 281 (by decide +kernel) rfl, tyX5_ok, nmX5, rfl, by decide +kernel⟩
theorem fp_X5_51 : zFp RX5 51 5 3 .int := ⟨_, tyX5, rfl, by decide, zinX5, zmem 284 (by decide +kernel) rfl, tyX5_ok, nmX5, rfl, by decide +kernel⟩
theorem fp_X8_15 : zFp RX8 15 8 0 .boolean := ⟨_, tyX8, rfl, by decide, zinX8, zmem 212 (by decide +kernel) rfl, tyX8_ok, nmX8, rfl, by decide +kernel⟩
theorem fp_X8_19 : zFp RX8 19 8 1 .int := ⟨_, tyX8, rfl, by decide, zinX8, zmem 214 (by decide +kernel) rfl, tyX8_ok, nmX8, rfl, by decide +kernel⟩
theorem fp_X8_23 : zFp RX8 23 8 2 .int := ⟨_, tyX8, rfl, by decide, zinX8, zmem 215 (by decide +kernel) rfl, tyX8_ok, nmX8, rfl, by decide +kernel⟩
theorem fp_X9_15 : zFp RX9 15 9 1 .int := ⟨_, tyX9, rfl, by decide, zinX9, zmem 235 (by decide +kernel) rfl, tyX9_ok, nmX9, rfl, by decide +kernel⟩
theorem fp_X9_24 : zFp RX9 24 9 4 .int := ⟨_, tyX9, rfl, by decide, zinX9, zmem 240 (by decide +kernel) rfl, tyX9_ok, nmX9, rfl, by decide +kernel⟩
theorem fp_X9_27 : zFp RX9 27 9 8 .int := ⟨_, tyX9, rfl, by decide, zinX9, zmem 244 (by decide +kernel) rfl, tyX9_ok, nmX9, rfl, by decide +kernel⟩
theorem fp_X9_30 : zFp RX9 30 9 2 .int := ⟨_, tyX9, rfl, by decide, zinX9, zmem 237 (by decide +kernel) rfl, tyX9_ok, nmX9, rfl, by decide +kernel⟩
theorem fp_X9_37 : zFp RX9 37 9 5 .int := ⟨_, tyX9, rfl, by decide, zinX9, zmem 241 (by decide +kernel) rfl, tyX9_ok, nmX9, rfl, by decide +kernel⟩
theorem fp_X9_44 : zFp RX9 44 9 3 .int := ⟨_, tyX9, rfl, by decide, zinX9, zmem 239 (by decide +kernel) rfl, tyX9_ok, nmX9, rfl, by decide +kernel⟩
theorem fp_X9_47 : zFp RX9 47 9 6 .int := ⟨_, tyX9, rfl, by decide, zinX9, zmem 242 (by decide +kernel) rfl, tyX9_ok, nmX9, rfl, by decide +kernel⟩
theorem fp_X9_54 : zFp RX9 54 9 7 .int := ⟨_, tyX9, rfl, by decide, zinX9, zmem 243 (by decide +kernel) rfl, tyX9_ok, nmX9, rfl, by decide +kernel⟩
theorem cw_J6_265 : Cond.constant RJ6 265 (1431655765) ∈ zT := zmem 885 (by decide +kernel) rfl
theorem cw_J6_266 : Cond.constant RJ6 266 (858993459) ∈ zT := zmem 886 (by decide +kernel) rfl
theorem cw_J6_267 : Cond.constant RJ6 267 (252645135) ∈ zT := zmem 887 (by decide +kernel) rfl
theorem cw_X0_43 : Cond.constant RX0 43 (100000) ∈ zT := zmem 785 (by decide +kernel) rfl
theorem cw_X10_120 : Cond.constant RX10 120 (83520) ∈ zT := zmem 582 (by decide +kernel) rfl
theorem cw_X10_180 : Cond.constantLong RX10 180 (-1) ∈ zT := zmem 695 (by decide +kernel) rfl
theorem cw_X10_272 : Cond.constant RX10 272 (-1000000) ∈ zT := zmem 929 (by decide +kernel) rfl
theorem cw_X10_296 : Cond.constantLong RX10 296 (1152921504606846976) ∈ zT := zmem 969 (by decide +kernel) rfl
theorem cw_X10_394 : Cond.constant RX10 394 (-1000010) ∈ zT := zmem 938 (by decide +kernel) rfl
theorem cw_X10_395 : Cond.constant RX10 395 (-1000012) ∈ zT := zmem 939 (by decide +kernel) rfl
theorem cw_X10_399 : Cond.constant RX10 399 (-1000020) ∈ zT := zmem 940 (by decide +kernel) rfl
theorem cw_X11_111 : Cond.constantLong RX11 111 (97) ∈ zT := zmem 1284 (by decide +kernel) rfl
theorem cw_X11_113 : Cond.constantLong RX11 113 (122) ∈ zT := zmem 1285 (by decide +kernel) rfl
theorem cw_X11_115 : Cond.constantLong RX11 115 (48) ∈ zT := zmem 1286 (by decide +kernel) rfl
theorem cw_X11_117 : Cond.constantLong RX11 117 (57) ∈ zT := zmem 1287 (by decide +kernel) rfl
theorem cw_X11_126 : Cond.constantLong RX11 126 (7) ∈ zT := zmem 1312 (by decide +kernel) rfl
theorem cw_X11_151 : Cond.constantLong RX11 151 (9) ∈ zT := zmem 1321 (by decide +kernel) rfl
theorem cw_X11_157 : Cond.constantLong RX11 157 (-99) ∈ zT := zmem 1333 (by decide +kernel) rfl
theorem cw_X11_159 : Cond.constantLong RX11 159 (99) ∈ zT := zmem 1334 (by decide +kernel) rfl
theorem cw_X11_167 : Cond.constantLong RX11 167 (999) ∈ zT := zmem 1342 (by decide +kernel) rfl
theorem cw_X11_169 : Cond.constantLong RX11 169 (83520) ∈ zT := zmem 1343 (by decide +kernel) rfl
theorem cw_X11_171 : Cond.constantLong RX11 171 (6) ∈ zT := zmem 1344 (by decide +kernel) rfl
theorem cw_X11_185 : Cond.constantLong RX11 185 (2) ∈ zT := zmem 1369 (by decide +kernel) rfl
theorem cw_X11_187 : Cond.constantLong RX11 187 (10) ∈ zT := zmem 1370 (by decide +kernel) rfl
theorem cw_X11_189 : Cond.constantLong RX11 189 (13) ∈ zT := zmem 1371 (by decide +kernel) rfl
theorem cw_X11_191 : Cond.constantLong RX11 191 (3) ∈ zT := zmem 1376 (by decide +kernel) rfl
theorem cw_X11_193 : Cond.constantLong RX11 193 (16) ∈ zT := zmem 1377 (by decide +kernel) rfl
theorem cw_X11_225 : Cond.constant RX11 225 (1000000) ∈ zT := zmem 1443 (by decide +kernel) rfl
theorem cw_X11_240 : Cond.constantLong RX11 240 (-1) ∈ zT := zmem 1423 (by decide +kernel) rfl
theorem cw_X11_262 : Cond.constantLong RX11 262 (4) ∈ zT := zmem 1515 (by decide +kernel) rfl
theorem cw_X11_264 : Cond.constant RX11 264 (-1000000) ∈ zT := zmem 1516 (by decide +kernel) rfl
theorem cw_X11_265 : Cond.constant RX11 265 (-1000010) ∈ zT := zmem 1517 (by decide +kernel) rfl
theorem cw_X11_266 : Cond.constant RX11 266 (-1000012) ∈ zT := zmem 1518 (by decide +kernel) rfl
theorem cw_X11_267 : Cond.constantLong RX11 267 (-999) ∈ zT := zmem 1519 (by decide +kernel) rfl
theorem cw_X11_269 : Cond.constant RX11 269 (-1000020) ∈ zT := zmem 1520 (by decide +kernel) rfl
theorem cw_X11_285 : Cond.constantLong RX11 285 (50) ∈ zT := zmem 1564 (by decide +kernel) rfl
theorem cw_X3_58 : Cond.constantLong RX3 58 (1152921504606846976) ∈ zT := zmem 746 (by decide +kernel) rfl
theorem cw_X4_83 : Cond.constantLong RX4 83 (2) ∈ zT := zmem 859 (by decide +kernel) rfl
theorem cw_X4_85 : Cond.constantLong RX4 85 (32) ∈ zT := zmem 868 (by decide +kernel) rfl
theorem cw_X4_87 : Cond.constantLong RX4 87 (25937424601) ∈ zT := zmem 802 (by decide +kernel) rfl
theorem cw_X4_89 : Cond.constantLong RX4 89 (11) ∈ zT := zmem 803 (by decide +kernel) rfl
abbrev mJ7_fill_53178 : zD := (yJ7_fill_53178, cJ7_fill_53178, 4, none, 0, 0)
abbrev mX5_mayBe : zD := (yX5_mayBe, cX5_mayBe, 3, some .boolean, 0, 0)
abbrev mX5_gainOf : zD := (yX5_gainOf, cX5_gainOf, 3, some .int, 0, 0)
abbrev mX0_openTo : zD := (yX0_openTo, cX0_openTo, 5, some .int, 1, 22)
abbrev mX0_spreadLine : zD := (yX0_spreadLine, cX0_spreadLine, 6, none, 0, 0)
abbrev mX0_spreadAll : zD := (yX0_spreadAll, cX0_spreadAll, 6, none, 2, 46)
abbrev mX0_countAll : zD := (yX0_countAll, cX0_countAll, 7, some .long, 3, 71)
abbrev mJ6_bitCount_0f7a4 : zD := (yJ6_bitCount_0f7a4, cJ6_bitCount_0f7a4, 1, some .int, 0, 0)
abbrev mX0_countOfSize : zD := (yX0_countOfSize, cX0_countOfSize, 6, some .long, 1, 20)
abbrev mX0_addBest : zD := (yX0_addBest, cX0_addBest, 4, none, 0, 0)
abbrev mX0_spreadBest : zD := (yX0_spreadBest, cX0_spreadBest, 7, none, 2, 46)
abbrev mX0_countBest : zD := (yX0_countBest, cX0_countBest, 6, some .long, 3, 72)
abbrev mX1_begin : zD := (yX1_begin, cX1_begin, 2, none, 1, 23)
abbrev mX1_join : zD := (yX1_join, cX1_join, 3, none, 0, 0)
abbrev mX1_markTogether : zD := (yX1_markTogether, cX1_markTogether, 3, none, 0, 0)
abbrev mX1_largest : zD := (yX1_largest, cX1_largest, 3, some .int, 1, 23)
abbrev mX1_fewestParts : zD := (yX1_fewestParts, cX1_fewestParts, 5, some .int, 1, 23)
abbrev mX1_fewest : zD := (yX1_fewest, cX1_fewest, 3, some .int, 2, 47)
abbrev mX10_within : zD := (yX10_within, cX10_within, 3, some .boolean, 0, 0)
abbrev mX2_has : zD := (yX2_has, cX2_has, 2, some .boolean, 1, 22)
abbrev mX2_append : zD := (yX2_append, cX2_append, 4, some .int, 0, 0)
abbrev mX2_setPlate : zD := (yX2_setPlate, cX2_setPlate, 5, none, 0, 0)
abbrev mX2_plateOf : zD := (yX2_plateOf, cX2_plateOf, 4, some .int, 0, 0)
abbrev mX2_remove : zD := (yX2_remove, cX2_remove, 3, none, 1, 26)
abbrev mX2_copyFrom : zD := (yX2_copyFrom, cX2_copyFrom, 2, none, 1, 26)
abbrev mX2_areUnlikeColours : zD := (yX2_areUnlikeColours, cX2_areUnlikeColours, 2, some .boolean, 0, 0)
abbrev mX2_isDoubtful : zD := (yX2_isDoubtful, cX2_isDoubtful, 1, some .boolean, 0, 0)
abbrev mX2_mayBeOneCar : zD := (yX2_mayBeOneCar, cX2_mayBeOneCar, 7, some .boolean, 1, 21)
abbrev mX2_letterOf : zD := (yX2_letterOf, cX2_letterOf, 1, some .int, 0, 0)
abbrev mJ7_fill_d0a16 : zD := (yJ7_fill_d0a16, cJ7_fill_d0a16, 5, none, 0, 0)
abbrev mX3_clear : zD := (yX3_clear, cX3_clear, 1, none, 1, 24)
abbrev mX3_setWeight : zD := (yX3_setWeight, cX3_setWeight, 5, none, 1, 23)
abbrev mX3_reachFrom : zD := (yX3_reachFrom, cX3_reachFrom, 8, none, 0, 0)
abbrev mX3_nearest : zD := (yX3_nearest, cX3_nearest, 3, some .int, 0, 0)
abbrev mX3_shiftPrices : zD := (yX3_shiftPrices, cX3_shiftPrices, 4, none, 0, 0)
abbrev mX3_seat : zD := (yX3_seat, cX3_seat, 5, none, 1, 27)
abbrev mX3_settle : zD := (yX3_settle, cX3_settle, 7, some .long, 2, 51)
abbrev mX3_isTaken : zD := (yX3_isTaken, cX3_isTaken, 3, some .boolean, 0, 0)
abbrev mX4_weighPair : zD := (yX4_weighPair, cX4_weighPair, 5, none, 2, 47)
abbrev mX4_weighAll : zD := (yX4_weighAll, cX4_weighAll, 5, none, 3, 71)
abbrev mX4_settle : zD := (yX4_settle, cX4_settle, 1, some .long, 3, 77)
abbrev mX4_leastGain : zD := (yX4_leastGain, cX4_leastGain, 1, some .long, 4, 97)
abbrev mX4_leastTotal : zD := (yX4_leastTotal, cX4_leastTotal, 1, some .long, 4, 97)
abbrev mX4_leastWith : zD := (yX4_leastWith, cX4_leastWith, 4, some .long, 4, 97)
abbrev mX4_leastWithout : zD := (yX4_leastWithout, cX4_leastWithout, 3, some .long, 4, 97)
abbrev mX4_isInAllBest : zD := (yX4_isInAllBest, cX4_isInAllBest, 3, some .boolean, 5, 119)
abbrev mX4_isAlone : zD := (yX4_isAlone, cX4_isAlone, 9, some .boolean, 5, 117)
abbrev mX4_fewestInBest : zD := (yX4_fewestInBest, cX4_fewestInBest, 3, some .int, 5, 117)
abbrev mX4_mostInBest : zD := (yX4_mostInBest, cX4_mostInBest, 3, some .int, 5, 117)
abbrev mX4_partnerTaken : zD := (yX4_partnerTaken, cX4_partnerTaken, 3, some .int, 1, 22)
abbrev mX4_findFirst : zD := (yX4_findFirst, cX4_findFirst, 7, none, 4, 97)
abbrev mX4_countFirst : zD := (yX4_countFirst, cX4_countFirst, 3, some .int, 0, 0)
abbrev mX4_isFirstOnlyBest : zD := (yX4_isFirstOnlyBest, cX4_isFirstOnlyBest, 4, some .boolean, 4, 97)
abbrev mX6_pointsOf : zD := (yX6_pointsOf, cX6_pointsOf, 7, some .int, 1, 23)
abbrev mX5_pointsBut : zD := (yX5_pointsBut, cX5_pointsBut, 10, some .int, 2, 49)
abbrev mX5_comparePlates : zD := (yX5_comparePlates, cX5_comparePlates, 7, none, 3, 78)
abbrev mX7_tookBy : zD := (yX7_tookBy, cX7_tookBy, 4, some .int, 0, 0)
abbrev mX5_costBy : zD := (yX5_costBy, cX5_costBy, 3, some .int, 1, 23)
abbrev mX5_addTimes : zD := (yX5_addTimes, cX5_addTimes, 7, none, 2, 45)
abbrev mX5_costOf : zD := (yX5_costOf, cX5_costOf, 3, some .int, 0, 0)
abbrev mX5_mayBeNone : zD := (yX5_mayBeNone, cX5_mayBeNone, 5, some .boolean, 1, 22)
abbrev mX6_setAsAtFirst : zD := (yX6_setAsAtFirst, cX6_setAsAtFirst, 1, none, 1, 26)
abbrev mX6_copyFrom : zD := (yX6_copyFrom, cX6_copyFrom, 2, none, 1, 26)
abbrev mX7_copyFrom : zD := (yX7_copyFrom, cX7_copyFrom, 2, none, 2, 47)
abbrev mX8_renew : zD := (yX8_renew, cX8_renew, 3, none, 1, 23)
abbrev mX8_put : zD := (yX8_put, cX8_put, 3, none, 0, 0)
abbrev mX8_faultAs : zD := (yX8_faultAs, cX8_faultAs, 2, some .int, 0, 0)
abbrev mX8_wholeLines : zD := (yX8_wholeLines, cX8_wholeLines, 2, some .int, 1, 22)
abbrev mX8_isLine : zD := (yX8_isLine, cX8_isLine, 3, some .boolean, 1, 22)
abbrev mX8_appendLine : zD := (yX8_appendLine, cX8_appendLine, 4, none, 1, 26)
abbrev mX9_append : zD := (yX9_append, cX9_append, 4, some .boolean, 0, 0)
abbrev mX9_kindOf : zD := (yX9_kindOf, cX9_kindOf, 1, some .int, 0, 0)
abbrev mX9_fail : zD := (yX9_fail, cX9_fail, 2, some .boolean, 0, 0)
abbrev mX9_takeToken : zD := (yX9_takeToken, cX9_takeToken, 2, some .boolean, 1, 21)
abbrev mX9_nameOf : zD := (yX9_nameOf, cX9_nameOf, 1, some (.object "java/lang/String"), 0, 0)
abbrev mX9_isNamed : zD := (yX9_isNamed, cX9_isNamed, 3, some .boolean, 4, 85)
abbrev mX9_itemNamed : zD := (yX9_itemNamed, cX9_itemNamed, 2, some .int, 5, 107)
abbrev mX10_isLetter : zD := (yX10_isLetter, cX10_isLetter, 1, some .boolean, 1, 22)
abbrev mX9_takeLetter : zD := (yX9_takeLetter, cX9_takeLetter, 1, some .boolean, 2, 42)
abbrev mX9_takeNumber : zD := (yX9_takeNumber, cX9_takeNumber, 3, some .boolean, 2, 42)
abbrev mX9_takeMixed : zD := (yX9_takeMixed, cX9_takeMixed, 4, some .boolean, 3, 64)
abbrev mX9_takeMinutes : zD := (yX9_takeMinutes, cX9_takeMinutes, 2, some .boolean, 3, 64)
abbrev mX9_takePoints : zD := (yX9_takePoints, cX9_takePoints, 4, some .boolean, 3, 64)
abbrev mX9_takeItem : zD := (yX9_takeItem, cX9_takeItem, 4, some .boolean, 6, 128)
abbrev mX9_tellRoad : zD := (yX9_tellRoad, cX9_tellRoad, 3, some .int, 7, 151)
abbrev mX10_feed : zD := (yX10_feed, cX10_feed, 3, some .int, 1, 23)
abbrev mX10_end : zD := (yX10_end, cX10_end, 3, some .int, 1, 22)
abbrev mX10_road : zD := (yX10_road, cX10_road, 2, some .int, 8, 173)
abbrev mX10_fault : zD := (yX10_fault, cX10_fault, 1, some .int, 0, 0)
abbrev mX10_rule : zD := (yX10_rule, cX10_rule, 2, some .int, 1, 22)
abbrev mX10_mixed : zD := (yX10_mixed, cX10_mixed, 3, some .int, 2, 42)
abbrev mX10_setClock : zD := (yX10_setClock, cX10_setClock, 3, some .int, 1, 22)
abbrev mX10_isEnd : zD := (yX10_isEnd, cX10_isEnd, 1, some .boolean, 0, 0)
abbrev mX10_linesAt : zD := (yX10_linesAt, cX10_linesAt, 2, some (.object "HalfNumber$Lines"), 0, 0)
abbrev mX10_line : zD := (yX10_line, cX10_line, 7, some .int, 1, 24)
abbrev mX10_hasLine : zD := (yX10_hasLine, cX10_hasLine, 3, some .boolean, 2, 43)
abbrev mX10_drop : zD := (yX10_drop, cX10_drop, 4, some .int, 3, 65)
abbrev mX10_of : zD := (yX10_of, cX10_of, 5, some .int, 3, 65)
abbrev mX10_sign : zD := (yX10_sign, cX10_sign, 7, some .int, 3, 65)
abbrev mX10_hasPair : zD := (yX10_hasPair, cX10_hasPair, 3, some .boolean, 2, 43)
abbrev mX10_tookNow : zD := (yX10_tookNow, cX10_tookNow, 3, some .int, 1, 23)
abbrev mX10_took : zD := (yX10_took, cX10_took, 3, some .int, 3, 65)
abbrev mX10_lookAtPairs : zD := (yX10_lookAtPairs, cX10_lookAtPairs, 2, none, 4, 104)
abbrev mX10_cost : zD := (yX10_cost, cX10_cost, 3, some .int, 5, 125)
abbrev mX10_why : zD := (yX10_why, cX10_why, 8, some .int, 3, 65)
abbrev mX10_best : zD := (yX10_best, cX10_best, 2, some .long, 5, 125)
abbrev mX10_findFirst : zD := (yX10_findFirst, cX10_findFirst, 1, none, 5, 125)
abbrev mX10_first : zD := (yX10_first, cX10_first, 2, some .int, 6, 145)
abbrev mX10_sure : zD := (yX10_sure, cX10_sure, 3, some .int, 6, 141)
abbrev mX10_partOfFraction : zD := (yX10_partOfFraction, cX10_partOfFraction, 12, some .long, 0, 0)
abbrev mX10_share : zD := (yX10_share, cX10_share, 8, some .long, 5, 125)
abbrev mX10_ifMust : zD := (yX10_ifMust, cX10_ifMust, 4, some .int, 5, 125)
abbrev mX10_alone : zD := (yX10_alone, cX10_alone, 6, some .int, 6, 145)
abbrev mX10_many : zD := (yX10_many, cX10_many, 2, some .int, 6, 139)
abbrev mX10_ways : zD := (yX10_ways, cX10_ways, 2, some .long, 5, 125)
abbrev mX10_tell : zD := (yX10_tell, cX10_tell, 4, some .int, 1, 22)
abbrev mX10_adopt : zD := (yX10_adopt, cX10_adopt, 1, some .int, 6, 145)
abbrev mX10_faultOfTold : zD := (yX10_faultOfTold, cX10_faultOfTold, 4, some .int, 2, 43)
abbrev mX10_firstWrong : zD := (yX10_firstWrong, cX10_firstWrong, 2, some .int, 3, 66)
abbrev mX10_toldTotal : zD := (yX10_toldTotal, cX10_toldTotal, 3, some .int, 1, 22)
abbrev mX10_judge : zD := (yX10_judge, cX10_judge, 3, some .int, 5, 125)
abbrev mX10_isSheet : zD := (yX10_isSheet, cX10_isSheet, 2, some .boolean, 1, 22)
abbrev mX10_isLane : zD := (yX10_isLane, cX10_isLane, 1, some .boolean, 1, 22)
abbrev mX10_copyPrices : zD := (yX10_copyPrices, cX10_copyPrices, 8, some .int, 1, 22)
abbrev mX10_firstUnderpriced : zD := (yX10_firstUnderpriced, cX10_firstUnderpriced, 3, some .int, 1, 22)
abbrev mX10_firstOverpriced : zD := (yX10_firstOverpriced, cX10_firstOverpriced, 2, some .int, 0, 0)
abbrev mX10_sumOfPrices : zD := (yX10_sumOfPrices, cX10_sumOfPrices, 3, some .int, 0, 0)
abbrev mX10_prices : zD := (yX10_prices, cX10_prices, 9, some .int, 5, 125)
abbrev mX10_extremeTime : zD := (yX10_extremeTime, cX10_extremeTime, 7, some .int, 2, 45)
abbrev mX10_meanTime : zD := (yX10_meanTime, cX10_meanTime, 7, some .int, 6, 141)
abbrev mX10_times : zD := (yX10_times, cX10_times, 2, some .int, 7, 167)
abbrev mX10_clock : zD := (yX10_clock, cX10_clock, 9, some .int, 5, 117)
abbrev mX10_hasPassed : zD := (yX10_hasPassed, cX10_hasPassed, 5, some .boolean, 0, 0)
abbrev mX10_passingsOf : zD := (yX10_passingsOf, cX10_passingsOf, 4, some .int, 1, 24)
abbrev mX10_allPassings : zD := (yX10_allPassings, cX10_allPassings, 3, some .int, 2, 47)
abbrev mX10_fewestWithoutPassing : zD := (yX10_fewestWithoutPassing, cX10_fewestWithoutPassing, 3, some .int, 2, 45)
abbrev mX10_greatestPasser : zD := (yX10_greatestPasser, cX10_greatestPasser, 5, some .int, 2, 47)
abbrev mX10_passed : zD := (yX10_passed, cX10_passed, 2, some .int, 6, 145)
abbrev mX10_countReadsOf : zD := (yX10_countReadsOf, cX10_countReadsOf, 6, none, 1, 20)
abbrev mX10_countReads : zD := (yX10_countReads, cX10_countReads, 3, none, 2, 45)
abbrev mX10_reads : zD := (yX10_reads, cX10_reads, 3, some .int, 6, 145)
abbrev mX10_mostMistaken : zD := (yX10_mostMistaken, cX10_mostMistaken, 4, some .int, 0, 0)
abbrev mX10_blame : zD := (yX10_blame, cX10_blame, 3, some .int, 6, 145)
abbrev mX10_learn : zD := (yX10_learn, cX10_learn, 4, some .int, 6, 145)
abbrev mX10_fewestPlaces : zD := (yX10_fewestPlaces, cX10_fewestPlaces, 3, some .int, 6, 145)
abbrev mX10_enough : zD := (yX10_enough, cX10_enough, 3, some .int, 7, 167)
abbrev mX10_round : zD := (yX10_round, cX10_round, 4, some .int, 3, 65)
abbrev mX10_fewestCars : zD := (yX10_fewestCars, cX10_fewestCars, 4, some .int, 3, 69)
abbrev mX10_cars : zD := (yX10_cars, cX10_cars, 4, some .int, 4, 92)
abbrev mX10_isImage : zD := (yX10_isImage, cX10_isImage, 2, some .boolean, 1, 22)
abbrev mX10_keep : zD := (yX10_keep, cX10_keep, 3, some .int, 3, 68)
abbrev mX10_back : zD := (yX10_back, cX10_back, 2, some .int, 3, 68)
abbrev mX10_sheet : zD := (yX10_sheet, cX10_sheet, 4, some .int, 2, 45)
abbrev mX10_lay : zD := (yX10_lay, cX10_lay, 5, some .int, 2, 43)
abbrev mX10_refusalOfLines : zD := (yX10_refusalOfLines, cX10_refusalOfLines, 5, some .int, 2, 44)
abbrev mX10_read : zD := (yX10_read, cX10_read, 12, some .int, 3, 68)
abbrev mX10_torn : zD := (yX10_torn, cX10_torn, 1, some .int, 0, 0)
abbrev mX10_countPairs : zD := (yX10_countPairs, cX10_countPairs, 4, some .int, 5, 125)
abbrev mX10_count : zD := (yX10_count, cX10_count, 2, some .int, 6, 148)
abbrev mX11_in : zD := (yX11_in, cX11_in, 6, some .boolean, 0, 0)
abbrev mX11_feed : zD := (yX11_feed, cX11_feed, 4, some .int, 0, 0)
abbrev mX11_end : zD := (yX11_end, cX11_end, 3, some .int, 1, 25)
abbrev mX11_byteAt : zD := (yX11_byteAt, cX11_byteAt, 2, some .int, 0, 0)
abbrev mX11_fails : zD := (yX11_fails, cX11_fails, 2, none, 0, 0)
abbrev mX11_itemName : zD := (yX11_itemName, cX11_itemName, 4, some .int, 1, 21)
abbrev mX11_next : zD := (yX11_next, cX11_next, 2, none, 1, 25)
abbrev mX11_number : zD := (yX11_number, cX11_number, 4, some .int, 2, 46)
abbrev mX11_letter : zD := (yX11_letter, cX11_letter, 2, some .int, 1, 25)
abbrev mX11_readTwo : zD := (yX11_readTwo, cX11_readTwo, 4, none, 3, 69)
abbrev mX11_readItem : zD := (yX11_readItem, cX11_readItem, 4, none, 4, 92)
abbrev mX11_road : zD := (yX11_road, cX11_road, 3, some .int, 5, 115)
abbrev mX11_fault : zD := (yX11_fault, cX11_fault, 1, some .int, 0, 0)
abbrev mX11_rule : zD := (yX11_rule, cX11_rule, 2, some .int, 1, 25)
abbrev mX11_isLetter : zD := (yX11_isLetter, cX11_isLetter, 1, some .boolean, 1, 25)
abbrev mX11_mixed : zD := (yX11_mixed, cX11_mixed, 4, some .int, 2, 45)
abbrev mX11_setClock : zD := (yX11_setClock, cX11_setClock, 3, some .int, 1, 25)
abbrev mX11_isEnd : zD := (yX11_isEnd, cX11_isEnd, 1, some .boolean, 1, 25)
abbrev mX11_linesOf : zD := (yX11_linesOf, cX11_linesOf, 3, some .int, 0, 0)
abbrev mX11_isLine : zD := (yX11_isLine, cX11_isLine, 3, some .boolean, 2, 45)
abbrev mX11_its : zD := (yX11_its, cX11_its, 4, some .int, 0, 0)
abbrev mX11_setIts : zD := (yX11_setIts, cX11_setIts, 5, none, 0, 0)
abbrev mX11_line : zD := (yX11_line, cX11_line, 8, some .int, 2, 45)
abbrev mX11_drop : zD := (yX11_drop, cX11_drop, 5, some .int, 3, 67)
abbrev mX11_of : zD := (yX11_of, cX11_of, 6, some .int, 3, 67)
abbrev mX11_sign : zD := (yX11_sign, cX11_sign, 6, some .int, 3, 67)
abbrev mX11_arePair : zD := (yX11_arePair, cX11_arePair, 3, some .boolean, 3, 67)
abbrev mX11_tookOf : zD := (yX11_tookOf, cX11_tookOf, 3, some .int, 1, 23)
abbrev mX11_took : zD := (yX11_took, cX11_took, 3, some .int, 4, 89)
abbrev mX11_letterOf : zD := (yX11_letterOf, cX11_letterOf, 1, some .int, 0, 0)
abbrev mX11_isDoubt : zD := (yX11_isDoubt, cX11_isDoubt, 2, some .boolean, 0, 0)
abbrev mX11_pointsAt : zD := (yX11_pointsAt, cX11_pointsAt, 10, some .int, 1, 23)
abbrev mX11_isInTime : zD := (yX11_isInTime, cX11_isInTime, 3, some .boolean, 2, 45)
abbrev mX11_areUnlike : zD := (yX11_areUnlike, cX11_areUnlike, 2, some .boolean, 0, 0)
abbrev mX11_costOf : zD := (yX11_costOf, cX11_costOf, 8, some .int, 3, 67)
abbrev mX11_cost : zD := (yX11_cost, cX11_cost, 3, some .int, 4, 94)
abbrev mX11_why : zD := (yX11_why, cX11_why, 5, some .int, 4, 89)
abbrev mX11_layCosts : zD := (yX11_layCosts, cX11_layCosts, 4, none, 4, 94)
abbrev mX11_bitsOf : zD := (yX11_bitsOf, cX11_bitsOf, 3, some .int, 0, 0)
abbrev mX11_may : zD := (yX11_may, cX11_may, 7, some .boolean, 0, 0)
abbrev mX11_layEnd : zD := (yX11_layEnd, cX11_layEnd, 5, none, 1, 22)
abbrev mX11_takeIn : zD := (yX11_takeIn, cX11_takeIn, 8, none, 0, 0)
abbrev mX11_layPairings : zD := (yX11_layPairings, cX11_layPairings, 9, none, 2, 46)
abbrev mX11_layAll : zD := (yX11_layAll, cX11_layAll, 1, none, 5, 117)
abbrev mX11_best : zD := (yX11_best, cX11_best, 2, some .long, 6, 137)
abbrev mX11_layFirst : zD := (yX11_layFirst, cX11_layFirst, 6, none, 1, 22)
abbrev mX11_first : zD := (yX11_first, cX11_first, 2, some .int, 6, 137)
abbrev mX11_sureOf : zD := (yX11_sureOf, cX11_sureOf, 4, some .int, 3, 74)
abbrev mX11_sure : zD := (yX11_sure, cX11_sure, 3, some .int, 5, 117)
abbrev mX11_lowest : zD := (yX11_lowest, cX11_lowest, 11, some .long, 0, 0)
abbrev mX11_share : zD := (yX11_share, cX11_share, 6, some .long, 6, 137)
abbrev mX11_ifMust : zD := (yX11_ifMust, cX11_ifMust, 5, some .int, 6, 137)
abbrev mX11_alone : zD := (yX11_alone, cX11_alone, 11, some .int, 6, 137)
abbrev mX11_many : zD := (yX11_many, cX11_many, 2, some .int, 6, 137)
abbrev mX11_ways : zD := (yX11_ways, cX11_ways, 7, some .long, 5, 117)
abbrev mX11_toldOf : zD := (yX11_toldOf, cX11_toldOf, 2, some .int, 0, 0)
abbrev mX11_tell : zD := (yX11_tell, cX11_tell, 4, some .int, 1, 25)
abbrev mX11_adopt : zD := (yX11_adopt, cX11_adopt, 3, some .int, 6, 137)
abbrev mX11_whyWrong : zD := (yX11_whyWrong, cX11_whyWrong, 4, some .int, 4, 94)
abbrev mX11_judge : zD := (yX11_judge, cX11_judge, 6, some .int, 6, 137)
abbrev mX11_prices : zD := (yX11_prices, cX11_prices, 14, some .int, 6, 137)
abbrev mX11_times : zD := (yX11_times, cX11_times, 9, some .int, 6, 137)
abbrev mX11_size : zD := (yX11_size, cX11_size, 1, some .int, 0, 0)
abbrev mX11_clock : zD := (yX11_clock, cX11_clock, 7, some .int, 6, 137)
abbrev mX11_didPass : zD := (yX11_didPass, cX11_didPass, 3, some .boolean, 1, 23)
abbrev mX11_isCalm : zD := (yX11_isCalm, cX11_isCalm, 5, some .boolean, 2, 45)
abbrev mX11_passed : zD := (yX11_passed, cX11_passed, 8, some .int, 6, 137)
abbrev mX11_readAs : zD := (yX11_readAs, cX11_readAs, 8, some .int, 1, 23)
abbrev mX11_reads : zD := (yX11_reads, cX11_reads, 3, some .int, 6, 137)
abbrev mX11_blamed : zD := (yX11_blamed, cX11_blamed, 5, some .int, 6, 137)
abbrev mX11_blame : zD := (yX11_blame, cX11_blame, 3, some .int, 7, 161)
abbrev mX11_learn : zD := (yX11_learn, cX11_learn, 4, some .int, 7, 161)
abbrev mX11_enough : zD := (yX11_enough, cX11_enough, 6, some .int, 6, 137)
abbrev mX11_areOne : zD := (yX11_areOne, cX11_areOne, 8, some .boolean, 1, 23)
abbrev mX11_round : zD := (yX11_round, cX11_round, 4, some .int, 3, 67)
abbrev mX11_isOneCar : zD := (yX11_isOneCar, cX11_isOneCar, 6, some .boolean, 2, 50)
abbrev mX11_cars : zD := (yX11_cars, cX11_cars, 8, some .int, 3, 75)
abbrev mX11_keep : zD := (yX11_keep, cX11_keep, 3, some .int, 1, 25)
abbrev mX11_back : zD := (yX11_back, cX11_back, 3, some .int, 1, 25)
abbrev mX11_sheet : zD := (yX11_sheet, cX11_sheet, 5, some .int, 1, 25)
abbrev mX11_lay : zD := (yX11_lay, cX11_lay, 4, some .int, 1, 25)
abbrev mX11_isAsTold : zD := (yX11_isAsTold, cX11_isAsTold, 4, some .boolean, 1, 25)
abbrev mX11_read : zD := (yX11_read, cX11_read, 10, some .int, 2, 48)
abbrev mX11_torn : zD := (yX11_torn, cX11_torn, 1, some .int, 0, 0)
abbrev mX11_count : zD := (yX11_count, cX11_count, 5, some .int, 4, 94)
abbrev mL_law : zD := (yL_law, cL_law, 4, some .boolean, 12, 432)
theorem lkk_J6_bitCount_0f7a4 : zLk mJ6_bitCount_0f7a4 1 := ⟨zmem 106 (by decide +kernel) rfl, zmem 884 (by decide +kernel) rfl, by decide, by decide, by decide +kernel⟩
theorem lkk_J7_fill_53178 : zLk mJ7_fill_53178 2 := ⟨zmem 92 (by decide +kernel) rfl, zmem 167 (by decide +kernel) rfl, by decide, by decide, by decide +kernel⟩
theorem lkk_J7_fill_d0a16 : zLk mJ7_fill_d0a16 2 := ⟨zmem 92 (by decide +kernel) rfl, zmem 710 (by decide +kernel) rfl, by decide, by decide, by decide +kernel⟩
theorem lkk_X0_addBest : zLk mX0_addBest 3 := ⟨zmem 98 (by decide +kernel) rfl, zmem 776 (by decide +kernel) rfl, by decide, by decide, by decide +kernel⟩
theorem lkk_X0_countAll : zLk mX0_countAll 3 := ⟨zmem 98 (by decide +kernel) rfl, zmem 780 (by decide +kernel) rfl, by decide, by decide, by decide +kernel⟩
theorem lkk_X0_countBest : zLk mX0_countBest 1 := ⟨zmem 98 (by decide +kernel) rfl, zmem 762 (by decide +kernel) rfl, by decide, by decide, by decide +kernel⟩
theorem lkk_X0_countOfSize : zLk mX0_countOfSize 2 := ⟨zmem 98 (by decide +kernel) rfl, zmem 881 (by decide +kernel) rfl, by decide, by decide, by decide +kernel⟩
theorem lkk_X0_openTo : zLk mX0_openTo 3 := ⟨zmem 98 (by decide +kernel) rfl, zmem 770 (by decide +kernel) rfl, by decide, by decide, by decide +kernel⟩
theorem lkk_X0_spreadAll : zLk mX0_spreadAll 3 := ⟨zmem 98 (by decide +kernel) rfl, zmem 784 (by decide +kernel) rfl, by decide, by decide, by decide +kernel⟩
theorem lkk_X0_spreadBest : zLk mX0_spreadBest 2 := ⟨zmem 98 (by decide +kernel) rfl, zmem 767 (by decide +kernel) rfl, by decide, by decide, by decide +kernel⟩
theorem lkk_X0_spreadLine : zLk mX0_spreadLine 2 := ⟨zmem 98 (by decide +kernel) rfl, zmem 789 (by decide +kernel) rfl, by decide, by decide, by decide +kernel⟩
theorem lkk_X10_allPassings : zLk mX10_allPassings 0 := ⟨zmem 87 (by decide +kernel) rfl, zmem 978 (by decide +kernel) rfl, by decide, by decide, by decide +kernel⟩
theorem lkk_X10_copyPrices : zLk mX10_copyPrices 3 := ⟨zmem 87 (by decide +kernel) rfl, zmem 933 (by decide +kernel) rfl, by decide, by decide, by decide +kernel⟩
theorem lkk_X10_countPairs : zLk mX10_countPairs 0 := ⟨zmem 87 (by decide +kernel) rfl, zmem 1154 (by decide +kernel) rfl, by decide, by decide, by decide +kernel⟩
theorem lkk_X10_countReads : zLk mX10_countReads 0 := ⟨zmem 87 (by decide +kernel) rfl, zmem 1021 (by decide +kernel) rfl, by decide, by decide, by decide +kernel⟩
theorem lkk_X10_countReadsOf : zLk mX10_countReadsOf 2 := ⟨zmem 87 (by decide +kernel) rfl, zmem 1026 (by decide +kernel) rfl, by decide, by decide, by decide +kernel⟩
theorem lkk_X10_extremeTime : zLk mX10_extremeTime 1 := ⟨zmem 87 (by decide +kernel) rfl, zmem 960 (by decide +kernel) rfl, by decide, by decide, by decide +kernel⟩
theorem lkk_X10_faultOfTold : zLk mX10_faultOfTold 1 := ⟨zmem 87 (by decide +kernel) rfl, zmem 912 (by decide +kernel) rfl, by decide, by decide, by decide +kernel⟩
theorem lkk_X10_fewestCars : zLk mX10_fewestCars 1 := ⟨zmem 87 (by decide +kernel) rfl, zmem 1071 (by decide +kernel) rfl, by decide, by decide, by decide +kernel⟩
theorem lkk_X10_fewestPlaces : zLk mX10_fewestPlaces 0 := ⟨zmem 87 (by decide +kernel) rfl, zmem 1047 (by decide +kernel) rfl, by decide, by decide, by decide +kernel⟩
theorem lkk_X10_fewestWithoutPassing : zLk mX10_fewestWithoutPassing 0 := ⟨zmem 87 (by decide +kernel) rfl, zmem 990 (by decide +kernel) rfl, by decide, by decide, by decide +kernel⟩
theorem lkk_X10_findFirst : zLk mX10_findFirst 0 := ⟨zmem 87 (by decide +kernel) rfl, zmem 797 (by decide +kernel) rfl, by decide, by decide, by decide +kernel⟩
theorem lkk_X10_firstOverpriced : zLk mX10_firstOverpriced 0 := ⟨zmem 87 (by decide +kernel) rfl, zmem 948 (by decide +kernel) rfl, by decide, by decide, by decide +kernel⟩
theorem lkk_X10_firstUnderpriced : zLk mX10_firstUnderpriced 0 := ⟨zmem 87 (by decide +kernel) rfl, zmem 944 (by decide +kernel) rfl, by decide, by decide, by decide +kernel⟩
theorem lkk_X10_firstWrong : zLk mX10_firstWrong 0 := ⟨zmem 87 (by decide +kernel) rfl, zmem 908 (by decide +kernel) rfl, by decide, by decide, by decide +kernel⟩
theorem lkk_X10_greatestPasser : zLk mX10_greatestPasser 0 := ⟨zmem 87 (by decide +kernel) rfl, zmem 1013 (by decide +kernel) rfl, by decide, by decide, by decide +kernel⟩
theorem lkk_X10_hasLine : zLk mX10_hasLine 2 := ⟨zmem 87 (by decide +kernel) rfl, zmem 602 (by decide +kernel) rfl, by decide, by decide, by decide +kernel⟩
theorem lkk_X10_hasPair : zLk mX10_hasPair 2 := ⟨zmem 87 (by decide +kernel) rfl, zmem 632 (by decide +kernel) rfl, by decide, by decide, by decide +kernel⟩
theorem lkk_X10_hasPassed : zLk mX10_hasPassed 2 := ⟨zmem 87 (by decide +kernel) rfl, zmem 986 (by decide +kernel) rfl, by decide, by decide, by decide +kernel⟩
theorem lkk_X10_isEnd : zLk mX10_isEnd 1 := ⟨zmem 87 (by decide +kernel) rfl, zmem 581 (by decide +kernel) rfl, by decide, by decide, by decide +kernel⟩
theorem lkk_X10_isImage : zLk mX10_isImage 1 := ⟨zmem 87 (by decide +kernel) rfl, zmem 1088 (by decide +kernel) rfl, by decide, by decide, by decide +kernel⟩
theorem lkk_X10_isLane : zLk mX10_isLane 1 := ⟨zmem 87 (by decide +kernel) rfl, zmem 928 (by decide +kernel) rfl, by decide, by decide, by decide +kernel⟩
theorem lkk_X10_isLetter : zLk mX10_isLetter 1 := ⟨zmem 87 (by decide +kernel) rfl, zmem 537 (by decide +kernel) rfl, by decide, by decide, by decide +kernel⟩
theorem lkk_X10_isSheet : zLk mX10_isSheet 1 := ⟨zmem 87 (by decide +kernel) rfl, zmem 925 (by decide +kernel) rfl, by decide, by decide, by decide +kernel⟩
theorem lkk_X10_linesAt : zLk mX10_linesAt 1 := ⟨zmem 87 (by decide +kernel) rfl, zmem 586 (by decide +kernel) rfl, by decide, by decide, by decide +kernel⟩
theorem lkk_X10_lookAtPairs : zLk mX10_lookAtPairs 1 := ⟨zmem 87 (by decide +kernel) rfl, zmem 648 (by decide +kernel) rfl, by decide, by decide, by decide +kernel⟩
theorem lkk_X10_meanTime : zLk mX10_meanTime 2 := ⟨zmem 87 (by decide +kernel) rfl, zmem 964 (by decide +kernel) rfl, by decide, by decide, by decide +kernel⟩
theorem lkk_X10_mostMistaken : zLk mX10_mostMistaken 0 := ⟨zmem 87 (by decide +kernel) rfl, zmem 1035 (by decide +kernel) rfl, by decide, by decide, by decide +kernel⟩
theorem lkk_X10_partOfFraction : zLk mX10_partOfFraction 3 := ⟨zmem 87 (by decide +kernel) rfl, zmem 836 (by decide +kernel) rfl, by decide, by decide, by decide +kernel⟩
theorem lkk_X10_passingsOf : zLk mX10_passingsOf 1 := ⟨zmem 87 (by decide +kernel) rfl, zmem 982 (by decide +kernel) rfl, by decide, by decide, by decide +kernel⟩
theorem lkk_X10_refusalOfLines : zLk mX10_refusalOfLines 4 := ⟨zmem 87 (by decide +kernel) rfl, zmem 1132 (by decide +kernel) rfl, by decide, by decide, by decide +kernel⟩
theorem lkk_X10_sumOfPrices : zLk mX10_sumOfPrices 0 := ⟨zmem 87 (by decide +kernel) rfl, zmem 952 (by decide +kernel) rfl, by decide, by decide, by decide +kernel⟩
theorem lkk_X10_toldTotal : zLk mX10_toldTotal 0 := ⟨zmem 87 (by decide +kernel) rfl, zmem 916 (by decide +kernel) rfl, by decide, by decide, by decide +kernel⟩
theorem lkk_X10_tookNow : zLk mX10_tookNow 2 := ⟨zmem 87 (by decide +kernel) rfl, zmem 636 (by decide +kernel) rfl, by decide, by decide, by decide +kernel⟩
theorem lkk_X10_within : zLk mX10_within 3 := ⟨zmem 87 (by decide +kernel) rfl, zmem 434 (by decide +kernel) rfl, by decide, by decide, by decide +kernel⟩
theorem lkk_X11_areOne : zLk mX11_areOne 3 := ⟨zmem 100 (by decide +kernel) rfl, zmem 1576 (by decide +kernel) rfl, by decide, by decide, by decide +kernel⟩
theorem lkk_X11_arePair : zLk mX11_arePair 2 := ⟨zmem 100 (by decide +kernel) rfl, zmem 1385 (by decide +kernel) rfl, by decide, by decide, by decide +kernel⟩
theorem lkk_X11_areUnlike : zLk mX11_areUnlike 2 := ⟨zmem 100 (by decide +kernel) rfl, zmem 1414 (by decide +kernel) rfl, by decide, by decide, by decide +kernel⟩
theorem lkk_X11_bitsOf : zLk mX11_bitsOf 1 := ⟨zmem 100 (by decide +kernel) rfl, zmem 1442 (by decide +kernel) rfl, by decide, by decide, by decide +kernel⟩
theorem lkk_X11_blamed : zLk mX11_blamed 0 := ⟨zmem 100 (by decide +kernel) rfl, zmem 1559 (by decide +kernel) rfl, by decide, by decide, by decide +kernel⟩
theorem lkk_X11_byteAt : zLk mX11_byteAt 1 := ⟨zmem 100 (by decide +kernel) rfl, zmem 1283 (by decide +kernel) rfl, by decide, by decide, by decide +kernel⟩
theorem lkk_X11_costOf : zLk mX11_costOf 3 := ⟨zmem 100 (by decide +kernel) rfl, zmem 1397 (by decide +kernel) rfl, by decide, by decide, by decide +kernel⟩
theorem lkk_X11_didPass : zLk mX11_didPass 2 := ⟨zmem 100 (by decide +kernel) rfl, zmem 1539 (by decide +kernel) rfl, by decide, by decide, by decide +kernel⟩
theorem lkk_X11_fails : zLk mX11_fails 1 := ⟨zmem 100 (by decide +kernel) rfl, zmem 1291 (by decide +kernel) rfl, by decide, by decide, by decide +kernel⟩
theorem lkk_X11_in : zLk mX11_in 3 := ⟨zmem 100 (by decide +kernel) rfl, zmem 1271 (by decide +kernel) rfl, by decide, by decide, by decide +kernel⟩
theorem lkk_X11_isAsTold : zLk mX11_isAsTold 1 := ⟨zmem 100 (by decide +kernel) rfl, zmem 1608 (by decide +kernel) rfl, by decide, by decide, by decide +kernel⟩
theorem lkk_X11_isCalm : zLk mX11_isCalm 1 := ⟨zmem 100 (by decide +kernel) rfl, zmem 1543 (by decide +kernel) rfl, by decide, by decide, by decide +kernel⟩
theorem lkk_X11_isDoubt : zLk mX11_isDoubt 2 := ⟨zmem 100 (by decide +kernel) rfl, zmem 1411 (by decide +kernel) rfl, by decide, by decide, by decide +kernel⟩
theorem lkk_X11_isEnd : zLk mX11_isEnd 1 := ⟨zmem 100 (by decide +kernel) rfl, zmem 1341 (by decide +kernel) rfl, by decide, by decide, by decide +kernel⟩
theorem lkk_X11_isInTime : zLk mX11_isInTime 2 := ⟨zmem 100 (by decide +kernel) rfl, zmem 1401 (by decide +kernel) rfl, by decide, by decide, by decide +kernel⟩
theorem lkk_X11_isLetter : zLk mX11_isLetter 1 := ⟨zmem 100 (by decide +kernel) rfl, zmem 1328 (by decide +kernel) rfl, by decide, by decide, by decide +kernel⟩
theorem lkk_X11_isLine : zLk mX11_isLine 2 := ⟨zmem 100 (by decide +kernel) rfl, zmem 1360 (by decide +kernel) rfl, by decide, by decide, by decide +kernel⟩
theorem lkk_X11_isOneCar : zLk mX11_isOneCar 2 := ⟨zmem 100 (by decide +kernel) rfl, zmem 1584 (by decide +kernel) rfl, by decide, by decide, by decide +kernel⟩
theorem lkk_X11_itemName : zLk mX11_itemName 0 := ⟨zmem 100 (by decide +kernel) rfl, zmem 1299 (by decide +kernel) rfl, by decide, by decide, by decide +kernel⟩
theorem lkk_X11_its : zLk mX11_its 3 := ⟨zmem 100 (by decide +kernel) rfl, zmem 1364 (by decide +kernel) rfl, by decide, by decide, by decide +kernel⟩
theorem lkk_X11_layAll : zLk mX11_layAll 0 := ⟨zmem 100 (by decide +kernel) rfl, zmem 1427 (by decide +kernel) rfl, by decide, by decide, by decide +kernel⟩
theorem lkk_X11_layCosts : zLk mX11_layCosts 1 := ⟨zmem 100 (by decide +kernel) rfl, zmem 1431 (by decide +kernel) rfl, by decide, by decide, by decide +kernel⟩
theorem lkk_X11_layEnd : zLk mX11_layEnd 0 := ⟨zmem 100 (by decide +kernel) rfl, zmem 1439 (by decide +kernel) rfl, by decide, by decide, by decide +kernel⟩
theorem lkk_X11_layFirst : zLk mX11_layFirst 1 := ⟨zmem 100 (by decide +kernel) rfl, zmem 1459 (by decide +kernel) rfl, by decide, by decide, by decide +kernel⟩
theorem lkk_X11_layPairings : zLk mX11_layPairings 3 := ⟨zmem 100 (by decide +kernel) rfl, zmem 1435 (by decide +kernel) rfl, by decide, by decide, by decide +kernel⟩
theorem lkk_X11_letter : zLk mX11_letter 0 := ⟨zmem 100 (by decide +kernel) rfl, zmem 1311 (by decide +kernel) rfl, by decide, by decide, by decide +kernel⟩
theorem lkk_X11_letterOf : zLk mX11_letterOf 1 := ⟨zmem 100 (by decide +kernel) rfl, zmem 1408 (by decide +kernel) rfl, by decide, by decide, by decide +kernel⟩
theorem lkk_X11_linesOf : zLk mX11_linesOf 2 := ⟨zmem 100 (by decide +kernel) rfl, zmem 1348 (by decide +kernel) rfl, by decide, by decide, by decide +kernel⟩
theorem lkk_X11_lowest : zLk mX11_lowest 3 := ⟨zmem 100 (by decide +kernel) rfl, zmem 1474 (by decide +kernel) rfl, by decide, by decide, by decide +kernel⟩
theorem lkk_X11_may : zLk mX11_may 5 := ⟨zmem 100 (by decide +kernel) rfl, zmem 1447 (by decide +kernel) rfl, by decide, by decide, by decide +kernel⟩
theorem lkk_X11_next : zLk mX11_next 0 := ⟨zmem 100 (by decide +kernel) rfl, zmem 1279 (by decide +kernel) rfl, by decide, by decide, by decide +kernel⟩
theorem lkk_X11_number : zLk mX11_number 2 := ⟨zmem 100 (by decide +kernel) rfl, zmem 1303 (by decide +kernel) rfl, by decide, by decide, by decide +kernel⟩
theorem lkk_X11_pointsAt : zLk mX11_pointsAt 3 := ⟨zmem 100 (by decide +kernel) rfl, zmem 1405 (by decide +kernel) rfl, by decide, by decide, by decide +kernel⟩
theorem lkk_X11_readAs : zLk mX11_readAs 2 := ⟨zmem 100 (by decide +kernel) rfl, zmem 1551 (by decide +kernel) rfl, by decide, by decide, by decide +kernel⟩
theorem lkk_X11_readItem : zLk mX11_readItem 0 := ⟨zmem 100 (by decide +kernel) rfl, zmem 1295 (by decide +kernel) rfl, by decide, by decide, by decide +kernel⟩
theorem lkk_X11_readTwo : zLk mX11_readTwo 0 := ⟨zmem 100 (by decide +kernel) rfl, zmem 1307 (by decide +kernel) rfl, by decide, by decide, by decide +kernel⟩
theorem lkk_X11_setIts : zLk mX11_setIts 4 := ⟨zmem 100 (by decide +kernel) rfl, zmem 1352 (by decide +kernel) rfl, by decide, by decide, by decide +kernel⟩
theorem lkk_X11_size : zLk mX11_size 1 := ⟨zmem 100 (by decide +kernel) rfl, zmem 1531 (by decide +kernel) rfl, by decide, by decide, by decide +kernel⟩
theorem lkk_X11_sureOf : zLk mX11_sureOf 2 := ⟨zmem 100 (by decide +kernel) rfl, zmem 1467 (by decide +kernel) rfl, by decide, by decide, by decide +kernel⟩
theorem lkk_X11_takeIn : zLk mX11_takeIn 4 := ⟨zmem 100 (by decide +kernel) rfl, zmem 1451 (by decide +kernel) rfl, by decide, by decide, by decide +kernel⟩
theorem lkk_X11_toldOf : zLk mX11_toldOf 1 := ⟨zmem 100 (by decide +kernel) rfl, zmem 1498 (by decide +kernel) rfl, by decide, by decide, by decide +kernel⟩
theorem lkk_X11_tookOf : zLk mX11_tookOf 2 := ⟨zmem 100 (by decide +kernel) rfl, zmem 1389 (by decide +kernel) rfl, by decide, by decide, by decide +kernel⟩
theorem lkk_X11_whyWrong : zLk mX11_whyWrong 1 := ⟨zmem 100 (by decide +kernel) rfl, zmem 1510 (by decide +kernel) rfl, by decide, by decide, by decide +kernel⟩
theorem lkk_X1_begin : zLk mX1_begin 1 := ⟨zmem 99 (by decide +kernel) rfl, zmem 994 (by decide +kernel) rfl, by decide, by decide, by decide +kernel⟩
theorem lkk_X1_fewest : zLk mX1_fewest 0 := ⟨zmem 99 (by decide +kernel) rfl, zmem 1075 (by decide +kernel) rfl, by decide, by decide, by decide +kernel⟩
theorem lkk_X1_fewestParts : zLk mX1_fewestParts 2 := ⟨zmem 99 (by decide +kernel) rfl, zmem 1079 (by decide +kernel) rfl, by decide, by decide, by decide +kernel⟩
theorem lkk_X1_join : zLk mX1_join 2 := ⟨zmem 99 (by decide +kernel) rfl, zmem 999 (by decide +kernel) rfl, by decide, by decide, by decide +kernel⟩
theorem lkk_X1_largest : zLk mX1_largest 0 := ⟨zmem 99 (by decide +kernel) rfl, zmem 1003 (by decide +kernel) rfl, by decide, by decide, by decide +kernel⟩
theorem lkk_X1_markTogether : zLk mX1_markTogether 0 := ⟨zmem 99 (by decide +kernel) rfl, zmem 1007 (by decide +kernel) rfl, by decide, by decide, by decide +kernel⟩
theorem lkk_X2_append : zLk mX2_append 2 := ⟨zmem 89 (by decide +kernel) rfl, zmem 590 (by decide +kernel) rfl, by decide, by decide, by decide +kernel⟩
theorem lkk_X2_areUnlikeColours : zLk mX2_areUnlikeColours 2 := ⟨zmem 89 (by decide +kernel) rfl, zmem 658 (by decide +kernel) rfl, by decide, by decide, by decide +kernel⟩
theorem lkk_X2_copyFrom : zLk mX2_copyFrom 1 := ⟨zmem 89 (by decide +kernel) rfl, zmem 1096 (by decide +kernel) rfl, by decide, by decide, by decide +kernel⟩
theorem lkk_X2_has : zLk mX2_has 1 := ⟨zmem 89 (by decide +kernel) rfl, zmem 606 (by decide +kernel) rfl, by decide, by decide, by decide +kernel⟩
theorem lkk_X2_isDoubtful : zLk mX2_isDoubtful 1 := ⟨zmem 89 (by decide +kernel) rfl, zmem 665 (by decide +kernel) rfl, by decide, by decide, by decide +kernel⟩
theorem lkk_X2_letterOf : zLk mX2_letterOf 1 := ⟨zmem 89 (by decide +kernel) rfl, zmem 668 (by decide +kernel) rfl, by decide, by decide, by decide +kernel⟩
theorem lkk_X2_mayBeOneCar : zLk mX2_mayBeOneCar 2 := ⟨zmem 89 (by decide +kernel) rfl, zmem 1061 (by decide +kernel) rfl, by decide, by decide, by decide +kernel⟩
theorem lkk_X2_plateOf : zLk mX2_plateOf 1 := ⟨zmem 89 (by decide +kernel) rfl, zmem 620 (by decide +kernel) rfl, by decide, by decide, by decide +kernel⟩
theorem lkk_X2_remove : zLk mX2_remove 1 := ⟨zmem 89 (by decide +kernel) rfl, zmem 611 (by decide +kernel) rfl, by decide, by decide, by decide +kernel⟩
theorem lkk_X2_setPlate : zLk mX2_setPlate 2 := ⟨zmem 89 (by decide +kernel) rfl, zmem 594 (by decide +kernel) rfl, by decide, by decide, by decide +kernel⟩
theorem lkk_X3_clear : zLk mX3_clear 0 := ⟨zmem 97 (by decide +kernel) rfl, zmem 707 (by decide +kernel) rfl, by decide, by decide, by decide +kernel⟩
theorem lkk_X3_isTaken : zLk mX3_isTaken 2 := ⟨zmem 97 (by decide +kernel) rfl, zmem 811 (by decide +kernel) rfl, by decide, by decide, by decide +kernel⟩
theorem lkk_X3_nearest : zLk mX3_nearest 0 := ⟨zmem 97 (by decide +kernel) rfl, zmem 754 (by decide +kernel) rfl, by decide, by decide, by decide +kernel⟩
theorem lkk_X3_reachFrom : zLk mX3_reachFrom 1 := ⟨zmem 97 (by decide +kernel) rfl, zmem 750 (by decide +kernel) rfl, by decide, by decide, by decide +kernel⟩
theorem lkk_X3_seat : zLk mX3_seat 1 := ⟨zmem 97 (by decide +kernel) rfl, zmem 745 (by decide +kernel) rfl, by decide, by decide, by decide +kernel⟩
theorem lkk_X3_setWeight : zLk mX3_setWeight 3 := ⟨zmem 97 (by decide +kernel) rfl, zmem 726 (by decide +kernel) rfl, by decide, by decide, by decide +kernel⟩
theorem lkk_X3_settle : zLk mX3_settle 2 := ⟨zmem 97 (by decide +kernel) rfl, zmem 737 (by decide +kernel) rfl, by decide, by decide, by decide +kernel⟩
theorem lkk_X3_shiftPrices : zLk mX3_shiftPrices 1 := ⟨zmem 97 (by decide +kernel) rfl, zmem 758 (by decide +kernel) rfl, by decide, by decide, by decide +kernel⟩
theorem lkk_X4_countFirst : zLk mX4_countFirst 0 := ⟨zmem 96 (by decide +kernel) rfl, zmem 900 (by decide +kernel) rfl, by decide, by decide, by decide +kernel⟩
theorem lkk_X4_fewestInBest : zLk mX4_fewestInBest 0 := ⟨zmem 96 (by decide +kernel) rfl, zmem 867 (by decide +kernel) rfl, by decide, by decide, by decide +kernel⟩
theorem lkk_X4_findFirst : zLk mX4_findFirst 0 := ⟨zmem 96 (by decide +kernel) rfl, zmem 801 (by decide +kernel) rfl, by decide, by decide, by decide +kernel⟩
theorem lkk_X4_isAlone : zLk mX4_isAlone 3 := ⟨zmem 96 (by decide +kernel) rfl, zmem 854 (by decide +kernel) rfl, by decide, by decide, by decide +kernel⟩
theorem lkk_X4_isFirstOnlyBest : zLk mX4_isFirstOnlyBest 0 := ⟨zmem 96 (by decide +kernel) rfl, zmem 1052 (by decide +kernel) rfl, by decide, by decide, by decide +kernel⟩
theorem lkk_X4_isInAllBest : zLk mX4_isInAllBest 2 := ⟨zmem 96 (by decide +kernel) rfl, zmem 824 (by decide +kernel) rfl, by decide, by decide, by decide +kernel⟩
theorem lkk_X4_leastGain : zLk mX4_leastGain 0 := ⟨zmem 96 (by decide +kernel) rfl, zmem 858 (by decide +kernel) rfl, by decide, by decide, by decide +kernel⟩
theorem lkk_X4_leastTotal : zLk mX4_leastTotal 0 := ⟨zmem 96 (by decide +kernel) rfl, zmem 699 (by decide +kernel) rfl, by decide, by decide, by decide +kernel⟩
theorem lkk_X4_leastWith : zLk mX4_leastWith 2 := ⟨zmem 96 (by decide +kernel) rfl, zmem 820 (by decide +kernel) rfl, by decide, by decide, by decide +kernel⟩
theorem lkk_X4_leastWithout : zLk mX4_leastWithout 2 := ⟨zmem 96 (by decide +kernel) rfl, zmem 828 (by decide +kernel) rfl, by decide, by decide, by decide +kernel⟩
theorem lkk_X4_mostInBest : zLk mX4_mostInBest 0 := ⟨zmem 96 (by decide +kernel) rfl, zmem 872 (by decide +kernel) rfl, by decide, by decide, by decide +kernel⟩
theorem lkk_X4_partnerTaken : zLk mX4_partnerTaken 1 := ⟨zmem 96 (by decide +kernel) rfl, zmem 807 (by decide +kernel) rfl, by decide, by decide, by decide +kernel⟩
theorem lkk_X4_settle : zLk mX4_settle 0 := ⟨zmem 96 (by decide +kernel) rfl, zmem 733 (by decide +kernel) rfl, by decide, by decide, by decide +kernel⟩
theorem lkk_X4_weighAll : zLk mX4_weighAll 2 := ⟨zmem 96 (by decide +kernel) rfl, zmem 703 (by decide +kernel) rfl, by decide, by decide, by decide +kernel⟩
theorem lkk_X4_weighPair : zLk mX4_weighPair 4 := ⟨zmem 96 (by decide +kernel) rfl, zmem 714 (by decide +kernel) rfl, by decide, by decide, by decide +kernel⟩
theorem lkk_X5_addTimes : zLk mX5_addTimes 2 := ⟨zmem 95 (by decide +kernel) rfl, zmem 673 (by decide +kernel) rfl, by decide, by decide, by decide +kernel⟩
theorem lkk_X5_comparePlates : zLk mX5_comparePlates 2 := ⟨zmem 95 (by decide +kernel) rfl, zmem 652 (by decide +kernel) rfl, by decide, by decide, by decide +kernel⟩
theorem lkk_X5_costBy : zLk mX5_costBy 3 := ⟨zmem 95 (by decide +kernel) rfl, zmem 677 (by decide +kernel) rfl, by decide, by decide, by decide +kernel⟩
theorem lkk_X5_costOf : zLk mX5_costOf 2 := ⟨zmem 95 (by decide +kernel) rfl, zmem 685 (by decide +kernel) rfl, by decide, by decide, by decide +kernel⟩
theorem lkk_X5_gainOf : zLk mX5_gainOf 2 := ⟨zmem 95 (by decide +kernel) rfl, zmem 722 (by decide +kernel) rfl, by decide, by decide, by decide +kernel⟩
theorem lkk_X5_mayBe : zLk mX5_mayBe 2 := ⟨zmem 95 (by decide +kernel) rfl, zmem 718 (by decide +kernel) rfl, by decide, by decide, by decide +kernel⟩
theorem lkk_X5_mayBeNone : zLk mX5_mayBeNone 2 := ⟨zmem 95 (by decide +kernel) rfl, zmem 849 (by decide +kernel) rfl, by decide, by decide, by decide +kernel⟩
theorem lkk_X5_pointsBut : zLk mX5_pointsBut 4 := ⟨zmem 95 (by decide +kernel) rfl, zmem 655 (by decide +kernel) rfl, by decide, by decide, by decide +kernel⟩
theorem lkk_X6_copyFrom : zLk mX6_copyFrom 1 := ⟨zmem 90 (by decide +kernel) rfl, zmem 557 (by decide +kernel) rfl, by decide, by decide, by decide +kernel⟩
theorem lkk_X6_pointsOf : zLk mX6_pointsOf 2 := ⟨zmem 90 (by decide +kernel) rfl, zmem 662 (by decide +kernel) rfl, by decide, by decide, by decide +kernel⟩
theorem lkk_X6_setAsAtFirst : zLk mX6_setAsAtFirst 0 := ⟨zmem 90 (by decide +kernel) rfl, zmem 159 (by decide +kernel) rfl, by decide, by decide, by decide +kernel⟩
theorem lkk_X7_copyFrom : zLk mX7_copyFrom 1 := ⟨zmem 88 (by decide +kernel) rfl, zmem 1092 (by decide +kernel) rfl, by decide, by decide, by decide +kernel⟩
theorem lkk_X7_tookBy : zLk mX7_tookBy 3 := ⟨zmem 88 (by decide +kernel) rfl, zmem 640 (by decide +kernel) rfl, by decide, by decide, by decide +kernel⟩
theorem lkk_X8_appendLine : zLk mX8_appendLine 2 := ⟨zmem 93 (by decide +kernel) rfl, zmem 1140 (by decide +kernel) rfl, by decide, by decide, by decide +kernel⟩
theorem lkk_X8_faultAs : zLk mX8_faultAs 1 := ⟨zmem 93 (by decide +kernel) rfl, zmem 937 (by decide +kernel) rfl, by decide, by decide, by decide +kernel⟩
theorem lkk_X8_isLine : zLk mX8_isLine 1 := ⟨zmem 93 (by decide +kernel) rfl, zmem 1136 (by decide +kernel) rfl, by decide, by decide, by decide +kernel⟩
theorem lkk_X8_put : zLk mX8_put 2 := ⟨zmem 93 (by decide +kernel) rfl, zmem 1119 (by decide +kernel) rfl, by decide, by decide, by decide +kernel⟩
theorem lkk_X8_renew : zLk mX8_renew 2 := ⟨zmem 93 (by decide +kernel) rfl, zmem 1110 (by decide +kernel) rfl, by decide, by decide, by decide +kernel⟩
theorem lkk_X8_wholeLines : zLk mX8_wholeLines 1 := ⟨zmem 93 (by decide +kernel) rfl, zmem 1127 (by decide +kernel) rfl, by decide, by decide, by decide +kernel⟩
theorem lkk_X9_append : zLk mX9_append 1 := ⟨zmem 94 (by decide +kernel) rfl, zmem 427 (by decide +kernel) rfl, by decide, by decide, by decide +kernel⟩
theorem lkk_X9_fail : zLk mX9_fail 1 := ⟨zmem 94 (by decide +kernel) rfl, zmem 454 (by decide +kernel) rfl, by decide, by decide, by decide +kernel⟩
theorem lkk_X9_isNamed : zLk mX9_isNamed 1 := ⟨zmem 94 (by decide +kernel) rfl, zmem 478 (by decide +kernel) rfl, by decide, by decide, by decide +kernel⟩
theorem lkk_X9_itemNamed : zLk mX9_itemNamed 0 := ⟨zmem 94 (by decide +kernel) rfl, zmem 462 (by decide +kernel) rfl, by decide, by decide, by decide +kernel⟩
theorem lkk_X9_kindOf : zLk mX9_kindOf 1 := ⟨zmem 94 (by decide +kernel) rfl, zmem 450 (by decide +kernel) rfl, by decide, by decide, by decide +kernel⟩
theorem lkk_X9_nameOf : zLk mX9_nameOf 1 := ⟨zmem 94 (by decide +kernel) rfl, zmem 465 (by decide +kernel) rfl, by decide, by decide, by decide +kernel⟩
theorem lkk_X9_takeItem : zLk mX9_takeItem 1 := ⟨zmem 94 (by decide +kernel) rfl, zmem 458 (by decide +kernel) rfl, by decide, by decide, by decide +kernel⟩
theorem lkk_X9_takeLetter : zLk mX9_takeLetter 0 := ⟨zmem 94 (by decide +kernel) rfl, zmem 534 (by decide +kernel) rfl, by decide, by decide, by decide +kernel⟩
theorem lkk_X9_takeMinutes : zLk mX9_takeMinutes 1 := ⟨zmem 94 (by decide +kernel) rfl, zmem 549 (by decide +kernel) rfl, by decide, by decide, by decide +kernel⟩
theorem lkk_X9_takeMixed : zLk mX9_takeMixed 1 := ⟨zmem 94 (by decide +kernel) rfl, zmem 530 (by decide +kernel) rfl, by decide, by decide, by decide +kernel⟩
theorem lkk_X9_takeNumber : zLk mX9_takeNumber 2 := ⟨zmem 94 (by decide +kernel) rfl, zmem 541 (by decide +kernel) rfl, by decide, by decide, by decide +kernel⟩
theorem lkk_X9_takePoints : zLk mX9_takePoints 2 := ⟨zmem 94 (by decide +kernel) rfl, zmem 553 (by decide +kernel) rfl, by decide, by decide, by decide +kernel⟩
theorem lkk_X9_takeToken : zLk mX9_takeToken 1 := ⟨zmem 94 (by decide +kernel) rfl, zmem 447 (by decide +kernel) rfl, by decide, by decide, by decide +kernel⟩
theorem lkk_X9_tellRoad : zLk mX9_tellRoad 1 := ⟨zmem 94 (by decide +kernel) rfl, zmem 442 (by decide +kernel) rfl, by decide, by decide, by decide +kernel⟩
theorem lk_X2_25 : zLn RX2 25 mX10_within 3 := ⟨lkk_X10_within, by simp [zNs], zmem 433 (by decide +kernel) rfl⟩
theorem lk_X5_66 : zLn RX5 66 mX10_within 3 := ⟨lkk_X10_within, by simp [zNs], zmem 433 (by decide +kernel) rfl⟩
theorem lk_X8_32 : zLn RX8 32 mX10_within 3 := ⟨lkk_X10_within, by simp [zNs], zmem 433 (by decide +kernel) rfl⟩
theorem lk_X9_60 : zLn RX9 60 mX10_within 3 := ⟨lkk_X10_within, by simp [zNs], zmem 433 (by decide +kernel) rfl⟩
theorem lk_X9_64 : zLn RX9 64 mX10_isLetter 1 := ⟨lkk_X10_isLetter, by simp [zNs], zmem 536 (by decide +kernel) rfl⟩
theorem lk_X0_28 : zLs RX0 28 mJ6_bitCount_0f7a4 1 := ⟨lkk_J6_bitCount_0f7a4, zmem 882 (by decide +kernel) rfl, zmem 883 (by decide +kernel) rfl⟩
theorem lk_X0_34 : zLs RX0 34 mJ7_fill_53178 2 := ⟨lkk_J7_fill_53178, zmem 763 (by decide +kernel) rfl, zmem 166 (by decide +kernel) rfl⟩
theorem lk_X0_44 : zLs RX0 44 mX0_openTo 3 := ⟨lkk_X0_openTo, zmem 768 (by decide +kernel) rfl, zmem 769 (by decide +kernel) rfl⟩
theorem lk_X1_26 : zLs RX1 26 mJ7_fill_53178 2 := ⟨lkk_J7_fill_53178, zmem 995 (by decide +kernel) rfl, zmem 166 (by decide +kernel) rfl⟩
theorem lk_X1_35 : zLs RX1 35 mJ6_bitCount_0f7a4 1 := ⟨lkk_J6_bitCount_0f7a4, zmem 1008 (by decide +kernel) rfl, zmem 883 (by decide +kernel) rfl⟩
theorem lk_X10_89 : zLs RX10 89 mX10_within 3 := ⟨lkk_X10_within, zmem 432 (by decide +kernel) rfl, zmem 433 (by decide +kernel) rfl⟩
theorem lk_X10_110 : zLs RX10 110 mX10_isLetter 1 := ⟨lkk_X10_isLetter, zmem 570 (by decide +kernel) rfl, zmem 536 (by decide +kernel) rfl⟩
theorem lk_X10_117 : zLs RX10 117 mX10_isEnd 1 := ⟨lkk_X10_isEnd, zmem 579 (by decide +kernel) rfl, zmem 580 (by decide +kernel) rfl⟩
theorem lk_X10_216 : zLs RX10 216 mX10_partOfFraction 3 := ⟨lkk_X10_partOfFraction, zmem 834 (by decide +kernel) rfl, zmem 835 (by decide +kernel) rfl⟩
theorem lk_X10_269 : zLs RX10 269 mX10_isLane 1 := ⟨lkk_X10_isLane, zmem 926 (by decide +kernel) rfl, zmem 927 (by decide +kernel) rfl⟩
theorem lk_X10_328 : zLs RX10 328 mJ6_bitCount_0f7a4 1 := ⟨lkk_J6_bitCount_0f7a4, zmem 1048 (by decide +kernel) rfl, zmem 883 (by decide +kernel) rfl⟩
theorem lk_X10_369 : zLs RX10 369 mX10_refusalOfLines 4 := ⟨lkk_X10_refusalOfLines, zmem 1130 (by decide +kernel) rfl, zmem 1131 (by decide +kernel) rfl⟩
theorem lk_X10_415 : zLs RX10 415 mJ7_fill_53178 2 := ⟨lkk_J7_fill_53178, zmem 1022 (by decide +kernel) rfl, zmem 166 (by decide +kernel) rfl⟩
theorem lk_X10_424 : zLs RX10 424 mX2_letterOf 1 := ⟨lkk_X2_letterOf, zmem 1027 (by decide +kernel) rfl, zmem 667 (by decide +kernel) rfl⟩
theorem lk_X11_85 : zLs RX11 85 mX11_in 3 := ⟨lkk_X11_in, zmem 1269 (by decide +kernel) rfl, zmem 1270 (by decide +kernel) rfl⟩
theorem lk_X11_153 : zLs RX11 153 mX11_isLetter 1 := ⟨lkk_X11_isLetter, zmem 1326 (by decide +kernel) rfl, zmem 1327 (by decide +kernel) rfl⟩
theorem lk_X11_161 : zLs RX11 161 mX11_isEnd 1 := ⟨lkk_X11_isEnd, zmem 1339 (by decide +kernel) rfl, zmem 1340 (by decide +kernel) rfl⟩
theorem lk_X11_201 : zLs RX11 201 mX11_letterOf 1 := ⟨lkk_X11_letterOf, zmem 1406 (by decide +kernel) rfl, zmem 1407 (by decide +kernel) rfl⟩
theorem lk_X11_204 : zLs RX11 204 mX11_isDoubt 2 := ⟨lkk_X11_isDoubt, zmem 1409 (by decide +kernel) rfl, zmem 1410 (by decide +kernel) rfl⟩
theorem lk_X11_213 : zLs RX11 213 mX11_areUnlike 2 := ⟨lkk_X11_areUnlike, zmem 1412 (by decide +kernel) rfl, zmem 1413 (by decide +kernel) rfl⟩
theorem lk_X11_219 : zLs RX11 219 mX11_bitsOf 1 := ⟨lkk_X11_bitsOf, zmem 1440 (by decide +kernel) rfl, zmem 1441 (by decide +kernel) rfl⟩
theorem lk_X11_252 : zLs RX11 252 mX11_lowest 3 := ⟨lkk_X11_lowest, zmem 1472 (by decide +kernel) rfl, zmem 1473 (by decide +kernel) rfl⟩
theorem lk_X11_270 : zLs RX11 270 mX11_size 1 := ⟨lkk_X11_size, zmem 1529 (by decide +kernel) rfl, zmem 1530 (by decide +kernel) rfl⟩
theorem lk_X2_35 : zLs RX2 35 mX2_areUnlikeColours 2 := ⟨lkk_X2_areUnlikeColours, zmem 1062 (by decide +kernel) rfl, zmem 657 (by decide +kernel) rfl⟩
theorem lk_X2_39 : zLs RX2 39 mX2_isDoubtful 1 := ⟨lkk_X2_isDoubtful, zmem 1063 (by decide +kernel) rfl, zmem 664 (by decide +kernel) rfl⟩
theorem lk_X3_31 : zLs RX3 31 mJ7_fill_d0a16 2 := ⟨lkk_J7_fill_d0a16, zmem 708 (by decide +kernel) rfl, zmem 709 (by decide +kernel) rfl⟩
theorem lk_X3_51 : zLs RX3 51 mJ7_fill_53178 2 := ⟨lkk_J7_fill_53178, zmem 741 (by decide +kernel) rfl, zmem 166 (by decide +kernel) rfl⟩
theorem lk_X5_54 : zLs RX5 54 mX5_pointsBut 4 := ⟨lkk_X5_pointsBut, zmem 653 (by decide +kernel) rfl, zmem 654 (by decide +kernel) rfl⟩
theorem lk_X5_62 : zLs RX5 62 mX5_costBy 3 := ⟨lkk_X5_costBy, zmem 675 (by decide +kernel) rfl, zmem 676 (by decide +kernel) rfl⟩
theorem lk_X5_79 : zLs RX5 79 mX2_areUnlikeColours 2 := ⟨lkk_X2_areUnlikeColours, zmem 656 (by decide +kernel) rfl, zmem 657 (by decide +kernel) rfl⟩
theorem lk_X6_30 : zLs RX6 30 mJ7_fill_53178 2 := ⟨lkk_J7_fill_53178, zmem 165 (by decide +kernel) rfl, zmem 166 (by decide +kernel) rfl⟩
theorem lk_X6_36 : zLs RX6 36 mX2_isDoubtful 1 := ⟨lkk_X2_isDoubtful, zmem 663 (by decide +kernel) rfl, zmem 664 (by decide +kernel) rfl⟩
theorem lk_X6_42 : zLs RX6 42 mX2_letterOf 1 := ⟨lkk_X2_letterOf, zmem 666 (by decide +kernel) rfl, zmem 667 (by decide +kernel) rfl⟩
theorem lk_X8_26 : zLs RX8 26 mJ7_fill_53178 2 := ⟨lkk_J7_fill_53178, zmem 1111 (by decide +kernel) rfl, zmem 166 (by decide +kernel) rfl⟩
theorem lk_X9_50 : zLs RX9 50 mX9_kindOf 1 := ⟨lkk_X9_kindOf, zmem 448 (by decide +kernel) rfl, zmem 449 (by decide +kernel) rfl⟩
theorem lk_X9_103 : zLs RX9 103 mX9_nameOf 1 := ⟨lkk_X9_nameOf, zmem 463 (by decide +kernel) rfl, zmem 464 (by decide +kernel) rfl⟩
theorem lk_X0_18 : zLv RX0 18 mX0_spreadAll 3 := ⟨lkk_X0_spreadAll, zmem 781 (by decide +kernel) rfl, zmem 782 (by decide +kernel) rfl, zmem 783 (by decide +kernel) rfl⟩
theorem lk_X0_48 : zLv RX0 48 mX0_spreadLine 2 := ⟨lkk_X0_spreadLine, zmem 786 (by decide +kernel) rfl, zmem 788 (by decide +kernel) rfl, zmem 24 (by decide +kernel) rfl⟩
theorem lk_X0_52 : zLv RX0 52 mX5_mayBe 2 := ⟨lkk_X5_mayBe, zmem 771 (by decide +kernel) rfl, zmem 716 (by decide +kernel) rfl, zmem 717 (by decide +kernel) rfl⟩
theorem lk_X0_56 : zLv RX0 56 mX5_gainOf 2 := ⟨lkk_X5_gainOf, zmem 772 (by decide +kernel) rfl, zmem 720 (by decide +kernel) rfl, zmem 721 (by decide +kernel) rfl⟩
theorem lk_X0_60 : zLv RX0 60 mX0_spreadBest 2 := ⟨lkk_X0_spreadBest, zmem 764 (by decide +kernel) rfl, zmem 766 (by decide +kernel) rfl, zmem 22 (by decide +kernel) rfl⟩
theorem lk_X0_64 : zLv RX0 64 mX0_addBest 3 := ⟨lkk_X0_addBest, zmem 773 (by decide +kernel) rfl, zmem 775 (by decide +kernel) rfl, zmem 23 (by decide +kernel) rfl⟩
theorem lk_X1_32 : zLv RX1 32 mX1_markTogether 0 := ⟨lkk_X1_markTogether, zmem 1004 (by decide +kernel) rfl, zmem 1006 (by decide +kernel) rfl, zmem 42 (by decide +kernel) rfl⟩
theorem lk_X1_47 : zLv RX1 47 mX1_fewestParts 2 := ⟨lkk_X1_fewestParts, zmem 1076 (by decide +kernel) rfl, zmem 1078 (by decide +kernel) rfl, zmem 49 (by decide +kernel) rfl⟩
theorem lk_X10_82 : zLv RX10 82 mX9_append 1 := ⟨lkk_X9_append, zmem 424 (by decide +kernel) rfl, zmem 425 (by decide +kernel) rfl, zmem 426 (by decide +kernel) rfl⟩
theorem lk_X10_93 : zLv RX10 93 mX9_tellRoad 1 := ⟨lkk_X9_tellRoad, zmem 439 (by decide +kernel) rfl, zmem 440 (by decide +kernel) rfl, zmem 441 (by decide +kernel) rfl⟩
theorem lk_X10_100 : zLv RX10 100 mX6_copyFrom 1 := ⟨lkk_X6_copyFrom, zmem 554 (by decide +kernel) rfl, zmem 555 (by decide +kernel) rfl, zmem 556 (by decide +kernel) rfl⟩
theorem lk_X10_121 : zLv RX10 121 mX10_linesAt 1 := ⟨lkk_X10_linesAt, zmem 583 (by decide +kernel) rfl, zmem 585 (by decide +kernel) rfl, zmem 10 (by decide +kernel) rfl⟩
theorem lk_X10_130 : zLv RX10 130 mX2_append 2 := ⟨lkk_X2_append, zmem 587 (by decide +kernel) rfl, zmem 588 (by decide +kernel) rfl, zmem 589 (by decide +kernel) rfl⟩
theorem lk_X10_133 : zLv RX10 133 mX2_setPlate 2 := ⟨lkk_X2_setPlate, zmem 591 (by decide +kernel) rfl, zmem 592 (by decide +kernel) rfl, zmem 593 (by decide +kernel) rfl⟩
theorem lk_X10_137 : zLv RX10 137 mX10_hasLine 2 := ⟨lkk_X10_hasLine, zmem 599 (by decide +kernel) rfl, zmem 601 (by decide +kernel) rfl, zmem 11 (by decide +kernel) rfl⟩
theorem lk_X10_141 : zLv RX10 141 mX2_remove 1 := ⟨lkk_X2_remove, zmem 608 (by decide +kernel) rfl, zmem 609 (by decide +kernel) rfl, zmem 610 (by decide +kernel) rfl⟩
theorem lk_X10_148 : zLv RX10 148 mX2_plateOf 1 := ⟨lkk_X2_plateOf, zmem 617 (by decide +kernel) rfl, zmem 618 (by decide +kernel) rfl, zmem 619 (by decide +kernel) rfl⟩
theorem lk_X10_158 : zLv RX10 158 mX10_hasPair 2 := ⟨lkk_X10_hasPair, zmem 629 (by decide +kernel) rfl, zmem 631 (by decide +kernel) rfl, zmem 12 (by decide +kernel) rfl⟩
theorem lk_X10_161 : zLv RX10 161 mX10_tookNow 2 := ⟨lkk_X10_tookNow, zmem 633 (by decide +kernel) rfl, zmem 635 (by decide +kernel) rfl, zmem 13 (by decide +kernel) rfl⟩
theorem lk_X10_164 : zLv RX10 164 mX10_lookAtPairs 1 := ⟨lkk_X10_lookAtPairs, zmem 645 (by decide +kernel) rfl, zmem 647 (by decide +kernel) rfl, zmem 14 (by decide +kernel) rfl⟩
theorem lk_X10_167 : zLv RX10 167 mX5_costOf 2 := ⟨lkk_X5_costOf, zmem 682 (by decide +kernel) rfl, zmem 683 (by decide +kernel) rfl, zmem 684 (by decide +kernel) rfl⟩
theorem lk_X10_177 : zLv RX10 177 mX6_pointsOf 2 := ⟨lkk_X6_pointsOf, zmem 690 (by decide +kernel) rfl, zmem 660 (by decide +kernel) rfl, zmem 661 (by decide +kernel) rfl⟩
theorem lk_X10_182 : zLv RX10 182 mX4_leastTotal 0 := ⟨lkk_X4_leastTotal, zmem 696 (by decide +kernel) rfl, zmem 697 (by decide +kernel) rfl, zmem 698 (by decide +kernel) rfl⟩
theorem lk_X10_186 : zLv RX10 186 mX0_countBest 1 := ⟨lkk_X0_countBest, zmem 759 (by decide +kernel) rfl, zmem 760 (by decide +kernel) rfl, zmem 761 (by decide +kernel) rfl⟩
theorem lk_X10_190 : zLv RX10 190 mX0_countAll 3 := ⟨lkk_X0_countAll, zmem 777 (by decide +kernel) rfl, zmem 778 (by decide +kernel) rfl, zmem 779 (by decide +kernel) rfl⟩
theorem lk_X10_197 : zLv RX10 197 mX2_has 1 := ⟨lkk_X2_has, zmem 603 (by decide +kernel) rfl, zmem 604 (by decide +kernel) rfl, zmem 605 (by decide +kernel) rfl⟩
theorem lk_X10_200 : zLv RX10 200 mX10_findFirst 0 := ⟨lkk_X10_findFirst, zmem 794 (by decide +kernel) rfl, zmem 796 (by decide +kernel) rfl, zmem 25 (by decide +kernel) rfl⟩
theorem lk_X10_206 : zLv RX10 206 mX5_mayBe 2 := ⟨lkk_X5_mayBe, zmem 816 (by decide +kernel) rfl, zmem 716 (by decide +kernel) rfl, zmem 717 (by decide +kernel) rfl⟩
theorem lk_X10_209 : zLv RX10 209 mX4_leastWith 2 := ⟨lkk_X4_leastWith, zmem 817 (by decide +kernel) rfl, zmem 818 (by decide +kernel) rfl, zmem 819 (by decide +kernel) rfl⟩
theorem lk_X10_213 : zLv RX10 213 mX4_isInAllBest 2 := ⟨lkk_X4_isInAllBest, zmem 821 (by decide +kernel) rfl, zmem 822 (by decide +kernel) rfl, zmem 823 (by decide +kernel) rfl⟩
theorem lk_X10_220 : zLv RX10 220 mX4_leastWithout 2 := ⟨lkk_X4_leastWithout, zmem 841 (by decide +kernel) rfl, zmem 826 (by decide +kernel) rfl, zmem 827 (by decide +kernel) rfl⟩
theorem lk_X10_223 : zLv RX10 223 mX5_mayBeNone 2 := ⟨lkk_X5_mayBeNone, zmem 846 (by decide +kernel) rfl, zmem 847 (by decide +kernel) rfl, zmem 848 (by decide +kernel) rfl⟩
theorem lk_X10_226 : zLv RX10 226 mX4_isAlone 3 := ⟨lkk_X4_isAlone, zmem 851 (by decide +kernel) rfl, zmem 852 (by decide +kernel) rfl, zmem 853 (by decide +kernel) rfl⟩
theorem lk_X10_230 : zLv RX10 230 mX4_fewestInBest 0 := ⟨lkk_X4_fewestInBest, zmem 864 (by decide +kernel) rfl, zmem 865 (by decide +kernel) rfl, zmem 866 (by decide +kernel) rfl⟩
theorem lk_X10_234 : zLv RX10 234 mX4_mostInBest 0 := ⟨lkk_X4_mostInBest, zmem 869 (by decide +kernel) rfl, zmem 870 (by decide +kernel) rfl, zmem 871 (by decide +kernel) rfl⟩
theorem lk_X10_237 : zLv RX10 237 mX0_spreadAll 3 := ⟨lkk_X0_spreadAll, zmem 877 (by decide +kernel) rfl, zmem 782 (by decide +kernel) rfl, zmem 783 (by decide +kernel) rfl⟩
theorem lk_X10_241 : zLv RX10 241 mX0_countOfSize 2 := ⟨lkk_X0_countOfSize, zmem 878 (by decide +kernel) rfl, zmem 879 (by decide +kernel) rfl, zmem 880 (by decide +kernel) rfl⟩
theorem lk_X10_254 : zLv RX10 254 mX4_countFirst 0 := ⟨lkk_X4_countFirst, zmem 897 (by decide +kernel) rfl, zmem 898 (by decide +kernel) rfl, zmem 899 (by decide +kernel) rfl⟩
theorem lk_X10_257 : zLv RX10 257 mX10_firstWrong 0 := ⟨lkk_X10_firstWrong, zmem 905 (by decide +kernel) rfl, zmem 907 (by decide +kernel) rfl, zmem 28 (by decide +kernel) rfl⟩
theorem lk_X10_260 : zLv RX10 260 mX10_faultOfTold 1 := ⟨lkk_X10_faultOfTold, zmem 909 (by decide +kernel) rfl, zmem 911 (by decide +kernel) rfl, zmem 29 (by decide +kernel) rfl⟩
theorem lk_X10_263 : zLv RX10 263 mX10_toldTotal 0 := ⟨lkk_X10_toldTotal, zmem 913 (by decide +kernel) rfl, zmem 915 (by decide +kernel) rfl, zmem 30 (by decide +kernel) rfl⟩
theorem lk_X10_266 : zLv RX10 266 mX10_isSheet 1 := ⟨lkk_X10_isSheet, zmem 922 (by decide +kernel) rfl, zmem 924 (by decide +kernel) rfl, zmem 31 (by decide +kernel) rfl⟩
theorem lk_X10_273 : zLv RX10 273 mX10_copyPrices 3 := ⟨lkk_X10_copyPrices, zmem 930 (by decide +kernel) rfl, zmem 932 (by decide +kernel) rfl, zmem 32 (by decide +kernel) rfl⟩
theorem lk_X10_277 : zLv RX10 277 mX10_firstUnderpriced 0 := ⟨lkk_X10_firstUnderpriced, zmem 941 (by decide +kernel) rfl, zmem 943 (by decide +kernel) rfl, zmem 33 (by decide +kernel) rfl⟩
theorem lk_X10_280 : zLv RX10 280 mX10_firstOverpriced 0 := ⟨lkk_X10_firstOverpriced, zmem 945 (by decide +kernel) rfl, zmem 947 (by decide +kernel) rfl, zmem 34 (by decide +kernel) rfl⟩
theorem lk_X10_283 : zLv RX10 283 mX10_sumOfPrices 0 := ⟨lkk_X10_sumOfPrices, zmem 949 (by decide +kernel) rfl, zmem 951 (by decide +kernel) rfl, zmem 35 (by decide +kernel) rfl⟩
theorem lk_X10_286 : zLv RX10 286 mX10_extremeTime 1 := ⟨lkk_X10_extremeTime, zmem 957 (by decide +kernel) rfl, zmem 959 (by decide +kernel) rfl, zmem 36 (by decide +kernel) rfl⟩
theorem lk_X10_290 : zLv RX10 290 mX10_meanTime 2 := ⟨lkk_X10_meanTime, zmem 961 (by decide +kernel) rfl, zmem 963 (by decide +kernel) rfl, zmem 37 (by decide +kernel) rfl⟩
theorem lk_X10_298 : zLv RX10 298 mX5_comparePlates 2 := ⟨lkk_X5_comparePlates, zmem 649 (by decide +kernel) rfl, zmem 650 (by decide +kernel) rfl, zmem 651 (by decide +kernel) rfl⟩
theorem lk_X10_302 : zLv RX10 302 mX5_addTimes 2 := ⟨lkk_X5_addTimes, zmem 670 (by decide +kernel) rfl, zmem 671 (by decide +kernel) rfl, zmem 672 (by decide +kernel) rfl⟩
theorem lk_X10_310 : zLv RX10 310 mX10_allPassings 0 := ⟨lkk_X10_allPassings, zmem 975 (by decide +kernel) rfl, zmem 977 (by decide +kernel) rfl, zmem 38 (by decide +kernel) rfl⟩
theorem lk_X10_313 : zLv RX10 313 mX10_fewestWithoutPassing 0 := ⟨lkk_X10_fewestWithoutPassing, zmem 987 (by decide +kernel) rfl, zmem 989 (by decide +kernel) rfl, zmem 41 (by decide +kernel) rfl⟩
theorem lk_X10_316 : zLv RX10 316 mX10_greatestPasser 0 := ⟨lkk_X10_greatestPasser, zmem 1010 (by decide +kernel) rfl, zmem 1012 (by decide +kernel) rfl, zmem 43 (by decide +kernel) rfl⟩
theorem lk_X10_319 : zLv RX10 319 mX10_countReads 0 := ⟨lkk_X10_countReads, zmem 1018 (by decide +kernel) rfl, zmem 1020 (by decide +kernel) rfl, zmem 44 (by decide +kernel) rfl⟩
theorem lk_X10_322 : zLv RX10 322 mX10_mostMistaken 0 := ⟨lkk_X10_mostMistaken, zmem 1032 (by decide +kernel) rfl, zmem 1034 (by decide +kernel) rfl, zmem 46 (by decide +kernel) rfl⟩
theorem lk_X10_325 : zLv RX10 325 mX10_fewestPlaces 0 := ⟨lkk_X10_fewestPlaces, zmem 1044 (by decide +kernel) rfl, zmem 1046 (by decide +kernel) rfl, zmem 47 (by decide +kernel) rfl⟩
theorem lk_X10_333 : zLv RX10 333 mX2_mayBeOneCar 2 := ⟨lkk_X2_mayBeOneCar, zmem 1058 (by decide +kernel) rfl, zmem 1059 (by decide +kernel) rfl, zmem 1060 (by decide +kernel) rfl⟩
theorem lk_X10_336 : zLv RX10 336 mX10_fewestCars 1 := ⟨lkk_X10_fewestCars, zmem 1068 (by decide +kernel) rfl, zmem 1070 (by decide +kernel) rfl, zmem 48 (by decide +kernel) rfl⟩
theorem lk_X10_340 : zLv RX10 340 mX10_isImage 1 := ⟨lkk_X10_isImage, zmem 1085 (by decide +kernel) rfl, zmem 1087 (by decide +kernel) rfl, zmem 50 (by decide +kernel) rfl⟩
theorem lk_X10_347 : zLv RX10 347 mX7_copyFrom 1 := ⟨lkk_X7_copyFrom, zmem 1089 (by decide +kernel) rfl, zmem 1090 (by decide +kernel) rfl, zmem 1091 (by decide +kernel) rfl⟩
theorem lk_X10_350 : zLv RX10 350 mX8_renew 2 := ⟨lkk_X8_renew, zmem 1107 (by decide +kernel) rfl, zmem 1108 (by decide +kernel) rfl, zmem 1109 (by decide +kernel) rfl⟩
theorem lk_X10_357 : zLv RX10 357 mX8_put 2 := ⟨lkk_X8_put, zmem 1116 (by decide +kernel) rfl, zmem 1117 (by decide +kernel) rfl, zmem 1118 (by decide +kernel) rfl⟩
theorem lk_X10_360 : zLv RX10 360 mX8_faultAs 1 := ⟨lkk_X8_faultAs, zmem 934 (by decide +kernel) rfl, zmem 935 (by decide +kernel) rfl, zmem 936 (by decide +kernel) rfl⟩
theorem lk_X10_363 : zLv RX10 363 mX8_wholeLines 1 := ⟨lkk_X8_wholeLines, zmem 1124 (by decide +kernel) rfl, zmem 1125 (by decide +kernel) rfl, zmem 1126 (by decide +kernel) rfl⟩
theorem lk_X10_373 : zLv RX10 373 mX8_appendLine 2 := ⟨lkk_X8_appendLine, zmem 1137 (by decide +kernel) rfl, zmem 1138 (by decide +kernel) rfl, zmem 1139 (by decide +kernel) rfl⟩
theorem lk_X10_377 : zLv RX10 377 mX10_countPairs 0 := ⟨lkk_X10_countPairs, zmem 1151 (by decide +kernel) rfl, zmem 1153 (by decide +kernel) rfl, zmem 51 (by decide +kernel) rfl⟩
theorem lk_X10_380 : zLv RX10 380 mX7_tookBy 3 := ⟨lkk_X7_tookBy, zmem 637 (by decide +kernel) rfl, zmem 638 (by decide +kernel) rfl, zmem 639 (by decide +kernel) rfl⟩
theorem lk_X10_384 : zLv RX10 384 mX4_findFirst 0 := ⟨lkk_X4_findFirst, zmem 798 (by decide +kernel) rfl, zmem 799 (by decide +kernel) rfl, zmem 800 (by decide +kernel) rfl⟩
theorem lk_X10_391 : zLv RX10 391 mX5_gainOf 2 := ⟨lkk_X5_gainOf, zmem 917 (by decide +kernel) rfl, zmem 720 (by decide +kernel) rfl, zmem 721 (by decide +kernel) rfl⟩
theorem lk_X10_400 : zLv RX10 400 mX10_hasPassed 2 := ⟨lkk_X10_hasPassed, zmem 983 (by decide +kernel) rfl, zmem 985 (by decide +kernel) rfl, zmem 40 (by decide +kernel) rfl⟩
theorem lk_X10_403 : zLv RX10 403 mX10_passingsOf 1 := ⟨lkk_X10_passingsOf, zmem 979 (by decide +kernel) rfl, zmem 981 (by decide +kernel) rfl, zmem 39 (by decide +kernel) rfl⟩
theorem lk_X10_406 : zLv RX10 406 mX1_begin 1 := ⟨lkk_X1_begin, zmem 991 (by decide +kernel) rfl, zmem 992 (by decide +kernel) rfl, zmem 993 (by decide +kernel) rfl⟩
theorem lk_X10_409 : zLv RX10 409 mX1_join 2 := ⟨lkk_X1_join, zmem 996 (by decide +kernel) rfl, zmem 997 (by decide +kernel) rfl, zmem 998 (by decide +kernel) rfl⟩
theorem lk_X10_412 : zLv RX10 412 mX1_largest 0 := ⟨lkk_X1_largest, zmem 1000 (by decide +kernel) rfl, zmem 1001 (by decide +kernel) rfl, zmem 1002 (by decide +kernel) rfl⟩
theorem lk_X10_421 : zLv RX10 421 mX10_countReadsOf 2 := ⟨lkk_X10_countReadsOf, zmem 1023 (by decide +kernel) rfl, zmem 1025 (by decide +kernel) rfl, zmem 45 (by decide +kernel) rfl⟩
theorem lk_X10_427 : zLv RX10 427 mX4_isFirstOnlyBest 0 := ⟨lkk_X4_isFirstOnlyBest, zmem 1049 (by decide +kernel) rfl, zmem 1050 (by decide +kernel) rfl, zmem 1051 (by decide +kernel) rfl⟩
theorem lk_X10_431 : zLv RX10 431 mX1_fewest 0 := ⟨lkk_X1_fewest, zmem 1072 (by decide +kernel) rfl, zmem 1073 (by decide +kernel) rfl, zmem 1074 (by decide +kernel) rfl⟩
theorem lk_X10_434 : zLv RX10 434 mX8_isLine 1 := ⟨lkk_X8_isLine, zmem 1133 (by decide +kernel) rfl, zmem 1134 (by decide +kernel) rfl, zmem 1135 (by decide +kernel) rfl⟩
theorem lk_X11_101 : zLv RX11 101 mX11_byteAt 1 := ⟨lkk_X11_byteAt, zmem 1280 (by decide +kernel) rfl, zmem 1282 (by decide +kernel) rfl, zmem 53 (by decide +kernel) rfl⟩
theorem lk_X11_119 : zLv RX11 119 mX11_fails 1 := ⟨lkk_X11_fails, zmem 1288 (by decide +kernel) rfl, zmem 1290 (by decide +kernel) rfl, zmem 54 (by decide +kernel) rfl⟩
theorem lk_X11_123 : zLv RX11 123 mX11_next 0 := ⟨lkk_X11_next, zmem 1276 (by decide +kernel) rfl, zmem 1278 (by decide +kernel) rfl, zmem 52 (by decide +kernel) rfl⟩
theorem lk_X11_128 : zLv RX11 128 mX11_letter 0 := ⟨lkk_X11_letter, zmem 1308 (by decide +kernel) rfl, zmem 1310 (by decide +kernel) rfl, zmem 59 (by decide +kernel) rfl⟩
theorem lk_X11_132 : zLv RX11 132 mX11_number 2 := ⟨lkk_X11_number, zmem 1300 (by decide +kernel) rfl, zmem 1302 (by decide +kernel) rfl, zmem 57 (by decide +kernel) rfl⟩
theorem lk_X11_136 : zLv RX11 136 mX11_itemName 0 := ⟨lkk_X11_itemName, zmem 1296 (by decide +kernel) rfl, zmem 1298 (by decide +kernel) rfl, zmem 56 (by decide +kernel) rfl⟩
theorem lk_X11_142 : zLv RX11 142 mX11_readTwo 0 := ⟨lkk_X11_readTwo, zmem 1304 (by decide +kernel) rfl, zmem 1306 (by decide +kernel) rfl, zmem 58 (by decide +kernel) rfl⟩
theorem lk_X11_145 : zLv RX11 145 mX11_readItem 0 := ⟨lkk_X11_readItem, zmem 1292 (by decide +kernel) rfl, zmem 1294 (by decide +kernel) rfl, zmem 55 (by decide +kernel) rfl⟩
theorem lk_X11_164 : zLv RX11 164 mX11_linesOf 2 := ⟨lkk_X11_linesOf, zmem 1345 (by decide +kernel) rfl, zmem 1347 (by decide +kernel) rfl, zmem 60 (by decide +kernel) rfl⟩
theorem lk_X11_173 : zLv RX11 173 mX11_setIts 4 := ⟨lkk_X11_setIts, zmem 1349 (by decide +kernel) rfl, zmem 1351 (by decide +kernel) rfl, zmem 61 (by decide +kernel) rfl⟩
theorem lk_X11_177 : zLv RX11 177 mX11_isLine 2 := ⟨lkk_X11_isLine, zmem 1357 (by decide +kernel) rfl, zmem 1359 (by decide +kernel) rfl, zmem 62 (by decide +kernel) rfl⟩
theorem lk_X11_181 : zLv RX11 181 mX11_its 3 := ⟨lkk_X11_its, zmem 1361 (by decide +kernel) rfl, zmem 1363 (by decide +kernel) rfl, zmem 63 (by decide +kernel) rfl⟩
theorem lk_X11_195 : zLv RX11 195 mX11_arePair 2 := ⟨lkk_X11_arePair, zmem 1382 (by decide +kernel) rfl, zmem 1384 (by decide +kernel) rfl, zmem 64 (by decide +kernel) rfl⟩
theorem lk_X11_198 : zLv RX11 198 mX11_tookOf 2 := ⟨lkk_X11_tookOf, zmem 1386 (by decide +kernel) rfl, zmem 1388 (by decide +kernel) rfl, zmem 65 (by decide +kernel) rfl⟩
theorem lk_X11_207 : zLv RX11 207 mX11_isInTime 2 := ⟨lkk_X11_isInTime, zmem 1398 (by decide +kernel) rfl, zmem 1400 (by decide +kernel) rfl, zmem 67 (by decide +kernel) rfl⟩
theorem lk_X11_210 : zLv RX11 210 mX11_pointsAt 3 := ⟨lkk_X11_pointsAt, zmem 1402 (by decide +kernel) rfl, zmem 1404 (by decide +kernel) rfl, zmem 68 (by decide +kernel) rfl⟩
theorem lk_X11_216 : zLv RX11 216 mX11_costOf 3 := ⟨lkk_X11_costOf, zmem 1394 (by decide +kernel) rfl, zmem 1396 (by decide +kernel) rfl, zmem 66 (by decide +kernel) rfl⟩
theorem lk_X11_222 : zLv RX11 222 mX11_layEnd 0 := ⟨lkk_X11_layEnd, zmem 1436 (by decide +kernel) rfl, zmem 1438 (by decide +kernel) rfl, zmem 72 (by decide +kernel) rfl⟩
theorem lk_X11_226 : zLv RX11 226 mX11_may 5 := ⟨lkk_X11_may, zmem 1444 (by decide +kernel) rfl, zmem 1446 (by decide +kernel) rfl, zmem 73 (by decide +kernel) rfl⟩
theorem lk_X11_230 : zLv RX11 230 mX11_takeIn 4 := ⟨lkk_X11_takeIn, zmem 1448 (by decide +kernel) rfl, zmem 1450 (by decide +kernel) rfl, zmem 74 (by decide +kernel) rfl⟩
theorem lk_X11_233 : zLv RX11 233 mX11_layCosts 1 := ⟨lkk_X11_layCosts, zmem 1428 (by decide +kernel) rfl, zmem 1430 (by decide +kernel) rfl, zmem 70 (by decide +kernel) rfl⟩
theorem lk_X11_236 : zLv RX11 236 mX11_layPairings 3 := ⟨lkk_X11_layPairings, zmem 1432 (by decide +kernel) rfl, zmem 1434 (by decide +kernel) rfl, zmem 71 (by decide +kernel) rfl⟩
theorem lk_X11_242 : zLv RX11 242 mX11_layAll 0 := ⟨lkk_X11_layAll, zmem 1424 (by decide +kernel) rfl, zmem 1426 (by decide +kernel) rfl, zmem 69 (by decide +kernel) rfl⟩
theorem lk_X11_245 : zLv RX11 245 mX11_layFirst 1 := ⟨lkk_X11_layFirst, zmem 1456 (by decide +kernel) rfl, zmem 1458 (by decide +kernel) rfl, zmem 75 (by decide +kernel) rfl⟩
theorem lk_X11_249 : zLv RX11 249 mX11_sureOf 2 := ⟨lkk_X11_sureOf, zmem 1464 (by decide +kernel) rfl, zmem 1466 (by decide +kernel) rfl, zmem 76 (by decide +kernel) rfl⟩
theorem lk_X11_256 : zLv RX11 256 mX11_toldOf 1 := ⟨lkk_X11_toldOf, zmem 1495 (by decide +kernel) rfl, zmem 1497 (by decide +kernel) rfl, zmem 77 (by decide +kernel) rfl⟩
theorem lk_X11_259 : zLv RX11 259 mX11_whyWrong 1 := ⟨lkk_X11_whyWrong, zmem 1507 (by decide +kernel) rfl, zmem 1509 (by decide +kernel) rfl, zmem 78 (by decide +kernel) rfl⟩
theorem lk_X11_273 : zLv RX11 273 mX11_didPass 2 := ⟨lkk_X11_didPass, zmem 1536 (by decide +kernel) rfl, zmem 1538 (by decide +kernel) rfl, zmem 79 (by decide +kernel) rfl⟩
theorem lk_X11_276 : zLv RX11 276 mX11_isCalm 1 := ⟨lkk_X11_isCalm, zmem 1540 (by decide +kernel) rfl, zmem 1542 (by decide +kernel) rfl, zmem 80 (by decide +kernel) rfl⟩
theorem lk_X11_279 : zLv RX11 279 mX11_readAs 2 := ⟨lkk_X11_readAs, zmem 1548 (by decide +kernel) rfl, zmem 1550 (by decide +kernel) rfl, zmem 81 (by decide +kernel) rfl⟩
theorem lk_X11_282 : zLv RX11 282 mX11_blamed 0 := ⟨lkk_X11_blamed, zmem 1556 (by decide +kernel) rfl, zmem 1558 (by decide +kernel) rfl, zmem 82 (by decide +kernel) rfl⟩
theorem lk_X11_287 : zLv RX11 287 mX11_areOne 3 := ⟨lkk_X11_areOne, zmem 1573 (by decide +kernel) rfl, zmem 1575 (by decide +kernel) rfl, zmem 83 (by decide +kernel) rfl⟩
theorem lk_X11_291 : zLv RX11 291 mX11_isOneCar 2 := ⟨lkk_X11_isOneCar, zmem 1581 (by decide +kernel) rfl, zmem 1583 (by decide +kernel) rfl, zmem 84 (by decide +kernel) rfl⟩
theorem lk_X11_294 : zLv RX11 294 mX11_isAsTold 1 := ⟨lkk_X11_isAsTold, zmem 1605 (by decide +kernel) rfl, zmem 1607 (by decide +kernel) rfl, zmem 85 (by decide +kernel) rfl⟩
theorem lk_X3_54 : zLv RX3 54 mX3_seat 1 := ⟨lkk_X3_seat, zmem 742 (by decide +kernel) rfl, zmem 744 (by decide +kernel) rfl, zmem 18 (by decide +kernel) rfl⟩
theorem lk_X3_63 : zLv RX3 63 mX3_reachFrom 1 := ⟨lkk_X3_reachFrom, zmem 747 (by decide +kernel) rfl, zmem 749 (by decide +kernel) rfl, zmem 19 (by decide +kernel) rfl⟩
theorem lk_X3_66 : zLv RX3 66 mX3_nearest 0 := ⟨lkk_X3_nearest, zmem 751 (by decide +kernel) rfl, zmem 753 (by decide +kernel) rfl, zmem 20 (by decide +kernel) rfl⟩
theorem lk_X3_70 : zLv RX3 70 mX3_shiftPrices 1 := ⟨lkk_X3_shiftPrices, zmem 755 (by decide +kernel) rfl, zmem 757 (by decide +kernel) rfl, zmem 21 (by decide +kernel) rfl⟩
theorem lk_X4_32 : zLv RX4 32 mX3_clear 0 := ⟨lkk_X3_clear, zmem 704 (by decide +kernel) rfl, zmem 705 (by decide +kernel) rfl, zmem 706 (by decide +kernel) rfl⟩
theorem lk_X4_44 : zLv RX4 44 mX4_weighPair 4 := ⟨lkk_X4_weighPair, zmem 711 (by decide +kernel) rfl, zmem 713 (by decide +kernel) rfl, zmem 16 (by decide +kernel) rfl⟩
theorem lk_X4_48 : zLv RX4 48 mX5_mayBe 2 := ⟨lkk_X5_mayBe, zmem 715 (by decide +kernel) rfl, zmem 716 (by decide +kernel) rfl, zmem 717 (by decide +kernel) rfl⟩
theorem lk_X4_52 : zLv RX4 52 mX5_gainOf 2 := ⟨lkk_X5_gainOf, zmem 719 (by decide +kernel) rfl, zmem 720 (by decide +kernel) rfl, zmem 721 (by decide +kernel) rfl⟩
theorem lk_X4_56 : zLv RX4 56 mX3_setWeight 3 := ⟨lkk_X3_setWeight, zmem 723 (by decide +kernel) rfl, zmem 724 (by decide +kernel) rfl, zmem 725 (by decide +kernel) rfl⟩
theorem lk_X4_60 : zLv RX4 60 mX3_settle 2 := ⟨lkk_X3_settle, zmem 734 (by decide +kernel) rfl, zmem 735 (by decide +kernel) rfl, zmem 736 (by decide +kernel) rfl⟩
theorem lk_X4_64 : zLv RX4 64 mX4_weighAll 2 := ⟨lkk_X4_weighAll, zmem 700 (by decide +kernel) rfl, zmem 702 (by decide +kernel) rfl, zmem 15 (by decide +kernel) rfl⟩
theorem lk_X4_68 : zLv RX4 68 mX4_settle 0 := ⟨lkk_X4_settle, zmem 730 (by decide +kernel) rfl, zmem 732 (by decide +kernel) rfl, zmem 17 (by decide +kernel) rfl⟩
theorem lk_X4_74 : zLv RX4 74 mX4_leastWithout 2 := ⟨lkk_X4_leastWithout, zmem 825 (by decide +kernel) rfl, zmem 826 (by decide +kernel) rfl, zmem 827 (by decide +kernel) rfl⟩
theorem lk_X4_77 : zLv RX4 77 mX4_leastTotal 0 := ⟨lkk_X4_leastTotal, zmem 829 (by decide +kernel) rfl, zmem 697 (by decide +kernel) rfl, zmem 698 (by decide +kernel) rfl⟩
theorem lk_X4_80 : zLv RX4 80 mX4_leastGain 0 := ⟨lkk_X4_leastGain, zmem 855 (by decide +kernel) rfl, zmem 857 (by decide +kernel) rfl, zmem 27 (by decide +kernel) rfl⟩
theorem lk_X4_91 : zLv RX4 91 mX4_partnerTaken 1 := ⟨lkk_X4_partnerTaken, zmem 804 (by decide +kernel) rfl, zmem 806 (by decide +kernel) rfl, zmem 26 (by decide +kernel) rfl⟩
theorem lk_X4_95 : zLv RX4 95 mX3_isTaken 2 := ⟨lkk_X3_isTaken, zmem 808 (by decide +kernel) rfl, zmem 809 (by decide +kernel) rfl, zmem 810 (by decide +kernel) rfl⟩
theorem lk_X4_98 : zLv RX4 98 mX4_countFirst 0 := ⟨lkk_X4_countFirst, zmem 1053 (by decide +kernel) rfl, zmem 898 (by decide +kernel) rfl, zmem 899 (by decide +kernel) rfl⟩
theorem lk_X5_58 : zLv RX5 58 mX7_tookBy 3 := ⟨lkk_X7_tookBy, zmem 674 (by decide +kernel) rfl, zmem 638 (by decide +kernel) rfl, zmem 639 (by decide +kernel) rfl⟩
theorem lk_X5_86 : zLv RX5 86 mX6_pointsOf 2 := ⟨lkk_X6_pointsOf, zmem 659 (by decide +kernel) rfl, zmem 660 (by decide +kernel) rfl, zmem 661 (by decide +kernel) rfl⟩
theorem lk_X5_90 : zLv RX5 90 mX5_mayBe 2 := ⟨lkk_X5_mayBe, zmem 850 (by decide +kernel) rfl, zmem 716 (by decide +kernel) rfl, zmem 717 (by decide +kernel) rfl⟩
theorem lk_X7_38 : zLv RX7 38 mX2_copyFrom 1 := ⟨lkk_X2_copyFrom, zmem 1093 (by decide +kernel) rfl, zmem 1094 (by decide +kernel) rfl, zmem 1095 (by decide +kernel) rfl⟩
theorem lk_X7_42 : zLv RX7 42 mX6_copyFrom 1 := ⟨lkk_X6_copyFrom, zmem 1097 (by decide +kernel) rfl, zmem 555 (by decide +kernel) rfl, zmem 556 (by decide +kernel) rfl⟩
theorem lk_X8_36 : zLv RX8 36 mX2_append 2 := ⟨lkk_X2_append, zmem 1141 (by decide +kernel) rfl, zmem 588 (by decide +kernel) rfl, zmem 589 (by decide +kernel) rfl⟩
theorem lk_X9_19 : zLv RX9 19 mX6_setAsAtFirst 0 := ⟨lkk_X6_setAsAtFirst, zmem 443 (by decide +kernel) rfl, zmem 157 (by decide +kernel) rfl, zmem 158 (by decide +kernel) rfl⟩
theorem lk_X9_33 : zLv RX9 33 mX9_takeToken 1 := ⟨lkk_X9_takeToken, zmem 444 (by decide +kernel) rfl, zmem 446 (by decide +kernel) rfl, zmem 0 (by decide +kernel) rfl⟩
theorem lk_X9_40 : zLv RX9 40 mX9_takeItem 1 := ⟨lkk_X9_takeItem, zmem 455 (by decide +kernel) rfl, zmem 457 (by decide +kernel) rfl, zmem 2 (by decide +kernel) rfl⟩
theorem lk_X9_57 : zLv RX9 57 mX9_fail 1 := ⟨lkk_X9_fail, zmem 451 (by decide +kernel) rfl, zmem 453 (by decide +kernel) rfl, zmem 1 (by decide +kernel) rfl⟩
theorem lk_X9_67 : zLv RX9 67 mX9_itemNamed 0 := ⟨lkk_X9_itemNamed, zmem 459 (by decide +kernel) rfl, zmem 461 (by decide +kernel) rfl, zmem 3 (by decide +kernel) rfl⟩
theorem lk_X9_71 : zLv RX9 71 mX9_takeMixed 1 := ⟨lkk_X9_takeMixed, zmem 527 (by decide +kernel) rfl, zmem 529 (by decide +kernel) rfl, zmem 5 (by decide +kernel) rfl⟩
theorem lk_X9_84 : zLv RX9 84 mX9_takeMinutes 1 := ⟨lkk_X9_takeMinutes, zmem 546 (by decide +kernel) rfl, zmem 548 (by decide +kernel) rfl, zmem 8 (by decide +kernel) rfl⟩
theorem lk_X9_88 : zLv RX9 88 mX9_takePoints 2 := ⟨lkk_X9_takePoints, zmem 550 (by decide +kernel) rfl, zmem 552 (by decide +kernel) rfl, zmem 9 (by decide +kernel) rfl⟩
theorem lk_X9_92 : zLv RX9 92 mX9_takeNumber 2 := ⟨lkk_X9_takeNumber, zmem 538 (by decide +kernel) rfl, zmem 540 (by decide +kernel) rfl, zmem 7 (by decide +kernel) rfl⟩
theorem lk_X9_96 : zLv RX9 96 mX9_takeLetter 0 := ⟨lkk_X9_takeLetter, zmem 531 (by decide +kernel) rfl, zmem 533 (by decide +kernel) rfl, zmem 6 (by decide +kernel) rfl⟩
theorem lk_X9_107 : zLv RX9 107 mX9_isNamed 1 := ⟨lkk_X9_isNamed, zmem 475 (by decide +kernel) rfl, zmem 477 (by decide +kernel) rfl, zmem 4 (by decide +kernel) rfl⟩
theorem ac_native : Cond.native arraycopyName ∈ zT := zmem 164 (by decide +kernel) rfl
theorem ac_static : Cond.static arraycopyName ∈ zT := zmem 163 (by decide +kernel) rfl
theorem ac_init : Cond.initialized "java/lang/System" ∈ zT := zmem 91 (by decide +kernel) rfl
theorem ac_X10_248 : Cond.methodLink RX10 248 arraycopyName ∈ zT := zmem 896 (by decide +kernel) rfl
theorem ac_X2_29 : Cond.methodLink RX2 29 arraycopyName ∈ zT := zmem 612 (by decide +kernel) rfl
theorem ac_X6_24 : Cond.methodLink RX6 24 arraycopyName ∈ zT := zmem 162 (by decide +kernel) rfl
theorem ac_X7_45 : Cond.methodLink RX7 45 arraycopyName ∈ zT := zmem 1098 (by decide +kernel) rfl
theorem ac_X8_45 : Cond.methodLink RX8 45 arraycopyName ∈ zT := zmem 1142 (by decide +kernel) rfl
theorem ml_mabs : Cond.static Lib.Math.abs.name ∈ zT ∧ Cond.initialized "java/lang/Math" ∈ zT ∧ Cond.code Lib.Math.abs.name Lib.Math.abs.code 1 (some .int) ∈ zT := ⟨zmem 680 (by decide +kernel) rfl, zmem 105 (by decide +kernel) rfl, zmem 681 (by decide +kernel) rfl⟩
theorem ml_mmax : Cond.static Lib.Math.max.name ∈ zT ∧ Cond.initialized "java/lang/Math" ∈ zT ∧ Cond.code Lib.Math.max.name Lib.Math.max.code 2 (some .int) ∈ zT := ⟨zmem 739 (by decide +kernel) rfl, zmem 105 (by decide +kernel) rfl, zmem 740 (by decide +kernel) rfl⟩
theorem ml_mmin : Cond.static Lib.Math.min.name ∈ zT ∧ Cond.initialized "java/lang/Math" ∈ zT ∧ Cond.code Lib.Math.min.name Lib.Math.min.code 2 (some .int) ∈ zT := ⟨zmem 544 (by decide +kernel) rfl, zmem 105 (by decide +kernel) rfl, zmem 545 (by decide +kernel) rfl⟩
theorem ml_mminl : Cond.static Lib.MathLoose.min_long.x ∈ zT ∧ Cond.initialized "java/lang/Math" ∈ zT ∧ Cond.code Lib.MathLoose.min_long.x Lib.MathLoose.min_long.code 4 (some .long) ∈ zT := ⟨zmem 728 (by decide +kernel) rfl, zmem 105 (by decide +kernel) rfl, zmem 729 (by decide +kernel) rfl⟩
theorem ml_X1_41 : Cond.methodLink RX1 41 Lib.Math.max.name ∈ zT := zmem 1009 (by decide +kernel) rfl
theorem ml_X1_50 : Cond.methodLink RX1 50 Lib.Math.min.name ∈ zT := zmem 1080 (by decide +kernel) rfl
theorem ml_X10_305 : Cond.methodLink RX10 305 Lib.Math.abs.name ∈ zT := zmem 970 (by decide +kernel) rfl
theorem ml_X10_366 : Cond.methodLink RX10 366 Lib.Math.min.name ∈ zT := zmem 1129 (by decide +kernel) rfl
theorem ml_X3_37 : Cond.methodLink RX3 37 Lib.MathLoose.min_long.x ∈ zT := zmem 727 (by decide +kernel) rfl
theorem ml_X3_43 : Cond.methodLink RX3 43 Lib.Math.max.name ∈ zT := zmem 738 (by decide +kernel) rfl
theorem ml_X5_70 : Cond.methodLink RX5 70 Lib.Math.abs.name ∈ zT := zmem 679 (by decide +kernel) rfl
theorem ml_X6_46 : Cond.methodLink RX6 46 Lib.Math.min.name ∈ zT := zmem 669 (by decide +kernel) rfl
theorem ml_X9_74 : Cond.methodLink RX9 74 Lib.Math.min.name ∈ zT := zmem 543 (by decide +kernel) rfl
theorem sl_X9_111 : zLv RX9 111 mJ0_length 0 := ⟨lkk_length, zmem 479 (by decide +kernel) rfl, zmem 480 (by decide +kernel) rfl, zmem 481 (by decide +kernel) rfl⟩
theorem sl_X9_115 : zLv RX9 115 mJ0_charAt 1 := ⟨lkk_charAt, zmem 489 (by decide +kernel) rfl, zmem 490 (by decide +kernel) rfl, zmem 491 (by decide +kernel) rfl⟩
theorem sw_X6 : True := trivial
theorem sw_X6_21 : Cond.fieldLink RX6 21 "HalfNumber$Road" "AT_FIRST" "[I" ∈ zT := zmem 160 (by decide +kernel) rfl
