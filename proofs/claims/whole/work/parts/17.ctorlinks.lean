/-! ===== constructors: links, layouts (written by a program) ===== -/
abbrev mX2_init : zD := (yX2_init, cX2_init, 1, none, 1, 12)
abbrev mX6_init : zD := (yX6_init, cX6_init, 1, none, 2, 46)
abbrev mX7_init : zD := (yX7_init, cX7_init, 1, none, 3, 66)
abbrev mX8_init : zD := (yX8_init, cX8_init, 1, none, 1, 12)
abbrev mX9_init : zD := (yX9_init, cX9_init, 1, none, 1, 12)
abbrev mX5_init : zD := (yX5_init, cX5_init, 1, none, 1, 12)
abbrev mX3_init : zD := (yX3_init, cX3_init, 1, none, 1, 12)
abbrev mX4_init : zD := (yX4_init, cX4_init, 2, none, 2, 32)
abbrev mX0_init : zD := (yX0_init, cX0_init, 1, none, 1, 12)
abbrev mX1_init : zD := (yX1_init, cX1_init, 1, none, 1, 12)
abbrev mX10_init : zD := (yX10_init, cX10_init, 1, none, 4, 86)
abbrev mX11_init : zD := (yX11_init, cX11_init, 1, none, 1, 12)
theorem narr_0 : Cond.arrayClass (zTy 0) ∈ zT := zmem 149 (by decide +kernel) rfl
theorem narr_1 : Cond.arrayClass (zTy 1) ∈ zT := zmem 337 (by decide +kernel) rfl
theorem narr_2 : Cond.arrayClass (zTy 2) ∈ zT := zmem 264 (by decide +kernel) rfl
theorem narr_3 : Cond.arrayClass (zTy 3) ∈ zT := zmem 382 (by decide +kernel) rfl
theorem ncl_X10_20 : Cond.classLink RX10 20 "HalfNumber$Sheet" ∈ zT := zmem 205 (by decide +kernel) rfl
theorem ncl_X10_9 : Cond.classLink RX10 9 "HalfNumber$Scene" ∈ zT := zmem 115 (by decide +kernel) rfl
theorem zbp_100 : (Int8.ofInt (100)).toInt32 = 100 := by decide
theorem zbp_101 : (Int8.ofInt (101)).toInt32 = 101 := by decide
theorem zbp_102 : (Int8.ofInt (102)).toInt32 = 102 := by decide
theorem zbp_105 : (Int8.ofInt (105)).toInt32 = 105 := by decide
theorem zbp_106 : (Int8.ofInt (106)).toInt32 = 106 := by decide
theorem zbp_108 : (Int8.ofInt (108)).toInt32 = 108 := by decide
theorem zbp_109 : (Int8.ofInt (109)).toInt32 = 109 := by decide
theorem zbp_110 : (Int8.ofInt (110)).toInt32 = 110 := by decide
theorem zbp_111 : (Int8.ofInt (111)).toInt32 = 111 := by decide
theorem zbp_114 : (Int8.ofInt (114)).toInt32 = 114 := by decide
theorem zbp_115 : (Int8.ofInt (115)).toInt32 = 115 := by decide
theorem zbp_116 : (Int8.ofInt (116)).toInt32 = 116 := by decide
theorem zbp_117 : (Int8.ofInt (117)).toInt32 = 117 := by decide
theorem zbp_12 : (Int8.ofInt (12)).toInt32 = 12 := by decide
theorem zbp_120 : (Int8.ofInt (120)).toInt32 = 120 := by decide
theorem zbp_121 : (Int8.ofInt (121)).toInt32 = 121 := by decide
theorem zbp_14 : (Int8.ofInt (14)).toInt32 = 14 := by decide
theorem zbp_18 : (Int8.ofInt (18)).toInt32 = 18 := by decide
theorem zbp_19 : (Int8.ofInt (19)).toInt32 = 19 := by decide
theorem zbp_20 : (Int8.ofInt (20)).toInt32 = 20 := by decide
theorem zbp_21 : (Int8.ofInt (21)).toInt32 = 21 := by decide
theorem zbp_22 : (Int8.ofInt (22)).toInt32 = 22 := by decide
theorem zbp_23 : (Int8.ofInt (23)).toInt32 = 23 := by decide
theorem zbp_25 : (Int8.ofInt (25)).toInt32 = 25 := by decide
theorem zbp_26 : (Int8.ofInt (26)).toInt32 = 26 := by decide
theorem zbp_27 : (Int8.ofInt (27)).toInt32 = 27 := by decide
theorem zbp_28 : (Int8.ofInt (28)).toInt32 = 28 := by decide
theorem zbp_29 : (Int8.ofInt (29)).toInt32 = 29 := by decide
theorem zbp_33 : (Int8.ofInt (33)).toInt32 = 33 := by decide
theorem zbp_34 : (Int8.ofInt (34)).toInt32 = 34 := by decide
theorem zbp_35 : (Int8.ofInt (35)).toInt32 = 35 := by decide
theorem zbp_36 : (Int8.ofInt (36)).toInt32 = 36 := by decide
theorem zbp_37 : (Int8.ofInt (37)).toInt32 = 37 := by decide
theorem zbp_38 : (Int8.ofInt (38)).toInt32 = 38 := by decide
theorem zbp_39 : (Int8.ofInt (39)).toInt32 = 39 := by decide
theorem zbp_41 : (Int8.ofInt (41)).toInt32 = 41 := by decide
theorem zbp_42 : (Int8.ofInt (42)).toInt32 = 42 := by decide
theorem zbp_43 : (Int8.ofInt (43)).toInt32 = 43 := by decide
theorem zbp_44 : (Int8.ofInt (44)).toInt32 = 44 := by decide
theorem zbp_45 : (Int8.ofInt (45)).toInt32 = 45 := by decide
theorem zbp_46 : (Int8.ofInt (46)).toInt32 = 46 := by decide
theorem zbp_47 : (Int8.ofInt (47)).toInt32 = 47 := by decide
theorem zbp_98 : (Int8.ofInt (98)).toInt32 = 98 := by decide
theorem zsp_11264 : (Int16.ofInt (11264)).toInt32 = 11264 := by decide
theorem zsp_256 : (Int16.ofInt (256)).toInt32 = 256 := by decide
theorem zsp_660 : (Int16.ofInt (660)).toInt32 = 660 := by decide
theorem ff_X0_15 : zFf RX0 15 0 1 := ⟨_, tyX0, tyX0 1, rfl, by decide, zinX0, zmem 357 (by decide +kernel) rfl, tyX0_ok, nmX0, rfl, rfl, by decide +kernel, fun _ => ⟨rfl, rfl⟩⟩
theorem ff_X0_9 : zFf RX0 9 0 0 := ⟨_, tyX0, tyX0 0, rfl, by decide, zinX0, zmem 356 (by decide +kernel) rfl, tyX0_ok, nmX0, rfl, rfl, by decide +kernel, fun _ => ⟨rfl, rfl⟩⟩
theorem ff_X1_15 : zFf RX1 15 1 2 := ⟨_, tyX1, tyX1 2, rfl, by decide, zinX1, zmem 371 (by decide +kernel) rfl, tyX1_ok, nmX1, rfl, rfl, by decide +kernel, fun _ => ⟨rfl, rfl⟩⟩
theorem ff_X1_19 : zFf RX1 19 1 3 := ⟨_, tyX1, tyX1 3, rfl, by decide, zinX1, zmem 372 (by decide +kernel) rfl, tyX1_ok, nmX1, rfl, rfl, by decide +kernel, fun _ => ⟨rfl, rfl⟩⟩
theorem ff_X1_9 : zFf RX1 9 1 1 := ⟨_, tyX1, tyX1 1, rfl, by decide, zinX1, zmem 370 (by decide +kernel) rfl, tyX1_ok, nmX1, rfl, rfl, by decide +kernel, fun _ => ⟨rfl, rfl⟩⟩
theorem ff_X10_12 : zFf RX10 12 10 0 := ⟨_, tyX10, tyX10 0, rfl, by decide, zinX10, zmem 383 (by decide +kernel) rfl, tyX10_ok, nmX10, rfl, rfl, by decide +kernel, fun _ => ⟨rfl, rfl⟩⟩
theorem ff_X10_16 : zFf RX10 16 10 1 := ⟨_, tyX10, tyX10 1, rfl, by decide, zinX10, zmem 384 (by decide +kernel) rfl, tyX10_ok, nmX10, rfl, rfl, by decide +kernel, fun _ => ⟨rfl, rfl⟩⟩
theorem ff_X10_23 : zFf RX10 23 10 2 := ⟨_, tyX10, tyX10 2, rfl, by decide, zinX10, zmem 385 (by decide +kernel) rfl, tyX10_ok, nmX10, rfl, rfl, by decide +kernel, fun _ => ⟨rfl, rfl⟩⟩
theorem ff_X10_30 : zFf RX10 30 10 3 := ⟨_, tyX10, tyX10 3, rfl, by decide, zinX10, zmem 386 (by decide +kernel) rfl, tyX10_ok, nmX10, rfl, rfl, by decide +kernel, fun _ => ⟨rfl, rfl⟩⟩
theorem ff_X10_37 : zFf RX10 37 10 4 := ⟨_, tyX10, tyX10 4, rfl, by decide, zinX10, zmem 387 (by decide +kernel) rfl, tyX10_ok, nmX10, rfl, rfl, by decide +kernel, fun _ => ⟨rfl, rfl⟩⟩
theorem ff_X10_44 : zFf RX10 44 10 5 := ⟨_, tyX10, tyX10 5, rfl, by decide, zinX10, zmem 388 (by decide +kernel) rfl, tyX10_ok, nmX10, rfl, rfl, by decide +kernel, fun _ => ⟨rfl, rfl⟩⟩
theorem ff_X10_53 : zFf RX10 53 10 6 := ⟨_, tyX10, tyX10 6, rfl, by decide, zinX10, zmem 389 (by decide +kernel) rfl, tyX10_ok, nmX10, rfl, rfl, by decide +kernel, fun _ => ⟨rfl, rfl⟩⟩
theorem ff_X10_60 : zFf RX10 60 10 7 := ⟨_, tyX10, tyX10 7, rfl, by decide, zinX10, zmem 390 (by decide +kernel) rfl, tyX10_ok, nmX10, rfl, rfl, by decide +kernel, fun _ => ⟨rfl, rfl⟩⟩
theorem ff_X10_67 : zFf RX10 67 10 8 := ⟨_, tyX10, tyX10 8, rfl, by decide, zinX10, zmem 391 (by decide +kernel) rfl, tyX10_ok, nmX10, rfl, rfl, by decide +kernel, fun _ => ⟨rfl, rfl⟩⟩
theorem ff_X10_71 : zFf RX10 71 10 9 := ⟨_, tyX10, tyX10 9, rfl, by decide, zinX10, zmem 392 (by decide +kernel) rfl, tyX10_ok, nmX10, rfl, rfl, by decide +kernel, fun _ => ⟨rfl, rfl⟩⟩
theorem ff_X10_75 : zFf RX10 75 10 10 := ⟨_, tyX10, tyX10 10, rfl, by decide, zinX10, zmem 393 (by decide +kernel) rfl, tyX10_ok, nmX10, rfl, rfl, by decide +kernel, fun _ => ⟨rfl, rfl⟩⟩
theorem ff_X11_13 : zFf RX11 13 11 9 := ⟨_, tyX11, tyX11 9, rfl, by decide, zinX11, zmem 1170 (by decide +kernel) rfl, tyX11_ok, nmX11, rfl, rfl, by decide +kernel, fun _ => ⟨rfl, rfl⟩⟩
theorem ff_X11_16 : zFf RX11 16 11 10 := ⟨_, tyX11, tyX11 10, rfl, by decide, zinX11, zmem 1171 (by decide +kernel) rfl, tyX11_ok, nmX11, rfl, rfl, by decide +kernel, fun _ => ⟨rfl, rfl⟩⟩
theorem ff_X11_19 : zFf RX11 19 11 11 := ⟨_, tyX11, tyX11 11, rfl, by decide, zinX11, zmem 1172 (by decide +kernel) rfl, tyX11_ok, nmX11, rfl, rfl, by decide +kernel, fun _ => ⟨rfl, rfl⟩⟩
theorem ff_X11_22 : zFf RX11 22 11 12 := ⟨_, tyX11, tyX11 12, rfl, by decide, zinX11, zmem 1173 (by decide +kernel) rfl, tyX11_ok, nmX11, rfl, rfl, by decide +kernel, fun _ => ⟨rfl, rfl⟩⟩
theorem ff_X11_25 : zFf RX11 25 11 13 := ⟨_, tyX11, tyX11 13, rfl, by decide, zinX11, zmem 1174 (by decide +kernel) rfl, tyX11_ok, nmX11, rfl, rfl, by decide +kernel, fun _ => ⟨rfl, rfl⟩⟩
theorem ff_X11_28 : zFf RX11 28 11 14 := ⟨_, tyX11, tyX11 14, rfl, by decide, zinX11, zmem 1175 (by decide +kernel) rfl, tyX11_ok, nmX11, rfl, rfl, by decide +kernel, fun _ => ⟨rfl, rfl⟩⟩
theorem ff_X11_31 : zFf RX11 31 11 16 := ⟨_, tyX11, tyX11 16, rfl, by decide, zinX11, zmem 1177 (by decide +kernel) rfl, tyX11_ok, nmX11, rfl, rfl, by decide +kernel, fun _ => ⟨rfl, rfl⟩⟩
theorem ff_X11_34 : zFf RX11 34 11 17 := ⟨_, tyX11, tyX11 17, rfl, by decide, zinX11, zmem 1178 (by decide +kernel) rfl, tyX11_ok, nmX11, rfl, rfl, by decide +kernel, fun _ => ⟨rfl, rfl⟩⟩
theorem ff_X11_37 : zFf RX11 37 11 18 := ⟨_, tyX11, tyX11 18, rfl, by decide, zinX11, zmem 1179 (by decide +kernel) rfl, tyX11_ok, nmX11, rfl, rfl, by decide +kernel, fun _ => ⟨rfl, rfl⟩⟩
theorem ff_X11_40 : zFf RX11 40 11 19 := ⟨_, tyX11, tyX11 19, rfl, by decide, zinX11, zmem 1180 (by decide +kernel) rfl, tyX11_ok, nmX11, rfl, rfl, by decide +kernel, fun _ => ⟨rfl, rfl⟩⟩
theorem ff_X11_44 : zFf RX11 44 11 20 := ⟨_, tyX11, tyX11 20, rfl, by decide, zinX11, zmem 1181 (by decide +kernel) rfl, tyX11_ok, nmX11, rfl, rfl, by decide +kernel, fun _ => ⟨rfl, rfl⟩⟩
theorem ff_X11_47 : zFf RX11 47 11 21 := ⟨_, tyX11, tyX11 21, rfl, by decide, zinX11, zmem 1182 (by decide +kernel) rfl, tyX11_ok, nmX11, rfl, rfl, by decide +kernel, fun _ => ⟨rfl, rfl⟩⟩
theorem ff_X11_50 : zFf RX11 50 11 22 := ⟨_, tyX11, tyX11 22, rfl, by decide, zinX11, zmem 1183 (by decide +kernel) rfl, tyX11_ok, nmX11, rfl, rfl, by decide +kernel, fun _ => ⟨rfl, rfl⟩⟩
theorem ff_X11_53 : zFf RX11 53 11 23 := ⟨_, tyX11, tyX11 23, rfl, by decide, zinX11, zmem 1184 (by decide +kernel) rfl, tyX11_ok, nmX11, rfl, rfl, by decide +kernel, fun _ => ⟨rfl, rfl⟩⟩
theorem ff_X11_56 : zFf RX11 56 11 24 := ⟨_, tyX11, tyX11 24, rfl, by decide, zinX11, zmem 1185 (by decide +kernel) rfl, tyX11_ok, nmX11, rfl, rfl, by decide +kernel, fun _ => ⟨rfl, rfl⟩⟩
theorem ff_X11_59 : zFf RX11 59 11 25 := ⟨_, tyX11, tyX11 25, rfl, by decide, zinX11, zmem 1186 (by decide +kernel) rfl, tyX11_ok, nmX11, rfl, rfl, by decide +kernel, fun _ => ⟨rfl, rfl⟩⟩
theorem ff_X11_62 : zFf RX11 62 11 26 := ⟨_, tyX11, tyX11 26, rfl, by decide, zinX11, zmem 1187 (by decide +kernel) rfl, tyX11_ok, nmX11, rfl, rfl, by decide +kernel, fun _ => ⟨rfl, rfl⟩⟩
theorem ff_X11_65 : zFf RX11 65 11 27 := ⟨_, tyX11, tyX11 27, rfl, by decide, zinX11, zmem 1188 (by decide +kernel) rfl, tyX11_ok, nmX11, rfl, rfl, by decide +kernel, fun _ => ⟨rfl, rfl⟩⟩
theorem ff_X11_69 : zFf RX11 69 11 28 := ⟨_, tyX11, tyX11 28, rfl, by decide, zinX11, zmem 1189 (by decide +kernel) rfl, tyX11_ok, nmX11, rfl, rfl, by decide +kernel, fun _ => ⟨rfl, rfl⟩⟩
theorem ff_X11_7 : zFf RX11 7 11 0 := ⟨_, tyX11, tyX11 0, rfl, by decide, zinX11, zmem 1161 (by decide +kernel) rfl, tyX11_ok, nmX11, rfl, rfl, by decide +kernel, fun _ => ⟨rfl, rfl⟩⟩
theorem ff_X11_72 : zFf RX11 72 11 29 := ⟨_, tyX11, tyX11 29, rfl, by decide, zinX11, zmem 1190 (by decide +kernel) rfl, tyX11_ok, nmX11, rfl, rfl, by decide +kernel, fun _ => ⟨rfl, rfl⟩⟩
theorem ff_X11_75 : zFf RX11 75 11 30 := ⟨_, tyX11, tyX11 30, rfl, by decide, zinX11, zmem 1191 (by decide +kernel) rfl, tyX11_ok, nmX11, rfl, rfl, by decide +kernel, fun _ => ⟨rfl, rfl⟩⟩
theorem ff_X11_78 : zFf RX11 78 11 31 := ⟨_, tyX11, tyX11 31, rfl, by decide, zinX11, zmem 1192 (by decide +kernel) rfl, tyX11_ok, nmX11, rfl, rfl, by decide +kernel, fun _ => ⟨rfl, rfl⟩⟩
theorem ff_X2_15 : zFf RX2 15 2 2 := ⟨_, tyX2, tyX2 2, rfl, by decide, zinX2, zmem 133 (by decide +kernel) rfl, tyX2_ok, nmX2, rfl, rfl, by decide +kernel, fun _ => ⟨rfl, rfl⟩⟩
theorem ff_X2_18 : zFf RX2 18 2 3 := ⟨_, tyX2, tyX2 3, rfl, by decide, zinX2, zmem 136 (by decide +kernel) rfl, tyX2_ok, nmX2, rfl, rfl, by decide +kernel, fun _ => ⟨rfl, rfl⟩⟩
theorem ff_X2_9 : zFf RX2 9 2 1 := ⟨_, tyX2, tyX2 1, rfl, by decide, zinX2, zmem 130 (by decide +kernel) rfl, tyX2_ok, nmX2, rfl, rfl, by decide +kernel, fun _ => ⟨rfl, rfl⟩⟩
theorem ff_X3_15 : zFf RX3 15 3 3 := ⟨_, tyX3, tyX3 3, rfl, by decide, zinX3, zmem 315 (by decide +kernel) rfl, tyX3_ok, nmX3, rfl, rfl, by decide +kernel, fun _ => ⟨rfl, rfl⟩⟩
theorem ff_X3_18 : zFf RX3 18 3 4 := ⟨_, tyX3, tyX3 4, rfl, by decide, zinX3, zmem 316 (by decide +kernel) rfl, tyX3_ok, nmX3, rfl, rfl, by decide +kernel, fun _ => ⟨rfl, rfl⟩⟩
theorem ff_X3_21 : zFf RX3 21 3 5 := ⟨_, tyX3, tyX3 5, rfl, by decide, zinX3, zmem 317 (by decide +kernel) rfl, tyX3_ok, nmX3, rfl, rfl, by decide +kernel, fun _ => ⟨rfl, rfl⟩⟩
theorem ff_X3_24 : zFf RX3 24 3 6 := ⟨_, tyX3, tyX3 6, rfl, by decide, zinX3, zmem 318 (by decide +kernel) rfl, tyX3_ok, nmX3, rfl, rfl, by decide +kernel, fun _ => ⟨rfl, rfl⟩⟩
theorem ff_X3_28 : zFf RX3 28 3 7 := ⟨_, tyX3, tyX3 7, rfl, by decide, zinX3, zmem 319 (by decide +kernel) rfl, tyX3_ok, nmX3, rfl, rfl, by decide +kernel, fun _ => ⟨rfl, rfl⟩⟩
theorem ff_X3_9 : zFf RX3 9 3 2 := ⟨_, tyX3, tyX3 2, rfl, by decide, zinX3, zmem 314 (by decide +kernel) rfl, tyX3_ok, nmX3, rfl, rfl, by decide +kernel, fun _ => ⟨rfl, rfl⟩⟩
theorem ff_X4_12 : zFf RX4 12 4 1 := ⟨_, tyX4, tyX4 1, rfl, by decide, zinX4, zmem 340 (by decide +kernel) rfl, tyX4_ok, nmX4, rfl, rfl, by decide +kernel, fun _ => ⟨rfl, rfl⟩⟩
theorem ff_X4_18 : zFf RX4 18 4 2 := ⟨_, tyX4, tyX4 2, rfl, by decide, zinX4, zmem 341 (by decide +kernel) rfl, tyX4_ok, nmX4, rfl, rfl, by decide +kernel, fun _ => ⟨rfl, rfl⟩⟩
theorem ff_X4_22 : zFf RX4 22 4 0 := ⟨_, tyX4, tyX4 0, rfl, by decide, zinX4, zmem 339 (by decide +kernel) rfl, tyX4_ok, nmX4, rfl, rfl, by decide +kernel, fun _ => ⟨rfl, rfl⟩⟩
theorem ff_X5_15 : zFf RX5 15 5 5 := ⟨_, tyX5, tyX5 5, rfl, by decide, zinX5, zmem 286 (by decide +kernel) rfl, tyX5_ok, nmX5, rfl, rfl, by decide +kernel, fun _ => ⟨rfl, rfl⟩⟩
theorem ff_X5_9 : zFf RX5 9 5 4 := ⟨_, tyX5, tyX5 4, rfl, by decide, zinX5, zmem 285 (by decide +kernel) rfl, tyX5_ok, nmX5, rfl, rfl, by decide +kernel, fun _ => ⟨rfl, rfl⟩⟩
theorem ff_X6_15 : zFf RX6 15 6 1 := ⟨_, tyX6, tyX6 1, rfl, by decide, zinX6, zmem 172 (by decide +kernel) rfl, tyX6_ok, nmX6, rfl, rfl, by decide +kernel, fun _ => ⟨rfl, rfl⟩⟩
theorem ff_X6_9 : zFf RX6 9 6 0 := ⟨_, tyX6, tyX6 0, rfl, by decide, zinX6, zmem 168 (by decide +kernel) rfl, tyX6_ok, nmX6, rfl, rfl, by decide +kernel, fun _ => ⟨rfl, rfl⟩⟩
theorem ff_X7_12 : zFf RX7 12 7 0 := ⟨_, tyX7, tyX7 0, rfl, by decide, zinX7, zmem 181 (by decide +kernel) rfl, tyX7_ok, nmX7, rfl, rfl, by decide +kernel, fun _ => ⟨rfl, rfl⟩⟩
theorem ff_X7_18 : zFf RX7 18 7 1 := ⟨_, tyX7, tyX7 1, rfl, by decide, zinX7, zmem 184 (by decide +kernel) rfl, tyX7_ok, nmX7, rfl, rfl, by decide +kernel, fun _ => ⟨rfl, rfl⟩⟩
theorem ff_X7_24 : zFf RX7 24 7 2 := ⟨_, tyX7, tyX7 2, rfl, by decide, zinX7, zmem 187 (by decide +kernel) rfl, tyX7_ok, nmX7, rfl, rfl, by decide +kernel, fun _ => ⟨rfl, rfl⟩⟩
theorem ff_X7_28 : zFf RX7 28 7 3 := ⟨_, tyX7, tyX7 3, rfl, by decide, zinX7, zmem 190 (by decide +kernel) rfl, tyX7_ok, nmX7, rfl, rfl, by decide +kernel, fun _ => ⟨rfl, rfl⟩⟩
theorem ff_X8_11 : zFf RX8 11 8 3 := ⟨_, tyX8, tyX8 3, rfl, by decide, zinX8, zmem 217 (by decide +kernel) rfl, tyX8_ok, nmX8, rfl, rfl, by decide +kernel, fun _ => ⟨rfl, rfl⟩⟩
theorem ff_X9_11 : zFf RX9 11 9 0 := ⟨_, tyX9, tyX9 0, rfl, by decide, zinX9, zmem 234 (by decide +kernel) rfl, tyX9_ok, nmX9, rfl, rfl, by decide +kernel, fun _ => ⟨rfl, rfl⟩⟩
theorem fg_X10_44 : zFl RX10 44 10 5 := ⟨_, rfl, by decide, zinX10, zmem 388 (by decide +kernel) rfl⟩
theorem fg_X4_18 : zFl RX4 18 4 2 := ⟨_, rfl, by decide, zinX4, zmem 341 (by decide +kernel) rfl⟩
theorem fg_X7_28 : zFl RX7 28 7 3 := ⟨_, rfl, by decide, zinX7, zmem 190 (by decide +kernel) rfl⟩
theorem fq_X10_78 : zFp RX10 78 10 11 .int := ⟨_, tyX10, rfl, by decide, zinX10, zmem 394 (by decide +kernel) rfl, tyX10_ok, nmX10, rfl, by decide +kernel⟩
set_option maxRecDepth 20000 in
theorem lkk_X11_init : zLk mX11_init 0 := ⟨zmem 100 (by decide +kernel) rfl, zmem 1159 (by rfl) rfl, by decide, by decide, by decide +kernel⟩
theorem li_L_12 : zLi RL 12 mX11_init 0 := ⟨lkk_X11_init, zmem 1157 (by decide +kernel) rfl, zmem 1158 (by decide +kernel) rfl, rfl⟩
theorem lkk_X10_init : zLk mX10_init 0 := ⟨zmem 87 (by decide +kernel) rfl, zmem 111 (by decide +kernel) rfl, by decide, by decide, by decide +kernel⟩
theorem li_L_9 : zLi RL 9 mX10_init 0 := ⟨lkk_X10_init, zmem 109 (by decide +kernel) rfl, zmem 110 (by decide +kernel) rfl, rfl⟩
theorem lkk_X7_init : zLk mX7_init 0 := ⟨zmem 88 (by decide +kernel) rfl, zmem 119 (by decide +kernel) rfl, by decide, by decide, by decide +kernel⟩
theorem li_X10_11 : zLi RX10 11 mX7_init 0 := ⟨lkk_X7_init, zmem 117 (by decide +kernel) rfl, zmem 118 (by decide +kernel) rfl, rfl⟩
theorem lkk_X6_init : zLk mX6_init 0 := ⟨zmem 90 (by decide +kernel) rfl, zmem 154 (by decide +kernel) rfl, by decide, by decide, by decide +kernel⟩
theorem li_X10_36 : zLi RX10 36 mX6_init 0 := ⟨lkk_X6_init, zmem 266 (by decide +kernel) rfl, zmem 153 (by decide +kernel) rfl, rfl⟩
theorem lkk_X4_init : zLk mX4_init 1 := ⟨zmem 96 (by decide +kernel) rfl, zmem 304 (by decide +kernel) rfl, by decide, by decide, by decide +kernel⟩
theorem li_X10_50 : zLi RX10 50 mX4_init 1 := ⟨lkk_X4_init, zmem 302 (by decide +kernel) rfl, zmem 303 (by decide +kernel) rfl, rfl⟩
theorem li_X7_23 : zLi RX7 23 mX6_init 0 := ⟨lkk_X6_init, zmem 152 (by decide +kernel) rfl, zmem 153 (by decide +kernel) rfl, rfl⟩
theorem lkk_X8_init : zLk mX8_init 0 := ⟨zmem 93 (by decide +kernel) rfl, zmem 210 (by decide +kernel) rfl, by decide, by decide, by decide +kernel⟩
theorem li_X10_22 : zLin RX10 22 mX8_init 0 := ⟨lkk_X8_init, by simp [zNi], zmem 209 (by decide +kernel) rfl, rfl⟩
theorem lkk_X9_init : zLk mX9_init 0 := ⟨zmem 94 (by decide +kernel) rfl, zmem 232 (by decide +kernel) rfl, by decide, by decide, by decide +kernel⟩
theorem li_X10_29 : zLin RX10 29 mX9_init 0 := ⟨lkk_X9_init, by simp [zNi], zmem 231 (by decide +kernel) rfl, rfl⟩
theorem lkk_X5_init : zLk mX5_init 0 := ⟨zmem 95 (by decide +kernel) rfl, zmem 271 (by decide +kernel) rfl, by decide, by decide, by decide +kernel⟩
theorem li_X10_43 : zLin RX10 43 mX5_init 0 := ⟨lkk_X5_init, by simp [zNi], zmem 270 (by decide +kernel) rfl, rfl⟩
theorem lkk_X0_init : zLk mX0_init 0 := ⟨zmem 98 (by decide +kernel) rfl, zmem 354 (by decide +kernel) rfl, by decide, by decide, by decide +kernel⟩
theorem li_X10_59 : zLin RX10 59 mX0_init 0 := ⟨lkk_X0_init, by simp [zNi], zmem 353 (by decide +kernel) rfl, rfl⟩
theorem lkk_X1_init : zLk mX1_init 0 := ⟨zmem 99 (by decide +kernel) rfl, zmem 367 (by decide +kernel) rfl, by decide, by decide, by decide +kernel⟩
theorem li_X10_66 : zLin RX10 66 mX1_init 0 := ⟨lkk_X1_init, by simp [zNi], zmem 366 (by decide +kernel) rfl, rfl⟩
theorem lkk_X3_init : zLk mX3_init 0 := ⟨zmem 97 (by decide +kernel) rfl, zmem 310 (by decide +kernel) rfl, by decide, by decide, by decide +kernel⟩
theorem li_X4_11 : zLin RX4 11 mX3_init 0 := ⟨lkk_X3_init, by simp [zNi], zmem 309 (by decide +kernel) rfl, rfl⟩
theorem lkk_X2_init : zLk mX2_init 0 := ⟨zmem 89 (by decide +kernel) rfl, zmem 125 (by decide +kernel) rfl, by decide, by decide, by decide +kernel⟩
theorem li_X7_11 : zLin RX7 11 mX2_init 0 := ⟨lkk_X2_init, by simp [zNi], zmem 124 (by decide +kernel) rfl, rfl⟩
theorem ncl_L_10 : Cond.classLink RL 10 RX11 ∈ zT := zmem 1155 (by decide +kernel) rfl
theorem ninst_X11 : Cond.instantiable RX11 33 ∈ zT := zmem 1156 (by decide +kernel) rfl
theorem ninit_X11 : Cond.initialized RX11 ∈ zT := zmem 100 (by decide +kernel) rfl
theorem ndef_X11 : ∀ j, j < 33 → defaultValue (tyX11 j) = vp_V [.null, .int 0, .int 0, .int 0, .int 0, .int 0, .int 0, .int 0, .int 0, .null, .null, .null, .null, .null, .null, .int 0, .null, .null, .null, .null, .null, .null, .null, .null, .null, .null, .null, .null, .null, .null, .null, .null, .int 0] j := by decide +kernel
theorem ncl_L_7 : Cond.classLink RL 7 RX10 ∈ zT := zmem 107 (by decide +kernel) rfl
theorem ninst_X10 : Cond.instantiable RX10 12 ∈ zT := zmem 108 (by decide +kernel) rfl
theorem ninit_X10 : Cond.initialized RX10 ∈ zT := zmem 87 (by decide +kernel) rfl
theorem ndef_X10 : ∀ j, j < 12 → defaultValue (tyX10 j) = vp_V [.null, .null, .null, .null, .null, .null, .null, .null, .null, .null, .null, .int 0] j := by decide +kernel
theorem ninst_X8 : Cond.instantiable RX8 4 ∈ zT := zmem 207 (by decide +kernel) rfl
theorem ninit_X8 : Cond.initialized RX8 ∈ zT := zmem 93 (by decide +kernel) rfl
theorem ndef_X8 : ∀ j, j < 4 → defaultValue (tyX8 j) = vp_V [.int 0, .int 0, .int 0, .null] j := by decide +kernel
theorem ncl_X10_27 : Cond.classLink RX10 27 RX9 ∈ zT := zmem 228 (by decide +kernel) rfl
theorem ninst_X9 : Cond.instantiable RX9 9 ∈ zT := zmem 229 (by decide +kernel) rfl
theorem ninit_X9 : Cond.initialized RX9 ∈ zT := zmem 94 (by decide +kernel) rfl
theorem ndef_X9 : ∀ j, j < 9 → defaultValue (tyX9 j) = vp_V [.null, .int 0, .int 0, .int 0, .int 0, .int 0, .int 0, .int 0, .int 0] j := by decide +kernel
theorem ncl_X10_34 : Cond.classLink RX10 34 RX6 ∈ zT := zmem 265 (by decide +kernel) rfl
theorem ninst_X6 : Cond.instantiable RX6 2 ∈ zT := zmem 151 (by decide +kernel) rfl
theorem ninit_X6 : Cond.initialized RX6 ∈ zT := zmem 90 (by decide +kernel) rfl
theorem ndef_X6 : ∀ j, j < 2 → defaultValue (tyX6 j) = vp_V [.null, .null] j := by decide +kernel
theorem ncl_X10_41 : Cond.classLink RX10 41 RX5 ∈ zT := zmem 267 (by decide +kernel) rfl
theorem ninst_X5 : Cond.instantiable RX5 6 ∈ zT := zmem 268 (by decide +kernel) rfl
theorem ninit_X5 : Cond.initialized RX5 ∈ zT := zmem 95 (by decide +kernel) rfl
theorem ndef_X5 : ∀ j, j < 6 → defaultValue (tyX5 j) = vp_V [.int 0, .int 0, .int 0, .int 0, .null, .null] j := by decide +kernel
theorem ncl_X10_48 : Cond.classLink RX10 48 RX4 ∈ zT := zmem 300 (by decide +kernel) rfl
theorem ninst_X4 : Cond.instantiable RX4 3 ∈ zT := zmem 301 (by decide +kernel) rfl
theorem ninit_X4 : Cond.initialized RX4 ∈ zT := zmem 96 (by decide +kernel) rfl
theorem ndef_X4 : ∀ j, j < 3 → defaultValue (tyX4 j) = vp_V [.null, .null, .null] j := by decide +kernel
theorem ncl_X10_57 : Cond.classLink RX10 57 RX0 ∈ zT := zmem 350 (by decide +kernel) rfl
theorem ninst_X0 : Cond.instantiable RX0 2 ∈ zT := zmem 351 (by decide +kernel) rfl
theorem ninit_X0 : Cond.initialized RX0 ∈ zT := zmem 98 (by decide +kernel) rfl
theorem ndef_X0 : ∀ j, j < 2 → defaultValue (tyX0 j) = vp_V [.null, .null] j := by decide +kernel
theorem ncl_X10_64 : Cond.classLink RX10 64 RX1 ∈ zT := zmem 363 (by decide +kernel) rfl
theorem ninst_X1 : Cond.instantiable RX1 4 ∈ zT := zmem 364 (by decide +kernel) rfl
theorem ninit_X1 : Cond.initialized RX1 ∈ zT := zmem 99 (by decide +kernel) rfl
theorem ndef_X1 : ∀ j, j < 4 → defaultValue (tyX1 j) = vp_V [.int 0, .null, .null, .null] j := by decide +kernel
theorem ninst_X7 : Cond.instantiable RX7 5 ∈ zT := zmem 116 (by decide +kernel) rfl
theorem ninit_X7 : Cond.initialized RX7 ∈ zT := zmem 88 (by decide +kernel) rfl
theorem ndef_X7 : ∀ j, j < 5 → defaultValue (tyX7 j) = vp_V [.null, .null, .null, .null, .int 0] j := by decide +kernel
theorem ncl_X4_9 : Cond.classLink RX4 9 RX3 ∈ zT := zmem 306 (by decide +kernel) rfl
theorem ninst_X3 : Cond.instantiable RX3 8 ∈ zT := zmem 307 (by decide +kernel) rfl
theorem ninit_X3 : Cond.initialized RX3 ∈ zT := zmem 97 (by decide +kernel) rfl
theorem ndef_X3 : ∀ j, j < 8 → defaultValue (tyX3 j) = vp_V [.int 0, .int 0, .null, .null, .null, .null, .null, .null] j := by decide +kernel
theorem ncl_X7_21 : Cond.classLink RX7 21 RX6 ∈ zT := zmem 150 (by decide +kernel) rfl
theorem ncl_X7_9 : Cond.classLink RX7 9 RX2 ∈ zT := zmem 121 (by decide +kernel) rfl
theorem ninst_X2 : Cond.instantiable RX2 4 ∈ zT := zmem 122 (by decide +kernel) rfl
theorem ninit_X2 : Cond.initialized RX2 ∈ zT := zmem 89 (by decide +kernel) rfl
theorem ndef_X2 : ∀ j, j < 4 → defaultValue (tyX2 j) = vp_V [.int 0, .null, .null, .null] j := by decide +kernel
theorem nob_X0_3 : Cond.methodLink RX0 3 Lib.objectInit ∈ zT := zmem 355 (by decide +kernel) rfl
theorem nob_X1_3 : Cond.methodLink RX1 3 Lib.objectInit ∈ zT := zmem 368 (by decide +kernel) rfl
theorem nob_X10_3 : Cond.methodLink RX10 3 Lib.objectInit ∈ zT := zmem 112 (by decide +kernel) rfl
theorem nob_X11_1 : Cond.methodLink RX11 1 Lib.objectInit ∈ zT := zmem 1160 (by decide +kernel) rfl
theorem nob_X2_3 : Cond.methodLink RX2 3 Lib.objectInit ∈ zT := zmem 126 (by decide +kernel) rfl
theorem nob_X3_3 : Cond.methodLink RX3 3 Lib.objectInit ∈ zT := zmem 311 (by decide +kernel) rfl
theorem nob_X4_3 : Cond.methodLink RX4 3 Lib.objectInit ∈ zT := zmem 305 (by decide +kernel) rfl
theorem nob_X5_3 : Cond.methodLink RX5 3 Lib.objectInit ∈ zT := zmem 272 (by decide +kernel) rfl
theorem nob_X6_3 : Cond.methodLink RX6 3 Lib.objectInit ∈ zT := zmem 155 (by decide +kernel) rfl
theorem nob_X7_3 : Cond.methodLink RX7 3 Lib.objectInit ∈ zT := zmem 120 (by decide +kernel) rfl
theorem nob_X8_3 : Cond.methodLink RX8 3 Lib.objectInit ∈ zT := zmem 211 (by decide +kernel) rfl
theorem nob_X9_3 : Cond.methodLink RX9 3 Lib.objectInit ∈ zT := zmem 233 (by decide +kernel) rfl
theorem lv_X4_26 : zLs RX4 26 mJ7_fill_53178 2 := ⟨lkk_J7_fill_53178, zmem 338 (by decide +kernel) rfl, zmem 166 (by decide +kernel) rfl⟩
theorem lv_X7_32 : zLs RX7 32 mJ7_fill_53178 2 := ⟨lkk_J7_fill_53178, zmem 180 (by decide +kernel) rfl, zmem 166 (by decide +kernel) rfl⟩
theorem lv_X6_18 : zLv RX6 18 mX6_setAsAtFirst 0 := ⟨lkk_X6_setAsAtFirst, zmem 156 (by decide +kernel) rfl, zmem 157 (by decide +kernel) rfl, zmem 158 (by decide +kernel) rfl⟩
theorem nob_i : Cond.instanceMethod Lib.objectInit ∈ zT := zmem 113 (by decide +kernel) rfl
theorem nob_c : Cond.code Lib.objectInit ⟨#[0xb1]⟩ 1 none ∈ zT := zmem 114 (by decide +kernel) rfl
def yy_0 : zY := []
def yy_1 : zY := yy_0 ++ [.inl (10, [some none, some none, some none, some none, some none, some none, some none, some none, some none, some none, some none, none])]
def yy_2 : zY := yy_1 ++ [.inl (7, [some none, some none, some none, some none, none])]
def yy_3 : zY := yy_2 ++ [.inl (2, [none, some none, some none, some none])]
def yy_4 : zY := yy_3 ++ [.inr (0, 10, [])]
def yy_5 : zY := yy_4.set 2 (.inl (2, [none, some (some 3), some none, some none]))
def yy_6 : zY := yy_5 ++ [.inr (0, 10, [])]
def yy_7 : zY := yy_6.set 2 (.inl (2, [none, some (some 3), some (some 4), some none]))
def yy_8 : zY := yy_7 ++ [.inr (0, 40, [])]
def yy_9 : zY := yy_8.set 2 (.inl (2, [none, some (some 3), some (some 4), some (some 5)]))
def yy_10 : zY := yy_9.set 1 (.inl (7, [some (some 2), some none, some none, some none, none]))
def yy_11 : zY := yy_10 ++ [.inl (2, [none, some none, some none, some none])]
def yy_12 : zY := yy_11 ++ [.inr (0, 10, [])]
def yy_13 : zY := yy_12.set 6 (.inl (2, [none, some (some 7), some none, some none]))
def yy_14 : zY := yy_13 ++ [.inr (0, 10, [])]
def yy_15 : zY := yy_14.set 6 (.inl (2, [none, some (some 7), some (some 8), some none]))
def yy_16 : zY := yy_15 ++ [.inr (0, 40, [])]
def yy_17 : zY := yy_16.set 6 (.inl (2, [none, some (some 7), some (some 8), some (some 9)]))
def yy_18 : zY := yy_17.set 1 (.inl (7, [some (some 2), some (some 6), some none, some none, none]))
def yy_19 : zY := yy_18 ++ [.inl (6, [some none, some none])]
def yy_20 : zY := yy_19 ++ [.inr (0, 10, [])]
def yy_21 : zY := yy_20.set 10 (.inl (6, [some (some 11), some none]))
def yy_22 : zY := yy_21 ++ [.inr (0, 64, [])]
def yy_23 : zY := yy_22.set 10 (.inl (6, [some (some 11), some (some 12)]))
def yy_24 : zY := yy_23.set 1 (.inl (7, [some (some 2), some (some 6), some (some 10), some none, none]))
def yy_25 : zY := yy_24 ++ [.inr (0, 10, [])]
def yy_26 : zY := yy_25.set 1 (.inl (7, [some (some 2), some (some 6), some (some 10), some (some 13), none]))
def yy_27 : zY := yy_26.set 0 (.inl (10, [some (some 1), some none, some none, some none, some none, some none, some none, some none, some none, some none, some none, none]))
def yy_28 : zY := yy_27 ++ [.inr (4, 2, List.replicate 2 none)]
def yy_29 : zY := yy_28 ++ [.inl (7, [some none, some none, some none, some none, none])]
def yy_30 : zY := yy_29 ++ [.inl (2, [none, some none, some none, some none])]
def yy_31 : zY := yy_30 ++ [.inr (0, 10, [])]
def yy_32 : zY := yy_31.set 16 (.inl (2, [none, some (some 17), some none, some none]))
def yy_33 : zY := yy_32 ++ [.inr (0, 10, [])]
def yy_34 : zY := yy_33.set 16 (.inl (2, [none, some (some 17), some (some 18), some none]))
def yy_35 : zY := yy_34 ++ [.inr (0, 40, [])]
def yy_36 : zY := yy_35.set 16 (.inl (2, [none, some (some 17), some (some 18), some (some 19)]))
def yy_37 : zY := yy_36.set 15 (.inl (7, [some (some 16), some none, some none, some none, none]))
def yy_38 : zY := yy_37 ++ [.inl (2, [none, some none, some none, some none])]
def yy_39 : zY := yy_38 ++ [.inr (0, 10, [])]
def yy_40 : zY := yy_39.set 20 (.inl (2, [none, some (some 21), some none, some none]))
def yy_41 : zY := yy_40 ++ [.inr (0, 10, [])]
def yy_42 : zY := yy_41.set 20 (.inl (2, [none, some (some 21), some (some 22), some none]))
def yy_43 : zY := yy_42 ++ [.inr (0, 40, [])]
def yy_44 : zY := yy_43.set 20 (.inl (2, [none, some (some 21), some (some 22), some (some 23)]))
def yy_45 : zY := yy_44.set 15 (.inl (7, [some (some 16), some (some 20), some none, some none, none]))
def yy_46 : zY := yy_45 ++ [.inl (6, [some none, some none])]
def yy_47 : zY := yy_46 ++ [.inr (0, 10, [])]
def yy_48 : zY := yy_47.set 24 (.inl (6, [some (some 25), some none]))
def yy_49 : zY := yy_48 ++ [.inr (0, 64, [])]
def yy_50 : zY := yy_49.set 24 (.inl (6, [some (some 25), some (some 26)]))
def yy_51 : zY := yy_50.set 15 (.inl (7, [some (some 16), some (some 20), some (some 24), some none, none]))
def yy_52 : zY := yy_51 ++ [.inr (0, 10, [])]
def yy_53 : zY := yy_52.set 15 (.inl (7, [some (some 16), some (some 20), some (some 24), some (some 27), none]))
def yy_54 : zY := yy_53.set 14 (.inr (4, 2, [some 15, none]))
def yy_55 : zY := yy_54 ++ [.inl (7, [some none, some none, some none, some none, none])]
def yy_56 : zY := yy_55 ++ [.inl (2, [none, some none, some none, some none])]
def yy_57 : zY := yy_56 ++ [.inr (0, 10, [])]
def yy_58 : zY := yy_57.set 29 (.inl (2, [none, some (some 30), some none, some none]))
def yy_59 : zY := yy_58 ++ [.inr (0, 10, [])]
def yy_60 : zY := yy_59.set 29 (.inl (2, [none, some (some 30), some (some 31), some none]))
def yy_61 : zY := yy_60 ++ [.inr (0, 40, [])]
def yy_62 : zY := yy_61.set 29 (.inl (2, [none, some (some 30), some (some 31), some (some 32)]))
def yy_63 : zY := yy_62.set 28 (.inl (7, [some (some 29), some none, some none, some none, none]))
def yy_64 : zY := yy_63 ++ [.inl (2, [none, some none, some none, some none])]
def yy_65 : zY := yy_64 ++ [.inr (0, 10, [])]
def yy_66 : zY := yy_65.set 33 (.inl (2, [none, some (some 34), some none, some none]))
def yy_67 : zY := yy_66 ++ [.inr (0, 10, [])]
def yy_68 : zY := yy_67.set 33 (.inl (2, [none, some (some 34), some (some 35), some none]))
def yy_69 : zY := yy_68 ++ [.inr (0, 40, [])]
def yy_70 : zY := yy_69.set 33 (.inl (2, [none, some (some 34), some (some 35), some (some 36)]))
def yy_71 : zY := yy_70.set 28 (.inl (7, [some (some 29), some (some 33), some none, some none, none]))
def yy_72 : zY := yy_71 ++ [.inl (6, [some none, some none])]
def yy_73 : zY := yy_72 ++ [.inr (0, 10, [])]
def yy_74 : zY := yy_73.set 37 (.inl (6, [some (some 38), some none]))
def yy_75 : zY := yy_74 ++ [.inr (0, 64, [])]
def yy_76 : zY := yy_75.set 37 (.inl (6, [some (some 38), some (some 39)]))
def yy_77 : zY := yy_76.set 28 (.inl (7, [some (some 29), some (some 33), some (some 37), some none, none]))
def yy_78 : zY := yy_77 ++ [.inr (0, 10, [])]
def yy_79 : zY := yy_78.set 28 (.inl (7, [some (some 29), some (some 33), some (some 37), some (some 40), none]))
def yy_80 : zY := yy_79.set 14 (.inr (4, 2, [some 15, some 28]))
def yy_81 : zY := yy_80.set 0 (.inl (10, [some (some 1), some (some 14), some none, some none, some none, some none, some none, some none, some none, some none, some none, none]))
def yy_82 : zY := yy_81 ++ [.inr (5, 4, List.replicate 4 none)]
def yy_83 : zY := yy_82 ++ [.inl (8, [none, none, none, some none])]
def yy_84 : zY := yy_83 ++ [.inr (0, 64, [])]
def yy_85 : zY := yy_84.set 42 (.inl (8, [none, none, none, some (some 43)]))
def yy_86 : zY := yy_85.set 41 (.inr (5, 4, [some 42, none, none, none]))
def yy_87 : zY := yy_86 ++ [.inl (8, [none, none, none, some none])]
def yy_88 : zY := yy_87 ++ [.inr (0, 64, [])]
def yy_89 : zY := yy_88.set 44 (.inl (8, [none, none, none, some (some 45)]))
def yy_90 : zY := yy_89.set 41 (.inr (5, 4, [some 42, some 44, none, none]))
def yy_91 : zY := yy_90 ++ [.inl (8, [none, none, none, some none])]
def yy_92 : zY := yy_91 ++ [.inr (0, 64, [])]
def yy_93 : zY := yy_92.set 46 (.inl (8, [none, none, none, some (some 47)]))
def yy_94 : zY := yy_93.set 41 (.inr (5, 4, [some 42, some 44, some 46, none]))
def yy_95 : zY := yy_94 ++ [.inl (8, [none, none, none, some none])]
def yy_96 : zY := yy_95 ++ [.inr (0, 64, [])]
def yy_97 : zY := yy_96.set 48 (.inl (8, [none, none, none, some (some 49)]))
def yy_98 : zY := yy_97.set 41 (.inr (5, 4, [some 42, some 44, some 46, some 48]))
def yy_99 : zY := yy_98.set 0 (.inl (10, [some (some 1), some (some 14), some (some 41), some none, some none, some none, some none, some none, some none, some none, some none, none]))
def yy_100 : zY := yy_99 ++ [.inl (9, [some none, none, none, none, none, none, none, none, none])]
def yy_101 : zY := yy_100 ++ [.inr (2, 320, [])]
def yy_102 : zY := yy_101.set 50 (.inl (9, [some (some 51), none, none, none, none, none, none, none, none]))
def yy_103 : zY := yy_102.set 0 (.inl (10, [some (some 1), some (some 14), some (some 41), some (some 50), some none, some none, some none, some none, some none, some none, some none, none]))
def yy_104 : zY := yy_103 ++ [.inl (6, [some none, some none])]
def yy_105 : zY := yy_104 ++ [.inr (0, 10, [])]
def yy_106 : zY := yy_105.set 52 (.inl (6, [some (some 53), some none]))
def yy_107 : zY := yy_106 ++ [.inr (0, 64, [])]
def yy_108 : zY := yy_107.set 52 (.inl (6, [some (some 53), some (some 54)]))
def yy_109 : zY := yy_108.set 0 (.inl (10, [some (some 1), some (some 14), some (some 41), some (some 50), some (some 52), some none, some none, some none, some none, some none, some none, none]))
def yy_110 : zY := yy_109 ++ [.inl (5, [none, none, none, none, some none, some none])]
def yy_111 : zY := yy_110 ++ [.inr (0, 100, [])]
def yy_112 : zY := yy_111.set 55 (.inl (5, [none, none, none, none, some (some 56), some none]))
def yy_113 : zY := yy_112 ++ [.inr (0, 100, [])]
def yy_114 : zY := yy_113.set 55 (.inl (5, [none, none, none, none, some (some 56), some (some 57)]))
def yy_115 : zY := yy_114.set 0 (.inl (10, [some (some 1), some (some 14), some (some 41), some (some 50), some (some 52), some (some 55), some none, some none, some none, some none, some none, none]))
def yy_116 : zY := yy_115 ++ [.inl (4, [some none, some none, some none])]
def yy_117 : zY := yy_116 ++ [.inl (3, [none, none, some none, some none, some none, some none, some none, some none])]
def yy_118 : zY := yy_117 ++ [.inr (1, 100, [])]
def yy_119 : zY := yy_118.set 59 (.inl (3, [none, none, some (some 60), some none, some none, some none, some none, some none]))
def yy_120 : zY := yy_119 ++ [.inr (1, 11, [])]
def yy_121 : zY := yy_120.set 59 (.inl (3, [none, none, some (some 60), some (some 61), some none, some none, some none, some none]))
def yy_122 : zY := yy_121 ++ [.inr (1, 11, [])]
def yy_123 : zY := yy_122.set 59 (.inl (3, [none, none, some (some 60), some (some 61), some (some 62), some none, some none, some none]))
def yy_124 : zY := yy_123 ++ [.inr (1, 11, [])]
def yy_125 : zY := yy_124.set 59 (.inl (3, [none, none, some (some 60), some (some 61), some (some 62), some (some 63), some none, some none]))
def yy_126 : zY := yy_125 ++ [.inr (0, 11, [])]
def yy_127 : zY := yy_126.set 59 (.inl (3, [none, none, some (some 60), some (some 61), some (some 62), some (some 63), some (some 64), some none]))
def yy_128 : zY := yy_127 ++ [.inr (0, 11, [])]
def yy_129 : zY := yy_128.set 59 (.inl (3, [none, none, some (some 60), some (some 61), some (some 62), some (some 63), some (some 64), some (some 65)]))
def yy_130 : zY := yy_129.set 58 (.inl (4, [some none, some (some 59), some none]))
def yy_131 : zY := yy_130 ++ [.inr (0, 10, [])]
def yy_132 : zY := yy_131.set 58 (.inl (4, [some none, some (some 59), some (some 66)]))
def yy_133 : zY := yy_132.set 58 (.inl (4, [some (some 55), some (some 59), some (some 66)]))
def yy_134 : zY := yy_133.set 0 (.inl (10, [some (some 1), some (some 14), some (some 41), some (some 50), some (some 52), some (some 55), some (some 58), some none, some none, some none, some none, none]))
def yy_135 : zY := yy_134 ++ [.inl (0, [some none, some none])]
def yy_136 : zY := yy_135 ++ [.inr (0, 1024, [])]
def yy_137 : zY := yy_136.set 67 (.inl (0, [some (some 68), some none]))
def yy_138 : zY := yy_137 ++ [.inr (0, 1024, [])]
def yy_139 : zY := yy_138.set 67 (.inl (0, [some (some 68), some (some 69)]))
def yy_140 : zY := yy_139.set 0 (.inl (10, [some (some 1), some (some 14), some (some 41), some (some 50), some (some 52), some (some 55), some (some 58), some (some 67), some none, some none, some none, none]))
def yy_141 : zY := yy_140 ++ [.inl (1, [none, some none, some none, some none])]
def yy_142 : zY := yy_141 ++ [.inr (0, 10, [])]
def yy_143 : zY := yy_142.set 70 (.inl (1, [none, some (some 71), some none, some none]))
def yy_144 : zY := yy_143 ++ [.inr (3, 1024, [])]
def yy_145 : zY := yy_144.set 70 (.inl (1, [none, some (some 71), some (some 72), some none]))
def yy_146 : zY := yy_145 ++ [.inr (0, 1024, [])]
def yy_147 : zY := yy_146.set 70 (.inl (1, [none, some (some 71), some (some 72), some (some 73)]))
def yy_148 : zY := yy_147.set 0 (.inl (10, [some (some 1), some (some 14), some (some 41), some (some 50), some (some 52), some (some 55), some (some 58), some (some 67), some (some 70), some none, some none, none]))
def yy_149 : zY := yy_148 ++ [.inr (0, 20, [])]
def yy_150 : zY := yy_149.set 0 (.inl (10, [some (some 1), some (some 14), some (some 41), some (some 50), some (some 52), some (some 55), some (some 58), some (some 67), some (some 70), some (some 74), some none, none]))
def yy_151 : zY := yy_150 ++ [.inr (0, 64, [])]
def yy_152 : zY := yy_151.set 0 (.inl (10, [some (some 1), some (some 14), some (some 41), some (some 50), some (some 52), some (some 55), some (some 58), some (some 67), some (some 70), some (some 74), some (some 75), none]))
def yy_153 : zY := yy_152 ++ [.inl (11, [some none, none, none, none, none, none, none, none, none, some none, some none, some none, some none, some none, some none, none, some none, some none, some none, some none, some none, some none, some none, some none, some none, some none, some none, some none, some none, some none, some none, some none, none])]
def yy_154 : zY := yy_153 ++ [.inr (0, 320, [])]
def yy_155 : zY := yy_154.set 76 (.inl (11, [some (some 77), none, none, none, none, none, none, none, none, some none, some none, some none, some none, some none, some none, none, some none, some none, some none, some none, some none, some none, some none, some none, some none, some none, some none, some none, some none, some none, some none, some none, none]))
def yy_156 : zY := yy_155 ++ [.inr (0, 10, [])]
def yy_157 : zY := yy_156.set 76 (.inl (11, [some (some 77), none, none, none, none, none, none, none, none, some (some 78), some none, some none, some none, some none, some none, none, some none, some none, some none, some none, some none, some none, some none, some none, some none, some none, some none, some none, some none, some none, some none, some none, none]))
def yy_158 : zY := yy_157 ++ [.inr (0, 47, [])]
def yy_159 : zY := yy_158.set 76 (.inl (11, [some (some 77), none, none, none, none, none, none, none, none, some (some 78), some (some 79), some none, some none, some none, some none, none, some none, some none, some none, some none, some none, some none, some none, some none, some none, some none, some none, some none, some none, some none, some none, some none, none]))
def yy_160 : zY := yy_159 ++ [.inr (0, 10, [])]
def yy_161 : zY := yy_160.set 76 (.inl (11, [some (some 77), none, none, none, none, none, none, none, none, some (some 78), some (some 79), some (some 80), some none, some none, some none, none, some none, some none, some none, some none, some none, some none, some none, some none, some none, some none, some none, some none, some none, some none, some none, some none, none]))
def yy_162 : zY := yy_161 ++ [.inr (0, 30, [])]
def yy_163 : zY := yy_162.set 76 (.inl (11, [some (some 77), none, none, none, none, none, none, none, none, some (some 78), some (some 79), some (some 80), some (some 81), some none, some none, none, some none, some none, some none, some none, some none, some none, some none, some none, some none, some none, some none, some none, some none, some none, some none, some none, none]))
def yy_164 : zY := yy_163 ++ [.inr (0, 10, [])]
def yy_165 : zY := yy_164.set 76 (.inl (11, [some (some 77), none, none, none, none, none, none, none, none, some (some 78), some (some 79), some (some 80), some (some 81), some (some 82), some none, none, some none, some none, some none, some none, some none, some none, some none, some none, some none, some none, some none, some none, some none, some none, some none, some none, none]))
def yy_166 : zY := yy_165 ++ [.inr (0, 64, [])]
def yy_167 : zY := yy_166.set 76 (.inl (11, [some (some 77), none, none, none, none, none, none, none, none, some (some 78), some (some 79), some (some 80), some (some 81), some (some 82), some (some 83), none, some none, some none, some none, some none, some none, some none, some none, some none, some none, some none, some none, some none, some none, some none, some none, some none, none]))
def yy_168 : zY := yy_167 ++ [.inr (0, 660, [])]
def yy_169 : zY := yy_168.set 76 (.inl (11, [some (some 77), none, none, none, none, none, none, none, none, some (some 78), some (some 79), some (some 80), some (some 81), some (some 82), some (some 83), none, some (some 84), some none, some none, some none, some none, some none, some none, some none, some none, some none, some none, some none, some none, some none, some none, some none, none]))
def yy_170 : zY := yy_169 ++ [.inr (0, 100, [])]
def yy_171 : zY := yy_170.set 76 (.inl (11, [some (some 77), none, none, none, none, none, none, none, none, some (some 78), some (some 79), some (some 80), some (some 81), some (some 82), some (some 83), none, some (some 84), some (some 85), some none, some none, some none, some none, some none, some none, some none, some none, some none, some none, some none, some none, some none, some none, none]))
def yy_172 : zY := yy_171 ++ [.inr (0, 11264, [])]
def yy_173 : zY := yy_172.set 76 (.inl (11, [some (some 77), none, none, none, none, none, none, none, none, some (some 78), some (some 79), some (some 80), some (some 81), some (some 82), some (some 83), none, some (some 84), some (some 85), some (some 86), some none, some none, some none, some none, some none, some none, some none, some none, some none, some none, some none, some none, some none, none]))
def yy_174 : zY := yy_173 ++ [.inr (1, 11264, [])]
def yy_175 : zY := yy_174.set 76 (.inl (11, [some (some 77), none, none, none, none, none, none, none, none, some (some 78), some (some 79), some (some 80), some (some 81), some (some 82), some (some 83), none, some (some 84), some (some 85), some (some 86), some (some 87), some none, some none, some none, some none, some none, some none, some none, some none, some none, some none, some none, some none, none]))
def yy_176 : zY := yy_175 ++ [.inr (1, 11264, [])]
def yy_177 : zY := yy_176.set 76 (.inl (11, [some (some 77), none, none, none, none, none, none, none, none, some (some 78), some (some 79), some (some 80), some (some 81), some (some 82), some (some 83), none, some (some 84), some (some 85), some (some 86), some (some 87), some (some 88), some none, some none, some none, some none, some none, some none, some none, some none, some none, some none, some none, none]))
def yy_178 : zY := yy_177 ++ [.inr (0, 11264, [])]
def yy_179 : zY := yy_178.set 76 (.inl (11, [some (some 77), none, none, none, none, none, none, none, none, some (some 78), some (some 79), some (some 80), some (some 81), some (some 82), some (some 83), none, some (some 84), some (some 85), some (some 86), some (some 87), some (some 88), some (some 89), some none, some none, some none, some none, some none, some none, some none, some none, some none, some none, none]))
def yy_180 : zY := yy_179 ++ [.inr (0, 11264, [])]
def yy_181 : zY := yy_180.set 76 (.inl (11, [some (some 77), none, none, none, none, none, none, none, none, some (some 78), some (some 79), some (some 80), some (some 81), some (some 82), some (some 83), none, some (some 84), some (some 85), some (some 86), some (some 87), some (some 88), some (some 89), some (some 90), some none, some none, some none, some none, some none, some none, some none, some none, some none, none]))
def yy_182 : zY := yy_181 ++ [.inr (0, 10, [])]
def yy_183 : zY := yy_182.set 76 (.inl (11, [some (some 77), none, none, none, none, none, none, none, none, some (some 78), some (some 79), some (some 80), some (some 81), some (some 82), some (some 83), none, some (some 84), some (some 85), some (some 86), some (some 87), some (some 88), some (some 89), some (some 90), some (some 91), some none, some none, some none, some none, some none, some none, some none, some none, none]))
def yy_184 : zY := yy_183 ++ [.inr (0, 10, [])]
def yy_185 : zY := yy_184.set 76 (.inl (11, [some (some 77), none, none, none, none, none, none, none, none, some (some 78), some (some 79), some (some 80), some (some 81), some (some 82), some (some 83), none, some (some 84), some (some 85), some (some 86), some (some 87), some (some 88), some (some 89), some (some 90), some (some 91), some (some 92), some none, some none, some none, some none, some none, some none, some none, none]))
def yy_186 : zY := yy_185 ++ [.inr (1, 1024, [])]
def yy_187 : zY := yy_186.set 76 (.inl (11, [some (some 77), none, none, none, none, none, none, none, none, some (some 78), some (some 79), some (some 80), some (some 81), some (some 82), some (some 83), none, some (some 84), some (some 85), some (some 86), some (some 87), some (some 88), some (some 89), some (some 90), some (some 91), some (some 92), some (some 93), some none, some none, some none, some none, some none, some none, none]))
def yy_188 : zY := yy_187 ++ [.inr (0, 1024, [])]
def yy_189 : zY := yy_188.set 76 (.inl (11, [some (some 77), none, none, none, none, none, none, none, none, some (some 78), some (some 79), some (some 80), some (some 81), some (some 82), some (some 83), none, some (some 84), some (some 85), some (some 86), some (some 87), some (some 88), some (some 89), some (some 90), some (some 91), some (some 92), some (some 93), some (some 94), some none, some none, some none, some none, some none, none]))
def yy_190 : zY := yy_189 ++ [.inr (3, 1024, [])]
def yy_191 : zY := yy_190.set 76 (.inl (11, [some (some 77), none, none, none, none, none, none, none, none, some (some 78), some (some 79), some (some 80), some (some 81), some (some 82), some (some 83), none, some (some 84), some (some 85), some (some 86), some (some 87), some (some 88), some (some 89), some (some 90), some (some 91), some (some 92), some (some 93), some (some 94), some (some 95), some none, some none, some none, some none, none]))
def yy_192 : zY := yy_191 ++ [.inr (3, 2, [])]
def yy_193 : zY := yy_192.set 76 (.inl (11, [some (some 77), none, none, none, none, none, none, none, none, some (some 78), some (some 79), some (some 80), some (some 81), some (some 82), some (some 83), none, some (some 84), some (some 85), some (some 86), some (some 87), some (some 88), some (some 89), some (some 90), some (some 91), some (some 92), some (some 93), some (some 94), some (some 95), some (some 96), some none, some none, some none, none]))
def yy_194 : zY := yy_193 ++ [.inr (0, 4, [])]
def yy_195 : zY := yy_194.set 76 (.inl (11, [some (some 77), none, none, none, none, none, none, none, none, some (some 78), some (some 79), some (some 80), some (some 81), some (some 82), some (some 83), none, some (some 84), some (some 85), some (some 86), some (some 87), some (some 88), some (some 89), some (some 90), some (some 91), some (some 92), some (some 93), some (some 94), some (some 95), some (some 96), some (some 97), some none, some none, none]))
def yy_196 : zY := yy_195 ++ [.inr (0, 4, [])]
def yy_197 : zY := yy_196.set 76 (.inl (11, [some (some 77), none, none, none, none, none, none, none, none, some (some 78), some (some 79), some (some 80), some (some 81), some (some 82), some (some 83), none, some (some 84), some (some 85), some (some 86), some (some 87), some (some 88), some (some 89), some (some 90), some (some 91), some (some 92), some (some 93), some (some 94), some (some 95), some (some 96), some (some 97), some (some 98), some none, none]))
def yy_198 : zY := yy_197 ++ [.inr (0, 256, [])]
def yy_199 : zY := yy_198.set 76 (.inl (11, [some (some 77), none, none, none, none, none, none, none, none, some (some 78), some (some 79), some (some 80), some (some 81), some (some 82), some (some 83), none, some (some 84), some (some 85), some (some 86), some (some 87), some (some 88), some (some 89), some (some 90), some (some 91), some (some 92), some (some 93), some (some 94), some (some 95), some (some 96), some (some 97), some (some 98), some (some 99), none]))
theorem yy_end : yy_199 = zY0 := by decide +kernel
