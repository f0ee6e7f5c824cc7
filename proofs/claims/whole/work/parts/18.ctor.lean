def mm_3 (M : zM) : zM := (zwZ (zwZ (zwZ M 3) 4) 5)
set_option maxHeartbeats 4000000 in
set_option maxRecDepth 100000 in
theorem nt_3 (E : zE) (M : zM) : zMn E mX2_init [.ref 2] (yy_3, M) (yy_9, mm_3 M) 3 60 := by
  refine zMn_of (L := [some (.ref 2)]) plX2 rfl rfl (fun _ => Nat.le_of_ble_eq_true rfl) (fun _ => rfl) ?_
  refine n_aload 0 dX2_init_0 rfl ?_
  refine n_obj 1 dX2_init_1 nob_X2_3 nob_i nob_c ⟨Nat.le_of_ble_eq_true rfl, Nat.le_of_ble_eq_true rfl⟩ ?_
  refine n_aload 4 dX2_init_4 rfl ?_
  refine n_bipush 5 dX2_init_5 zbp_10 ?_
  refine n_newa 7 (k := 2) (n := 50) (t := 0) (N := 10) (a := 3) (Y' := yy_4) dX2_init_7 (by decide) rfl narr_0 (by decide) (by decide) (by decide) (by decide +kernel) (by decide) (by decide +kernel) rfl rfl rfl ?_
  refine n_putF 9 (fs := [none, some none, some none, some none]) (fs' := [none, some (some 3), some none, some none]) (Y' := yy_5) dX2_init_9 rfl ff_X2_9 (by decide +kernel) (by decide) rfl rfl ?_
  refine n_aload 12 dX2_init_12 rfl ?_
  refine n_bipush 13 dX2_init_13 zbp_10 ?_
  refine n_newa 15 (k := 1) (n := 40) (t := 0) (N := 10) (a := 4) (Y' := yy_6) dX2_init_15 (by decide) rfl narr_0 (by decide) (by decide) (by decide) (by decide +kernel) (by decide) (by decide +kernel) rfl rfl rfl ?_
  refine n_putF 17 (fs := [none, some (some 3), some none, some none]) (fs' := [none, some (some 3), some (some 4), some none]) (Y' := yy_7) dX2_init_17 rfl ff_X2_15 (by decide +kernel) (by decide) rfl rfl ?_
  refine n_aload 20 dX2_init_20 rfl ?_
  refine n_bipush 21 dX2_init_21 zbp_40 ?_
  refine n_newa 23 (k := 0) (n := 0) (t := 0) (N := 40) (a := 5) (Y' := yy_8) dX2_init_23 (by decide) rfl narr_0 (by decide) (by decide) (by decide) (by decide +kernel) (by decide) (by decide +kernel) rfl rfl rfl ?_
  refine n_putF 25 (fs := [none, some (some 3), some (some 4), some none]) (fs' := [none, some (some 3), some (some 4), some (some 5)]) (Y' := yy_9) dX2_init_25 rfl ff_X2_18 (by decide +kernel) (by decide) rfl rfl ?_
  exact n_end 28 ⟨dX2_init_28, rfl⟩
def mm_4 (M : zM) : zM := (zwZ (zwZ (zwZ M 7) 8) 9)
set_option maxHeartbeats 4000000 in
set_option maxRecDepth 100000 in
theorem nt_4 (E : zE) (M : zM) : zMn E mX2_init [.ref 6] (yy_11, M) (yy_17, mm_4 M) 3 60 := by
  refine zMn_of (L := [some (.ref 6)]) plX2 rfl rfl (fun _ => Nat.le_of_ble_eq_true rfl) (fun _ => rfl) ?_
  refine n_aload 0 dX2_init_0 rfl ?_
  refine n_obj 1 dX2_init_1 nob_X2_3 nob_i nob_c ⟨Nat.le_of_ble_eq_true rfl, Nat.le_of_ble_eq_true rfl⟩ ?_
  refine n_aload 4 dX2_init_4 rfl ?_
  refine n_bipush 5 dX2_init_5 zbp_10 ?_
  refine n_newa 7 (k := 2) (n := 50) (t := 0) (N := 10) (a := 7) (Y' := yy_12) dX2_init_7 (by decide) rfl narr_0 (by decide) (by decide) (by decide) (by decide +kernel) (by decide) (by decide +kernel) rfl rfl rfl ?_
  refine n_putF 9 (fs := [none, some none, some none, some none]) (fs' := [none, some (some 7), some none, some none]) (Y' := yy_13) dX2_init_9 rfl ff_X2_9 (by decide +kernel) (by decide) rfl rfl ?_
  refine n_aload 12 dX2_init_12 rfl ?_
  refine n_bipush 13 dX2_init_13 zbp_10 ?_
  refine n_newa 15 (k := 1) (n := 40) (t := 0) (N := 10) (a := 8) (Y' := yy_14) dX2_init_15 (by decide) rfl narr_0 (by decide) (by decide) (by decide) (by decide +kernel) (by decide) (by decide +kernel) rfl rfl rfl ?_
  refine n_putF 17 (fs := [none, some (some 7), some none, some none]) (fs' := [none, some (some 7), some (some 8), some none]) (Y' := yy_15) dX2_init_17 rfl ff_X2_15 (by decide +kernel) (by decide) rfl rfl ?_
  refine n_aload 20 dX2_init_20 rfl ?_
  refine n_bipush 21 dX2_init_21 zbp_40 ?_
  refine n_newa 23 (k := 0) (n := 0) (t := 0) (N := 40) (a := 9) (Y' := yy_16) dX2_init_23 (by decide) rfl narr_0 (by decide) (by decide) (by decide) (by decide +kernel) (by decide) (by decide +kernel) rfl rfl rfl ?_
  refine n_putF 25 (fs := [none, some (some 7), some (some 8), some none]) (fs' := [none, some (some 7), some (some 8), some (some 9)]) (Y' := yy_17) dX2_init_25 rfl ff_X2_18 (by decide +kernel) (by decide) rfl rfl ?_
  exact n_end 28 ⟨dX2_init_28, rfl⟩
def mm_5 (M : zM) : zM := (pset 10 (zwZ (zwZ M 11) 12))
set_option maxHeartbeats 4000000 in
set_option maxRecDepth 100000 in
theorem nt_5 (E : zE) (M : zM) : zMn E mX6_init [.ref 10] (yy_19, M) (yy_23, mm_5 M) 2 74 := by
  refine zMn_of (L := [some (.ref 10)]) plX6 rfl rfl (fun _ => Nat.le_of_ble_eq_true rfl) (fun _ => rfl) ?_
  refine n_aload 0 dX6_init_0 rfl ?_
  refine n_obj 1 dX6_init_1 nob_X6_3 nob_i nob_c ⟨Nat.le_of_ble_eq_true rfl, Nat.le_of_ble_eq_true rfl⟩ ?_
  refine n_aload 4 dX6_init_4 rfl ?_
  refine n_bipush 5 dX6_init_5 zbp_10 ?_
  refine n_newa 7 (k := 1) (n := 64) (t := 0) (N := 10) (a := 11) (Y' := yy_20) dX6_init_7 (by decide) rfl narr_0 (by decide) (by decide) (by decide) (by decide +kernel) (by decide) (by decide +kernel) rfl rfl rfl ?_
  refine n_putF 9 (fs := [some none, some none]) (fs' := [some (some 11), some none]) (Y' := yy_21) dX6_init_9 rfl ff_X6_9 (by decide +kernel) (by decide) rfl rfl ?_
  refine n_aload 12 dX6_init_12 rfl ?_
  refine n_bipush 13 dX6_init_13 zbp_64 ?_
  refine n_newa 15 (k := 0) (n := 0) (t := 0) (N := 64) (a := 12) (Y' := yy_22) dX6_init_15 (by decide) rfl narr_0 (by decide) (by decide) (by decide) (by decide +kernel) (by decide) (by decide +kernel) rfl rfl rfl ?_
  refine n_putF 17 (fs := [some (some 11), some none]) (fs' := [some (some 11), some (some 12)]) (Y' := yy_23) dX6_init_17 rfl ff_X6_15 (by decide +kernel) (by decide) rfl rfl ?_
  refine n_aload 20 dX6_init_20 rfl ?_
  refine n_callV 21 (ci := 6) (d' := mX6_setAsAtFirst) (M1 := pset 10 (zwZ (zwZ M 11) 12)) (fs := [some (some 11), some (some 12)]) dX6_init_21 lv_X6_18 (by decide +kernel) rfl rfl ⟨Nat.le_of_ble_eq_true rfl, Nat.le_of_ble_eq_true rfl⟩ (Nat.le_of_ble_eq_true rfl) (fun E' => by rw [← psetAsAtFirst]; exact tX6_setAsAtFirst E' _ 10 ⟨by decide +kernel, by decide +kernel, by decide +kernel⟩ _) ?_
  exact n_end 24 ⟨dX6_init_24, rfl⟩
def mm_2 (M : zM) : zM := (zwA (zwZ (mm_5 (zwZ (mm_4 (zwZ (mm_3 (zwZ M 2)) 6)) 10)) 13) 13 (zfl ((zwZ (mm_5 (zwZ (mm_4 (zwZ (mm_3 (zwZ M 2)) 6)) 10)) 13).1 13) 10 (-4)))
set_option maxHeartbeats 4000000 in
set_option maxRecDepth 100000 in
theorem nt_2 (E : zE) (M : zM) : zMn E mX7_init [.ref 1] (yy_2, M) (yy_26, mm_2 M) 12 214 := by
  refine zMn_of (L := [some (.ref 1)]) plX7 rfl rfl (fun _ => Nat.le_of_ble_eq_true rfl) (fun _ => rfl) ?_
  refine n_aload 0 dX7_init_0 rfl ?_
  refine n_obj 1 dX7_init_1 nob_X7_3 nob_i nob_c ⟨Nat.le_of_ble_eq_true rfl, Nat.le_of_ble_eq_true rfl⟩ ?_
  refine n_aload 4 dX7_init_4 rfl ?_
  refine n_new 5 (k := 11) (n := 210) (a := 2) (Y' := yy_3) (fs0 := [none, some none, some none, some none]) dX7_init_5 rfl zinX2 tyX2_ok ncl_X7_9 ninst_X2 ninit_X2 (fun _ => rfl) ndef_X2 (by decide +kernel) (by decide) (by decide +kernel) rfl rfl rfl ?_
  refine n_dup 8 dX7_init_8 rfl ?_
  refine n_callIn 9 (k := 8) (n := 150) (As := []) dX7_init_9 li_X7_11 rfl rfl ⟨Nat.le_of_ble_eq_true rfl, Nat.le_of_ble_eq_true rfl⟩ (Nat.le_of_ble_eq_true rfl) (nt_3 E (zwZ M 2)) (show yy_3.length ≤ yy_9.length by decide +kernel) rfl rfl ?_
  refine n_putF 12 (fs := [some none, some none, some none, some none, none]) (fs' := [some (some 2), some none, some none, some none, none]) (Y' := yy_10) dX7_init_12 rfl ff_X7_12 (by decide +kernel) (by decide) rfl rfl ?_
  refine n_aload 15 dX7_init_15 rfl ?_
  refine n_new 16 (k := 7) (n := 146) (a := 6) (Y' := yy_11) (fs0 := [none, some none, some none, some none]) dX7_init_16 rfl zinX2 tyX2_ok ncl_X7_9 ninst_X2 ninit_X2 (fun _ => rfl) ndef_X2 (by decide +kernel) (by decide) (by decide +kernel) rfl rfl rfl ?_
  refine n_dup 19 dX7_init_19 rfl ?_
  refine n_callIn 20 (k := 4) (n := 86) (As := []) dX7_init_20 li_X7_11 rfl rfl ⟨Nat.le_of_ble_eq_true rfl, Nat.le_of_ble_eq_true rfl⟩ (Nat.le_of_ble_eq_true rfl) (nt_4 E (zwZ (mm_3 (zwZ M 2)) 6)) (show yy_11.length ≤ yy_17.length by decide +kernel) rfl rfl ?_
  refine n_putF 23 (fs := [some (some 2), some none, some none, some none, none]) (fs' := [some (some 2), some (some 6), some none, some none, none]) (Y' := yy_18) dX7_init_23 rfl ff_X7_18 (by decide +kernel) (by decide) rfl rfl ?_
  refine n_aload 26 dX7_init_26 rfl ?_
  refine n_new 27 (k := 3) (n := 84) (a := 10) (Y' := yy_19) (fs0 := [some none, some none]) dX7_init_27 rfl zinX6 tyX6_ok ncl_X7_21 ninst_X6 ninit_X6 (fun _ => rfl) ndef_X6 (by decide +kernel) (by decide) (by decide +kernel) rfl rfl rfl ?_
  refine n_dup 30 dX7_init_30 rfl ?_
  refine n_callI 31 (k := 1) (n := 10) (As := []) dX7_init_31 li_X7_23 rfl rfl ⟨Nat.le_of_ble_eq_true rfl, Nat.le_of_ble_eq_true rfl⟩ (Nat.le_of_ble_eq_true rfl) (nt_5 E (zwZ (mm_4 (zwZ (mm_3 (zwZ M 2)) 6)) 10)) (show yy_19.length ≤ yy_23.length by decide +kernel) rfl rfl ?_
  refine n_putF 34 (fs := [some (some 2), some (some 6), some none, some none, none]) (fs' := [some (some 2), some (some 6), some (some 10), some none, none]) (Y' := yy_24) dX7_init_34 rfl ff_X7_24 (by decide +kernel) (by decide) rfl rfl ?_
  refine n_aload 37 dX7_init_37 rfl ?_
  refine n_bipush 38 dX7_init_38 zbp_10 ?_
  refine n_newa 40 (k := 0) (n := 0) (t := 0) (N := 10) (a := 13) (Y' := yy_25) dX7_init_40 (by decide) rfl narr_0 (by decide) (by decide) (by decide) (by decide +kernel) (by decide) (by decide +kernel) rfl rfl rfl ?_
  refine n_putF 42 (fs := [some (some 2), some (some 6), some (some 10), some none, none]) (fs' := [some (some 2), some (some 6), some (some 10), some (some 13), none]) (Y' := yy_26) dX7_init_42 rfl ff_X7_28 (by decide +kernel) (by decide) rfl rfl ?_
  refine n_aload 45 dX7_init_45 rfl ?_
  refine n_getR 46 (r := 13) (fs := [some (some 2), some (some 6), some (some 10), some (some 13), none]) dX7_init_46 fg_X7_28 (by decide +kernel) rfl ?_
  refine n_bipush 49 dX7_init_49 zbp_m4 ?_
  refine n_callS2 51 (d' := mJ7_fill_53178) (M1 := zwA (zwZ (mm_5 (zwZ (mm_4 (zwZ (mm_3 (zwZ M 2)) 6)) 10)) 13) 13 (zfl ((zwZ (mm_5 (zwZ (mm_4 (zwZ (mm_3 (zwZ M 2)) 6)) 10)) 13).1 13) 10 (-4))) dX7_init_51 lv_X7_32 ⟨Nat.le_of_ble_eq_true rfl, Nat.le_of_ble_eq_true rfl⟩ (Nat.le_of_ble_eq_true rfl) (fun E' => by rw [← pfill _ _ _ _ (by decide)]; exact tJ7_fill_53178 E' _ 13 10 (by decide +kernel) _ _) ?_
  exact n_end 54 ⟨dX7_init_54, rfl⟩
def mm_7 (M : zM) : zM := (zwZ (zwZ (zwZ M 17) 18) 19)
set_option maxHeartbeats 4000000 in
set_option maxRecDepth 100000 in
theorem nt_7 (E : zE) (M : zM) : zMn E mX2_init [.ref 16] (yy_30, M) (yy_36, mm_7 M) 3 60 := by
  refine zMn_of (L := [some (.ref 16)]) plX2 rfl rfl (fun _ => Nat.le_of_ble_eq_true rfl) (fun _ => rfl) ?_
  refine n_aload 0 dX2_init_0 rfl ?_
  refine n_obj 1 dX2_init_1 nob_X2_3 nob_i nob_c ⟨Nat.le_of_ble_eq_true rfl, Nat.le_of_ble_eq_true rfl⟩ ?_
  refine n_aload 4 dX2_init_4 rfl ?_
  refine n_bipush 5 dX2_init_5 zbp_10 ?_
  refine n_newa 7 (k := 2) (n := 50) (t := 0) (N := 10) (a := 17) (Y' := yy_31) dX2_init_7 (by decide) rfl narr_0 (by decide) (by decide) (by decide) (by decide +kernel) (by decide) (by decide +kernel) rfl rfl rfl ?_
  refine n_putF 9 (fs := [none, some none, some none, some none]) (fs' := [none, some (some 17), some none, some none]) (Y' := yy_32) dX2_init_9 rfl ff_X2_9 (by decide +kernel) (by decide) rfl rfl ?_
  refine n_aload 12 dX2_init_12 rfl ?_
  refine n_bipush 13 dX2_init_13 zbp_10 ?_
  refine n_newa 15 (k := 1) (n := 40) (t := 0) (N := 10) (a := 18) (Y' := yy_33) dX2_init_15 (by decide) rfl narr_0 (by decide) (by decide) (by decide) (by decide +kernel) (by decide) (by decide +kernel) rfl rfl rfl ?_
  refine n_putF 17 (fs := [none, some (some 17), some none, some none]) (fs' := [none, some (some 17), some (some 18), some none]) (Y' := yy_34) dX2_init_17 rfl ff_X2_15 (by decide +kernel) (by decide) rfl rfl ?_
  refine n_aload 20 dX2_init_20 rfl ?_
  refine n_bipush 21 dX2_init_21 zbp_40 ?_
  refine n_newa 23 (k := 0) (n := 0) (t := 0) (N := 40) (a := 19) (Y' := yy_35) dX2_init_23 (by decide) rfl narr_0 (by decide) (by decide) (by decide) (by decide +kernel) (by decide) (by decide +kernel) rfl rfl rfl ?_
  refine n_putF 25 (fs := [none, some (some 17), some (some 18), some none]) (fs' := [none, some (some 17), some (some 18), some (some 19)]) (Y' := yy_36) dX2_init_25 rfl ff_X2_18 (by decide +kernel) (by decide) rfl rfl ?_
  exact n_end 28 ⟨dX2_init_28, rfl⟩
def mm_8 (M : zM) : zM := (zwZ (zwZ (zwZ M 21) 22) 23)
set_option maxHeartbeats 4000000 in
set_option maxRecDepth 100000 in
theorem nt_8 (E : zE) (M : zM) : zMn E mX2_init [.ref 20] (yy_38, M) (yy_44, mm_8 M) 3 60 := by
  refine zMn_of (L := [some (.ref 20)]) plX2 rfl rfl (fun _ => Nat.le_of_ble_eq_true rfl) (fun _ => rfl) ?_
  refine n_aload 0 dX2_init_0 rfl ?_
  refine n_obj 1 dX2_init_1 nob_X2_3 nob_i nob_c ⟨Nat.le_of_ble_eq_true rfl, Nat.le_of_ble_eq_true rfl⟩ ?_
  refine n_aload 4 dX2_init_4 rfl ?_
  refine n_bipush 5 dX2_init_5 zbp_10 ?_
  refine n_newa 7 (k := 2) (n := 50) (t := 0) (N := 10) (a := 21) (Y' := yy_39) dX2_init_7 (by decide) rfl narr_0 (by decide) (by decide) (by decide) (by decide +kernel) (by decide) (by decide +kernel) rfl rfl rfl ?_
  refine n_putF 9 (fs := [none, some none, some none, some none]) (fs' := [none, some (some 21), some none, some none]) (Y' := yy_40) dX2_init_9 rfl ff_X2_9 (by decide +kernel) (by decide) rfl rfl ?_
  refine n_aload 12 dX2_init_12 rfl ?_
  refine n_bipush 13 dX2_init_13 zbp_10 ?_
  refine n_newa 15 (k := 1) (n := 40) (t := 0) (N := 10) (a := 22) (Y' := yy_41) dX2_init_15 (by decide) rfl narr_0 (by decide) (by decide) (by decide) (by decide +kernel) (by decide) (by decide +kernel) rfl rfl rfl ?_
  refine n_putF 17 (fs := [none, some (some 21), some none, some none]) (fs' := [none, some (some 21), some (some 22), some none]) (Y' := yy_42) dX2_init_17 rfl ff_X2_15 (by decide +kernel) (by decide) rfl rfl ?_
  refine n_aload 20 dX2_init_20 rfl ?_
  refine n_bipush 21 dX2_init_21 zbp_40 ?_
  refine n_newa 23 (k := 0) (n := 0) (t := 0) (N := 40) (a := 23) (Y' := yy_43) dX2_init_23 (by decide) rfl narr_0 (by decide) (by decide) (by decide) (by decide +kernel) (by decide) (by decide +kernel) rfl rfl rfl ?_
  refine n_putF 25 (fs := [none, some (some 21), some (some 22), some none]) (fs' := [none, some (some 21), some (some 22), some (some 23)]) (Y' := yy_44) dX2_init_25 rfl ff_X2_18 (by decide +kernel) (by decide) rfl rfl ?_
  exact n_end 28 ⟨dX2_init_28, rfl⟩
def mm_9 (M : zM) : zM := (pset 24 (zwZ (zwZ M 25) 26))
set_option maxHeartbeats 4000000 in
set_option maxRecDepth 100000 in
theorem nt_9 (E : zE) (M : zM) : zMn E mX6_init [.ref 24] (yy_46, M) (yy_50, mm_9 M) 2 74 := by
  refine zMn_of (L := [some (.ref 24)]) plX6 rfl rfl (fun _ => Nat.le_of_ble_eq_true rfl) (fun _ => rfl) ?_
  refine n_aload 0 dX6_init_0 rfl ?_
  refine n_obj 1 dX6_init_1 nob_X6_3 nob_i nob_c ⟨Nat.le_of_ble_eq_true rfl, Nat.le_of_ble_eq_true rfl⟩ ?_
  refine n_aload 4 dX6_init_4 rfl ?_
  refine n_bipush 5 dX6_init_5 zbp_10 ?_
  refine n_newa 7 (k := 1) (n := 64) (t := 0) (N := 10) (a := 25) (Y' := yy_47) dX6_init_7 (by decide) rfl narr_0 (by decide) (by decide) (by decide) (by decide +kernel) (by decide) (by decide +kernel) rfl rfl rfl ?_
  refine n_putF 9 (fs := [some none, some none]) (fs' := [some (some 25), some none]) (Y' := yy_48) dX6_init_9 rfl ff_X6_9 (by decide +kernel) (by decide) rfl rfl ?_
  refine n_aload 12 dX6_init_12 rfl ?_
  refine n_bipush 13 dX6_init_13 zbp_64 ?_
  refine n_newa 15 (k := 0) (n := 0) (t := 0) (N := 64) (a := 26) (Y' := yy_49) dX6_init_15 (by decide) rfl narr_0 (by decide) (by decide) (by decide) (by decide +kernel) (by decide) (by decide +kernel) rfl rfl rfl ?_
  refine n_putF 17 (fs := [some (some 25), some none]) (fs' := [some (some 25), some (some 26)]) (Y' := yy_50) dX6_init_17 rfl ff_X6_15 (by decide +kernel) (by decide) rfl rfl ?_
  refine n_aload 20 dX6_init_20 rfl ?_
  refine n_callV 21 (ci := 6) (d' := mX6_setAsAtFirst) (M1 := pset 24 (zwZ (zwZ M 25) 26)) (fs := [some (some 25), some (some 26)]) dX6_init_21 lv_X6_18 (by decide +kernel) rfl rfl ⟨Nat.le_of_ble_eq_true rfl, Nat.le_of_ble_eq_true rfl⟩ (Nat.le_of_ble_eq_true rfl) (fun E' => by rw [← psetAsAtFirst]; exact tX6_setAsAtFirst E' _ 24 ⟨by decide +kernel, by decide +kernel, by decide +kernel⟩ _) ?_
  exact n_end 24 ⟨dX6_init_24, rfl⟩
def mm_6 (M : zM) : zM := (zwA (zwZ (mm_9 (zwZ (mm_8 (zwZ (mm_7 (zwZ M 16)) 20)) 24)) 27) 27 (zfl ((zwZ (mm_9 (zwZ (mm_8 (zwZ (mm_7 (zwZ M 16)) 20)) 24)) 27).1 27) 10 (-4)))
set_option maxHeartbeats 4000000 in
set_option maxRecDepth 100000 in
theorem nt_6 (E : zE) (M : zM) : zMn E mX7_init [.ref 15] (yy_29, M) (yy_53, mm_6 M) 12 214 := by
  refine zMn_of (L := [some (.ref 15)]) plX7 rfl rfl (fun _ => Nat.le_of_ble_eq_true rfl) (fun _ => rfl) ?_
  refine n_aload 0 dX7_init_0 rfl ?_
  refine n_obj 1 dX7_init_1 nob_X7_3 nob_i nob_c ⟨Nat.le_of_ble_eq_true rfl, Nat.le_of_ble_eq_true rfl⟩ ?_
  refine n_aload 4 dX7_init_4 rfl ?_
  refine n_new 5 (k := 11) (n := 210) (a := 16) (Y' := yy_30) (fs0 := [none, some none, some none, some none]) dX7_init_5 rfl zinX2 tyX2_ok ncl_X7_9 ninst_X2 ninit_X2 (fun _ => rfl) ndef_X2 (by decide +kernel) (by decide) (by decide +kernel) rfl rfl rfl ?_
  refine n_dup 8 dX7_init_8 rfl ?_
  refine n_callIn 9 (k := 8) (n := 150) (As := []) dX7_init_9 li_X7_11 rfl rfl ⟨Nat.le_of_ble_eq_true rfl, Nat.le_of_ble_eq_true rfl⟩ (Nat.le_of_ble_eq_true rfl) (nt_7 E (zwZ M 16)) (show yy_30.length ≤ yy_36.length by decide +kernel) rfl rfl ?_
  refine n_putF 12 (fs := [some none, some none, some none, some none, none]) (fs' := [some (some 16), some none, some none, some none, none]) (Y' := yy_37) dX7_init_12 rfl ff_X7_12 (by decide +kernel) (by decide) rfl rfl ?_
  refine n_aload 15 dX7_init_15 rfl ?_
  refine n_new 16 (k := 7) (n := 146) (a := 20) (Y' := yy_38) (fs0 := [none, some none, some none, some none]) dX7_init_16 rfl zinX2 tyX2_ok ncl_X7_9 ninst_X2 ninit_X2 (fun _ => rfl) ndef_X2 (by decide +kernel) (by decide) (by decide +kernel) rfl rfl rfl ?_
  refine n_dup 19 dX7_init_19 rfl ?_
  refine n_callIn 20 (k := 4) (n := 86) (As := []) dX7_init_20 li_X7_11 rfl rfl ⟨Nat.le_of_ble_eq_true rfl, Nat.le_of_ble_eq_true rfl⟩ (Nat.le_of_ble_eq_true rfl) (nt_8 E (zwZ (mm_7 (zwZ M 16)) 20)) (show yy_38.length ≤ yy_44.length by decide +kernel) rfl rfl ?_
  refine n_putF 23 (fs := [some (some 16), some none, some none, some none, none]) (fs' := [some (some 16), some (some 20), some none, some none, none]) (Y' := yy_45) dX7_init_23 rfl ff_X7_18 (by decide +kernel) (by decide) rfl rfl ?_
  refine n_aload 26 dX7_init_26 rfl ?_
  refine n_new 27 (k := 3) (n := 84) (a := 24) (Y' := yy_46) (fs0 := [some none, some none]) dX7_init_27 rfl zinX6 tyX6_ok ncl_X7_21 ninst_X6 ninit_X6 (fun _ => rfl) ndef_X6 (by decide +kernel) (by decide) (by decide +kernel) rfl rfl rfl ?_
  refine n_dup 30 dX7_init_30 rfl ?_
  refine n_callI 31 (k := 1) (n := 10) (As := []) dX7_init_31 li_X7_23 rfl rfl ⟨Nat.le_of_ble_eq_true rfl, Nat.le_of_ble_eq_true rfl⟩ (Nat.le_of_ble_eq_true rfl) (nt_9 E (zwZ (mm_8 (zwZ (mm_7 (zwZ M 16)) 20)) 24)) (show yy_46.length ≤ yy_50.length by decide +kernel) rfl rfl ?_
  refine n_putF 34 (fs := [some (some 16), some (some 20), some none, some none, none]) (fs' := [some (some 16), some (some 20), some (some 24), some none, none]) (Y' := yy_51) dX7_init_34 rfl ff_X7_24 (by decide +kernel) (by decide) rfl rfl ?_
  refine n_aload 37 dX7_init_37 rfl ?_
  refine n_bipush 38 dX7_init_38 zbp_10 ?_
  refine n_newa 40 (k := 0) (n := 0) (t := 0) (N := 10) (a := 27) (Y' := yy_52) dX7_init_40 (by decide) rfl narr_0 (by decide) (by decide) (by decide) (by decide +kernel) (by decide) (by decide +kernel) rfl rfl rfl ?_
  refine n_putF 42 (fs := [some (some 16), some (some 20), some (some 24), some none, none]) (fs' := [some (some 16), some (some 20), some (some 24), some (some 27), none]) (Y' := yy_53) dX7_init_42 rfl ff_X7_28 (by decide +kernel) (by decide) rfl rfl ?_
  refine n_aload 45 dX7_init_45 rfl ?_
  refine n_getR 46 (r := 27) (fs := [some (some 16), some (some 20), some (some 24), some (some 27), none]) dX7_init_46 fg_X7_28 (by decide +kernel) rfl ?_
  refine n_bipush 49 dX7_init_49 zbp_m4 ?_
  refine n_callS2 51 (d' := mJ7_fill_53178) (M1 := zwA (zwZ (mm_9 (zwZ (mm_8 (zwZ (mm_7 (zwZ M 16)) 20)) 24)) 27) 27 (zfl ((zwZ (mm_9 (zwZ (mm_8 (zwZ (mm_7 (zwZ M 16)) 20)) 24)) 27).1 27) 10 (-4))) dX7_init_51 lv_X7_32 ⟨Nat.le_of_ble_eq_true rfl, Nat.le_of_ble_eq_true rfl⟩ (Nat.le_of_ble_eq_true rfl) (fun E' => by rw [← pfill _ _ _ _ (by decide)]; exact tJ7_fill_53178 E' _ 27 10 (by decide +kernel) _ _) ?_
  exact n_end 54 ⟨dX7_init_54, rfl⟩
def mm_11 (M : zM) : zM := (zwZ (zwZ (zwZ M 30) 31) 32)
set_option maxHeartbeats 4000000 in
set_option maxRecDepth 100000 in
theorem nt_11 (E : zE) (M : zM) : zMn E mX2_init [.ref 29] (yy_56, M) (yy_62, mm_11 M) 3 60 := by
  refine zMn_of (L := [some (.ref 29)]) plX2 rfl rfl (fun _ => Nat.le_of_ble_eq_true rfl) (fun _ => rfl) ?_
  refine n_aload 0 dX2_init_0 rfl ?_
  refine n_obj 1 dX2_init_1 nob_X2_3 nob_i nob_c ⟨Nat.le_of_ble_eq_true rfl, Nat.le_of_ble_eq_true rfl⟩ ?_
  refine n_aload 4 dX2_init_4 rfl ?_
  refine n_bipush 5 dX2_init_5 zbp_10 ?_
  refine n_newa 7 (k := 2) (n := 50) (t := 0) (N := 10) (a := 30) (Y' := yy_57) dX2_init_7 (by decide) rfl narr_0 (by decide) (by decide) (by decide) (by decide +kernel) (by decide) (by decide +kernel) rfl rfl rfl ?_
  refine n_putF 9 (fs := [none, some none, some none, some none]) (fs' := [none, some (some 30), some none, some none]) (Y' := yy_58) dX2_init_9 rfl ff_X2_9 (by decide +kernel) (by decide) rfl rfl ?_
  refine n_aload 12 dX2_init_12 rfl ?_
  refine n_bipush 13 dX2_init_13 zbp_10 ?_
  refine n_newa 15 (k := 1) (n := 40) (t := 0) (N := 10) (a := 31) (Y' := yy_59) dX2_init_15 (by decide) rfl narr_0 (by decide) (by decide) (by decide) (by decide +kernel) (by decide) (by decide +kernel) rfl rfl rfl ?_
  refine n_putF 17 (fs := [none, some (some 30), some none, some none]) (fs' := [none, some (some 30), some (some 31), some none]) (Y' := yy_60) dX2_init_17 rfl ff_X2_15 (by decide +kernel) (by decide) rfl rfl ?_
  refine n_aload 20 dX2_init_20 rfl ?_
  refine n_bipush 21 dX2_init_21 zbp_40 ?_
  refine n_newa 23 (k := 0) (n := 0) (t := 0) (N := 40) (a := 32) (Y' := yy_61) dX2_init_23 (by decide) rfl narr_0 (by decide) (by decide) (by decide) (by decide +kernel) (by decide) (by decide +kernel) rfl rfl rfl ?_
  refine n_putF 25 (fs := [none, some (some 30), some (some 31), some none]) (fs' := [none, some (some 30), some (some 31), some (some 32)]) (Y' := yy_62) dX2_init_25 rfl ff_X2_18 (by decide +kernel) (by decide) rfl rfl ?_
  exact n_end 28 ⟨dX2_init_28, rfl⟩
def mm_12 (M : zM) : zM := (zwZ (zwZ (zwZ M 34) 35) 36)
set_option maxHeartbeats 4000000 in
set_option maxRecDepth 100000 in
theorem nt_12 (E : zE) (M : zM) : zMn E mX2_init [.ref 33] (yy_64, M) (yy_70, mm_12 M) 3 60 := by
  refine zMn_of (L := [some (.ref 33)]) plX2 rfl rfl (fun _ => Nat.le_of_ble_eq_true rfl) (fun _ => rfl) ?_
  refine n_aload 0 dX2_init_0 rfl ?_
  refine n_obj 1 dX2_init_1 nob_X2_3 nob_i nob_c ⟨Nat.le_of_ble_eq_true rfl, Nat.le_of_ble_eq_true rfl⟩ ?_
  refine n_aload 4 dX2_init_4 rfl ?_
  refine n_bipush 5 dX2_init_5 zbp_10 ?_
  refine n_newa 7 (k := 2) (n := 50) (t := 0) (N := 10) (a := 34) (Y' := yy_65) dX2_init_7 (by decide) rfl narr_0 (by decide) (by decide) (by decide) (by decide +kernel) (by decide) (by decide +kernel) rfl rfl rfl ?_
  refine n_putF 9 (fs := [none, some none, some none, some none]) (fs' := [none, some (some 34), some none, some none]) (Y' := yy_66) dX2_init_9 rfl ff_X2_9 (by decide +kernel) (by decide) rfl rfl ?_
  refine n_aload 12 dX2_init_12 rfl ?_
  refine n_bipush 13 dX2_init_13 zbp_10 ?_
  refine n_newa 15 (k := 1) (n := 40) (t := 0) (N := 10) (a := 35) (Y' := yy_67) dX2_init_15 (by decide) rfl narr_0 (by decide) (by decide) (by decide) (by decide +kernel) (by decide) (by decide +kernel) rfl rfl rfl ?_
  refine n_putF 17 (fs := [none, some (some 34), some none, some none]) (fs' := [none, some (some 34), some (some 35), some none]) (Y' := yy_68) dX2_init_17 rfl ff_X2_15 (by decide +kernel) (by decide) rfl rfl ?_
  refine n_aload 20 dX2_init_20 rfl ?_
  refine n_bipush 21 dX2_init_21 zbp_40 ?_
  refine n_newa 23 (k := 0) (n := 0) (t := 0) (N := 40) (a := 36) (Y' := yy_69) dX2_init_23 (by decide) rfl narr_0 (by decide) (by decide) (by decide) (by decide +kernel) (by decide) (by decide +kernel) rfl rfl rfl ?_
  refine n_putF 25 (fs := [none, some (some 34), some (some 35), some none]) (fs' := [none, some (some 34), some (some 35), some (some 36)]) (Y' := yy_70) dX2_init_25 rfl ff_X2_18 (by decide +kernel) (by decide) rfl rfl ?_
  exact n_end 28 ⟨dX2_init_28, rfl⟩
def mm_13 (M : zM) : zM := (pset 37 (zwZ (zwZ M 38) 39))
set_option maxHeartbeats 4000000 in
set_option maxRecDepth 100000 in
theorem nt_13 (E : zE) (M : zM) : zMn E mX6_init [.ref 37] (yy_72, M) (yy_76, mm_13 M) 2 74 := by
  refine zMn_of (L := [some (.ref 37)]) plX6 rfl rfl (fun _ => Nat.le_of_ble_eq_true rfl) (fun _ => rfl) ?_
  refine n_aload 0 dX6_init_0 rfl ?_
  refine n_obj 1 dX6_init_1 nob_X6_3 nob_i nob_c ⟨Nat.le_of_ble_eq_true rfl, Nat.le_of_ble_eq_true rfl⟩ ?_
  refine n_aload 4 dX6_init_4 rfl ?_
  refine n_bipush 5 dX6_init_5 zbp_10 ?_
  refine n_newa 7 (k := 1) (n := 64) (t := 0) (N := 10) (a := 38) (Y' := yy_73) dX6_init_7 (by decide) rfl narr_0 (by decide) (by decide) (by decide) (by decide +kernel) (by decide) (by decide +kernel) rfl rfl rfl ?_
  refine n_putF 9 (fs := [some none, some none]) (fs' := [some (some 38), some none]) (Y' := yy_74) dX6_init_9 rfl ff_X6_9 (by decide +kernel) (by decide) rfl rfl ?_
  refine n_aload 12 dX6_init_12 rfl ?_
  refine n_bipush 13 dX6_init_13 zbp_64 ?_
  refine n_newa 15 (k := 0) (n := 0) (t := 0) (N := 64) (a := 39) (Y' := yy_75) dX6_init_15 (by decide) rfl narr_0 (by decide) (by decide) (by decide) (by decide +kernel) (by decide) (by decide +kernel) rfl rfl rfl ?_
  refine n_putF 17 (fs := [some (some 38), some none]) (fs' := [some (some 38), some (some 39)]) (Y' := yy_76) dX6_init_17 rfl ff_X6_15 (by decide +kernel) (by decide) rfl rfl ?_
  refine n_aload 20 dX6_init_20 rfl ?_
  refine n_callV 21 (ci := 6) (d' := mX6_setAsAtFirst) (M1 := pset 37 (zwZ (zwZ M 38) 39)) (fs := [some (some 38), some (some 39)]) dX6_init_21 lv_X6_18 (by decide +kernel) rfl rfl ⟨Nat.le_of_ble_eq_true rfl, Nat.le_of_ble_eq_true rfl⟩ (Nat.le_of_ble_eq_true rfl) (fun E' => by rw [← psetAsAtFirst]; exact tX6_setAsAtFirst E' _ 37 ⟨by decide +kernel, by decide +kernel, by decide +kernel⟩ _) ?_
  exact n_end 24 ⟨dX6_init_24, rfl⟩
def mm_10 (M : zM) : zM := (zwA (zwZ (mm_13 (zwZ (mm_12 (zwZ (mm_11 (zwZ M 29)) 33)) 37)) 40) 40 (zfl ((zwZ (mm_13 (zwZ (mm_12 (zwZ (mm_11 (zwZ M 29)) 33)) 37)) 40).1 40) 10 (-4)))
set_option maxHeartbeats 4000000 in
set_option maxRecDepth 100000 in
theorem nt_10 (E : zE) (M : zM) : zMn E mX7_init [.ref 28] (yy_55, M) (yy_79, mm_10 M) 12 214 := by
  refine zMn_of (L := [some (.ref 28)]) plX7 rfl rfl (fun _ => Nat.le_of_ble_eq_true rfl) (fun _ => rfl) ?_
  refine n_aload 0 dX7_init_0 rfl ?_
  refine n_obj 1 dX7_init_1 nob_X7_3 nob_i nob_c ⟨Nat.le_of_ble_eq_true rfl, Nat.le_of_ble_eq_true rfl⟩ ?_
  refine n_aload 4 dX7_init_4 rfl ?_
  refine n_new 5 (k := 11) (n := 210) (a := 29) (Y' := yy_56) (fs0 := [none, some none, some none, some none]) dX7_init_5 rfl zinX2 tyX2_ok ncl_X7_9 ninst_X2 ninit_X2 (fun _ => rfl) ndef_X2 (by decide +kernel) (by decide) (by decide +kernel) rfl rfl rfl ?_
  refine n_dup 8 dX7_init_8 rfl ?_
  refine n_callIn 9 (k := 8) (n := 150) (As := []) dX7_init_9 li_X7_11 rfl rfl ⟨Nat.le_of_ble_eq_true rfl, Nat.le_of_ble_eq_true rfl⟩ (Nat.le_of_ble_eq_true rfl) (nt_11 E (zwZ M 29)) (show yy_56.length ≤ yy_62.length by decide +kernel) rfl rfl ?_
  refine n_putF 12 (fs := [some none, some none, some none, some none, none]) (fs' := [some (some 29), some none, some none, some none, none]) (Y' := yy_63) dX7_init_12 rfl ff_X7_12 (by decide +kernel) (by decide) rfl rfl ?_
  refine n_aload 15 dX7_init_15 rfl ?_
  refine n_new 16 (k := 7) (n := 146) (a := 33) (Y' := yy_64) (fs0 := [none, some none, some none, some none]) dX7_init_16 rfl zinX2 tyX2_ok ncl_X7_9 ninst_X2 ninit_X2 (fun _ => rfl) ndef_X2 (by decide +kernel) (by decide) (by decide +kernel) rfl rfl rfl ?_
  refine n_dup 19 dX7_init_19 rfl ?_
  refine n_callIn 20 (k := 4) (n := 86) (As := []) dX7_init_20 li_X7_11 rfl rfl ⟨Nat.le_of_ble_eq_true rfl, Nat.le_of_ble_eq_true rfl⟩ (Nat.le_of_ble_eq_true rfl) (nt_12 E (zwZ (mm_11 (zwZ M 29)) 33)) (show yy_64.length ≤ yy_70.length by decide +kernel) rfl rfl ?_
  refine n_putF 23 (fs := [some (some 29), some none, some none, some none, none]) (fs' := [some (some 29), some (some 33), some none, some none, none]) (Y' := yy_71) dX7_init_23 rfl ff_X7_18 (by decide +kernel) (by decide) rfl rfl ?_
  refine n_aload 26 dX7_init_26 rfl ?_
  refine n_new 27 (k := 3) (n := 84) (a := 37) (Y' := yy_72) (fs0 := [some none, some none]) dX7_init_27 rfl zinX6 tyX6_ok ncl_X7_21 ninst_X6 ninit_X6 (fun _ => rfl) ndef_X6 (by decide +kernel) (by decide) (by decide +kernel) rfl rfl rfl ?_
  refine n_dup 30 dX7_init_30 rfl ?_
  refine n_callI 31 (k := 1) (n := 10) (As := []) dX7_init_31 li_X7_23 rfl rfl ⟨Nat.le_of_ble_eq_true rfl, Nat.le_of_ble_eq_true rfl⟩ (Nat.le_of_ble_eq_true rfl) (nt_13 E (zwZ (mm_12 (zwZ (mm_11 (zwZ M 29)) 33)) 37)) (show yy_72.length ≤ yy_76.length by decide +kernel) rfl rfl ?_
  refine n_putF 34 (fs := [some (some 29), some (some 33), some none, some none, none]) (fs' := [some (some 29), some (some 33), some (some 37), some none, none]) (Y' := yy_77) dX7_init_34 rfl ff_X7_24 (by decide +kernel) (by decide) rfl rfl ?_
  refine n_aload 37 dX7_init_37 rfl ?_
  refine n_bipush 38 dX7_init_38 zbp_10 ?_
  refine n_newa 40 (k := 0) (n := 0) (t := 0) (N := 10) (a := 40) (Y' := yy_78) dX7_init_40 (by decide) rfl narr_0 (by decide) (by decide) (by decide) (by decide +kernel) (by decide) (by decide +kernel) rfl rfl rfl ?_
  refine n_putF 42 (fs := [some (some 29), some (some 33), some (some 37), some none, none]) (fs' := [some (some 29), some (some 33), some (some 37), some (some 40), none]) (Y' := yy_79) dX7_init_42 rfl ff_X7_28 (by decide +kernel) (by decide) rfl rfl ?_
  refine n_aload 45 dX7_init_45 rfl ?_
  refine n_getR 46 (r := 40) (fs := [some (some 29), some (some 33), some (some 37), some (some 40), none]) dX7_init_46 fg_X7_28 (by decide +kernel) rfl ?_
  refine n_bipush 49 dX7_init_49 zbp_m4 ?_
  refine n_callS2 51 (d' := mJ7_fill_53178) (M1 := zwA (zwZ (mm_13 (zwZ (mm_12 (zwZ (mm_11 (zwZ M 29)) 33)) 37)) 40) 40 (zfl ((zwZ (mm_13 (zwZ (mm_12 (zwZ (mm_11 (zwZ M 29)) 33)) 37)) 40).1 40) 10 (-4))) dX7_init_51 lv_X7_32 ⟨Nat.le_of_ble_eq_true rfl, Nat.le_of_ble_eq_true rfl⟩ (Nat.le_of_ble_eq_true rfl) (fun E' => by rw [← pfill _ _ _ _ (by decide)]; exact tJ7_fill_53178 E' _ 40 10 (by decide +kernel) _ _) ?_
  exact n_end 54 ⟨dX7_init_54, rfl⟩
def mm_14 (M : zM) : zM := (zwZ M 43)
set_option maxHeartbeats 4000000 in
set_option maxRecDepth 100000 in
theorem nt_14 (E : zE) (M : zM) : zMn E mX8_init [.ref 42] (yy_83, M) (yy_85, mm_14 M) 1 64 := by
  refine zMn_of (L := [some (.ref 42)]) plX8 rfl rfl (fun _ => Nat.le_of_ble_eq_true rfl) (fun _ => rfl) ?_
  refine n_aload 0 dX8_init_0 rfl ?_
  refine n_obj 1 dX8_init_1 nob_X8_3 nob_i nob_c ⟨Nat.le_of_ble_eq_true rfl, Nat.le_of_ble_eq_true rfl⟩ ?_
  refine n_aload 4 dX8_init_4 rfl ?_
  refine n_bipush 5 dX8_init_5 zbp_64 ?_
  refine n_newa 7 (k := 0) (n := 0) (t := 0) (N := 64) (a := 43) (Y' := yy_84) dX8_init_7 (by decide) rfl narr_0 (by decide) (by decide) (by decide) (by decide +kernel) (by decide) (by decide +kernel) rfl rfl rfl ?_
  refine n_putF 9 (fs := [none, none, none, some none]) (fs' := [none, none, none, some (some 43)]) (Y' := yy_85) dX8_init_9 rfl ff_X8_11 (by decide +kernel) (by decide) rfl rfl ?_
  exact n_end 12 ⟨dX8_init_12, rfl⟩
def mm_15 (M : zM) : zM := (zwZ M 45)
set_option maxHeartbeats 4000000 in
set_option maxRecDepth 100000 in
theorem nt_15 (E : zE) (M : zM) : zMn E mX8_init [.ref 44] (yy_87, M) (yy_89, mm_15 M) 1 64 := by
  refine zMn_of (L := [some (.ref 44)]) plX8 rfl rfl (fun _ => Nat.le_of_ble_eq_true rfl) (fun _ => rfl) ?_
  refine n_aload 0 dX8_init_0 rfl ?_
  refine n_obj 1 dX8_init_1 nob_X8_3 nob_i nob_c ⟨Nat.le_of_ble_eq_true rfl, Nat.le_of_ble_eq_true rfl⟩ ?_
  refine n_aload 4 dX8_init_4 rfl ?_
  refine n_bipush 5 dX8_init_5 zbp_64 ?_
  refine n_newa 7 (k := 0) (n := 0) (t := 0) (N := 64) (a := 45) (Y' := yy_88) dX8_init_7 (by decide) rfl narr_0 (by decide) (by decide) (by decide) (by decide +kernel) (by decide) (by decide +kernel) rfl rfl rfl ?_
  refine n_putF 9 (fs := [none, none, none, some none]) (fs' := [none, none, none, some (some 45)]) (Y' := yy_89) dX8_init_9 rfl ff_X8_11 (by decide +kernel) (by decide) rfl rfl ?_
  exact n_end 12 ⟨dX8_init_12, rfl⟩
def mm_16 (M : zM) : zM := (zwZ M 47)
set_option maxHeartbeats 4000000 in
set_option maxRecDepth 100000 in
theorem nt_16 (E : zE) (M : zM) : zMn E mX8_init [.ref 46] (yy_91, M) (yy_93, mm_16 M) 1 64 := by
  refine zMn_of (L := [some (.ref 46)]) plX8 rfl rfl (fun _ => Nat.le_of_ble_eq_true rfl) (fun _ => rfl) ?_
  refine n_aload 0 dX8_init_0 rfl ?_
  refine n_obj 1 dX8_init_1 nob_X8_3 nob_i nob_c ⟨Nat.le_of_ble_eq_true rfl, Nat.le_of_ble_eq_true rfl⟩ ?_
  refine n_aload 4 dX8_init_4 rfl ?_
  refine n_bipush 5 dX8_init_5 zbp_64 ?_
  refine n_newa 7 (k := 0) (n := 0) (t := 0) (N := 64) (a := 47) (Y' := yy_92) dX8_init_7 (by decide) rfl narr_0 (by decide) (by decide) (by decide) (by decide +kernel) (by decide) (by decide +kernel) rfl rfl rfl ?_
  refine n_putF 9 (fs := [none, none, none, some none]) (fs' := [none, none, none, some (some 47)]) (Y' := yy_93) dX8_init_9 rfl ff_X8_11 (by decide +kernel) (by decide) rfl rfl ?_
  exact n_end 12 ⟨dX8_init_12, rfl⟩
def mm_17 (M : zM) : zM := (zwZ M 49)
set_option maxHeartbeats 4000000 in
set_option maxRecDepth 100000 in
theorem nt_17 (E : zE) (M : zM) : zMn E mX8_init [.ref 48] (yy_95, M) (yy_97, mm_17 M) 1 64 := by
  refine zMn_of (L := [some (.ref 48)]) plX8 rfl rfl (fun _ => Nat.le_of_ble_eq_true rfl) (fun _ => rfl) ?_
  refine n_aload 0 dX8_init_0 rfl ?_
  refine n_obj 1 dX8_init_1 nob_X8_3 nob_i nob_c ⟨Nat.le_of_ble_eq_true rfl, Nat.le_of_ble_eq_true rfl⟩ ?_
  refine n_aload 4 dX8_init_4 rfl ?_
  refine n_bipush 5 dX8_init_5 zbp_64 ?_
  refine n_newa 7 (k := 0) (n := 0) (t := 0) (N := 64) (a := 49) (Y' := yy_96) dX8_init_7 (by decide) rfl narr_0 (by decide) (by decide) (by decide) (by decide +kernel) (by decide) (by decide +kernel) rfl rfl rfl ?_
  refine n_putF 9 (fs := [none, none, none, some none]) (fs' := [none, none, none, some (some 49)]) (Y' := yy_97) dX8_init_9 rfl ff_X8_11 (by decide +kernel) (by decide) rfl rfl ?_
  exact n_end 12 ⟨dX8_init_12, rfl⟩
def mm_18 (M : zM) : zM := (zwZ M 51)
set_option maxHeartbeats 4000000 in
set_option maxRecDepth 100000 in
theorem nt_18 (E : zE) (M : zM) : zMn E mX9_init [.ref 50] (yy_100, M) (yy_102, mm_18 M) 1 320 := by
  refine zMn_of (L := [some (.ref 50)]) plX9 rfl rfl (fun _ => Nat.le_of_ble_eq_true rfl) (fun _ => rfl) ?_
  refine n_aload 0 dX9_init_0 rfl ?_
  refine n_obj 1 dX9_init_1 nob_X9_3 nob_i nob_c ⟨Nat.le_of_ble_eq_true rfl, Nat.le_of_ble_eq_true rfl⟩ ?_
  refine n_aload 4 dX9_init_4 rfl ?_
  refine n_sipush 5 dX9_init_5 zsp_320 ?_
  refine n_newa 8 (k := 0) (n := 0) (t := 2) (N := 320) (a := 51) (Y' := yy_101) dX9_init_8 (by decide) rfl narr_2 (by decide) (by decide) (by decide) (by decide +kernel) (by decide) (by decide +kernel) rfl rfl rfl ?_
  refine n_putF 10 (fs := [some none, none, none, none, none, none, none, none, none]) (fs' := [some (some 51), none, none, none, none, none, none, none, none]) (Y' := yy_102) dX9_init_10 rfl ff_X9_11 (by decide +kernel) (by decide) rfl rfl ?_
  exact n_end 13 ⟨dX9_init_13, rfl⟩
def mm_19 (M : zM) : zM := (pset 52 (zwZ (zwZ M 53) 54))
set_option maxHeartbeats 4000000 in
set_option maxRecDepth 100000 in
theorem nt_19 (E : zE) (M : zM) : zMn E mX6_init [.ref 52] (yy_104, M) (yy_108, mm_19 M) 2 74 := by
  refine zMn_of (L := [some (.ref 52)]) plX6 rfl rfl (fun _ => Nat.le_of_ble_eq_true rfl) (fun _ => rfl) ?_
  refine n_aload 0 dX6_init_0 rfl ?_
  refine n_obj 1 dX6_init_1 nob_X6_3 nob_i nob_c ⟨Nat.le_of_ble_eq_true rfl, Nat.le_of_ble_eq_true rfl⟩ ?_
  refine n_aload 4 dX6_init_4 rfl ?_
  refine n_bipush 5 dX6_init_5 zbp_10 ?_
  refine n_newa 7 (k := 1) (n := 64) (t := 0) (N := 10) (a := 53) (Y' := yy_105) dX6_init_7 (by decide) rfl narr_0 (by decide) (by decide) (by decide) (by decide +kernel) (by decide) (by decide +kernel) rfl rfl rfl ?_
  refine n_putF 9 (fs := [some none, some none]) (fs' := [some (some 53), some none]) (Y' := yy_106) dX6_init_9 rfl ff_X6_9 (by decide +kernel) (by decide) rfl rfl ?_
  refine n_aload 12 dX6_init_12 rfl ?_
  refine n_bipush 13 dX6_init_13 zbp_64 ?_
  refine n_newa 15 (k := 0) (n := 0) (t := 0) (N := 64) (a := 54) (Y' := yy_107) dX6_init_15 (by decide) rfl narr_0 (by decide) (by decide) (by decide) (by decide +kernel) (by decide) (by decide +kernel) rfl rfl rfl ?_
  refine n_putF 17 (fs := [some (some 53), some none]) (fs' := [some (some 53), some (some 54)]) (Y' := yy_108) dX6_init_17 rfl ff_X6_15 (by decide +kernel) (by decide) rfl rfl ?_
  refine n_aload 20 dX6_init_20 rfl ?_
  refine n_callV 21 (ci := 6) (d' := mX6_setAsAtFirst) (M1 := pset 52 (zwZ (zwZ M 53) 54)) (fs := [some (some 53), some (some 54)]) dX6_init_21 lv_X6_18 (by decide +kernel) rfl rfl ⟨Nat.le_of_ble_eq_true rfl, Nat.le_of_ble_eq_true rfl⟩ (Nat.le_of_ble_eq_true rfl) (fun E' => by rw [← psetAsAtFirst]; exact tX6_setAsAtFirst E' _ 52 ⟨by decide +kernel, by decide +kernel, by decide +kernel⟩ _) ?_
  exact n_end 24 ⟨dX6_init_24, rfl⟩
def mm_20 (M : zM) : zM := (zwZ (zwZ M 56) 57)
set_option maxHeartbeats 4000000 in
set_option maxRecDepth 100000 in
theorem nt_20 (E : zE) (M : zM) : zMn E mX5_init [.ref 55] (yy_110, M) (yy_114, mm_20 M) 2 200 := by
  refine zMn_of (L := [some (.ref 55)]) plX5 rfl rfl (fun _ => Nat.le_of_ble_eq_true rfl) (fun _ => rfl) ?_
  refine n_aload 0 dX5_init_0 rfl ?_
  refine n_obj 1 dX5_init_1 nob_X5_3 nob_i nob_c ⟨Nat.le_of_ble_eq_true rfl, Nat.le_of_ble_eq_true rfl⟩ ?_
  refine n_aload 4 dX5_init_4 rfl ?_
  refine n_bipush 5 dX5_init_5 zbp_100 ?_
  refine n_newa 7 (k := 1) (n := 100) (t := 0) (N := 100) (a := 56) (Y' := yy_111) dX5_init_7 (by decide) rfl narr_0 (by decide) (by decide) (by decide) (by decide +kernel) (by decide) (by decide +kernel) rfl rfl rfl ?_
  refine n_putF 9 (fs := [none, none, none, none, some none, some none]) (fs' := [none, none, none, none, some (some 56), some none]) (Y' := yy_112) dX5_init_9 rfl ff_X5_9 (by decide +kernel) (by decide) rfl rfl ?_
  refine n_aload 12 dX5_init_12 rfl ?_
  refine n_bipush 13 dX5_init_13 zbp_100 ?_
  refine n_newa 15 (k := 0) (n := 0) (t := 0) (N := 100) (a := 57) (Y' := yy_113) dX5_init_15 (by decide) rfl narr_0 (by decide) (by decide) (by decide) (by decide +kernel) (by decide) (by decide +kernel) rfl rfl rfl ?_
  refine n_putF 17 (fs := [none, none, none, none, some (some 56), some none]) (fs' := [none, none, none, none, some (some 56), some (some 57)]) (Y' := yy_114) dX5_init_17 rfl ff_X5_15 (by decide +kernel) (by decide) rfl rfl ?_
  exact n_end 20 ⟨dX5_init_20, rfl⟩
def mm_22 (M : zM) : zM := (zwZ (zwZ (zwZ (zwZ (zwZ (zwZ M 60) 61) 62) 63) 64) 65)
set_option maxHeartbeats 4000000 in
set_option maxRecDepth 100000 in
theorem nt_22 (E : zE) (M : zM) : zMn E mX3_init [.ref 59] (yy_117, M) (yy_129, mm_22 M) 6 155 := by
  refine zMn_of (L := [some (.ref 59)]) plX3 rfl rfl (fun _ => Nat.le_of_ble_eq_true rfl) (fun _ => rfl) ?_
  refine n_aload 0 dX3_init_0 rfl ?_
  refine n_obj 1 dX3_init_1 nob_X3_3 nob_i nob_c ⟨Nat.le_of_ble_eq_true rfl, Nat.le_of_ble_eq_true rfl⟩ ?_
  refine n_aload 4 dX3_init_4 rfl ?_
  refine n_bipush 5 dX3_init_5 zbp_100 ?_
  refine n_newa 7 (k := 5) (n := 55) (t := 1) (N := 100) (a := 60) (Y' := yy_118) dX3_init_7 (by decide) rfl narr_1 (by decide) (by decide) (by decide) (by decide +kernel) (by decide) (by decide +kernel) rfl rfl rfl ?_
  refine n_putF 9 (fs := [none, none, some none, some none, some none, some none, some none, some none]) (fs' := [none, none, some (some 60), some none, some none, some none, some none, some none]) (Y' := yy_119) dX3_init_9 rfl ff_X3_9 (by decide +kernel) (by decide) rfl rfl ?_
  refine n_aload 12 dX3_init_12 rfl ?_
  refine n_bipush 13 dX3_init_13 zbp_11 ?_
  refine n_newa 15 (k := 4) (n := 44) (t := 1) (N := 11) (a := 61) (Y' := yy_120) dX3_init_15 (by decide) rfl narr_1 (by decide) (by decide) (by decide) (by decide +kernel) (by decide) (by decide +kernel) rfl rfl rfl ?_
  refine n_putF 17 (fs := [none, none, some (some 60), some none, some none, some none, some none, some none]) (fs' := [none, none, some (some 60), some (some 61), some none, some none, some none, some none]) (Y' := yy_121) dX3_init_17 rfl ff_X3_15 (by decide +kernel) (by decide) rfl rfl ?_
  refine n_aload 20 dX3_init_20 rfl ?_
  refine n_bipush 21 dX3_init_21 zbp_11 ?_
  refine n_newa 23 (k := 3) (n := 33) (t := 1) (N := 11) (a := 62) (Y' := yy_122) dX3_init_23 (by decide) rfl narr_1 (by decide) (by decide) (by decide) (by decide +kernel) (by decide) (by decide +kernel) rfl rfl rfl ?_
  refine n_putF 25 (fs := [none, none, some (some 60), some (some 61), some none, some none, some none, some none]) (fs' := [none, none, some (some 60), some (some 61), some (some 62), some none, some none, some none]) (Y' := yy_123) dX3_init_25 rfl ff_X3_18 (by decide +kernel) (by decide) rfl rfl ?_
  refine n_aload 28 dX3_init_28 rfl ?_
  refine n_bipush 29 dX3_init_29 zbp_11 ?_
  refine n_newa 31 (k := 2) (n := 22) (t := 1) (N := 11) (a := 63) (Y' := yy_124) dX3_init_31 (by decide) rfl narr_1 (by decide) (by decide) (by decide) (by decide +kernel) (by decide) (by decide +kernel) rfl rfl rfl ?_
  refine n_putF 33 (fs := [none, none, some (some 60), some (some 61), some (some 62), some none, some none, some none]) (fs' := [none, none, some (some 60), some (some 61), some (some 62), some (some 63), some none, some none]) (Y' := yy_125) dX3_init_33 rfl ff_X3_21 (by decide +kernel) (by decide) rfl rfl ?_
  refine n_aload 36 dX3_init_36 rfl ?_
  refine n_bipush 37 dX3_init_37 zbp_11 ?_
  refine n_newa 39 (k := 1) (n := 11) (t := 0) (N := 11) (a := 64) (Y' := yy_126) dX3_init_39 (by decide) rfl narr_0 (by decide) (by decide) (by decide) (by decide +kernel) (by decide) (by decide +kernel) rfl rfl rfl ?_
  refine n_putF 41 (fs := [none, none, some (some 60), some (some 61), some (some 62), some (some 63), some none, some none]) (fs' := [none, none, some (some 60), some (some 61), some (some 62), some (some 63), some (some 64), some none]) (Y' := yy_127) dX3_init_41 rfl ff_X3_24 (by decide +kernel) (by decide) rfl rfl ?_
  refine n_aload 44 dX3_init_44 rfl ?_
  refine n_bipush 45 dX3_init_45 zbp_11 ?_
  refine n_newa 47 (k := 0) (n := 0) (t := 0) (N := 11) (a := 65) (Y' := yy_128) dX3_init_47 (by decide) rfl narr_0 (by decide) (by decide) (by decide) (by decide +kernel) (by decide) (by decide +kernel) rfl rfl rfl ?_
  refine n_putF 49 (fs := [none, none, some (some 60), some (some 61), some (some 62), some (some 63), some (some 64), some none]) (fs' := [none, none, some (some 60), some (some 61), some (some 62), some (some 63), some (some 64), some (some 65)]) (Y' := yy_129) dX3_init_49 rfl ff_X3_28 (by decide +kernel) (by decide) rfl rfl ?_
  exact n_end 52 ⟨dX3_init_52, rfl⟩
def mm_21 (M : zM) : zM := (zwA (zwZ (mm_22 (zwZ M 59)) 66) 66 (zfl ((zwZ (mm_22 (zwZ M 59)) 66).1 66) 10 (-4)))
set_option maxHeartbeats 4000000 in
set_option maxRecDepth 100000 in
theorem nt_21 (E : zE) (M : zM) : zMn E mX4_init [.ref 58, .ref 55] (yy_116, M) (yy_133, mm_21 M) 8 173 := by
  refine zMn_of (L := [some (.ref 58), some (.ref 55)]) plX4 rfl rfl (fun _ => Nat.le_of_ble_eq_true rfl) (fun _ => rfl) ?_
  refine n_aload 0 dX4_init_0 rfl ?_
  refine n_obj 1 dX4_init_1 nob_X4_3 nob_i nob_c ⟨Nat.le_of_ble_eq_true rfl, Nat.le_of_ble_eq_true rfl⟩ ?_
  refine n_aload 4 dX4_init_4 rfl ?_
  refine n_new 5 (k := 7) (n := 165) (a := 59) (Y' := yy_117) (fs0 := [none, none, some none, some none, some none, some none, some none, some none]) dX4_init_5 rfl zinX3 tyX3_ok ncl_X4_9 ninst_X3 ninit_X3 (fun _ => rfl) ndef_X3 (by decide +kernel) (by decide) (by decide +kernel) rfl rfl rfl ?_
  refine n_dup 8 dX4_init_8 rfl ?_
  refine n_callIn 9 (k := 1) (n := 10) (As := []) dX4_init_9 li_X4_11 rfl rfl ⟨Nat.le_of_ble_eq_true rfl, Nat.le_of_ble_eq_true rfl⟩ (Nat.le_of_ble_eq_true rfl) (nt_22 E (zwZ M 59)) (show yy_117.length ≤ yy_129.length by decide +kernel) rfl rfl ?_
  refine n_putF 12 (fs := [some none, some none, some none]) (fs' := [some none, some (some 59), some none]) (Y' := yy_130) dX4_init_12 rfl ff_X4_12 (by decide +kernel) (by decide) rfl rfl ?_
  refine n_aload 15 dX4_init_15 rfl ?_
  refine n_bipush 16 dX4_init_16 zbp_10 ?_
  refine n_newa 18 (k := 0) (n := 0) (t := 0) (N := 10) (a := 66) (Y' := yy_131) dX4_init_18 (by decide) rfl narr_0 (by decide) (by decide) (by decide) (by decide +kernel) (by decide) (by decide +kernel) rfl rfl rfl ?_
  refine n_putF 20 (fs := [some none, some (some 59), some none]) (fs' := [some none, some (some 59), some (some 66)]) (Y' := yy_132) dX4_init_20 rfl ff_X4_18 (by decide +kernel) (by decide) rfl rfl ?_
  refine n_aload 23 dX4_init_23 rfl ?_
  refine n_aload 24 dX4_init_24 rfl ?_
  refine n_putF 25 (fs := [some none, some (some 59), some (some 66)]) (fs' := [some (some 55), some (some 59), some (some 66)]) (Y' := yy_133) dX4_init_25 rfl ff_X4_22 (by decide +kernel) (by decide) rfl rfl ?_
  refine n_aload 28 dX4_init_28 rfl ?_
  refine n_getR 29 (r := 66) (fs := [some (some 55), some (some 59), some (some 66)]) dX4_init_29 fg_X4_18 (by decide +kernel) rfl ?_
  refine n_bipush 32 dX4_init_32 zbp_m4 ?_
  refine n_callS2 34 (d' := mJ7_fill_53178) (M1 := zwA (zwZ (mm_22 (zwZ M 59)) 66) 66 (zfl ((zwZ (mm_22 (zwZ M 59)) 66).1 66) 10 (-4))) dX4_init_34 lv_X4_26 ⟨Nat.le_of_ble_eq_true rfl, Nat.le_of_ble_eq_true rfl⟩ (Nat.le_of_ble_eq_true rfl) (fun E' => by rw [← pfill _ _ _ _ (by decide)]; exact tJ7_fill_53178 E' _ 66 10 (by decide +kernel) _ _) ?_
  exact n_end 37 ⟨dX4_init_37, rfl⟩
def mm_23 (M : zM) : zM := (zwZ (zwZ M 68) 69)
set_option maxHeartbeats 4000000 in
set_option maxRecDepth 100000 in
theorem nt_23 (E : zE) (M : zM) : zMn E mX0_init [.ref 67] (yy_135, M) (yy_139, mm_23 M) 2 2048 := by
  refine zMn_of (L := [some (.ref 67)]) plX0 rfl rfl (fun _ => Nat.le_of_ble_eq_true rfl) (fun _ => rfl) ?_
  refine n_aload 0 dX0_init_0 rfl ?_
  refine n_obj 1 dX0_init_1 nob_X0_3 nob_i nob_c ⟨Nat.le_of_ble_eq_true rfl, Nat.le_of_ble_eq_true rfl⟩ ?_
  refine n_aload 4 dX0_init_4 rfl ?_
  refine n_sipush 5 dX0_init_5 zsp_1024 ?_
  refine n_newa 8 (k := 1) (n := 1024) (t := 0) (N := 1024) (a := 68) (Y' := yy_136) dX0_init_8 (by decide) rfl narr_0 (by decide) (by decide) (by decide) (by decide +kernel) (by decide) (by decide +kernel) rfl rfl rfl ?_
  refine n_putF 10 (fs := [some none, some none]) (fs' := [some (some 68), some none]) (Y' := yy_137) dX0_init_10 rfl ff_X0_9 (by decide +kernel) (by decide) rfl rfl ?_
  refine n_aload 13 dX0_init_13 rfl ?_
  refine n_sipush 14 dX0_init_14 zsp_1024 ?_
  refine n_newa 17 (k := 0) (n := 0) (t := 0) (N := 1024) (a := 69) (Y' := yy_138) dX0_init_17 (by decide) rfl narr_0 (by decide) (by decide) (by decide) (by decide +kernel) (by decide) (by decide +kernel) rfl rfl rfl ?_
  refine n_putF 19 (fs := [some (some 68), some none]) (fs' := [some (some 68), some (some 69)]) (Y' := yy_139) dX0_init_19 rfl ff_X0_15 (by decide +kernel) (by decide) rfl rfl ?_
  exact n_end 22 ⟨dX0_init_22, rfl⟩
def mm_24 (M : zM) : zM := (zwZ (zwZ (zwZ M 71) 72) 73)
set_option maxHeartbeats 4000000 in
set_option maxRecDepth 100000 in
theorem nt_24 (E : zE) (M : zM) : zMn E mX1_init [.ref 70] (yy_141, M) (yy_147, mm_24 M) 3 2058 := by
  refine zMn_of (L := [some (.ref 70)]) plX1 rfl rfl (fun _ => Nat.le_of_ble_eq_true rfl) (fun _ => rfl) ?_
  refine n_aload 0 dX1_init_0 rfl ?_
  refine n_obj 1 dX1_init_1 nob_X1_3 nob_i nob_c ⟨Nat.le_of_ble_eq_true rfl, Nat.le_of_ble_eq_true rfl⟩ ?_
  refine n_aload 4 dX1_init_4 rfl ?_
  refine n_bipush 5 dX1_init_5 zbp_10 ?_
  refine n_newa 7 (k := 2) (n := 2048) (t := 0) (N := 10) (a := 71) (Y' := yy_142) dX1_init_7 (by decide) rfl narr_0 (by decide) (by decide) (by decide) (by decide +kernel) (by decide) (by decide +kernel) rfl rfl rfl ?_
  refine n_putF 9 (fs := [none, some none, some none, some none]) (fs' := [none, some (some 71), some none, some none]) (Y' := yy_143) dX1_init_9 rfl ff_X1_9 (by decide +kernel) (by decide) rfl rfl ?_
  refine n_aload 12 dX1_init_12 rfl ?_
  refine n_sipush 13 dX1_init_13 zsp_1024 ?_
  refine n_newa 16 (k := 1) (n := 1024) (t := 3) (N := 1024) (a := 72) (Y' := yy_144) dX1_init_16 (by decide) rfl narr_3 (by decide) (by decide) (by decide) (by decide +kernel) (by decide) (by decide +kernel) rfl rfl rfl ?_
  refine n_putF 18 (fs := [none, some (some 71), some none, some none]) (fs' := [none, some (some 71), some (some 72), some none]) (Y' := yy_145) dX1_init_18 rfl ff_X1_15 (by decide +kernel) (by decide) rfl rfl ?_
  refine n_aload 21 dX1_init_21 rfl ?_
  refine n_sipush 22 dX1_init_22 zsp_1024 ?_
  refine n_newa 25 (k := 0) (n := 0) (t := 0) (N := 1024) (a := 73) (Y' := yy_146) dX1_init_25 (by decide) rfl narr_0 (by decide) (by decide) (by decide) (by decide +kernel) (by decide) (by decide +kernel) rfl rfl rfl ?_
  refine n_putF 27 (fs := [none, some (some 71), some (some 72), some none]) (fs' := [none, some (some 71), some (some 72), some (some 73)]) (Y' := yy_147) dX1_init_27 rfl ff_X1_19 (by decide +kernel) (by decide) rfl rfl ?_
  exact n_end 30 ⟨dX1_init_30, rfl⟩
def mm_1 (M : zM) : zM := (zwI (zwZ (zwZ (mm_24 (zwZ (mm_23 (zwZ (mm_21 (zwZ (mm_20 (zwZ (mm_19 (zwZ (mm_18 (zwZ (mm_17 (zwZ (mm_16 (zwZ (mm_15 (zwZ (mm_14 (zwZ (zwZ (mm_10 (zwZ (mm_6 (zwZ (zwZ (mm_2 (zwZ M 1)) 14) 15)) 28)) 41) 42)) 44)) 46)) 48)) 50)) 52)) 55)) 58)) 67)) 70)) 74) 75) 0 11 0)
set_option maxHeartbeats 4000000 in
set_option maxRecDepth 100000 in
theorem nt_1 (E : zE) (M : zM) : zMn E mX10_init [.ref 0] (yy_1, M) (yy_152, mm_1 M) 75 5918 := by
  refine zMn_of (L := [some (.ref 0)]) plX10 rfl rfl (fun _ => Nat.le_of_ble_eq_true rfl) (fun _ => rfl) ?_
  refine n_aload 0 dX10_init_0 rfl ?_
  refine n_obj 1 dX10_init_1 nob_X10_3 nob_i nob_c ⟨Nat.le_of_ble_eq_true rfl, Nat.le_of_ble_eq_true rfl⟩ ?_
  refine n_aload 4 dX10_init_4 rfl ?_
  refine n_new 5 (k := 74) (n := 5913) (a := 1) (Y' := yy_2) (fs0 := [some none, some none, some none, some none, none]) dX10_init_5 rfl zinX7 tyX7_ok ncl_X10_9 ninst_X7 ninit_X7 (fun _ => rfl) ndef_X7 (by decide +kernel) (by decide) (by decide +kernel) rfl rfl rfl ?_
  refine n_dup 8 dX10_init_8 rfl ?_
  refine n_callI 9 (k := 62) (n := 5699) (As := []) dX10_init_9 li_X10_11 rfl rfl ⟨Nat.le_of_ble_eq_true rfl, Nat.le_of_ble_eq_true rfl⟩ (Nat.le_of_ble_eq_true rfl) (nt_2 E (zwZ M 1)) (show yy_2.length ≤ yy_26.length by decide +kernel) rfl rfl ?_
  refine n_putF 12 (fs := [some none, some none, some none, some none, some none, some none, some none, some none, some none, some none, some none, none]) (fs' := [some (some 1), some none, some none, some none, some none, some none, some none, some none, some none, some none, some none, none]) (Y' := yy_27) dX10_init_12 rfl ff_X10_12 (by decide +kernel) (by decide) rfl rfl ?_
  refine n_aload 15 dX10_init_15 rfl ?_
  refine n_iconst 16 dX10_init_16 zci_2 ?_
  refine n_newq 17 (k := 61) (n := 5697) (t := 4) (N := 2) (a := 14) (Y' := yy_28) dX10_init_17 (by decide) (fun _ => rfl) ncl_X10_9 (fun _ h => h.1.1) (by decide) (by decide) (by decide) (by decide +kernel) (by decide) (by decide +kernel) rfl rfl rfl ?_
  refine n_dup 20 dX10_init_20 rfl ?_
  refine n_iconst 21 dX10_init_21 zci_0 ?_
  refine n_new 22 (k := 60) (n := 5692) (a := 15) (Y' := yy_29) (fs0 := [some none, some none, some none, some none, none]) dX10_init_22 rfl zinX7 tyX7_ok ncl_X10_9 ninst_X7 ninit_X7 (fun _ => rfl) ndef_X7 (by decide +kernel) (by decide) (by decide +kernel) rfl rfl rfl ?_
  refine n_dup 25 dX10_init_25 rfl ?_
  refine n_callI 26 (k := 48) (n := 5478) (As := []) dX10_init_26 li_X10_11 rfl rfl ⟨Nat.le_of_ble_eq_true rfl, Nat.le_of_ble_eq_true rfl⟩ (Nat.le_of_ble_eq_true rfl) (nt_6 E (zwZ (zwZ (mm_2 (zwZ M 1)) 14) 15)) (show yy_29.length ≤ yy_53.length by decide +kernel) rfl rfl ?_
  refine n_aastore 29 (t := 4) (N := 2) (ci := 7) (i' := 0) (rs := [none, none]) (rs' := [some 15, none]) (fs := [some (some 16), some (some 20), some (some 24), some (some 27), none]) (Y' := yy_54) dX10_init_29 (by decide) (fun _ => rfl) (by decide +kernel) (by decide +kernel) rfl (by decide) (by decide) (by decide) rfl rfl ?_
  refine n_dup 30 dX10_init_30 rfl ?_
  refine n_iconst 31 dX10_init_31 zci_1 ?_
  refine n_new 32 (k := 47) (n := 5473) (a := 28) (Y' := yy_55) (fs0 := [some none, some none, some none, some none, none]) dX10_init_32 rfl zinX7 tyX7_ok ncl_X10_9 ninst_X7 ninit_X7 (fun _ => rfl) ndef_X7 (by decide +kernel) (by decide) (by decide +kernel) rfl rfl rfl ?_
  refine n_dup 35 dX10_init_35 rfl ?_
  refine n_callI 36 (k := 35) (n := 5259) (As := []) dX10_init_36 li_X10_11 rfl rfl ⟨Nat.le_of_ble_eq_true rfl, Nat.le_of_ble_eq_true rfl⟩ (Nat.le_of_ble_eq_true rfl) (nt_10 E (zwZ (mm_6 (zwZ (zwZ (mm_2 (zwZ M 1)) 14) 15)) 28)) (show yy_55.length ≤ yy_79.length by decide +kernel) rfl rfl ?_
  refine n_aastore 39 (t := 4) (N := 2) (ci := 7) (i' := 1) (rs := [some 15, none]) (rs' := [some 15, some 28]) (fs := [some (some 29), some (some 33), some (some 37), some (some 40), none]) (Y' := yy_80) dX10_init_39 (by decide) (fun _ => rfl) (by decide +kernel) (by decide +kernel) rfl (by decide) (by decide) (by decide) rfl rfl ?_
  refine n_putF 40 (fs := [some (some 1), some none, some none, some none, some none, some none, some none, some none, some none, some none, some none, none]) (fs' := [some (some 1), some (some 14), some none, some none, some none, some none, some none, some none, some none, some none, some none, none]) (Y' := yy_81) dX10_init_40 rfl ff_X10_16 (by decide +kernel) (by decide) rfl rfl ?_
  refine n_aload 43 dX10_init_43 rfl ?_
  refine n_iconst 44 dX10_init_44 zci_4 ?_
  refine n_newq 45 (k := 34) (n := 5255) (t := 5) (N := 4) (a := 41) (Y' := yy_82) dX10_init_45 (by decide) (fun _ => rfl) ncl_X10_20 (fun _ h => h.1.2) (by decide) (by decide) (by decide) (by decide +kernel) (by decide) (by decide +kernel) rfl rfl rfl ?_
  refine n_dup 48 dX10_init_48 rfl ?_
  refine n_iconst 49 dX10_init_49 zci_0 ?_
  refine n_new 50 (k := 33) (n := 5251) (a := 42) (Y' := yy_83) (fs0 := [none, none, none, some none]) dX10_init_50 rfl zinX8 tyX8_ok ncl_X10_20 ninst_X8 ninit_X8 (fun _ => rfl) ndef_X8 (by decide +kernel) (by decide) (by decide +kernel) rfl rfl rfl ?_
  refine n_dup 53 dX10_init_53 rfl ?_
  refine n_callIn 54 (k := 32) (n := 5187) (As := []) dX10_init_54 li_X10_22 rfl rfl ⟨Nat.le_of_ble_eq_true rfl, Nat.le_of_ble_eq_true rfl⟩ (Nat.le_of_ble_eq_true rfl) (nt_14 E (zwZ (zwZ (mm_10 (zwZ (mm_6 (zwZ (zwZ (mm_2 (zwZ M 1)) 14) 15)) 28)) 41) 42)) (show yy_83.length ≤ yy_85.length by decide +kernel) rfl rfl ?_
  refine n_aastore 57 (t := 5) (N := 4) (ci := 8) (i' := 0) (rs := [none, none, none, none]) (rs' := [some 42, none, none, none]) (fs := [none, none, none, some (some 43)]) (Y' := yy_86) dX10_init_57 (by decide) (fun _ => rfl) (by decide +kernel) (by decide +kernel) rfl (by decide) (by decide) (by decide) rfl rfl ?_
  refine n_dup 58 dX10_init_58 rfl ?_
  refine n_iconst 59 dX10_init_59 zci_1 ?_
  refine n_new 60 (k := 31) (n := 5183) (a := 44) (Y' := yy_87) (fs0 := [none, none, none, some none]) dX10_init_60 rfl zinX8 tyX8_ok ncl_X10_20 ninst_X8 ninit_X8 (fun _ => rfl) ndef_X8 (by decide +kernel) (by decide) (by decide +kernel) rfl rfl rfl ?_
  refine n_dup 63 dX10_init_63 rfl ?_
  refine n_callIn 64 (k := 30) (n := 5119) (As := []) dX10_init_64 li_X10_22 rfl rfl ⟨Nat.le_of_ble_eq_true rfl, Nat.le_of_ble_eq_true rfl⟩ (Nat.le_of_ble_eq_true rfl) (nt_15 E (zwZ (mm_14 (zwZ (zwZ (mm_10 (zwZ (mm_6 (zwZ (zwZ (mm_2 (zwZ M 1)) 14) 15)) 28)) 41) 42)) 44)) (show yy_87.length ≤ yy_89.length by decide +kernel) rfl rfl ?_
  refine n_aastore 67 (t := 5) (N := 4) (ci := 8) (i' := 1) (rs := [some 42, none, none, none]) (rs' := [some 42, some 44, none, none]) (fs := [none, none, none, some (some 45)]) (Y' := yy_90) dX10_init_67 (by decide) (fun _ => rfl) (by decide +kernel) (by decide +kernel) rfl (by decide) (by decide) (by decide) rfl rfl ?_
  refine n_dup 68 dX10_init_68 rfl ?_
  refine n_iconst 69 dX10_init_69 zci_2 ?_
  refine n_new 70 (k := 29) (n := 5115) (a := 46) (Y' := yy_91) (fs0 := [none, none, none, some none]) dX10_init_70 rfl zinX8 tyX8_ok ncl_X10_20 ninst_X8 ninit_X8 (fun _ => rfl) ndef_X8 (by decide +kernel) (by decide) (by decide +kernel) rfl rfl rfl ?_
  refine n_dup 73 dX10_init_73 rfl ?_
  refine n_callIn 74 (k := 28) (n := 5051) (As := []) dX10_init_74 li_X10_22 rfl rfl ⟨Nat.le_of_ble_eq_true rfl, Nat.le_of_ble_eq_true rfl⟩ (Nat.le_of_ble_eq_true rfl) (nt_16 E (zwZ (mm_15 (zwZ (mm_14 (zwZ (zwZ (mm_10 (zwZ (mm_6 (zwZ (zwZ (mm_2 (zwZ M 1)) 14) 15)) 28)) 41) 42)) 44)) 46)) (show yy_91.length ≤ yy_93.length by decide +kernel) rfl rfl ?_
  refine n_aastore 77 (t := 5) (N := 4) (ci := 8) (i' := 2) (rs := [some 42, some 44, none, none]) (rs' := [some 42, some 44, some 46, none]) (fs := [none, none, none, some (some 47)]) (Y' := yy_94) dX10_init_77 (by decide) (fun _ => rfl) (by decide +kernel) (by decide +kernel) rfl (by decide) (by decide) (by decide) rfl rfl ?_
  refine n_dup 78 dX10_init_78 rfl ?_
  refine n_iconst 79 dX10_init_79 zci_3 ?_
  refine n_new 80 (k := 27) (n := 5047) (a := 48) (Y' := yy_95) (fs0 := [none, none, none, some none]) dX10_init_80 rfl zinX8 tyX8_ok ncl_X10_20 ninst_X8 ninit_X8 (fun _ => rfl) ndef_X8 (by decide +kernel) (by decide) (by decide +kernel) rfl rfl rfl ?_
  refine n_dup 83 dX10_init_83 rfl ?_
  refine n_callIn 84 (k := 26) (n := 4983) (As := []) dX10_init_84 li_X10_22 rfl rfl ⟨Nat.le_of_ble_eq_true rfl, Nat.le_of_ble_eq_true rfl⟩ (Nat.le_of_ble_eq_true rfl) (nt_17 E (zwZ (mm_16 (zwZ (mm_15 (zwZ (mm_14 (zwZ (zwZ (mm_10 (zwZ (mm_6 (zwZ (zwZ (mm_2 (zwZ M 1)) 14) 15)) 28)) 41) 42)) 44)) 46)) 48)) (show yy_95.length ≤ yy_97.length by decide +kernel) rfl rfl ?_
  refine n_aastore 87 (t := 5) (N := 4) (ci := 8) (i' := 3) (rs := [some 42, some 44, some 46, none]) (rs' := [some 42, some 44, some 46, some 48]) (fs := [none, none, none, some (some 49)]) (Y' := yy_98) dX10_init_87 (by decide) (fun _ => rfl) (by decide +kernel) (by decide +kernel) rfl (by decide) (by decide) (by decide) rfl rfl ?_
  refine n_putF 88 (fs := [some (some 1), some (some 14), some none, some none, some none, some none, some none, some none, some none, some none, some none, none]) (fs' := [some (some 1), some (some 14), some (some 41), some none, some none, some none, some none, some none, some none, some none, some none, none]) (Y' := yy_99) dX10_init_88 rfl ff_X10_23 (by decide +kernel) (by decide) rfl rfl ?_
  refine n_aload 91 dX10_init_91 rfl ?_
  refine n_new 92 (k := 25) (n := 4974) (a := 50) (Y' := yy_100) (fs0 := [some none, none, none, none, none, none, none, none, none]) dX10_init_92 rfl zinX9 tyX9_ok ncl_X10_27 ninst_X9 ninit_X9 (fun _ => rfl) ndef_X9 (by decide +kernel) (by decide) (by decide +kernel) rfl rfl rfl ?_
  refine n_dup 95 dX10_init_95 rfl ?_
  refine n_callIn 96 (k := 24) (n := 4654) (As := []) dX10_init_96 li_X10_29 rfl rfl ⟨Nat.le_of_ble_eq_true rfl, Nat.le_of_ble_eq_true rfl⟩ (Nat.le_of_ble_eq_true rfl) (nt_18 E (zwZ (mm_17 (zwZ (mm_16 (zwZ (mm_15 (zwZ (mm_14 (zwZ (zwZ (mm_10 (zwZ (mm_6 (zwZ (zwZ (mm_2 (zwZ M 1)) 14) 15)) 28)) 41) 42)) 44)) 46)) 48)) 50)) (show yy_100.length ≤ yy_102.length by decide +kernel) rfl rfl ?_
  refine n_putF 99 (fs := [some (some 1), some (some 14), some (some 41), some none, some none, some none, some none, some none, some none, some none, some none, none]) (fs' := [some (some 1), some (some 14), some (some 41), some (some 50), some none, some none, some none, some none, some none, some none, some none, none]) (Y' := yy_103) dX10_init_99 rfl ff_X10_30 (by decide +kernel) (by decide) rfl rfl ?_
  refine n_aload 102 dX10_init_102 rfl ?_
  refine n_new 103 (k := 23) (n := 4652) (a := 52) (Y' := yy_104) (fs0 := [some none, some none]) dX10_init_103 rfl zinX6 tyX6_ok ncl_X10_34 ninst_X6 ninit_X6 (fun _ => rfl) ndef_X6 (by decide +kernel) (by decide) (by decide +kernel) rfl rfl rfl ?_
  refine n_dup 106 dX10_init_106 rfl ?_
  refine n_callI 107 (k := 21) (n := 4578) (As := []) dX10_init_107 li_X10_36 rfl rfl ⟨Nat.le_of_ble_eq_true rfl, Nat.le_of_ble_eq_true rfl⟩ (Nat.le_of_ble_eq_true rfl) (nt_19 E (zwZ (mm_18 (zwZ (mm_17 (zwZ (mm_16 (zwZ (mm_15 (zwZ (mm_14 (zwZ (zwZ (mm_10 (zwZ (mm_6 (zwZ (zwZ (mm_2 (zwZ M 1)) 14) 15)) 28)) 41) 42)) 44)) 46)) 48)) 50)) 52)) (show yy_104.length ≤ yy_108.length by decide +kernel) rfl rfl ?_
  refine n_putF 110 (fs := [some (some 1), some (some 14), some (some 41), some (some 50), some none, some none, some none, some none, some none, some none, some none, none]) (fs' := [some (some 1), some (some 14), some (some 41), some (some 50), some (some 52), some none, some none, some none, some none, some none, some none, none]) (Y' := yy_109) dX10_init_110 rfl ff_X10_37 (by decide +kernel) (by decide) rfl rfl ?_
  refine n_aload 113 dX10_init_113 rfl ?_
  refine n_new 114 (k := 20) (n := 4572) (a := 55) (Y' := yy_110) (fs0 := [none, none, none, none, some none, some none]) dX10_init_114 rfl zinX5 tyX5_ok ncl_X10_41 ninst_X5 ninit_X5 (fun _ => rfl) ndef_X5 (by decide +kernel) (by decide) (by decide +kernel) rfl rfl rfl ?_
  refine n_dup 117 dX10_init_117 rfl ?_
  refine n_callIn 118 (k := 18) (n := 4372) (As := []) dX10_init_118 li_X10_43 rfl rfl ⟨Nat.le_of_ble_eq_true rfl, Nat.le_of_ble_eq_true rfl⟩ (Nat.le_of_ble_eq_true rfl) (nt_20 E (zwZ (mm_19 (zwZ (mm_18 (zwZ (mm_17 (zwZ (mm_16 (zwZ (mm_15 (zwZ (mm_14 (zwZ (zwZ (mm_10 (zwZ (mm_6 (zwZ (zwZ (mm_2 (zwZ M 1)) 14) 15)) 28)) 41) 42)) 44)) 46)) 48)) 50)) 52)) 55)) (show yy_110.length ≤ yy_114.length by decide +kernel) rfl rfl ?_
  refine n_putF 121 (fs := [some (some 1), some (some 14), some (some 41), some (some 50), some (some 52), some none, some none, some none, some none, some none, some none, none]) (fs' := [some (some 1), some (some 14), some (some 41), some (some 50), some (some 52), some (some 55), some none, some none, some none, some none, some none, none]) (Y' := yy_115) dX10_init_121 rfl ff_X10_44 (by decide +kernel) (by decide) rfl rfl ?_
  refine n_aload 124 dX10_init_124 rfl ?_
  refine n_new 125 (k := 17) (n := 4369) (a := 58) (Y' := yy_116) (fs0 := [some none, some none, some none]) dX10_init_125 rfl zinX4 tyX4_ok ncl_X10_48 ninst_X4 ninit_X4 (fun _ => rfl) ndef_X4 (by decide +kernel) (by decide) (by decide +kernel) rfl rfl rfl ?_
  refine n_dup 128 dX10_init_128 rfl ?_
  refine n_aload 129 dX10_init_129 rfl ?_
  refine n_getR 130 (r := 55) (fs := [some (some 1), some (some 14), some (some 41), some (some 50), some (some 52), some (some 55), some none, some none, some none, some none, some none, none]) dX10_init_130 fg_X10_44 (by decide +kernel) rfl ?_
  refine n_callI 133 (k := 9) (n := 4196) (As := [.ref 55]) dX10_init_133 li_X10_50 rfl rfl ⟨Nat.le_of_ble_eq_true rfl, Nat.le_of_ble_eq_true rfl⟩ (Nat.le_of_ble_eq_true rfl) (nt_21 E (zwZ (mm_20 (zwZ (mm_19 (zwZ (mm_18 (zwZ (mm_17 (zwZ (mm_16 (zwZ (mm_15 (zwZ (mm_14 (zwZ (zwZ (mm_10 (zwZ (mm_6 (zwZ (zwZ (mm_2 (zwZ M 1)) 14) 15)) 28)) 41) 42)) 44)) 46)) 48)) 50)) 52)) 55)) 58)) (show yy_116.length ≤ yy_133.length by decide +kernel) rfl rfl ?_
  refine n_putF 136 (fs := [some (some 1), some (some 14), some (some 41), some (some 50), some (some 52), some (some 55), some none, some none, some none, some none, some none, none]) (fs' := [some (some 1), some (some 14), some (some 41), some (some 50), some (some 52), some (some 55), some (some 58), some none, some none, some none, some none, none]) (Y' := yy_134) dX10_init_136 rfl ff_X10_53 (by decide +kernel) (by decide) rfl rfl ?_
  refine n_aload 139 dX10_init_139 rfl ?_
  refine n_new 140 (k := 8) (n := 4194) (a := 67) (Y' := yy_135) (fs0 := [some none, some none]) dX10_init_140 rfl zinX0 tyX0_ok ncl_X10_57 ninst_X0 ninit_X0 (fun _ => rfl) ndef_X0 (by decide +kernel) (by decide) (by decide +kernel) rfl rfl rfl ?_
  refine n_dup 143 dX10_init_143 rfl ?_
  refine n_callIn 144 (k := 6) (n := 2146) (As := []) dX10_init_144 li_X10_59 rfl rfl ⟨Nat.le_of_ble_eq_true rfl, Nat.le_of_ble_eq_true rfl⟩ (Nat.le_of_ble_eq_true rfl) (nt_23 E (zwZ (mm_21 (zwZ (mm_20 (zwZ (mm_19 (zwZ (mm_18 (zwZ (mm_17 (zwZ (mm_16 (zwZ (mm_15 (zwZ (mm_14 (zwZ (zwZ (mm_10 (zwZ (mm_6 (zwZ (zwZ (mm_2 (zwZ M 1)) 14) 15)) 28)) 41) 42)) 44)) 46)) 48)) 50)) 52)) 55)) 58)) 67)) (show yy_135.length ≤ yy_139.length by decide +kernel) rfl rfl ?_
  refine n_putF 147 (fs := [some (some 1), some (some 14), some (some 41), some (some 50), some (some 52), some (some 55), some (some 58), some none, some none, some none, some none, none]) (fs' := [some (some 1), some (some 14), some (some 41), some (some 50), some (some 52), some (some 55), some (some 58), some (some 67), some none, some none, some none, none]) (Y' := yy_140) dX10_init_147 rfl ff_X10_60 (by decide +kernel) (by decide) rfl rfl ?_
  refine n_aload 150 dX10_init_150 rfl ?_
  refine n_new 151 (k := 5) (n := 2142) (a := 70) (Y' := yy_141) (fs0 := [none, some none, some none, some none]) dX10_init_151 rfl zinX1 tyX1_ok ncl_X10_64 ninst_X1 ninit_X1 (fun _ => rfl) ndef_X1 (by decide +kernel) (by decide) (by decide +kernel) rfl rfl rfl ?_
  refine n_dup 154 dX10_init_154 rfl ?_
  refine n_callIn 155 (k := 2) (n := 84) (As := []) dX10_init_155 li_X10_66 rfl rfl ⟨Nat.le_of_ble_eq_true rfl, Nat.le_of_ble_eq_true rfl⟩ (Nat.le_of_ble_eq_true rfl) (nt_24 E (zwZ (mm_23 (zwZ (mm_21 (zwZ (mm_20 (zwZ (mm_19 (zwZ (mm_18 (zwZ (mm_17 (zwZ (mm_16 (zwZ (mm_15 (zwZ (mm_14 (zwZ (zwZ (mm_10 (zwZ (mm_6 (zwZ (zwZ (mm_2 (zwZ M 1)) 14) 15)) 28)) 41) 42)) 44)) 46)) 48)) 50)) 52)) 55)) 58)) 67)) 70)) (show yy_141.length ≤ yy_147.length by decide +kernel) rfl rfl ?_
  refine n_putF 158 (fs := [some (some 1), some (some 14), some (some 41), some (some 50), some (some 52), some (some 55), some (some 58), some (some 67), some none, some none, some none, none]) (fs' := [some (some 1), some (some 14), some (some 41), some (some 50), some (some 52), some (some 55), some (some 58), some (some 67), some (some 70), some none, some none, none]) (Y' := yy_148) dX10_init_158 rfl ff_X10_67 (by decide +kernel) (by decide) rfl rfl ?_
  refine n_aload 161 dX10_init_161 rfl ?_
  refine n_bipush 162 dX10_init_162 zbp_20 ?_
  refine n_newa 164 (k := 1) (n := 64) (t := 0) (N := 20) (a := 74) (Y' := yy_149) dX10_init_164 (by decide) rfl narr_0 (by decide) (by decide) (by decide) (by decide +kernel) (by decide) (by decide +kernel) rfl rfl rfl ?_
  refine n_putF 166 (fs := [some (some 1), some (some 14), some (some 41), some (some 50), some (some 52), some (some 55), some (some 58), some (some 67), some (some 70), some none, some none, none]) (fs' := [some (some 1), some (some 14), some (some 41), some (some 50), some (some 52), some (some 55), some (some 58), some (some 67), some (some 70), some (some 74), some none, none]) (Y' := yy_150) dX10_init_166 rfl ff_X10_71 (by decide +kernel) (by decide) rfl rfl ?_
  refine n_aload 169 dX10_init_169 rfl ?_
  refine n_bipush 170 dX10_init_170 zbp_64 ?_
  refine n_newa 172 (k := 0) (n := 0) (t := 0) (N := 64) (a := 75) (Y' := yy_151) dX10_init_172 (by decide) rfl narr_0 (by decide) (by decide) (by decide) (by decide +kernel) (by decide) (by decide +kernel) rfl rfl rfl ?_
  refine n_putF 174 (fs := [some (some 1), some (some 14), some (some 41), some (some 50), some (some 52), some (some 55), some (some 58), some (some 67), some (some 70), some (some 74), some none, none]) (fs' := [some (some 1), some (some 14), some (some 41), some (some 50), some (some 52), some (some 55), some (some 58), some (some 67), some (some 70), some (some 74), some (some 75), none]) (Y' := yy_152) dX10_init_174 rfl ff_X10_75 (by decide +kernel) (by decide) rfl rfl ?_
  refine n_aload 177 dX10_init_177 rfl ?_
  refine n_iconst 178 dX10_init_178 zci_0 ?_
  refine n_putI 179 (fs := [some (some 1), some (some 14), some (some 41), some (some 50), some (some 52), some (some 55), some (some 58), some (some 67), some (some 70), some (some 74), some (some 75), none]) dX10_init_179 fq_X10_78 (a := 0) (ci := 10) (by decide +kernel) rfl ?_
  exact n_end 182 ⟨dX10_init_182, rfl⟩
def mm_25 (M : zM) : zM := (zwZ (zwZ (zwI (zwI (zwI (zwI (zwZ (zwZ (zwZ (zwZ (zwZ (zwZ (zwZ (zwZ (zwZ (zwZ (zwZ (zwZ (zwZ (zwZ (zwZ (zwZ (zwI (zwI (zwI (zwI (zwI (zwI (zwI (zwI (zwI (zwI (zwI (zwI (zwI (zwI (zwI (zwI (zwI (zwI (zwI (zwI (zwI (zwI (zwI (zwI (zwI (zwI (zwI (zwI (zwI (zwI (zwZ (zwI (zwI (zwI (zwI (zwI (zwI (zwI (zwI (zwI (zwI (zwZ (zwI (zwI (zwI (zwI (zwI (zwI (zwI (zwI (zwI (zwI (zwI (zwI (zwI (zwI (zwI (zwI (zwI (zwI (zwI (zwI (zwI (zwI (zwI (zwI (zwI (zwI (zwI (zwI (zwI (zwI (zwI (zwI (zwI (zwI (zwI (zwI (zwI (zwI (zwI (zwI (zwI (zwI (zwI (zwI (zwI (zwI (zwI (zwZ (zwI (zwI (zwI (zwI (zwI (zwI (zwI (zwI (zwI (zwI (zwZ (zwZ M 77) 78) 78 (zn 0) (0)) 78 (zn 1) (7)) 78 (zn 2) (12)) 78 (zn 3) (17)) 78 (zn 4) (23)) 78 (zn 5) (29)) 78 (zn 6) (32)) 78 (zn 7) (38)) 78 (zn 8) (42)) 78 (zn 9) (47)) 79) 79 (zn 0) (109)) 79 (zn 1) (105)) 79 (zn 2) (110)) 79 (zn 3) (117)) 79 (zn 4) (116)) 79 (zn 5) (101)) 79 (zn 6) (115)) 79 (zn 7) (109)) 79 (zn 8) (105)) 79 (zn 9) (120)) 79 (zn 10) (101)) 79 (zn 11) (100)) 79 (zn 12) (100)) 79 (zn 13) (111)) 79 (zn 14) (117)) 79 (zn 15) (98)) 79 (zn 16) (116)) 79 (zn 17) (117)) 79 (zn 18) (110)) 79 (zn 19) (114)) 79 (zn 20) (101)) 79 (zn 21) (97)) 79 (zn 22) (100)) 79 (zn 23) (99)) 79 (zn 24) (111)) 79 (zn 25) (108)) 79 (zn 26) (111)) 79 (zn 27) (117)) 79 (zn 28) (114)) 79 (zn 29) (111)) 79 (zn 30) (102)) 79 (zn 31) (102)) 79 (zn 32) (106)) 79 (zn 33) (111)) 79 (zn 34) (105)) 79 (zn 35) (110)) 79 (zn 36) (101)) 79 (zn 37) (100)) 79 (zn 38) (108)) 79 (zn 39) (97)) 79 (zn 40) (116)) 79 (zn 41) (101)) 79 (zn 42) (101)) 79 (zn 43) (97)) 79 (zn 44) (114)) 79 (zn 45) (108)) 79 (zn 46) (121)) 80) 80 (zn 0) (10)) 80 (zn 1) (60)) 80 (zn 2) (30)) 80 (zn 3) (1)) 80 (zn 4) (4)) 80 (zn 5) (2)) 80 (zn 6) (5)) 80 (zn 7) (12)) 80 (zn 8) (12)) 80 (zn 9) (0)) 81) 81 (zn 0) (10)) 81 (zn 1) (60)) 81 (zn 2) (30)) 81 (zn 3) (1)) 81 (zn 4) (4)) 81 (zn 5) (2)) 81 (zn 6) (5)) 81 (zn 7) (12)) 81 (zn 8) (12)) 81 (zn 9) (0)) 81 (zn 10) (0)) 81 (zn 11) (0)) 81 (zn 12) (0)) 81 (zn 13) (0)) 81 (zn 14) (0)) 81 (zn 15) (0)) 81 (zn 16) (0)) 81 (zn 17) (0)) 81 (zn 18) (0)) 81 (zn 19) (0)) 81 (zn 20) (0)) 81 (zn 21) (0)) 81 (zn 22) (0)) 81 (zn 23) (0)) 81 (zn 24) (0)) 81 (zn 25) (0)) 81 (zn 26) (0)) 81 (zn 27) (0)) 81 (zn 28) (0)) 81 (zn 29) (0)) 82) 83) 84) 85) 86) 87) 88) 89) 90) 91) 92) 93) 94) 95) 96) 97) 97 (zn 0) (-4)) 97 (zn 1) (-4)) 97 (zn 2) (-4)) 97 (zn 3) (-4)) 98) 99)
set_option maxHeartbeats 4000000 in
set_option maxRecDepth 100000 in
theorem nt_25 (E : zE) (M : zM) : zMn E mX11_init [.ref 76] (yy_153, M) (yy_199, mm_25 M) 23 60929 := by
  refine zMn_of (L := [some (.ref 76)]) plX11 rfl rfl (fun _ => Nat.le_of_ble_eq_true rfl) (fun _ => rfl) ?_
  refine n_aload 0 dX11_init_0 rfl ?_
  refine n_obj 1 dX11_init_1 nob_X11_1 nob_i nob_c ⟨Nat.le_of_ble_eq_true rfl, Nat.le_of_ble_eq_true rfl⟩ ?_
  refine n_aload 4 dX11_init_4 rfl ?_
  refine n_sipush 5 dX11_init_5 zsp_320 ?_
  refine n_newa 8 (k := 22) (n := 60609) (t := 0) (N := 320) (a := 77) (Y' := yy_154) dX11_init_8 (by decide) rfl narr_0 (by decide) (by decide) (by decide) (by decide +kernel) (by decide) (by decide +kernel) rfl rfl rfl ?_
  refine n_putF 10 (fs := [some none, none, none, none, none, none, none, none, none, some none, some none, some none, some none, some none, some none, none, some none, some none, some none, some none, some none, some none, some none, some none, some none, some none, some none, some none, some none, some none, some none, some none, none]) (fs' := [some (some 77), none, none, none, none, none, none, none, none, some none, some none, some none, some none, some none, some none, none, some none, some none, some none, some none, some none, some none, some none, some none, some none, some none, some none, some none, some none, some none, some none, some none, none]) (Y' := yy_155) dX11_init_10 rfl ff_X11_7 (by decide +kernel) (by decide) rfl rfl ?_
  refine n_aload 13 dX11_init_13 rfl ?_
  refine n_bipush 14 dX11_init_14 zbp_10 ?_
  refine n_newa 16 (k := 21) (n := 60599) (t := 0) (N := 10) (a := 78) (Y' := yy_156) dX11_init_16 (by decide) rfl narr_0 (by decide) (by decide) (by decide) (by decide +kernel) (by decide) (by decide +kernel) rfl rfl rfl ?_
  refine n_dup 18 dX11_init_18 rfl ?_
  refine n_iconst 19 dX11_init_19 zci_0 ?_
  refine n_iconst 20 dX11_init_20 zci_0 ?_
  refine n_iastore 21 (N := 10) (rs := []) dX11_init_21 (by decide +kernel) (by decide) ?_
  refine n_dup 22 dX11_init_22 rfl ?_
  refine n_iconst 23 dX11_init_23 zci_1 ?_
  refine n_bipush 24 dX11_init_24 zbp_7 ?_
  refine n_iastore 26 (N := 10) (rs := []) dX11_init_26 (by decide +kernel) (by decide) ?_
  refine n_dup 27 dX11_init_27 rfl ?_
  refine n_iconst 28 dX11_init_28 zci_2 ?_
  refine n_bipush 29 dX11_init_29 zbp_12 ?_
  refine n_iastore 31 (N := 10) (rs := []) dX11_init_31 (by decide +kernel) (by decide) ?_
  refine n_dup 32 dX11_init_32 rfl ?_
  refine n_iconst 33 dX11_init_33 zci_3 ?_
  refine n_bipush 34 dX11_init_34 zbp_17 ?_
  refine n_iastore 36 (N := 10) (rs := []) dX11_init_36 (by decide +kernel) (by decide) ?_
  refine n_dup 37 dX11_init_37 rfl ?_
  refine n_iconst 38 dX11_init_38 zci_4 ?_
  refine n_bipush 39 dX11_init_39 zbp_23 ?_
  refine n_iastore 41 (N := 10) (rs := []) dX11_init_41 (by decide +kernel) (by decide) ?_
  refine n_dup 42 dX11_init_42 rfl ?_
  refine n_iconst 43 dX11_init_43 zci_5 ?_
  refine n_bipush 44 dX11_init_44 zbp_29 ?_
  refine n_iastore 46 (N := 10) (rs := []) dX11_init_46 (by decide +kernel) (by decide) ?_
  refine n_dup 47 dX11_init_47 rfl ?_
  refine n_bipush 48 dX11_init_48 zbp_6 ?_
  refine n_bipush 50 dX11_init_50 zbp_32 ?_
  refine n_iastore 52 (N := 10) (rs := []) dX11_init_52 (by decide +kernel) (by decide) ?_
  refine n_dup 53 dX11_init_53 rfl ?_
  refine n_bipush 54 dX11_init_54 zbp_7 ?_
  refine n_bipush 56 dX11_init_56 zbp_38 ?_
  refine n_iastore 58 (N := 10) (rs := []) dX11_init_58 (by decide +kernel) (by decide) ?_
  refine n_dup 59 dX11_init_59 rfl ?_
  refine n_bipush 60 dX11_init_60 zbp_8 ?_
  refine n_bipush 62 dX11_init_62 zbp_42 ?_
  refine n_iastore 64 (N := 10) (rs := []) dX11_init_64 (by decide +kernel) (by decide) ?_
  refine n_dup 65 dX11_init_65 rfl ?_
  refine n_bipush 66 dX11_init_66 zbp_9 ?_
  refine n_bipush 68 dX11_init_68 zbp_47 ?_
  refine n_iastore 70 (N := 10) (rs := []) dX11_init_70 (by decide +kernel) (by decide) ?_
  refine n_putF 71 (fs := [some (some 77), none, none, none, none, none, none, none, none, some none, some none, some none, some none, some none, some none, none, some none, some none, some none, some none, some none, some none, some none, some none, some none, some none, some none, some none, some none, some none, some none, some none, none]) (fs' := [some (some 77), none, none, none, none, none, none, none, none, some (some 78), some none, some none, some none, some none, some none, none, some none, some none, some none, some none, some none, some none, some none, some none, some none, some none, some none, some none, some none, some none, some none, some none, none]) (Y' := yy_157) dX11_init_71 rfl ff_X11_13 (by decide +kernel) (by decide) rfl rfl ?_
  refine n_aload 74 dX11_init_74 rfl ?_
  refine n_bipush 75 dX11_init_75 zbp_47 ?_
  refine n_newa 77 (k := 20) (n := 60552) (t := 0) (N := 47) (a := 79) (Y' := yy_158) dX11_init_77 (by decide) rfl narr_0 (by decide) (by decide) (by decide) (by decide +kernel) (by decide) (by decide +kernel) rfl rfl rfl ?_
  refine n_dup 79 dX11_init_79 rfl ?_
  refine n_iconst 80 dX11_init_80 zci_0 ?_
  refine n_bipush 81 dX11_init_81 zbp_109 ?_
  refine n_iastore 83 (N := 47) (rs := []) dX11_init_83 (by decide +kernel) (by decide) ?_
  refine n_dup 84 dX11_init_84 rfl ?_
  refine n_iconst 85 dX11_init_85 zci_1 ?_
  refine n_bipush 86 dX11_init_86 zbp_105 ?_
  refine n_iastore 88 (N := 47) (rs := []) dX11_init_88 (by decide +kernel) (by decide) ?_
  refine n_dup 89 dX11_init_89 rfl ?_
  refine n_iconst 90 dX11_init_90 zci_2 ?_
  refine n_bipush 91 dX11_init_91 zbp_110 ?_
  refine n_iastore 93 (N := 47) (rs := []) dX11_init_93 (by decide +kernel) (by decide) ?_
  refine n_dup 94 dX11_init_94 rfl ?_
  refine n_iconst 95 dX11_init_95 zci_3 ?_
  refine n_bipush 96 dX11_init_96 zbp_117 ?_
  refine n_iastore 98 (N := 47) (rs := []) dX11_init_98 (by decide +kernel) (by decide) ?_
  refine n_dup 99 dX11_init_99 rfl ?_
  refine n_iconst 100 dX11_init_100 zci_4 ?_
  refine n_bipush 101 dX11_init_101 zbp_116 ?_
  refine n_iastore 103 (N := 47) (rs := []) dX11_init_103 (by decide +kernel) (by decide) ?_
  refine n_dup 104 dX11_init_104 rfl ?_
  refine n_iconst 105 dX11_init_105 zci_5 ?_
  refine n_bipush 106 dX11_init_106 zbp_101 ?_
  refine n_iastore 108 (N := 47) (rs := []) dX11_init_108 (by decide +kernel) (by decide) ?_
  refine n_dup 109 dX11_init_109 rfl ?_
  refine n_bipush 110 dX11_init_110 zbp_6 ?_
  refine n_bipush 112 dX11_init_112 zbp_115 ?_
  refine n_iastore 114 (N := 47) (rs := []) dX11_init_114 (by decide +kernel) (by decide) ?_
  refine n_dup 115 dX11_init_115 rfl ?_
  refine n_bipush 116 dX11_init_116 zbp_7 ?_
  refine n_bipush 118 dX11_init_118 zbp_109 ?_
  refine n_iastore 120 (N := 47) (rs := []) dX11_init_120 (by decide +kernel) (by decide) ?_
  refine n_dup 121 dX11_init_121 rfl ?_
  refine n_bipush 122 dX11_init_122 zbp_8 ?_
  refine n_bipush 124 dX11_init_124 zbp_105 ?_
  refine n_iastore 126 (N := 47) (rs := []) dX11_init_126 (by decide +kernel) (by decide) ?_
  refine n_dup 127 dX11_init_127 rfl ?_
  refine n_bipush 128 dX11_init_128 zbp_9 ?_
  refine n_bipush 130 dX11_init_130 zbp_120 ?_
  refine n_iastore 132 (N := 47) (rs := []) dX11_init_132 (by decide +kernel) (by decide) ?_
  refine n_dup 133 dX11_init_133 rfl ?_
  refine n_bipush 134 dX11_init_134 zbp_10 ?_
  refine n_bipush 136 dX11_init_136 zbp_101 ?_
  refine n_iastore 138 (N := 47) (rs := []) dX11_init_138 (by decide +kernel) (by decide) ?_
  refine n_dup 139 dX11_init_139 rfl ?_
  refine n_bipush 140 dX11_init_140 zbp_11 ?_
  refine n_bipush 142 dX11_init_142 zbp_100 ?_
  refine n_iastore 144 (N := 47) (rs := []) dX11_init_144 (by decide +kernel) (by decide) ?_
  refine n_dup 145 dX11_init_145 rfl ?_
  refine n_bipush 146 dX11_init_146 zbp_12 ?_
  refine n_bipush 148 dX11_init_148 zbp_100 ?_
  refine n_iastore 150 (N := 47) (rs := []) dX11_init_150 (by decide +kernel) (by decide) ?_
  refine n_dup 151 dX11_init_151 rfl ?_
  refine n_bipush 152 dX11_init_152 zbp_13 ?_
  refine n_bipush 154 dX11_init_154 zbp_111 ?_
  refine n_iastore 156 (N := 47) (rs := []) dX11_init_156 (by decide +kernel) (by decide) ?_
  refine n_dup 157 dX11_init_157 rfl ?_
  refine n_bipush 158 dX11_init_158 zbp_14 ?_
  refine n_bipush 160 dX11_init_160 zbp_117 ?_
  refine n_iastore 162 (N := 47) (rs := []) dX11_init_162 (by decide +kernel) (by decide) ?_
  refine n_dup 163 dX11_init_163 rfl ?_
  refine n_bipush 164 dX11_init_164 zbp_15 ?_
  refine n_bipush 166 dX11_init_166 zbp_98 ?_
  refine n_iastore 168 (N := 47) (rs := []) dX11_init_168 (by decide +kernel) (by decide) ?_
  refine n_dup 169 dX11_init_169 rfl ?_
  refine n_bipush 170 dX11_init_170 zbp_16 ?_
  refine n_bipush 172 dX11_init_172 zbp_116 ?_
  refine n_iastore 174 (N := 47) (rs := []) dX11_init_174 (by decide +kernel) (by decide) ?_
  refine n_dup 175 dX11_init_175 rfl ?_
  refine n_bipush 176 dX11_init_176 zbp_17 ?_
  refine n_bipush 178 dX11_init_178 zbp_117 ?_
  refine n_iastore 180 (N := 47) (rs := []) dX11_init_180 (by decide +kernel) (by decide) ?_
  refine n_dup 181 dX11_init_181 rfl ?_
  refine n_bipush 182 dX11_init_182 zbp_18 ?_
  refine n_bipush 184 dX11_init_184 zbp_110 ?_
  refine n_iastore 186 (N := 47) (rs := []) dX11_init_186 (by decide +kernel) (by decide) ?_
  refine n_dup 187 dX11_init_187 rfl ?_
  refine n_bipush 188 dX11_init_188 zbp_19 ?_
  refine n_bipush 190 dX11_init_190 zbp_114 ?_
  refine n_iastore 192 (N := 47) (rs := []) dX11_init_192 (by decide +kernel) (by decide) ?_
  refine n_dup 193 dX11_init_193 rfl ?_
  refine n_bipush 194 dX11_init_194 zbp_20 ?_
  refine n_bipush 196 dX11_init_196 zbp_101 ?_
  refine n_iastore 198 (N := 47) (rs := []) dX11_init_198 (by decide +kernel) (by decide) ?_
  refine n_dup 199 dX11_init_199 rfl ?_
  refine n_bipush 200 dX11_init_200 zbp_21 ?_
  refine n_bipush 202 dX11_init_202 zbp_97 ?_
  refine n_iastore 204 (N := 47) (rs := []) dX11_init_204 (by decide +kernel) (by decide) ?_
  refine n_dup 205 dX11_init_205 rfl ?_
  refine n_bipush 206 dX11_init_206 zbp_22 ?_
  refine n_bipush 208 dX11_init_208 zbp_100 ?_
  refine n_iastore 210 (N := 47) (rs := []) dX11_init_210 (by decide +kernel) (by decide) ?_
  refine n_dup 211 dX11_init_211 rfl ?_
  refine n_bipush 212 dX11_init_212 zbp_23 ?_
  refine n_bipush 214 dX11_init_214 zbp_99 ?_
  refine n_iastore 216 (N := 47) (rs := []) dX11_init_216 (by decide +kernel) (by decide) ?_
  refine n_dup 217 dX11_init_217 rfl ?_
  refine n_bipush 218 dX11_init_218 zbp_24 ?_
  refine n_bipush 220 dX11_init_220 zbp_111 ?_
  refine n_iastore 222 (N := 47) (rs := []) dX11_init_222 (by decide +kernel) (by decide) ?_
  refine n_dup 223 dX11_init_223 rfl ?_
  refine n_bipush 224 dX11_init_224 zbp_25 ?_
  refine n_bipush 226 dX11_init_226 zbp_108 ?_
  refine n_iastore 228 (N := 47) (rs := []) dX11_init_228 (by decide +kernel) (by decide) ?_
  refine n_dup 229 dX11_init_229 rfl ?_
  refine n_bipush 230 dX11_init_230 zbp_26 ?_
  refine n_bipush 232 dX11_init_232 zbp_111 ?_
  refine n_iastore 234 (N := 47) (rs := []) dX11_init_234 (by decide +kernel) (by decide) ?_
  refine n_dup 235 dX11_init_235 rfl ?_
  refine n_bipush 236 dX11_init_236 zbp_27 ?_
  refine n_bipush 238 dX11_init_238 zbp_117 ?_
  refine n_iastore 240 (N := 47) (rs := []) dX11_init_240 (by decide +kernel) (by decide) ?_
  refine n_dup 241 dX11_init_241 rfl ?_
  refine n_bipush 242 dX11_init_242 zbp_28 ?_
  refine n_bipush 244 dX11_init_244 zbp_114 ?_
  refine n_iastore 246 (N := 47) (rs := []) dX11_init_246 (by decide +kernel) (by decide) ?_
  refine n_dup 247 dX11_init_247 rfl ?_
  refine n_bipush 248 dX11_init_248 zbp_29 ?_
  refine n_bipush 250 dX11_init_250 zbp_111 ?_
  refine n_iastore 252 (N := 47) (rs := []) dX11_init_252 (by decide +kernel) (by decide) ?_
  refine n_dup 253 dX11_init_253 rfl ?_
  refine n_bipush 254 dX11_init_254 zbp_30 ?_
  refine n_bipush 256 dX11_init_256 zbp_102 ?_
  refine n_iastore 258 (N := 47) (rs := []) dX11_init_258 (by decide +kernel) (by decide) ?_
  refine n_dup 259 dX11_init_259 rfl ?_
  refine n_bipush 260 dX11_init_260 zbp_31 ?_
  refine n_bipush 262 dX11_init_262 zbp_102 ?_
  refine n_iastore 264 (N := 47) (rs := []) dX11_init_264 (by decide +kernel) (by decide) ?_
  refine n_dup 265 dX11_init_265 rfl ?_
  refine n_bipush 266 dX11_init_266 zbp_32 ?_
  refine n_bipush 268 dX11_init_268 zbp_106 ?_
  refine n_iastore 270 (N := 47) (rs := []) dX11_init_270 (by decide +kernel) (by decide) ?_
  refine n_dup 271 dX11_init_271 rfl ?_
  refine n_bipush 272 dX11_init_272 zbp_33 ?_
  refine n_bipush 274 dX11_init_274 zbp_111 ?_
  refine n_iastore 276 (N := 47) (rs := []) dX11_init_276 (by decide +kernel) (by decide) ?_
  refine n_dup 277 dX11_init_277 rfl ?_
  refine n_bipush 278 dX11_init_278 zbp_34 ?_
  refine n_bipush 280 dX11_init_280 zbp_105 ?_
  refine n_iastore 282 (N := 47) (rs := []) dX11_init_282 (by decide +kernel) (by decide) ?_
  refine n_dup 283 dX11_init_283 rfl ?_
  refine n_bipush 284 dX11_init_284 zbp_35 ?_
  refine n_bipush 286 dX11_init_286 zbp_110 ?_
  refine n_iastore 288 (N := 47) (rs := []) dX11_init_288 (by decide +kernel) (by decide) ?_
  refine n_dup 289 dX11_init_289 rfl ?_
  refine n_bipush 290 dX11_init_290 zbp_36 ?_
  refine n_bipush 292 dX11_init_292 zbp_101 ?_
  refine n_iastore 294 (N := 47) (rs := []) dX11_init_294 (by decide +kernel) (by decide) ?_
  refine n_dup 295 dX11_init_295 rfl ?_
  refine n_bipush 296 dX11_init_296 zbp_37 ?_
  refine n_bipush 298 dX11_init_298 zbp_100 ?_
  refine n_iastore 300 (N := 47) (rs := []) dX11_init_300 (by decide +kernel) (by decide) ?_
  refine n_dup 301 dX11_init_301 rfl ?_
  refine n_bipush 302 dX11_init_302 zbp_38 ?_
  refine n_bipush 304 dX11_init_304 zbp_108 ?_
  refine n_iastore 306 (N := 47) (rs := []) dX11_init_306 (by decide +kernel) (by decide) ?_
  refine n_dup 307 dX11_init_307 rfl ?_
  refine n_bipush 308 dX11_init_308 zbp_39 ?_
  refine n_bipush 310 dX11_init_310 zbp_97 ?_
  refine n_iastore 312 (N := 47) (rs := []) dX11_init_312 (by decide +kernel) (by decide) ?_
  refine n_dup 313 dX11_init_313 rfl ?_
  refine n_bipush 314 dX11_init_314 zbp_40 ?_
  refine n_bipush 316 dX11_init_316 zbp_116 ?_
  refine n_iastore 318 (N := 47) (rs := []) dX11_init_318 (by decide +kernel) (by decide) ?_
  refine n_dup 319 dX11_init_319 rfl ?_
  refine n_bipush 320 dX11_init_320 zbp_41 ?_
  refine n_bipush 322 dX11_init_322 zbp_101 ?_
  refine n_iastore 324 (N := 47) (rs := []) dX11_init_324 (by decide +kernel) (by decide) ?_
  refine n_dup 325 dX11_init_325 rfl ?_
  refine n_bipush 326 dX11_init_326 zbp_42 ?_
  refine n_bipush 328 dX11_init_328 zbp_101 ?_
  refine n_iastore 330 (N := 47) (rs := []) dX11_init_330 (by decide +kernel) (by decide) ?_
  refine n_dup 331 dX11_init_331 rfl ?_
  refine n_bipush 332 dX11_init_332 zbp_43 ?_
  refine n_bipush 334 dX11_init_334 zbp_97 ?_
  refine n_iastore 336 (N := 47) (rs := []) dX11_init_336 (by decide +kernel) (by decide) ?_
  refine n_dup 337 dX11_init_337 rfl ?_
  refine n_bipush 338 dX11_init_338 zbp_44 ?_
  refine n_bipush 340 dX11_init_340 zbp_114 ?_
  refine n_iastore 342 (N := 47) (rs := []) dX11_init_342 (by decide +kernel) (by decide) ?_
  refine n_dup 343 dX11_init_343 rfl ?_
  refine n_bipush 344 dX11_init_344 zbp_45 ?_
  refine n_bipush 346 dX11_init_346 zbp_108 ?_
  refine n_iastore 348 (N := 47) (rs := []) dX11_init_348 (by decide +kernel) (by decide) ?_
  refine n_dup 349 dX11_init_349 rfl ?_
  refine n_bipush 350 dX11_init_350 zbp_46 ?_
  refine n_bipush 352 dX11_init_352 zbp_121 ?_
  refine n_iastore 354 (N := 47) (rs := []) dX11_init_354 (by decide +kernel) (by decide) ?_
  refine n_putF 355 (fs := [some (some 77), none, none, none, none, none, none, none, none, some (some 78), some none, some none, some none, some none, some none, none, some none, some none, some none, some none, some none, some none, some none, some none, some none, some none, some none, some none, some none, some none, some none, some none, none]) (fs' := [some (some 77), none, none, none, none, none, none, none, none, some (some 78), some (some 79), some none, some none, some none, some none, none, some none, some none, some none, some none, some none, some none, some none, some none, some none, some none, some none, some none, some none, some none, some none, some none, none]) (Y' := yy_159) dX11_init_355 rfl ff_X11_16 (by decide +kernel) (by decide) rfl rfl ?_
  refine n_aload 358 dX11_init_358 rfl ?_
  refine n_bipush 359 dX11_init_359 zbp_10 ?_
  refine n_newa 361 (k := 19) (n := 60542) (t := 0) (N := 10) (a := 80) (Y' := yy_160) dX11_init_361 (by decide) rfl narr_0 (by decide) (by decide) (by decide) (by decide +kernel) (by decide) (by decide +kernel) rfl rfl rfl ?_
  refine n_dup 363 dX11_init_363 rfl ?_
  refine n_iconst 364 dX11_init_364 zci_0 ?_
  refine n_bipush 365 dX11_init_365 zbp_10 ?_
  refine n_iastore 367 (N := 10) (rs := []) dX11_init_367 (by decide +kernel) (by decide) ?_
  refine n_dup 368 dX11_init_368 rfl ?_
  refine n_iconst 369 dX11_init_369 zci_1 ?_
  refine n_bipush 370 dX11_init_370 zbp_60 ?_
  refine n_iastore 372 (N := 10) (rs := []) dX11_init_372 (by decide +kernel) (by decide) ?_
  refine n_dup 373 dX11_init_373 rfl ?_
  refine n_iconst 374 dX11_init_374 zci_2 ?_
  refine n_bipush 375 dX11_init_375 zbp_30 ?_
  refine n_iastore 377 (N := 10) (rs := []) dX11_init_377 (by decide +kernel) (by decide) ?_
  refine n_dup 378 dX11_init_378 rfl ?_
  refine n_iconst 379 dX11_init_379 zci_3 ?_
  refine n_iconst 380 dX11_init_380 zci_1 ?_
  refine n_iastore 381 (N := 10) (rs := []) dX11_init_381 (by decide +kernel) (by decide) ?_
  refine n_dup 382 dX11_init_382 rfl ?_
  refine n_iconst 383 dX11_init_383 zci_4 ?_
  refine n_iconst 384 dX11_init_384 zci_4 ?_
  refine n_iastore 385 (N := 10) (rs := []) dX11_init_385 (by decide +kernel) (by decide) ?_
  refine n_dup 386 dX11_init_386 rfl ?_
  refine n_iconst 387 dX11_init_387 zci_5 ?_
  refine n_iconst 388 dX11_init_388 zci_2 ?_
  refine n_iastore 389 (N := 10) (rs := []) dX11_init_389 (by decide +kernel) (by decide) ?_
  refine n_dup 390 dX11_init_390 rfl ?_
  refine n_bipush 391 dX11_init_391 zbp_6 ?_
  refine n_iconst 393 dX11_init_393 zci_5 ?_
  refine n_iastore 394 (N := 10) (rs := []) dX11_init_394 (by decide +kernel) (by decide) ?_
  refine n_dup 395 dX11_init_395 rfl ?_
  refine n_bipush 396 dX11_init_396 zbp_7 ?_
  refine n_bipush 398 dX11_init_398 zbp_12 ?_
  refine n_iastore 400 (N := 10) (rs := []) dX11_init_400 (by decide +kernel) (by decide) ?_
  refine n_dup 401 dX11_init_401 rfl ?_
  refine n_bipush 402 dX11_init_402 zbp_8 ?_
  refine n_bipush 404 dX11_init_404 zbp_12 ?_
  refine n_iastore 406 (N := 10) (rs := []) dX11_init_406 (by decide +kernel) (by decide) ?_
  refine n_dup 407 dX11_init_407 rfl ?_
  refine n_bipush 408 dX11_init_408 zbp_9 ?_
  refine n_iconst 410 dX11_init_410 zci_0 ?_
  refine n_iastore 411 (N := 10) (rs := []) dX11_init_411 (by decide +kernel) (by decide) ?_
  refine n_putF 412 (fs := [some (some 77), none, none, none, none, none, none, none, none, some (some 78), some (some 79), some none, some none, some none, some none, none, some none, some none, some none, some none, some none, some none, some none, some none, some none, some none, some none, some none, some none, some none, some none, some none, none]) (fs' := [some (some 77), none, none, none, none, none, none, none, none, some (some 78), some (some 79), some (some 80), some none, some none, some none, none, some none, some none, some none, some none, some none, some none, some none, some none, some none, some none, some none, some none, some none, some none, some none, some none, none]) (Y' := yy_161) dX11_init_412 rfl ff_X11_19 (by decide +kernel) (by decide) rfl rfl ?_
  refine n_aload 415 dX11_init_415 rfl ?_
  refine n_bipush 416 dX11_init_416 zbp_30 ?_
  refine n_newa 418 (k := 18) (n := 60512) (t := 0) (N := 30) (a := 81) (Y' := yy_162) dX11_init_418 (by decide) rfl narr_0 (by decide) (by decide) (by decide) (by decide +kernel) (by decide) (by decide +kernel) rfl rfl rfl ?_
  refine n_dup 420 dX11_init_420 rfl ?_
  refine n_iconst 421 dX11_init_421 zci_0 ?_
  refine n_bipush 422 dX11_init_422 zbp_10 ?_
  refine n_iastore 424 (N := 30) (rs := []) dX11_init_424 (by decide +kernel) (by decide) ?_
  refine n_dup 425 dX11_init_425 rfl ?_
  refine n_iconst 426 dX11_init_426 zci_1 ?_
  refine n_bipush 427 dX11_init_427 zbp_60 ?_
  refine n_iastore 429 (N := 30) (rs := []) dX11_init_429 (by decide +kernel) (by decide) ?_
  refine n_dup 430 dX11_init_430 rfl ?_
  refine n_iconst 431 dX11_init_431 zci_2 ?_
  refine n_bipush 432 dX11_init_432 zbp_30 ?_
  refine n_iastore 434 (N := 30) (rs := []) dX11_init_434 (by decide +kernel) (by decide) ?_
  refine n_dup 435 dX11_init_435 rfl ?_
  refine n_iconst 436 dX11_init_436 zci_3 ?_
  refine n_iconst 437 dX11_init_437 zci_1 ?_
  refine n_iastore 438 (N := 30) (rs := []) dX11_init_438 (by decide +kernel) (by decide) ?_
  refine n_dup 439 dX11_init_439 rfl ?_
  refine n_iconst 440 dX11_init_440 zci_4 ?_
  refine n_iconst 441 dX11_init_441 zci_4 ?_
  refine n_iastore 442 (N := 30) (rs := []) dX11_init_442 (by decide +kernel) (by decide) ?_
  refine n_dup 443 dX11_init_443 rfl ?_
  refine n_iconst 444 dX11_init_444 zci_5 ?_
  refine n_iconst 445 dX11_init_445 zci_2 ?_
  refine n_iastore 446 (N := 30) (rs := []) dX11_init_446 (by decide +kernel) (by decide) ?_
  refine n_dup 447 dX11_init_447 rfl ?_
  refine n_bipush 448 dX11_init_448 zbp_6 ?_
  refine n_iconst 450 dX11_init_450 zci_5 ?_
  refine n_iastore 451 (N := 30) (rs := []) dX11_init_451 (by decide +kernel) (by decide) ?_
  refine n_dup 452 dX11_init_452 rfl ?_
  refine n_bipush 453 dX11_init_453 zbp_7 ?_
  refine n_bipush 455 dX11_init_455 zbp_12 ?_
  refine n_iastore 457 (N := 30) (rs := []) dX11_init_457 (by decide +kernel) (by decide) ?_
  refine n_dup 458 dX11_init_458 rfl ?_
  refine n_bipush 459 dX11_init_459 zbp_8 ?_
  refine n_bipush 461 dX11_init_461 zbp_12 ?_
  refine n_iastore 463 (N := 30) (rs := []) dX11_init_463 (by decide +kernel) (by decide) ?_
  refine n_dup 464 dX11_init_464 rfl ?_
  refine n_bipush 465 dX11_init_465 zbp_9 ?_
  refine n_iconst 467 dX11_init_467 zci_0 ?_
  refine n_iastore 468 (N := 30) (rs := []) dX11_init_468 (by decide +kernel) (by decide) ?_
  refine n_dup 469 dX11_init_469 rfl ?_
  refine n_bipush 470 dX11_init_470 zbp_10 ?_
  refine n_iconst 472 dX11_init_472 zci_0 ?_
  refine n_iastore 473 (N := 30) (rs := []) dX11_init_473 (by decide +kernel) (by decide) ?_
  refine n_dup 474 dX11_init_474 rfl ?_
  refine n_bipush 475 dX11_init_475 zbp_11 ?_
  refine n_iconst 477 dX11_init_477 zci_0 ?_
  refine n_iastore 478 (N := 30) (rs := []) dX11_init_478 (by decide +kernel) (by decide) ?_
  refine n_dup 479 dX11_init_479 rfl ?_
  refine n_bipush 480 dX11_init_480 zbp_12 ?_
  refine n_iconst 482 dX11_init_482 zci_0 ?_
  refine n_iastore 483 (N := 30) (rs := []) dX11_init_483 (by decide +kernel) (by decide) ?_
  refine n_dup 484 dX11_init_484 rfl ?_
  refine n_bipush 485 dX11_init_485 zbp_13 ?_
  refine n_iconst 487 dX11_init_487 zci_0 ?_
  refine n_iastore 488 (N := 30) (rs := []) dX11_init_488 (by decide +kernel) (by decide) ?_
  refine n_dup 489 dX11_init_489 rfl ?_
  refine n_bipush 490 dX11_init_490 zbp_14 ?_
  refine n_iconst 492 dX11_init_492 zci_0 ?_
  refine n_iastore 493 (N := 30) (rs := []) dX11_init_493 (by decide +kernel) (by decide) ?_
  refine n_dup 494 dX11_init_494 rfl ?_
  refine n_bipush 495 dX11_init_495 zbp_15 ?_
  refine n_iconst 497 dX11_init_497 zci_0 ?_
  refine n_iastore 498 (N := 30) (rs := []) dX11_init_498 (by decide +kernel) (by decide) ?_
  refine n_dup 499 dX11_init_499 rfl ?_
  refine n_bipush 500 dX11_init_500 zbp_16 ?_
  refine n_iconst 502 dX11_init_502 zci_0 ?_
  refine n_iastore 503 (N := 30) (rs := []) dX11_init_503 (by decide +kernel) (by decide) ?_
  refine n_dup 504 dX11_init_504 rfl ?_
  refine n_bipush 505 dX11_init_505 zbp_17 ?_
  refine n_iconst 507 dX11_init_507 zci_0 ?_
  refine n_iastore 508 (N := 30) (rs := []) dX11_init_508 (by decide +kernel) (by decide) ?_
  refine n_dup 509 dX11_init_509 rfl ?_
  refine n_bipush 510 dX11_init_510 zbp_18 ?_
  refine n_iconst 512 dX11_init_512 zci_0 ?_
  refine n_iastore 513 (N := 30) (rs := []) dX11_init_513 (by decide +kernel) (by decide) ?_
  refine n_dup 514 dX11_init_514 rfl ?_
  refine n_bipush 515 dX11_init_515 zbp_19 ?_
  refine n_iconst 517 dX11_init_517 zci_0 ?_
  refine n_iastore 518 (N := 30) (rs := []) dX11_init_518 (by decide +kernel) (by decide) ?_
  refine n_dup 519 dX11_init_519 rfl ?_
  refine n_bipush 520 dX11_init_520 zbp_20 ?_
  refine n_iconst 522 dX11_init_522 zci_0 ?_
  refine n_iastore 523 (N := 30) (rs := []) dX11_init_523 (by decide +kernel) (by decide) ?_
  refine n_dup 524 dX11_init_524 rfl ?_
  refine n_bipush 525 dX11_init_525 zbp_21 ?_
  refine n_iconst 527 dX11_init_527 zci_0 ?_
  refine n_iastore 528 (N := 30) (rs := []) dX11_init_528 (by decide +kernel) (by decide) ?_
  refine n_dup 529 dX11_init_529 rfl ?_
  refine n_bipush 530 dX11_init_530 zbp_22 ?_
  refine n_iconst 532 dX11_init_532 zci_0 ?_
  refine n_iastore 533 (N := 30) (rs := []) dX11_init_533 (by decide +kernel) (by decide) ?_
  refine n_dup 534 dX11_init_534 rfl ?_
  refine n_bipush 535 dX11_init_535 zbp_23 ?_
  refine n_iconst 537 dX11_init_537 zci_0 ?_
  refine n_iastore 538 (N := 30) (rs := []) dX11_init_538 (by decide +kernel) (by decide) ?_
  refine n_dup 539 dX11_init_539 rfl ?_
  refine n_bipush 540 dX11_init_540 zbp_24 ?_
  refine n_iconst 542 dX11_init_542 zci_0 ?_
  refine n_iastore 543 (N := 30) (rs := []) dX11_init_543 (by decide +kernel) (by decide) ?_
  refine n_dup 544 dX11_init_544 rfl ?_
  refine n_bipush 545 dX11_init_545 zbp_25 ?_
  refine n_iconst 547 dX11_init_547 zci_0 ?_
  refine n_iastore 548 (N := 30) (rs := []) dX11_init_548 (by decide +kernel) (by decide) ?_
  refine n_dup 549 dX11_init_549 rfl ?_
  refine n_bipush 550 dX11_init_550 zbp_26 ?_
  refine n_iconst 552 dX11_init_552 zci_0 ?_
  refine n_iastore 553 (N := 30) (rs := []) dX11_init_553 (by decide +kernel) (by decide) ?_
  refine n_dup 554 dX11_init_554 rfl ?_
  refine n_bipush 555 dX11_init_555 zbp_27 ?_
  refine n_iconst 557 dX11_init_557 zci_0 ?_
  refine n_iastore 558 (N := 30) (rs := []) dX11_init_558 (by decide +kernel) (by decide) ?_
  refine n_dup 559 dX11_init_559 rfl ?_
  refine n_bipush 560 dX11_init_560 zbp_28 ?_
  refine n_iconst 562 dX11_init_562 zci_0 ?_
  refine n_iastore 563 (N := 30) (rs := []) dX11_init_563 (by decide +kernel) (by decide) ?_
  refine n_dup 564 dX11_init_564 rfl ?_
  refine n_bipush 565 dX11_init_565 zbp_29 ?_
  refine n_iconst 567 dX11_init_567 zci_0 ?_
  refine n_iastore 568 (N := 30) (rs := []) dX11_init_568 (by decide +kernel) (by decide) ?_
  refine n_putF 569 (fs := [some (some 77), none, none, none, none, none, none, none, none, some (some 78), some (some 79), some (some 80), some none, some none, some none, none, some none, some none, some none, some none, some none, some none, some none, some none, some none, some none, some none, some none, some none, some none, some none, some none, none]) (fs' := [some (some 77), none, none, none, none, none, none, none, none, some (some 78), some (some 79), some (some 80), some (some 81), some none, some none, none, some none, some none, some none, some none, some none, some none, some none, some none, some none, some none, some none, some none, some none, some none, some none, some none, none]) (Y' := yy_163) dX11_init_569 rfl ff_X11_22 (by decide +kernel) (by decide) rfl rfl ?_
  refine n_aload 572 dX11_init_572 rfl ?_
  refine n_bipush 573 dX11_init_573 zbp_10 ?_
  refine n_newa 575 (k := 17) (n := 60502) (t := 0) (N := 10) (a := 82) (Y' := yy_164) dX11_init_575 (by decide) rfl narr_0 (by decide) (by decide) (by decide) (by decide +kernel) (by decide) (by decide +kernel) rfl rfl rfl ?_
  refine n_putF 577 (fs := [some (some 77), none, none, none, none, none, none, none, none, some (some 78), some (some 79), some (some 80), some (some 81), some none, some none, none, some none, some none, some none, some none, some none, some none, some none, some none, some none, some none, some none, some none, some none, some none, some none, some none, none]) (fs' := [some (some 77), none, none, none, none, none, none, none, none, some (some 78), some (some 79), some (some 80), some (some 81), some (some 82), some none, none, some none, some none, some none, some none, some none, some none, some none, some none, some none, some none, some none, some none, some none, some none, some none, some none, none]) (Y' := yy_165) dX11_init_577 rfl ff_X11_25 (by decide +kernel) (by decide) rfl rfl ?_
  refine n_aload 580 dX11_init_580 rfl ?_
  refine n_bipush 581 dX11_init_581 zbp_64 ?_
  refine n_newa 583 (k := 16) (n := 60438) (t := 0) (N := 64) (a := 83) (Y' := yy_166) dX11_init_583 (by decide) rfl narr_0 (by decide) (by decide) (by decide) (by decide +kernel) (by decide) (by decide +kernel) rfl rfl rfl ?_
  refine n_putF 585 (fs := [some (some 77), none, none, none, none, none, none, none, none, some (some 78), some (some 79), some (some 80), some (some 81), some (some 82), some none, none, some none, some none, some none, some none, some none, some none, some none, some none, some none, some none, some none, some none, some none, some none, some none, some none, none]) (fs' := [some (some 77), none, none, none, none, none, none, none, none, some (some 78), some (some 79), some (some 80), some (some 81), some (some 82), some (some 83), none, some none, some none, some none, some none, some none, some none, some none, some none, some none, some none, some none, some none, some none, some none, some none, some none, none]) (Y' := yy_167) dX11_init_585 rfl ff_X11_28 (by decide +kernel) (by decide) rfl rfl ?_
  refine n_aload 588 dX11_init_588 rfl ?_
  refine n_sipush 589 dX11_init_589 zsp_660 ?_
  refine n_newa 592 (k := 15) (n := 59778) (t := 0) (N := 660) (a := 84) (Y' := yy_168) dX11_init_592 (by decide) rfl narr_0 (by decide) (by decide) (by decide) (by decide +kernel) (by decide) (by decide +kernel) rfl rfl rfl ?_
  refine n_putF 594 (fs := [some (some 77), none, none, none, none, none, none, none, none, some (some 78), some (some 79), some (some 80), some (some 81), some (some 82), some (some 83), none, some none, some none, some none, some none, some none, some none, some none, some none, some none, some none, some none, some none, some none, some none, some none, some none, none]) (fs' := [some (some 77), none, none, none, none, none, none, none, none, some (some 78), some (some 79), some (some 80), some (some 81), some (some 82), some (some 83), none, some (some 84), some none, some none, some none, some none, some none, some none, some none, some none, some none, some none, some none, some none, some none, some none, some none, none]) (Y' := yy_169) dX11_init_594 rfl ff_X11_31 (by decide +kernel) (by decide) rfl rfl ?_
  refine n_aload 597 dX11_init_597 rfl ?_
  refine n_bipush 598 dX11_init_598 zbp_100 ?_
  refine n_newa 600 (k := 14) (n := 59678) (t := 0) (N := 100) (a := 85) (Y' := yy_170) dX11_init_600 (by decide) rfl narr_0 (by decide) (by decide) (by decide) (by decide +kernel) (by decide) (by decide +kernel) rfl rfl rfl ?_
  refine n_putF 602 (fs := [some (some 77), none, none, none, none, none, none, none, none, some (some 78), some (some 79), some (some 80), some (some 81), some (some 82), some (some 83), none, some (some 84), some none, some none, some none, some none, some none, some none, some none, some none, some none, some none, some none, some none, some none, some none, some none, none]) (fs' := [some (some 77), none, none, none, none, none, none, none, none, some (some 78), some (some 79), some (some 80), some (some 81), some (some 82), some (some 83), none, some (some 84), some (some 85), some none, some none, some none, some none, some none, some none, some none, some none, some none, some none, some none, some none, some none, some none, none]) (Y' := yy_171) dX11_init_602 rfl ff_X11_34 (by decide +kernel) (by decide) rfl rfl ?_
  refine n_aload 605 dX11_init_605 rfl ?_
  refine n_sipush 606 dX11_init_606 zsp_11264 ?_
  refine n_newa 609 (k := 13) (n := 48414) (t := 0) (N := 11264) (a := 86) (Y' := yy_172) dX11_init_609 (by decide) rfl narr_0 (by decide) (by decide) (by decide) (by decide +kernel) (by decide) (by decide +kernel) rfl rfl rfl ?_
  refine n_putF 611 (fs := [some (some 77), none, none, none, none, none, none, none, none, some (some 78), some (some 79), some (some 80), some (some 81), some (some 82), some (some 83), none, some (some 84), some (some 85), some none, some none, some none, some none, some none, some none, some none, some none, some none, some none, some none, some none, some none, some none, none]) (fs' := [some (some 77), none, none, none, none, none, none, none, none, some (some 78), some (some 79), some (some 80), some (some 81), some (some 82), some (some 83), none, some (some 84), some (some 85), some (some 86), some none, some none, some none, some none, some none, some none, some none, some none, some none, some none, some none, some none, some none, none]) (Y' := yy_173) dX11_init_611 rfl ff_X11_37 (by decide +kernel) (by decide) rfl rfl ?_
  refine n_aload 614 dX11_init_614 rfl ?_
  refine n_sipush 615 dX11_init_615 zsp_11264 ?_
  refine n_newa 618 (k := 12) (n := 37150) (t := 1) (N := 11264) (a := 87) (Y' := yy_174) dX11_init_618 (by decide) rfl narr_1 (by decide) (by decide) (by decide) (by decide +kernel) (by decide) (by decide +kernel) rfl rfl rfl ?_
  refine n_putF 620 (fs := [some (some 77), none, none, none, none, none, none, none, none, some (some 78), some (some 79), some (some 80), some (some 81), some (some 82), some (some 83), none, some (some 84), some (some 85), some (some 86), some none, some none, some none, some none, some none, some none, some none, some none, some none, some none, some none, some none, some none, none]) (fs' := [some (some 77), none, none, none, none, none, none, none, none, some (some 78), some (some 79), some (some 80), some (some 81), some (some 82), some (some 83), none, some (some 84), some (some 85), some (some 86), some (some 87), some none, some none, some none, some none, some none, some none, some none, some none, some none, some none, some none, some none, none]) (Y' := yy_175) dX11_init_620 rfl ff_X11_40 (by decide +kernel) (by decide) rfl rfl ?_
  refine n_aload 623 dX11_init_623 rfl ?_
  refine n_sipush 624 dX11_init_624 zsp_11264 ?_
  refine n_newa 627 (k := 11) (n := 25886) (t := 1) (N := 11264) (a := 88) (Y' := yy_176) dX11_init_627 (by decide) rfl narr_1 (by decide) (by decide) (by decide) (by decide +kernel) (by decide) (by decide +kernel) rfl rfl rfl ?_
  refine n_putF 629 (fs := [some (some 77), none, none, none, none, none, none, none, none, some (some 78), some (some 79), some (some 80), some (some 81), some (some 82), some (some 83), none, some (some 84), some (some 85), some (some 86), some (some 87), some none, some none, some none, some none, some none, some none, some none, some none, some none, some none, some none, some none, none]) (fs' := [some (some 77), none, none, none, none, none, none, none, none, some (some 78), some (some 79), some (some 80), some (some 81), some (some 82), some (some 83), none, some (some 84), some (some 85), some (some 86), some (some 87), some (some 88), some none, some none, some none, some none, some none, some none, some none, some none, some none, some none, some none, none]) (Y' := yy_177) dX11_init_629 rfl ff_X11_44 (by decide +kernel) (by decide) rfl rfl ?_
  refine n_aload 632 dX11_init_632 rfl ?_
  refine n_sipush 633 dX11_init_633 zsp_11264 ?_
  refine n_newa 636 (k := 10) (n := 14622) (t := 0) (N := 11264) (a := 89) (Y' := yy_178) dX11_init_636 (by decide) rfl narr_0 (by decide) (by decide) (by decide) (by decide +kernel) (by decide) (by decide +kernel) rfl rfl rfl ?_
  refine n_putF 638 (fs := [some (some 77), none, none, none, none, none, none, none, none, some (some 78), some (some 79), some (some 80), some (some 81), some (some 82), some (some 83), none, some (some 84), some (some 85), some (some 86), some (some 87), some (some 88), some none, some none, some none, some none, some none, some none, some none, some none, some none, some none, some none, none]) (fs' := [some (some 77), none, none, none, none, none, none, none, none, some (some 78), some (some 79), some (some 80), some (some 81), some (some 82), some (some 83), none, some (some 84), some (some 85), some (some 86), some (some 87), some (some 88), some (some 89), some none, some none, some none, some none, some none, some none, some none, some none, some none, some none, none]) (Y' := yy_179) dX11_init_638 rfl ff_X11_47 (by decide +kernel) (by decide) rfl rfl ?_
  refine n_aload 641 dX11_init_641 rfl ?_
  refine n_sipush 642 dX11_init_642 zsp_11264 ?_
  refine n_newa 645 (k := 9) (n := 3358) (t := 0) (N := 11264) (a := 90) (Y' := yy_180) dX11_init_645 (by decide) rfl narr_0 (by decide) (by decide) (by decide) (by decide +kernel) (by decide) (by decide +kernel) rfl rfl rfl ?_
  refine n_putF 647 (fs := [some (some 77), none, none, none, none, none, none, none, none, some (some 78), some (some 79), some (some 80), some (some 81), some (some 82), some (some 83), none, some (some 84), some (some 85), some (some 86), some (some 87), some (some 88), some (some 89), some none, some none, some none, some none, some none, some none, some none, some none, some none, some none, none]) (fs' := [some (some 77), none, none, none, none, none, none, none, none, some (some 78), some (some 79), some (some 80), some (some 81), some (some 82), some (some 83), none, some (some 84), some (some 85), some (some 86), some (some 87), some (some 88), some (some 89), some (some 90), some none, some none, some none, some none, some none, some none, some none, some none, some none, none]) (Y' := yy_181) dX11_init_647 rfl ff_X11_50 (by decide +kernel) (by decide) rfl rfl ?_
  refine n_aload 650 dX11_init_650 rfl ?_
  refine n_bipush 651 dX11_init_651 zbp_10 ?_
  refine n_newa 653 (k := 8) (n := 3348) (t := 0) (N := 10) (a := 91) (Y' := yy_182) dX11_init_653 (by decide) rfl narr_0 (by decide) (by decide) (by decide) (by decide +kernel) (by decide) (by decide +kernel) rfl rfl rfl ?_
  refine n_putF 655 (fs := [some (some 77), none, none, none, none, none, none, none, none, some (some 78), some (some 79), some (some 80), some (some 81), some (some 82), some (some 83), none, some (some 84), some (some 85), some (some 86), some (some 87), some (some 88), some (some 89), some (some 90), some none, some none, some none, some none, some none, some none, some none, some none, some none, none]) (fs' := [some (some 77), none, none, none, none, none, none, none, none, some (some 78), some (some 79), some (some 80), some (some 81), some (some 82), some (some 83), none, some (some 84), some (some 85), some (some 86), some (some 87), some (some 88), some (some 89), some (some 90), some (some 91), some none, some none, some none, some none, some none, some none, some none, some none, none]) (Y' := yy_183) dX11_init_655 rfl ff_X11_53 (by decide +kernel) (by decide) rfl rfl ?_
  refine n_aload 658 dX11_init_658 rfl ?_
  refine n_bipush 659 dX11_init_659 zbp_10 ?_
  refine n_newa 661 (k := 7) (n := 3338) (t := 0) (N := 10) (a := 92) (Y' := yy_184) dX11_init_661 (by decide) rfl narr_0 (by decide) (by decide) (by decide) (by decide +kernel) (by decide) (by decide +kernel) rfl rfl rfl ?_
  refine n_putF 663 (fs := [some (some 77), none, none, none, none, none, none, none, none, some (some 78), some (some 79), some (some 80), some (some 81), some (some 82), some (some 83), none, some (some 84), some (some 85), some (some 86), some (some 87), some (some 88), some (some 89), some (some 90), some (some 91), some none, some none, some none, some none, some none, some none, some none, some none, none]) (fs' := [some (some 77), none, none, none, none, none, none, none, none, some (some 78), some (some 79), some (some 80), some (some 81), some (some 82), some (some 83), none, some (some 84), some (some 85), some (some 86), some (some 87), some (some 88), some (some 89), some (some 90), some (some 91), some (some 92), some none, some none, some none, some none, some none, some none, some none, none]) (Y' := yy_185) dX11_init_663 rfl ff_X11_56 (by decide +kernel) (by decide) rfl rfl ?_
  refine n_aload 666 dX11_init_666 rfl ?_
  refine n_sipush 667 dX11_init_667 zsp_1024 ?_
  refine n_newa 670 (k := 6) (n := 2314) (t := 1) (N := 1024) (a := 93) (Y' := yy_186) dX11_init_670 (by decide) rfl narr_1 (by decide) (by decide) (by decide) (by decide +kernel) (by decide) (by decide +kernel) rfl rfl rfl ?_
  refine n_putF 672 (fs := [some (some 77), none, none, none, none, none, none, none, none, some (some 78), some (some 79), some (some 80), some (some 81), some (some 82), some (some 83), none, some (some 84), some (some 85), some (some 86), some (some 87), some (some 88), some (some 89), some (some 90), some (some 91), some (some 92), some none, some none, some none, some none, some none, some none, some none, none]) (fs' := [some (some 77), none, none, none, none, none, none, none, none, some (some 78), some (some 79), some (some 80), some (some 81), some (some 82), some (some 83), none, some (some 84), some (some 85), some (some 86), some (some 87), some (some 88), some (some 89), some (some 90), some (some 91), some (some 92), some (some 93), some none, some none, some none, some none, some none, some none, none]) (Y' := yy_187) dX11_init_672 rfl ff_X11_59 (by decide +kernel) (by decide) rfl rfl ?_
  refine n_aload 675 dX11_init_675 rfl ?_
  refine n_sipush 676 dX11_init_676 zsp_1024 ?_
  refine n_newa 679 (k := 5) (n := 1290) (t := 0) (N := 1024) (a := 94) (Y' := yy_188) dX11_init_679 (by decide) rfl narr_0 (by decide) (by decide) (by decide) (by decide +kernel) (by decide) (by decide +kernel) rfl rfl rfl ?_
  refine n_putF 681 (fs := [some (some 77), none, none, none, none, none, none, none, none, some (some 78), some (some 79), some (some 80), some (some 81), some (some 82), some (some 83), none, some (some 84), some (some 85), some (some 86), some (some 87), some (some 88), some (some 89), some (some 90), some (some 91), some (some 92), some (some 93), some none, some none, some none, some none, some none, some none, none]) (fs' := [some (some 77), none, none, none, none, none, none, none, none, some (some 78), some (some 79), some (some 80), some (some 81), some (some 82), some (some 83), none, some (some 84), some (some 85), some (some 86), some (some 87), some (some 88), some (some 89), some (some 90), some (some 91), some (some 92), some (some 93), some (some 94), some none, some none, some none, some none, some none, none]) (Y' := yy_189) dX11_init_681 rfl ff_X11_62 (by decide +kernel) (by decide) rfl rfl ?_
  refine n_aload 684 dX11_init_684 rfl ?_
  refine n_sipush 685 dX11_init_685 zsp_1024 ?_
  refine n_newa 688 (k := 4) (n := 266) (t := 3) (N := 1024) (a := 95) (Y' := yy_190) dX11_init_688 (by decide) rfl narr_3 (by decide) (by decide) (by decide) (by decide +kernel) (by decide) (by decide +kernel) rfl rfl rfl ?_
  refine n_putF 690 (fs := [some (some 77), none, none, none, none, none, none, none, none, some (some 78), some (some 79), some (some 80), some (some 81), some (some 82), some (some 83), none, some (some 84), some (some 85), some (some 86), some (some 87), some (some 88), some (some 89), some (some 90), some (some 91), some (some 92), some (some 93), some (some 94), some none, some none, some none, some none, some none, none]) (fs' := [some (some 77), none, none, none, none, none, none, none, none, some (some 78), some (some 79), some (some 80), some (some 81), some (some 82), some (some 83), none, some (some 84), some (some 85), some (some 86), some (some 87), some (some 88), some (some 89), some (some 90), some (some 91), some (some 92), some (some 93), some (some 94), some (some 95), some none, some none, some none, some none, none]) (Y' := yy_191) dX11_init_690 rfl ff_X11_65 (by decide +kernel) (by decide) rfl rfl ?_
  refine n_aload 693 dX11_init_693 rfl ?_
  refine n_iconst 694 dX11_init_694 zci_2 ?_
  refine n_newa 695 (k := 3) (n := 264) (t := 3) (N := 2) (a := 96) (Y' := yy_192) dX11_init_695 (by decide) rfl narr_3 (by decide) (by decide) (by decide) (by decide +kernel) (by decide) (by decide +kernel) rfl rfl rfl ?_
  refine n_putF 697 (fs := [some (some 77), none, none, none, none, none, none, none, none, some (some 78), some (some 79), some (some 80), some (some 81), some (some 82), some (some 83), none, some (some 84), some (some 85), some (some 86), some (some 87), some (some 88), some (some 89), some (some 90), some (some 91), some (some 92), some (some 93), some (some 94), some (some 95), some none, some none, some none, some none, none]) (fs' := [some (some 77), none, none, none, none, none, none, none, none, some (some 78), some (some 79), some (some 80), some (some 81), some (some 82), some (some 83), none, some (some 84), some (some 85), some (some 86), some (some 87), some (some 88), some (some 89), some (some 90), some (some 91), some (some 92), some (some 93), some (some 94), some (some 95), some (some 96), some none, some none, some none, none]) (Y' := yy_193) dX11_init_697 rfl ff_X11_69 (by decide +kernel) (by decide) rfl rfl ?_
  refine n_aload 700 dX11_init_700 rfl ?_
  refine n_iconst 701 dX11_init_701 zci_4 ?_
  refine n_newa 702 (k := 2) (n := 260) (t := 0) (N := 4) (a := 97) (Y' := yy_194) dX11_init_702 (by decide) rfl narr_0 (by decide) (by decide) (by decide) (by decide +kernel) (by decide) (by decide +kernel) rfl rfl rfl ?_
  refine n_dup 704 dX11_init_704 rfl ?_
  refine n_iconst 705 dX11_init_705 zci_0 ?_
  refine n_bipush 706 dX11_init_706 zbp_m4 ?_
  refine n_iastore 708 (N := 4) (rs := []) dX11_init_708 (by decide +kernel) (by decide) ?_
  refine n_dup 709 dX11_init_709 rfl ?_
  refine n_iconst 710 dX11_init_710 zci_1 ?_
  refine n_bipush 711 dX11_init_711 zbp_m4 ?_
  refine n_iastore 713 (N := 4) (rs := []) dX11_init_713 (by decide +kernel) (by decide) ?_
  refine n_dup 714 dX11_init_714 rfl ?_
  refine n_iconst 715 dX11_init_715 zci_2 ?_
  refine n_bipush 716 dX11_init_716 zbp_m4 ?_
  refine n_iastore 718 (N := 4) (rs := []) dX11_init_718 (by decide +kernel) (by decide) ?_
  refine n_dup 719 dX11_init_719 rfl ?_
  refine n_iconst 720 dX11_init_720 zci_3 ?_
  refine n_bipush 721 dX11_init_721 zbp_m4 ?_
  refine n_iastore 723 (N := 4) (rs := []) dX11_init_723 (by decide +kernel) (by decide) ?_
  refine n_putF 724 (fs := [some (some 77), none, none, none, none, none, none, none, none, some (some 78), some (some 79), some (some 80), some (some 81), some (some 82), some (some 83), none, some (some 84), some (some 85), some (some 86), some (some 87), some (some 88), some (some 89), some (some 90), some (some 91), some (some 92), some (some 93), some (some 94), some (some 95), some (some 96), some none, some none, some none, none]) (fs' := [some (some 77), none, none, none, none, none, none, none, none, some (some 78), some (some 79), some (some 80), some (some 81), some (some 82), some (some 83), none, some (some 84), some (some 85), some (some 86), some (some 87), some (some 88), some (some 89), some (some 90), some (some 91), some (some 92), some (some 93), some (some 94), some (some 95), some (some 96), some (some 97), some none, some none, none]) (Y' := yy_195) dX11_init_724 rfl ff_X11_72 (by decide +kernel) (by decide) rfl rfl ?_
  refine n_aload 727 dX11_init_727 rfl ?_
  refine n_iconst 728 dX11_init_728 zci_4 ?_
  refine n_newa 729 (k := 1) (n := 256) (t := 0) (N := 4) (a := 98) (Y' := yy_196) dX11_init_729 (by decide) rfl narr_0 (by decide) (by decide) (by decide) (by decide +kernel) (by decide) (by decide +kernel) rfl rfl rfl ?_
  refine n_putF 731 (fs := [some (some 77), none, none, none, none, none, none, none, none, some (some 78), some (some 79), some (some 80), some (some 81), some (some 82), some (some 83), none, some (some 84), some (some 85), some (some 86), some (some 87), some (some 88), some (some 89), some (some 90), some (some 91), some (some 92), some (some 93), some (some 94), some (some 95), some (some 96), some (some 97), some none, some none, none]) (fs' := [some (some 77), none, none, none, none, none, none, none, none, some (some 78), some (some 79), some (some 80), some (some 81), some (some 82), some (some 83), none, some (some 84), some (some 85), some (some 86), some (some 87), some (some 88), some (some 89), some (some 90), some (some 91), some (some 92), some (some 93), some (some 94), some (some 95), some (some 96), some (some 97), some (some 98), some none, none]) (Y' := yy_197) dX11_init_731 rfl ff_X11_75 (by decide +kernel) (by decide) rfl rfl ?_
  refine n_aload 734 dX11_init_734 rfl ?_
  refine n_sipush 735 dX11_init_735 zsp_256 ?_
  refine n_newa 738 (k := 0) (n := 0) (t := 0) (N := 256) (a := 99) (Y' := yy_198) dX11_init_738 (by decide) rfl narr_0 (by decide) (by decide) (by decide) (by decide +kernel) (by decide) (by decide +kernel) rfl rfl rfl ?_
  refine n_putF 740 (fs := [some (some 77), none, none, none, none, none, none, none, none, some (some 78), some (some 79), some (some 80), some (some 81), some (some 82), some (some 83), none, some (some 84), some (some 85), some (some 86), some (some 87), some (some 88), some (some 89), some (some 90), some (some 91), some (some 92), some (some 93), some (some 94), some (some 95), some (some 96), some (some 97), some (some 98), some none, none]) (fs' := [some (some 77), none, none, none, none, none, none, none, none, some (some 78), some (some 79), some (some 80), some (some 81), some (some 82), some (some 83), none, some (some 84), some (some 85), some (some 86), some (some 87), some (some 88), some (some 89), some (some 90), some (some 91), some (some 92), some (some 93), some (some 94), some (some 95), some (some 96), some (some 97), some (some 98), some (some 99), none]) (Y' := yy_199) dX11_init_740 rfl ff_X11_78 (by decide +kernel) (by decide) rfl rfl ?_
  exact n_end 743 ⟨dX11_init_743, rfl⟩
/-- the memory behind the two constructors -/
def mm_0 (M : zM) : zM := (mm_25 (zwZ (mm_1 (zwZ M 0)) 76))
set_option maxHeartbeats 4000000 in
set_option maxRecDepth 100000 in
theorem nt_law (E : zE) (M : zM) : zN E mL_law (fun pc L st => pc = 16 ∧ L = [some (.ref 1000), some (.ref 0), some (.ref 76), none] ∧ st.1 = zY0 ∧ st.2 = mm_0 M) 0 [some (.ref 1000), none, none, none] [] (yy_0, M) 100 66892 := by
  refine n_new 0 (k := 99) (n := 66880) (a := 0) (Y' := yy_1) (fs0 := [some none, some none, some none, some none, some none, some none, some none, some none, some none, some none, some none, none]) dL_law_0 rfl zinX10 tyX10_ok ncl_L_7 ninst_X10 ninit_X10 (fun _ => rfl) ndef_X10 (by decide +kernel) (by decide) (by decide +kernel) rfl rfl rfl ?_
  refine n_dup 3 dL_law_3 rfl ?_
  refine n_callI 4 (k := 24) (n := 60962) (As := []) dL_law_4 li_L_9 rfl rfl ⟨Nat.le_of_ble_eq_true rfl, Nat.le_of_ble_eq_true rfl⟩ (Nat.le_of_ble_eq_true rfl) (nt_1 E (zwZ M 0)) (show yy_1.length ≤ yy_152.length by decide +kernel) rfl rfl ?_
  refine n_astore 7 (L' := [some (.ref 1000), some (.ref 0), none, none]) dL_law_7 (by decide) rfl ?_
  refine n_new 8 (k := 23) (n := 60929) (a := 76) (Y' := yy_153) (fs0 := [some none, none, none, none, none, none, none, none, none, some none, some none, some none, some none, some none, some none, none, some none, some none, some none, some none, some none, some none, some none, some none, some none, some none, some none, some none, some none, some none, some none, some none, none]) dL_law_8 rfl zinX11 tyX11_ok ncl_L_10 ninst_X11 ninit_X11 (fun _ => rfl) ndef_X11 (by decide +kernel) (by decide) (by decide +kernel) rfl rfl rfl ?_
  refine n_dup 11 dL_law_11 rfl ?_
  refine n_callI 12 (k := 0) (n := 0) (As := []) dL_law_12 li_L_12 rfl rfl ⟨Nat.le_of_ble_eq_true rfl, Nat.le_of_ble_eq_true rfl⟩ (Nat.le_of_ble_eq_true rfl) (nt_25 E (zwZ (mm_1 (zwZ M 0)) 76)) (show yy_153.length ≤ yy_199.length by decide +kernel) rfl rfl ?_
  refine n_astore 15 (L' := [some (.ref 1000), some (.ref 0), some (.ref 76), none]) dL_law_15 (by decide) rfl ?_
  exact n_end 16 ⟨rfl, rfl, yy_end, rfl⟩
