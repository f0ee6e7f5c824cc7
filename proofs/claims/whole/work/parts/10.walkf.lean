def fX10_round (p1 : Int32) (p2 : Int32) (p3 : Int32) (M : zM) : Option Int32 :=
  lt (fX10_hasLine p1 p2 M) (fun (b1 : Bool) => if b1 = false then (some (-1 : Int32)) else (lt (fX10_hasLine p1 p3 M) (fun (b2 : Bool) => if b2 = false then (some (-1 : Int32)) else (if p2 = p3 then (some (-1 : Int32)) else (lt (fX10_linesAt p1) (fun (s3 : Nat) => sq (fX2_mayBeOneCar s3 p2 p3 M) (fun (b4 : Bool) => if b4 = false then (some (0 : Int32)) else (some (1 : Int32)))))))))
set_option maxHeartbeats 4000000 in
set_option maxRecDepth 100000 in
theorem tX10_round (E : zE) (p1 : Int32) (p2 : Int32) (p3 : Int32) (M : zM) : zFi E mX10_round [.ref 0, .int p1, .int p2, .int p3] zY0 M (fX10_round p1 p2 p3 M) := by
  refine zF_of (L := [some (.ref 0), some (.int p1), some (.int p2), some (.int p3)]) plX10 (Nat.le_of_ble_eq_true rfl) rfl (fun post => ?_)
  unfold fX10_round
  refine z_aload_n 0 dX10_round_0 rfl ?_
  refine z_iload_n 1 dX10_round_1 rfl ?_
  refine z_iload_n 2 dX10_round_2 rfl ?_
  refine z_ctb (zat_V2 3 dX10_round_3 lk_X10_137 zy_0 rfl rfl ⟨Nat.le_of_ble_eq_true rfl, Nat.le_of_ble_eq_true rfl⟩ (Nat.le_of_ble_eq_true rfl)) (tX10_hasLine E p1 p2 M) (fun b1 => ?_)
  refine z_ifeqb 6 23 dX10_round_6 (by decide) (fun _ => ?_) (fun _ => ?_)
  · refine z_iconst 23 dX10_round_23 zci_m1 ?_
    exact z_ireturn 24 dX10_round_24 rfl rfl (fun h => h)
  · refine z_aload_n 9 dX10_round_9 rfl ?_
    refine z_iload_n 10 dX10_round_10 rfl ?_
    refine z_iload_n 11 dX10_round_11 rfl ?_
    refine z_ctb (zat_V2 12 dX10_round_12 lk_X10_137 zy_0 rfl rfl ⟨Nat.le_of_ble_eq_true rfl, Nat.le_of_ble_eq_true rfl⟩ (Nat.le_of_ble_eq_true rfl)) (tX10_hasLine E p1 p3 M) (fun b2 => ?_)
    refine z_ifeqb 15 23 dX10_round_15 (by decide) (fun _ => ?_) (fun _ => ?_)
    · refine z_iconst 23 dX10_round_23 zci_m1 ?_
      exact z_ireturn 24 dX10_round_24 rfl rfl (fun h => h)
    · refine z_iload_n 18 dX10_round_18 rfl ?_
      refine z_iload_n 19 dX10_round_19 rfl ?_
      refine z_icne 20 25 dX10_round_20 (by decide) (fun _ => ?_) (fun _ => ?_)
      · refine z_iconst 23 dX10_round_23 zci_m1 ?_
        exact z_ireturn 24 dX10_round_24 rfl rfl (fun h => h)
      · refine z_aload_n 25 dX10_round_25 rfl ?_
        refine z_iload_n 26 dX10_round_26 rfl ?_
        refine z_ctaP (zat_V1 27 dX10_round_27 lk_X10_121 zy_0 rfl rfl ⟨Nat.le_of_ble_eq_true rfl, Nat.le_of_ble_eq_true rfl⟩ (Nat.le_of_ble_eq_true rfl)) (tX10_linesAt E p1 M) (P := zsX2 zY0) (zpX10_linesAt p1) (fun s3 hs3 => ?_)
        refine z_iload_n 30 dX10_round_30 rfl ?_
        refine z_iload_n 31 dX10_round_31 rfl ?_
        refine z_cb (zat_V2 32 dX10_round_32 lk_X10_333 hs3.1 rfl rfl ⟨Nat.le_of_ble_eq_true rfl, Nat.le_of_ble_eq_true rfl⟩ (Nat.le_of_ble_eq_true rfl)) (tX2_mayBeOneCar E zY0 s3 hs3 p2 p3 M) (fun b4 => ?_)
        refine z_ifeqb 35 42 dX10_round_35 (by decide) (fun _ => ?_) (fun _ => ?_)
        · refine z_iconst 42 dX10_round_42 zci_0 ?_
          exact z_ireturn 43 dX10_round_43 rfl rfl (fun h => h)
        · refine z_iconst 38 dX10_round_38 zci_1 ?_
          refine z_goto 39 43 dX10_round_39 (by decide) ?_
          exact z_ireturn 43 dX10_round_43 rfl rfl (fun h => h)
def fX10_fewestCars (a1 : Nat) (M : zM) : Option (Int32 × zM) :=
  sq (fX1_begin (M.1 a1 0) M) (fun (M1 : zM) => sq (α := zM) (zlp (α := Int32 × zM) (β := zM) (fun rec29 => (fun (u47 : Int32 × zM) => match u47 with | (x27, M28) => if (M28.1 a1 0) ≤ x27 then (some M28) else (sq (α := zM) (zlp (α := Int32 × zM) (β := zM) (fun rec35 => (fun (u43 : Int32 × zM) => match u43 with | (x33, M34) => if x27 ≤ x33 then (some M34) else (sq (fX2_mayBeOneCar a1 x27 x33 M34) (fun (b39 : Bool) => sq (α := zM) (if b39 = false then (some M34) else (sq (fX1_join x27 x33 M34) (fun (M42 : zM) => some M42))) (fun (M41 : zM) => rec35 ((x33 + (1 : Int32)), M41)))))) zFu ((0 : Int32), M28)) (fun (M38 : zM) => rec29 ((x27 + (1 : Int32)), M38))))) zFu ((0 : Int32), M1)) (fun (M32 : zM) => bi (fX1_fewest M32) (fun (x46 : Int32) (M45 : zM) => some (x46, M45))))
set_option maxHeartbeats 4000000 in
set_option maxRecDepth 100000 in
theorem tX10_fewestCars (E : zE) (a1 : Nat) (ha1 : zsX2 zY0 a1) (M : zM) : zFI E mX10_fewestCars [.ref 0, .ref a1] zY0 M (fX10_fewestCars a1 M) := by
  refine zF_of (L := [some (.ref 0), some (.ref a1), none, none]) plX10 (Nat.le_of_ble_eq_true rfl) rfl (fun post => ?_)
  unfold fX10_fewestCars
  refine z_aload_n 0 dX10_fewestCars_0 rfl ?_
  refine z_getR 1 (r := 70) dX10_fewestCars_1 fl_X10_67 zy_0 rfl ?_
  refine z_aload_n 4 dX10_fewestCars_4 rfl ?_
  refine z_getI 5 dX10_fewestCars_5 fl_X10_125 ha1.1 rfl ?_
  refine z_cV (zat_V1 8 dX10_fewestCars_8 lk_X10_406 zy_70 rfl rfl ⟨Nat.le_of_ble_eq_true rfl, Nat.le_of_ble_eq_true rfl⟩ (Nat.le_of_ble_eq_true rfl)) (tX1_begin E (M.1 a1 0) M) (fun M1 => ?_)
  refine z_iconst 11 dX10_fewestCars_11 zci_0 ?_
  refine z_istore_n 12 (L' := [some (.ref 0), some (.ref a1), some (.int (0 : Int32)), none]) dX10_fewestCars_12 (by decide) rfl ?_
  refine zk_sqj (α := zM) 58 (fun (M32 : zM) => [some (.ref 0), none, none, none]) (fun (M32 : zM) => []) (fun (M32 : zM) => (zY0, M32)) ?_ ?_
  · intro M32
    refine z_aload_n 58 dX10_fewestCars_58 rfl ?_
    refine z_getR 59 (r := 70) dX10_fewestCars_59 fl_X10_67 zy_0 rfl ?_
    refine z_cI (zat_V0 62 dX10_fewestCars_62 lk_X10_431 zy_70 rfl rfl ⟨Nat.le_of_ble_eq_true rfl, Nat.le_of_ble_eq_true rfl⟩ (Nat.le_of_ble_eq_true rfl)) (tX1_fewest E M32) (fun x46 M45 => ?_)
    exact z_ireturn 65 dX10_fewestCars_65 rfl rfl (fun h => h)
  · refine zk_weak (L' := [some (.ref 0), some (.ref a1), some (.int (0 : Int32)), none]) (zLe_s (zLe_s (zLe_s (zLe_n zLe_nl)))) (zk_lp (α := Int32 × zM) 13 (fun (u30 : Int32 × zM) => match u30 with | (x27, M28) => [some (.ref 0), some (.ref a1), some (.int x27), none]) (fun (u31 : Int32 × zM) => match u31 with | (x27, M28) => (zY0, M28)) ?_ zFu ((0 : Int32), M1))
    intro rec29 hrec29
    intro u48
    obtain ⟨x27, M28⟩ := u48
    try dsimp only
    refine z_iload_n 13 dX10_fewestCars_13 rfl ?_
    refine z_aload_n 14 dX10_fewestCars_14 rfl ?_
    refine z_getI 15 dX10_fewestCars_15 fl_X10_125 ha1.1 rfl ?_
    refine z_icge 18 58 dX10_fewestCars_18 (by decide) (fun _ => ?_) (fun _ => ?_)
    · exact zk_exitw (L' := [some (.ref 0), none, none, none]) (zLe_s (zLe_n (zLe_n (zLe_n zLe_nl)))) (fun h => h)
    · refine z_iconst 21 dX10_fewestCars_21 zci_0 ?_
      refine z_istore_n 22 (L' := [some (.ref 0), some (.ref a1), some (.int x27), some (.int (0 : Int32))]) dX10_fewestCars_22 (by decide) rfl ?_
      refine zk_sqj (α := zM) 52 (fun (M38 : zM) => [some (.ref 0), some (.ref a1), some (.int x27), none]) (fun (M38 : zM) => []) (fun (M38 : zM) => (zY0, M38)) ?_ ?_
      · intro M38
        refine z_iinc 52 (v := (x27 + (1 : Int32))) (L' := [some (.ref 0), some (.ref a1), some (.int (x27 + (1 : Int32))), none]) dX10_fewestCars_52 rfl (zinc zci_1 _) (by decide) rfl ?_
        refine z_goto 55 13 dX10_fewestCars_55 (by decide) ?_
        exact zk_weak (L' := [some (.ref 0), some (.ref a1), some (.int (x27 + (1 : Int32))), none]) (zLe_s (zLe_s (zLe_s (zLe_n zLe_nl)))) (hrec29 ((x27 + (1 : Int32)), M38))
      · refine zk_weak (L' := [some (.ref 0), some (.ref a1), some (.int x27), some (.int (0 : Int32))]) (zLe_s (zLe_s (zLe_s (zLe_s zLe_nl)))) (zk_lp (α := Int32 × zM) 23 (fun (u36 : Int32 × zM) => match u36 with | (x33, M34) => [some (.ref 0), some (.ref a1), some (.int x27), some (.int x33)]) (fun (u37 : Int32 × zM) => match u37 with | (x33, M34) => (zY0, M34)) ?_ zFu ((0 : Int32), M28))
        intro rec35 hrec35
        intro u44
        obtain ⟨x33, M34⟩ := u44
        try dsimp only
        refine z_iload_n 23 dX10_fewestCars_23 rfl ?_
        refine z_iload_n 24 dX10_fewestCars_24 rfl ?_
        refine z_icge 25 52 dX10_fewestCars_25 (by decide) (fun _ => ?_) (fun _ => ?_)
        · exact zk_exitw (L' := [some (.ref 0), some (.ref a1), some (.int x27), none]) (zLe_s (zLe_s (zLe_s (zLe_n zLe_nl)))) (fun h => h)
        · refine z_aload_n 28 dX10_fewestCars_28 rfl ?_
          refine z_iload_n 29 dX10_fewestCars_29 rfl ?_
          refine z_iload_n 30 dX10_fewestCars_30 rfl ?_
          refine z_cb (zat_V2 31 dX10_fewestCars_31 lk_X10_333 ha1.1 rfl rfl ⟨Nat.le_of_ble_eq_true rfl, Nat.le_of_ble_eq_true rfl⟩ (Nat.le_of_ble_eq_true rfl)) (tX2_mayBeOneCar E zY0 a1 ha1 x27 x33 M34) (fun b39 => ?_)
          refine zk_sqj (α := zM) 46 (fun (M41 : zM) => [some (.ref 0), some (.ref a1), some (.int x27), some (.int x33)]) (fun (M41 : zM) => []) (fun (M41 : zM) => (zY0, M41)) ?_ ?_
          · intro M41
            refine z_iinc 46 (v := (x33 + (1 : Int32))) (L' := [some (.ref 0), some (.ref a1), some (.int x27), some (.int (x33 + (1 : Int32)))]) dX10_fewestCars_46 rfl (zinc zci_1 _) (by decide) rfl ?_
            refine z_goto 49 23 dX10_fewestCars_49 (by decide) ?_
            exact zk_weak (L' := [some (.ref 0), some (.ref a1), some (.int x27), some (.int (x33 + (1 : Int32)))]) (zLe_s (zLe_s (zLe_s (zLe_s zLe_nl)))) (hrec35 ((x33 + (1 : Int32)), M41))
          · refine z_ifeqb 34 46 dX10_fewestCars_34 (by decide) (fun _ => ?_) (fun _ => ?_)
            · exact zk_exitw (L' := [some (.ref 0), some (.ref a1), some (.int x27), some (.int x33)]) (zLe_s (zLe_s (zLe_s (zLe_s zLe_nl)))) (fun h => h)
            · refine z_aload_n 37 dX10_fewestCars_37 rfl ?_
              refine z_getR 38 (r := 70) dX10_fewestCars_38 fl_X10_67 zy_0 rfl ?_
              refine z_iload_n 41 dX10_fewestCars_41 rfl ?_
              refine z_iload_n 42 dX10_fewestCars_42 rfl ?_
              refine z_cV (zat_V2 43 dX10_fewestCars_43 lk_X10_409 zy_70 rfl rfl ⟨Nat.le_of_ble_eq_true rfl, Nat.le_of_ble_eq_true rfl⟩ (Nat.le_of_ble_eq_true rfl)) (tX1_join E x27 x33 M34) (fun M42 => ?_)
              exact zk_exitw (L' := [some (.ref 0), some (.ref a1), some (.int x27), some (.int x33)]) (zLe_s (zLe_s (zLe_s (zLe_s zLe_nl)))) (fun h => h)
def fX10_cars (p1 : Int32) (p2 : Int32) (M : zM) : Option (Int32 × zM) :=
  lt (fX10_isEnd p1) (fun (b1 : Bool) => if b1 = false then (some ((-1 : Int32), M)) else (lt (fX10_within p2 (0 : Int32) (1 : Int32)) (fun (b2 : Bool) => if b2 = false then (some ((-1 : Int32), M)) else (lt (fX10_linesAt p1) (fun (s3 : Nat) => if p2 = 0 then (some ((M.1 s3 0), M)) else (bi (fX10_fewestCars s3 M) (fun (x5 : Int32) (M4 : zM) => some (x5, M4))))))))
set_option maxHeartbeats 4000000 in
set_option maxRecDepth 100000 in
theorem tX10_cars (E : zE) (p1 : Int32) (p2 : Int32) (M : zM) : zFI E mX10_cars [.ref 0, .int p1, .int p2] zY0 M (fX10_cars p1 p2 M) := by
  refine zF_of (L := [some (.ref 0), some (.int p1), some (.int p2), none]) plX10 (Nat.le_of_ble_eq_true rfl) rfl (fun post => ?_)
  unfold fX10_cars
  refine z_iload_n 0 dX10_cars_0 rfl ?_
  refine z_ctb (zat_S1 1 dX10_cars_1 lk_X10_117 ⟨Nat.le_of_ble_eq_true rfl, Nat.le_of_ble_eq_true rfl⟩ (Nat.le_of_ble_eq_true rfl)) (tX10_isEnd E zY0 p1 M) (fun b1 => ?_)
  refine z_ifeqb 4 16 dX10_cars_4 (by decide) (fun _ => ?_) (fun _ => ?_)
  · refine z_iconst 16 dX10_cars_16 zci_m1 ?_
    exact z_ireturn 17 dX10_cars_17 rfl rfl (fun h => h)
  · refine z_iload_n 7 dX10_cars_7 rfl ?_
    refine z_iconst 8 dX10_cars_8 zci_0 ?_
    refine z_iconst 9 dX10_cars_9 zci_1 ?_
    refine z_ctb (zat_S3 10 dX10_cars_10 lk_X10_89 ⟨Nat.le_of_ble_eq_true rfl, Nat.le_of_ble_eq_true rfl⟩ (Nat.le_of_ble_eq_true rfl)) (tX10_within E zY0 p2 (0 : Int32) (1 : Int32) M) (fun b2 => ?_)
    refine z_ifneb 13 18 dX10_cars_13 (by decide) (fun _ => ?_) (fun _ => ?_)
    · refine z_iconst 16 dX10_cars_16 zci_m1 ?_
      exact z_ireturn 17 dX10_cars_17 rfl rfl (fun h => h)
    · refine z_aload_n 18 dX10_cars_18 rfl ?_
      refine z_iload_n 19 dX10_cars_19 rfl ?_
      refine z_ctaP (zat_V1 20 dX10_cars_20 lk_X10_121 zy_0 rfl rfl ⟨Nat.le_of_ble_eq_true rfl, Nat.le_of_ble_eq_true rfl⟩ (Nat.le_of_ble_eq_true rfl)) (tX10_linesAt E p1 M) (P := zsX2 zY0) (zpX10_linesAt p1) (fun s3 hs3 => ?_)
      refine z_astore_n 23 (L' := [some (.ref 0), some (.int p1), some (.int p2), some (.ref s3)]) dX10_cars_23 (by decide) rfl ?_
      refine z_iload_n 24 dX10_cars_24 rfl ?_
      refine z_ifne 25 35 dX10_cars_25 (by decide) (fun _ => ?_) (fun _ => ?_)
      · refine z_aload_n 28 dX10_cars_28 rfl ?_
        refine z_getI 29 dX10_cars_29 fl_X10_125 hs3.1 rfl ?_
        refine z_goto 32 40 dX10_cars_32 (by decide) ?_
        exact z_ireturn 40 dX10_cars_40 rfl rfl (fun h => h)
      · refine z_aload_n 35 dX10_cars_35 rfl ?_
        refine z_aload_n 36 dX10_cars_36 rfl ?_
        refine z_cI (zat_V1 37 dX10_cars_37 lk_X10_336 zy_0 rfl rfl ⟨Nat.le_of_ble_eq_true rfl, Nat.le_of_ble_eq_true rfl⟩ (Nat.le_of_ble_eq_true rfl)) (tX10_fewestCars E s3 hs3 M) (fun x5 M4 => ?_)
        exact z_ireturn 40 dX10_cars_40 rfl rfl (fun h => h)
def fX10_isImage (p1 : Int32) : Bool :=
  (fX10_within p1 (0 : Int32) ((Int32.ofNat 2) - (1 : Int32)))
set_option maxHeartbeats 4000000 in
set_option maxRecDepth 100000 in
theorem tX10_isImage (E : zE) (p1 : Int32) (M : zM) : zFb E mX10_isImage [.ref 0, .int p1] zY0 M (some (fX10_isImage p1)) := by
  refine zF_of (L := [some (.ref 0), some (.int p1)]) plX10 (Nat.le_of_ble_eq_true rfl) rfl (fun post => ?_)
  show zK E _ post 0 _ _ _ (lt (fX10_isImage p1) some) _
  unfold fX10_isImage
  refine z_iload_n 0 dX10_isImage_0 rfl ?_
  refine z_iconst 1 dX10_isImage_1 zci_0 ?_
  refine z_aload_n 2 dX10_isImage_2 rfl ?_
  refine z_getR 3 (r := 14) dX10_isImage_3 fl_X10_16 zy_0 rfl ?_
  refine z_alen 6 dX10_isImage_6 zy_14 (by decide) ?_
  refine z_iconst 7 dX10_isImage_7 zci_1 ?_
  refine z_isub 8 dX10_isImage_8 ?_
  refine z_ctb0 (zat_S3 9 dX10_isImage_9 lk_X10_89 ⟨Nat.le_of_ble_eq_true rfl, Nat.le_of_ble_eq_true rfl⟩ (Nat.le_of_ble_eq_true rfl)) (tX10_within E zY0 p1 (0 : Int32) ((Int32.ofNat 2) - (1 : Int32)) M) ?_
  exact z_ireturn 12 (v := zb (fX10_within p1 (0 : Int32) ((Int32.ofNat 2) - (1 : Int32)))) dX10_isImage_12 rfl (zput_b (fX10_within p1 (0 : Int32) ((Int32.ofNat 2) - (1 : Int32)))).1 (fun h => h)
def fX10_keep (p1 : Int32) (M : zM) : Option (Int32 × zM) :=
  lt (fX10_isImage p1) (fun (b1 : Bool) => if b1 = false then (some ((-1 : Int32), M)) else (grd (zix p1 2) (lt (15 + 13 * zn p1) (fun (s2 : Nat) => lt (if (M.1 s2 4) = 0 then (false) else (true)) (fun (b3 : Bool) => grd (zix p1 2) (lt (15 + 13 * zn p1) (fun (s4 : Nat) => sq (fX7_copyFrom s4 1 M) (fun (M5 : zM) => grd (zix p1 2) (lt (15 + 13 * zn p1) (fun (s6 : Nat) => lt (zwI M5 s6 4 (zb true)) (fun (M7 : zM) => some ((zb b3), M7))))))))))))
set_option maxHeartbeats 4000000 in
set_option maxRecDepth 100000 in
theorem tX10_keep (E : zE) (p1 : Int32) (M : zM) : zFI E mX10_keep [.ref 0, .int p1] zY0 M (fX10_keep p1 M) := by
  refine zF_of (L := [some (.ref 0), some (.int p1), none]) plX10 (Nat.le_of_ble_eq_true rfl) rfl (fun post => ?_)
  unfold fX10_keep
  refine z_aload_n 0 dX10_keep_0 rfl ?_
  refine z_iload_n 1 dX10_keep_1 rfl ?_
  refine z_ctb (zat_V1 2 dX10_keep_2 lk_X10_340 zy_0 rfl rfl ⟨Nat.le_of_ble_eq_true rfl, Nat.le_of_ble_eq_true rfl⟩ (Nat.le_of_ble_eq_true rfl)) (tX10_isImage E p1 M) (fun b1 => ?_)
  refine z_ifneb 5 10 dX10_keep_5 (by decide) (fun _ => ?_) (fun _ => ?_)
  · refine z_iconst 8 dX10_keep_8 zci_m1 ?_
    exact z_ireturn 9 dX10_keep_9 rfl rfl (fun h => h)
  · refine z_aload_n 10 dX10_keep_10 rfl ?_
    refine z_getR 11 (r := 14) dX10_keep_11 fl_X10_16 zy_0 rfl ?_
    refine z_iload_n 14 dX10_keep_14 rfl ?_
    refine z_aaloadP 15 (r := fun j => 15 + 13 * j) (P := zsX7 zY0) dX10_keep_15 (by decide) rfl zy_14 zar_14 zap_14 (fun s2 hs2 => ?_)
    refine z_getI 16 dX10_keep_16 fl_X10_343 hs2.1 rfl ?_
    refine zk_ltj (α := Bool) 27 (fun (b3 : Bool) => [some (.ref 0), some (.int p1), none]) (fun (b3 : Bool) => [.int (zb b3)]) (fun (b3 : Bool) => (zY0, M)) ?_ ?_
    · intro b3
      refine z_istore_n 27 (L' := [some (.ref 0), some (.int p1), some (.int (zb b3))]) dX10_keep_27 (by decide) rfl ?_
      refine z_aload_n 28 dX10_keep_28 rfl ?_
      refine z_getR 29 (r := 14) dX10_keep_29 fl_X10_16 zy_0 rfl ?_
      refine z_iload_n 32 dX10_keep_32 rfl ?_
      refine z_aaloadP 33 (r := fun j => 15 + 13 * j) (P := zsX7 zY0) dX10_keep_33 (by decide) rfl zy_14 zar_14 zap_14 (fun s4 hs4 => ?_)
      refine z_aload_n 34 dX10_keep_34 rfl ?_
      refine z_getR 35 (r := 1) dX10_keep_35 fl_X10_12 zy_0 rfl ?_
      refine z_cV (zat_V1 38 dX10_keep_38 lk_X10_347 hs4.1 rfl rfl ⟨Nat.le_of_ble_eq_true rfl, Nat.le_of_ble_eq_true rfl⟩ (Nat.le_of_ble_eq_true rfl)) (tX7_copyFrom E zY0 s4 hs4 1 zs_X7_1 M) (fun M5 => ?_)
      refine z_aload_n 41 dX10_keep_41 rfl ?_
      refine z_getR 42 (r := 14) dX10_keep_42 fl_X10_16 zy_0 rfl ?_
      refine z_iload_n 45 dX10_keep_45 rfl ?_
      refine z_aaloadP 46 (r := fun j => 15 + 13 * j) (P := zsX7 zY0) dX10_keep_46 (by decide) rfl zy_14 zar_14 zap_14 (fun s6 hs6 => ?_)
      refine z_iconst 47 dX10_keep_47 zci_1 ?_
      refine z_put 48 (v := (zb true)) dX10_keep_48 fp_X10_343 hs6.1 rfl (zput_b true) ?_
      refine zk_nmM (fun M7 => ?_)
      refine z_iload_n 51 dX10_keep_51 rfl ?_
      exact z_ireturn 52 dX10_keep_52 rfl rfl (fun h => h)
    · intro k8 hk8
      refine z_ifeqv 19 26 dX10_keep_19 (by decide) ?_ ?_
      · refine z_iconst 26 dX10_keep_26 zci_0 ?_
        exact zk_weak (L' := [some (.ref 0), some (.int p1), none]) (zLe_s (zLe_s (zLe_n zLe_nl))) (hk8 false)
      · refine z_iconst 22 dX10_keep_22 zci_1 ?_
        refine z_goto 23 27 dX10_keep_23 (by decide) ?_
        exact zk_weak (L' := [some (.ref 0), some (.int p1), none]) (zLe_s (zLe_s (zLe_n zLe_nl))) (hk8 true)
def fX10_back (p1 : Int32) (M : zM) : Option (Int32 × zM) :=
  lt (fX10_isImage p1) (fun (b1 : Bool) => if b1 = false then (some ((-1 : Int32), M)) else (grd (zix p1 2) (lt (15 + 13 * zn p1) (fun (s2 : Nat) => if (M.1 s2 4) = 0 then (some ((-2 : Int32), M)) else (grd (zix p1 2) (lt (15 + 13 * zn p1) (fun (s3 : Nat) => sq (fX7_copyFrom 1 s3 M) (fun (M4 : zM) => some (((M4.1 2 0) + (M4.1 6 0)), M4)))))))))
set_option maxHeartbeats 4000000 in
set_option maxRecDepth 100000 in
theorem tX10_back (E : zE) (p1 : Int32) (M : zM) : zFI E mX10_back [.ref 0, .int p1] zY0 M (fX10_back p1 M) := by
  refine zF_of (L := [some (.ref 0), some (.int p1)]) plX10 (Nat.le_of_ble_eq_true rfl) rfl (fun post => ?_)
  unfold fX10_back
  refine z_aload_n 0 dX10_back_0 rfl ?_
  refine z_iload_n 1 dX10_back_1 rfl ?_
  refine z_ctb (zat_V1 2 dX10_back_2 lk_X10_340 zy_0 rfl rfl ⟨Nat.le_of_ble_eq_true rfl, Nat.le_of_ble_eq_true rfl⟩ (Nat.le_of_ble_eq_true rfl)) (tX10_isImage E p1 M) (fun b1 => ?_)
  refine z_ifneb 5 10 dX10_back_5 (by decide) (fun _ => ?_) (fun _ => ?_)
  · refine z_iconst 8 dX10_back_8 zci_m1 ?_
    exact z_ireturn 9 dX10_back_9 rfl rfl (fun h => h)
  · refine z_aload_n 10 dX10_back_10 rfl ?_
    refine z_getR 11 (r := 14) dX10_back_11 fl_X10_16 zy_0 rfl ?_
    refine z_iload_n 14 dX10_back_14 rfl ?_
    refine z_aaloadP 15 (r := fun j => 15 + 13 * j) (P := zsX7 zY0) dX10_back_15 (by decide) rfl zy_14 zar_14 zap_14 (fun s2 hs2 => ?_)
    refine z_getI 16 dX10_back_16 fl_X10_343 hs2.1 rfl ?_
    refine z_ifne 19 25 dX10_back_19 (by decide) (fun _ => ?_) (fun _ => ?_)
    · refine z_bipush 22 dX10_back_22 zbp_m2 ?_
      exact z_ireturn 24 dX10_back_24 rfl rfl (fun h => h)
    · refine z_aload_n 25 dX10_back_25 rfl ?_
      refine z_getR 26 (r := 1) dX10_back_26 fl_X10_12 zy_0 rfl ?_
      refine z_aload_n 29 dX10_back_29 rfl ?_
      refine z_getR 30 (r := 14) dX10_back_30 fl_X10_16 zy_0 rfl ?_
      refine z_iload_n 33 dX10_back_33 rfl ?_
      refine z_aaloadP 34 (r := fun j => 15 + 13 * j) (P := zsX7 zY0) dX10_back_34 (by decide) rfl zy_14 zar_14 zap_14 (fun s3 hs3 => ?_)
      refine z_cV (zat_V1 35 dX10_back_35 lk_X10_347 zy_1 rfl rfl ⟨Nat.le_of_ble_eq_true rfl, Nat.le_of_ble_eq_true rfl⟩ (Nat.le_of_ble_eq_true rfl)) (tX7_copyFrom E zY0 1 zs_X7_1 s3 hs3 M) (fun M4 => ?_)
      refine z_aload_n 38 dX10_back_38 rfl ?_
      refine z_getR 39 (r := 1) dX10_back_39 fl_X10_12 zy_0 rfl ?_
      refine z_getR 42 (r := 2) dX10_back_42 fl_X10_170 zy_1 rfl ?_
      refine z_getI 45 dX10_back_45 fl_X10_125 zy_2 rfl ?_
      refine z_aload_n 48 dX10_back_48 rfl ?_
      refine z_getR 49 (r := 1) dX10_back_49 fl_X10_12 zy_0 rfl ?_
      refine z_getR 52 (r := 6) dX10_back_52 fl_X10_174 zy_1 rfl ?_
      refine z_getI 55 dX10_back_55 fl_X10_125 zy_6 rfl ?_
      refine z_iadd 58 dX10_back_58 ?_
      exact z_ireturn 59 dX10_back_59 rfl rfl (fun h => h)
def fX10_sheet (p1 : Int32) (p2 : Int32) (p3 : Int32) (M : zM) : Option (Int32 × zM) :=
  lt (fX10_isSheet p1) (fun (b1 : Bool) => if b1 = false then (some ((-1 : Int32), M)) else (lt (fX10_isLane p2) (fun (b2 : Bool) => if b2 = false then (some ((-1 : Int32), M)) else (if p3 ≤ (64 : Int32) then (if 0 ≤ p3 then (grd (zix p1 4) (lt (42 + 2 * zn p1) (fun (s3 : Nat) => sq (fX8_renew s3 p2 p3 M) (fun (M4 : zM) => some ((1 : Int32), M4))))) else (some ((-14 : Int32), M))) else (some ((-1 : Int32), M))))))
set_option maxHeartbeats 4000000 in
set_option maxRecDepth 100000 in
theorem tX10_sheet (E : zE) (p1 : Int32) (p2 : Int32) (p3 : Int32) (M : zM) : zFI E mX10_sheet [.ref 0, .int p1, .int p2, .int p3] zY0 M (fX10_sheet p1 p2 p3 M) := by
  refine zF_of (L := [some (.ref 0), some (.int p1), some (.int p2), some (.int p3)]) plX10 (Nat.le_of_ble_eq_true rfl) rfl (fun post => ?_)
  unfold fX10_sheet
  refine z_aload_n 0 dX10_sheet_0 rfl ?_
  refine z_iload_n 1 dX10_sheet_1 rfl ?_
  refine z_ctb (zat_V1 2 dX10_sheet_2 lk_X10_266 zy_0 rfl rfl ⟨Nat.le_of_ble_eq_true rfl, Nat.le_of_ble_eq_true rfl⟩ (Nat.le_of_ble_eq_true rfl)) (tX10_isSheet E p1 M) (fun b1 => ?_)
  refine z_ifeqb 5 21 dX10_sheet_5 (by decide) (fun _ => ?_) (fun _ => ?_)
  · refine z_iconst 21 dX10_sheet_21 zci_m1 ?_
    exact z_ireturn 22 dX10_sheet_22 rfl rfl (fun h => h)
  · refine z_iload_n 8 dX10_sheet_8 rfl ?_
    refine z_ctb (zat_S1 9 dX10_sheet_9 lk_X10_269 ⟨Nat.le_of_ble_eq_true rfl, Nat.le_of_ble_eq_true rfl⟩ (Nat.le_of_ble_eq_true rfl)) (tX10_isLane E zY0 p2 M) (fun b2 => ?_)
    refine z_ifeqb 12 21 dX10_sheet_12 (by decide) (fun _ => ?_) (fun _ => ?_)
    · refine z_iconst 21 dX10_sheet_21 zci_m1 ?_
      exact z_ireturn 22 dX10_sheet_22 rfl rfl (fun h => h)
    · refine z_iload_n 15 dX10_sheet_15 rfl ?_
      refine z_bipush 16 dX10_sheet_16 zbp_64 ?_
      refine z_icle 18 23 dX10_sheet_18 (by decide) (fun _ => ?_) (fun _ => ?_)
      · refine z_iload_n 23 dX10_sheet_23 rfl ?_
        refine z_ifge 24 30 dX10_sheet_24 (by decide) (fun _ => ?_) (fun _ => ?_)
        · refine z_aload_n 30 dX10_sheet_30 rfl ?_
          refine z_getR 31 (r := 41) dX10_sheet_31 fl_X10_23 zy_0 rfl ?_
          refine z_iload_n 34 dX10_sheet_34 rfl ?_
          refine z_aaloadP 35 (r := fun j => 42 + 2 * j) (P := zsX8 zY0) dX10_sheet_35 (by decide) rfl zy_41 zar_41 zap_41 (fun s3 hs3 => ?_)
          refine z_iload_n 36 dX10_sheet_36 rfl ?_
          refine z_iload_n 37 dX10_sheet_37 rfl ?_
          refine z_cV (zat_V2 38 dX10_sheet_38 lk_X10_350 hs3.1 rfl rfl ⟨Nat.le_of_ble_eq_true rfl, Nat.le_of_ble_eq_true rfl⟩ (Nat.le_of_ble_eq_true rfl)) (tX8_renew E zY0 s3 hs3 p2 p3 M) (fun M4 => ?_)
          refine z_iconst 41 dX10_sheet_41 zci_1 ?_
          exact z_ireturn 42 dX10_sheet_42 rfl rfl (fun h => h)
        · refine z_bipush 27 dX10_sheet_27 zbp_m14 ?_
          exact z_ireturn 29 dX10_sheet_29 rfl rfl (fun h => h)
      · refine z_iconst 21 dX10_sheet_21 zci_m1 ?_
        exact z_ireturn 22 dX10_sheet_22 rfl rfl (fun h => h)
def fX10_lay (p1 : Int32) (p2 : Int32) (p3 : Int32) (M : zM) : Option (Int32 × zM) :=
  lt (fX10_isSheet p1) (fun (b1 : Bool) => if b1 = false then (some ((-1 : Int32), M)) else (grd (zix p1 4) (lt (42 + 2 * zn p1) (fun (s2 : Nat) => if (M.1 s2 0) = 0 then (some ((-11 : Int32), M)) else (lt (fX10_within p2 (0 : Int32) ((M.1 s2 2) - (1 : Int32))) (fun (b3 : Bool) => if b3 = false then (some ((-12 : Int32), M)) else (sq (fX8_put s2 p2 p3 M) (fun (M4 : zM) => some ((1 : Int32), M4)))))))))
set_option maxHeartbeats 4000000 in
set_option maxRecDepth 100000 in
theorem tX10_lay (E : zE) (p1 : Int32) (p2 : Int32) (p3 : Int32) (M : zM) : zFI E mX10_lay [.ref 0, .int p1, .int p2, .int p3] zY0 M (fX10_lay p1 p2 p3 M) := by
  refine zF_of (L := [some (.ref 0), some (.int p1), some (.int p2), some (.int p3), none]) plX10 (Nat.le_of_ble_eq_true rfl) rfl (fun post => ?_)
  unfold fX10_lay
  refine z_aload_n 0 dX10_lay_0 rfl ?_
  refine z_iload_n 1 dX10_lay_1 rfl ?_
  refine z_ctb (zat_V1 2 dX10_lay_2 lk_X10_266 zy_0 rfl rfl ⟨Nat.le_of_ble_eq_true rfl, Nat.le_of_ble_eq_true rfl⟩ (Nat.le_of_ble_eq_true rfl)) (tX10_isSheet E p1 M) (fun b1 => ?_)
  refine z_ifneb 5 10 dX10_lay_5 (by decide) (fun _ => ?_) (fun _ => ?_)
  · refine z_iconst 8 dX10_lay_8 zci_m1 ?_
    exact z_ireturn 9 dX10_lay_9 rfl rfl (fun h => h)
  · refine z_aload_n 10 dX10_lay_10 rfl ?_
    refine z_getR 11 (r := 41) dX10_lay_11 fl_X10_23 zy_0 rfl ?_
    refine z_iload_n 14 dX10_lay_14 rfl ?_
    refine z_aaloadP 15 (r := fun j => 42 + 2 * j) (P := zsX8 zY0) dX10_lay_15 (by decide) rfl zy_41 zar_41 zap_41 (fun s2 hs2 => ?_)
    refine z_astore 16 (L' := [some (.ref 0), some (.int p1), some (.int p2), some (.int p3), some (.ref s2)]) dX10_lay_16 (by decide) rfl ?_
    refine z_aload 18 dX10_lay_18 rfl ?_
    refine z_getI 20 dX10_lay_20 fl_X10_353 hs2.1 rfl ?_
    refine z_ifne 23 29 dX10_lay_23 (by decide) (fun _ => ?_) (fun _ => ?_)
    · refine z_bipush 26 dX10_lay_26 zbp_m11 ?_
      exact z_ireturn 28 dX10_lay_28 rfl rfl (fun h => h)
    · refine z_iload_n 29 dX10_lay_29 rfl ?_
      refine z_iconst 30 dX10_lay_30 zci_0 ?_
      refine z_aload 31 dX10_lay_31 rfl ?_
      refine z_getI 33 dX10_lay_33 fl_X10_356 hs2.1 rfl ?_
      refine z_iconst 36 dX10_lay_36 zci_1 ?_
      refine z_isub 37 dX10_lay_37 ?_
      refine z_ctb (zat_S3 38 dX10_lay_38 lk_X10_89 ⟨Nat.le_of_ble_eq_true rfl, Nat.le_of_ble_eq_true rfl⟩ (Nat.le_of_ble_eq_true rfl)) (tX10_within E zY0 p2 (0 : Int32) ((M.1 s2 2) - (1 : Int32)) M) (fun b3 => ?_)
      refine z_ifneb 41 47 dX10_lay_41 (by decide) (fun _ => ?_) (fun _ => ?_)
      · refine z_bipush 44 dX10_lay_44 zbp_m12 ?_
        exact z_ireturn 46 dX10_lay_46 rfl rfl (fun h => h)
      · refine z_aload 47 dX10_lay_47 rfl ?_
        refine z_iload_n 49 dX10_lay_49 rfl ?_
        refine z_iload_n 50 dX10_lay_50 rfl ?_
        refine z_cV (zat_V2 51 dX10_lay_51 lk_X10_357 hs2.1 rfl rfl ⟨Nat.le_of_ble_eq_true rfl, Nat.le_of_ble_eq_true rfl⟩ (Nat.le_of_ble_eq_true rfl)) (tX8_put E zY0 s2 hs2 p2 p3 M) (fun M4 => ?_)
        refine z_iconst 54 dX10_lay_54 zci_1 ?_
        exact z_ireturn 55 dX10_lay_55 rfl rfl (fun h => h)
def fX10_refusalOfLines (a1 : Nat) (p2 : Int32) (p3 : Int32) (a4 : Nat) (M : zM) : Option Int32 :=
  zlp (α := Int32) (fun rec5 => (fun (x4 : Int32) => if p3 ≤ x4 then (some (0 : Int32)) else (sq (fX8_isLine a1 (p2 + ((6 : Int32) * x4)) M) (fun (b6 : Bool) => if b6 = false then (some ((-20 : Int32) - x4)) else (if ((M.1 a4 0) + x4) < (10 : Int32) then (rec5 (x4 + (1 : Int32))) else (some (-3 : Int32))))))) zFu (0 : Int32)
set_option maxHeartbeats 4000000 in
set_option maxRecDepth 100000 in
theorem tX10_refusalOfLines (E : zE) (Y : zY) (a1 : Nat) (ha1 : zsX8 Y a1) (p2 : Int32) (p3 : Int32) (a4 : Nat) (ha4 : zsX2 Y a4) (M : zM) : zFi E mX10_refusalOfLines [.ref a1, .int p2, .int p3, .ref a4] Y M (fX10_refusalOfLines a1 p2 p3 a4 M) := by
  refine zF_of (L := [some (.ref a1), some (.int p2), some (.int p3), some (.ref a4), none]) plX10 (Nat.le_of_ble_eq_true rfl) rfl (fun post => ?_)
  unfold fX10_refusalOfLines
  refine z_iconst 0 dX10_refusalOfLines_0 zci_0 ?_
  refine z_istore 1 (L' := [some (.ref a1), some (.int p2), some (.int p3), some (.ref a4), some (.int (0 : Int32))]) dX10_refusalOfLines_1 (by decide) rfl ?_
  refine zk_weak (L' := [some (.ref a1), some (.int p2), some (.int p3), some (.ref a4), some (.int (0 : Int32))]) (zLe_s (zLe_s (zLe_s (zLe_s (zLe_s zLe_nl))))) (zk_lp (α := Int32) 3 (fun (x4 : Int32) => [some (.ref a1), some (.int p2), some (.int p3), some (.ref a4), some (.int x4)]) (fun (x4 : Int32) => (Y, M)) ?_ zFu (0 : Int32))
  intro rec5 hrec5
  intro x4
  refine z_iload 3 dX10_refusalOfLines_3 rfl ?_
  refine z_iload_n 5 dX10_refusalOfLines_5 rfl ?_
  refine z_icge 6 50 dX10_refusalOfLines_6 (by decide) (fun _ => ?_) (fun _ => ?_)
  · refine z_iconst 50 dX10_refusalOfLines_50 zci_0 ?_
    exact z_ireturn 51 dX10_refusalOfLines_51 rfl rfl (fun h => h)
  · refine z_aload_n 9 dX10_refusalOfLines_9 rfl ?_
    refine z_iload_n 10 dX10_refusalOfLines_10 rfl ?_
    refine z_bipush 11 dX10_refusalOfLines_11 zbp_6 ?_
    refine z_iload 13 dX10_refusalOfLines_13 rfl ?_
    refine z_imul 15 dX10_refusalOfLines_15 ?_
    refine z_iadd 16 dX10_refusalOfLines_16 ?_
    refine z_cb (zat_V1 17 dX10_refusalOfLines_17 lk_X10_434 ha1.1 rfl rfl ⟨Nat.le_of_ble_eq_true rfl, Nat.le_of_ble_eq_true rfl⟩ (Nat.le_of_ble_eq_true rfl)) (tX8_isLine E Y a1 ha1 (p2 + ((6 : Int32) * x4)) M) (fun b6 => ?_)
    refine z_ifneb 20 29 dX10_refusalOfLines_20 (by decide) (fun _ => ?_) (fun _ => ?_)
    · refine z_bipush 23 dX10_refusalOfLines_23 zbp_m20 ?_
      refine z_iload 25 dX10_refusalOfLines_25 rfl ?_
      refine z_isub 27 dX10_refusalOfLines_27 ?_
      exact z_ireturn 28 dX10_refusalOfLines_28 rfl rfl (fun h => h)
    · refine z_aload_n 29 dX10_refusalOfLines_29 rfl ?_
      refine z_getI 30 dX10_refusalOfLines_30 fl_X10_125 ha4.1 rfl ?_
      refine z_iload 33 dX10_refusalOfLines_33 rfl ?_
      refine z_iadd 35 dX10_refusalOfLines_35 ?_
      refine z_bipush 36 dX10_refusalOfLines_36 zbp_10 ?_
      refine z_iclt 38 44 dX10_refusalOfLines_38 (by decide) (fun _ => ?_) (fun _ => ?_)
      · refine z_iinc 44 (v := (x4 + (1 : Int32))) (L' := [some (.ref a1), some (.int p2), some (.int p3), some (.ref a4), some (.int (x4 + (1 : Int32)))]) dX10_refusalOfLines_44 rfl (zinc zci_1 _) (by decide) rfl ?_
        refine z_goto 47 3 dX10_refusalOfLines_47 (by decide) ?_
        exact zk_weak (L' := [some (.ref a1), some (.int p2), some (.int p3), some (.ref a4), some (.int (x4 + (1 : Int32)))]) (zLe_s (zLe_s (zLe_s (zLe_s (zLe_s zLe_nl))))) (hrec5 (x4 + (1 : Int32)))
      · refine z_bipush 41 dX10_refusalOfLines_41 zbp_m3 ?_
        exact z_ireturn 43 dX10_refusalOfLines_43 rfl rfl (fun h => h)
def fX10_read (p1 : Int32) (p2 : Int32) (p3 : Int32) (p4 : Int32) (p5 : Int32) (M : zM) : Option (Int32 × zM) :=
  lt (fX10_isSheet p1) (fun (b1 : Bool) => if b1 = false then (some ((-1 : Int32), M)) else (lt (fX10_isLane p2) (fun (b2 : Bool) => if b2 = false then (some ((-1 : Int32), M)) else (lt (fX10_within p4 (0 : Int32) (10 : Int32)) (fun (b3 : Bool) => if b3 = false then (some ((-1 : Int32), M)) else (lt (fX10_isEnd p5) (fun (b4 : Bool) => if b4 = false then (some ((-1 : Int32), M)) else (grd (zix p1 4) (lt (42 + 2 * zn p1) (fun (s5 : Nat) => sq (α := Int32) (if p4 = 0 then (some (0 : Int32)) else (lt (fX8_faultAs s5 p2 M) (fun (x32 : Int32) => some x32))) (fun (x7 : Int32) => sq (α := Int32) (if x7 = 0 then (lt (fX8_wholeLines s5 p3 M) (fun (x31 : Int32) => some (zmn p4 x31))) else (some (0 : Int32))) (fun (x9 : Int32) => lt (if x7 = 0 then (if p4 ≤ x9 then (x7) else ((2 : Int32))) else (x7)) (fun (x10 : Int32) => lt (fX10_linesAt p5) (fun (s11 : Nat) => sq (fX10_refusalOfLines s5 p3 x9 s11 M) (fun (x12 : Int32) => if x12 = 0 then (sq (α := zM) (zlp (α := Int32 × zM) (β := zM) (fun rec22 => (fun (u28 : Int32 × zM) => match u28 with | (x20, M21) => if x9 ≤ x20 then (some M21) else (sq (fX8_appendLine s5 (p3 + ((6 : Int32) * x20)) s11 M21) (fun (M26 : zM) => rec22 ((x20 + (1 : Int32)), M26))))) zFu ((0 : Int32), M)) (fun (M25 : zM) => lt (zwI M25 0 11 x10) (fun (M27 : zM) => some (x9, M27)))) else (some (x12, M)))))))))))))))))
set_option maxHeartbeats 4000000 in
set_option maxRecDepth 100000 in
theorem tX10_read (E : zE) (p1 : Int32) (p2 : Int32) (p3 : Int32) (p4 : Int32) (p5 : Int32) (M : zM) : zFI E mX10_read [.ref 0, .int p1, .int p2, .int p3, .int p4, .int p5] zY0 M (fX10_read p1 p2 p3 p4 p5 M) := by
  refine zF_of (L := [some (.ref 0), some (.int p1), some (.int p2), some (.int p3), some (.int p4), some (.int p5), none, none, none, none, none, none]) plX10 (Nat.le_of_ble_eq_true rfl) rfl (fun post => ?_)
  unfold fX10_read
  refine z_aload_n 0 dX10_read_0 rfl ?_
  refine z_iload_n 1 dX10_read_1 rfl ?_
  refine z_ctb (zat_V1 2 dX10_read_2 lk_X10_266 zy_0 rfl rfl ⟨Nat.le_of_ble_eq_true rfl, Nat.le_of_ble_eq_true rfl⟩ (Nat.le_of_ble_eq_true rfl)) (tX10_isSheet E p1 M) (fun b1 => ?_)
  refine z_ifeqb 5 34 dX10_read_5 (by decide) (fun _ => ?_) (fun _ => ?_)
  · refine z_iconst 34 dX10_read_34 zci_m1 ?_
    exact z_ireturn 35 dX10_read_35 rfl rfl (fun h => h)
  · refine z_iload_n 8 dX10_read_8 rfl ?_
    refine z_ctb (zat_S1 9 dX10_read_9 lk_X10_269 ⟨Nat.le_of_ble_eq_true rfl, Nat.le_of_ble_eq_true rfl⟩ (Nat.le_of_ble_eq_true rfl)) (tX10_isLane E zY0 p2 M) (fun b2 => ?_)
    refine z_ifeqb 12 34 dX10_read_12 (by decide) (fun _ => ?_) (fun _ => ?_)
    · refine z_iconst 34 dX10_read_34 zci_m1 ?_
      exact z_ireturn 35 dX10_read_35 rfl rfl (fun h => h)
    · refine z_iload 15 dX10_read_15 rfl ?_
      refine z_iconst 17 dX10_read_17 zci_0 ?_
      refine z_bipush 18 dX10_read_18 zbp_10 ?_
      refine z_ctb (zat_S3 20 dX10_read_20 lk_X10_89 ⟨Nat.le_of_ble_eq_true rfl, Nat.le_of_ble_eq_true rfl⟩ (Nat.le_of_ble_eq_true rfl)) (tX10_within E zY0 p4 (0 : Int32) (10 : Int32) M) (fun b3 => ?_)
      refine z_ifeqb 23 34 dX10_read_23 (by decide) (fun _ => ?_) (fun _ => ?_)
      · refine z_iconst 34 dX10_read_34 zci_m1 ?_
        exact z_ireturn 35 dX10_read_35 rfl rfl (fun h => h)
      · refine z_iload 26 dX10_read_26 rfl ?_
        refine z_ctb (zat_S1 28 dX10_read_28 lk_X10_117 ⟨Nat.le_of_ble_eq_true rfl, Nat.le_of_ble_eq_true rfl⟩ (Nat.le_of_ble_eq_true rfl)) (tX10_isEnd E zY0 p5 M) (fun b4 => ?_)
        refine z_ifneb 31 36 dX10_read_31 (by decide) (fun _ => ?_) (fun _ => ?_)
        · refine z_iconst 34 dX10_read_34 zci_m1 ?_
          exact z_ireturn 35 dX10_read_35 rfl rfl (fun h => h)
        · refine z_aload_n 36 dX10_read_36 rfl ?_
          refine z_getR 37 (r := 41) dX10_read_37 fl_X10_23 zy_0 rfl ?_
          refine z_iload_n 40 dX10_read_40 rfl ?_
          refine z_aaloadP 41 (r := fun j => 42 + 2 * j) (P := zsX8 zY0) dX10_read_41 (by decide) rfl zy_41 zar_41 zap_41 (fun s5 hs5 => ?_)
          refine z_astore 42 (L' := [some (.ref 0), some (.int p1), some (.int p2), some (.int p3), some (.int p4), some (.int p5), some (.ref s5), none, none, none, none, none]) dX10_read_42 (by decide) rfl ?_
          refine z_iload 44 dX10_read_44 rfl ?_
          refine zk_sqj (α := Int32) 59 (fun (x7 : Int32) => [some (.ref 0), none, none, some (.int p3), some (.int p4), some (.int p5), some (.ref s5), none, none, none, none, none]) (fun (x7 : Int32) => [.int x7]) (fun (x7 : Int32) => (zY0, M)) ?_ ?_
          · intro x7
            refine z_istore 59 (L' := [some (.ref 0), none, none, some (.int p3), some (.int p4), some (.int p5), some (.ref s5), some (.int x7), none, none, none, none]) dX10_read_59 (by decide) rfl ?_
            refine z_iload 61 dX10_read_61 rfl ?_
            refine zk_sqj (α := Int32) 81 (fun (x9 : Int32) => [some (.ref 0), none, none, some (.int p3), some (.int p4), some (.int p5), some (.ref s5), some (.int x7), none, none, none, none]) (fun (x9 : Int32) => [.int x9]) (fun (x9 : Int32) => (zY0, M)) ?_ ?_
            · intro x9
              refine z_istore 81 (L' := [some (.ref 0), none, none, some (.int p3), some (.int p4), some (.int p5), some (.ref s5), some (.int x7), some (.int x9), none, none, none]) dX10_read_81 (by decide) rfl ?_
              refine z_iload 83 dX10_read_83 rfl ?_
              refine zk_ltj (α := Int32) 98 (fun (x10 : Int32) => [some (.ref 0), none, none, some (.int p3), none, some (.int p5), some (.ref s5), some (.int x10), some (.int x9), none, none, none]) (fun (x10 : Int32) => []) (fun (x10 : Int32) => (zY0, M)) ?_ ?_
              · intro x10
                refine z_aload_n 98 dX10_read_98 rfl ?_
                refine z_iload 99 dX10_read_99 rfl ?_
                refine z_ctaP (zat_V1 101 dX10_read_101 lk_X10_121 zy_0 rfl rfl ⟨Nat.le_of_ble_eq_true rfl, Nat.le_of_ble_eq_true rfl⟩ (Nat.le_of_ble_eq_true rfl)) (tX10_linesAt E p5 M) (P := zsX2 zY0) (zpX10_linesAt p5) (fun s11 hs11 => ?_)
                refine z_astore 104 (L' := [some (.ref 0), none, none, some (.int p3), none, some (.int p5), some (.ref s5), some (.int x10), some (.int x9), some (.ref s11), none, none]) dX10_read_104 (by decide) rfl ?_
                refine z_aload 106 dX10_read_106 rfl ?_
                refine z_iload_n 108 dX10_read_108 rfl ?_
                refine z_iload 109 dX10_read_109 rfl ?_
                refine z_aload 111 dX10_read_111 rfl ?_
                refine z_ci (zat_S4 113 dX10_read_113 lk_X10_369 ⟨Nat.le_of_ble_eq_true rfl, Nat.le_of_ble_eq_true rfl⟩ (Nat.le_of_ble_eq_true rfl)) (tX10_refusalOfLines E zY0 s5 hs5 p3 x9 s11 hs11 M) (fun x12 => ?_)
                refine z_istore 116 (L' := [some (.ref 0), none, none, some (.int p3), none, some (.int p5), some (.ref s5), some (.int x10), some (.int x9), some (.ref s11), some (.int x12), none]) dX10_read_116 (by decide) rfl ?_
                refine z_iload 118 dX10_read_118 rfl ?_
                refine z_ifeq 120 126 dX10_read_120 (by decide) (fun _ => ?_) (fun _ => ?_)
                · refine z_iconst 126 dX10_read_126 zci_0 ?_
                  refine z_istore 127 (L' := [some (.ref 0), none, none, some (.int p3), none, some (.int p5), some (.ref s5), some (.int x10), some (.int x9), some (.ref s11), some (.int x12), some (.int (0 : Int32))]) dX10_read_127 (by decide) rfl ?_
                  refine zk_sqj (α := zM) 156 (fun (M25 : zM) => [some (.ref 0), none, none, none, none, none, none, some (.int x10), some (.int x9), none, none, none]) (fun (M25 : zM) => []) (fun (M25 : zM) => (zY0, M25)) ?_ ?_
                  · intro M25
                    refine z_aload_n 156 dX10_read_156 rfl ?_
                    refine z_iload 157 dX10_read_157 rfl ?_
                    refine z_put 159 dX10_read_159 fp_X10_78 zy_0 rfl (zput_i _) ?_
                    refine zk_nmM (fun M27 => ?_)
                    refine z_iload 162 dX10_read_162 rfl ?_
                    exact z_ireturn 164 dX10_read_164 rfl rfl (fun h => h)
                  · refine zk_weak (L' := [some (.ref 0), none, none, some (.int p3), none, none, some (.ref s5), some (.int x10), some (.int x9), some (.ref s11), none, some (.int (0 : Int32))]) (zLe_s (zLe_n (zLe_n (zLe_s (zLe_n (zLe_n (zLe_s (zLe_s (zLe_s (zLe_s (zLe_n (zLe_s zLe_nl)))))))))))) (zk_lp (α := Int32 × zM) 129 (fun (u23 : Int32 × zM) => match u23 with | (x20, M21) => [some (.ref 0), none, none, some (.int p3), none, none, some (.ref s5), some (.int x10), some (.int x9), some (.ref s11), none, some (.int x20)]) (fun (u24 : Int32 × zM) => match u24 with | (x20, M21) => (zY0, M21)) ?_ zFu ((0 : Int32), M))
                    intro rec22 hrec22
                    intro u29
                    obtain ⟨x20, M21⟩ := u29
                    try dsimp only
                    refine z_iload 129 dX10_read_129 rfl ?_
                    refine z_iload 131 dX10_read_131 rfl ?_
                    refine z_icge 133 156 dX10_read_133 (by decide) (fun _ => ?_) (fun _ => ?_)
                    · exact zk_exitw (L' := [some (.ref 0), none, none, none, none, none, none, some (.int x10), some (.int x9), none, none, none]) (zLe_s (zLe_n (zLe_n (zLe_n (zLe_n (zLe_n (zLe_n (zLe_s (zLe_s (zLe_n (zLe_n (zLe_n zLe_nl)))))))))))) (fun h => h)
                    · refine z_aload 136 dX10_read_136 rfl ?_
                      refine z_iload_n 138 dX10_read_138 rfl ?_
                      refine z_bipush 139 dX10_read_139 zbp_6 ?_
                      refine z_iload 141 dX10_read_141 rfl ?_
                      refine z_imul 143 dX10_read_143 ?_
                      refine z_iadd 144 dX10_read_144 ?_
                      refine z_aload 145 dX10_read_145 rfl ?_
                      refine z_cV (zat_V2 147 dX10_read_147 lk_X10_373 hs5.1 rfl rfl ⟨Nat.le_of_ble_eq_true rfl, Nat.le_of_ble_eq_true rfl⟩ (Nat.le_of_ble_eq_true rfl)) (tX8_appendLine E zY0 s5 hs5 (p3 + ((6 : Int32) * x20)) s11 hs11 M21) (fun M26 => ?_)
                      refine z_iinc 150 (v := (x20 + (1 : Int32))) (L' := [some (.ref 0), none, none, some (.int p3), none, none, some (.ref s5), some (.int x10), some (.int x9), some (.ref s11), none, some (.int (x20 + (1 : Int32)))]) dX10_read_150 rfl (zinc zci_1 _) (by decide) rfl ?_
                      refine z_goto 153 129 dX10_read_153 (by decide) ?_
                      exact zk_weak (L' := [some (.ref 0), none, none, some (.int p3), none, none, some (.ref s5), some (.int x10), some (.int x9), some (.ref s11), none, some (.int (x20 + (1 : Int32)))]) (zLe_s (zLe_n (zLe_n (zLe_s (zLe_n (zLe_n (zLe_s (zLe_s (zLe_s (zLe_s (zLe_n (zLe_s zLe_nl)))))))))))) (hrec22 ((x20 + (1 : Int32)), M26))
                · refine z_iload 123 dX10_read_123 rfl ?_
                  exact z_ireturn 125 dX10_read_125 rfl rfl (fun h => h)
              · intro k30 hk30
                refine z_ifnev 85 98 dX10_read_85 (by decide) ?_ ?_
                · refine z_iload 88 dX10_read_88 rfl ?_
                  refine z_iload 90 dX10_read_90 rfl ?_
                  refine z_icgev 92 98 dX10_read_92 (by decide) ?_ ?_
                  · exact zk_weak (L' := [some (.ref 0), none, none, some (.int p3), none, some (.int p5), some (.ref s5), some (.int x7), some (.int x9), none, none, none]) (zLe_s (zLe_n (zLe_n (zLe_s (zLe_n (zLe_s (zLe_s (zLe_s (zLe_s (zLe_n (zLe_n (zLe_n zLe_nl)))))))))))) (hk30 x7)
                  · refine z_iconst 95 dX10_read_95 zci_2 ?_
                    refine z_istore 96 (L' := [some (.ref 0), none, none, some (.int p3), some (.int p4), some (.int p5), some (.ref s5), some (.int (2 : Int32)), some (.int x9), none, none, none]) dX10_read_96 (by decide) rfl ?_
                    exact zk_weak (L' := [some (.ref 0), none, none, some (.int p3), none, some (.int p5), some (.ref s5), some (.int (2 : Int32)), some (.int x9), none, none, none]) (zLe_s (zLe_n (zLe_n (zLe_s (zLe_n (zLe_s (zLe_s (zLe_s (zLe_s (zLe_n (zLe_n (zLe_n zLe_nl)))))))))))) (hk30 (2 : Int32))
                · exact zk_weak (L' := [some (.ref 0), none, none, some (.int p3), none, some (.int p5), some (.ref s5), some (.int x7), some (.int x9), none, none, none]) (zLe_s (zLe_n (zLe_n (zLe_s (zLe_n (zLe_s (zLe_s (zLe_s (zLe_s (zLe_n (zLe_n (zLe_n zLe_nl)))))))))))) (hk30 x7)
            · refine z_ifne 63 80 dX10_read_63 (by decide) (fun _ => ?_) (fun _ => ?_)
              · refine z_iload 66 dX10_read_66 rfl ?_
                refine z_aload 68 dX10_read_68 rfl ?_
                refine z_iload_n 70 dX10_read_70 rfl ?_
                refine z_cti (zat_V1 71 dX10_read_71 lk_X10_363 hs5.1 rfl rfl ⟨Nat.le_of_ble_eq_true rfl, Nat.le_of_ble_eq_true rfl⟩ (Nat.le_of_ble_eq_true rfl)) (tX8_wholeLines E zY0 s5 hs5 p3 M) (fun x31 => ?_)
                refine z_mmin 74 dX10_read_74 ml_X10_366 ml_mmin.1 ml_mmin.2.1 ml_mmin.2.2 ⟨Nat.le_of_ble_eq_true rfl, Nat.le_of_ble_eq_true rfl⟩ ?_
                refine z_goto 77 81 dX10_read_77 (by decide) ?_
                exact zk_exitw (L' := [some (.ref 0), none, none, some (.int p3), some (.int p4), some (.int p5), some (.ref s5), some (.int x7), none, none, none, none]) (zLe_s (zLe_n (zLe_n (zLe_s (zLe_s (zLe_s (zLe_s (zLe_s (zLe_n (zLe_n (zLe_n (zLe_n zLe_nl)))))))))))) (fun h => h)
              · refine z_iconst 80 dX10_read_80 zci_0 ?_
                exact zk_exitw (L' := [some (.ref 0), none, none, some (.int p3), some (.int p4), some (.int p5), some (.ref s5), some (.int x7), none, none, none, none]) (zLe_s (zLe_n (zLe_n (zLe_s (zLe_s (zLe_s (zLe_s (zLe_s (zLe_n (zLe_n (zLe_n (zLe_n zLe_nl)))))))))))) (fun h => h)
          · refine z_ifne 46 53 dX10_read_46 (by decide) (fun _ => ?_) (fun _ => ?_)
            · refine z_iconst 49 dX10_read_49 zci_0 ?_
              refine z_goto 50 59 dX10_read_50 (by decide) ?_
              exact zk_exitw (L' := [some (.ref 0), none, none, some (.int p3), some (.int p4), some (.int p5), some (.ref s5), none, none, none, none, none]) (zLe_s (zLe_n (zLe_n (zLe_s (zLe_s (zLe_s (zLe_s (zLe_n (zLe_n (zLe_n (zLe_n (zLe_n zLe_nl)))))))))))) (fun h => h)
            · refine z_aload 53 dX10_read_53 rfl ?_
              refine z_iload_n 55 dX10_read_55 rfl ?_
              refine z_cti (zat_V1 56 dX10_read_56 lk_X10_360 hs5.1 rfl rfl ⟨Nat.le_of_ble_eq_true rfl, Nat.le_of_ble_eq_true rfl⟩ (Nat.le_of_ble_eq_true rfl)) (tX8_faultAs E zY0 s5 hs5 p2 M) (fun x32 => ?_)
              exact zk_exitw (L' := [some (.ref 0), none, none, some (.int p3), some (.int p4), some (.int p5), some (.ref s5), none, none, none, none, none]) (zLe_s (zLe_n (zLe_n (zLe_s (zLe_s (zLe_s (zLe_s (zLe_n (zLe_n (zLe_n (zLe_n (zLe_n zLe_nl)))))))))))) (fun h => h)
def fX10_torn (M : zM) : Int32 :=
  (M.1 0 11)
set_option maxHeartbeats 4000000 in
set_option maxRecDepth 100000 in
theorem tX10_torn (E : zE)  (M : zM) : zFi E mX10_torn [.ref 0] zY0 M (some (fX10_torn M)) := by
  refine zF_of (L := [some (.ref 0)]) plX10 (Nat.le_of_ble_eq_true rfl) rfl (fun post => ?_)
  show zK E _ post 0 _ _ _ (lt (fX10_torn M) some) _
  unfold fX10_torn
  refine z_aload_n 0 dX10_torn_0 rfl ?_
  refine z_getI 1 dX10_torn_1 fl_X10_78 zy_0 rfl ?_
  exact z_ireturn 4 dX10_torn_4 rfl rfl (fun h => h)
def fX10_countPairs (M : zM) : Option (Int32 × zM) :=
  sq (fX10_lookAtPairs (15 : Int32) M) (fun (M1 : zM) => zlp (α := Int32 × Int32) (fun rec52 => (fun (u67 : Int32 × Int32) => match u67 with | (x50, x51) => if (M1.1 55 0) ≤ x51 then (some (x50, M1)) else (sq (α := Int32) (zlp (α := Int32 × Int32) (β := Int32) (fun rec57 => (fun (u65 : Int32 × Int32) => match u65 with | (x55, x56) => if (M1.1 55 1) ≤ x56 then (some x55) else (sq (fX5_mayBe x51 x56 M1) (fun (b61 : Bool) => lt (if b61 = false then (false) else (true)) (fun (b62 : Bool) => lt ((x55 + (zb b62))) (fun (x63 : Int32) => rec57 (x63, (x56 + (1 : Int32))))))))) zFu (x50, (0 : Int32))) (fun (x60 : Int32) => rec52 (x60, (x51 + (1 : Int32))))))) zFu ((0 : Int32), (0 : Int32)))
set_option maxHeartbeats 4000000 in
set_option maxRecDepth 100000 in
theorem tX10_countPairs (E : zE)  (M : zM) : zFI E mX10_countPairs [.ref 0] zY0 M (fX10_countPairs M) := by
  refine zF_of (L := [some (.ref 0), none, none, none]) plX10 (Nat.le_of_ble_eq_true rfl) rfl (fun post => ?_)
  unfold fX10_countPairs
  refine z_aload_n 0 dX10_countPairs_0 rfl ?_
  refine z_bipush 1 dX10_countPairs_1 zbp_15 ?_
  refine z_cV (zat_V1 3 dX10_countPairs_3 lk_X10_164 zy_0 rfl rfl ⟨Nat.le_of_ble_eq_true rfl, Nat.le_of_ble_eq_true rfl⟩ (Nat.le_of_ble_eq_true rfl)) (tX10_lookAtPairs E (15 : Int32) M) (fun M1 => ?_)
  refine z_iconst 6 dX10_countPairs_6 zci_0 ?_
  refine z_istore_n 7 (L' := [some (.ref 0), some (.int (0 : Int32)), none, none]) dX10_countPairs_7 (by decide) rfl ?_
  refine z_iconst 8 dX10_countPairs_8 zci_0 ?_
  refine z_istore_n 9 (L' := [some (.ref 0), some (.int (0 : Int32)), some (.int (0 : Int32)), none]) dX10_countPairs_9 (by decide) rfl ?_
  refine zk_weak (L' := [some (.ref 0), some (.int (0 : Int32)), some (.int (0 : Int32)), none]) (zLe_s (zLe_s (zLe_s (zLe_n zLe_nl)))) (zk_lp (α := Int32 × Int32) 10 (fun (u53 : Int32 × Int32) => match u53 with | (x50, x51) => [some (.ref 0), some (.int x50), some (.int x51), none]) (fun (u54 : Int32 × Int32) => match u54 with | (x50, x51) => (zY0, M1)) ?_ zFu ((0 : Int32), (0 : Int32)))
  intro rec52 hrec52
  intro u68
  obtain ⟨x50, x51⟩ := u68
  try dsimp only
  refine z_iload_n 10 dX10_countPairs_10 rfl ?_
  refine z_aload_n 11 dX10_countPairs_11 rfl ?_
  refine z_getR 12 (r := 55) dX10_countPairs_12 fl_X10_44 zy_0 rfl ?_
  refine z_getI 15 dX10_countPairs_15 fl_X10_385 zy_55 rfl ?_
  refine z_icge 18 66 dX10_countPairs_18 (by decide) (fun _ => ?_) (fun _ => ?_)
  · refine z_iload_n 66 dX10_countPairs_66 rfl ?_
    exact z_ireturn 67 dX10_countPairs_67 rfl rfl (fun h => h)
  · refine z_iconst 21 dX10_countPairs_21 zci_0 ?_
    refine z_istore_n 22 (L' := [some (.ref 0), some (.int x50), some (.int x51), some (.int (0 : Int32))]) dX10_countPairs_22 (by decide) rfl ?_
    refine zk_sqj (α := Int32) 60 (fun (x60 : Int32) => [some (.ref 0), some (.int x60), some (.int x51), none]) (fun (x60 : Int32) => []) (fun (x60 : Int32) => (zY0, M1)) ?_ ?_
    · intro x60
      refine z_iinc 60 (v := (x51 + (1 : Int32))) (L' := [some (.ref 0), some (.int x60), some (.int (x51 + (1 : Int32))), none]) dX10_countPairs_60 rfl (zinc zci_1 _) (by decide) rfl ?_
      refine z_goto 63 10 dX10_countPairs_63 (by decide) ?_
      exact zk_weak (L' := [some (.ref 0), some (.int x60), some (.int (x51 + (1 : Int32))), none]) (zLe_s (zLe_s (zLe_s (zLe_n zLe_nl)))) (hrec52 (x60, (x51 + (1 : Int32))))
    · refine zk_weak (L' := [some (.ref 0), some (.int x50), some (.int x51), some (.int (0 : Int32))]) (zLe_s (zLe_s (zLe_s (zLe_s zLe_nl)))) (zk_lp (α := Int32 × Int32) 23 (fun (u58 : Int32 × Int32) => match u58 with | (x55, x56) => [some (.ref 0), some (.int x55), some (.int x51), some (.int x56)]) (fun (u59 : Int32 × Int32) => match u59 with | (x55, x56) => (zY0, M1)) ?_ zFu (x50, (0 : Int32)))
      intro rec57 hrec57
      intro u66
      obtain ⟨x55, x56⟩ := u66
      try dsimp only
      refine z_iload_n 23 dX10_countPairs_23 rfl ?_
      refine z_aload_n 24 dX10_countPairs_24 rfl ?_
      refine z_getR 25 (r := 55) dX10_countPairs_25 fl_X10_44 zy_0 rfl ?_
      refine z_getI 28 dX10_countPairs_28 fl_X10_388 zy_55 rfl ?_
      refine z_icge 31 60 dX10_countPairs_31 (by decide) (fun _ => ?_) (fun _ => ?_)
      · exact zk_exitw (L' := [some (.ref 0), some (.int x55), some (.int x51), none]) (zLe_s (zLe_s (zLe_s (zLe_n zLe_nl)))) (fun h => h)
      · refine z_iload_n 34 dX10_countPairs_34 rfl ?_
        refine z_aload_n 35 dX10_countPairs_35 rfl ?_
        refine z_getR 36 (r := 55) dX10_countPairs_36 fl_X10_44 zy_0 rfl ?_
        refine z_iload_n 39 dX10_countPairs_39 rfl ?_
        refine z_iload_n 40 dX10_countPairs_40 rfl ?_
        refine z_cb (zat_V2 41 dX10_countPairs_41 lk_X10_206 zy_55 rfl rfl ⟨Nat.le_of_ble_eq_true rfl, Nat.le_of_ble_eq_true rfl⟩ (Nat.le_of_ble_eq_true rfl)) (tX5_mayBe E x51 x56 M1) (fun b61 => ?_)
        refine zk_ltj (α := Bool) 52 (fun (b62 : Bool) => [some (.ref 0), none, some (.int x51), some (.int x56)]) (fun (b62 : Bool) => [.int (zb b62), .int x55]) (fun (b62 : Bool) => (zY0, M1)) ?_ ?_
        · intro b62
          refine z_iadd 52 dX10_countPairs_52 ?_
          refine zk_nmI (fun x63 => ?_)
          refine z_istore_n 53 (L' := [some (.ref 0), some (.int x63), some (.int x51), some (.int x56)]) dX10_countPairs_53 (by decide) rfl ?_
          refine z_iinc 54 (v := (x56 + (1 : Int32))) (L' := [some (.ref 0), some (.int x63), some (.int x51), some (.int (x56 + (1 : Int32)))]) dX10_countPairs_54 rfl (zinc zci_1 _) (by decide) rfl ?_
          refine z_goto 57 23 dX10_countPairs_57 (by decide) ?_
          exact zk_weak (L' := [some (.ref 0), some (.int x63), some (.int x51), some (.int (x56 + (1 : Int32)))]) (zLe_s (zLe_s (zLe_s (zLe_s zLe_nl)))) (hrec57 (x63, (x56 + (1 : Int32))))
        · intro k64 hk64
          refine z_ifeqbv 44 51 dX10_countPairs_44 (by decide) ?_ ?_
          · refine z_iconst 51 dX10_countPairs_51 zci_0 ?_
            exact zk_weak (L' := [some (.ref 0), none, some (.int x51), some (.int x56)]) (zLe_s (zLe_n (zLe_s (zLe_s zLe_nl)))) (hk64 false)
          · refine z_iconst 47 dX10_countPairs_47 zci_1 ?_
            refine z_goto 48 52 dX10_countPairs_48 (by decide) ?_
            exact zk_weak (L' := [some (.ref 0), none, some (.int x51), some (.int x56)]) (zLe_s (zLe_n (zLe_s (zLe_s zLe_nl)))) (hk64 true)
def fX10_count (p1 : Int32) (M : zM) : Option (Int32 × zM) :=
  if p1 = (0 : Int32) then (some ((M.1 2 0), M)) else (if p1 = (1 : Int32) then (some ((M.1 6 0), M)) else (if p1 = (2 : Int32) then (bi (fX10_countPairs M) (fun (x2 : Int32) (M1 : zM) => some (x2, M1))) else (if p1 = (3 : Int32) then (grd (zix (0 : Int32) 2) (lt (15 + 13 * zn (0 : Int32)) (fun (s3 : Nat) => lt (if (M.1 s3 4) = 0 then (false) else (true)) (fun (b4 : Bool) => grd (zix (1 : Int32) 2) (lt (15 + 13 * zn (1 : Int32)) (fun (s5 : Nat) => lt (if (M.1 s5 4) = 0 then (false) else (true)) (fun (b6 : Bool) => some (((zb b4) + (zb b6)), M)))))))) else (if p1 = (4 : Int32) then (some ((M.1 50 1), M)) else (if p1 = (5 : Int32) then (grd (zix (0 : Int32) 4) (lt (42 + 2 * zn (0 : Int32)) (fun (s9 : Nat) => if (M.1 s9 0) = 0 then (some ((-4 : Int32), M)) else (grd (zix (0 : Int32) 4) (lt (42 + 2 * zn (0 : Int32)) (fun (s10 : Nat) => some ((M.1 s10 2), M))))))) else (some ((-1 : Int32), M)))))))
set_option maxHeartbeats 4000000 in
set_option maxRecDepth 100000 in
theorem tX10_count (E : zE) (p1 : Int32) (M : zM) : zFI E mX10_count [.ref 0, .int p1] zY0 M (fX10_count p1 M) := by
  refine zF_of (L := [some (.ref 0), some (.int p1)]) plX10 (Nat.le_of_ble_eq_true rfl) rfl (fun post => ?_)
  unfold fX10_count
  refine z_iload_n 0 dX10_count_0 rfl ?_
  refine z_tsc 1 40 (k := 0) (off := 39) dX10_count_1 (by decide) (by decide) (by decide) (by decide) ?_ (fun n1 => ?_)
  · refine z_aload_n 40 dX10_count_40 rfl ?_
    refine z_getR 41 (r := 1) dX10_count_41 fl_X10_12 zy_0 rfl ?_
    refine z_getR 44 (r := 2) dX10_count_44 fl_X10_170 zy_1 rfl ?_
    refine z_getI 47 dX10_count_47 fl_X10_125 zy_2 rfl ?_
    exact z_ireturn 50 dX10_count_50 rfl rfl (fun h => h)
  · refine z_tsc 1 51 (k := 1) (off := 50) dX10_count_1 (by decide) (by decide) (by decide) (by decide) ?_ (fun n2 => ?_)
    · refine z_aload_n 51 dX10_count_51 rfl ?_
      refine z_getR 52 (r := 1) dX10_count_52 fl_X10_12 zy_0 rfl ?_
      refine z_getR 55 (r := 6) dX10_count_55 fl_X10_174 zy_1 rfl ?_
      refine z_getI 58 dX10_count_58 fl_X10_125 zy_6 rfl ?_
      exact z_ireturn 61 dX10_count_61 rfl rfl (fun h => h)
    · refine z_tsc 1 62 (k := 2) (off := 61) dX10_count_1 (by decide) (by decide) (by decide) (by decide) ?_ (fun n3 => ?_)
      · refine z_aload_n 62 dX10_count_62 rfl ?_
        refine z_cI (zat_V0 63 dX10_count_63 lk_X10_377 zy_0 rfl rfl ⟨Nat.le_of_ble_eq_true rfl, Nat.le_of_ble_eq_true rfl⟩ (Nat.le_of_ble_eq_true rfl)) (tX10_countPairs E M) (fun x2 M1 => ?_)
        exact z_ireturn 66 dX10_count_66 rfl rfl (fun h => h)
      · refine z_tsc 1 67 (k := 3) (off := 66) dX10_count_1 (by decide) (by decide) (by decide) (by decide) ?_ (fun n4 => ?_)
        · refine z_aload_n 67 dX10_count_67 rfl ?_
          refine z_getR 68 (r := 14) dX10_count_68 fl_X10_16 zy_0 rfl ?_
          refine z_iconst 71 dX10_count_71 zci_0 ?_
          refine z_aaloadP 72 (r := fun j => 15 + 13 * j) (P := zsX7 zY0) dX10_count_72 (by decide) rfl zy_14 zar_14 zap_14 (fun s3 hs3 => ?_)
          refine z_getI 73 dX10_count_73 fl_X10_343 hs3.1 rfl ?_
          refine zk_ltj (α := Bool) 84 (fun (b4 : Bool) => [some (.ref 0), none]) (fun (b4 : Bool) => [.int (zb b4)]) (fun (b4 : Bool) => (zY0, M)) ?_ ?_
          · intro b4
            refine z_aload_n 84 dX10_count_84 rfl ?_
            refine z_getR 85 (r := 14) dX10_count_85 fl_X10_16 zy_0 rfl ?_
            refine z_iconst 88 dX10_count_88 zci_1 ?_
            refine z_aaloadP 89 (r := fun j => 15 + 13 * j) (P := zsX7 zY0) dX10_count_89 (by decide) rfl zy_14 zar_14 zap_14 (fun s5 hs5 => ?_)
            refine z_getI 90 dX10_count_90 fl_X10_343 hs5.1 rfl ?_
            refine zk_ltj (α := Bool) 101 (fun (b6 : Bool) => [none, none]) (fun (b6 : Bool) => [.int (zb b6), .int (zb b4)]) (fun (b6 : Bool) => (zY0, M)) ?_ ?_
            · intro b6
              refine z_iadd 101 dX10_count_101 ?_
              exact z_ireturn 102 dX10_count_102 rfl rfl (fun h => h)
            · intro k7 hk7
              refine z_ifeqv 93 100 dX10_count_93 (by decide) ?_ ?_
              · refine z_iconst 100 dX10_count_100 zci_0 ?_
                exact zk_weak (L' := [none, none]) (zLe_n (zLe_n zLe_nl)) (hk7 false)
              · refine z_iconst 96 dX10_count_96 zci_1 ?_
                refine z_goto 97 101 dX10_count_97 (by decide) ?_
                exact zk_weak (L' := [none, none]) (zLe_n (zLe_n zLe_nl)) (hk7 true)
          · intro k8 hk8
            refine z_ifeqv 76 83 dX10_count_76 (by decide) ?_ ?_
            · refine z_iconst 83 dX10_count_83 zci_0 ?_
              exact zk_weak (L' := [some (.ref 0), none]) (zLe_s (zLe_n zLe_nl)) (hk8 false)
            · refine z_iconst 79 dX10_count_79 zci_1 ?_
              refine z_goto 80 84 dX10_count_80 (by decide) ?_
              exact zk_weak (L' := [some (.ref 0), none]) (zLe_s (zLe_n zLe_nl)) (hk8 true)
        · refine z_tsc 1 103 (k := 4) (off := 102) dX10_count_1 (by decide) (by decide) (by decide) (by decide) ?_ (fun n5 => ?_)
          · refine z_aload_n 103 dX10_count_103 rfl ?_
            refine z_getR 104 (r := 50) dX10_count_104 fl_X10_30 zy_0 rfl ?_
            refine z_getI 107 dX10_count_107 fl_X10_86 zy_50 rfl ?_
            exact z_ireturn 110 dX10_count_110 rfl rfl (fun h => h)
          · refine z_tsc 1 111 (k := 5) (off := 110) dX10_count_1 (by decide) (by decide) (by decide) (by decide) ?_ (fun n6 => ?_)
            · refine z_aload_n 111 dX10_count_111 rfl ?_
              refine z_getR 112 (r := 41) dX10_count_112 fl_X10_23 zy_0 rfl ?_
              refine z_iconst 115 dX10_count_115 zci_0 ?_
              refine z_aaloadP 116 (r := fun j => 42 + 2 * j) (P := zsX8 zY0) dX10_count_116 (by decide) rfl zy_41 zar_41 zap_41 (fun s9 hs9 => ?_)
              refine z_getI 117 dX10_count_117 fl_X10_353 hs9.1 rfl ?_
              refine z_ifeq 120 135 dX10_count_120 (by decide) (fun _ => ?_) (fun _ => ?_)
              · refine z_bipush 135 dX10_count_135 zbp_m4 ?_
                exact z_ireturn 137 dX10_count_137 rfl rfl (fun h => h)
              · refine z_aload_n 123 dX10_count_123 rfl ?_
                refine z_getR 124 (r := 41) dX10_count_124 fl_X10_23 zy_0 rfl ?_
                refine z_iconst 127 dX10_count_127 zci_0 ?_
                refine z_aaloadP 128 (r := fun j => 42 + 2 * j) (P := zsX8 zY0) dX10_count_128 (by decide) rfl zy_41 zar_41 zap_41 (fun s10 hs10 => ?_)
                refine z_getI 129 dX10_count_129 fl_X10_356 hs10.1 rfl ?_
                refine z_goto 132 137 dX10_count_132 (by decide) ?_
                exact z_ireturn 137 dX10_count_137 rfl rfl (fun h => h)
            · refine z_tsd 1 138 dX10_count_1 (by have e1 := zne n1 (a := 0) (by decide); have e2 := zne n2 (a := 1) (by decide); have e3 := zne n3 (a := 2) (by decide); have e4 := zne n4 (a := 3) (by decide); have e5 := zne n5 (a := 4) (by decide); have e6 := zne n6 (a := 5) (by decide); omega) (by decide) ?_
              refine z_iconst 138 dX10_count_138 zci_m1 ?_
              exact z_ireturn 139 dX10_count_139 rfl rfl (fun h => h)
def fX11_in (p1 : Int64) (p2 : Int64) (p3 : Int64) : Bool :=
  if p1 < p2 then (false) else (if p3 < p1 then (false) else (true))
set_option maxHeartbeats 4000000 in
set_option maxRecDepth 100000 in
theorem tX11_in (E : zE) (Y : zY) (p1 : Int64) (p2 : Int64) (p3 : Int64) (M : zM) : zFb E mX11_in [.long p1, .long p2, .long p3] Y M (some (fX11_in p1 p2 p3)) := by
  refine zF_of (L := [some (.long p1), none, some (.long p2), none, some (.long p3), none]) plX11 (Nat.le_of_ble_eq_true rfl) rfl (fun post => ?_)
  show zK E _ post 0 _ _ _ (lt (fX11_in p1 p2 p3) some) _
  unfold fX11_in
  refine z_lload_n 0 dX11_in_0 rfl ?_
  refine z_lload_n 1 dX11_in_1 rfl ?_
  refine z_lcmp 2 dX11_in_2 ?_
  refine z_lcltv 3 17 dX11_in_3 (by decide) ?_ ?_
  · refine z_iconst 17 dX11_in_17 zci_0 ?_
    exact z_ireturn 18 (v := zb false) dX11_in_18 rfl (zput_b false).1 (fun h => h)
  · refine z_lload_n 6 dX11_in_6 rfl ?_
    refine z_lload 7 dX11_in_7 rfl ?_
    refine z_lcmp 9 dX11_in_9 ?_
    refine z_lcgtv 10 17 dX11_in_10 (by decide) ?_ ?_
    · refine z_iconst 17 dX11_in_17 zci_0 ?_
      exact z_ireturn 18 (v := zb false) dX11_in_18 rfl (zput_b false).1 (fun h => h)
    · refine z_iconst 13 dX11_in_13 zci_1 ?_
      refine z_goto 14 18 dX11_in_14 (by decide) ?_
      exact z_ireturn 18 (v := zb true) dX11_in_18 rfl (zput_b true).1 (fun h => h)
def fX11_feed (p1 : Int64) (M : zM) : Option (Int32 × zM) :=
  if ((M.1 76 1) + (8 : Int32)) ≤ (320 : Int32) then (sq (α := zM) (zlp (α := Int32 × zM) (β := zM) (fun rec3 => (fun (u9 : Int32 × zM) => match u9 with | (x1, M2) => if x1 < 0 then (some M2) else (grd (zix (M2.1 76 1) 320) (lt (zwI M2 77 (zn (M2.1 76 1)) (((p1 >>> (x1.toInt64 &&& 63))).toInt32 &&& (255 : Int32))) (fun (M7 : zM) => lt (zwI M7 76 1 ((M7.1 76 1) + (1 : Int32))) (fun (M8 : zM) => rec3 ((x1 + (-8 : Int32)), M8))))))) zFu ((56 : Int32), M)) (fun (M6 : zM) => some ((M6.1 76 1), M6))) else (some ((-3 : Int32), M))
set_option maxHeartbeats 4000000 in
set_option maxRecDepth 100000 in
theorem tX11_feed (E : zE) (p1 : Int64) (M : zM) : zFI E mX11_feed [.ref 76, .long p1] zY0 M (fX11_feed p1 M) := by
  refine zF_of (L := [some (.ref 76), some (.long p1), none, none]) plX11 (Nat.le_of_ble_eq_true rfl) rfl (fun post => ?_)
  unfold fX11_feed
  refine z_aload_n 0 dX11_feed_0 rfl ?_
  refine z_getI 1 dX11_feed_1 fl_X11_81 zy_76 rfl ?_
  refine z_bipush 4 dX11_feed_4 zbp_8 ?_
  refine z_iadd 6 dX11_feed_6 ?_
  refine z_sipush 7 dX11_feed_7 zsp_320 ?_
  refine z_icle 10 16 dX11_feed_10 (by decide) (fun _ => ?_) (fun _ => ?_)
  · refine z_bipush 16 dX11_feed_16 zbp_56 ?_
    refine z_istore_n 18 (L' := [some (.ref 76), some (.long p1), none, some (.int (56 : Int32))]) dX11_feed_18 (by decide) rfl ?_
    refine zk_sqj (α := zM) 56 (fun (M6 : zM) => [some (.ref 76), none, none, none]) (fun (M6 : zM) => []) (fun (M6 : zM) => (zY0, M6)) ?_ ?_
    · intro M6
      refine z_aload_n 56 dX11_feed_56 rfl ?_
      refine z_getI 57 dX11_feed_57 fl_X11_81 zy_76 rfl ?_
      exact z_ireturn 60 dX11_feed_60 rfl rfl (fun h => h)
    · refine zk_weak (L' := [some (.ref 76), some (.long p1), none, some (.int (56 : Int32))]) (zLe_s (zLe_s (zLe_n (zLe_s zLe_nl)))) (zk_lp (α := Int32 × zM) 19 (fun (u4 : Int32 × zM) => match u4 with | (x1, M2) => [some (.ref 76), some (.long p1), none, some (.int x1)]) (fun (u5 : Int32 × zM) => match u5 with | (x1, M2) => (zY0, M2)) ?_ zFu ((56 : Int32), M))
      intro rec3 hrec3
      intro u10
      obtain ⟨x1, M2⟩ := u10
      try dsimp only
      refine z_iload_n 19 dX11_feed_19 rfl ?_
      refine z_iflt 20 56 dX11_feed_20 (by decide) (fun _ => ?_) (fun _ => ?_)
      · exact zk_exitw (L' := [some (.ref 76), none, none, none]) (zLe_s (zLe_n (zLe_n (zLe_n zLe_nl)))) (fun h => h)
      · refine z_aload_n 23 dX11_feed_23 rfl ?_
        refine z_getR 24 (r := 77) dX11_feed_24 fl_X11_7 zy_76 rfl ?_
        refine z_aload_n 27 dX11_feed_27 rfl ?_
        refine z_getI 28 dX11_feed_28 fl_X11_81 zy_76 rfl ?_
        refine z_lload_n 31 dX11_feed_31 rfl ?_
        refine z_iload_n 32 dX11_feed_32 rfl ?_
        refine z_lshr 33 dX11_feed_33 ?_
        refine z_l2i 34 dX11_feed_34 ?_
        refine z_sipush 35 dX11_feed_35 zsp_255 ?_
        refine z_iand 38 dX11_feed_38 ?_
        refine z_iastore 39 dX11_feed_39 zy_77 ?_
        refine zk_nmM (fun M7 => ?_)
        refine z_aload_n 40 dX11_feed_40 rfl ?_
        refine z_dup 41 dX11_feed_41 rfl ?_
        refine z_getI 42 dX11_feed_42 fl_X11_81 zy_76 rfl ?_
        refine z_iconst 45 dX11_feed_45 zci_1 ?_
        refine z_iadd 46 dX11_feed_46 ?_
        refine z_put 47 dX11_feed_47 fp_X11_81 zy_76 rfl (zput_i _) ?_
        refine zk_nmM (fun M8 => ?_)
        refine z_iinc 50 (v := (x1 + (-8 : Int32))) (L' := [some (.ref 76), some (.long p1), none, some (.int (x1 + (-8 : Int32)))]) dX11_feed_50 rfl (zinc zci_m8 _) (by decide) rfl ?_
        refine z_goto 53 19 dX11_feed_53 (by decide) ?_
        exact zk_weak (L' := [some (.ref 76), some (.long p1), none, some (.int (x1 + (-8 : Int32)))]) (zLe_s (zLe_s (zLe_n (zLe_s zLe_nl)))) (hrec3 ((x1 + (-8 : Int32)), M8))
  · refine z_bipush 13 dX11_feed_13 zbp_m3 ?_
    exact z_ireturn 15 dX11_feed_15 rfl rfl (fun h => h)
def fX11_end (p1 : Int32) (M : zM) : Option (Int32 × zM) :=
  lt (fX11_in p1.toInt64 (0 : Int64) ((M.1 76 1)).toInt64) (fun (b1 : Bool) => if b1 = false then (some ((-1 : Int32), M)) else (lt ((M.1 76 1)) (fun (x2 : Int32) => lt (zwI M 76 1 p1) (fun (M3 : zM) => some (x2, M3)))))
set_option maxHeartbeats 4000000 in
set_option maxRecDepth 100000 in
theorem tX11_end (E : zE) (p1 : Int32) (M : zM) : zFI E mX11_end [.ref 76, .int p1] zY0 M (fX11_end p1 M) := by
  refine zF_of (L := [some (.ref 76), some (.int p1), none]) plX11 (Nat.le_of_ble_eq_true rfl) rfl (fun post => ?_)
  unfold fX11_end
  refine z_iload_n 0 dX11_end_0 rfl ?_
  refine z_i2l 1 dX11_end_1 ?_
  refine z_lconst 2 dX11_end_2 zlc_0 ?_
  refine z_aload_n 3 dX11_end_3 rfl ?_
  refine z_getI 4 dX11_end_4 fl_X11_81 zy_76 rfl ?_
  refine z_i2l 7 dX11_end_7 ?_
  refine z_ctb (zat_S3 8 dX11_end_8 lk_X11_85 ⟨Nat.le_of_ble_eq_true rfl, Nat.le_of_ble_eq_true rfl⟩ (Nat.le_of_ble_eq_true rfl)) (tX11_in E zY0 p1.toInt64 (0 : Int64) ((M.1 76 1)).toInt64 M) (fun b1 => ?_)
  refine z_ifneb 11 16 dX11_end_11 (by decide) (fun _ => ?_) (fun _ => ?_)
  · refine z_iconst 14 dX11_end_14 zci_m1 ?_
    exact z_ireturn 15 dX11_end_15 rfl rfl (fun h => h)
  · refine z_aload_n 16 dX11_end_16 rfl ?_
    refine z_getI 17 dX11_end_17 fl_X11_81 zy_76 rfl ?_
    refine zk_nmI (fun x2 => ?_)
    refine z_istore_n 20 (L' := [some (.ref 76), some (.int p1), some (.int x2)]) dX11_end_20 (by decide) rfl ?_
    refine z_aload_n 21 dX11_end_21 rfl ?_
    refine z_iload_n 22 dX11_end_22 rfl ?_
    refine z_put 23 dX11_end_23 fp_X11_81 zy_76 rfl (zput_i _) ?_
    refine zk_nmM (fun M3 => ?_)
    refine z_iload_n 26 dX11_end_26 rfl ?_
    exact z_ireturn 27 dX11_end_27 rfl rfl (fun h => h)
def fX11_byteAt (p1 : Int32) (M : zM) : Option Int32 :=
  if (M.1 76 1) ≤ p1 then (some (-4 : Int32)) else (grd (zix p1 320) (some (M.1 77 (zn p1))))
set_option maxHeartbeats 4000000 in
set_option maxRecDepth 100000 in
theorem tX11_byteAt (E : zE) (p1 : Int32) (M : zM) : zFi E mX11_byteAt [.ref 76, .int p1] zY0 M (fX11_byteAt p1 M) := by
  refine zF_of (L := [some (.ref 76), some (.int p1)]) plX11 (Nat.le_of_ble_eq_true rfl) rfl (fun post => ?_)
  unfold fX11_byteAt
  refine z_iload_n 0 dX11_byteAt_0 rfl ?_
  refine z_aload_n 1 dX11_byteAt_1 rfl ?_
  refine z_getI 2 dX11_byteAt_2 fl_X11_81 zy_76 rfl ?_
  refine z_icge 5 17 dX11_byteAt_5 (by decide) (fun _ => ?_) (fun _ => ?_)
  · refine z_bipush 17 dX11_byteAt_17 zbp_m4 ?_
    exact z_ireturn 19 dX11_byteAt_19 rfl rfl (fun h => h)
  · refine z_aload_n 8 dX11_byteAt_8 rfl ?_
    refine z_getR 9 (r := 77) dX11_byteAt_9 fl_X11_7 zy_76 rfl ?_
    refine z_iload_n 12 dX11_byteAt_12 rfl ?_
    refine z_iaload 13 dX11_byteAt_13 zy_77 ?_
    refine z_goto 14 19 dX11_byteAt_14 (by decide) ?_
    exact z_ireturn 19 dX11_byteAt_19 rfl rfl (fun h => h)
def fX11_fails (p1 : Int32) (M : zM) : Option zM :=
  if (M.1 76 3) = 0 then (lt (zwI M 76 3 p1) (fun (M1 : zM) => lt (zwI M1 76 4 (M1.1 76 6)) (fun (M2 : zM) => some M2))) else (some M)
set_option maxHeartbeats 4000000 in
set_option maxRecDepth 100000 in
theorem tX11_fails (E : zE) (p1 : Int32) (M : zM) : zFV E mX11_fails [.ref 76, .int p1] zY0 M (fX11_fails p1 M) := by
  refine zF_of (L := [some (.ref 76), some (.int p1)]) plX11 (Nat.le_of_ble_eq_true rfl) rfl (fun post => ?_)
  unfold fX11_fails
  refine z_aload_n 0 dX11_fails_0 rfl ?_
  refine z_getI 1 dX11_fails_1 fl_X11_89 zy_76 rfl ?_
  refine z_ifne 4 20 dX11_fails_4 (by decide) (fun _ => ?_) (fun _ => ?_)
  · refine z_aload_n 7 dX11_fails_7 rfl ?_
    refine z_iload_n 8 dX11_fails_8 rfl ?_
    refine z_put 9 dX11_fails_9 fp_X11_89 zy_76 rfl (zput_i _) ?_
    refine zk_nmM (fun M1 => ?_)
    refine z_aload_n 12 dX11_fails_12 rfl ?_
    refine z_aload_n 13 dX11_fails_13 rfl ?_
    refine z_getI 14 dX11_fails_14 fl_X11_92 zy_76 rfl ?_
    refine z_put 17 dX11_fails_17 fp_X11_95 zy_76 rfl (zput_i _) ?_
    refine zk_nmM (fun M2 => ?_)
    exact z_return 20 dX11_fails_20 rfl (fun h => h)
  · exact z_return 20 dX11_fails_20 rfl (fun h => h)
def fX11_itemName (M : zM) : Option Int32 :=
  zlp (α := Int32) (fun rec22 => (fun (x21 : Int32) => if (9 : Int32) ≤ x21 then (some (-4 : Int32)) else (grd (zix (x21 + (1 : Int32)) 10) (grd (zix x21 10) (lt (if ((M.1 76 5) - (M.1 76 6)) = ((M.1 78 (zn (x21 + (1 : Int32)))) - (M.1 78 (zn x21))) then (true) else (false)) (fun (b23 : Bool) => sq (α := Bool) (zlp (α := Bool × Int32) (β := Bool) (fun rec26 => (fun (u33 : Bool × Int32) => match u33 with | (b24, x25) => if b24 = false then (some b24) else (if ((M.1 76 5) - (M.1 76 6)) ≤ x25 then (some b24) else (sq (fX11_byteAt ((M.1 76 6) + x25) M) (fun (x30 : Int32) => grd (zix x21 10) (grd (zix ((M.1 78 (zn x21)) + x25) 47) (lt (if x30 = (M.1 79 (zn ((M.1 78 (zn x21)) + x25))) then (true) else (false)) (fun (b31 : Bool) => rec26 (b31, (x25 + (1 : Int32))))))))))) zFu (b23, (0 : Int32))) (fun (b29 : Bool) => if b29 = false then (rec22 (x21 + (1 : Int32))) else (some x21)))))))) zFu (0 : Int32)
set_option maxHeartbeats 4000000 in
set_option maxRecDepth 100000 in
theorem tX11_itemName (E : zE)  (M : zM) : zFi E mX11_itemName [.ref 76] zY0 M (fX11_itemName M) := by
  refine zF_of (L := [some (.ref 76), none, none, none]) plX11 (Nat.le_of_ble_eq_true rfl) rfl (fun post => ?_)
  unfold fX11_itemName
  refine z_iconst 0 dX11_itemName_0 zci_0 ?_
  refine z_istore_n 1 (L' := [some (.ref 76), some (.int (0 : Int32)), none, none]) dX11_itemName_1 (by decide) rfl ?_
  refine zk_weak (L' := [some (.ref 76), some (.int (0 : Int32)), none, none]) (zLe_s (zLe_s (zLe_n (zLe_n zLe_nl)))) (zk_lp (α := Int32) 2 (fun (x21 : Int32) => [some (.ref 76), some (.int x21), none, none]) (fun (x21 : Int32) => (zY0, M)) ?_ zFu (0 : Int32))
  intro rec22 hrec22
  intro x21
  refine z_iload_n 2 dX11_itemName_2 rfl ?_
  refine z_bipush 3 dX11_itemName_3 zbp_9 ?_
  refine z_icge 5 110 dX11_itemName_5 (by decide) (fun _ => ?_) (fun _ => ?_)
  · refine z_bipush 110 dX11_itemName_110 zbp_m4 ?_
    exact z_ireturn 112 dX11_itemName_112 rfl rfl (fun h => h)
  · refine z_aload_n 8 dX11_itemName_8 rfl ?_
    refine z_getI 9 dX11_itemName_9 fl_X11_98 zy_76 rfl ?_
    refine z_aload_n 12 dX11_itemName_12 rfl ?_
    refine z_getI 13 dX11_itemName_13 fl_X11_92 zy_76 rfl ?_
    refine z_isub 16 dX11_itemName_16 ?_
    refine z_aload_n 17 dX11_itemName_17 rfl ?_
    refine z_getR 18 (r := 78) dX11_itemName_18 fl_X11_13 zy_76 rfl ?_
    refine z_iload_n 21 dX11_itemName_21 rfl ?_
    refine z_iconst 22 dX11_itemName_22 zci_1 ?_
    refine z_iadd 23 dX11_itemName_23 ?_
    refine z_iaload 24 dX11_itemName_24 zy_78 ?_
    refine z_aload_n 25 dX11_itemName_25 rfl ?_
    refine z_getR 26 (r := 78) dX11_itemName_26 fl_X11_13 zy_76 rfl ?_
    refine z_iload_n 29 dX11_itemName_29 rfl ?_
    refine z_iaload 30 dX11_itemName_30 zy_78 ?_
    refine z_isub 31 dX11_itemName_31 ?_
    refine zk_ltj (α := Bool) 40 (fun (b23 : Bool) => [some (.ref 76), some (.int x21), none, none]) (fun (b23 : Bool) => [.int (zb b23)]) (fun (b23 : Bool) => (zY0, M)) ?_ ?_
    · intro b23
      refine z_istore_n 40 (L' := [some (.ref 76), some (.int x21), some (.int (zb b23)), none]) dX11_itemName_40 (by decide) rfl ?_
      refine z_iconst 41 dX11_itemName_41 zci_0 ?_
      refine z_istore_n 42 (L' := [some (.ref 76), some (.int x21), some (.int (zb b23)), some (.int (0 : Int32))]) dX11_itemName_42 (by decide) rfl ?_
      refine zk_sqj (α := Bool) 98 (fun (b29 : Bool) => [some (.ref 76), some (.int x21), some (.int (zb b29)), none]) (fun (b29 : Bool) => []) (fun (b29 : Bool) => (zY0, M)) ?_ ?_
      · intro b29
        refine z_iload_n 98 dX11_itemName_98 rfl ?_
        refine z_ifeqb 99 104 dX11_itemName_99 (by decide) (fun _ => ?_) (fun _ => ?_)
        · refine z_iinc 104 (v := (x21 + (1 : Int32))) (L' := [some (.ref 76), some (.int (x21 + (1 : Int32))), some (.int (zb b29)), none]) dX11_itemName_104 rfl (zinc zci_1 _) (by decide) rfl ?_
          refine z_goto 107 2 dX11_itemName_107 (by decide) ?_
          exact zk_weak (L' := [some (.ref 76), some (.int (x21 + (1 : Int32))), none, none]) (zLe_s (zLe_s (zLe_n (zLe_n zLe_nl)))) (hrec22 (x21 + (1 : Int32)))
        · refine z_iload_n 102 dX11_itemName_102 rfl ?_
          exact z_ireturn 103 dX11_itemName_103 rfl rfl (fun h => h)
      · refine zk_weak (L' := [some (.ref 76), some (.int x21), some (.int (zb b23)), some (.int (0 : Int32))]) (zLe_s (zLe_s (zLe_s (zLe_s zLe_nl)))) (zk_lp (α := Bool × Int32) 43 (fun (u27 : Bool × Int32) => match u27 with | (b24, x25) => [some (.ref 76), some (.int x21), some (.int (zb b24)), some (.int x25)]) (fun (u28 : Bool × Int32) => match u28 with | (b24, x25) => (zY0, M)) ?_ zFu (b23, (0 : Int32)))
        intro rec26 hrec26
        intro u34
        obtain ⟨b24, x25⟩ := u34
        try dsimp only
        refine z_iload_n 43 dX11_itemName_43 rfl ?_
        refine z_ifeqb 44 98 dX11_itemName_44 (by decide) (fun _ => ?_) (fun _ => ?_)
        · exact zk_exitw (L' := [some (.ref 76), some (.int x21), some (.int (zb b24)), none]) (zLe_s (zLe_s (zLe_s (zLe_n zLe_nl)))) (fun h => h)
        · refine z_iload_n 47 dX11_itemName_47 rfl ?_
          refine z_aload_n 48 dX11_itemName_48 rfl ?_
          refine z_getI 49 dX11_itemName_49 fl_X11_98 zy_76 rfl ?_
          refine z_aload_n 52 dX11_itemName_52 rfl ?_
          refine z_getI 53 dX11_itemName_53 fl_X11_92 zy_76 rfl ?_
          refine z_isub 56 dX11_itemName_56 ?_
          refine z_icge 57 98 dX11_itemName_57 (by decide) (fun _ => ?_) (fun _ => ?_)
          · exact zk_exitw (L' := [some (.ref 76), some (.int x21), some (.int (zb b24)), none]) (zLe_s (zLe_s (zLe_s (zLe_n zLe_nl)))) (fun h => h)
          · refine z_aload_n 60 dX11_itemName_60 rfl ?_
            refine z_aload_n 61 dX11_itemName_61 rfl ?_
            refine z_getI 62 dX11_itemName_62 fl_X11_92 zy_76 rfl ?_
            refine z_iload_n 65 dX11_itemName_65 rfl ?_
            refine z_iadd 66 dX11_itemName_66 ?_
            refine z_ci (zat_V1 67 dX11_itemName_67 lk_X11_101 zy_76 rfl rfl ⟨Nat.le_of_ble_eq_true rfl, Nat.le_of_ble_eq_true rfl⟩ (Nat.le_of_ble_eq_true rfl)) (tX11_byteAt E ((M.1 76 6) + x25) M) (fun x30 => ?_)
            refine z_aload_n 70 dX11_itemName_70 rfl ?_
            refine z_getR 71 (r := 79) dX11_itemName_71 fl_X11_16 zy_76 rfl ?_
            refine z_aload_n 74 dX11_itemName_74 rfl ?_
            refine z_getR 75 (r := 78) dX11_itemName_75 fl_X11_13 zy_76 rfl ?_
            refine z_iload_n 78 dX11_itemName_78 rfl ?_
            refine z_iaload 79 dX11_itemName_79 zy_78 ?_
            refine z_iload_n 80 dX11_itemName_80 rfl ?_
            refine z_iadd 81 dX11_itemName_81 ?_
            refine z_iaload 82 dX11_itemName_82 zy_79 ?_
            refine zk_ltj (α := Bool) 91 (fun (b31 : Bool) => [some (.ref 76), some (.int x21), none, some (.int x25)]) (fun (b31 : Bool) => [.int (zb b31)]) (fun (b31 : Bool) => (zY0, M)) ?_ ?_
            · intro b31
              refine z_istore_n 91 (L' := [some (.ref 76), some (.int x21), some (.int (zb b31)), some (.int x25)]) dX11_itemName_91 (by decide) rfl ?_
              refine z_iinc 92 (v := (x25 + (1 : Int32))) (L' := [some (.ref 76), some (.int x21), some (.int (zb b31)), some (.int (x25 + (1 : Int32)))]) dX11_itemName_92 rfl (zinc zci_1 _) (by decide) rfl ?_
              refine z_goto 95 43 dX11_itemName_95 (by decide) ?_
              exact zk_weak (L' := [some (.ref 76), some (.int x21), some (.int (zb b31)), some (.int (x25 + (1 : Int32)))]) (zLe_s (zLe_s (zLe_s (zLe_s zLe_nl)))) (hrec26 (b31, (x25 + (1 : Int32))))
            · intro k32 hk32
              refine z_icnev 83 90 dX11_itemName_83 (by decide) ?_ ?_
              · refine z_iconst 86 dX11_itemName_86 zci_1 ?_
                refine z_goto 87 91 dX11_itemName_87 (by decide) ?_
                exact zk_weak (L' := [some (.ref 76), some (.int x21), none, some (.int x25)]) (zLe_s (zLe_s (zLe_n (zLe_s zLe_nl)))) (hk32 true)
              · refine z_iconst 90 dX11_itemName_90 zci_0 ?_
                exact zk_weak (L' := [some (.ref 76), some (.int x21), none, some (.int x25)]) (zLe_s (zLe_s (zLe_n (zLe_s zLe_nl)))) (hk32 false)
    · intro k35 hk35
      refine z_icnev 32 39 dX11_itemName_32 (by decide) ?_ ?_
      · refine z_iconst 35 dX11_itemName_35 zci_1 ?_
        refine z_goto 36 40 dX11_itemName_36 (by decide) ?_
        exact zk_weak (L' := [some (.ref 76), some (.int x21), none, none]) (zLe_s (zLe_s (zLe_n (zLe_n zLe_nl)))) (hk35 true)
      · refine z_iconst 39 dX11_itemName_39 zci_0 ?_
        exact zk_weak (L' := [some (.ref 76), some (.int x21), none, none]) (zLe_s (zLe_s (zLe_n (zLe_n zLe_nl)))) (hk35 false)
def fX11_next (M : zM) : Option zM :=
  if (M.1 76 3) ≤ 0 then (sq (α := zM) (zlp (α := zM) (β := zM) (fun rec2 => (fun (M1 : zM) => sq (fX11_byteAt (M1.1 76 5) M1) (fun (x4 : Int32) => if x4 = (32 : Int32) then (lt (zwI M1 76 5 ((M1.1 76 5) + (1 : Int32))) (fun (M5 : zM) => rec2 M5)) else (some M1)))) zFu M) (fun (M3 : zM) => lt (zwI M3 76 6 (M3.1 76 5)) (fun (M6 : zM) => sq (fX11_byteAt (M6.1 76 5) M6) (fun (x7 : Int32) => lt (zwI M6 76 8 (0 : Int32)) (fun (M8 : zM) => if x7 = (-4 : Int32) then (lt (zwI M8 76 7 (0 : Int32)) (fun (M9 : zM) => some M9)) else (lt (fX11_in x7.toInt64 (97 : Int64) (122 : Int64)) (fun (b10 : Bool) => if b10 = false then (lt (fX11_in x7.toInt64 (48 : Int64) (57 : Int64)) (fun (b11 : Bool) => if b11 = false then (lt (zwI M8 76 7 (3 : Int32)) (fun (M12 : zM) => lt (zwI M12 76 5 ((M12.1 76 5) + (1 : Int32))) (fun (M13 : zM) => if x7 = (59 : Int32) then (some M13) else (sq (fX11_fails (1 : Int32) M13) (fun (M14 : zM) => some M14))))) else (sq (α := zM) (zlp (α := zM) (β := zM) (fun rec16 => (fun (M15 : zM) => sq (fX11_byteAt (M15.1 76 5) M15) (fun (x18 : Int32) => lt (fX11_in x18.toInt64 (48 : Int64) (57 : Int64)) (fun (b19 : Bool) => if b19 = false then (some M15) else (sq (α := Int32) (if (3 : Int32) ≤ ((M15.1 76 5) - (M15.1 76 6)) then (some (M15.1 76 8)) else (sq (fX11_byteAt (M15.1 76 5) M15) (fun (x24 : Int32) => some ((((10 : Int32) * (M15.1 76 8)) + x24) - (48 : Int32))))) (fun (x21 : Int32) => lt (zwI M15 76 8 x21) (fun (M22 : zM) => lt (zwI M22 76 5 ((M22.1 76 5) + (1 : Int32))) (fun (M23 : zM) => rec16 M23)))))))) zFu M8) (fun (M17 : zM) => lt (zwI M17 76 7 (2 : Int32)) (fun (M25 : zM) => if ((M25.1 76 5) - (M25.1 76 6)) ≤ (3 : Int32) then (some M25) else (sq (fX11_fails (1 : Int32) M25) (fun (M26 : zM) => some M26))))))) else (sq (α := zM) (zlp (α := zM) (β := zM) (fun rec28 => (fun (M27 : zM) => sq (fX11_byteAt (M27.1 76 5) M27) (fun (x30 : Int32) => lt (fX11_in x30.toInt64 (97 : Int64) (122 : Int64)) (fun (b31 : Bool) => if b31 = false then (some M27) else (lt (zwI M27 76 5 ((M27.1 76 5) + (1 : Int32))) (fun (M32 : zM) => rec28 M32)))))) zFu M8) (fun (M29 : zM) => lt (zwI M29 76 7 (1 : Int32)) (fun (M33 : zM) => some M33)))))))))) else (some M)
set_option maxHeartbeats 4000000 in
set_option maxRecDepth 100000 in
theorem tX11_next (E : zE)  (M : zM) : zFV E mX11_next [.ref 76] zY0 M (fX11_next M) := by
  refine zF_of (L := [some (.ref 76), none]) plX11 (Nat.le_of_ble_eq_true rfl) rfl (fun post => ?_)
  unfold fX11_next
  refine z_aload_n 0 dX11_next_0 rfl ?_
  refine z_getI 1 dX11_next_1 fl_X11_89 zy_76 rfl ?_
  refine z_ifle 4 8 dX11_next_4 (by decide) (fun _ => ?_) (fun _ => ?_)
  · refine zk_sqj (α := zM) 34 (fun (M3 : zM) => [some (.ref 76), none]) (fun (M3 : zM) => []) (fun (M3 : zM) => (zY0, M3)) ?_ ?_
    · intro M3
      refine z_aload_n 34 dX11_next_34 rfl ?_
      refine z_aload_n 35 dX11_next_35 rfl ?_
      refine z_getI 36 dX11_next_36 fl_X11_98 zy_76 rfl ?_
      refine z_put 39 dX11_next_39 fp_X11_92 zy_76 rfl (zput_i _) ?_
      refine zk_nmM (fun M6 => ?_)
      refine z_aload_n 42 dX11_next_42 rfl ?_
      refine z_aload_n 43 dX11_next_43 rfl ?_
      refine z_getI 44 dX11_next_44 fl_X11_98 zy_76 rfl ?_
      refine z_ci (zat_V1 47 dX11_next_47 lk_X11_101 zy_76 rfl rfl ⟨Nat.le_of_ble_eq_true rfl, Nat.le_of_ble_eq_true rfl⟩ (Nat.le_of_ble_eq_true rfl)) (tX11_byteAt E (M6.1 76 5) M6) (fun x7 => ?_)
      refine z_istore_n 50 (L' := [some (.ref 76), some (.int x7)]) dX11_next_50 (by decide) rfl ?_
      refine z_aload_n 51 dX11_next_51 rfl ?_
      refine z_iconst 52 dX11_next_52 zci_0 ?_
      refine z_put 53 dX11_next_53 fp_X11_105 zy_76 rfl (zput_i _) ?_
      refine zk_nmM (fun M8 => ?_)
      refine z_iload_n 56 dX11_next_56 rfl ?_
      refine z_bipush 57 dX11_next_57 zbp_m4 ?_
      refine z_icne 59 70 dX11_next_59 (by decide) (fun _ => ?_) (fun _ => ?_)
      · refine z_aload_n 62 dX11_next_62 rfl ?_
        refine z_iconst 63 dX11_next_63 zci_0 ?_
        refine z_put 64 dX11_next_64 fp_X11_108 zy_76 rfl (zput_i _) ?_
        refine zk_nmM (fun M9 => ?_)
        refine z_goto 67 269 dX11_next_67 (by decide) ?_
        exact z_return 269 dX11_next_269 rfl (fun h => h)
      · refine z_iload_n 70 dX11_next_70 rfl ?_
        refine z_i2l 71 dX11_next_71 ?_
        refine z_ldc2 72 dX11_next_72 cw_X11_111 ?_
        refine z_ldc2 75 dX11_next_75 cw_X11_113 ?_
        refine z_ctb (zat_S3 78 dX11_next_78 lk_X11_85 ⟨Nat.le_of_ble_eq_true rfl, Nat.le_of_ble_eq_true rfl⟩ (Nat.le_of_ble_eq_true rfl)) (tX11_in E zY0 x7.toInt64 (97 : Int64) (122 : Int64) M8) (fun b10 => ?_)
        refine z_ifeqb 81 126 dX11_next_81 (by decide) (fun _ => ?_) (fun _ => ?_)
        · refine z_iload_n 126 dX11_next_126 rfl ?_
          refine z_i2l 127 dX11_next_127 ?_
          refine z_ldc2 128 dX11_next_128 cw_X11_115 ?_
          refine z_ldc2 131 dX11_next_131 cw_X11_117 ?_
          refine z_ctb (zat_S3 134 dX11_next_134 lk_X11_85 ⟨Nat.le_of_ble_eq_true rfl, Nat.le_of_ble_eq_true rfl⟩ (Nat.le_of_ble_eq_true rfl)) (tX11_in E zY0 x7.toInt64 (48 : Int64) (57 : Int64) M8) (fun b11 => ?_)
          refine z_ifeqb 137 243 dX11_next_137 (by decide) (fun _ => ?_) (fun _ => ?_)
          · refine z_aload_n 243 dX11_next_243 rfl ?_
            refine z_iconst 244 dX11_next_244 zci_3 ?_
            refine z_put 245 dX11_next_245 fp_X11_108 zy_76 rfl (zput_i _) ?_
            refine zk_nmM (fun M12 => ?_)
            refine z_aload_n 248 dX11_next_248 rfl ?_
            refine z_dup 249 dX11_next_249 rfl ?_
            refine z_getI 250 dX11_next_250 fl_X11_98 zy_76 rfl ?_
            refine z_iconst 253 dX11_next_253 zci_1 ?_
            refine z_iadd 254 dX11_next_254 ?_
            refine z_put 255 dX11_next_255 fp_X11_98 zy_76 rfl (zput_i _) ?_
            refine zk_nmM (fun M13 => ?_)
            refine z_iload_n 258 dX11_next_258 rfl ?_
            refine z_bipush 259 dX11_next_259 zbp_59 ?_
            refine z_iceq 261 269 dX11_next_261 (by decide) (fun _ => ?_) (fun _ => ?_)
            · exact z_return 269 dX11_next_269 rfl (fun h => h)
            · refine z_aload_n 264 dX11_next_264 rfl ?_
              refine z_iconst 265 dX11_next_265 zci_1 ?_
              refine z_cV (zat_V1 266 dX11_next_266 lk_X11_119 zy_76 rfl rfl ⟨Nat.le_of_ble_eq_true rfl, Nat.le_of_ble_eq_true rfl⟩ (Nat.le_of_ble_eq_true rfl)) (tX11_fails E (1 : Int32) M13) (fun M14 => ?_)
              exact z_return 269 dX11_next_269 rfl (fun h => h)
          · refine zk_sqj (α := zM) 217 (fun (M17 : zM) => [some (.ref 76), none]) (fun (M17 : zM) => []) (fun (M17 : zM) => (zY0, M17)) ?_ ?_
            · intro M17
              refine z_aload_n 217 dX11_next_217 rfl ?_
              refine z_iconst 218 dX11_next_218 zci_2 ?_
              refine z_put 219 dX11_next_219 fp_X11_108 zy_76 rfl (zput_i _) ?_
              refine zk_nmM (fun M25 => ?_)
              refine z_aload_n 222 dX11_next_222 rfl ?_
              refine z_getI 223 dX11_next_223 fl_X11_98 zy_76 rfl ?_
              refine z_aload_n 226 dX11_next_226 rfl ?_
              refine z_getI 227 dX11_next_227 fl_X11_92 zy_76 rfl ?_
              refine z_isub 230 dX11_next_230 ?_
              refine z_iconst 231 dX11_next_231 zci_3 ?_
              refine z_icle 232 269 dX11_next_232 (by decide) (fun _ => ?_) (fun _ => ?_)
              · exact z_return 269 dX11_next_269 rfl (fun h => h)
              · refine z_aload_n 235 dX11_next_235 rfl ?_
                refine z_iconst 236 dX11_next_236 zci_1 ?_
                refine z_cV (zat_V1 237 dX11_next_237 lk_X11_119 zy_76 rfl rfl ⟨Nat.le_of_ble_eq_true rfl, Nat.le_of_ble_eq_true rfl⟩ (Nat.le_of_ble_eq_true rfl)) (tX11_fails E (1 : Int32) M25) (fun M26 => ?_)
                refine z_goto 240 269 dX11_next_240 (by decide) ?_
                exact z_return 269 dX11_next_269 rfl (fun h => h)
            · refine zk_weak (L' := [some (.ref 76), none]) (zLe_s (zLe_n zLe_nl)) (zk_lp (α := zM) 140 (fun (M15 : zM) => [some (.ref 76), none]) (fun (M15 : zM) => (zY0, M15)) ?_ zFu M8)
              intro rec16 hrec16
              intro M15
              refine z_aload_n 140 dX11_next_140 rfl ?_
              refine z_aload_n 141 dX11_next_141 rfl ?_
              refine z_getI 142 dX11_next_142 fl_X11_98 zy_76 rfl ?_
              refine z_ci (zat_V1 145 dX11_next_145 lk_X11_101 zy_76 rfl rfl ⟨Nat.le_of_ble_eq_true rfl, Nat.le_of_ble_eq_true rfl⟩ (Nat.le_of_ble_eq_true rfl)) (tX11_byteAt E (M15.1 76 5) M15) (fun x18 => ?_)
              refine z_i2l 148 dX11_next_148 ?_
              refine z_ldc2 149 dX11_next_149 cw_X11_115 ?_
              refine z_ldc2 152 dX11_next_152 cw_X11_117 ?_
              refine z_ctb (zat_S3 155 dX11_next_155 lk_X11_85 ⟨Nat.le_of_ble_eq_true rfl, Nat.le_of_ble_eq_true rfl⟩ (Nat.le_of_ble_eq_true rfl)) (tX11_in E zY0 x18.toInt64 (48 : Int64) (57 : Int64) M15) (fun b19 => ?_)
              refine z_ifeqb 158 217 dX11_next_158 (by decide) (fun _ => ?_) (fun _ => ?_)
              · exact zk_exitw (L' := [some (.ref 76), none]) (zLe_s (zLe_n zLe_nl)) (fun h => h)
              · refine z_aload_n 161 dX11_next_161 rfl ?_
                refine z_aload_n 162 dX11_next_162 rfl ?_
                refine z_getI 163 dX11_next_163 fl_X11_98 zy_76 rfl ?_
                refine z_aload_n 166 dX11_next_166 rfl ?_
                refine z_getI 167 dX11_next_167 fl_X11_92 zy_76 rfl ?_
                refine z_isub 170 dX11_next_170 ?_
                refine z_iconst 171 dX11_next_171 zci_3 ?_
                refine zk_sqj (α := Int32) 201 (fun (x21 : Int32) => [some (.ref 76), none]) (fun (x21 : Int32) => [.int x21, .ref 76]) (fun (x21 : Int32) => (zY0, M15)) ?_ ?_
                · intro x21
                  refine z_put 201 dX11_next_201 fp_X11_105 zy_76 rfl (zput_i _) ?_
                  refine zk_nmM (fun M22 => ?_)
                  refine z_aload_n 204 dX11_next_204 rfl ?_
                  refine z_dup 205 dX11_next_205 rfl ?_
                  refine z_getI 206 dX11_next_206 fl_X11_98 zy_76 rfl ?_
                  refine z_iconst 209 dX11_next_209 zci_1 ?_
                  refine z_iadd 210 dX11_next_210 ?_
                  refine z_put 211 dX11_next_211 fp_X11_98 zy_76 rfl (zput_i _) ?_
                  refine zk_nmM (fun M23 => ?_)
                  refine z_goto 214 140 dX11_next_214 (by decide) ?_
                  exact zk_weak (L' := [some (.ref 76), none]) (zLe_s (zLe_n zLe_nl)) (hrec16 M23)
                · refine z_icge 172 197 dX11_next_172 (by decide) (fun _ => ?_) (fun _ => ?_)
                  · refine z_aload_n 197 dX11_next_197 rfl ?_
                    refine z_getI 198 dX11_next_198 fl_X11_105 zy_76 rfl ?_
                    exact zk_exitw (L' := [some (.ref 76), none]) (zLe_s (zLe_n zLe_nl)) (fun h => h)
                  · refine z_bipush 175 dX11_next_175 zbp_10 ?_
                    refine z_aload_n 177 dX11_next_177 rfl ?_
                    refine z_getI 178 dX11_next_178 fl_X11_105 zy_76 rfl ?_
                    refine z_imul 181 dX11_next_181 ?_
                    refine z_aload_n 182 dX11_next_182 rfl ?_
                    refine z_aload_n 183 dX11_next_183 rfl ?_
                    refine z_getI 184 dX11_next_184 fl_X11_98 zy_76 rfl ?_
                    refine z_ci (zat_V1 187 dX11_next_187 lk_X11_101 zy_76 rfl rfl ⟨Nat.le_of_ble_eq_true rfl, Nat.le_of_ble_eq_true rfl⟩ (Nat.le_of_ble_eq_true rfl)) (tX11_byteAt E (M15.1 76 5) M15) (fun x24 => ?_)
                    refine z_iadd 190 dX11_next_190 ?_
                    refine z_bipush 191 dX11_next_191 zbp_48 ?_
                    refine z_isub 193 dX11_next_193 ?_
                    refine z_goto 194 201 dX11_next_194 (by decide) ?_
                    exact zk_exitw (L' := [some (.ref 76), none]) (zLe_s (zLe_n zLe_nl)) (fun h => h)
        · refine zk_sqj (α := zM) 118 (fun (M29 : zM) => [some (.ref 76), none]) (fun (M29 : zM) => []) (fun (M29 : zM) => (zY0, M29)) ?_ ?_
          · intro M29
            refine z_aload_n 118 dX11_next_118 rfl ?_
            refine z_iconst 119 dX11_next_119 zci_1 ?_
            refine z_put 120 dX11_next_120 fp_X11_108 zy_76 rfl (zput_i _) ?_
            refine zk_nmM (fun M33 => ?_)
            refine z_goto 123 269 dX11_next_123 (by decide) ?_
            exact z_return 269 dX11_next_269 rfl (fun h => h)
          · refine zk_weak (L' := [some (.ref 76), none]) (zLe_s (zLe_n zLe_nl)) (zk_lp (α := zM) 84 (fun (M27 : zM) => [some (.ref 76), none]) (fun (M27 : zM) => (zY0, M27)) ?_ zFu M8)
            intro rec28 hrec28
            intro M27
            refine z_aload_n 84 dX11_next_84 rfl ?_
            refine z_aload_n 85 dX11_next_85 rfl ?_
            refine z_getI 86 dX11_next_86 fl_X11_98 zy_76 rfl ?_
            refine z_ci (zat_V1 89 dX11_next_89 lk_X11_101 zy_76 rfl rfl ⟨Nat.le_of_ble_eq_true rfl, Nat.le_of_ble_eq_true rfl⟩ (Nat.le_of_ble_eq_true rfl)) (tX11_byteAt E (M27.1 76 5) M27) (fun x30 => ?_)
            refine z_i2l 92 dX11_next_92 ?_
            refine z_ldc2 93 dX11_next_93 cw_X11_111 ?_
            refine z_ldc2 96 dX11_next_96 cw_X11_113 ?_
            refine z_ctb (zat_S3 99 dX11_next_99 lk_X11_85 ⟨Nat.le_of_ble_eq_true rfl, Nat.le_of_ble_eq_true rfl⟩ (Nat.le_of_ble_eq_true rfl)) (tX11_in E zY0 x30.toInt64 (97 : Int64) (122 : Int64) M27) (fun b31 => ?_)
            refine z_ifeqb 102 118 dX11_next_102 (by decide) (fun _ => ?_) (fun _ => ?_)
            · exact zk_exitw (L' := [some (.ref 76), none]) (zLe_s (zLe_n zLe_nl)) (fun h => h)
            · refine z_aload_n 105 dX11_next_105 rfl ?_
              refine z_dup 106 dX11_next_106 rfl ?_
              refine z_getI 107 dX11_next_107 fl_X11_98 zy_76 rfl ?_
              refine z_iconst 110 dX11_next_110 zci_1 ?_
              refine z_iadd 111 dX11_next_111 ?_
              refine z_put 112 dX11_next_112 fp_X11_98 zy_76 rfl (zput_i _) ?_
              refine zk_nmM (fun M32 => ?_)
              refine z_goto 115 84 dX11_next_115 (by decide) ?_
              exact zk_weak (L' := [some (.ref 76), none]) (zLe_s (zLe_n zLe_nl)) (hrec28 M32)
    · refine zk_weak (L' := [some (.ref 76), none]) (zLe_s (zLe_n zLe_nl)) (zk_lp (α := zM) 8 (fun (M1 : zM) => [some (.ref 76), none]) (fun (M1 : zM) => (zY0, M1)) ?_ zFu M)
      intro rec2 hrec2
      intro M1
      refine z_aload_n 8 dX11_next_8 rfl ?_
      refine z_aload_n 9 dX11_next_9 rfl ?_
      refine z_getI 10 dX11_next_10 fl_X11_98 zy_76 rfl ?_
      refine z_ci (zat_V1 13 dX11_next_13 lk_X11_101 zy_76 rfl rfl ⟨Nat.le_of_ble_eq_true rfl, Nat.le_of_ble_eq_true rfl⟩ (Nat.le_of_ble_eq_true rfl)) (tX11_byteAt E (M1.1 76 5) M1) (fun x4 => ?_)
      refine z_bipush 16 dX11_next_16 zbp_32 ?_
      refine z_icne 18 34 dX11_next_18 (by decide) (fun _ => ?_) (fun _ => ?_)
      · refine z_aload_n 21 dX11_next_21 rfl ?_
        refine z_dup 22 dX11_next_22 rfl ?_
        refine z_getI 23 dX11_next_23 fl_X11_98 zy_76 rfl ?_
        refine z_iconst 26 dX11_next_26 zci_1 ?_
        refine z_iadd 27 dX11_next_27 ?_
        refine z_put 28 dX11_next_28 fp_X11_98 zy_76 rfl (zput_i _) ?_
        refine zk_nmM (fun M5 => ?_)
        refine z_goto 31 8 dX11_next_31 (by decide) ?_
        exact zk_weak (L' := [some (.ref 76), none]) (zLe_s (zLe_n zLe_nl)) (hrec2 M5)
      · exact zk_exitw (L' := [some (.ref 76), none]) (zLe_s (zLe_n zLe_nl)) (fun h => h)
  · exact z_return 7 dX11_next_7 rfl (fun h => h)
def fX11_number (p1 : Int32) (p2 : Int32) (M : zM) : Option (Int32 × zM) :=
  sq (α := zM) (if (M.1 76 3) = 0 then (if (M.1 76 7) = (2 : Int32) then (some M) else (sq (fX11_fails (2 : Int32) M) (fun (M11 : zM) => some M11))) else (some M)) (fun (M2 : zM) => sq (α := zM) (if (M2.1 76 3) = 0 then (lt (fX11_in ((M2.1 76 8)).toInt64 p1.toInt64 p2.toInt64) (fun (b9 : Bool) => if b9 = false then (sq (fX11_fails (3 : Int32) M2) (fun (M10 : zM) => some M10)) else (some M2))) else (some M2)) (fun (M5 : zM) => lt (if (M5.1 76 3) = 0 then ((M5.1 76 8)) else (p1)) (fun (x6 : Int32) => sq (fX11_next M5) (fun (M7 : zM) => some (x6, M7)))))
set_option maxHeartbeats 4000000 in
set_option maxRecDepth 100000 in
theorem tX11_number (E : zE) (p1 : Int32) (p2 : Int32) (M : zM) : zFI E mX11_number [.ref 76, .int p1, .int p2] zY0 M (fX11_number p1 p2 M) := by
  refine zF_of (L := [some (.ref 76), some (.int p1), some (.int p2), none]) plX11 (Nat.le_of_ble_eq_true rfl) rfl (fun post => ?_)
  unfold fX11_number
  refine z_aload_n 0 dX11_number_0 rfl ?_
  refine z_getI 1 dX11_number_1 fl_X11_89 zy_76 rfl ?_
  refine zk_sqj (α := zM) 20 (fun (M2 : zM) => [some (.ref 76), some (.int p1), some (.int p2), none]) (fun (M2 : zM) => []) (fun (M2 : zM) => (zY0, M2)) ?_ ?_
  · intro M2
    refine z_aload_n 20 dX11_number_20 rfl ?_
    refine z_getI 21 dX11_number_21 fl_X11_89 zy_76 rfl ?_
    refine zk_sqj (α := zM) 47 (fun (M5 : zM) => [some (.ref 76), some (.int p1), none, none]) (fun (M5 : zM) => []) (fun (M5 : zM) => (zY0, M5)) ?_ ?_
    · intro M5
      refine z_aload_n 47 dX11_number_47 rfl ?_
      refine z_getI 48 dX11_number_48 fl_X11_89 zy_76 rfl ?_
      refine zk_ltj (α := Int32) 62 (fun (x6 : Int32) => [some (.ref 76), none, none, none]) (fun (x6 : Int32) => [.int x6]) (fun (x6 : Int32) => (zY0, M5)) ?_ ?_
      · intro x6
        refine z_istore_n 62 (L' := [some (.ref 76), none, none, some (.int x6)]) dX11_number_62 (by decide) rfl ?_
        refine z_aload_n 63 dX11_number_63 rfl ?_
        refine z_cV (zat_V0 64 dX11_number_64 lk_X11_123 zy_76 rfl rfl ⟨Nat.le_of_ble_eq_true rfl, Nat.le_of_ble_eq_true rfl⟩ (Nat.le_of_ble_eq_true rfl)) (tX11_next E M5) (fun M7 => ?_)
        refine z_iload_n 67 dX11_number_67 rfl ?_
        exact z_ireturn 68 dX11_number_68 rfl rfl (fun h => h)
      · intro k8 hk8
        refine z_ifnev 51 61 dX11_number_51 (by decide) ?_ ?_
        · refine z_aload_n 54 dX11_number_54 rfl ?_
          refine z_getI 55 dX11_number_55 fl_X11_105 zy_76 rfl ?_
          refine z_goto 58 62 dX11_number_58 (by decide) ?_
          exact zk_weak (L' := [some (.ref 76), none, none, none]) (zLe_s (zLe_n (zLe_n (zLe_n zLe_nl)))) (hk8 (M5.1 76 8))
        · refine z_iload_n 61 dX11_number_61 rfl ?_
          exact zk_weak (L' := [some (.ref 76), none, none, none]) (zLe_s (zLe_n (zLe_n (zLe_n zLe_nl)))) (hk8 p1)
    · refine z_ifne 24 47 dX11_number_24 (by decide) (fun _ => ?_) (fun _ => ?_)
      · refine z_aload_n 27 dX11_number_27 rfl ?_
        refine z_getI 28 dX11_number_28 fl_X11_105 zy_76 rfl ?_
        refine z_i2l 31 dX11_number_31 ?_
        refine z_iload_n 32 dX11_number_32 rfl ?_
        refine z_i2l 33 dX11_number_33 ?_
        refine z_iload_n 34 dX11_number_34 rfl ?_
        refine z_i2l 35 dX11_number_35 ?_
        refine z_ctb (zat_S3 36 dX11_number_36 lk_X11_85 ⟨Nat.le_of_ble_eq_true rfl, Nat.le_of_ble_eq_true rfl⟩ (Nat.le_of_ble_eq_true rfl)) (tX11_in E zY0 ((M2.1 76 8)).toInt64 p1.toInt64 p2.toInt64 M2) (fun b9 => ?_)
        refine z_ifneb 39 47 dX11_number_39 (by decide) (fun _ => ?_) (fun _ => ?_)
        · refine z_aload_n 42 dX11_number_42 rfl ?_
          refine z_iconst 43 dX11_number_43 zci_3 ?_
          refine z_cV (zat_V1 44 dX11_number_44 lk_X11_119 zy_76 rfl rfl ⟨Nat.le_of_ble_eq_true rfl, Nat.le_of_ble_eq_true rfl⟩ (Nat.le_of_ble_eq_true rfl)) (tX11_fails E (3 : Int32) M2) (fun M10 => ?_)
          exact zk_exitw (L' := [some (.ref 76), some (.int p1), none, none]) (zLe_s (zLe_s (zLe_n (zLe_n zLe_nl)))) (fun h => h)
        · exact zk_exitw (L' := [some (.ref 76), some (.int p1), none, none]) (zLe_s (zLe_s (zLe_n (zLe_n zLe_nl)))) (fun h => h)
      · exact zk_exitw (L' := [some (.ref 76), some (.int p1), none, none]) (zLe_s (zLe_s (zLe_n (zLe_n zLe_nl)))) (fun h => h)
  · refine z_ifne 4 20 dX11_number_4 (by decide) (fun _ => ?_) (fun _ => ?_)
    · refine z_aload_n 7 dX11_number_7 rfl ?_
      refine z_getI 8 dX11_number_8 fl_X11_108 zy_76 rfl ?_
      refine z_iconst 11 dX11_number_11 zci_2 ?_
      refine z_iceq 12 20 dX11_number_12 (by decide) (fun _ => ?_) (fun _ => ?_)
      · exact zk_exitw (L' := [some (.ref 76), some (.int p1), some (.int p2), none]) (zLe_s (zLe_s (zLe_s (zLe_n zLe_nl)))) (fun h => h)
      · refine z_aload_n 15 dX11_number_15 rfl ?_
        refine z_iconst 16 dX11_number_16 zci_2 ?_
        refine z_cV (zat_V1 17 dX11_number_17 lk_X11_119 zy_76 rfl rfl ⟨Nat.le_of_ble_eq_true rfl, Nat.le_of_ble_eq_true rfl⟩ (Nat.le_of_ble_eq_true rfl)) (tX11_fails E (2 : Int32) M) (fun M11 => ?_)
        exact zk_exitw (L' := [some (.ref 76), some (.int p1), some (.int p2), none]) (zLe_s (zLe_s (zLe_s (zLe_n zLe_nl)))) (fun h => h)
    · exact zk_exitw (L' := [some (.ref 76), some (.int p1), some (.int p2), none]) (zLe_s (zLe_s (zLe_s (zLe_n zLe_nl)))) (fun h => h)
def fX11_letter (M : zM) : Option (Int32 × zM) :=
  sq (α := zM) (if (M.1 76 3) = 0 then (if (M.1 76 7) = (1 : Int32) then (some M) else (sq (fX11_fails (2 : Int32) M) (fun (M14 : zM) => some M14))) else (some M)) (fun (M2 : zM) => sq (fX11_byteAt (M2.1 76 6) M2) (fun (x3 : Int32) => lt ((x3 - (97 : Int32))) (fun (x4 : Int32) => sq (α := zM) (if (M2.1 76 3) = 0 then (jn (α := Unit) (fun (_ : Unit) => sq (fX11_fails (3 : Int32) M2) (fun (M11 : zM) => some M11)) (fun k12 => if ((M2.1 76 5) - (M2.1 76 6)) = (1 : Int32) then (lt (fX11_in x4.toInt64 (0 : Int64) (7 : Int64)) (fun (b13 : Bool) => if b13 = false then (k12 ()) else (some M2))) else (k12 ()))) else (some M2)) (fun (M9 : zM) => if (M9.1 76 3) = 0 then (some (x4, M9)) else (some ((0 : Int32), M9))))))
set_option maxHeartbeats 4000000 in
set_option maxRecDepth 100000 in
theorem tX11_letter (E : zE)  (M : zM) : zFI E mX11_letter [.ref 76] zY0 M (fX11_letter M) := by
  refine zF_of (L := [some (.ref 76), none]) plX11 (Nat.le_of_ble_eq_true rfl) rfl (fun post => ?_)
  unfold fX11_letter
  refine z_aload_n 0 dX11_letter_0 rfl ?_
  refine z_getI 1 dX11_letter_1 fl_X11_89 zy_76 rfl ?_
  refine zk_sqj (α := zM) 20 (fun (M2 : zM) => [some (.ref 76), none]) (fun (M2 : zM) => []) (fun (M2 : zM) => (zY0, M2)) ?_ ?_
  · intro M2
    refine z_aload_n 20 dX11_letter_20 rfl ?_
    refine z_aload_n 21 dX11_letter_21 rfl ?_
    refine z_getI 22 dX11_letter_22 fl_X11_92 zy_76 rfl ?_
    refine z_ci (zat_V1 25 dX11_letter_25 lk_X11_101 zy_76 rfl rfl ⟨Nat.le_of_ble_eq_true rfl, Nat.le_of_ble_eq_true rfl⟩ (Nat.le_of_ble_eq_true rfl)) (tX11_byteAt E (M2.1 76 6) M2) (fun x3 => ?_)
    refine z_bipush 28 dX11_letter_28 zbp_97 ?_
    refine z_isub 30 dX11_letter_30 ?_
    refine zk_nmI (fun x4 => ?_)
    refine z_istore_n 31 (L' := [some (.ref 76), some (.int x4)]) dX11_letter_31 (by decide) rfl ?_
    refine z_aload_n 32 dX11_letter_32 rfl ?_
    refine z_getI 33 dX11_letter_33 fl_X11_89 zy_76 rfl ?_
    refine zk_sqj (α := zM) 69 (fun (M9 : zM) => [some (.ref 76), some (.int x4)]) (fun (M9 : zM) => []) (fun (M9 : zM) => (zY0, M9)) ?_ ?_
    · intro M9
      refine z_aload_n 69 dX11_letter_69 rfl ?_
      refine z_getI 70 dX11_letter_70 fl_X11_89 zy_76 rfl ?_
      refine z_ifne 73 80 dX11_letter_73 (by decide) (fun _ => ?_) (fun _ => ?_)
      · refine z_iload_n 76 dX11_letter_76 rfl ?_
        refine z_goto 77 81 dX11_letter_77 (by decide) ?_
        exact z_ireturn 81 dX11_letter_81 rfl rfl (fun h => h)
      · refine z_iconst 80 dX11_letter_80 zci_0 ?_
        exact z_ireturn 81 dX11_letter_81 rfl rfl (fun h => h)
    · refine z_ifne 36 69 dX11_letter_36 (by decide) (fun _ => ?_) (fun _ => ?_)
      · refine z_aload_n 39 dX11_letter_39 rfl ?_
        refine z_getI 40 dX11_letter_40 fl_X11_98 zy_76 rfl ?_
        refine z_aload_n 43 dX11_letter_43 rfl ?_
        refine z_getI 44 dX11_letter_44 fl_X11_92 zy_76 rfl ?_
        refine z_isub 47 dX11_letter_47 ?_
        refine z_iconst 48 dX11_letter_48 zci_1 ?_
        refine zk_jn (α := Unit) 64 (fun (_ : Unit) => [some (.ref 76), some (.int x4)]) (fun (_ : Unit) => []) (fun (_ : Unit) => (zY0, M2)) ?_ ?_
        · intro _
          refine z_aload_n 64 dX11_letter_64 rfl ?_
          refine z_iconst 65 dX11_letter_65 zci_3 ?_
          refine z_cV (zat_V1 66 dX11_letter_66 lk_X11_119 zy_76 rfl rfl ⟨Nat.le_of_ble_eq_true rfl, Nat.le_of_ble_eq_true rfl⟩ (Nat.le_of_ble_eq_true rfl)) (tX11_fails E (3 : Int32) M2) (fun M11 => ?_)
          exact zk_exitw (L' := [some (.ref 76), some (.int x4)]) (zLe_s (zLe_s zLe_nl)) (fun h => h)
        · intro k12 hk12
          refine z_icne 49 64 dX11_letter_49 (by decide) (fun _ => ?_) (fun _ => ?_)
          · refine z_iload_n 52 dX11_letter_52 rfl ?_
            refine z_i2l 53 dX11_letter_53 ?_
            refine z_lconst 54 dX11_letter_54 zlc_0 ?_
            refine z_ldc2 55 dX11_letter_55 cw_X11_126 ?_
            refine z_ctb (zat_S3 58 dX11_letter_58 lk_X11_85 ⟨Nat.le_of_ble_eq_true rfl, Nat.le_of_ble_eq_true rfl⟩ (Nat.le_of_ble_eq_true rfl)) (tX11_in E zY0 x4.toInt64 (0 : Int64) (7 : Int64) M2) (fun b13 => ?_)
            refine z_ifneb 61 69 dX11_letter_61 (by decide) (fun _ => ?_) (fun _ => ?_)
            · exact zk_weak (L' := [some (.ref 76), some (.int x4)]) (zLe_s (zLe_s zLe_nl)) (hk12 ())
            · exact zk_exitw (L' := [some (.ref 76), some (.int x4)]) (zLe_s (zLe_s zLe_nl)) (fun h => h)
          · exact zk_weak (L' := [some (.ref 76), some (.int x4)]) (zLe_s (zLe_s zLe_nl)) (hk12 ())
      · exact zk_exitw (L' := [some (.ref 76), some (.int x4)]) (zLe_s (zLe_s zLe_nl)) (fun h => h)
  · refine z_ifne 4 20 dX11_letter_4 (by decide) (fun _ => ?_) (fun _ => ?_)
    · refine z_aload_n 7 dX11_letter_7 rfl ?_
      refine z_getI 8 dX11_letter_8 fl_X11_108 zy_76 rfl ?_
      refine z_iconst 11 dX11_letter_11 zci_1 ?_
      refine z_iceq 12 20 dX11_letter_12 (by decide) (fun _ => ?_) (fun _ => ?_)
      · exact zk_exitw (L' := [some (.ref 76), none]) (zLe_s (zLe_n zLe_nl)) (fun h => h)
      · refine z_aload_n 15 dX11_letter_15 rfl ?_
        refine z_iconst 16 dX11_letter_16 zci_2 ?_
        refine z_cV (zat_V1 17 dX11_letter_17 lk_X11_119 zy_76 rfl rfl ⟨Nat.le_of_ble_eq_true rfl, Nat.le_of_ble_eq_true rfl⟩ (Nat.le_of_ble_eq_true rfl)) (tX11_fails E (2 : Int32) M) (fun M14 => ?_)
        exact zk_exitw (L' := [some (.ref 76), none]) (zLe_s (zLe_n zLe_nl)) (fun h => h)
    · exact zk_exitw (L' := [some (.ref 76), none]) (zLe_s (zLe_n zLe_nl)) (fun h => h)
def fX11_readTwo (M : zM) : Option zM :=
  bi (fX11_letter M) (fun (x2 : Int32) (M1 : zM) => sq (fX11_next M1) (fun (M3 : zM) => bi (fX11_letter M3) (fun (x5 : Int32) (M4 : zM) => sq (α := zM) (if (M4.1 76 3) = 0 then (if x2 = x5 then (sq (fX11_fails (3 : Int32) M4) (fun (M15 : zM) => some M15)) else (some M4)) else (some M4)) (fun (M7 : zM) => sq (α := zM) (if (M7.1 76 3) = 0 then (grd (zix (((8 : Int32) * x2) + x5) 64) (if (M7.1 83 (zn (((8 : Int32) * x2) + x5))) ≤ 0 then (some M7) else (sq (fX11_fails (4 : Int32) M7) (fun (M14 : zM) => some M14)))) else (some M7)) (fun (M9 : zM) => sq (fX11_next M9) (fun (M10 : zM) => bi (fX11_number (0 : Int32) (50 : Int32) M10) (fun (x12 : Int32) (M11 : zM) => if (M11.1 76 3) = 0 then (grd (zix (((8 : Int32) * x2) + x5) 64) (lt (zwI M11 83 (zn (((8 : Int32) * x2) + x5)) (x12 + (1 : Int32))) (fun (M13 : zM) => some M13))) else (some M11))))))))
set_option maxHeartbeats 4000000 in
set_option maxRecDepth 100000 in
theorem tX11_readTwo (E : zE)  (M : zM) : zFV E mX11_readTwo [.ref 76] zY0 M (fX11_readTwo M) := by
  refine zF_of (L := [some (.ref 76), none, none, none]) plX11 (Nat.le_of_ble_eq_true rfl) rfl (fun post => ?_)
  unfold fX11_readTwo
  refine z_aload_n 0 dX11_readTwo_0 rfl ?_
  refine z_cI (zat_V0 1 dX11_readTwo_1 lk_X11_128 zy_76 rfl rfl ⟨Nat.le_of_ble_eq_true rfl, Nat.le_of_ble_eq_true rfl⟩ (Nat.le_of_ble_eq_true rfl)) (tX11_letter E M) (fun x2 M1 => ?_)
  refine z_istore_n 4 (L' := [some (.ref 76), some (.int x2), none, none]) dX11_readTwo_4 (by decide) rfl ?_
  refine z_aload_n 5 dX11_readTwo_5 rfl ?_
  refine z_cV (zat_V0 6 dX11_readTwo_6 lk_X11_123 zy_76 rfl rfl ⟨Nat.le_of_ble_eq_true rfl, Nat.le_of_ble_eq_true rfl⟩ (Nat.le_of_ble_eq_true rfl)) (tX11_next E M1) (fun M3 => ?_)
  refine z_aload_n 9 dX11_readTwo_9 rfl ?_
  refine z_cI (zat_V0 10 dX11_readTwo_10 lk_X11_128 zy_76 rfl rfl ⟨Nat.le_of_ble_eq_true rfl, Nat.le_of_ble_eq_true rfl⟩ (Nat.le_of_ble_eq_true rfl)) (tX11_letter E M3) (fun x5 M4 => ?_)
  refine z_istore_n 13 (L' := [some (.ref 76), some (.int x2), some (.int x5), none]) dX11_readTwo_13 (by decide) rfl ?_
  refine z_aload_n 14 dX11_readTwo_14 rfl ?_
  refine z_getI 15 dX11_readTwo_15 fl_X11_89 zy_76 rfl ?_
  refine zk_sqj (α := zM) 31 (fun (M7 : zM) => [some (.ref 76), some (.int x2), some (.int x5), none]) (fun (M7 : zM) => []) (fun (M7 : zM) => (zY0, M7)) ?_ ?_
  · intro M7
    refine z_aload_n 31 dX11_readTwo_31 rfl ?_
    refine z_getI 32 dX11_readTwo_32 fl_X11_89 zy_76 rfl ?_
    refine zk_sqj (α := zM) 57 (fun (M9 : zM) => [some (.ref 76), some (.int x2), some (.int x5), none]) (fun (M9 : zM) => []) (fun (M9 : zM) => (zY0, M9)) ?_ ?_
    · intro M9
      refine z_aload_n 57 dX11_readTwo_57 rfl ?_
      refine z_cV (zat_V0 58 dX11_readTwo_58 lk_X11_123 zy_76 rfl rfl ⟨Nat.le_of_ble_eq_true rfl, Nat.le_of_ble_eq_true rfl⟩ (Nat.le_of_ble_eq_true rfl)) (tX11_next E M9) (fun M10 => ?_)
      refine z_aload_n 61 dX11_readTwo_61 rfl ?_
      refine z_iconst 62 dX11_readTwo_62 zci_0 ?_
      refine z_bipush 63 dX11_readTwo_63 zbp_50 ?_
      refine z_cI (zat_V2 65 dX11_readTwo_65 lk_X11_132 zy_76 rfl rfl ⟨Nat.le_of_ble_eq_true rfl, Nat.le_of_ble_eq_true rfl⟩ (Nat.le_of_ble_eq_true rfl)) (tX11_number E (0 : Int32) (50 : Int32) M10) (fun x12 M11 => ?_)
      refine z_istore_n 68 (L' := [some (.ref 76), some (.int x2), some (.int x5), some (.int x12)]) dX11_readTwo_68 (by decide) rfl ?_
      refine z_aload_n 69 dX11_readTwo_69 rfl ?_
      refine z_getI 70 dX11_readTwo_70 fl_X11_89 zy_76 rfl ?_
      refine z_ifne 73 90 dX11_readTwo_73 (by decide) (fun _ => ?_) (fun _ => ?_)
      · refine z_aload_n 76 dX11_readTwo_76 rfl ?_
        refine z_getR 77 (r := 83) dX11_readTwo_77 fl_X11_28 zy_76 rfl ?_
        refine z_bipush 80 dX11_readTwo_80 zbp_8 ?_
        refine z_iload_n 82 dX11_readTwo_82 rfl ?_
        refine z_imul 83 dX11_readTwo_83 ?_
        refine z_iload_n 84 dX11_readTwo_84 rfl ?_
        refine z_iadd 85 dX11_readTwo_85 ?_
        refine z_iload_n 86 dX11_readTwo_86 rfl ?_
        refine z_iconst 87 dX11_readTwo_87 zci_1 ?_
        refine z_iadd 88 dX11_readTwo_88 ?_
        refine z_iastore 89 dX11_readTwo_89 zy_83 ?_
        refine zk_nmM (fun M13 => ?_)
        exact z_return 90 dX11_readTwo_90 rfl (fun h => h)
      · exact z_return 90 dX11_readTwo_90 rfl (fun h => h)
    · refine z_ifne 35 57 dX11_readTwo_35 (by decide) (fun _ => ?_) (fun _ => ?_)
      · refine z_aload_n 38 dX11_readTwo_38 rfl ?_
        refine z_getR 39 (r := 83) dX11_readTwo_39 fl_X11_28 zy_76 rfl ?_
        refine z_bipush 42 dX11_readTwo_42 zbp_8 ?_
        refine z_iload_n 44 dX11_readTwo_44 rfl ?_
        refine z_imul 45 dX11_readTwo_45 ?_
        refine z_iload_n 46 dX11_readTwo_46 rfl ?_
        refine z_iadd 47 dX11_readTwo_47 ?_
        refine z_iaload 48 dX11_readTwo_48 zy_83 ?_
        refine z_ifle 49 57 dX11_readTwo_49 (by decide) (fun _ => ?_) (fun _ => ?_)
        · exact zk_exitw (L' := [some (.ref 76), some (.int x2), some (.int x5), none]) (zLe_s (zLe_s (zLe_s (zLe_n zLe_nl)))) (fun h => h)
        · refine z_aload_n 52 dX11_readTwo_52 rfl ?_
          refine z_iconst 53 dX11_readTwo_53 zci_4 ?_
          refine z_cV (zat_V1 54 dX11_readTwo_54 lk_X11_119 zy_76 rfl rfl ⟨Nat.le_of_ble_eq_true rfl, Nat.le_of_ble_eq_true rfl⟩ (Nat.le_of_ble_eq_true rfl)) (tX11_fails E (4 : Int32) M7) (fun M14 => ?_)
          exact zk_exitw (L' := [some (.ref 76), some (.int x2), some (.int x5), none]) (zLe_s (zLe_s (zLe_s (zLe_n zLe_nl)))) (fun h => h)
      · exact zk_exitw (L' := [some (.ref 76), some (.int x2), some (.int x5), none]) (zLe_s (zLe_s (zLe_s (zLe_n zLe_nl)))) (fun h => h)
  · refine z_ifne 18 31 dX11_readTwo_18 (by decide) (fun _ => ?_) (fun _ => ?_)
    · refine z_iload_n 21 dX11_readTwo_21 rfl ?_
      refine z_iload_n 22 dX11_readTwo_22 rfl ?_
      refine z_icne 23 31 dX11_readTwo_23 (by decide) (fun _ => ?_) (fun _ => ?_)
      · refine z_aload_n 26 dX11_readTwo_26 rfl ?_
        refine z_iconst 27 dX11_readTwo_27 zci_3 ?_
        refine z_cV (zat_V1 28 dX11_readTwo_28 lk_X11_119 zy_76 rfl rfl ⟨Nat.le_of_ble_eq_true rfl, Nat.le_of_ble_eq_true rfl⟩ (Nat.le_of_ble_eq_true rfl)) (tX11_fails E (3 : Int32) M4) (fun M15 => ?_)
        exact zk_exitw (L' := [some (.ref 76), some (.int x2), some (.int x5), none]) (zLe_s (zLe_s (zLe_s (zLe_n zLe_nl)))) (fun h => h)
      · exact zk_exitw (L' := [some (.ref 76), some (.int x2), some (.int x5), none]) (zLe_s (zLe_s (zLe_s (zLe_n zLe_nl)))) (fun h => h)
    · exact zk_exitw (L' := [some (.ref 76), some (.int x2), some (.int x5), none]) (zLe_s (zLe_s (zLe_s (zLe_n zLe_nl)))) (fun h => h)
def fX11_readItem (M : zM) : Option zM :=
  sq (α := Int32) (if (M.1 76 7) = (1 : Int32) then (sq (fX11_itemName M) (fun (x67 : Int32) => some x67)) else (some (-4 : Int32))) (fun (x2 : Int32) => if x2 = (-4 : Int32) then (sq (fX11_fails (2 : Int32) M) (fun (M3 : zM) => some M3)) else (lt (if x2 ≤ (7 : Int32) then (x2) else ((7 : Int32))) (fun (x4 : Int32) => sq (α := zM) (if x2 = (1 : Int32) then (some M) else (sq (α := zM) (if (((M.1 76 15) >>> (x4 &&& 31)) &&& (1 : Int32)) = (1 : Int32) then (sq (fX11_fails (4 : Int32) M) (fun (M65 : zM) => some M65)) else (some M)) (fun (M63 : zM) => lt (zwI M63 76 15 ((M63.1 76 15) ||| ((1 : Int32) <<< (x4 &&& 31)))) (fun (M64 : zM) => some M64)))) (fun (M9 : zM) => sq (fX11_next M9) (fun (M10 : zM) => sq (α := zM) (if x2 = 0 then (bi (fX11_number (0 : Int32) (500 : Int32) M10) (fun (x40 : Int32) (M39 : zM) => grd (zix (0 : Int32) 10) (lt (zwI M39 82 (zn (0 : Int32)) x40) (fun (M41 : zM) => grd (zix (0 : Int32) 10) (bi (fX11_number (M41.1 82 (zn (0 : Int32))) (500 : Int32) M41) (fun (x43 : Int32) (M42 : zM) => grd (zix (1 : Int32) 10) (lt (zwI M42 82 (zn (1 : Int32)) x43) (fun (M44 : zM) => grd (zix (0 : Int32) 10) (grd (zix (1 : Int32) 10) (bi (fX11_number (M44.1 82 (zn (0 : Int32))) (M44.1 82 (zn (1 : Int32))) M44) (fun (x46 : Int32) (M45 : zM) => grd (zix (2 : Int32) 10) (lt (zwI M45 82 (zn (2 : Int32)) x46) (fun (M47 : zM) => bi (fX11_number (0 : Int32) (9 : Int32) M47) (fun (x49 : Int32) (M48 : zM) => grd (zix (3 : Int32) 10) (lt (zwI M48 82 (zn (3 : Int32)) x49) (fun (M50 : zM) => some M50)))))))))))))))) else (if x2 = (1 : Int32) then (sq (fX11_readTwo M10) (fun (M51 : zM) => some M51)) else (if (7 : Int32) ≤ x2 then (bi (fX11_number (0 : Int32) (99 : Int32) M10) (fun (x53 : Int32) (M52 : zM) => lt (if x2 = (7 : Int32) then (x53) else ((-x53))) (fun (x54 : Int32) => grd (zix (9 : Int32) 10) (lt (zwI M52 82 (zn (9 : Int32)) x54) (fun (M55 : zM) => some M55))))) else (lt (if (5 : Int32) ≤ x2 then ((99 : Int32)) else ((50 : Int32))) (fun (x57 : Int32) => bi (fX11_number (0 : Int32) x57 M10) (fun (x59 : Int32) (M58 : zM) => grd (zix (x2 + (2 : Int32)) 10) (lt (zwI M58 82 (zn (x2 + (2 : Int32))) x59) (fun (M60 : zM) => some M60)))))))) (fun (M34 : zM) => sq (α := zM) (if (M34.1 76 3) = 0 then (if (M34.1 76 7) = (3 : Int32) then (some M34) else (sq (fX11_fails (2 : Int32) M34) (fun (M38 : zM) => some M38))) else (some M34)) (fun (M36 : zM) => sq (fX11_next M36) (fun (M37 : zM) => some M37))))))))
set_option maxHeartbeats 4000000 in
set_option maxRecDepth 100000 in
theorem tX11_readItem (E : zE)  (M : zM) : zFV E mX11_readItem [.ref 76] zY0 M (fX11_readItem M) := by
  refine zF_of (L := [some (.ref 76), none, none, none]) plX11 (Nat.le_of_ble_eq_true rfl) rfl (fun post => ?_)
  unfold fX11_readItem
  refine z_aload_n 0 dX11_readItem_0 rfl ?_
  refine z_getI 1 dX11_readItem_1 fl_X11_108 zy_76 rfl ?_
  refine z_iconst 4 dX11_readItem_4 zci_1 ?_
  refine zk_sqj (α := Int32) 17 (fun (x2 : Int32) => [some (.ref 76), none, none, none]) (fun (x2 : Int32) => [.int x2]) (fun (x2 : Int32) => (zY0, M)) ?_ ?_
  · intro x2
    refine z_istore_n 17 (L' := [some (.ref 76), some (.int x2), none, none]) dX11_readItem_17 (by decide) rfl ?_
    refine z_iload_n 18 dX11_readItem_18 rfl ?_
    refine z_bipush 19 dX11_readItem_19 zbp_m4 ?_
    refine z_icne 21 30 dX11_readItem_21 (by decide) (fun _ => ?_) (fun _ => ?_)
    · refine z_aload_n 24 dX11_readItem_24 rfl ?_
      refine z_iconst 25 dX11_readItem_25 zci_2 ?_
      refine z_cV (zat_V1 26 dX11_readItem_26 lk_X11_119 zy_76 rfl rfl ⟨Nat.le_of_ble_eq_true rfl, Nat.le_of_ble_eq_true rfl⟩ (Nat.le_of_ble_eq_true rfl)) (tX11_fails E (2 : Int32) M) (fun M3 => ?_)
      exact z_return 29 dX11_readItem_29 rfl (fun h => h)
    · refine z_iload_n 30 dX11_readItem_30 rfl ?_
      refine z_bipush 31 dX11_readItem_31 zbp_7 ?_
      refine zk_ltj (α := Int32) 42 (fun (x4 : Int32) => [some (.ref 76), some (.int x2), none, none]) (fun (x4 : Int32) => [.int x4]) (fun (x4 : Int32) => (zY0, M)) ?_ ?_
      · intro x4
        refine z_istore_n 42 (L' := [some (.ref 76), some (.int x2), some (.int x4), none]) dX11_readItem_42 (by decide) rfl ?_
        refine z_iload_n 43 dX11_readItem_43 rfl ?_
        refine z_iconst 44 dX11_readItem_44 zci_1 ?_
        refine zk_sqj (α := zM) 77 (fun (M9 : zM) => [some (.ref 76), some (.int x2), none, none]) (fun (M9 : zM) => []) (fun (M9 : zM) => (zY0, M9)) ?_ ?_
        · intro M9
          refine z_aload_n 77 dX11_readItem_77 rfl ?_
          refine z_cV (zat_V0 78 dX11_readItem_78 lk_X11_123 zy_76 rfl rfl ⟨Nat.le_of_ble_eq_true rfl, Nat.le_of_ble_eq_true rfl⟩ (Nat.le_of_ble_eq_true rfl)) (tX11_next E M9) (fun M10 => ?_)
          refine z_iload_n 81 dX11_readItem_81 rfl ?_
          refine zk_sqj (α := zM) 229 (fun (M34 : zM) => [some (.ref 76), none, none, none]) (fun (M34 : zM) => []) (fun (M34 : zM) => (zY0, M34)) ?_ ?_
          · intro M34
            refine z_aload_n 229 dX11_readItem_229 rfl ?_
            refine z_getI 230 dX11_readItem_230 fl_X11_89 zy_76 rfl ?_
            refine zk_sqj (α := zM) 249 (fun (M36 : zM) => [some (.ref 76), none, none, none]) (fun (M36 : zM) => []) (fun (M36 : zM) => (zY0, M36)) ?_ ?_
            · intro M36
              refine z_aload_n 249 dX11_readItem_249 rfl ?_
              refine z_cV (zat_V0 250 dX11_readItem_250 lk_X11_123 zy_76 rfl rfl ⟨Nat.le_of_ble_eq_true rfl, Nat.le_of_ble_eq_true rfl⟩ (Nat.le_of_ble_eq_true rfl)) (tX11_next E M36) (fun M37 => ?_)
              exact z_return 253 dX11_readItem_253 rfl (fun h => h)
            · refine z_ifne 233 249 dX11_readItem_233 (by decide) (fun _ => ?_) (fun _ => ?_)
              · refine z_aload_n 236 dX11_readItem_236 rfl ?_
                refine z_getI 237 dX11_readItem_237 fl_X11_108 zy_76 rfl ?_
                refine z_iconst 240 dX11_readItem_240 zci_3 ?_
                refine z_iceq 241 249 dX11_readItem_241 (by decide) (fun _ => ?_) (fun _ => ?_)
                · exact zk_exitw (L' := [some (.ref 76), none, none, none]) (zLe_s (zLe_n (zLe_n (zLe_n zLe_nl)))) (fun h => h)
                · refine z_aload_n 244 dX11_readItem_244 rfl ?_
                  refine z_iconst 245 dX11_readItem_245 zci_2 ?_
                  refine z_cV (zat_V1 246 dX11_readItem_246 lk_X11_119 zy_76 rfl rfl ⟨Nat.le_of_ble_eq_true rfl, Nat.le_of_ble_eq_true rfl⟩ (Nat.le_of_ble_eq_true rfl)) (tX11_fails E (2 : Int32) M34) (fun M38 => ?_)
                  exact zk_exitw (L' := [some (.ref 76), none, none, none]) (zLe_s (zLe_n (zLe_n (zLe_n zLe_nl)))) (fun h => h)
              · exact zk_exitw (L' := [some (.ref 76), none, none, none]) (zLe_s (zLe_n (zLe_n (zLe_n zLe_nl)))) (fun h => h)
          · refine z_ifne 82 156 dX11_readItem_82 (by decide) (fun _ => ?_) (fun _ => ?_)
            · refine z_aload_n 85 dX11_readItem_85 rfl ?_
              refine z_getR 86 (r := 82) dX11_readItem_86 fl_X11_25 zy_76 rfl ?_
              refine z_iconst 89 dX11_readItem_89 zci_0 ?_
              refine z_aload_n 90 dX11_readItem_90 rfl ?_
              refine z_iconst 91 dX11_readItem_91 zci_0 ?_
              refine z_sipush 92 dX11_readItem_92 zsp_500 ?_
              refine z_cI (zat_V2 95 dX11_readItem_95 lk_X11_132 zy_76 rfl rfl ⟨Nat.le_of_ble_eq_true rfl, Nat.le_of_ble_eq_true rfl⟩ (Nat.le_of_ble_eq_true rfl)) (tX11_number E (0 : Int32) (500 : Int32) M10) (fun x40 M39 => ?_)
              refine z_iastore 98 dX11_readItem_98 zy_82 ?_
              refine zk_nmM (fun M41 => ?_)
              refine z_aload_n 99 dX11_readItem_99 rfl ?_
              refine z_getR 100 (r := 82) dX11_readItem_100 fl_X11_25 zy_76 rfl ?_
              refine z_iconst 103 dX11_readItem_103 zci_1 ?_
              refine z_aload_n 104 dX11_readItem_104 rfl ?_
              refine z_aload_n 105 dX11_readItem_105 rfl ?_
              refine z_getR 106 (r := 82) dX11_readItem_106 fl_X11_25 zy_76 rfl ?_
              refine z_iconst 109 dX11_readItem_109 zci_0 ?_
              refine z_iaload 110 dX11_readItem_110 zy_82 ?_
              refine z_sipush 111 dX11_readItem_111 zsp_500 ?_
              refine z_cI (zat_V2 114 dX11_readItem_114 lk_X11_132 zy_76 rfl rfl ⟨Nat.le_of_ble_eq_true rfl, Nat.le_of_ble_eq_true rfl⟩ (Nat.le_of_ble_eq_true rfl)) (tX11_number E (M41.1 82 (zn (0 : Int32))) (500 : Int32) M41) (fun x43 M42 => ?_)
              refine z_iastore 117 dX11_readItem_117 zy_82 ?_
              refine zk_nmM (fun M44 => ?_)
              refine z_aload_n 118 dX11_readItem_118 rfl ?_
              refine z_getR 119 (r := 82) dX11_readItem_119 fl_X11_25 zy_76 rfl ?_
              refine z_iconst 122 dX11_readItem_122 zci_2 ?_
              refine z_aload_n 123 dX11_readItem_123 rfl ?_
              refine z_aload_n 124 dX11_readItem_124 rfl ?_
              refine z_getR 125 (r := 82) dX11_readItem_125 fl_X11_25 zy_76 rfl ?_
              refine z_iconst 128 dX11_readItem_128 zci_0 ?_
              refine z_iaload 129 dX11_readItem_129 zy_82 ?_
              refine z_aload_n 130 dX11_readItem_130 rfl ?_
              refine z_getR 131 (r := 82) dX11_readItem_131 fl_X11_25 zy_76 rfl ?_
              refine z_iconst 134 dX11_readItem_134 zci_1 ?_
              refine z_iaload 135 dX11_readItem_135 zy_82 ?_
              refine z_cI (zat_V2 136 dX11_readItem_136 lk_X11_132 zy_76 rfl rfl ⟨Nat.le_of_ble_eq_true rfl, Nat.le_of_ble_eq_true rfl⟩ (Nat.le_of_ble_eq_true rfl)) (tX11_number E (M44.1 82 (zn (0 : Int32))) (M44.1 82 (zn (1 : Int32))) M44) (fun x46 M45 => ?_)
              refine z_iastore 139 dX11_readItem_139 zy_82 ?_
              refine zk_nmM (fun M47 => ?_)
              refine z_aload_n 140 dX11_readItem_140 rfl ?_
              refine z_getR 141 (r := 82) dX11_readItem_141 fl_X11_25 zy_76 rfl ?_
              refine z_iconst 144 dX11_readItem_144 zci_3 ?_
              refine z_aload_n 145 dX11_readItem_145 rfl ?_
              refine z_iconst 146 dX11_readItem_146 zci_0 ?_
              refine z_bipush 147 dX11_readItem_147 zbp_9 ?_
              refine z_cI (zat_V2 149 dX11_readItem_149 lk_X11_132 zy_76 rfl rfl ⟨Nat.le_of_ble_eq_true rfl, Nat.le_of_ble_eq_true rfl⟩ (Nat.le_of_ble_eq_true rfl)) (tX11_number E (0 : Int32) (9 : Int32) M47) (fun x49 M48 => ?_)
              refine z_iastore 152 dX11_readItem_152 zy_82 ?_
              refine zk_nmM (fun M50 => ?_)
              refine z_goto 153 229 dX11_readItem_153 (by decide) ?_
              exact zk_exitw (L' := [some (.ref 76), none, none, none]) (zLe_s (zLe_n (zLe_n (zLe_n zLe_nl)))) (fun h => h)
            · refine z_iload_n 156 dX11_readItem_156 rfl ?_
              refine z_iconst 157 dX11_readItem_157 zci_1 ?_
              refine z_icne 158 168 dX11_readItem_158 (by decide) (fun _ => ?_) (fun _ => ?_)
              · refine z_aload_n 161 dX11_readItem_161 rfl ?_
                refine z_cV (zat_V0 162 dX11_readItem_162 lk_X11_142 zy_76 rfl rfl ⟨Nat.le_of_ble_eq_true rfl, Nat.le_of_ble_eq_true rfl⟩ (Nat.le_of_ble_eq_true rfl)) (tX11_readTwo E M10) (fun M51 => ?_)
                refine z_goto 165 229 dX11_readItem_165 (by decide) ?_
                exact zk_exitw (L' := [some (.ref 76), none, none, none]) (zLe_s (zLe_n (zLe_n (zLe_n zLe_nl)))) (fun h => h)
              · refine z_iload_n 168 dX11_readItem_168 rfl ?_
                refine z_bipush 169 dX11_readItem_169 zbp_7 ?_
                refine z_icge 171 202 dX11_readItem_171 (by decide) (fun _ => ?_) (fun _ => ?_)
                · refine z_aload_n 202 dX11_readItem_202 rfl ?_
                  refine z_iconst 203 dX11_readItem_203 zci_0 ?_
                  refine z_bipush 204 dX11_readItem_204 zbp_99 ?_
                  refine z_cI (zat_V2 206 dX11_readItem_206 lk_X11_132 zy_76 rfl rfl ⟨Nat.le_of_ble_eq_true rfl, Nat.le_of_ble_eq_true rfl⟩ (Nat.le_of_ble_eq_true rfl)) (tX11_number E (0 : Int32) (99 : Int32) M10) (fun x53 M52 => ?_)
                  refine z_istore_n 209 (L' := [some (.ref 76), some (.int x2), none, some (.int x53)]) dX11_readItem_209 (by decide) rfl ?_
                  refine z_aload_n 210 dX11_readItem_210 rfl ?_
                  refine z_getR 211 (r := 82) dX11_readItem_211 fl_X11_25 zy_76 rfl ?_
                  refine z_bipush 214 dX11_readItem_214 zbp_9 ?_
                  refine z_iload_n 216 dX11_readItem_216 rfl ?_
                  refine z_bipush 217 dX11_readItem_217 zbp_7 ?_
                  refine zk_ltj (α := Int32) 228 (fun (x54 : Int32) => [some (.ref 76), none, none, none]) (fun (x54 : Int32) => [.int x54, .int (9 : Int32), .ref 82]) (fun (x54 : Int32) => (zY0, M52)) ?_ ?_
                  · intro x54
                    refine z_iastore 228 dX11_readItem_228 zy_82 ?_
                    refine zk_nmM (fun M55 => ?_)
                    exact zk_exitw (L' := [some (.ref 76), none, none, none]) (zLe_s (zLe_n (zLe_n (zLe_n zLe_nl)))) (fun h => h)
                  · intro k56 hk56
                    refine z_icnev 219 226 dX11_readItem_219 (by decide) ?_ ?_
                    · refine z_iload_n 222 dX11_readItem_222 rfl ?_
                      refine z_goto 223 228 dX11_readItem_223 (by decide) ?_
                      exact zk_weak (L' := [some (.ref 76), none, none, none]) (zLe_s (zLe_n (zLe_n (zLe_n zLe_nl)))) (hk56 x53)
                    · refine z_iload_n 226 dX11_readItem_226 rfl ?_
                      refine z_ineg 227 dX11_readItem_227 ?_
                      exact zk_weak (L' := [some (.ref 76), none, none, none]) (zLe_s (zLe_n (zLe_n (zLe_n zLe_nl)))) (hk56 (-x53))
                · refine z_aload_n 174 dX11_readItem_174 rfl ?_
                  refine z_getR 175 (r := 82) dX11_readItem_175 fl_X11_25 zy_76 rfl ?_
                  refine z_iload_n 178 dX11_readItem_178 rfl ?_
                  refine z_iconst 179 dX11_readItem_179 zci_2 ?_
                  refine z_iadd 180 dX11_readItem_180 ?_
                  refine z_aload_n 181 dX11_readItem_181 rfl ?_
                  refine z_iconst 182 dX11_readItem_182 zci_0 ?_
                  refine z_iload_n 183 dX11_readItem_183 rfl ?_
                  refine z_iconst 184 dX11_readItem_184 zci_5 ?_
                  refine zk_ltj (α := Int32) 195 (fun (x57 : Int32) => [some (.ref 76), none, none, none]) (fun (x57 : Int32) => [.int x57, .int (0 : Int32), .ref 76, .int (x2 + (2 : Int32)), .ref 82]) (fun (x57 : Int32) => (zY0, M10)) ?_ ?_
                  · intro x57
                    refine z_cI (zat_V2 195 dX11_readItem_195 lk_X11_132 zy_76 rfl rfl ⟨Nat.le_of_ble_eq_true rfl, Nat.le_of_ble_eq_true rfl⟩ (Nat.le_of_ble_eq_true rfl)) (tX11_number E (0 : Int32) x57 M10) (fun x59 M58 => ?_)
                    refine z_iastore 198 dX11_readItem_198 zy_82 ?_
                    refine zk_nmM (fun M60 => ?_)
                    refine z_goto 199 229 dX11_readItem_199 (by decide) ?_
                    exact zk_exitw (L' := [some (.ref 76), none, none, none]) (zLe_s (zLe_n (zLe_n (zLe_n zLe_nl)))) (fun h => h)
                  · intro k61 hk61
                    refine z_icgev 185 193 dX11_readItem_185 (by decide) ?_ ?_
                    · refine z_bipush 193 dX11_readItem_193 zbp_99 ?_
                      exact zk_weak (L' := [some (.ref 76), none, none, none]) (zLe_s (zLe_n (zLe_n (zLe_n zLe_nl)))) (hk61 (99 : Int32))
                    · refine z_bipush 188 dX11_readItem_188 zbp_50 ?_
                      refine z_goto 190 195 dX11_readItem_190 (by decide) ?_
                      exact zk_weak (L' := [some (.ref 76), none, none, none]) (zLe_s (zLe_n (zLe_n (zLe_n zLe_nl)))) (hk61 (50 : Int32))
        · refine z_iceq 45 77 dX11_readItem_45 (by decide) (fun _ => ?_) (fun _ => ?_)
          · exact zk_exitw (L' := [some (.ref 76), some (.int x2), none, none]) (zLe_s (zLe_s (zLe_n (zLe_n zLe_nl)))) (fun h => h)
          · refine z_aload_n 48 dX11_readItem_48 rfl ?_
            refine z_getI 49 dX11_readItem_49 fl_X11_139 zy_76 rfl ?_
            refine z_iload_n 52 dX11_readItem_52 rfl ?_
            refine z_ishr 53 dX11_readItem_53 ?_
            refine z_iconst 54 dX11_readItem_54 zci_1 ?_
            refine z_iand 55 dX11_readItem_55 ?_
            refine z_iconst 56 dX11_readItem_56 zci_1 ?_
            refine zk_sqj (α := zM) 65 (fun (M63 : zM) => [some (.ref 76), some (.int x2), some (.int x4), none]) (fun (M63 : zM) => []) (fun (M63 : zM) => (zY0, M63)) ?_ ?_
            · intro M63
              refine z_aload_n 65 dX11_readItem_65 rfl ?_
              refine z_dup 66 dX11_readItem_66 rfl ?_
              refine z_getI 67 dX11_readItem_67 fl_X11_139 zy_76 rfl ?_
              refine z_iconst 70 dX11_readItem_70 zci_1 ?_
              refine z_iload_n 71 dX11_readItem_71 rfl ?_
              refine z_ishl 72 dX11_readItem_72 ?_
              refine z_ior 73 dX11_readItem_73 ?_
              refine z_put 74 dX11_readItem_74 fp_X11_139 zy_76 rfl (zput_i _) ?_
              refine zk_nmM (fun M64 => ?_)
              exact zk_exitw (L' := [some (.ref 76), some (.int x2), none, none]) (zLe_s (zLe_s (zLe_n (zLe_n zLe_nl)))) (fun h => h)
            · refine z_icne 57 65 dX11_readItem_57 (by decide) (fun _ => ?_) (fun _ => ?_)
              · refine z_aload_n 60 dX11_readItem_60 rfl ?_
                refine z_iconst 61 dX11_readItem_61 zci_4 ?_
                refine z_cV (zat_V1 62 dX11_readItem_62 lk_X11_119 zy_76 rfl rfl ⟨Nat.le_of_ble_eq_true rfl, Nat.le_of_ble_eq_true rfl⟩ (Nat.le_of_ble_eq_true rfl)) (tX11_fails E (4 : Int32) M) (fun M65 => ?_)
                exact zk_exitw (L' := [some (.ref 76), some (.int x2), some (.int x4), none]) (zLe_s (zLe_s (zLe_s (zLe_n zLe_nl)))) (fun h => h)
              · exact zk_exitw (L' := [some (.ref 76), some (.int x2), some (.int x4), none]) (zLe_s (zLe_s (zLe_s (zLe_n zLe_nl)))) (fun h => h)
      · intro k66 hk66
        refine z_iclev 33 41 dX11_readItem_33 (by decide) ?_ ?_
        · refine z_iload_n 41 dX11_readItem_41 rfl ?_
          exact zk_weak (L' := [some (.ref 76), some (.int x2), none, none]) (zLe_s (zLe_s (zLe_n (zLe_n zLe_nl)))) (hk66 x2)
        · refine z_bipush 36 dX11_readItem_36 zbp_7 ?_
          refine z_goto 38 42 dX11_readItem_38 (by decide) ?_
          exact zk_weak (L' := [some (.ref 76), some (.int x2), none, none]) (zLe_s (zLe_s (zLe_n (zLe_n zLe_nl)))) (hk66 (7 : Int32))
  · refine z_icne 5 15 dX11_readItem_5 (by decide) (fun _ => ?_) (fun _ => ?_)
    · refine z_aload_n 8 dX11_readItem_8 rfl ?_
      refine z_ci (zat_V0 9 dX11_readItem_9 lk_X11_136 zy_76 rfl rfl ⟨Nat.le_of_ble_eq_true rfl, Nat.le_of_ble_eq_true rfl⟩ (Nat.le_of_ble_eq_true rfl)) (tX11_itemName E M) (fun x67 => ?_)
      refine z_goto 12 17 dX11_readItem_12 (by decide) ?_
      exact zk_exitw (L' := [some (.ref 76), none, none, none]) (zLe_s (zLe_n (zLe_n (zLe_n zLe_nl)))) (fun h => h)
    · refine z_bipush 15 dX11_readItem_15 zbp_m4 ?_
      exact zk_exitw (L' := [some (.ref 76), none, none, none]) (zLe_s (zLe_n (zLe_n (zLe_n zLe_nl)))) (fun h => h)
