def fX7_tookBy (a0 : Nat) (p1 : Int32) (p2 : Int32) (p3 : Int32) (M : zM) : Option Int32 :=
  grd (zix p2 10) (grd (zix p1 10) (some (((M.1 (a0 + 6) (zn p2)) - (M.1 (a0 + 2) (zn p1))) - p3)))
set_option maxHeartbeats 4000000 in
set_option maxRecDepth 100000 in
theorem tX7_tookBy (E : zE) (Y : zY) (a0 : Nat) (ha0 : zsX7 Y a0) (p1 : Int32) (p2 : Int32) (p3 : Int32) (M : zM) : zFi E mX7_tookBy [.ref a0, .int p1, .int p2, .int p3] Y M (fX7_tookBy a0 p1 p2 p3 M) := by
  refine zF_of (L := [some (.ref a0), some (.int p1), some (.int p2), some (.int p3)]) plX7 (Nat.le_of_ble_eq_true rfl) rfl (fun post => ?_)
  unfold fX7_tookBy
  refine z_aload_n 0 dX7_tookBy_0 rfl ?_
  refine z_getR 1 (r := (a0 + 5)) dX7_tookBy_1 fl_X7_18 ha0.1 rfl ?_
  refine z_getR 4 (r := (a0 + 6)) dX7_tookBy_4 fl_X7_51 ha0.2.2.1.1 rfl ?_
  refine z_iload_n 7 dX7_tookBy_7 rfl ?_
  refine z_iaload 8 dX7_tookBy_8 ha0.2.2.1.2.1 ?_
  refine z_aload_n 9 dX7_tookBy_9 rfl ?_
  refine z_getR 10 (r := (a0 + 1)) dX7_tookBy_10 fl_X7_12 ha0.1 rfl ?_
  refine z_getR 13 (r := (a0 + 2)) dX7_tookBy_13 fl_X7_51 ha0.2.1.1 rfl ?_
  refine z_iload_n 16 dX7_tookBy_16 rfl ?_
  refine z_iaload 17 dX7_tookBy_17 ha0.2.1.2.1 ?_
  refine z_isub 18 dX7_tookBy_18 ?_
  refine z_iload_n 19 dX7_tookBy_19 rfl ?_
  refine z_isub 20 dX7_tookBy_20 ?_
  exact z_ireturn 21 dX7_tookBy_21 rfl rfl (fun h => h)
def fX5_costBy (a1 : Nat) (p2 : Int32) (p3 : Int32) (M : zM) : Option Int32 :=
  if p2 = (-4 : Int32) then (some (-4 : Int32)) else (grd (zix (0 : Int32) 10) (grd (zix (1 : Int32) 10) (lt (fX10_within p3 (M.1 a1 (zn (0 : Int32))) (M.1 a1 (zn (1 : Int32)))) (fun (b1 : Bool) => if b1 = false then (some (-4 : Int32)) else (grd (zix (2 : Int32) 10) (grd (zix (3 : Int32) 10) (some (p2 + ((zab (p3 - (M.1 a1 (zn (2 : Int32))))) * (M.1 a1 (zn (3 : Int32))))))))))))
set_option maxHeartbeats 4000000 in
set_option maxRecDepth 100000 in
theorem tX5_costBy (E : zE) (Y : zY) (a1 : Nat) (ha1 : Y[a1]? = some (.inr (0, 10, []))) (p2 : Int32) (p3 : Int32) (M : zM) : zFi E mX5_costBy [.ref a1, .int p2, .int p3] Y M (fX5_costBy a1 p2 p3 M) := by
  refine zF_of (L := [some (.ref a1), some (.int p2), some (.int p3)]) plX5 (Nat.le_of_ble_eq_true rfl) rfl (fun post => ?_)
  unfold fX5_costBy
  refine z_iload_n 0 dX5_costBy_0 rfl ?_
  refine z_bipush 1 dX5_costBy_1 zbp_m4 ?_
  refine z_iceq 3 19 dX5_costBy_3 (by decide) (fun _ => ?_) (fun _ => ?_)
  · refine z_bipush 19 dX5_costBy_19 zbp_m4 ?_
    exact z_ireturn 21 dX5_costBy_21 rfl rfl (fun h => h)
  · refine z_iload_n 6 dX5_costBy_6 rfl ?_
    refine z_aload_n 7 dX5_costBy_7 rfl ?_
    refine z_iconst 8 dX5_costBy_8 zci_0 ?_
    refine z_iaload 9 dX5_costBy_9 ha1 ?_
    refine z_aload_n 10 dX5_costBy_10 rfl ?_
    refine z_iconst 11 dX5_costBy_11 zci_1 ?_
    refine z_iaload 12 dX5_costBy_12 ha1 ?_
    refine z_ctb (zat_N3 13 dX5_costBy_13 lk_X5_66 ⟨Nat.le_of_ble_eq_true rfl, Nat.le_of_ble_eq_true rfl⟩ (Nat.le_of_ble_eq_true rfl)) (tX10_within E Y p3 (M.1 a1 (zn (0 : Int32))) (M.1 a1 (zn (1 : Int32))) M) (fun b1 => ?_)
    refine z_ifneb 16 22 dX5_costBy_16 (by decide) (fun _ => ?_) (fun _ => ?_)
    · refine z_bipush 19 dX5_costBy_19 zbp_m4 ?_
      exact z_ireturn 21 dX5_costBy_21 rfl rfl (fun h => h)
    · refine z_iload_n 22 dX5_costBy_22 rfl ?_
      refine z_iload_n 23 dX5_costBy_23 rfl ?_
      refine z_aload_n 24 dX5_costBy_24 rfl ?_
      refine z_iconst 25 dX5_costBy_25 zci_2 ?_
      refine z_iaload 26 dX5_costBy_26 ha1 ?_
      refine z_isub 27 dX5_costBy_27 ?_
      refine z_mabs 28 dX5_costBy_28 ml_X5_70 ml_mabs.1 ml_mabs.2.1 ml_mabs.2.2 ⟨Nat.le_of_ble_eq_true rfl, Nat.le_of_ble_eq_true rfl⟩ ?_
      refine z_aload_n 31 dX5_costBy_31 rfl ?_
      refine z_iconst 32 dX5_costBy_32 zci_3 ?_
      refine z_iaload 33 dX5_costBy_33 ha1 ?_
      refine z_imul 34 dX5_costBy_34 ?_
      refine z_iadd 35 dX5_costBy_35 ?_
      exact z_ireturn 36 dX5_costBy_36 rfl rfl (fun h => h)
def fX5_addTimes (a1 : Nat) (p2 : Int32) (M : zM) : Option zM :=
  zlp (α := Int32 × zM) (fun rec28 => (fun (u43 : Int32 × zM) => match u43 with | (x26, M27) => if (M27.1 55 0) ≤ x26 then (some M27) else (sq (α := zM) (zlp (α := Int32 × zM) (β := zM) (fun rec33 => (fun (u41 : Int32 × zM) => match u41 with | (x31, M32) => if (M32.1 55 1) ≤ x31 then (some M32) else (grd (zix ((x26 * (10 : Int32)) + x31) 100) (lt ((M32.1 56 (zn ((x26 * (10 : Int32)) + x31)))) (fun (x37 : Int32) => sq (fX7_tookBy a1 x26 x31 p2 M32) (fun (x38 : Int32) => sq (fX5_costBy (a1 + 10) x37 x38 M32) (fun (x39 : Int32) => grd (zix ((x26 * (10 : Int32)) + x31) 100) (lt (zwI M32 57 (zn ((x26 * (10 : Int32)) + x31)) x39) (fun (M40 : zM) => rec33 ((x31 + (1 : Int32)), M40)))))))))) zFu ((0 : Int32), M27)) (fun (M36 : zM) => rec28 ((x26 + (1 : Int32)), M36))))) zFu ((0 : Int32), M)
set_option maxHeartbeats 4000000 in
set_option maxRecDepth 100000 in
theorem tX5_addTimes (E : zE) (a1 : Nat) (ha1 : zsX7 zY0 a1) (p2 : Int32) (M : zM) : zFV E mX5_addTimes [.ref 55, .ref a1, .int p2] zY0 M (fX5_addTimes a1 p2 M) := by
  refine zF_of (L := [some (.ref 55), some (.ref a1), some (.int p2), none, none, none, none]) plX5 (Nat.le_of_ble_eq_true rfl) rfl (fun post => ?_)
  unfold fX5_addTimes
  refine z_iconst 0 dX5_addTimes_0 zci_0 ?_
  refine z_istore_n 1 (L' := [some (.ref 55), some (.ref a1), some (.int p2), some (.int (0 : Int32)), none, none, none]) dX5_addTimes_1 (by decide) rfl ?_
  refine zk_weak (L' := [some (.ref 55), some (.ref a1), some (.int p2), some (.int (0 : Int32)), none, none, none]) (zLe_s (zLe_s (zLe_s (zLe_s (zLe_n (zLe_n (zLe_n zLe_nl))))))) (zk_lp (α := Int32 × zM) 2 (fun (u29 : Int32 × zM) => match u29 with | (x26, M27) => [some (.ref 55), some (.ref a1), some (.int p2), some (.int x26), none, none, none]) (fun (u30 : Int32 × zM) => match u30 with | (x26, M27) => (zY0, M27)) ?_ zFu ((0 : Int32), M))
  intro rec28 hrec28
  intro u44
  obtain ⟨x26, M27⟩ := u44
  try dsimp only
  refine z_iload_n 2 dX5_addTimes_2 rfl ?_
  refine z_aload_n 3 dX5_addTimes_3 rfl ?_
  refine z_getI 4 dX5_addTimes_4 fl_X5_30 zy_55 rfl ?_
  refine z_icge 7 84 dX5_addTimes_7 (by decide) (fun _ => ?_) (fun _ => ?_)
  · exact z_return 84 dX5_addTimes_84 rfl (fun h => h)
  · refine z_iconst 10 dX5_addTimes_10 zci_0 ?_
    refine z_istore 11 (L' := [some (.ref 55), some (.ref a1), some (.int p2), some (.int x26), some (.int (0 : Int32)), none, none]) dX5_addTimes_11 (by decide) rfl ?_
    refine zk_sqj (α := zM) 78 (fun (M36 : zM) => [some (.ref 55), some (.ref a1), some (.int p2), some (.int x26), none, none, none]) (fun (M36 : zM) => []) (fun (M36 : zM) => (zY0, M36)) ?_ ?_
    · intro M36
      refine z_iinc 78 (v := (x26 + (1 : Int32))) (L' := [some (.ref 55), some (.ref a1), some (.int p2), some (.int (x26 + (1 : Int32))), none, none, none]) dX5_addTimes_78 rfl (zinc zci_1 _) (by decide) rfl ?_
      refine z_goto 81 2 dX5_addTimes_81 (by decide) ?_
      exact zk_weak (L' := [some (.ref 55), some (.ref a1), some (.int p2), some (.int (x26 + (1 : Int32))), none, none, none]) (zLe_s (zLe_s (zLe_s (zLe_s (zLe_n (zLe_n (zLe_n zLe_nl))))))) (hrec28 ((x26 + (1 : Int32)), M36))
    · refine zk_weak (L' := [some (.ref 55), some (.ref a1), some (.int p2), some (.int x26), some (.int (0 : Int32)), none, none]) (zLe_s (zLe_s (zLe_s (zLe_s (zLe_s (zLe_n (zLe_n zLe_nl))))))) (zk_lp (α := Int32 × zM) 13 (fun (u34 : Int32 × zM) => match u34 with | (x31, M32) => [some (.ref 55), some (.ref a1), some (.int p2), some (.int x26), some (.int x31), none, none]) (fun (u35 : Int32 × zM) => match u35 with | (x31, M32) => (zY0, M32)) ?_ zFu ((0 : Int32), M27))
      intro rec33 hrec33
      intro u42
      obtain ⟨x31, M32⟩ := u42
      try dsimp only
      refine z_iload 13 dX5_addTimes_13 rfl ?_
      refine z_aload_n 15 dX5_addTimes_15 rfl ?_
      refine z_getI 16 dX5_addTimes_16 fl_X5_36 zy_55 rfl ?_
      refine z_icge 19 78 dX5_addTimes_19 (by decide) (fun _ => ?_) (fun _ => ?_)
      · exact zk_exitw (L' := [some (.ref 55), some (.ref a1), some (.int p2), some (.int x26), none, none, none]) (zLe_s (zLe_s (zLe_s (zLe_s (zLe_n (zLe_n (zLe_n zLe_nl))))))) (fun h => h)
      · refine z_aload_n 22 dX5_addTimes_22 rfl ?_
        refine z_getR 23 (r := 56) dX5_addTimes_23 fl_X5_9 zy_55 rfl ?_
        refine z_iload_n 26 dX5_addTimes_26 rfl ?_
        refine z_bipush 27 dX5_addTimes_27 zbp_10 ?_
        refine z_imul 29 dX5_addTimes_29 ?_
        refine z_iload 30 dX5_addTimes_30 rfl ?_
        refine z_iadd 32 dX5_addTimes_32 ?_
        refine z_iaload 33 dX5_addTimes_33 zy_56 ?_
        refine zk_nmI (fun x37 => ?_)
        refine z_istore 34 (L' := [some (.ref 55), some (.ref a1), some (.int p2), some (.int x26), some (.int x31), some (.int x37), none]) dX5_addTimes_34 (by decide) rfl ?_
        refine z_aload_n 36 dX5_addTimes_36 rfl ?_
        refine z_iload_n 37 dX5_addTimes_37 rfl ?_
        refine z_iload 38 dX5_addTimes_38 rfl ?_
        refine z_iload_n 40 dX5_addTimes_40 rfl ?_
        refine z_ci (zat_V3 41 dX5_addTimes_41 lk_X5_58 ha1.1 rfl rfl ⟨Nat.le_of_ble_eq_true rfl, Nat.le_of_ble_eq_true rfl⟩ (Nat.le_of_ble_eq_true rfl)) (tX7_tookBy E zY0 a1 ha1 x26 x31 p2 M32) (fun x38 => ?_)
        refine z_istore 44 (L' := [some (.ref 55), some (.ref a1), some (.int p2), some (.int x26), some (.int x31), some (.int x37), some (.int x38)]) dX5_addTimes_44 (by decide) rfl ?_
        refine z_aload_n 46 dX5_addTimes_46 rfl ?_
        refine z_getR 47 (r := 57) dX5_addTimes_47 fl_X5_15 zy_55 rfl ?_
        refine z_iload_n 50 dX5_addTimes_50 rfl ?_
        refine z_bipush 51 dX5_addTimes_51 zbp_10 ?_
        refine z_imul 53 dX5_addTimes_53 ?_
        refine z_iload 54 dX5_addTimes_54 rfl ?_
        refine z_iadd 56 dX5_addTimes_56 ?_
        refine z_aload_n 57 dX5_addTimes_57 rfl ?_
        refine z_getR 58 (r := (a1 + 9)) dX5_addTimes_58 fl_X5_39 ha1.1 rfl ?_
        refine z_getR 61 (r := (a1 + 10)) dX5_addTimes_61 fl_X5_43 ha1.2.2.2.1.1 rfl ?_
        refine z_iload 64 dX5_addTimes_64 rfl ?_
        refine z_iload 66 dX5_addTimes_66 rfl ?_
        refine z_ci (zat_S3 68 dX5_addTimes_68 lk_X5_62 ⟨Nat.le_of_ble_eq_true rfl, Nat.le_of_ble_eq_true rfl⟩ (Nat.le_of_ble_eq_true rfl)) (tX5_costBy E zY0 (a1 + 10) ha1.2.2.2.1.2.1 x37 x38 M32) (fun x39 => ?_)
        refine z_iastore 71 dX5_addTimes_71 zy_57 ?_
        refine zk_nmM (fun M40 => ?_)
        refine z_iinc 72 (v := (x31 + (1 : Int32))) (L' := [some (.ref 55), some (.ref a1), some (.int p2), some (.int x26), some (.int (x31 + (1 : Int32))), some (.int x37), some (.int x38)]) dX5_addTimes_72 rfl (zinc zci_1 _) (by decide) rfl ?_
        refine z_goto 75 13 dX5_addTimes_75 (by decide) ?_
        exact zk_weak (L' := [some (.ref 55), some (.ref a1), some (.int p2), some (.int x26), some (.int (x31 + (1 : Int32))), none, none]) (zLe_s (zLe_s (zLe_s (zLe_s (zLe_s (zLe_n (zLe_n zLe_nl))))))) (hrec33 ((x31 + (1 : Int32)), M40))
def fX5_costOf (p1 : Int32) (p2 : Int32) (M : zM) : Option Int32 :=
  grd (zix ((p1 * (10 : Int32)) + p2) 100) (some (M.1 57 (zn ((p1 * (10 : Int32)) + p2))))
set_option maxHeartbeats 4000000 in
set_option maxRecDepth 100000 in
theorem tX5_costOf (E : zE) (p1 : Int32) (p2 : Int32) (M : zM) : zFi E mX5_costOf [.ref 55, .int p1, .int p2] zY0 M (fX5_costOf p1 p2 M) := by
  refine zF_of (L := [some (.ref 55), some (.int p1), some (.int p2)]) plX5 (Nat.le_of_ble_eq_true rfl) rfl (fun post => ?_)
  unfold fX5_costOf
  refine z_aload_n 0 dX5_costOf_0 rfl ?_
  refine z_getR 1 (r := 57) dX5_costOf_1 fl_X5_15 zy_55 rfl ?_
  refine z_iload_n 4 dX5_costOf_4 rfl ?_
  refine z_bipush 5 dX5_costOf_5 zbp_10 ?_
  refine z_imul 7 dX5_costOf_7 ?_
  refine z_iload_n 8 dX5_costOf_8 rfl ?_
  refine z_iadd 9 dX5_costOf_9 ?_
  refine z_iaload 10 dX5_costOf_10 zy_57 ?_
  exact z_ireturn 11 dX5_costOf_11 rfl rfl (fun h => h)
def fX5_mayBeNone (p1 : Int32) (p2 : Int32) (M : zM) : Option Bool :=
  lt (if p1 = 0 then ((M.1 55 1)) else ((M.1 55 0))) (fun (x1 : Int32) => zlp (α := Int32) (fun rec7 => (fun (x6 : Int32) => if x1 ≤ x6 then (some true) else (jn (α := Unit) (fun (_ : Unit) => rec7 (x6 + (1 : Int32))) (fun k10 => if p1 = 0 then (sq (fX5_mayBe p2 x6 M) (fun (b11 : Bool) => if b11 = false then (k10 ()) else (some false))) else (sq (fX5_mayBe x6 p2 M) (fun (b12 : Bool) => if b12 = false then (k10 ()) else (some false))))))) zFu (0 : Int32))
set_option maxHeartbeats 4000000 in
set_option maxRecDepth 100000 in
theorem tX5_mayBeNone (E : zE) (p1 : Int32) (p2 : Int32) (M : zM) : zFb E mX5_mayBeNone [.ref 55, .int p1, .int p2] zY0 M (fX5_mayBeNone p1 p2 M) := by
  refine zF_of (L := [some (.ref 55), some (.int p1), some (.int p2), none, none]) plX5 (Nat.le_of_ble_eq_true rfl) rfl (fun post => ?_)
  unfold fX5_mayBeNone
  refine z_iload_n 0 dX5_mayBeNone_0 rfl ?_
  refine zk_ltj (α := Int32) 15 (fun (x1 : Int32) => [some (.ref 55), some (.int p1), some (.int p2), none, none]) (fun (x1 : Int32) => [.int x1]) (fun (x1 : Int32) => (zY0, M)) ?_ ?_
  · intro x1
    refine z_istore_n 15 (L' := [some (.ref 55), some (.int p1), some (.int p2), some (.int x1), none]) dX5_mayBeNone_15 (by decide) rfl ?_
    refine z_iconst 16 dX5_mayBeNone_16 zci_0 ?_
    refine z_istore 17 (L' := [some (.ref 55), some (.int p1), some (.int p2), some (.int x1), some (.int (0 : Int32))]) dX5_mayBeNone_17 (by decide) rfl ?_
    refine zk_weak (L' := [some (.ref 55), some (.int p1), some (.int p2), some (.int x1), some (.int (0 : Int32))]) (zLe_s (zLe_s (zLe_s (zLe_s (zLe_s zLe_nl))))) (zk_lp (α := Int32) 19 (fun (x6 : Int32) => [some (.ref 55), some (.int p1), some (.int p2), some (.int x1), some (.int x6)]) (fun (x6 : Int32) => (zY0, M)) ?_ zFu (0 : Int32))
    intro rec7 hrec7
    intro x6
    refine z_iload 19 dX5_mayBeNone_19 rfl ?_
    refine z_iload_n 21 dX5_mayBeNone_21 rfl ?_
    refine z_icge 22 60 dX5_mayBeNone_22 (by decide) (fun _ => ?_) (fun _ => ?_)
    · refine z_iconst 60 dX5_mayBeNone_60 zci_1 ?_
      exact z_ireturn 61 (v := zb true) dX5_mayBeNone_61 rfl (zput_b true).1 (fun h => h)
    · refine z_iload_n 25 dX5_mayBeNone_25 rfl ?_
      refine zk_jn (α := Unit) 54 (fun (_ : Unit) => [some (.ref 55), some (.int p1), some (.int p2), some (.int x1), some (.int x6)]) (fun (_ : Unit) => []) (fun (_ : Unit) => (zY0, M)) ?_ ?_
      · intro _
        refine z_iinc 54 (v := (x6 + (1 : Int32))) (L' := [some (.ref 55), some (.int p1), some (.int p2), some (.int x1), some (.int (x6 + (1 : Int32)))]) dX5_mayBeNone_54 rfl (zinc zci_1 _) (by decide) rfl ?_
        refine z_goto 57 19 dX5_mayBeNone_57 (by decide) ?_
        exact zk_weak (L' := [some (.ref 55), some (.int p1), some (.int p2), some (.int x1), some (.int (x6 + (1 : Int32)))]) (zLe_s (zLe_s (zLe_s (zLe_s (zLe_s zLe_nl))))) (hrec7 (x6 + (1 : Int32)))
      · intro k10 hk10
        refine z_ifne 26 42 dX5_mayBeNone_26 (by decide) (fun _ => ?_) (fun _ => ?_)
        · refine z_aload_n 29 dX5_mayBeNone_29 rfl ?_
          refine z_iload_n 30 dX5_mayBeNone_30 rfl ?_
          refine z_iload 31 dX5_mayBeNone_31 rfl ?_
          refine z_cb (zat_V2 33 dX5_mayBeNone_33 lk_X5_90 zy_55 rfl rfl ⟨Nat.le_of_ble_eq_true rfl, Nat.le_of_ble_eq_true rfl⟩ (Nat.le_of_ble_eq_true rfl)) (tX5_mayBe E p2 x6 M) (fun b11 => ?_)
          refine z_ifeqb 36 54 dX5_mayBeNone_36 (by decide) (fun _ => ?_) (fun _ => ?_)
          · exact zk_weak (L' := [some (.ref 55), some (.int p1), some (.int p2), some (.int x1), some (.int x6)]) (zLe_s (zLe_s (zLe_s (zLe_s (zLe_s zLe_nl))))) (hk10 ())
          · refine z_goto 39 52 dX5_mayBeNone_39 (by decide) ?_
            refine z_iconst 52 dX5_mayBeNone_52 zci_0 ?_
            exact z_ireturn 53 (v := zb false) dX5_mayBeNone_53 rfl (zput_b false).1 (fun h => h)
        · refine z_aload_n 42 dX5_mayBeNone_42 rfl ?_
          refine z_iload 43 dX5_mayBeNone_43 rfl ?_
          refine z_iload_n 45 dX5_mayBeNone_45 rfl ?_
          refine z_cb (zat_V2 46 dX5_mayBeNone_46 lk_X5_90 zy_55 rfl rfl ⟨Nat.le_of_ble_eq_true rfl, Nat.le_of_ble_eq_true rfl⟩ (Nat.le_of_ble_eq_true rfl)) (tX5_mayBe E x6 p2 M) (fun b12 => ?_)
          refine z_ifeqb 49 54 dX5_mayBeNone_49 (by decide) (fun _ => ?_) (fun _ => ?_)
          · exact zk_weak (L' := [some (.ref 55), some (.int p1), some (.int p2), some (.int x1), some (.int x6)]) (zLe_s (zLe_s (zLe_s (zLe_s (zLe_s zLe_nl))))) (hk10 ())
          · refine z_iconst 52 dX5_mayBeNone_52 zci_0 ?_
            exact z_ireturn 53 (v := zb false) dX5_mayBeNone_53 rfl (zput_b false).1 (fun h => h)
  · intro k13 hk13
    refine z_ifnev 1 11 dX5_mayBeNone_1 (by decide) ?_ ?_
    · refine z_aload_n 4 dX5_mayBeNone_4 rfl ?_
      refine z_getI 5 dX5_mayBeNone_5 fl_X5_36 zy_55 rfl ?_
      refine z_goto 8 15 dX5_mayBeNone_8 (by decide) ?_
      exact zk_weak (L' := [some (.ref 55), some (.int p1), some (.int p2), none, none]) (zLe_s (zLe_s (zLe_s (zLe_n (zLe_n zLe_nl))))) (hk13 (M.1 55 1))
    · refine z_aload_n 11 dX5_mayBeNone_11 rfl ?_
      refine z_getI 12 dX5_mayBeNone_12 fl_X5_30 zy_55 rfl ?_
      exact zk_weak (L' := [some (.ref 55), some (.int p1), some (.int p2), none, none]) (zLe_s (zLe_s (zLe_s (zLe_n (zLe_n zLe_nl))))) (hk13 (M.1 55 0))
def fX6_setAsAtFirst (a0 : Nat) (M : zM) : Option zM :=
  grd (zcp (0 : Int32) (0 : Int32) (10 : Int32) 10 10) (lt (zwA M (a0 + 1) (va_cpy zAF (M.1 (a0 + 1)) (zn (0 : Int32)) (zn (0 : Int32)) (zn (10 : Int32)))) (fun (M1 : zM) => sq (fJ7_fill_53178 (a0 + 2) 64 (-4 : Int32) M1) (fun (M2 : zM) => some M2)))
set_option maxHeartbeats 4000000 in
set_option maxRecDepth 100000 in
theorem tX6_setAsAtFirst (E : zE) (Y : zY) (a0 : Nat) (ha0 : zsX6 Y a0) (M : zM) : zFV E mX6_setAsAtFirst [.ref a0] Y M (fX6_setAsAtFirst a0 M) := by
  refine zF_of (L := [some (.ref a0)]) plX6 (Nat.le_of_ble_eq_true rfl) rfl (fun post => ?_)
  unfold fX6_setAsAtFirst
  refine z_gaf 0 sw_X6_21 dX6_setAsAtFirst_0 ?_
  refine z_iconst 3 dX6_setAsAtFirst_3 zci_0 ?_
  refine z_aload_n 4 dX6_setAsAtFirst_4 rfl ?_
  refine z_getR 5 (r := (a0 + 1)) dX6_setAsAtFirst_5 fl_X6_9 ha0.1 rfl ?_
  refine z_iconst 8 dX6_setAsAtFirst_8 zci_0 ?_
  refine z_bipush 9 dX6_setAsAtFirst_9 zbp_10 ?_
  refine z_copyaf 11 dX6_setAsAtFirst_11 ac_X6_24 ac_native ac_static ac_init ha0.2.1 ⟨Nat.le_of_ble_eq_true rfl, Nat.le_of_ble_eq_true rfl⟩ ?_
  refine zk_nmM (fun M1 => ?_)
  refine z_aload_n 14 dX6_setAsAtFirst_14 rfl ?_
  refine z_getR 15 (r := (a0 + 2)) dX6_setAsAtFirst_15 fl_X6_15 ha0.1 rfl ?_
  refine z_bipush 18 dX6_setAsAtFirst_18 zbp_m4 ?_
  refine z_cV (zat_S2 20 dX6_setAsAtFirst_20 lk_X6_30 ⟨Nat.le_of_ble_eq_true rfl, Nat.le_of_ble_eq_true rfl⟩ (Nat.le_of_ble_eq_true rfl)) (tJ7_fill_53178 E Y (a0 + 2) 64 ha0.2.2 (-4 : Int32) M1) (fun M2 => ?_)
  exact z_return 23 dX6_setAsAtFirst_23 rfl (fun h => h)
def fX6_copyFrom (a0 : Nat) (a1 : Nat) (M : zM) : Option zM :=
  grd (zcp (0 : Int32) (0 : Int32) (10 : Int32) 10 10) (lt (zwA M (a0 + 1) (va_cpy (M.1 (a1 + 1)) (M.1 (a0 + 1)) (zn (0 : Int32)) (zn (0 : Int32)) (zn (10 : Int32)))) (fun (M1 : zM) => grd (zcp (0 : Int32) (0 : Int32) (64 : Int32) 64 64) (lt (zwA M1 (a0 + 2) (va_cpy (M1.1 (a1 + 2)) (M1.1 (a0 + 2)) (zn (0 : Int32)) (zn (0 : Int32)) (zn (64 : Int32)))) (fun (M2 : zM) => some M2))))
set_option maxHeartbeats 4000000 in
set_option maxRecDepth 100000 in
theorem tX6_copyFrom (E : zE) (Y : zY) (a0 : Nat) (ha0 : zsX6 Y a0) (a1 : Nat) (ha1 : zsX6 Y a1) (M : zM) : zFV E mX6_copyFrom [.ref a0, .ref a1] Y M (fX6_copyFrom a0 a1 M) := by
  refine zF_of (L := [some (.ref a0), some (.ref a1)]) plX6 (Nat.le_of_ble_eq_true rfl) rfl (fun post => ?_)
  unfold fX6_copyFrom
  refine z_aload_n 0 dX6_copyFrom_0 rfl ?_
  refine z_getR 1 (r := (a1 + 1)) dX6_copyFrom_1 fl_X6_9 ha1.1 rfl ?_
  refine z_iconst 4 dX6_copyFrom_4 zci_0 ?_
  refine z_aload_n 5 dX6_copyFrom_5 rfl ?_
  refine z_getR 6 (r := (a0 + 1)) dX6_copyFrom_6 fl_X6_9 ha0.1 rfl ?_
  refine z_iconst 9 dX6_copyFrom_9 zci_0 ?_
  refine z_bipush 10 dX6_copyFrom_10 zbp_10 ?_
  refine z_copyi 12 dX6_copyFrom_12 ac_X6_24 ac_native ac_static ac_init ha1.2.1 ha0.2.1 ⟨Nat.le_of_ble_eq_true rfl, Nat.le_of_ble_eq_true rfl⟩ ?_
  refine zk_nmM (fun M1 => ?_)
  refine z_aload_n 15 dX6_copyFrom_15 rfl ?_
  refine z_getR 16 (r := (a1 + 2)) dX6_copyFrom_16 fl_X6_15 ha1.1 rfl ?_
  refine z_iconst 19 dX6_copyFrom_19 zci_0 ?_
  refine z_aload_n 20 dX6_copyFrom_20 rfl ?_
  refine z_getR 21 (r := (a0 + 2)) dX6_copyFrom_21 fl_X6_15 ha0.1 rfl ?_
  refine z_iconst 24 dX6_copyFrom_24 zci_0 ?_
  refine z_bipush 25 dX6_copyFrom_25 zbp_64 ?_
  refine z_copyi 27 dX6_copyFrom_27 ac_X6_24 ac_native ac_static ac_init ha1.2.2 ha0.2.2 ⟨Nat.le_of_ble_eq_true rfl, Nat.le_of_ble_eq_true rfl⟩ ?_
  refine zk_nmM (fun M2 => ?_)
  exact z_return 30 dX6_copyFrom_30 rfl (fun h => h)
def fX7_copyFrom (a0 : Nat) (a1 : Nat) (M : zM) : Option zM :=
  sq (fX2_copyFrom (a0 + 1) (a1 + 1) M) (fun (M1 : zM) => sq (fX2_copyFrom (a0 + 5) (a1 + 5) M1) (fun (M2 : zM) => sq (fX6_copyFrom (a0 + 9) (a1 + 9) M2) (fun (M3 : zM) => grd (zcp (0 : Int32) (0 : Int32) (10 : Int32) 10 10) (lt (zwA M3 (a0 + 12) (va_cpy (M3.1 (a1 + 12)) (M3.1 (a0 + 12)) (zn (0 : Int32)) (zn (0 : Int32)) (zn (10 : Int32)))) (fun (M4 : zM) => some M4)))))
set_option maxHeartbeats 4000000 in
set_option maxRecDepth 100000 in
theorem tX7_copyFrom (E : zE) (Y : zY) (a0 : Nat) (ha0 : zsX7 Y a0) (a1 : Nat) (ha1 : zsX7 Y a1) (M : zM) : zFV E mX7_copyFrom [.ref a0, .ref a1] Y M (fX7_copyFrom a0 a1 M) := by
  refine zF_of (L := [some (.ref a0), some (.ref a1)]) plX7 (Nat.le_of_ble_eq_true rfl) rfl (fun post => ?_)
  unfold fX7_copyFrom
  refine z_aload_n 0 dX7_copyFrom_0 rfl ?_
  refine z_getR 1 (r := (a0 + 1)) dX7_copyFrom_1 fl_X7_12 ha0.1 rfl ?_
  refine z_aload_n 4 dX7_copyFrom_4 rfl ?_
  refine z_getR 5 (r := (a1 + 1)) dX7_copyFrom_5 fl_X7_12 ha1.1 rfl ?_
  refine z_cV (zat_V1 8 dX7_copyFrom_8 lk_X7_38 ha0.2.1.1 rfl rfl ⟨Nat.le_of_ble_eq_true rfl, Nat.le_of_ble_eq_true rfl⟩ (Nat.le_of_ble_eq_true rfl)) (tX2_copyFrom E Y (a0 + 1) ha0.2.1 (a1 + 1) ha1.2.1 M) (fun M1 => ?_)
  refine z_aload_n 11 dX7_copyFrom_11 rfl ?_
  refine z_getR 12 (r := (a0 + 5)) dX7_copyFrom_12 fl_X7_18 ha0.1 rfl ?_
  refine z_aload_n 15 dX7_copyFrom_15 rfl ?_
  refine z_getR 16 (r := (a1 + 5)) dX7_copyFrom_16 fl_X7_18 ha1.1 rfl ?_
  refine z_cV (zat_V1 19 dX7_copyFrom_19 lk_X7_38 ha0.2.2.1.1 rfl rfl ⟨Nat.le_of_ble_eq_true rfl, Nat.le_of_ble_eq_true rfl⟩ (Nat.le_of_ble_eq_true rfl)) (tX2_copyFrom E Y (a0 + 5) ha0.2.2.1 (a1 + 5) ha1.2.2.1 M1) (fun M2 => ?_)
  refine z_aload_n 22 dX7_copyFrom_22 rfl ?_
  refine z_getR 23 (r := (a0 + 9)) dX7_copyFrom_23 fl_X7_24 ha0.1 rfl ?_
  refine z_aload_n 26 dX7_copyFrom_26 rfl ?_
  refine z_getR 27 (r := (a1 + 9)) dX7_copyFrom_27 fl_X7_24 ha1.1 rfl ?_
  refine z_cV (zat_V1 30 dX7_copyFrom_30 lk_X7_42 ha0.2.2.2.1.1 rfl rfl ⟨Nat.le_of_ble_eq_true rfl, Nat.le_of_ble_eq_true rfl⟩ (Nat.le_of_ble_eq_true rfl)) (tX6_copyFrom E Y (a0 + 9) ha0.2.2.2.1 (a1 + 9) ha1.2.2.2.1 M2) (fun M3 => ?_)
  refine z_aload_n 33 dX7_copyFrom_33 rfl ?_
  refine z_getR 34 (r := (a1 + 12)) dX7_copyFrom_34 fl_X7_28 ha1.1 rfl ?_
  refine z_iconst 37 dX7_copyFrom_37 zci_0 ?_
  refine z_aload_n 38 dX7_copyFrom_38 rfl ?_
  refine z_getR 39 (r := (a0 + 12)) dX7_copyFrom_39 fl_X7_28 ha0.1 rfl ?_
  refine z_iconst 42 dX7_copyFrom_42 zci_0 ?_
  refine z_bipush 43 dX7_copyFrom_43 zbp_10 ?_
  refine z_copyi 45 dX7_copyFrom_45 ac_X7_45 ac_native ac_static ac_init ha1.2.2.2.2 ha0.2.2.2.2 ⟨Nat.le_of_ble_eq_true rfl, Nat.le_of_ble_eq_true rfl⟩ ?_
  refine zk_nmM (fun M4 => ?_)
  exact z_return 48 dX7_copyFrom_48 rfl (fun h => h)
def fX8_renew (a0 : Nat) (p1 : Int32) (p2 : Int32) (M : zM) : Option zM :=
  lt (zwI M a0 0 (zb true)) (fun (M1 : zM) => lt (zwI M1 a0 1 p1) (fun (M2 : zM) => lt (zwI M2 a0 2 p2) (fun (M3 : zM) => sq (fJ7_fill_53178 (a0 + 1) 64 (0 : Int32) M3) (fun (M4 : zM) => some M4))))
set_option maxHeartbeats 4000000 in
set_option maxRecDepth 100000 in
theorem tX8_renew (E : zE) (Y : zY) (a0 : Nat) (ha0 : zsX8 Y a0) (p1 : Int32) (p2 : Int32) (M : zM) : zFV E mX8_renew [.ref a0, .int p1, .int p2] Y M (fX8_renew a0 p1 p2 M) := by
  refine zF_of (L := [some (.ref a0), some (.int p1), some (.int p2)]) plX8 (Nat.le_of_ble_eq_true rfl) rfl (fun post => ?_)
  unfold fX8_renew
  refine z_aload_n 0 dX8_renew_0 rfl ?_
  refine z_iconst 1 dX8_renew_1 zci_1 ?_
  refine z_put 2 (v := (zb true)) dX8_renew_2 fp_X8_15 ha0.1 rfl (zput_b true) ?_
  refine zk_nmM (fun M1 => ?_)
  refine z_aload_n 5 dX8_renew_5 rfl ?_
  refine z_iload_n 6 dX8_renew_6 rfl ?_
  refine z_put 7 dX8_renew_7 fp_X8_19 ha0.1 rfl (zput_i _) ?_
  refine zk_nmM (fun M2 => ?_)
  refine z_aload_n 10 dX8_renew_10 rfl ?_
  refine z_iload_n 11 dX8_renew_11 rfl ?_
  refine z_put 12 dX8_renew_12 fp_X8_23 ha0.1 rfl (zput_i _) ?_
  refine zk_nmM (fun M3 => ?_)
  refine z_aload_n 15 dX8_renew_15 rfl ?_
  refine z_getR 16 (r := (a0 + 1)) dX8_renew_16 fl_X8_11 ha0.1 rfl ?_
  refine z_iconst 19 dX8_renew_19 zci_0 ?_
  refine z_cV (zat_S2 20 dX8_renew_20 lk_X8_26 ⟨Nat.le_of_ble_eq_true rfl, Nat.le_of_ble_eq_true rfl⟩ (Nat.le_of_ble_eq_true rfl)) (tJ7_fill_53178 E Y (a0 + 1) 64 ha0.2 (0 : Int32) M3) (fun M4 => ?_)
  exact z_return 23 dX8_renew_23 rfl (fun h => h)
def fX8_put (a0 : Nat) (p1 : Int32) (p2 : Int32) (M : zM) : Option zM :=
  lt ((M.1 a0 1)) (fun (x1 : Int32) => if x1 = (0 : Int32) then (grd (zix p1 64) (lt (zwI M (a0 + 1) (zn p1) (p2).toInt8.toInt32) (fun (M2 : zM) => some M2))) else (if x1 = (1 : Int32) then (grd (zix p1 64) (lt (zwI M (a0 + 1) (zn p1) (p2).toInt16.toInt32) (fun (M3 : zM) => some M3))) else (grd (zix p1 64) (lt (zwI M (a0 + 1) (zn p1) p2) (fun (M4 : zM) => some M4)))))
set_option maxHeartbeats 4000000 in
set_option maxRecDepth 100000 in
theorem tX8_put (E : zE) (Y : zY) (a0 : Nat) (ha0 : zsX8 Y a0) (p1 : Int32) (p2 : Int32) (M : zM) : zFV E mX8_put [.ref a0, .int p1, .int p2] Y M (fX8_put a0 p1 p2 M) := by
  refine zF_of (L := [some (.ref a0), some (.int p1), some (.int p2)]) plX8 (Nat.le_of_ble_eq_true rfl) rfl (fun post => ?_)
  unfold fX8_put
  refine z_aload_n 0 dX8_put_0 rfl ?_
  refine z_getI 1 dX8_put_1 fl_X8_19 ha0.1 rfl ?_
  refine zk_nmI (fun x1 => ?_)
  refine z_lsc 4 32 (k := 0) (off := 28) dX8_put_4 (by decide) (by decide) (by decide) ?_ (fun n1 => ?_)
  · refine z_aload_n 32 dX8_put_32 rfl ?_
    refine z_getR 33 (r := (a0 + 1)) dX8_put_33 fl_X8_11 ha0.1 rfl ?_
    refine z_iload_n 36 dX8_put_36 rfl ?_
    refine z_iload_n 37 dX8_put_37 rfl ?_
    refine z_i2b 38 dX8_put_38 ?_
    refine z_iastore 39 dX8_put_39 ha0.2 ?_
    refine zk_nmM (fun M2 => ?_)
    refine z_goto 40 61 dX8_put_40 (by decide) ?_
    exact z_return 61 dX8_put_61 rfl (fun h => h)
  · refine z_lsc 4 43 (k := 1) (off := 39) dX8_put_4 (by decide) (by decide) (by decide) ?_ (fun n2 => ?_)
    · refine z_aload_n 43 dX8_put_43 rfl ?_
      refine z_getR 44 (r := (a0 + 1)) dX8_put_44 fl_X8_11 ha0.1 rfl ?_
      refine z_iload_n 47 dX8_put_47 rfl ?_
      refine z_iload_n 48 dX8_put_48 rfl ?_
      refine z_i2s 49 dX8_put_49 ?_
      refine z_iastore 50 dX8_put_50 ha0.2 ?_
      refine zk_nmM (fun M3 => ?_)
      refine z_goto 51 61 dX8_put_51 (by decide) ?_
      exact z_return 61 dX8_put_61 rfl (fun h => h)
    · refine z_lsw 4 54 (off := 50) dX8_put_4 (by decide) (by show Op.lookupswitch.offset [(0, 28), (1, 39)] 50 _ = 50; rw [lv_osw n1 (by decide)]; rw [lv_osw n2 (by decide)]; rfl) (by decide) ?_
      refine z_aload_n 54 dX8_put_54 rfl ?_
      refine z_getR 55 (r := (a0 + 1)) dX8_put_55 fl_X8_11 ha0.1 rfl ?_
      refine z_iload_n 58 dX8_put_58 rfl ?_
      refine z_iload_n 59 dX8_put_59 rfl ?_
      refine z_iastore 60 dX8_put_60 ha0.2 ?_
      refine zk_nmM (fun M4 => ?_)
      exact z_return 61 dX8_put_61 rfl (fun h => h)
def fX8_faultAs (a0 : Nat) (p1 : Int32) (M : zM) : Int32 :=
  if (M.1 a0 0) = 0 then ((1 : Int32)) else (if (M.1 a0 1) = p1 then ((0 : Int32)) else ((3 : Int32)))
set_option maxHeartbeats 4000000 in
set_option maxRecDepth 100000 in
theorem tX8_faultAs (E : zE) (Y : zY) (a0 : Nat) (ha0 : zsX8 Y a0) (p1 : Int32) (M : zM) : zFi E mX8_faultAs [.ref a0, .int p1] Y M (some (fX8_faultAs a0 p1 M)) := by
  refine zF_of (L := [some (.ref a0), some (.int p1)]) plX8 (Nat.le_of_ble_eq_true rfl) rfl (fun post => ?_)
  show zK E _ post 0 _ _ _ (lt (fX8_faultAs a0 p1 M) some) _
  unfold fX8_faultAs
  refine z_aload_n 0 dX8_faultAs_0 rfl ?_
  refine z_getI 1 dX8_faultAs_1 fl_X8_15 ha0.1 rfl ?_
  refine z_ifnev 4 9 dX8_faultAs_4 (by decide) ?_ ?_
  · refine z_iconst 7 dX8_faultAs_7 zci_1 ?_
    exact z_ireturn 8 dX8_faultAs_8 rfl rfl (fun h => h)
  · refine z_aload_n 9 dX8_faultAs_9 rfl ?_
    refine z_getI 10 dX8_faultAs_10 fl_X8_19 ha0.1 rfl ?_
    refine z_iload_n 13 dX8_faultAs_13 rfl ?_
    refine z_icnev 14 21 dX8_faultAs_14 (by decide) ?_ ?_
    · refine z_iconst 17 dX8_faultAs_17 zci_0 ?_
      refine z_goto 18 22 dX8_faultAs_18 (by decide) ?_
      exact z_ireturn 22 dX8_faultAs_22 rfl rfl (fun h => h)
    · refine z_iconst 21 dX8_faultAs_21 zci_3 ?_
      exact z_ireturn 22 dX8_faultAs_22 rfl rfl (fun h => h)
def fX8_wholeLines (a0 : Nat) (p1 : Int32) (M : zM) : Int32 :=
  if (fX10_within p1 (0 : Int32) (M.1 a0 2)) = false then ((0 : Int32)) else ((((M.1 a0 2) - p1) / (6 : Int32)))
set_option maxHeartbeats 4000000 in
set_option maxRecDepth 100000 in
theorem tX8_wholeLines (E : zE) (Y : zY) (a0 : Nat) (ha0 : zsX8 Y a0) (p1 : Int32) (M : zM) : zFi E mX8_wholeLines [.ref a0, .int p1] Y M (some (fX8_wholeLines a0 p1 M)) := by
  refine zF_of (L := [some (.ref a0), some (.int p1)]) plX8 (Nat.le_of_ble_eq_true rfl) rfl (fun post => ?_)
  show zK E _ post 0 _ _ _ (lt (fX8_wholeLines a0 p1 M) some) _
  unfold fX8_wholeLines
  refine z_iload_n 0 dX8_wholeLines_0 rfl ?_
  refine z_iconst 1 dX8_wholeLines_1 zci_0 ?_
  refine z_aload_n 2 dX8_wholeLines_2 rfl ?_
  refine z_getI 3 dX8_wholeLines_3 fl_X8_23 ha0.1 rfl ?_
  refine z_ctb0 (zat_N3 6 dX8_wholeLines_6 lk_X8_32 ⟨Nat.le_of_ble_eq_true rfl, Nat.le_of_ble_eq_true rfl⟩ (Nat.le_of_ble_eq_true rfl)) (tX10_within E Y p1 (0 : Int32) (M.1 a0 2) M) ?_
  refine z_ifeqbv 9 24 dX8_wholeLines_9 (by decide) ?_ ?_
  · refine z_iconst 24 dX8_wholeLines_24 zci_0 ?_
    exact z_ireturn 25 dX8_wholeLines_25 rfl rfl (fun h => h)
  · refine z_aload_n 12 dX8_wholeLines_12 rfl ?_
    refine z_getI 13 dX8_wholeLines_13 fl_X8_23 ha0.1 rfl ?_
    refine z_iload_n 16 dX8_wholeLines_16 rfl ?_
    refine z_isub 17 dX8_wholeLines_17 ?_
    refine z_bipush 18 dX8_wholeLines_18 zbp_6 ?_
    refine z_idivc 20 dX8_wholeLines_20 (by decide) ?_
    refine z_goto 21 25 dX8_wholeLines_21 (by decide) ?_
    exact z_ireturn 25 dX8_wholeLines_25 rfl rfl (fun h => h)
def fX8_isLine (a0 : Nat) (p1 : Int32) (M : zM) : Option Bool :=
  zlp (α := Int32) (fun rec7 => (fun (x6 : Int32) => if (4 : Int32) ≤ x6 then (grd (zix p1 64) (lt (fX10_within (M.1 (a0 + 1) (zn p1)) (0 : Int32) (999 : Int32)) (fun (b8 : Bool) => if b8 = false then (some false) else (grd (zix ((p1 + (1 : Int32)) + (4 : Int32)) 64) (lt (fX10_within (M.1 (a0 + 1) (zn ((p1 + (1 : Int32)) + (4 : Int32)))) (0 : Int32) (6 : Int32)) (fun (b9 : Bool) => if b9 = false then (some false) else (some true))))))) else (grd (zix ((p1 + (1 : Int32)) + x6) 64) (lt (fX10_within (M.1 (a0 + 1) (zn ((p1 + (1 : Int32)) + x6))) (0 : Int32) (16 : Int32)) (fun (b10 : Bool) => if b10 = false then (some false) else (rec7 (x6 + (1 : Int32)))))))) zFu (0 : Int32)
set_option maxHeartbeats 4000000 in
set_option maxRecDepth 100000 in
theorem tX8_isLine (E : zE) (Y : zY) (a0 : Nat) (ha0 : zsX8 Y a0) (p1 : Int32) (M : zM) : zFb E mX8_isLine [.ref a0, .int p1] Y M (fX8_isLine a0 p1 M) := by
  refine zF_of (L := [some (.ref a0), some (.int p1), none]) plX8 (Nat.le_of_ble_eq_true rfl) rfl (fun post => ?_)
  unfold fX8_isLine
  refine z_iconst 0 dX8_isLine_0 zci_0 ?_
  refine z_istore_n 1 (L' := [some (.ref a0), some (.int p1), some (.int (0 : Int32))]) dX8_isLine_1 (by decide) rfl ?_
  refine zk_weak (L' := [some (.ref a0), some (.int p1), some (.int (0 : Int32))]) (zLe_s (zLe_s (zLe_s zLe_nl))) (zk_lp (α := Int32) 2 (fun (x6 : Int32) => [some (.ref a0), some (.int p1), some (.int x6)]) (fun (x6 : Int32) => (Y, M)) ?_ zFu (0 : Int32))
  intro rec7 hrec7
  intro x6
  refine z_iload_n 2 dX8_isLine_2 rfl ?_
  refine z_iconst 3 dX8_isLine_3 zci_4 ?_
  refine z_icge 4 34 dX8_isLine_4 (by decide) (fun _ => ?_) (fun _ => ?_)
  · refine z_aload_n 34 dX8_isLine_34 rfl ?_
    refine z_getR 35 (r := (a0 + 1)) dX8_isLine_35 fl_X8_11 ha0.1 rfl ?_
    refine z_iload_n 38 dX8_isLine_38 rfl ?_
    refine z_iaload 39 dX8_isLine_39 ha0.2 ?_
    refine z_iconst 40 dX8_isLine_40 zci_0 ?_
    refine z_sipush 41 dX8_isLine_41 zsp_999 ?_
    refine z_ctb (zat_N3 44 dX8_isLine_44 lk_X8_32 ⟨Nat.le_of_ble_eq_true rfl, Nat.le_of_ble_eq_true rfl⟩ (Nat.le_of_ble_eq_true rfl)) (tX10_within E Y (M.1 (a0 + 1) (zn p1)) (0 : Int32) (999 : Int32) M) (fun b8 => ?_)
    refine z_ifeqb 47 73 dX8_isLine_47 (by decide) (fun _ => ?_) (fun _ => ?_)
    · refine z_iconst 73 dX8_isLine_73 zci_0 ?_
      exact z_ireturn 74 (v := zb false) dX8_isLine_74 rfl (zput_b false).1 (fun h => h)
    · refine z_aload_n 50 dX8_isLine_50 rfl ?_
      refine z_getR 51 (r := (a0 + 1)) dX8_isLine_51 fl_X8_11 ha0.1 rfl ?_
      refine z_iload_n 54 dX8_isLine_54 rfl ?_
      refine z_iconst 55 dX8_isLine_55 zci_1 ?_
      refine z_iadd 56 dX8_isLine_56 ?_
      refine z_iconst 57 dX8_isLine_57 zci_4 ?_
      refine z_iadd 58 dX8_isLine_58 ?_
      refine z_iaload 59 dX8_isLine_59 ha0.2 ?_
      refine z_iconst 60 dX8_isLine_60 zci_0 ?_
      refine z_bipush 61 dX8_isLine_61 zbp_6 ?_
      refine z_ctb (zat_N3 63 dX8_isLine_63 lk_X8_32 ⟨Nat.le_of_ble_eq_true rfl, Nat.le_of_ble_eq_true rfl⟩ (Nat.le_of_ble_eq_true rfl)) (tX10_within E Y (M.1 (a0 + 1) (zn ((p1 + (1 : Int32)) + (4 : Int32)))) (0 : Int32) (6 : Int32) M) (fun b9 => ?_)
      refine z_ifeqb 66 73 dX8_isLine_66 (by decide) (fun _ => ?_) (fun _ => ?_)
      · refine z_iconst 73 dX8_isLine_73 zci_0 ?_
        exact z_ireturn 74 (v := zb false) dX8_isLine_74 rfl (zput_b false).1 (fun h => h)
      · refine z_iconst 69 dX8_isLine_69 zci_1 ?_
        refine z_goto 70 74 dX8_isLine_70 (by decide) ?_
        exact z_ireturn 74 (v := zb true) dX8_isLine_74 rfl (zput_b true).1 (fun h => h)
  · refine z_aload_n 7 dX8_isLine_7 rfl ?_
    refine z_getR 8 (r := (a0 + 1)) dX8_isLine_8 fl_X8_11 ha0.1 rfl ?_
    refine z_iload_n 11 dX8_isLine_11 rfl ?_
    refine z_iconst 12 dX8_isLine_12 zci_1 ?_
    refine z_iadd 13 dX8_isLine_13 ?_
    refine z_iload_n 14 dX8_isLine_14 rfl ?_
    refine z_iadd 15 dX8_isLine_15 ?_
    refine z_iaload 16 dX8_isLine_16 ha0.2 ?_
    refine z_iconst 17 dX8_isLine_17 zci_0 ?_
    refine z_bipush 18 dX8_isLine_18 zbp_16 ?_
    refine z_ctb (zat_N3 20 dX8_isLine_20 lk_X8_32 ⟨Nat.le_of_ble_eq_true rfl, Nat.le_of_ble_eq_true rfl⟩ (Nat.le_of_ble_eq_true rfl)) (tX10_within E Y (M.1 (a0 + 1) (zn ((p1 + (1 : Int32)) + x6))) (0 : Int32) (16 : Int32) M) (fun b10 => ?_)
    refine z_ifneb 23 28 dX8_isLine_23 (by decide) (fun _ => ?_) (fun _ => ?_)
    · refine z_iconst 26 dX8_isLine_26 zci_0 ?_
      exact z_ireturn 27 (v := zb false) dX8_isLine_27 rfl (zput_b false).1 (fun h => h)
    · refine z_iinc 28 (v := (x6 + (1 : Int32))) (L' := [some (.ref a0), some (.int p1), some (.int (x6 + (1 : Int32)))]) dX8_isLine_28 rfl (zinc zci_1 _) (by decide) rfl ?_
      refine z_goto 31 2 dX8_isLine_31 (by decide) ?_
      exact zk_weak (L' := [some (.ref a0), some (.int p1), some (.int (x6 + (1 : Int32)))]) (zLe_s (zLe_s (zLe_s zLe_nl))) (hrec7 (x6 + (1 : Int32)))
def fX8_appendLine (a0 : Nat) (p1 : Int32) (a2 : Nat) (M : zM) : Option zM :=
  grd (zix p1 64) (grd (zix ((p1 + (1 : Int32)) + (4 : Int32)) 64) (bi (fX2_append a2 (M.1 (a0 + 1) (zn p1)) (M.1 (a0 + 1) (zn ((p1 + (1 : Int32)) + (4 : Int32)))) M) (fun (x2 : Int32) (M1 : zM) => grd (zcp (p1 + (1 : Int32)) (x2 * (4 : Int32)) (4 : Int32) 64 40) (lt (zwA M1 (a2 + 3) (va_cpy (M1.1 (a0 + 1)) (M1.1 (a2 + 3)) (zn (p1 + (1 : Int32))) (zn (x2 * (4 : Int32))) (zn (4 : Int32)))) (fun (M3 : zM) => some M3)))))
set_option maxHeartbeats 4000000 in
set_option maxRecDepth 100000 in
theorem tX8_appendLine (E : zE) (Y : zY) (a0 : Nat) (ha0 : zsX8 Y a0) (p1 : Int32) (a2 : Nat) (ha2 : zsX2 Y a2) (M : zM) : zFV E mX8_appendLine [.ref a0, .int p1, .ref a2] Y M (fX8_appendLine a0 p1 a2 M) := by
  refine zF_of (L := [some (.ref a0), some (.int p1), some (.ref a2), none]) plX8 (Nat.le_of_ble_eq_true rfl) rfl (fun post => ?_)
  unfold fX8_appendLine
  refine z_aload_n 0 dX8_appendLine_0 rfl ?_
  refine z_aload_n 1 dX8_appendLine_1 rfl ?_
  refine z_getR 2 (r := (a0 + 1)) dX8_appendLine_2 fl_X8_11 ha0.1 rfl ?_
  refine z_iload_n 5 dX8_appendLine_5 rfl ?_
  refine z_iaload 6 dX8_appendLine_6 ha0.2 ?_
  refine z_aload_n 7 dX8_appendLine_7 rfl ?_
  refine z_getR 8 (r := (a0 + 1)) dX8_appendLine_8 fl_X8_11 ha0.1 rfl ?_
  refine z_iload_n 11 dX8_appendLine_11 rfl ?_
  refine z_iconst 12 dX8_appendLine_12 zci_1 ?_
  refine z_iadd 13 dX8_appendLine_13 ?_
  refine z_iconst 14 dX8_appendLine_14 zci_4 ?_
  refine z_iadd 15 dX8_appendLine_15 ?_
  refine z_iaload 16 dX8_appendLine_16 ha0.2 ?_
  refine z_cI (zat_V2 17 dX8_appendLine_17 lk_X8_36 ha2.1 rfl rfl ⟨Nat.le_of_ble_eq_true rfl, Nat.le_of_ble_eq_true rfl⟩ (Nat.le_of_ble_eq_true rfl)) (tX2_append E Y a2 ha2 (M.1 (a0 + 1) (zn p1)) (M.1 (a0 + 1) (zn ((p1 + (1 : Int32)) + (4 : Int32)))) M) (fun x2 M1 => ?_)
  refine z_istore_n 20 (L' := [some (.ref a0), some (.int p1), some (.ref a2), some (.int x2)]) dX8_appendLine_20 (by decide) rfl ?_
  refine z_aload_n 21 dX8_appendLine_21 rfl ?_
  refine z_getR 22 (r := (a0 + 1)) dX8_appendLine_22 fl_X8_11 ha0.1 rfl ?_
  refine z_iload_n 25 dX8_appendLine_25 rfl ?_
  refine z_iconst 26 dX8_appendLine_26 zci_1 ?_
  refine z_iadd 27 dX8_appendLine_27 ?_
  refine z_aload_n 28 dX8_appendLine_28 rfl ?_
  refine z_getR 29 (r := (a2 + 3)) dX8_appendLine_29 fl_X8_42 ha2.1 rfl ?_
  refine z_iload_n 32 dX8_appendLine_32 rfl ?_
  refine z_iconst 33 dX8_appendLine_33 zci_4 ?_
  refine z_imul 34 dX8_appendLine_34 ?_
  refine z_iconst 35 dX8_appendLine_35 zci_4 ?_
  refine z_copyi 36 dX8_appendLine_36 ac_X8_45 ac_native ac_static ac_init ha0.2 ha2.2.2.2 ⟨Nat.le_of_ble_eq_true rfl, Nat.le_of_ble_eq_true rfl⟩ ?_
  refine zk_nmM (fun M3 => ?_)
  exact z_return 39 dX8_appendLine_39 rfl (fun h => h)
def fX9_append (p1 : Int64) (M : zM) : Option (Bool × zM) :=
  if ((M.1 50 1) + (8 : Int32)) ≤ (320 : Int32) then (sq (α := zM) (zlp (α := Int32 × zM) (β := zM) (fun rec10 => (fun (u16 : Int32 × zM) => match u16 with | (x8, M9) => if (8 : Int32) ≤ x8 then (some M9) else (grd (zix ((M9.1 50 1) + x8) 320) (lt (zwI M9 51 (zn ((M9.1 50 1) + x8)) (vp_nar .byte (((p1 >>> (((56 : Int32) - ((8 : Int32) * x8)).toInt64 &&& 63))).toInt32).toInt8.toInt32)) (fun (M14 : zM) => rec10 ((x8 + (1 : Int32)), M14)))))) zFu ((0 : Int32), M)) (fun (M13 : zM) => lt (zwI M13 50 1 ((M13.1 50 1) + (8 : Int32))) (fun (M15 : zM) => some (true, M15)))) else (some (false, M))
set_option maxHeartbeats 4000000 in
set_option maxRecDepth 100000 in
theorem tX9_append (E : zE) (p1 : Int64) (M : zM) : zFB E mX9_append [.ref 50, .long p1] zY0 M (fX9_append p1 M) := by
  refine zF_of (L := [some (.ref 50), some (.long p1), none, none]) plX9 (Nat.le_of_ble_eq_true rfl) rfl (fun post => ?_)
  unfold fX9_append
  refine z_aload_n 0 dX9_append_0 rfl ?_
  refine z_getI 1 dX9_append_1 fl_X9_15 zy_50 rfl ?_
  refine z_bipush 4 dX9_append_4 zbp_8 ?_
  refine z_iadd 6 dX9_append_6 ?_
  refine z_sipush 7 dX9_append_7 zsp_320 ?_
  refine z_icle 10 15 dX9_append_10 (by decide) (fun _ => ?_) (fun _ => ?_)
  · refine z_iconst 15 dX9_append_15 zci_0 ?_
    refine z_istore_n 16 (L' := [some (.ref 50), some (.long p1), none, some (.int (0 : Int32))]) dX9_append_16 (by decide) rfl ?_
    refine zk_sqj (α := zM) 51 (fun (M13 : zM) => [some (.ref 50), none, none, none]) (fun (M13 : zM) => []) (fun (M13 : zM) => (zY0, M13)) ?_ ?_
    · intro M13
      refine z_aload_n 51 dX9_append_51 rfl ?_
      refine z_dup 52 dX9_append_52 rfl ?_
      refine z_getI 53 dX9_append_53 fl_X9_15 zy_50 rfl ?_
      refine z_bipush 56 dX9_append_56 zbp_8 ?_
      refine z_iadd 58 dX9_append_58 ?_
      refine z_put 59 dX9_append_59 fp_X9_15 zy_50 rfl (zput_i _) ?_
      refine zk_nmM (fun M15 => ?_)
      refine z_iconst 62 dX9_append_62 zci_1 ?_
      exact z_ireturn 63 (v := zb true) dX9_append_63 rfl (zput_b true).1 (fun h => h)
    · refine zk_weak (L' := [some (.ref 50), some (.long p1), none, some (.int (0 : Int32))]) (zLe_s (zLe_s (zLe_n (zLe_s zLe_nl)))) (zk_lp (α := Int32 × zM) 17 (fun (u11 : Int32 × zM) => match u11 with | (x8, M9) => [some (.ref 50), some (.long p1), none, some (.int x8)]) (fun (u12 : Int32 × zM) => match u12 with | (x8, M9) => (zY0, M9)) ?_ zFu ((0 : Int32), M))
      intro rec10 hrec10
      intro u17
      obtain ⟨x8, M9⟩ := u17
      try dsimp only
      refine z_iload_n 17 dX9_append_17 rfl ?_
      refine z_bipush 18 dX9_append_18 zbp_8 ?_
      refine z_icge 20 51 dX9_append_20 (by decide) (fun _ => ?_) (fun _ => ?_)
      · exact zk_exitw (L' := [some (.ref 50), none, none, none]) (zLe_s (zLe_n (zLe_n (zLe_n zLe_nl)))) (fun h => h)
      · refine z_aload_n 23 dX9_append_23 rfl ?_
        refine z_getR 24 (r := 51) dX9_append_24 fl_X9_11 zy_50 rfl ?_
        refine z_aload_n 27 dX9_append_27 rfl ?_
        refine z_getI 28 dX9_append_28 fl_X9_15 zy_50 rfl ?_
        refine z_iload_n 31 dX9_append_31 rfl ?_
        refine z_iadd 32 dX9_append_32 ?_
        refine z_lload_n 33 dX9_append_33 rfl ?_
        refine z_bipush 34 dX9_append_34 zbp_56 ?_
        refine z_bipush 36 dX9_append_36 zbp_8 ?_
        refine z_iload_n 38 dX9_append_38 rfl ?_
        refine z_imul 39 dX9_append_39 ?_
        refine z_isub 40 dX9_append_40 ?_
        refine z_lshr 41 dX9_append_41 ?_
        refine z_l2i 42 dX9_append_42 ?_
        refine z_i2b 43 dX9_append_43 ?_
        refine z_bastore 44 dX9_append_44 zy_51 ?_
        refine zk_nmM (fun M14 => ?_)
        refine z_iinc 45 (v := (x8 + (1 : Int32))) (L' := [some (.ref 50), some (.long p1), none, some (.int (x8 + (1 : Int32)))]) dX9_append_45 rfl (zinc zci_1 _) (by decide) rfl ?_
        refine z_goto 48 17 dX9_append_48 (by decide) ?_
        exact zk_weak (L' := [some (.ref 50), some (.long p1), none, some (.int (x8 + (1 : Int32)))]) (zLe_s (zLe_s (zLe_n (zLe_s zLe_nl)))) (hrec10 ((x8 + (1 : Int32)), M14))
  · refine z_iconst 13 dX9_append_13 zci_0 ?_
    exact z_ireturn 14 (v := zb false) dX9_append_14 rfl (zput_b false).1 (fun h => h)
def fX9_kindOf (p1 : Int32) : Int32 :=
  if p1 = (59 : Int32) then ((3 : Int32)) else (if p1 < (97 : Int32) then (if p1 < (48 : Int32) then ((0 : Int32)) else (if (57 : Int32) < p1 then ((0 : Int32)) else ((2 : Int32)))) else (if (122 : Int32) < p1 then (if p1 < (48 : Int32) then ((0 : Int32)) else (if (57 : Int32) < p1 then ((0 : Int32)) else ((2 : Int32)))) else ((1 : Int32))))
set_option maxHeartbeats 4000000 in
set_option maxRecDepth 100000 in
theorem tX9_kindOf (E : zE) (Y : zY) (p1 : Int32) (M : zM) : zFi E mX9_kindOf [.int p1] Y M (some (fX9_kindOf p1)) := by
  refine zF_of (L := [some (.int p1)]) plX9 (Nat.le_of_ble_eq_true rfl) rfl (fun post => ?_)
  show zK E _ post 0 _ _ _ (lt (fX9_kindOf p1) some) _
  unfold fX9_kindOf
  refine z_iload_n 0 dX9_kindOf_0 rfl ?_
  refine z_bipush 1 dX9_kindOf_1 zbp_59 ?_
  refine z_icnev 3 8 dX9_kindOf_3 (by decide) ?_ ?_
  · refine z_iconst 6 dX9_kindOf_6 zci_3 ?_
    exact z_ireturn 7 dX9_kindOf_7 rfl rfl (fun h => h)
  · refine z_iload_n 8 dX9_kindOf_8 rfl ?_
    refine z_bipush 9 dX9_kindOf_9 zbp_97 ?_
    refine z_icltv 11 22 dX9_kindOf_11 (by decide) ?_ ?_
    · refine z_iload_n 22 dX9_kindOf_22 rfl ?_
      refine z_bipush 23 dX9_kindOf_23 zbp_48 ?_
      refine z_icltv 25 38 dX9_kindOf_25 (by decide) ?_ ?_
      · refine z_iconst 38 dX9_kindOf_38 zci_0 ?_
        exact z_ireturn 39 dX9_kindOf_39 rfl rfl (fun h => h)
      · refine z_iload_n 28 dX9_kindOf_28 rfl ?_
        refine z_bipush 29 dX9_kindOf_29 zbp_57 ?_
        refine z_icgtv 31 38 dX9_kindOf_31 (by decide) ?_ ?_
        · refine z_iconst 38 dX9_kindOf_38 zci_0 ?_
          exact z_ireturn 39 dX9_kindOf_39 rfl rfl (fun h => h)
        · refine z_iconst 34 dX9_kindOf_34 zci_2 ?_
          refine z_goto 35 39 dX9_kindOf_35 (by decide) ?_
          exact z_ireturn 39 dX9_kindOf_39 rfl rfl (fun h => h)
    · refine z_iload_n 14 dX9_kindOf_14 rfl ?_
      refine z_bipush 15 dX9_kindOf_15 zbp_122 ?_
      refine z_icgtv 17 22 dX9_kindOf_17 (by decide) ?_ ?_
      · refine z_iload_n 22 dX9_kindOf_22 rfl ?_
        refine z_bipush 23 dX9_kindOf_23 zbp_48 ?_
        refine z_icltv 25 38 dX9_kindOf_25 (by decide) ?_ ?_
        · refine z_iconst 38 dX9_kindOf_38 zci_0 ?_
          exact z_ireturn 39 dX9_kindOf_39 rfl rfl (fun h => h)
        · refine z_iload_n 28 dX9_kindOf_28 rfl ?_
          refine z_bipush 29 dX9_kindOf_29 zbp_57 ?_
          refine z_icgtv 31 38 dX9_kindOf_31 (by decide) ?_ ?_
          · refine z_iconst 38 dX9_kindOf_38 zci_0 ?_
            exact z_ireturn 39 dX9_kindOf_39 rfl rfl (fun h => h)
          · refine z_iconst 34 dX9_kindOf_34 zci_2 ?_
            refine z_goto 35 39 dX9_kindOf_35 (by decide) ?_
            exact z_ireturn 39 dX9_kindOf_39 rfl rfl (fun h => h)
      · refine z_iconst 20 dX9_kindOf_20 zci_1 ?_
        exact z_ireturn 21 dX9_kindOf_21 rfl rfl (fun h => h)
def fX9_fail (p1 : Int32) (M : zM) : Option (Bool × zM) :=
  lt (zwI M 50 2 p1) (fun (M1 : zM) => lt (zwI M1 50 3 (M1.1 50 6)) (fun (M2 : zM) => some (false, M2)))
set_option maxHeartbeats 4000000 in
set_option maxRecDepth 100000 in
theorem tX9_fail (E : zE) (p1 : Int32) (M : zM) : zFB E mX9_fail [.ref 50, .int p1] zY0 M (fX9_fail p1 M) := by
  refine zF_of (L := [some (.ref 50), some (.int p1)]) plX9 (Nat.le_of_ble_eq_true rfl) rfl (fun post => ?_)
  unfold fX9_fail
  refine z_aload_n 0 dX9_fail_0 rfl ?_
  refine z_iload_n 1 dX9_fail_1 rfl ?_
  refine z_put 2 dX9_fail_2 fp_X9_30 zy_50 rfl (zput_i _) ?_
  refine zk_nmM (fun M1 => ?_)
  refine z_aload_n 5 dX9_fail_5 rfl ?_
  refine z_aload_n 6 dX9_fail_6 rfl ?_
  refine z_getI 7 dX9_fail_7 fl_X9_47 zy_50 rfl ?_
  refine z_put 10 dX9_fail_10 fp_X9_44 zy_50 rfl (zput_i _) ?_
  refine zk_nmM (fun M2 => ?_)
  refine z_iconst 13 dX9_fail_13 zci_0 ?_
  exact z_ireturn 14 (v := zb false) dX9_fail_14 rfl (zput_b false).1 (fun h => h)
def fX9_takeToken (p1 : Int32) (M : zM) : Option (Bool × zM) :=
  sq (α := zM) (zlp (α := zM) (β := zM) (fun rec2 => (fun (M1 : zM) => if (M1.1 50 1) ≤ (M1.1 50 4) then (some M1) else (grd (zix (M1.1 50 4) 320) (if (M1.1 51 (zn (M1.1 50 4))) = (32 : Int32) then (lt (zwI M1 50 4 ((M1.1 50 4) + (1 : Int32))) (fun (M4 : zM) => rec2 M4)) else (some M1))))) zFu M) (fun (M3 : zM) => lt (zwI M3 50 6 (M3.1 50 4)) (fun (M5 : zM) => sq (α := Int32) (if (M5.1 50 1) ≤ (M5.1 50 4) then (some (4 : Int32)) else (grd (zix (M5.1 50 4) 320) (lt (fX9_kindOf (M5.1 51 (zn (M5.1 50 4)))) (fun (x34 : Int32) => some x34)))) (fun (x7 : Int32) => lt (zwI M5 50 5 x7) (fun (M8 : zM) => lt (zwI M8 50 7 (0 : Int32)) (fun (M9 : zM) => sq (α := zM) (zlp (α := zM) (β := zM) (fun rec11 => (fun (M10 : zM) => if (M10.1 50 1) ≤ (M10.1 50 4) then (some M10) else (grd (zix (M10.1 50 4) 320) (lt (fX9_kindOf (M10.1 51 (zn (M10.1 50 4)))) (fun (x13 : Int32) => if x13 = (M10.1 50 5) then (jn (α := Unit) (fun (_ : Unit) => grd (zix (M10.1 50 4) 320) (lt (zwI M10 50 7 ((((M10.1 50 7) * (10 : Int32)) + (M10.1 51 (zn (M10.1 50 4)))) - (48 : Int32))) (fun (M14 : zM) => lt (zwI M14 50 4 ((M14.1 50 4) + (1 : Int32))) (fun (M15 : zM) => rec11 M15)))) (fun k16 => if (M10.1 50 5) = (3 : Int32) then (if (M10.1 50 4) = (M10.1 50 6) then (k16 ()) else (some M10)) else (k16 ()))) else (some M10)))))) zFu M9) (fun (M12 : zM) => jn (α := Unit) (fun (_ : Unit) => bi (fX9_fail (1 : Int32) M12) (fun (b25 : Bool) (M24 : zM) => some (b25, M24))) (fun k26 => if (M12.1 50 5) = 0 then (k26 ()) else (jn (α := Unit) (fun (_ : Unit) => jn (α := zM) (fun (M29 : zM) => some (true, M29)) (fun k30 => if p1 = (5 : Int32) then (k30 M12) else (if (M12.1 50 5) = p1 then (k30 M12) else (bi (fX9_fail (2 : Int32) M12) (fun (b32 : Bool) (M31 : zM) => if b32 = false then (some (false, M31)) else (k30 M31)))))) (fun k33 => if (M12.1 50 5) = (2 : Int32) then (if ((M12.1 50 4) - (M12.1 50 6)) ≤ (3 : Int32) then (k33 ()) else (k26 ())) else (k33 ()))))))))))
set_option maxHeartbeats 4000000 in
set_option maxRecDepth 100000 in
theorem tX9_takeToken (E : zE) (p1 : Int32) (M : zM) : zFB E mX9_takeToken [.ref 50, .int p1] zY0 M (fX9_takeToken p1 M) := by
  refine zF_of (L := [some (.ref 50), some (.int p1)]) plX9 (Nat.le_of_ble_eq_true rfl) rfl (fun post => ?_)
  unfold fX9_takeToken
  refine zk_sqj (α := zM) 38 (fun (M3 : zM) => [some (.ref 50), some (.int p1)]) (fun (M3 : zM) => []) (fun (M3 : zM) => (zY0, M3)) ?_ ?_
  · intro M3
    refine z_aload_n 38 dX9_takeToken_38 rfl ?_
    refine z_aload_n 39 dX9_takeToken_39 rfl ?_
    refine z_getI 40 dX9_takeToken_40 fl_X9_24 zy_50 rfl ?_
    refine z_put 43 dX9_takeToken_43 fp_X9_47 zy_50 rfl (zput_i _) ?_
    refine zk_nmM (fun M5 => ?_)
    refine z_aload_n 46 dX9_takeToken_46 rfl ?_
    refine z_aload_n 47 dX9_takeToken_47 rfl ?_
    refine z_getI 48 dX9_takeToken_48 fl_X9_24 zy_50 rfl ?_
    refine z_aload_n 51 dX9_takeToken_51 rfl ?_
    refine z_getI 52 dX9_takeToken_52 fl_X9_15 zy_50 rfl ?_
    refine zk_sqj (α := Int32) 74 (fun (x7 : Int32) => [some (.ref 50), some (.int p1)]) (fun (x7 : Int32) => [.int x7, .ref 50]) (fun (x7 : Int32) => (zY0, M5)) ?_ ?_
    · intro x7
      refine z_put 74 dX9_takeToken_74 fp_X9_37 zy_50 rfl (zput_i _) ?_
      refine zk_nmM (fun M8 => ?_)
      refine z_aload_n 77 dX9_takeToken_77 rfl ?_
      refine z_iconst 78 dX9_takeToken_78 zci_0 ?_
      refine z_put 79 dX9_takeToken_79 fp_X9_54 zy_50 rfl (zput_i _) ?_
      refine zk_nmM (fun M9 => ?_)
      refine zk_sqj (α := zM) 168 (fun (M12 : zM) => [some (.ref 50), some (.int p1)]) (fun (M12 : zM) => []) (fun (M12 : zM) => (zY0, M12)) ?_ ?_
      · intro M12
        refine z_aload_n 168 dX9_takeToken_168 rfl ?_
        refine z_getI 169 dX9_takeToken_169 fl_X9_37 zy_50 rfl ?_
        refine zk_jn (α := Unit) 196 (fun (_ : Unit) => [some (.ref 50), none]) (fun (_ : Unit) => []) (fun (_ : Unit) => (zY0, M12)) ?_ ?_
        · intro _
          refine z_aload_n 196 dX9_takeToken_196 rfl ?_
          refine z_iconst 197 dX9_takeToken_197 zci_1 ?_
          refine z_cB (zat_V1 198 dX9_takeToken_198 lk_X9_57 zy_50 rfl rfl ⟨Nat.le_of_ble_eq_true rfl, Nat.le_of_ble_eq_true rfl⟩ (Nat.le_of_ble_eq_true rfl)) (tX9_fail E (1 : Int32) M12) (fun b25 M24 => ?_)
          exact z_ireturn 201 (v := zb b25) dX9_takeToken_201 rfl (zput_b b25).1 (fun h => h)
        · intro k26 hk26
          refine z_ifeq 172 196 dX9_takeToken_172 (by decide) (fun _ => ?_) (fun _ => ?_)
          · exact zk_weak (L' := [some (.ref 50), none]) (zLe_s (zLe_n zLe_nl)) (hk26 ())
          · refine z_aload_n 175 dX9_takeToken_175 rfl ?_
            refine z_getI 176 dX9_takeToken_176 fl_X9_37 zy_50 rfl ?_
            refine z_iconst 179 dX9_takeToken_179 zci_2 ?_
            refine zk_jn (α := Unit) 202 (fun (_ : Unit) => [some (.ref 50), some (.int p1)]) (fun (_ : Unit) => []) (fun (_ : Unit) => (zY0, M12)) ?_ ?_
            · intro _
              refine z_iload_n 202 dX9_takeToken_202 rfl ?_
              refine z_iconst 203 dX9_takeToken_203 zci_5 ?_
              refine zk_jn (α := zM) 223 (fun (M29 : zM) => [none, none]) (fun (M29 : zM) => []) (fun (M29 : zM) => (zY0, M29)) ?_ ?_
              · intro M29
                refine z_iconst 223 dX9_takeToken_223 zci_1 ?_
                refine z_goto 224 228 dX9_takeToken_224 (by decide) ?_
                exact z_ireturn 228 (v := zb true) dX9_takeToken_228 rfl (zput_b true).1 (fun h => h)
              · intro k30 hk30
                refine z_iceq 204 223 dX9_takeToken_204 (by decide) (fun _ => ?_) (fun _ => ?_)
                · exact zk_weak (L' := [none, none]) (zLe_n (zLe_n zLe_nl)) (hk30 M12)
                · refine z_aload_n 207 dX9_takeToken_207 rfl ?_
                  refine z_getI 208 dX9_takeToken_208 fl_X9_37 zy_50 rfl ?_
                  refine z_iload_n 211 dX9_takeToken_211 rfl ?_
                  refine z_iceq 212 223 dX9_takeToken_212 (by decide) (fun _ => ?_) (fun _ => ?_)
                  · exact zk_weak (L' := [none, none]) (zLe_n (zLe_n zLe_nl)) (hk30 M12)
                  · refine z_aload_n 215 dX9_takeToken_215 rfl ?_
                    refine z_iconst 216 dX9_takeToken_216 zci_2 ?_
                    refine z_cB (zat_V1 217 dX9_takeToken_217 lk_X9_57 zy_50 rfl rfl ⟨Nat.le_of_ble_eq_true rfl, Nat.le_of_ble_eq_true rfl⟩ (Nat.le_of_ble_eq_true rfl)) (tX9_fail E (2 : Int32) M12) (fun b32 M31 => ?_)
                    refine z_ifeqb 220 227 dX9_takeToken_220 (by decide) (fun _ => ?_) (fun _ => ?_)
                    · refine z_iconst 227 dX9_takeToken_227 zci_0 ?_
                      exact z_ireturn 228 (v := zb false) dX9_takeToken_228 rfl (zput_b false).1 (fun h => h)
                    · exact zk_weak (L' := [none, none]) (zLe_n (zLe_n zLe_nl)) (hk30 M31)
            · intro k33 hk33
              refine z_icne 180 202 dX9_takeToken_180 (by decide) (fun _ => ?_) (fun _ => ?_)
              · refine z_aload_n 183 dX9_takeToken_183 rfl ?_
                refine z_getI 184 dX9_takeToken_184 fl_X9_24 zy_50 rfl ?_
                refine z_aload_n 187 dX9_takeToken_187 rfl ?_
                refine z_getI 188 dX9_takeToken_188 fl_X9_47 zy_50 rfl ?_
                refine z_isub 191 dX9_takeToken_191 ?_
                refine z_iconst 192 dX9_takeToken_192 zci_3 ?_
                refine z_icle 193 202 dX9_takeToken_193 (by decide) (fun _ => ?_) (fun _ => ?_)
                · exact zk_weak (L' := [some (.ref 50), some (.int p1)]) (zLe_s (zLe_s zLe_nl)) (hk33 ())
                · exact zk_weak (L' := [some (.ref 50), none]) (zLe_s (zLe_n zLe_nl)) (hk26 ())
              · exact zk_weak (L' := [some (.ref 50), some (.int p1)]) (zLe_s (zLe_s zLe_nl)) (hk33 ())
      · refine zk_weak (L' := [some (.ref 50), some (.int p1)]) (zLe_s (zLe_s zLe_nl)) (zk_lp (α := zM) 82 (fun (M10 : zM) => [some (.ref 50), some (.int p1)]) (fun (M10 : zM) => (zY0, M10)) ?_ zFu M9)
        intro rec11 hrec11
        intro M10
        refine z_aload_n 82 dX9_takeToken_82 rfl ?_
        refine z_getI 83 dX9_takeToken_83 fl_X9_24 zy_50 rfl ?_
        refine z_aload_n 86 dX9_takeToken_86 rfl ?_
        refine z_getI 87 dX9_takeToken_87 fl_X9_15 zy_50 rfl ?_
        refine z_icge 90 168 dX9_takeToken_90 (by decide) (fun _ => ?_) (fun _ => ?_)
        · exact zk_exitw (L' := [some (.ref 50), some (.int p1)]) (zLe_s (zLe_s zLe_nl)) (fun h => h)
        · refine z_aload_n 93 dX9_takeToken_93 rfl ?_
          refine z_getR 94 (r := 51) dX9_takeToken_94 fl_X9_11 zy_50 rfl ?_
          refine z_aload_n 97 dX9_takeToken_97 rfl ?_
          refine z_getI 98 dX9_takeToken_98 fl_X9_24 zy_50 rfl ?_
          refine z_baload 101 dX9_takeToken_101 zy_51 ?_
          refine z_cti (zat_S1 102 dX9_takeToken_102 lk_X9_50 ⟨Nat.le_of_ble_eq_true rfl, Nat.le_of_ble_eq_true rfl⟩ (Nat.le_of_ble_eq_true rfl)) (tX9_kindOf E zY0 (M10.1 51 (zn (M10.1 50 4))) M10) (fun x13 => ?_)
          refine z_aload_n 105 dX9_takeToken_105 rfl ?_
          refine z_getI 106 dX9_takeToken_106 fl_X9_37 zy_50 rfl ?_
          refine z_icne 109 168 dX9_takeToken_109 (by decide) (fun _ => ?_) (fun _ => ?_)
          · refine z_aload_n 112 dX9_takeToken_112 rfl ?_
            refine z_getI 113 dX9_takeToken_113 fl_X9_37 zy_50 rfl ?_
            refine z_iconst 116 dX9_takeToken_116 zci_3 ?_
            refine zk_jn (α := Unit) 131 (fun (_ : Unit) => [some (.ref 50), some (.int p1)]) (fun (_ : Unit) => []) (fun (_ : Unit) => (zY0, M10)) ?_ ?_
            · intro _
              refine z_aload_n 131 dX9_takeToken_131 rfl ?_
              refine z_aload_n 132 dX9_takeToken_132 rfl ?_
              refine z_getI 133 dX9_takeToken_133 fl_X9_54 zy_50 rfl ?_
              refine z_bipush 136 dX9_takeToken_136 zbp_10 ?_
              refine z_imul 138 dX9_takeToken_138 ?_
              refine z_aload_n 139 dX9_takeToken_139 rfl ?_
              refine z_getR 140 (r := 51) dX9_takeToken_140 fl_X9_11 zy_50 rfl ?_
              refine z_aload_n 143 dX9_takeToken_143 rfl ?_
              refine z_getI 144 dX9_takeToken_144 fl_X9_24 zy_50 rfl ?_
              refine z_baload 147 dX9_takeToken_147 zy_51 ?_
              refine z_iadd 148 dX9_takeToken_148 ?_
              refine z_bipush 149 dX9_takeToken_149 zbp_48 ?_
              refine z_isub 151 dX9_takeToken_151 ?_
              refine z_put 152 dX9_takeToken_152 fp_X9_54 zy_50 rfl (zput_i _) ?_
              refine zk_nmM (fun M14 => ?_)
              refine z_aload_n 155 dX9_takeToken_155 rfl ?_
              refine z_dup 156 dX9_takeToken_156 rfl ?_
              refine z_getI 157 dX9_takeToken_157 fl_X9_24 zy_50 rfl ?_
              refine z_iconst 160 dX9_takeToken_160 zci_1 ?_
              refine z_iadd 161 dX9_takeToken_161 ?_
              refine z_put 162 dX9_takeToken_162 fp_X9_24 zy_50 rfl (zput_i _) ?_
              refine zk_nmM (fun M15 => ?_)
              refine z_goto 165 82 dX9_takeToken_165 (by decide) ?_
              exact zk_weak (L' := [some (.ref 50), some (.int p1)]) (zLe_s (zLe_s zLe_nl)) (hrec11 M15)
            · intro k16 hk16
              refine z_icne 117 131 dX9_takeToken_117 (by decide) (fun _ => ?_) (fun _ => ?_)
              · refine z_aload_n 120 dX9_takeToken_120 rfl ?_
                refine z_getI 121 dX9_takeToken_121 fl_X9_24 zy_50 rfl ?_
                refine z_aload_n 124 dX9_takeToken_124 rfl ?_
                refine z_getI 125 dX9_takeToken_125 fl_X9_47 zy_50 rfl ?_
                refine z_icne 128 168 dX9_takeToken_128 (by decide) (fun _ => ?_) (fun _ => ?_)
                · exact zk_weak (L' := [some (.ref 50), some (.int p1)]) (zLe_s (zLe_s zLe_nl)) (hk16 ())
                · exact zk_exitw (L' := [some (.ref 50), some (.int p1)]) (zLe_s (zLe_s zLe_nl)) (fun h => h)
              · exact zk_weak (L' := [some (.ref 50), some (.int p1)]) (zLe_s (zLe_s zLe_nl)) (hk16 ())
          · exact zk_exitw (L' := [some (.ref 50), some (.int p1)]) (zLe_s (zLe_s zLe_nl)) (fun h => h)
    · refine z_icge 55 73 dX9_takeToken_55 (by decide) (fun _ => ?_) (fun _ => ?_)
      · refine z_iconst 73 dX9_takeToken_73 zci_4 ?_
        exact zk_exitw (L' := [some (.ref 50), some (.int p1)]) (zLe_s (zLe_s zLe_nl)) (fun h => h)
      · refine z_aload_n 58 dX9_takeToken_58 rfl ?_
        refine z_getR 59 (r := 51) dX9_takeToken_59 fl_X9_11 zy_50 rfl ?_
        refine z_aload_n 62 dX9_takeToken_62 rfl ?_
        refine z_getI 63 dX9_takeToken_63 fl_X9_24 zy_50 rfl ?_
        refine z_baload 66 dX9_takeToken_66 zy_51 ?_
        refine z_cti (zat_S1 67 dX9_takeToken_67 lk_X9_50 ⟨Nat.le_of_ble_eq_true rfl, Nat.le_of_ble_eq_true rfl⟩ (Nat.le_of_ble_eq_true rfl)) (tX9_kindOf E zY0 (M5.1 51 (zn (M5.1 50 4))) M5) (fun x34 => ?_)
        refine z_goto 70 74 dX9_takeToken_70 (by decide) ?_
        exact zk_exitw (L' := [some (.ref 50), some (.int p1)]) (zLe_s (zLe_s zLe_nl)) (fun h => h)
  · refine zk_weak (L' := [some (.ref 50), some (.int p1)]) (zLe_s (zLe_s zLe_nl)) (zk_lp (α := zM) 0 (fun (M1 : zM) => [some (.ref 50), some (.int p1)]) (fun (M1 : zM) => (zY0, M1)) ?_ zFu M)
    intro rec2 hrec2
    intro M1
    refine z_aload_n 0 dX9_takeToken_0 rfl ?_
    refine z_getI 1 dX9_takeToken_1 fl_X9_24 zy_50 rfl ?_
    refine z_aload_n 4 dX9_takeToken_4 rfl ?_
    refine z_getI 5 dX9_takeToken_5 fl_X9_15 zy_50 rfl ?_
    refine z_icge 8 38 dX9_takeToken_8 (by decide) (fun _ => ?_) (fun _ => ?_)
    · exact zk_exitw (L' := [some (.ref 50), some (.int p1)]) (zLe_s (zLe_s zLe_nl)) (fun h => h)
    · refine z_aload_n 11 dX9_takeToken_11 rfl ?_
      refine z_getR 12 (r := 51) dX9_takeToken_12 fl_X9_11 zy_50 rfl ?_
      refine z_aload_n 15 dX9_takeToken_15 rfl ?_
      refine z_getI 16 dX9_takeToken_16 fl_X9_24 zy_50 rfl ?_
      refine z_baload 19 dX9_takeToken_19 zy_51 ?_
      refine z_bipush 20 dX9_takeToken_20 zbp_32 ?_
      refine z_icne 22 38 dX9_takeToken_22 (by decide) (fun _ => ?_) (fun _ => ?_)
      · refine z_aload_n 25 dX9_takeToken_25 rfl ?_
        refine z_dup 26 dX9_takeToken_26 rfl ?_
        refine z_getI 27 dX9_takeToken_27 fl_X9_24 zy_50 rfl ?_
        refine z_iconst 30 dX9_takeToken_30 zci_1 ?_
        refine z_iadd 31 dX9_takeToken_31 ?_
        refine z_put 32 dX9_takeToken_32 fp_X9_24 zy_50 rfl (zput_i _) ?_
        refine zk_nmM (fun M4 => ?_)
        refine z_goto 35 0 dX9_takeToken_35 (by decide) ?_
        exact zk_weak (L' := [some (.ref 50), some (.int p1)]) (zLe_s (zLe_s zLe_nl)) (hrec2 M4)
      · exact zk_exitw (L' := [some (.ref 50), some (.int p1)]) (zLe_s (zLe_s zLe_nl)) (fun h => h)
def fX9_nameOf (p1 : Int32) : Nat :=
  if p1 = (0 : Int32) then (1010) else (if p1 = (1 : Int32) then (1011) else (if p1 = (2 : Int32) then (1012) else (if p1 = (3 : Int32) then (1013) else (if p1 = (4 : Int32) then (1014) else (if p1 = (5 : Int32) then (1015) else (if p1 = (6 : Int32) then (1016) else (if p1 = (7 : Int32) then (1017) else (1018))))))))
set_option maxHeartbeats 4000000 in
set_option maxRecDepth 100000 in
theorem tX9_nameOf (E : zE) (Y : zY) (p1 : Int32) (M : zM) : zFa E mX9_nameOf [.int p1] Y M (some (fX9_nameOf p1)) := by
  refine zF_of (L := [some (.int p1)]) plX9 (Nat.le_of_ble_eq_true rfl) rfl (fun post => ?_)
  show zK E _ post 0 _ _ _ (lt (fX9_nameOf p1) some) _
  unfold fX9_nameOf
  refine z_iload_n 0 dX9_nameOf_0 rfl ?_
  refine z_tscv 1 48 (k := 0) (off := 47) dX9_nameOf_1 (by decide) (by decide) (by decide) (by decide) ?_ (fun n1 => ?_)
  · refine z_ldcS 48 (i := 0) (by decide) rfl rfl dX9_nameOf_48 ?_
    exact z_areturn 50 dX9_nameOf_50 rfl (fun h => h)
  · refine z_tscv 1 51 (k := 1) (off := 50) dX9_nameOf_1 (by decide) (by decide) (by decide) (by decide) ?_ (fun n2 => ?_)
    · refine z_ldcS 51 (i := 1) (by decide) rfl rfl dX9_nameOf_51 ?_
      exact z_areturn 53 dX9_nameOf_53 rfl (fun h => h)
    · refine z_tscv 1 54 (k := 2) (off := 53) dX9_nameOf_1 (by decide) (by decide) (by decide) (by decide) ?_ (fun n3 => ?_)
      · refine z_ldcS 54 (i := 2) (by decide) rfl rfl dX9_nameOf_54 ?_
        exact z_areturn 56 dX9_nameOf_56 rfl (fun h => h)
      · refine z_tscv 1 57 (k := 3) (off := 56) dX9_nameOf_1 (by decide) (by decide) (by decide) (by decide) ?_ (fun n4 => ?_)
        · refine z_ldcS 57 (i := 3) (by decide) rfl rfl dX9_nameOf_57 ?_
          exact z_areturn 59 dX9_nameOf_59 rfl (fun h => h)
        · refine z_tscv 1 60 (k := 4) (off := 59) dX9_nameOf_1 (by decide) (by decide) (by decide) (by decide) ?_ (fun n5 => ?_)
          · refine z_ldcS 60 (i := 4) (by decide) rfl rfl dX9_nameOf_60 ?_
            exact z_areturn 62 dX9_nameOf_62 rfl (fun h => h)
          · refine z_tscv 1 63 (k := 5) (off := 62) dX9_nameOf_1 (by decide) (by decide) (by decide) (by decide) ?_ (fun n6 => ?_)
            · refine z_ldcS 63 (i := 5) (by decide) rfl rfl dX9_nameOf_63 ?_
              exact z_areturn 65 dX9_nameOf_65 rfl (fun h => h)
            · refine z_tscv 1 66 (k := 6) (off := 65) dX9_nameOf_1 (by decide) (by decide) (by decide) (by decide) ?_ (fun n7 => ?_)
              · refine z_ldcS 66 (i := 6) (by decide) rfl rfl dX9_nameOf_66 ?_
                exact z_areturn 68 dX9_nameOf_68 rfl (fun h => h)
              · refine z_tscv 1 69 (k := 7) (off := 68) dX9_nameOf_1 (by decide) (by decide) (by decide) (by decide) ?_ (fun n8 => ?_)
                · refine z_ldcS 69 (i := 7) (by decide) rfl rfl dX9_nameOf_69 ?_
                  exact z_areturn 71 dX9_nameOf_71 rfl (fun h => h)
                · refine z_tsd 1 72 dX9_nameOf_1 (by have e1 := zne n1 (a := 0) (by decide); have e2 := zne n2 (a := 1) (by decide); have e3 := zne n3 (a := 2) (by decide); have e4 := zne n4 (a := 3) (by decide); have e5 := zne n5 (a := 4) (by decide); have e6 := zne n6 (a := 5) (by decide); have e7 := zne n7 (a := 6) (by decide); have e8 := zne n8 (a := 7) (by decide); omega) (by decide) ?_
                  refine z_ldcS 72 (i := 8) (by decide) rfl rfl dX9_nameOf_72 ?_
                  exact z_areturn 74 dX9_nameOf_74 rfl (fun h => h)
theorem zpX9_nameOf (p1 : Int32) : zstr (fX9_nameOf p1) := by
  unfold fX9_nameOf zstr
  (repeat' split) <;> decide
def fX9_isNamed (a1 : Nat) (M : zM) : Option Bool :=
  if (zslen a1) = ((M.1 50 4) - (M.1 50 6)) then (zlp (α := Int32) (fun rec4 => (fun (x3 : Int32) => if (zslen a1) ≤ x3 then (some true) else (grd (zix x3 (zsln a1)) (grd (zix ((M.1 50 6) + x3) 320) (if (zsch a1 (zn x3)) = (M.1 51 (zn ((M.1 50 6) + x3))) then (rec4 (x3 + (1 : Int32))) else (some false)))))) zFu (0 : Int32)) else (some false)
set_option maxHeartbeats 4000000 in
set_option maxRecDepth 100000 in
theorem tX9_isNamed (E : zE) (a1 : Nat) (ha1 : zstr a1) (M : zM) : zFb E mX9_isNamed [.ref 50, .ref a1] zY0 M (fX9_isNamed a1 M) := by
  refine zF_of (L := [some (.ref 50), some (.ref a1), none]) plX9 (Nat.le_of_ble_eq_true rfl) rfl (fun post => ?_)
  unfold fX9_isNamed
  refine z_aload_n 0 dX9_isNamed_0 rfl ?_
  refine z_strlen 1 dX9_isNamed_1 sl_X9_111 ha1 ⟨Nat.le_of_ble_eq_true rfl, Nat.le_of_ble_eq_true rfl⟩ (Nat.le_of_ble_eq_true rfl) (Nat.le_of_ble_eq_true rfl) ?_
  refine z_aload_n 4 dX9_isNamed_4 rfl ?_
  refine z_getI 5 dX9_isNamed_5 fl_X9_24 zy_50 rfl ?_
  refine z_aload_n 8 dX9_isNamed_8 rfl ?_
  refine z_getI 9 dX9_isNamed_9 fl_X9_47 zy_50 rfl ?_
  refine z_isub 12 dX9_isNamed_12 ?_
  refine z_iceq 13 18 dX9_isNamed_13 (by decide) (fun _ => ?_) (fun _ => ?_)
  · refine z_iconst 18 dX9_isNamed_18 zci_0 ?_
    refine z_istore_n 19 (L' := [some (.ref 50), some (.ref a1), some (.int (0 : Int32))]) dX9_isNamed_19 (by decide) rfl ?_
    refine zk_weak (L' := [some (.ref 50), some (.ref a1), some (.int (0 : Int32))]) (zLe_s (zLe_s (zLe_s zLe_nl))) (zk_lp (α := Int32) 20 (fun (x3 : Int32) => [some (.ref 50), some (.ref a1), some (.int x3)]) (fun (x3 : Int32) => (zY0, M)) ?_ zFu (0 : Int32))
    intro rec4 hrec4
    intro x3
    refine z_iload_n 20 dX9_isNamed_20 rfl ?_
    refine z_aload_n 21 dX9_isNamed_21 rfl ?_
    refine z_strlen 22 dX9_isNamed_22 sl_X9_111 ha1 ⟨Nat.le_of_ble_eq_true rfl, Nat.le_of_ble_eq_true rfl⟩ (Nat.le_of_ble_eq_true rfl) (Nat.le_of_ble_eq_true rfl) ?_
    refine z_icge 25 55 dX9_isNamed_25 (by decide) (fun _ => ?_) (fun _ => ?_)
    · refine z_iconst 55 dX9_isNamed_55 zci_1 ?_
      exact z_ireturn 56 (v := zb true) dX9_isNamed_56 rfl (zput_b true).1 (fun h => h)
    · refine z_aload_n 28 dX9_isNamed_28 rfl ?_
      refine z_iload_n 29 dX9_isNamed_29 rfl ?_
      refine z_strcat 30 dX9_isNamed_30 sl_X9_115 ha1 ⟨Nat.le_of_ble_eq_true rfl, Nat.le_of_ble_eq_true rfl⟩ (Nat.le_of_ble_eq_true rfl) (Nat.le_of_ble_eq_true rfl) ?_
      refine z_aload_n 33 dX9_isNamed_33 rfl ?_
      refine z_getR 34 (r := 51) dX9_isNamed_34 fl_X9_11 zy_50 rfl ?_
      refine z_aload_n 37 dX9_isNamed_37 rfl ?_
      refine z_getI 38 dX9_isNamed_38 fl_X9_47 zy_50 rfl ?_
      refine z_iload_n 41 dX9_isNamed_41 rfl ?_
      refine z_iadd 42 dX9_isNamed_42 ?_
      refine z_baload 43 dX9_isNamed_43 zy_51 ?_
      refine z_iceq 44 49 dX9_isNamed_44 (by decide) (fun _ => ?_) (fun _ => ?_)
      · refine z_iinc 49 (v := (x3 + (1 : Int32))) (L' := [some (.ref 50), some (.ref a1), some (.int (x3 + (1 : Int32)))]) dX9_isNamed_49 rfl (zinc zci_1 _) (by decide) rfl ?_
        refine z_goto 52 20 dX9_isNamed_52 (by decide) ?_
        exact zk_weak (L' := [some (.ref 50), some (.ref a1), some (.int (x3 + (1 : Int32)))]) (zLe_s (zLe_s (zLe_s zLe_nl))) (hrec4 (x3 + (1 : Int32)))
      · refine z_iconst 47 dX9_isNamed_47 zci_0 ?_
        exact z_ireturn 48 (v := zb false) dX9_isNamed_48 rfl (zput_b false).1 (fun h => h)
  · refine z_iconst 16 dX9_isNamed_16 zci_0 ?_
    exact z_ireturn 17 (v := zb false) dX9_isNamed_17 rfl (zput_b false).1 (fun h => h)
def fX9_itemNamed (M : zM) : Option Int32 :=
  zlp (α := Int32) (fun rec6 => (fun (x5 : Int32) => if (9 : Int32) ≤ x5 then (some (-4 : Int32)) else (lt (fX9_nameOf x5) (fun (s7 : Nat) => sq (fX9_isNamed s7 M) (fun (b8 : Bool) => if b8 = false then (rec6 (x5 + (1 : Int32))) else (some x5)))))) zFu (0 : Int32)
set_option maxHeartbeats 4000000 in
set_option maxRecDepth 100000 in
theorem tX9_itemNamed (E : zE)  (M : zM) : zFi E mX9_itemNamed [.ref 50] zY0 M (fX9_itemNamed M) := by
  refine zF_of (L := [some (.ref 50), none]) plX9 (Nat.le_of_ble_eq_true rfl) rfl (fun post => ?_)
  unfold fX9_itemNamed
  refine z_iconst 0 dX9_itemNamed_0 zci_0 ?_
  refine z_istore_n 1 (L' := [some (.ref 50), some (.int (0 : Int32))]) dX9_itemNamed_1 (by decide) rfl ?_
  refine zk_weak (L' := [some (.ref 50), some (.int (0 : Int32))]) (zLe_s (zLe_s zLe_nl)) (zk_lp (α := Int32) 2 (fun (x5 : Int32) => [some (.ref 50), some (.int x5)]) (fun (x5 : Int32) => (zY0, M)) ?_ zFu (0 : Int32))
  intro rec6 hrec6
  intro x5
  refine z_iload_n 2 dX9_itemNamed_2 rfl ?_
  refine z_bipush 3 dX9_itemNamed_3 zbp_9 ?_
  refine z_icge 5 27 dX9_itemNamed_5 (by decide) (fun _ => ?_) (fun _ => ?_)
  · refine z_bipush 27 dX9_itemNamed_27 zbp_m4 ?_
    exact z_ireturn 29 dX9_itemNamed_29 rfl rfl (fun h => h)
  · refine z_aload_n 8 dX9_itemNamed_8 rfl ?_
    refine z_iload_n 9 dX9_itemNamed_9 rfl ?_
    refine z_ctaP (zat_S1 10 dX9_itemNamed_10 lk_X9_103 ⟨Nat.le_of_ble_eq_true rfl, Nat.le_of_ble_eq_true rfl⟩ (Nat.le_of_ble_eq_true rfl)) (tX9_nameOf E zY0 x5 M) (P := zstr) (zpX9_nameOf x5) (fun s7 hs7 => ?_)
    refine z_cb (zat_V1 13 dX9_itemNamed_13 lk_X9_107 zy_50 rfl rfl ⟨Nat.le_of_ble_eq_true rfl, Nat.le_of_ble_eq_true rfl⟩ (Nat.le_of_ble_eq_true rfl)) (tX9_isNamed E s7 hs7 M) (fun b8 => ?_)
    refine z_ifeqb 16 21 dX9_itemNamed_16 (by decide) (fun _ => ?_) (fun _ => ?_)
    · refine z_iinc 21 (v := (x5 + (1 : Int32))) (L' := [some (.ref 50), some (.int (x5 + (1 : Int32)))]) dX9_itemNamed_21 rfl (zinc zci_1 _) (by decide) rfl ?_
      refine z_goto 24 2 dX9_itemNamed_24 (by decide) ?_
      exact zk_weak (L' := [some (.ref 50), some (.int (x5 + (1 : Int32)))]) (zLe_s (zLe_s zLe_nl)) (hrec6 (x5 + (1 : Int32)))
    · refine z_iload_n 19 dX9_itemNamed_19 rfl ?_
      exact z_ireturn 20 dX9_itemNamed_20 rfl rfl (fun h => h)
def fX10_isLetter (p1 : Int32) : Bool :=
  (fX10_within p1 (0 : Int32) (7 : Int32))
set_option maxHeartbeats 4000000 in
set_option maxRecDepth 100000 in
theorem tX10_isLetter (E : zE) (Y : zY) (p1 : Int32) (M : zM) : zFb E mX10_isLetter [.int p1] Y M (some (fX10_isLetter p1)) := by
  refine zF_of (L := [some (.int p1)]) plX10 (Nat.le_of_ble_eq_true rfl) rfl (fun post => ?_)
  show zK E _ post 0 _ _ _ (lt (fX10_isLetter p1) some) _
  unfold fX10_isLetter
  refine z_iload_n 0 dX10_isLetter_0 rfl ?_
  refine z_iconst 1 dX10_isLetter_1 zci_0 ?_
  refine z_bipush 2 dX10_isLetter_2 zbp_7 ?_
  refine z_ctb0 (zat_S3 4 dX10_isLetter_4 lk_X10_89 ⟨Nat.le_of_ble_eq_true rfl, Nat.le_of_ble_eq_true rfl⟩ (Nat.le_of_ble_eq_true rfl)) (tX10_within E Y p1 (0 : Int32) (7 : Int32) M) ?_
  exact z_ireturn 7 (v := zb (fX10_within p1 (0 : Int32) (7 : Int32))) dX10_isLetter_7 rfl (zput_b (fX10_within p1 (0 : Int32) (7 : Int32))).1 (fun h => h)
def fX9_takeLetter (M : zM) : Option (Bool × zM) :=
  bi (fX9_takeToken (1 : Int32) M) (fun (b2 : Bool) (M1 : zM) => if b2 = false then (some (false, M1)) else (grd (zix (M1.1 50 6) 320) (lt (zwI M1 50 7 ((M1.1 51 (zn (M1.1 50 6))) - (97 : Int32))) (fun (M3 : zM) => jn (α := zM) (fun (M9 : zM) => some (true, M9)) (fun k10 => jn (α := Unit) (fun (_ : Unit) => bi (fX9_fail (3 : Int32) M3) (fun (b13 : Bool) (M12 : zM) => if b13 = false then (some (false, M12)) else (k10 M12))) (fun k14 => if ((M3.1 50 4) - (M3.1 50 6)) = (1 : Int32) then (lt (fX10_isLetter (M3.1 50 7)) (fun (b15 : Bool) => if b15 = false then (k14 ()) else (k10 M3))) else (k14 ())))))))
set_option maxHeartbeats 4000000 in
set_option maxRecDepth 100000 in
theorem tX9_takeLetter (E : zE)  (M : zM) : zFB E mX9_takeLetter [.ref 50] zY0 M (fX9_takeLetter M) := by
  refine zF_of (L := [some (.ref 50)]) plX9 (Nat.le_of_ble_eq_true rfl) rfl (fun post => ?_)
  unfold fX9_takeLetter
  refine z_aload_n 0 dX9_takeLetter_0 rfl ?_
  refine z_iconst 1 dX9_takeLetter_1 zci_1 ?_
  refine z_cB (zat_V1 2 dX9_takeLetter_2 lk_X9_33 zy_50 rfl rfl ⟨Nat.le_of_ble_eq_true rfl, Nat.le_of_ble_eq_true rfl⟩ (Nat.le_of_ble_eq_true rfl)) (tX9_takeToken E (1 : Int32) M) (fun b2 M1 => ?_)
  refine z_ifneb 5 10 dX9_takeLetter_5 (by decide) (fun _ => ?_) (fun _ => ?_)
  · refine z_iconst 8 dX9_takeLetter_8 zci_0 ?_
    exact z_ireturn 9 (v := zb false) dX9_takeLetter_9 rfl (zput_b false).1 (fun h => h)
  · refine z_aload_n 10 dX9_takeLetter_10 rfl ?_
    refine z_aload_n 11 dX9_takeLetter_11 rfl ?_
    refine z_getR 12 (r := 51) dX9_takeLetter_12 fl_X9_11 zy_50 rfl ?_
    refine z_aload_n 15 dX9_takeLetter_15 rfl ?_
    refine z_getI 16 dX9_takeLetter_16 fl_X9_47 zy_50 rfl ?_
    refine z_baload 19 dX9_takeLetter_19 zy_51 ?_
    refine z_bipush 20 dX9_takeLetter_20 zbp_97 ?_
    refine z_isub 22 dX9_takeLetter_22 ?_
    refine z_put 23 dX9_takeLetter_23 fp_X9_54 zy_50 rfl (zput_i _) ?_
    refine zk_nmM (fun M3 => ?_)
    refine z_aload_n 26 dX9_takeLetter_26 rfl ?_
    refine z_getI 27 dX9_takeLetter_27 fl_X9_24 zy_50 rfl ?_
    refine z_aload_n 30 dX9_takeLetter_30 rfl ?_
    refine z_getI 31 dX9_takeLetter_31 fl_X9_47 zy_50 rfl ?_
    refine z_isub 34 dX9_takeLetter_34 ?_
    refine z_iconst 35 dX9_takeLetter_35 zci_1 ?_
    refine zk_jn (α := zM) 57 (fun (M9 : zM) => [none]) (fun (M9 : zM) => []) (fun (M9 : zM) => (zY0, M9)) ?_ ?_
    · intro M9
      refine z_iconst 57 dX9_takeLetter_57 zci_1 ?_
      refine z_goto 58 62 dX9_takeLetter_58 (by decide) ?_
      exact z_ireturn 62 (v := zb true) dX9_takeLetter_62 rfl (zput_b true).1 (fun h => h)
    · intro k10 hk10
      refine zk_jn (α := Unit) 49 (fun (_ : Unit) => [some (.ref 50)]) (fun (_ : Unit) => []) (fun (_ : Unit) => (zY0, M3)) ?_ ?_
      · intro _
        refine z_aload_n 49 dX9_takeLetter_49 rfl ?_
        refine z_iconst 50 dX9_takeLetter_50 zci_3 ?_
        refine z_cB (zat_V1 51 dX9_takeLetter_51 lk_X9_57 zy_50 rfl rfl ⟨Nat.le_of_ble_eq_true rfl, Nat.le_of_ble_eq_true rfl⟩ (Nat.le_of_ble_eq_true rfl)) (tX9_fail E (3 : Int32) M3) (fun b13 M12 => ?_)
        refine z_ifeqb 54 61 dX9_takeLetter_54 (by decide) (fun _ => ?_) (fun _ => ?_)
        · refine z_iconst 61 dX9_takeLetter_61 zci_0 ?_
          exact z_ireturn 62 (v := zb false) dX9_takeLetter_62 rfl (zput_b false).1 (fun h => h)
        · exact zk_weak (L' := [none]) (zLe_n zLe_nl) (hk10 M12)
      · intro k14 hk14
        refine z_icne 36 49 dX9_takeLetter_36 (by decide) (fun _ => ?_) (fun _ => ?_)
        · refine z_aload_n 39 dX9_takeLetter_39 rfl ?_
          refine z_getI 40 dX9_takeLetter_40 fl_X9_54 zy_50 rfl ?_
          refine z_ctb (zat_N1 43 dX9_takeLetter_43 lk_X9_64 ⟨Nat.le_of_ble_eq_true rfl, Nat.le_of_ble_eq_true rfl⟩ (Nat.le_of_ble_eq_true rfl)) (tX10_isLetter E zY0 (M3.1 50 7) M3) (fun b15 => ?_)
          refine z_ifneb 46 57 dX9_takeLetter_46 (by decide) (fun _ => ?_) (fun _ => ?_)
          · exact zk_weak (L' := [some (.ref 50)]) (zLe_s zLe_nl) (hk14 ())
          · exact zk_weak (L' := [none]) (zLe_n zLe_nl) (hk10 M3)
        · exact zk_weak (L' := [some (.ref 50)]) (zLe_s zLe_nl) (hk14 ())
def fX9_takeNumber (p1 : Int32) (p2 : Int32) (M : zM) : Option (Bool × zM) :=
  bi (fX9_takeToken (2 : Int32) M) (fun (b2 : Bool) (M1 : zM) => if b2 = false then (some (false, M1)) else (lt (fX10_within (M1.1 50 7) p1 p2) (fun (b3 : Bool) => jn (α := zM) (fun (M6 : zM) => some (true, M6)) (fun k7 => if b3 = false then (bi (fX9_fail (3 : Int32) M1) (fun (b9 : Bool) (M8 : zM) => if b9 = false then (some (false, M8)) else (k7 M8))) else (k7 M1)))))
set_option maxHeartbeats 4000000 in
set_option maxRecDepth 100000 in
theorem tX9_takeNumber (E : zE) (p1 : Int32) (p2 : Int32) (M : zM) : zFB E mX9_takeNumber [.ref 50, .int p1, .int p2] zY0 M (fX9_takeNumber p1 p2 M) := by
  refine zF_of (L := [some (.ref 50), some (.int p1), some (.int p2)]) plX9 (Nat.le_of_ble_eq_true rfl) rfl (fun post => ?_)
  unfold fX9_takeNumber
  refine z_aload_n 0 dX9_takeNumber_0 rfl ?_
  refine z_iconst 1 dX9_takeNumber_1 zci_2 ?_
  refine z_cB (zat_V1 2 dX9_takeNumber_2 lk_X9_33 zy_50 rfl rfl ⟨Nat.le_of_ble_eq_true rfl, Nat.le_of_ble_eq_true rfl⟩ (Nat.le_of_ble_eq_true rfl)) (tX9_takeToken E (2 : Int32) M) (fun b2 M1 => ?_)
  refine z_ifneb 5 10 dX9_takeNumber_5 (by decide) (fun _ => ?_) (fun _ => ?_)
  · refine z_iconst 8 dX9_takeNumber_8 zci_0 ?_
    exact z_ireturn 9 (v := zb false) dX9_takeNumber_9 rfl (zput_b false).1 (fun h => h)
  · refine z_aload_n 10 dX9_takeNumber_10 rfl ?_
    refine z_getI 11 dX9_takeNumber_11 fl_X9_54 zy_50 rfl ?_
    refine z_iload_n 14 dX9_takeNumber_14 rfl ?_
    refine z_iload_n 15 dX9_takeNumber_15 rfl ?_
    refine z_ctb (zat_N3 16 dX9_takeNumber_16 lk_X9_60 ⟨Nat.le_of_ble_eq_true rfl, Nat.le_of_ble_eq_true rfl⟩ (Nat.le_of_ble_eq_true rfl)) (tX10_within E zY0 (M1.1 50 7) p1 p2 M1) (fun b3 => ?_)
    refine zk_jn (α := zM) 30 (fun (M6 : zM) => [none, none, none]) (fun (M6 : zM) => []) (fun (M6 : zM) => (zY0, M6)) ?_ ?_
    · intro M6
      refine z_iconst 30 dX9_takeNumber_30 zci_1 ?_
      refine z_goto 31 35 dX9_takeNumber_31 (by decide) ?_
      exact z_ireturn 35 (v := zb true) dX9_takeNumber_35 rfl (zput_b true).1 (fun h => h)
    · intro k7 hk7
      refine z_ifneb 19 30 dX9_takeNumber_19 (by decide) (fun _ => ?_) (fun _ => ?_)
      · refine z_aload_n 22 dX9_takeNumber_22 rfl ?_
        refine z_iconst 23 dX9_takeNumber_23 zci_3 ?_
        refine z_cB (zat_V1 24 dX9_takeNumber_24 lk_X9_57 zy_50 rfl rfl ⟨Nat.le_of_ble_eq_true rfl, Nat.le_of_ble_eq_true rfl⟩ (Nat.le_of_ble_eq_true rfl)) (tX9_fail E (3 : Int32) M1) (fun b9 M8 => ?_)
        refine z_ifeqb 27 34 dX9_takeNumber_27 (by decide) (fun _ => ?_) (fun _ => ?_)
        · refine z_iconst 34 dX9_takeNumber_34 zci_0 ?_
          exact z_ireturn 35 (v := zb false) dX9_takeNumber_35 rfl (zput_b false).1 (fun h => h)
        · exact zk_weak (L' := [none, none, none]) (zLe_n (zLe_n (zLe_n zLe_nl))) (hk7 M8)
      · exact zk_weak (L' := [none, none, none]) (zLe_n (zLe_n (zLe_n zLe_nl))) (hk7 M1)
def fX9_takeMixed (a1 : Nat) (M : zM) : Option (Bool × zM) :=
  bi (fX9_takeLetter M) (fun (b2 : Bool) (M1 : zM) => if b2 = false then (some (false, M1)) else (lt ((M1.1 50 7)) (fun (x3 : Int32) => bi (fX9_takeLetter M1) (fun (b5 : Bool) (M4 : zM) => if b5 = false then (some (false, M4)) else (lt ((M4.1 50 7)) (fun (x6 : Int32) => if x3 = x6 then (bi (fX9_fail (3 : Int32) M4) (fun (b8 : Bool) (M7 : zM) => some (b8, M7))) else (grd (zix ((x3 * (8 : Int32)) + x6) 64) (if (M4.1 (a1 + 2) (zn ((x3 * (8 : Int32)) + x6))) = (-4 : Int32) then (bi (fX9_takeNumber (0 : Int32) (50 : Int32) M4) (fun (b10 : Bool) (M9 : zM) => if b10 = false then (some (false, M9)) else (grd (zix ((x3 * (8 : Int32)) + x6) 64) (lt (zwI M9 (a1 + 2) (zn ((x3 * (8 : Int32)) + x6)) (M9.1 50 7)) (fun (M11 : zM) => some (true, M11)))))) else (bi (fX9_fail (4 : Int32) M4) (fun (b13 : Bool) (M12 : zM) => some (b13, M12)))))))))))
set_option maxHeartbeats 4000000 in
set_option maxRecDepth 100000 in
theorem tX9_takeMixed (E : zE) (a1 : Nat) (ha1 : zsX6 zY0 a1) (M : zM) : zFB E mX9_takeMixed [.ref 50, .ref a1] zY0 M (fX9_takeMixed a1 M) := by
  refine zF_of (L := [some (.ref 50), some (.ref a1), none, none]) plX9 (Nat.le_of_ble_eq_true rfl) rfl (fun post => ?_)
  unfold fX9_takeMixed
  refine z_aload_n 0 dX9_takeMixed_0 rfl ?_
  refine z_cB (zat_V0 1 dX9_takeMixed_1 lk_X9_96 zy_50 rfl rfl ⟨Nat.le_of_ble_eq_true rfl, Nat.le_of_ble_eq_true rfl⟩ (Nat.le_of_ble_eq_true rfl)) (tX9_takeLetter E M) (fun b2 M1 => ?_)
  refine z_ifneb 4 9 dX9_takeMixed_4 (by decide) (fun _ => ?_) (fun _ => ?_)
  · refine z_iconst 7 dX9_takeMixed_7 zci_0 ?_
    exact z_ireturn 8 (v := zb false) dX9_takeMixed_8 rfl (zput_b false).1 (fun h => h)
  · refine z_aload_n 9 dX9_takeMixed_9 rfl ?_
    refine z_getI 10 dX9_takeMixed_10 fl_X9_54 zy_50 rfl ?_
    refine zk_nmI (fun x3 => ?_)
    refine z_istore_n 13 (L' := [some (.ref 50), some (.ref a1), some (.int x3), none]) dX9_takeMixed_13 (by decide) rfl ?_
    refine z_aload_n 14 dX9_takeMixed_14 rfl ?_
    refine z_cB (zat_V0 15 dX9_takeMixed_15 lk_X9_96 zy_50 rfl rfl ⟨Nat.le_of_ble_eq_true rfl, Nat.le_of_ble_eq_true rfl⟩ (Nat.le_of_ble_eq_true rfl)) (tX9_takeLetter E M1) (fun b5 M4 => ?_)
    refine z_ifneb 18 23 dX9_takeMixed_18 (by decide) (fun _ => ?_) (fun _ => ?_)
    · refine z_iconst 21 dX9_takeMixed_21 zci_0 ?_
      exact z_ireturn 22 (v := zb false) dX9_takeMixed_22 rfl (zput_b false).1 (fun h => h)
    · refine z_aload_n 23 dX9_takeMixed_23 rfl ?_
      refine z_getI 24 dX9_takeMixed_24 fl_X9_54 zy_50 rfl ?_
      refine zk_nmI (fun x6 => ?_)
      refine z_istore_n 27 (L' := [some (.ref 50), some (.ref a1), some (.int x3), some (.int x6)]) dX9_takeMixed_27 (by decide) rfl ?_
      refine z_iload_n 28 dX9_takeMixed_28 rfl ?_
      refine z_iload_n 29 dX9_takeMixed_29 rfl ?_
      refine z_icne 30 39 dX9_takeMixed_30 (by decide) (fun _ => ?_) (fun _ => ?_)
      · refine z_aload_n 33 dX9_takeMixed_33 rfl ?_
        refine z_iconst 34 dX9_takeMixed_34 zci_3 ?_
        refine z_cB (zat_V1 35 dX9_takeMixed_35 lk_X9_57 zy_50 rfl rfl ⟨Nat.le_of_ble_eq_true rfl, Nat.le_of_ble_eq_true rfl⟩ (Nat.le_of_ble_eq_true rfl)) (tX9_fail E (3 : Int32) M4) (fun b8 M7 => ?_)
        exact z_ireturn 38 (v := zb b8) dX9_takeMixed_38 rfl (zput_b b8).1 (fun h => h)
      · refine z_aload_n 39 dX9_takeMixed_39 rfl ?_
        refine z_getR 40 (r := (a1 + 2)) dX9_takeMixed_40 fl_X9_100 ha1.1 rfl ?_
        refine z_iload_n 43 dX9_takeMixed_43 rfl ?_
        refine z_bipush 44 dX9_takeMixed_44 zbp_8 ?_
        refine z_imul 46 dX9_takeMixed_46 ?_
        refine z_iload_n 47 dX9_takeMixed_47 rfl ?_
        refine z_iadd 48 dX9_takeMixed_48 ?_
        refine z_iaload 49 dX9_takeMixed_49 ha1.2.2 ?_
        refine z_bipush 50 dX9_takeMixed_50 zbp_m4 ?_
        refine z_iceq 52 61 dX9_takeMixed_52 (by decide) (fun _ => ?_) (fun _ => ?_)
        · refine z_aload_n 61 dX9_takeMixed_61 rfl ?_
          refine z_iconst 62 dX9_takeMixed_62 zci_0 ?_
          refine z_bipush 63 dX9_takeMixed_63 zbp_50 ?_
          refine z_cB (zat_V2 65 dX9_takeMixed_65 lk_X9_92 zy_50 rfl rfl ⟨Nat.le_of_ble_eq_true rfl, Nat.le_of_ble_eq_true rfl⟩ (Nat.le_of_ble_eq_true rfl)) (tX9_takeNumber E (0 : Int32) (50 : Int32) M4) (fun b10 M9 => ?_)
          refine z_ifneb 68 73 dX9_takeMixed_68 (by decide) (fun _ => ?_) (fun _ => ?_)
          · refine z_iconst 71 dX9_takeMixed_71 zci_0 ?_
            exact z_ireturn 72 (v := zb false) dX9_takeMixed_72 rfl (zput_b false).1 (fun h => h)
          · refine z_aload_n 73 dX9_takeMixed_73 rfl ?_
            refine z_getR 74 (r := (a1 + 2)) dX9_takeMixed_74 fl_X9_100 ha1.1 rfl ?_
            refine z_iload_n 77 dX9_takeMixed_77 rfl ?_
            refine z_bipush 78 dX9_takeMixed_78 zbp_8 ?_
            refine z_imul 80 dX9_takeMixed_80 ?_
            refine z_iload_n 81 dX9_takeMixed_81 rfl ?_
            refine z_iadd 82 dX9_takeMixed_82 ?_
            refine z_aload_n 83 dX9_takeMixed_83 rfl ?_
            refine z_getI 84 dX9_takeMixed_84 fl_X9_54 zy_50 rfl ?_
            refine z_iastore 87 dX9_takeMixed_87 ha1.2.2 ?_
            refine zk_nmM (fun M11 => ?_)
            refine z_iconst 88 dX9_takeMixed_88 zci_1 ?_
            exact z_ireturn 89 (v := zb true) dX9_takeMixed_89 rfl (zput_b true).1 (fun h => h)
        · refine z_aload_n 55 dX9_takeMixed_55 rfl ?_
          refine z_iconst 56 dX9_takeMixed_56 zci_4 ?_
          refine z_cB (zat_V1 57 dX9_takeMixed_57 lk_X9_57 zy_50 rfl rfl ⟨Nat.le_of_ble_eq_true rfl, Nat.le_of_ble_eq_true rfl⟩ (Nat.le_of_ble_eq_true rfl)) (tX9_fail E (4 : Int32) M4) (fun b13 M12 => ?_)
          exact z_ireturn 60 (v := zb b13) dX9_takeMixed_60 rfl (zput_b b13).1 (fun h => h)
def fX9_takeMinutes (a1 : Nat) (M : zM) : Option (Bool × zM) :=
  bi (fX9_takeNumber (0 : Int32) (500 : Int32) M) (fun (b2 : Bool) (M1 : zM) => if b2 = false then (some (false, M1)) else (grd (zix (0 : Int32) 10) (lt (zwI M1 a1 (zn (0 : Int32)) (M1.1 50 7)) (fun (M3 : zM) => grd (zix (0 : Int32) 10) (bi (fX9_takeNumber (M3.1 a1 (zn (0 : Int32))) (500 : Int32) M3) (fun (b5 : Bool) (M4 : zM) => if b5 = false then (some (false, M4)) else (grd (zix (1 : Int32) 10) (lt (zwI M4 a1 (zn (1 : Int32)) (M4.1 50 7)) (fun (M6 : zM) => grd (zix (0 : Int32) 10) (grd (zix (1 : Int32) 10) (bi (fX9_takeNumber (M6.1 a1 (zn (0 : Int32))) (M6.1 a1 (zn (1 : Int32))) M6) (fun (b8 : Bool) (M7 : zM) => if b8 = false then (some (false, M7)) else (grd (zix (2 : Int32) 10) (lt (zwI M7 a1 (zn (2 : Int32)) (M7.1 50 7)) (fun (M9 : zM) => bi (fX9_takeNumber (0 : Int32) (9 : Int32) M9) (fun (b11 : Bool) (M10 : zM) => if b11 = false then (some (false, M10)) else (grd (zix (3 : Int32) 10) (lt (zwI M10 a1 (zn (3 : Int32)) (M10.1 50 7)) (fun (M12 : zM) => some (true, M12))))))))))))))))))))
set_option maxHeartbeats 4000000 in
set_option maxRecDepth 100000 in
theorem tX9_takeMinutes (E : zE) (a1 : Nat) (ha1 : zY0[a1]? = some (.inr (0, 10, []))) (M : zM) : zFB E mX9_takeMinutes [.ref 50, .ref a1] zY0 M (fX9_takeMinutes a1 M) := by
  refine zF_of (L := [some (.ref 50), some (.ref a1)]) plX9 (Nat.le_of_ble_eq_true rfl) rfl (fun post => ?_)
  unfold fX9_takeMinutes
  refine z_aload_n 0 dX9_takeMinutes_0 rfl ?_
  refine z_iconst 1 dX9_takeMinutes_1 zci_0 ?_
  refine z_sipush 2 dX9_takeMinutes_2 zsp_500 ?_
  refine z_cB (zat_V2 5 dX9_takeMinutes_5 lk_X9_92 zy_50 rfl rfl ⟨Nat.le_of_ble_eq_true rfl, Nat.le_of_ble_eq_true rfl⟩ (Nat.le_of_ble_eq_true rfl)) (tX9_takeNumber E (0 : Int32) (500 : Int32) M) (fun b2 M1 => ?_)
  refine z_ifneb 8 13 dX9_takeMinutes_8 (by decide) (fun _ => ?_) (fun _ => ?_)
  · refine z_iconst 11 dX9_takeMinutes_11 zci_0 ?_
    exact z_ireturn 12 (v := zb false) dX9_takeMinutes_12 rfl (zput_b false).1 (fun h => h)
  · refine z_aload_n 13 dX9_takeMinutes_13 rfl ?_
    refine z_iconst 14 dX9_takeMinutes_14 zci_0 ?_
    refine z_aload_n 15 dX9_takeMinutes_15 rfl ?_
    refine z_getI 16 dX9_takeMinutes_16 fl_X9_54 zy_50 rfl ?_
    refine z_iastore 19 dX9_takeMinutes_19 ha1 ?_
    refine zk_nmM (fun M3 => ?_)
    refine z_aload_n 20 dX9_takeMinutes_20 rfl ?_
    refine z_aload_n 21 dX9_takeMinutes_21 rfl ?_
    refine z_iconst 22 dX9_takeMinutes_22 zci_0 ?_
    refine z_iaload 23 dX9_takeMinutes_23 ha1 ?_
    refine z_sipush 24 dX9_takeMinutes_24 zsp_500 ?_
    refine z_cB (zat_V2 27 dX9_takeMinutes_27 lk_X9_92 zy_50 rfl rfl ⟨Nat.le_of_ble_eq_true rfl, Nat.le_of_ble_eq_true rfl⟩ (Nat.le_of_ble_eq_true rfl)) (tX9_takeNumber E (M3.1 a1 (zn (0 : Int32))) (500 : Int32) M3) (fun b5 M4 => ?_)
    refine z_ifneb 30 35 dX9_takeMinutes_30 (by decide) (fun _ => ?_) (fun _ => ?_)
    · refine z_iconst 33 dX9_takeMinutes_33 zci_0 ?_
      exact z_ireturn 34 (v := zb false) dX9_takeMinutes_34 rfl (zput_b false).1 (fun h => h)
    · refine z_aload_n 35 dX9_takeMinutes_35 rfl ?_
      refine z_iconst 36 dX9_takeMinutes_36 zci_1 ?_
      refine z_aload_n 37 dX9_takeMinutes_37 rfl ?_
      refine z_getI 38 dX9_takeMinutes_38 fl_X9_54 zy_50 rfl ?_
      refine z_iastore 41 dX9_takeMinutes_41 ha1 ?_
      refine zk_nmM (fun M6 => ?_)
      refine z_aload_n 42 dX9_takeMinutes_42 rfl ?_
      refine z_aload_n 43 dX9_takeMinutes_43 rfl ?_
      refine z_iconst 44 dX9_takeMinutes_44 zci_0 ?_
      refine z_iaload 45 dX9_takeMinutes_45 ha1 ?_
      refine z_aload_n 46 dX9_takeMinutes_46 rfl ?_
      refine z_iconst 47 dX9_takeMinutes_47 zci_1 ?_
      refine z_iaload 48 dX9_takeMinutes_48 ha1 ?_
      refine z_cB (zat_V2 49 dX9_takeMinutes_49 lk_X9_92 zy_50 rfl rfl ⟨Nat.le_of_ble_eq_true rfl, Nat.le_of_ble_eq_true rfl⟩ (Nat.le_of_ble_eq_true rfl)) (tX9_takeNumber E (M6.1 a1 (zn (0 : Int32))) (M6.1 a1 (zn (1 : Int32))) M6) (fun b8 M7 => ?_)
      refine z_ifneb 52 57 dX9_takeMinutes_52 (by decide) (fun _ => ?_) (fun _ => ?_)
      · refine z_iconst 55 dX9_takeMinutes_55 zci_0 ?_
        exact z_ireturn 56 (v := zb false) dX9_takeMinutes_56 rfl (zput_b false).1 (fun h => h)
      · refine z_aload_n 57 dX9_takeMinutes_57 rfl ?_
        refine z_iconst 58 dX9_takeMinutes_58 zci_2 ?_
        refine z_aload_n 59 dX9_takeMinutes_59 rfl ?_
        refine z_getI 60 dX9_takeMinutes_60 fl_X9_54 zy_50 rfl ?_
        refine z_iastore 63 dX9_takeMinutes_63 ha1 ?_
        refine zk_nmM (fun M9 => ?_)
        refine z_aload_n 64 dX9_takeMinutes_64 rfl ?_
        refine z_iconst 65 dX9_takeMinutes_65 zci_0 ?_
        refine z_bipush 66 dX9_takeMinutes_66 zbp_9 ?_
        refine z_cB (zat_V2 68 dX9_takeMinutes_68 lk_X9_92 zy_50 rfl rfl ⟨Nat.le_of_ble_eq_true rfl, Nat.le_of_ble_eq_true rfl⟩ (Nat.le_of_ble_eq_true rfl)) (tX9_takeNumber E (0 : Int32) (9 : Int32) M9) (fun b11 M10 => ?_)
        refine z_ifneb 71 76 dX9_takeMinutes_71 (by decide) (fun _ => ?_) (fun _ => ?_)
        · refine z_iconst 74 dX9_takeMinutes_74 zci_0 ?_
          exact z_ireturn 75 (v := zb false) dX9_takeMinutes_75 rfl (zput_b false).1 (fun h => h)
        · refine z_aload_n 76 dX9_takeMinutes_76 rfl ?_
          refine z_iconst 77 dX9_takeMinutes_77 zci_3 ?_
          refine z_aload_n 78 dX9_takeMinutes_78 rfl ?_
          refine z_getI 79 dX9_takeMinutes_79 fl_X9_54 zy_50 rfl ?_
          refine z_iastore 82 dX9_takeMinutes_82 ha1 ?_
          refine zk_nmM (fun M12 => ?_)
          refine z_iconst 83 dX9_takeMinutes_83 zci_1 ?_
          exact z_ireturn 84 (v := zb true) dX9_takeMinutes_84 rfl (zput_b true).1 (fun h => h)
def fX9_takePoints (a1 : Nat) (p2 : Int32) (M : zM) : Option (Bool × zM) :=
  lt (if p2 ≤ (6 : Int32) then (((p2 - (6 : Int32)) + (8 : Int32))) else ((9 : Int32))) (fun (x1 : Int32) => lt (if (7 : Int32) ≤ x1 then ((99 : Int32)) else ((50 : Int32))) (fun (x2 : Int32) => bi (fX9_takeNumber (0 : Int32) x2 M) (fun (b4 : Bool) (M3 : zM) => if b4 = false then (some (false, M3)) else (lt (if p2 = (8 : Int32) then ((-(M3.1 50 7))) else ((M3.1 50 7))) (fun (x5 : Int32) => grd (zix x1 10) (lt (zwI M3 a1 (zn x1) x5) (fun (M6 : zM) => some (true, M6))))))))
set_option maxHeartbeats 4000000 in
set_option maxRecDepth 100000 in
theorem tX9_takePoints (E : zE) (a1 : Nat) (ha1 : zY0[a1]? = some (.inr (0, 10, []))) (p2 : Int32) (M : zM) : zFB E mX9_takePoints [.ref 50, .ref a1, .int p2] zY0 M (fX9_takePoints a1 p2 M) := by
  refine zF_of (L := [some (.ref 50), some (.ref a1), some (.int p2), none]) plX9 (Nat.le_of_ble_eq_true rfl) rfl (fun post => ?_)
  unfold fX9_takePoints
  refine z_iload_n 0 dX9_takePoints_0 rfl ?_
  refine z_bipush 1 dX9_takePoints_1 zbp_6 ?_
  refine zk_ltj (α := Int32) 18 (fun (x1 : Int32) => [some (.ref 50), some (.ref a1), some (.int p2), none]) (fun (x1 : Int32) => [.int x1]) (fun (x1 : Int32) => (zY0, M)) ?_ ?_
  · intro x1
    refine z_istore_n 18 (L' := [some (.ref 50), some (.ref a1), some (.int p2), some (.int x1)]) dX9_takePoints_18 (by decide) rfl ?_
    refine z_aload_n 19 dX9_takePoints_19 rfl ?_
    refine z_iconst 20 dX9_takePoints_20 zci_0 ?_
    refine z_iload_n 21 dX9_takePoints_21 rfl ?_
    refine z_bipush 22 dX9_takePoints_22 zbp_7 ?_
    refine zk_ltj (α := Int32) 34 (fun (x2 : Int32) => [some (.ref 50), some (.ref a1), some (.int p2), some (.int x1)]) (fun (x2 : Int32) => [.int x2, .int (0 : Int32), .ref 50]) (fun (x2 : Int32) => (zY0, M)) ?_ ?_
    · intro x2
      refine z_cB (zat_V2 34 dX9_takePoints_34 lk_X9_92 zy_50 rfl rfl ⟨Nat.le_of_ble_eq_true rfl, Nat.le_of_ble_eq_true rfl⟩ (Nat.le_of_ble_eq_true rfl)) (tX9_takeNumber E (0 : Int32) x2 M) (fun b4 M3 => ?_)
      refine z_ifneb 37 42 dX9_takePoints_37 (by decide) (fun _ => ?_) (fun _ => ?_)
      · refine z_iconst 40 dX9_takePoints_40 zci_0 ?_
        exact z_ireturn 41 (v := zb false) dX9_takePoints_41 rfl (zput_b false).1 (fun h => h)
      · refine z_aload_n 42 dX9_takePoints_42 rfl ?_
        refine z_iload_n 43 dX9_takePoints_43 rfl ?_
        refine z_iload_n 44 dX9_takePoints_44 rfl ?_
        refine z_bipush 45 dX9_takePoints_45 zbp_8 ?_
        refine zk_ltj (α := Int32) 62 (fun (x5 : Int32) => [none, none, none, none]) (fun (x5 : Int32) => [.int x5, .int x1, .ref a1]) (fun (x5 : Int32) => (zY0, M3)) ?_ ?_
        · intro x5
          refine z_iastore 62 dX9_takePoints_62 ha1 ?_
          refine zk_nmM (fun M6 => ?_)
          refine z_iconst 63 dX9_takePoints_63 zci_1 ?_
          exact z_ireturn 64 (v := zb true) dX9_takePoints_64 rfl (zput_b true).1 (fun h => h)
        · intro k7 hk7
          refine z_icnev 47 58 dX9_takePoints_47 (by decide) ?_ ?_
          · refine z_aload_n 50 dX9_takePoints_50 rfl ?_
            refine z_getI 51 dX9_takePoints_51 fl_X9_54 zy_50 rfl ?_
            refine z_ineg 54 dX9_takePoints_54 ?_
            refine z_goto 55 62 dX9_takePoints_55 (by decide) ?_
            exact zk_weak (L' := [none, none, none, none]) (zLe_n (zLe_n (zLe_n (zLe_n zLe_nl)))) (hk7 (-(M3.1 50 7)))
          · refine z_aload_n 58 dX9_takePoints_58 rfl ?_
            refine z_getI 59 dX9_takePoints_59 fl_X9_54 zy_50 rfl ?_
            exact zk_weak (L' := [none, none, none, none]) (zLe_n (zLe_n (zLe_n (zLe_n zLe_nl)))) (hk7 (M3.1 50 7))
    · intro k8 hk8
      refine z_icgev 24 32 dX9_takePoints_24 (by decide) ?_ ?_
      · refine z_bipush 32 dX9_takePoints_32 zbp_99 ?_
        exact zk_weak (L' := [some (.ref 50), some (.ref a1), some (.int p2), some (.int x1)]) (zLe_s (zLe_s (zLe_s (zLe_s zLe_nl)))) (hk8 (99 : Int32))
      · refine z_bipush 27 dX9_takePoints_27 zbp_50 ?_
        refine z_goto 29 34 dX9_takePoints_29 (by decide) ?_
        exact zk_weak (L' := [some (.ref 50), some (.ref a1), some (.int p2), some (.int x1)]) (zLe_s (zLe_s (zLe_s (zLe_s zLe_nl)))) (hk8 (50 : Int32))
  · intro k9 hk9
    refine z_iclev 3 11 dX9_takePoints_3 (by decide) ?_ ?_
    · refine z_iload_n 11 dX9_takePoints_11 rfl ?_
      refine z_bipush 12 dX9_takePoints_12 zbp_6 ?_
      refine z_isub 14 dX9_takePoints_14 ?_
      refine z_bipush 15 dX9_takePoints_15 zbp_8 ?_
      refine z_iadd 17 dX9_takePoints_17 ?_
      exact zk_weak (L' := [some (.ref 50), some (.ref a1), some (.int p2), none]) (zLe_s (zLe_s (zLe_s (zLe_n zLe_nl)))) (hk9 ((p2 - (6 : Int32)) + (8 : Int32)))
    · refine z_bipush 6 dX9_takePoints_6 zbp_9 ?_
      refine z_goto 8 18 dX9_takePoints_8 (by decide) ?_
      exact zk_weak (L' := [some (.ref 50), some (.ref a1), some (.int p2), none]) (zLe_s (zLe_s (zLe_s (zLe_n zLe_nl)))) (hk9 (9 : Int32))
def fX9_takeItem (a1 : Nat) (M : zM) : Option (Bool × zM) :=
  sq (α := Int32) (if (M.1 50 5) = (1 : Int32) then (sq (fX9_itemNamed M) (fun (x15 : Int32) => some x15)) else (some (-4 : Int32))) (fun (x2 : Int32) => if x2 = (-4 : Int32) then (bi (fX9_fail (2 : Int32) M) (fun (b4 : Bool) (M3 : zM) => some (b4, M3))) else (if x2 = (1 : Int32) then (bi (fX9_takeMixed a1 M) (fun (b6 : Bool) (M5 : zM) => some (b6, M5))) else (lt (((1 : Int32) <<< ((zmn x2 (7 : Int32)) &&& 31))) (fun (x7 : Int32) => if ((M.1 50 8) &&& x7) = 0 then (lt (zwI M 50 8 ((M.1 50 8) ||| x7)) (fun (M8 : zM) => if x2 = 0 then (bi (fX9_takeMinutes (a1 + 1) M8) (fun (b10 : Bool) (M9 : zM) => some (b10, M9))) else (bi (fX9_takePoints (a1 + 1) x2 M8) (fun (b12 : Bool) (M11 : zM) => some (b12, M11))))) else (bi (fX9_fail (4 : Int32) M) (fun (b14 : Bool) (M13 : zM) => some (b14, M13)))))))
set_option maxHeartbeats 4000000 in
set_option maxRecDepth 100000 in
theorem tX9_takeItem (E : zE) (a1 : Nat) (ha1 : zsX6 zY0 a1) (M : zM) : zFB E mX9_takeItem [.ref 50, .ref a1] zY0 M (fX9_takeItem a1 M) := by
  refine zF_of (L := [some (.ref 50), some (.ref a1), none, none]) plX9 (Nat.le_of_ble_eq_true rfl) rfl (fun post => ?_)
  unfold fX9_takeItem
  refine z_aload_n 0 dX9_takeItem_0 rfl ?_
  refine z_getI 1 dX9_takeItem_1 fl_X9_37 zy_50 rfl ?_
  refine z_iconst 4 dX9_takeItem_4 zci_1 ?_
  refine zk_sqj (α := Int32) 17 (fun (x2 : Int32) => [some (.ref 50), some (.ref a1), none, none]) (fun (x2 : Int32) => [.int x2]) (fun (x2 : Int32) => (zY0, M)) ?_ ?_
  · intro x2
    refine z_istore_n 17 (L' := [some (.ref 50), some (.ref a1), some (.int x2), none]) dX9_takeItem_17 (by decide) rfl ?_
    refine z_iload_n 18 dX9_takeItem_18 rfl ?_
    refine z_bipush 19 dX9_takeItem_19 zbp_m4 ?_
    refine z_icne 21 30 dX9_takeItem_21 (by decide) (fun _ => ?_) (fun _ => ?_)
    · refine z_aload_n 24 dX9_takeItem_24 rfl ?_
      refine z_iconst 25 dX9_takeItem_25 zci_2 ?_
      refine z_cB (zat_V1 26 dX9_takeItem_26 lk_X9_57 zy_50 rfl rfl ⟨Nat.le_of_ble_eq_true rfl, Nat.le_of_ble_eq_true rfl⟩ (Nat.le_of_ble_eq_true rfl)) (tX9_fail E (2 : Int32) M) (fun b4 M3 => ?_)
      exact z_ireturn 29 (v := zb b4) dX9_takeItem_29 rfl (zput_b b4).1 (fun h => h)
    · refine z_iload_n 30 dX9_takeItem_30 rfl ?_
      refine z_iconst 31 dX9_takeItem_31 zci_1 ?_
      refine z_icne 32 41 dX9_takeItem_32 (by decide) (fun _ => ?_) (fun _ => ?_)
      · refine z_aload_n 35 dX9_takeItem_35 rfl ?_
        refine z_aload_n 36 dX9_takeItem_36 rfl ?_
        refine z_cB (zat_V1 37 dX9_takeItem_37 lk_X9_71 zy_50 rfl rfl ⟨Nat.le_of_ble_eq_true rfl, Nat.le_of_ble_eq_true rfl⟩ (Nat.le_of_ble_eq_true rfl)) (tX9_takeMixed E a1 ha1 M) (fun b6 M5 => ?_)
        exact z_ireturn 40 (v := zb b6) dX9_takeItem_40 rfl (zput_b b6).1 (fun h => h)
      · refine z_iconst 41 dX9_takeItem_41 zci_1 ?_
        refine z_iload_n 42 dX9_takeItem_42 rfl ?_
        refine z_bipush 43 dX9_takeItem_43 zbp_7 ?_
        refine z_mmin 45 dX9_takeItem_45 ml_X9_74 ml_mmin.1 ml_mmin.2.1 ml_mmin.2.2 ⟨Nat.le_of_ble_eq_true rfl, Nat.le_of_ble_eq_true rfl⟩ ?_
        refine z_ishl 48 dX9_takeItem_48 ?_
        refine zk_nmI (fun x7 => ?_)
        refine z_istore_n 49 (L' := [some (.ref 50), some (.ref a1), some (.int x2), some (.int x7)]) dX9_takeItem_49 (by decide) rfl ?_
        refine z_aload_n 50 dX9_takeItem_50 rfl ?_
        refine z_getI 51 dX9_takeItem_51 fl_X9_27 zy_50 rfl ?_
        refine z_iload_n 54 dX9_takeItem_54 rfl ?_
        refine z_iand 55 dX9_takeItem_55 ?_
        refine z_ifeq 56 65 dX9_takeItem_56 (by decide) (fun _ => ?_) (fun _ => ?_)
        · refine z_aload_n 65 dX9_takeItem_65 rfl ?_
          refine z_dup 66 dX9_takeItem_66 rfl ?_
          refine z_getI 67 dX9_takeItem_67 fl_X9_27 zy_50 rfl ?_
          refine z_iload_n 70 dX9_takeItem_70 rfl ?_
          refine z_ior 71 dX9_takeItem_71 ?_
          refine z_put 72 dX9_takeItem_72 fp_X9_27 zy_50 rfl (zput_i _) ?_
          refine zk_nmM (fun M8 => ?_)
          refine z_iload_n 75 dX9_takeItem_75 rfl ?_
          refine z_ifne 76 90 dX9_takeItem_76 (by decide) (fun _ => ?_) (fun _ => ?_)
          · refine z_aload_n 79 dX9_takeItem_79 rfl ?_
            refine z_aload_n 80 dX9_takeItem_80 rfl ?_
            refine z_getR 81 (r := (a1 + 1)) dX9_takeItem_81 fl_X9_80 ha1.1 rfl ?_
            refine z_cB (zat_V1 84 dX9_takeItem_84 lk_X9_84 zy_50 rfl rfl ⟨Nat.le_of_ble_eq_true rfl, Nat.le_of_ble_eq_true rfl⟩ (Nat.le_of_ble_eq_true rfl)) (tX9_takeMinutes E (a1 + 1) ha1.2.1 M8) (fun b10 M9 => ?_)
            refine z_goto 87 99 dX9_takeItem_87 (by decide) ?_
            exact z_ireturn 99 (v := zb b10) dX9_takeItem_99 rfl (zput_b b10).1 (fun h => h)
          · refine z_aload_n 90 dX9_takeItem_90 rfl ?_
            refine z_aload_n 91 dX9_takeItem_91 rfl ?_
            refine z_getR 92 (r := (a1 + 1)) dX9_takeItem_92 fl_X9_80 ha1.1 rfl ?_
            refine z_iload_n 95 dX9_takeItem_95 rfl ?_
            refine z_cB (zat_V2 96 dX9_takeItem_96 lk_X9_88 zy_50 rfl rfl ⟨Nat.le_of_ble_eq_true rfl, Nat.le_of_ble_eq_true rfl⟩ (Nat.le_of_ble_eq_true rfl)) (tX9_takePoints E (a1 + 1) ha1.2.1 x2 M8) (fun b12 M11 => ?_)
            exact z_ireturn 99 (v := zb b12) dX9_takeItem_99 rfl (zput_b b12).1 (fun h => h)
        · refine z_aload_n 59 dX9_takeItem_59 rfl ?_
          refine z_iconst 60 dX9_takeItem_60 zci_4 ?_
          refine z_cB (zat_V1 61 dX9_takeItem_61 lk_X9_57 zy_50 rfl rfl ⟨Nat.le_of_ble_eq_true rfl, Nat.le_of_ble_eq_true rfl⟩ (Nat.le_of_ble_eq_true rfl)) (tX9_fail E (4 : Int32) M) (fun b14 M13 => ?_)
          exact z_ireturn 64 (v := zb b14) dX9_takeItem_64 rfl (zput_b b14).1 (fun h => h)
  · refine z_icne 5 15 dX9_takeItem_5 (by decide) (fun _ => ?_) (fun _ => ?_)
    · refine z_aload_n 8 dX9_takeItem_8 rfl ?_
      refine z_ci (zat_V0 9 dX9_takeItem_9 lk_X9_67 zy_50 rfl rfl ⟨Nat.le_of_ble_eq_true rfl, Nat.le_of_ble_eq_true rfl⟩ (Nat.le_of_ble_eq_true rfl)) (tX9_itemNamed E M) (fun x15 => ?_)
      refine z_goto 12 17 dX9_takeItem_12 (by decide) ?_
      exact zk_exitw (L' := [some (.ref 50), some (.ref a1), none, none]) (zLe_s (zLe_s (zLe_n (zLe_n zLe_nl)))) (fun h => h)
    · refine z_bipush 15 dX9_takeItem_15 zbp_m4 ?_
      exact zk_exitw (L' := [some (.ref 50), some (.ref a1), none, none]) (zLe_s (zLe_s (zLe_n (zLe_n zLe_nl)))) (fun h => h)
def fX9_tellRoad (a1 : Nat) (M : zM) : Option (Int32 × zM) :=
  sq (fX6_setAsAtFirst a1 M) (fun (M1 : zM) => lt (zwI M1 50 4 (0 : Int32)) (fun (M2 : zM) => lt (zwI M2 50 8 (0 : Int32)) (fun (M3 : zM) => lt (zwI M3 50 2 (0 : Int32)) (fun (M4 : zM) => zlp (α := Int32 × zM) (fun rec18 => (fun (u36 : Int32 × zM) => match u36 with | (x16, M17) => jn (α := zM) (fun (M27 : zM) => lt (zwI M27 50 1 (0 : Int32)) (fun (M28 : zM) => if (M28.1 50 2) = 0 then (some (x16, M28)) else (some (((-10 : Int32) - (M28.1 50 3)), M28)))) (fun k29 => if (320 : Int32) ≤ x16 then (k29 M17) else (bi (fX9_takeToken (5 : Int32) M17) (fun (b31 : Bool) (M30 : zM) => if b31 = false then (k29 M30) else (if (M30.1 50 5) = (4 : Int32) then (k29 M30) else (bi (fX9_takeItem a1 M30) (fun (b33 : Bool) (M32 : zM) => if b33 = false then (k29 M32) else (bi (fX9_takeToken (3 : Int32) M32) (fun (b35 : Bool) (M34 : zM) => if b35 = false then (k29 M34) else (rec18 ((x16 + (1 : Int32)), M34)))))))))))) zFu ((0 : Int32), M4)))))
set_option maxHeartbeats 4000000 in
set_option maxRecDepth 100000 in
theorem tX9_tellRoad (E : zE) (a1 : Nat) (ha1 : zsX6 zY0 a1) (M : zM) : zFI E mX9_tellRoad [.ref 50, .ref a1] zY0 M (fX9_tellRoad a1 M) := by
  refine zF_of (L := [some (.ref 50), some (.ref a1), none]) plX9 (Nat.le_of_ble_eq_true rfl) rfl (fun post => ?_)
  unfold fX9_tellRoad
  refine z_aload_n 0 dX9_tellRoad_0 rfl ?_
  refine z_cV (zat_V0 1 dX9_tellRoad_1 lk_X9_19 ha1.1 rfl rfl ⟨Nat.le_of_ble_eq_true rfl, Nat.le_of_ble_eq_true rfl⟩ (Nat.le_of_ble_eq_true rfl)) (tX6_setAsAtFirst E zY0 a1 ha1 M) (fun M1 => ?_)
  refine z_aload_n 4 dX9_tellRoad_4 rfl ?_
  refine z_iconst 5 dX9_tellRoad_5 zci_0 ?_
  refine z_put 6 dX9_tellRoad_6 fp_X9_24 zy_50 rfl (zput_i _) ?_
  refine zk_nmM (fun M2 => ?_)
  refine z_aload_n 9 dX9_tellRoad_9 rfl ?_
  refine z_iconst 10 dX9_tellRoad_10 zci_0 ?_
  refine z_put 11 dX9_tellRoad_11 fp_X9_27 zy_50 rfl (zput_i _) ?_
  refine zk_nmM (fun M3 => ?_)
  refine z_aload_n 14 dX9_tellRoad_14 rfl ?_
  refine z_iconst 15 dX9_tellRoad_15 zci_0 ?_
  refine z_put 16 dX9_tellRoad_16 fp_X9_30 zy_50 rfl (zput_i _) ?_
  refine zk_nmM (fun M4 => ?_)
  refine z_iconst 19 dX9_tellRoad_19 zci_0 ?_
  refine z_istore_n 20 (L' := [some (.ref 50), some (.ref a1), some (.int (0 : Int32))]) dX9_tellRoad_20 (by decide) rfl ?_
  refine zk_weak (L' := [some (.ref 50), some (.ref a1), some (.int (0 : Int32))]) (zLe_s (zLe_s (zLe_s zLe_nl))) (zk_lp (α := Int32 × zM) 21 (fun (u19 : Int32 × zM) => match u19 with | (x16, M17) => [some (.ref 50), some (.ref a1), some (.int x16)]) (fun (u20 : Int32 × zM) => match u20 with | (x16, M17) => (zY0, M17)) ?_ zFu ((0 : Int32), M4))
  intro rec18 hrec18
  intro u37
  obtain ⟨x16, M17⟩ := u37
  try dsimp only
  refine z_iload_n 21 dX9_tellRoad_21 rfl ?_
  refine z_sipush 22 dX9_tellRoad_22 zsp_320 ?_
  refine zk_jn (α := zM) 69 (fun (M27 : zM) => [some (.ref 50), none, some (.int x16)]) (fun (M27 : zM) => []) (fun (M27 : zM) => (zY0, M27)) ?_ ?_
  · intro M27
    refine z_aload_n 69 dX9_tellRoad_69 rfl ?_
    refine z_iconst 70 dX9_tellRoad_70 zci_0 ?_
    refine z_put 71 dX9_tellRoad_71 fp_X9_15 zy_50 rfl (zput_i _) ?_
    refine zk_nmM (fun M28 => ?_)
    refine z_aload_n 74 dX9_tellRoad_74 rfl ?_
    refine z_getI 75 dX9_tellRoad_75 fl_X9_30 zy_50 rfl ?_
    refine z_ifne 78 85 dX9_tellRoad_78 (by decide) (fun _ => ?_) (fun _ => ?_)
    · refine z_iload_n 81 dX9_tellRoad_81 rfl ?_
      refine z_goto 82 92 dX9_tellRoad_82 (by decide) ?_
      exact z_ireturn 92 dX9_tellRoad_92 rfl rfl (fun h => h)
    · refine z_bipush 85 dX9_tellRoad_85 zbp_m10 ?_
      refine z_aload_n 87 dX9_tellRoad_87 rfl ?_
      refine z_getI 88 dX9_tellRoad_88 fl_X9_44 zy_50 rfl ?_
      refine z_isub 91 dX9_tellRoad_91 ?_
      exact z_ireturn 92 dX9_tellRoad_92 rfl rfl (fun h => h)
  · intro k29 hk29
    refine z_icge 25 69 dX9_tellRoad_25 (by decide) (fun _ => ?_) (fun _ => ?_)
    · exact zk_weak (L' := [some (.ref 50), none, some (.int x16)]) (zLe_s (zLe_n (zLe_s zLe_nl))) (hk29 M17)
    · refine z_aload_n 28 dX9_tellRoad_28 rfl ?_
      refine z_iconst 29 dX9_tellRoad_29 zci_5 ?_
      refine z_cB (zat_V1 30 dX9_tellRoad_30 lk_X9_33 zy_50 rfl rfl ⟨Nat.le_of_ble_eq_true rfl, Nat.le_of_ble_eq_true rfl⟩ (Nat.le_of_ble_eq_true rfl)) (tX9_takeToken E (5 : Int32) M17) (fun b31 M30 => ?_)
      refine z_ifeqb 33 69 dX9_tellRoad_33 (by decide) (fun _ => ?_) (fun _ => ?_)
      · exact zk_weak (L' := [some (.ref 50), none, some (.int x16)]) (zLe_s (zLe_n (zLe_s zLe_nl))) (hk29 M30)
      · refine z_aload_n 36 dX9_tellRoad_36 rfl ?_
        refine z_getI 37 dX9_tellRoad_37 fl_X9_37 zy_50 rfl ?_
        refine z_iconst 40 dX9_tellRoad_40 zci_4 ?_
        refine z_iceq 41 69 dX9_tellRoad_41 (by decide) (fun _ => ?_) (fun _ => ?_)
        · exact zk_weak (L' := [some (.ref 50), none, some (.int x16)]) (zLe_s (zLe_n (zLe_s zLe_nl))) (hk29 M30)
        · refine z_aload_n 44 dX9_tellRoad_44 rfl ?_
          refine z_aload_n 45 dX9_tellRoad_45 rfl ?_
          refine z_cB (zat_V1 46 dX9_tellRoad_46 lk_X9_40 zy_50 rfl rfl ⟨Nat.le_of_ble_eq_true rfl, Nat.le_of_ble_eq_true rfl⟩ (Nat.le_of_ble_eq_true rfl)) (tX9_takeItem E a1 ha1 M30) (fun b33 M32 => ?_)
          refine z_ifeqb 49 69 dX9_tellRoad_49 (by decide) (fun _ => ?_) (fun _ => ?_)
          · exact zk_weak (L' := [some (.ref 50), none, some (.int x16)]) (zLe_s (zLe_n (zLe_s zLe_nl))) (hk29 M32)
          · refine z_aload_n 52 dX9_tellRoad_52 rfl ?_
            refine z_iconst 53 dX9_tellRoad_53 zci_3 ?_
            refine z_cB (zat_V1 54 dX9_tellRoad_54 lk_X9_33 zy_50 rfl rfl ⟨Nat.le_of_ble_eq_true rfl, Nat.le_of_ble_eq_true rfl⟩ (Nat.le_of_ble_eq_true rfl)) (tX9_takeToken E (3 : Int32) M32) (fun b35 M34 => ?_)
            refine z_ifneb 57 63 dX9_tellRoad_57 (by decide) (fun _ => ?_) (fun _ => ?_)
            · refine z_goto 60 69 dX9_tellRoad_60 (by decide) ?_
              exact zk_weak (L' := [some (.ref 50), none, some (.int x16)]) (zLe_s (zLe_n (zLe_s zLe_nl))) (hk29 M34)
            · refine z_iinc 63 (v := (x16 + (1 : Int32))) (L' := [some (.ref 50), some (.ref a1), some (.int (x16 + (1 : Int32)))]) dX9_tellRoad_63 rfl (zinc zci_1 _) (by decide) rfl ?_
              refine z_goto 66 21 dX9_tellRoad_66 (by decide) ?_
              exact zk_weak (L' := [some (.ref 50), some (.ref a1), some (.int (x16 + (1 : Int32)))]) (zLe_s (zLe_s (zLe_s zLe_nl))) (hrec18 ((x16 + (1 : Int32)), M34))
def fX10_feed (p1 : Int64) (M : zM) : Option (Int32 × zM) :=
  bi (fX9_append p1 M) (fun (b2 : Bool) (M1 : zM) => if b2 = false then (some ((-3 : Int32), M1)) else (some ((M1.1 50 1), M1)))
set_option maxHeartbeats 4000000 in
set_option maxRecDepth 100000 in
theorem tX10_feed (E : zE) (p1 : Int64) (M : zM) : zFI E mX10_feed [.ref 0, .long p1] zY0 M (fX10_feed p1 M) := by
  refine zF_of (L := [some (.ref 0), some (.long p1), none]) plX10 (Nat.le_of_ble_eq_true rfl) rfl (fun post => ?_)
  unfold fX10_feed
  refine z_aload_n 0 dX10_feed_0 rfl ?_
  refine z_getR 1 (r := 50) dX10_feed_1 fl_X10_30 zy_0 rfl ?_
  refine z_lload_n 4 dX10_feed_4 rfl ?_
  refine z_cB (zat_V1 5 dX10_feed_5 lk_X10_82 zy_50 rfl rfl ⟨Nat.le_of_ble_eq_true rfl, Nat.le_of_ble_eq_true rfl⟩ (Nat.le_of_ble_eq_true rfl)) (tX9_append E p1 M) (fun b2 M1 => ?_)
  refine z_ifeqb 8 21 dX10_feed_8 (by decide) (fun _ => ?_) (fun _ => ?_)
  · refine z_bipush 21 dX10_feed_21 zbp_m3 ?_
    exact z_ireturn 23 dX10_feed_23 rfl rfl (fun h => h)
  · refine z_aload_n 11 dX10_feed_11 rfl ?_
    refine z_getR 12 (r := 50) dX10_feed_12 fl_X10_30 zy_0 rfl ?_
    refine z_getI 15 dX10_feed_15 fl_X10_86 zy_50 rfl ?_
    refine z_goto 18 23 dX10_feed_18 (by decide) ?_
    exact z_ireturn 23 dX10_feed_23 rfl rfl (fun h => h)
