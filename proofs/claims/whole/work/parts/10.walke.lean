def fX10_isSheet (p1 : Int32) : Bool :=
  (fX10_within p1 (0 : Int32) ((Int32.ofNat 4) - (1 : Int32)))
set_option maxHeartbeats 4000000 in
set_option maxRecDepth 100000 in
theorem tX10_isSheet (E : zE) (p1 : Int32) (M : zM) : zFb E mX10_isSheet [.ref 0, .int p1] zY0 M (some (fX10_isSheet p1)) := by
  refine zF_of (L := [some (.ref 0), some (.int p1)]) plX10 (Nat.le_of_ble_eq_true rfl) rfl (fun post => ?_)
  show zK E _ post 0 _ _ _ (lt (fX10_isSheet p1) some) _
  unfold fX10_isSheet
  refine z_iload_n 0 dX10_isSheet_0 rfl ?_
  refine z_iconst 1 dX10_isSheet_1 zci_0 ?_
  refine z_aload_n 2 dX10_isSheet_2 rfl ?_
  refine z_getR 3 (r := 41) dX10_isSheet_3 fl_X10_23 zy_0 rfl ?_
  refine z_alen 6 dX10_isSheet_6 zy_41 (by decide) ?_
  refine z_iconst 7 dX10_isSheet_7 zci_1 ?_
  refine z_isub 8 dX10_isSheet_8 ?_
  refine z_ctb0 (zat_S3 9 dX10_isSheet_9 lk_X10_89 ⟨Nat.le_of_ble_eq_true rfl, Nat.le_of_ble_eq_true rfl⟩ (Nat.le_of_ble_eq_true rfl)) (tX10_within E zY0 p1 (0 : Int32) ((Int32.ofNat 4) - (1 : Int32)) M) ?_
  exact z_ireturn 12 (v := zb (fX10_within p1 (0 : Int32) ((Int32.ofNat 4) - (1 : Int32)))) dX10_isSheet_12 rfl (zput_b (fX10_within p1 (0 : Int32) ((Int32.ofNat 4) - (1 : Int32)))).1 (fun h => h)
def fX10_isLane (p1 : Int32) : Bool :=
  (fX10_within p1 (0 : Int32) (2 : Int32))
set_option maxHeartbeats 4000000 in
set_option maxRecDepth 100000 in
theorem tX10_isLane (E : zE) (Y : zY) (p1 : Int32) (M : zM) : zFb E mX10_isLane [.int p1] Y M (some (fX10_isLane p1)) := by
  refine zF_of (L := [some (.int p1)]) plX10 (Nat.le_of_ble_eq_true rfl) rfl (fun post => ?_)
  show zK E _ post 0 _ _ _ (lt (fX10_isLane p1) some) _
  unfold fX10_isLane
  refine z_iload_n 0 dX10_isLane_0 rfl ?_
  refine z_iconst 1 dX10_isLane_1 zci_0 ?_
  refine z_iconst 2 dX10_isLane_2 zci_2 ?_
  refine z_ctb0 (zat_S3 3 dX10_isLane_3 lk_X10_89 ⟨Nat.le_of_ble_eq_true rfl, Nat.le_of_ble_eq_true rfl⟩ (Nat.le_of_ble_eq_true rfl)) (tX10_within E Y p1 (0 : Int32) (2 : Int32) M) ?_
  exact z_ireturn 6 (v := zb (fX10_within p1 (0 : Int32) (2 : Int32))) dX10_isLane_6 rfl (zput_b (fX10_within p1 (0 : Int32) (2 : Int32))).1 (fun h => h)
def fX10_copyPrices (a1 : Nat) (p2 : Int32) (p3 : Int32) (M : zM) : Option (Int32 × zM) :=
  lt (fX8_faultAs a1 p2 M) (fun (x1 : Int32) => if x1 = 0 then (lt (((M.1 2 0) + (M.1 6 0))) (fun (x2 : Int32) => zlp (α := Int32 × zM) (fun rec13 => (fun (u23 : Int32 × zM) => match u23 with | (x11, M12) => if x2 ≤ x11 then (some ((0 : Int32), M12)) else (jn (α := Unit) (fun (_ : Unit) => some ((-1000012 : Int32), M12)) (fun k19 => if p3 < 0 then (k19 ()) else (if p3 < ((M12.1 a1 2) - x11) then (grd (zix (p3 + x11) 64) (lt ((M12.1 (a1 + 1) (zn (p3 + x11)))) (fun (x20 : Int32) => lt (fX10_within x20 (-999 : Int32) (999 : Int32)) (fun (b21 : Bool) => if b21 = false then (some (((-1000020 : Int32) - x11), M12)) else (grd (zix x11 20) (lt (zwI M12 74 (zn x11) x20) (fun (M22 : zM) => rec13 ((x11 + (1 : Int32)), M22)))))))) else (k19 ())))))) zFu ((0 : Int32), M))) else (some (((-1000010 : Int32) - x1), M)))
set_option maxHeartbeats 4000000 in
set_option maxRecDepth 100000 in
theorem tX10_copyPrices (E : zE) (a1 : Nat) (ha1 : zsX8 zY0 a1) (p2 : Int32) (p3 : Int32) (M : zM) : zFI E mX10_copyPrices [.ref 0, .ref a1, .int p2, .int p3] zY0 M (fX10_copyPrices a1 p2 p3 M) := by
  refine zF_of (L := [some (.ref 0), some (.ref a1), some (.int p2), some (.int p3), none, none, none, none]) plX10 (Nat.le_of_ble_eq_true rfl) rfl (fun post => ?_)
  unfold fX10_copyPrices
  refine z_aload_n 0 dX10_copyPrices_0 rfl ?_
  refine z_iload_n 1 dX10_copyPrices_1 rfl ?_
  refine z_cti (zat_V1 2 dX10_copyPrices_2 lk_X10_360 ha1.1 rfl rfl ⟨Nat.le_of_ble_eq_true rfl, Nat.le_of_ble_eq_true rfl⟩ (Nat.le_of_ble_eq_true rfl)) (tX8_faultAs E zY0 a1 ha1 p2 M) (fun x1 => ?_)
  refine z_istore 5 (L' := [some (.ref 0), some (.ref a1), some (.int p2), some (.int p3), some (.int x1), none, none, none]) dX10_copyPrices_5 (by decide) rfl ?_
  refine z_iload 7 dX10_copyPrices_7 rfl ?_
  refine z_ifeq 9 19 dX10_copyPrices_9 (by decide) (fun _ => ?_) (fun _ => ?_)
  · refine z_aload_n 19 dX10_copyPrices_19 rfl ?_
    refine z_getR 20 (r := 1) dX10_copyPrices_20 fl_X10_12 zy_0 rfl ?_
    refine z_getR 23 (r := 2) dX10_copyPrices_23 fl_X10_170 zy_1 rfl ?_
    refine z_getI 26 dX10_copyPrices_26 fl_X10_125 zy_2 rfl ?_
    refine z_aload_n 29 dX10_copyPrices_29 rfl ?_
    refine z_getR 30 (r := 1) dX10_copyPrices_30 fl_X10_12 zy_0 rfl ?_
    refine z_getR 33 (r := 6) dX10_copyPrices_33 fl_X10_174 zy_1 rfl ?_
    refine z_getI 36 dX10_copyPrices_36 fl_X10_125 zy_6 rfl ?_
    refine z_iadd 39 dX10_copyPrices_39 ?_
    refine zk_nmI (fun x2 => ?_)
    refine z_istore 40 (L' := [some (.ref 0), some (.ref a1), some (.int p2), some (.int p3), some (.int x1), some (.int x2), none, none]) dX10_copyPrices_40 (by decide) rfl ?_
    refine z_iconst 42 dX10_copyPrices_42 zci_0 ?_
    refine z_istore 43 (L' := [some (.ref 0), some (.ref a1), some (.int p2), some (.int p3), some (.int x1), some (.int x2), some (.int (0 : Int32)), none]) dX10_copyPrices_43 (by decide) rfl ?_
    refine zk_weak (L' := [some (.ref 0), some (.ref a1), none, some (.int p3), none, some (.int x2), some (.int (0 : Int32)), none]) (zLe_s (zLe_s (zLe_n (zLe_s (zLe_n (zLe_s (zLe_s (zLe_n zLe_nl)))))))) (zk_lp (α := Int32 × zM) 45 (fun (u14 : Int32 × zM) => match u14 with | (x11, M12) => [some (.ref 0), some (.ref a1), none, some (.int p3), none, some (.int x2), some (.int x11), none]) (fun (u15 : Int32 × zM) => match u15 with | (x11, M12) => (zY0, M12)) ?_ zFu ((0 : Int32), M))
    intro rec13 hrec13
    intro u24
    obtain ⟨x11, M12⟩ := u24
    try dsimp only
    refine z_iload 45 dX10_copyPrices_45 rfl ?_
    refine z_iload 47 dX10_copyPrices_47 rfl ?_
    refine z_icge 49 118 dX10_copyPrices_49 (by decide) (fun _ => ?_) (fun _ => ?_)
    · refine z_iconst 118 dX10_copyPrices_118 zci_0 ?_
      exact z_ireturn 119 dX10_copyPrices_119 rfl rfl (fun h => h)
    · refine z_iload_n 52 dX10_copyPrices_52 rfl ?_
      refine zk_jn (α := Unit) 67 (fun (_ : Unit) => [none, none, none, none, none, none, none, none]) (fun (_ : Unit) => []) (fun (_ : Unit) => (zY0, M12)) ?_ ?_
      · intro _
        refine z_ldcw 67 dX10_copyPrices_67 cw_X10_395 ?_
        exact z_ireturn 70 dX10_copyPrices_70 rfl rfl (fun h => h)
      · intro k19 hk19
        refine z_iflt 53 67 dX10_copyPrices_53 (by decide) (fun _ => ?_) (fun _ => ?_)
        · exact zk_weak (L' := [none, none, none, none, none, none, none, none]) (zLe_n (zLe_n (zLe_n (zLe_n (zLe_n (zLe_n (zLe_n (zLe_n zLe_nl)))))))) (hk19 ())
        · refine z_iload_n 56 dX10_copyPrices_56 rfl ?_
          refine z_aload_n 57 dX10_copyPrices_57 rfl ?_
          refine z_getI 58 dX10_copyPrices_58 fl_X10_356 ha1.1 rfl ?_
          refine z_iload 61 dX10_copyPrices_61 rfl ?_
          refine z_isub 63 dX10_copyPrices_63 ?_
          refine z_iclt 64 71 dX10_copyPrices_64 (by decide) (fun _ => ?_) (fun _ => ?_)
          · refine z_aload_n 71 dX10_copyPrices_71 rfl ?_
            refine z_getR 72 (r := (a1 + 1)) dX10_copyPrices_72 fl_X10_396 ha1.1 rfl ?_
            refine z_iload_n 75 dX10_copyPrices_75 rfl ?_
            refine z_iload 76 dX10_copyPrices_76 rfl ?_
            refine z_iadd 78 dX10_copyPrices_78 ?_
            refine z_iaload 79 dX10_copyPrices_79 ha1.2 ?_
            refine zk_nmI (fun x20 => ?_)
            refine z_istore 80 (L' := [some (.ref 0), some (.ref a1), none, some (.int p3), none, some (.int x2), some (.int x11), some (.int x20)]) dX10_copyPrices_80 (by decide) rfl ?_
            refine z_iload 82 dX10_copyPrices_82 rfl ?_
            refine z_sipush 84 dX10_copyPrices_84 zsp_m999 ?_
            refine z_sipush 87 dX10_copyPrices_87 zsp_999 ?_
            refine z_ctb (zat_S3 90 dX10_copyPrices_90 lk_X10_89 ⟨Nat.le_of_ble_eq_true rfl, Nat.le_of_ble_eq_true rfl⟩ (Nat.le_of_ble_eq_true rfl)) (tX10_within E zY0 x20 (-999 : Int32) (999 : Int32) M12) (fun b21 => ?_)
            refine z_ifneb 93 103 dX10_copyPrices_93 (by decide) (fun _ => ?_) (fun _ => ?_)
            · refine z_ldcw 96 dX10_copyPrices_96 cw_X10_399 ?_
              refine z_iload 99 dX10_copyPrices_99 rfl ?_
              refine z_isub 101 dX10_copyPrices_101 ?_
              exact z_ireturn 102 dX10_copyPrices_102 rfl rfl (fun h => h)
            · refine z_aload_n 103 dX10_copyPrices_103 rfl ?_
              refine z_getR 104 (r := 74) dX10_copyPrices_104 fl_X10_71 zy_0 rfl ?_
              refine z_iload 107 dX10_copyPrices_107 rfl ?_
              refine z_iload 109 dX10_copyPrices_109 rfl ?_
              refine z_iastore 111 dX10_copyPrices_111 zy_74 ?_
              refine zk_nmM (fun M22 => ?_)
              refine z_iinc 112 (v := (x11 + (1 : Int32))) (L' := [some (.ref 0), some (.ref a1), none, some (.int p3), none, some (.int x2), some (.int (x11 + (1 : Int32))), some (.int x20)]) dX10_copyPrices_112 rfl (zinc zci_1 _) (by decide) rfl ?_
              refine z_goto 115 45 dX10_copyPrices_115 (by decide) ?_
              exact zk_weak (L' := [some (.ref 0), some (.ref a1), none, some (.int p3), none, some (.int x2), some (.int (x11 + (1 : Int32))), none]) (zLe_s (zLe_s (zLe_n (zLe_s (zLe_n (zLe_s (zLe_s (zLe_n zLe_nl)))))))) (hrec13 ((x11 + (1 : Int32)), M22))
          · exact zk_weak (L' := [none, none, none, none, none, none, none, none]) (zLe_n (zLe_n (zLe_n (zLe_n (zLe_n (zLe_n (zLe_n (zLe_n zLe_nl)))))))) (hk19 ())
  · refine z_ldcw 12 dX10_copyPrices_12 cw_X10_394 ?_
    refine z_iload 15 dX10_copyPrices_15 rfl ?_
    refine z_isub 17 dX10_copyPrices_17 ?_
    exact z_ireturn 18 dX10_copyPrices_18 rfl rfl (fun h => h)
def fX10_firstUnderpriced (M : zM) : Option Int32 :=
  zlp (α := Int32) (fun rec6 => (fun (x5 : Int32) => if (M.1 55 0) ≤ x5 then (some (-4 : Int32)) else (zlp (α := Int32) (fun rec12 => (fun (x11 : Int32) => if (M.1 55 1) ≤ x11 then (rec6 (x5 + (1 : Int32))) else (sq (fX5_mayBe x5 x11 M) (fun (b13 : Bool) => jn (α := Unit) (fun (_ : Unit) => rec12 (x11 + (1 : Int32))) (fun k15 => if b13 = false then (k15 ()) else (grd (zix x5 20) (grd (zix ((M.1 55 0) + x11) 20) (sq (fX5_costOf x5 x11 M) (fun (x16 : Int32) => if ((M.1 74 (zn x5)) + (M.1 74 (zn ((M.1 55 0) + x11)))) ≤ x16 then (k15 ()) else (some x5)))))))))) zFu (0 : Int32)))) zFu (0 : Int32)
set_option maxHeartbeats 4000000 in
set_option maxRecDepth 100000 in
theorem tX10_firstUnderpriced (E : zE)  (M : zM) : zFi E mX10_firstUnderpriced [.ref 0] zY0 M (fX10_firstUnderpriced M) := by
  refine zF_of (L := [some (.ref 0), none, none]) plX10 (Nat.le_of_ble_eq_true rfl) rfl (fun post => ?_)
  unfold fX10_firstUnderpriced
  refine z_iconst 0 dX10_firstUnderpriced_0 zci_0 ?_
  refine z_istore_n 1 (L' := [some (.ref 0), some (.int (0 : Int32)), none]) dX10_firstUnderpriced_1 (by decide) rfl ?_
  refine zk_weak (L' := [some (.ref 0), some (.int (0 : Int32)), none]) (zLe_s (zLe_s (zLe_n zLe_nl))) (zk_lp (α := Int32) 2 (fun (x5 : Int32) => [some (.ref 0), some (.int x5), none]) (fun (x5 : Int32) => (zY0, M)) ?_ zFu (0 : Int32))
  intro rec6 hrec6
  intro x5
  refine z_iload_n 2 dX10_firstUnderpriced_2 rfl ?_
  refine z_aload_n 3 dX10_firstUnderpriced_3 rfl ?_
  refine z_getR 4 (r := 55) dX10_firstUnderpriced_4 fl_X10_44 zy_0 rfl ?_
  refine z_getI 7 dX10_firstUnderpriced_7 fl_X10_385 zy_55 rfl ?_
  refine z_icge 10 85 dX10_firstUnderpriced_10 (by decide) (fun _ => ?_) (fun _ => ?_)
  · refine z_bipush 85 dX10_firstUnderpriced_85 zbp_m4 ?_
    exact z_ireturn 87 dX10_firstUnderpriced_87 rfl rfl (fun h => h)
  · refine z_iconst 13 dX10_firstUnderpriced_13 zci_0 ?_
    refine z_istore_n 14 (L' := [some (.ref 0), some (.int x5), some (.int (0 : Int32))]) dX10_firstUnderpriced_14 (by decide) rfl ?_
    refine zk_weak (L' := [some (.ref 0), some (.int x5), some (.int (0 : Int32))]) (zLe_s (zLe_s (zLe_s zLe_nl))) (zk_lp (α := Int32) 15 (fun (x11 : Int32) => [some (.ref 0), some (.int x5), some (.int x11)]) (fun (x11 : Int32) => (zY0, M)) ?_ zFu (0 : Int32))
    intro rec12 hrec12
    intro x11
    refine z_iload_n 15 dX10_firstUnderpriced_15 rfl ?_
    refine z_aload_n 16 dX10_firstUnderpriced_16 rfl ?_
    refine z_getR 17 (r := 55) dX10_firstUnderpriced_17 fl_X10_44 zy_0 rfl ?_
    refine z_getI 20 dX10_firstUnderpriced_20 fl_X10_388 zy_55 rfl ?_
    refine z_icge 23 79 dX10_firstUnderpriced_23 (by decide) (fun _ => ?_) (fun _ => ?_)
    · refine z_iinc 79 (v := (x5 + (1 : Int32))) (L' := [some (.ref 0), some (.int (x5 + (1 : Int32))), some (.int x11)]) dX10_firstUnderpriced_79 rfl (zinc zci_1 _) (by decide) rfl ?_
      refine z_goto 82 2 dX10_firstUnderpriced_82 (by decide) ?_
      exact zk_weak (L' := [some (.ref 0), some (.int (x5 + (1 : Int32))), none]) (zLe_s (zLe_s (zLe_n zLe_nl))) (hrec6 (x5 + (1 : Int32)))
    · refine z_aload_n 26 dX10_firstUnderpriced_26 rfl ?_
      refine z_getR 27 (r := 55) dX10_firstUnderpriced_27 fl_X10_44 zy_0 rfl ?_
      refine z_iload_n 30 dX10_firstUnderpriced_30 rfl ?_
      refine z_iload_n 31 dX10_firstUnderpriced_31 rfl ?_
      refine z_cb (zat_V2 32 dX10_firstUnderpriced_32 lk_X10_206 zy_55 rfl rfl ⟨Nat.le_of_ble_eq_true rfl, Nat.le_of_ble_eq_true rfl⟩ (Nat.le_of_ble_eq_true rfl)) (tX5_mayBe E x5 x11 M) (fun b13 => ?_)
      refine zk_jn (α := Unit) 73 (fun (_ : Unit) => [some (.ref 0), some (.int x5), some (.int x11)]) (fun (_ : Unit) => []) (fun (_ : Unit) => (zY0, M)) ?_ ?_
      · intro _
        refine z_iinc 73 (v := (x11 + (1 : Int32))) (L' := [some (.ref 0), some (.int x5), some (.int (x11 + (1 : Int32)))]) dX10_firstUnderpriced_73 rfl (zinc zci_1 _) (by decide) rfl ?_
        refine z_goto 76 15 dX10_firstUnderpriced_76 (by decide) ?_
        exact zk_weak (L' := [some (.ref 0), some (.int x5), some (.int (x11 + (1 : Int32)))]) (zLe_s (zLe_s (zLe_s zLe_nl))) (hrec12 (x11 + (1 : Int32)))
      · intro k15 hk15
        refine z_ifeqb 35 73 dX10_firstUnderpriced_35 (by decide) (fun _ => ?_) (fun _ => ?_)
        · exact zk_weak (L' := [some (.ref 0), some (.int x5), some (.int x11)]) (zLe_s (zLe_s (zLe_s zLe_nl))) (hk15 ())
        · refine z_aload_n 38 dX10_firstUnderpriced_38 rfl ?_
          refine z_getR 39 (r := 74) dX10_firstUnderpriced_39 fl_X10_71 zy_0 rfl ?_
          refine z_iload_n 42 dX10_firstUnderpriced_42 rfl ?_
          refine z_iaload 43 dX10_firstUnderpriced_43 zy_74 ?_
          refine z_aload_n 44 dX10_firstUnderpriced_44 rfl ?_
          refine z_getR 45 (r := 74) dX10_firstUnderpriced_45 fl_X10_71 zy_0 rfl ?_
          refine z_aload_n 48 dX10_firstUnderpriced_48 rfl ?_
          refine z_getR 49 (r := 55) dX10_firstUnderpriced_49 fl_X10_44 zy_0 rfl ?_
          refine z_getI 52 dX10_firstUnderpriced_52 fl_X10_385 zy_55 rfl ?_
          refine z_iload_n 55 dX10_firstUnderpriced_55 rfl ?_
          refine z_iadd 56 dX10_firstUnderpriced_56 ?_
          refine z_iaload 57 dX10_firstUnderpriced_57 zy_74 ?_
          refine z_iadd 58 dX10_firstUnderpriced_58 ?_
          refine z_aload_n 59 dX10_firstUnderpriced_59 rfl ?_
          refine z_getR 60 (r := 55) dX10_firstUnderpriced_60 fl_X10_44 zy_0 rfl ?_
          refine z_iload_n 63 dX10_firstUnderpriced_63 rfl ?_
          refine z_iload_n 64 dX10_firstUnderpriced_64 rfl ?_
          refine z_ci (zat_V2 65 dX10_firstUnderpriced_65 lk_X10_167 zy_55 rfl rfl ⟨Nat.le_of_ble_eq_true rfl, Nat.le_of_ble_eq_true rfl⟩ (Nat.le_of_ble_eq_true rfl)) (tX5_costOf E x5 x11 M) (fun x16 => ?_)
          refine z_icle 68 73 dX10_firstUnderpriced_68 (by decide) (fun _ => ?_) (fun _ => ?_)
          · exact zk_weak (L' := [some (.ref 0), some (.int x5), some (.int x11)]) (zLe_s (zLe_s (zLe_s zLe_nl))) (hk15 ())
          · refine z_iload_n 71 dX10_firstUnderpriced_71 rfl ?_
            exact z_ireturn 72 dX10_firstUnderpriced_72 rfl rfl (fun h => h)
def fX10_firstOverpriced (M : zM) : Option Int32 :=
  zlp (α := Int32) (fun rec5 => (fun (x4 : Int32) => if ((M.1 55 0) + (M.1 55 1)) ≤ x4 then (some (-4 : Int32)) else (grd (zix x4 20) (lt (if (M.1 55 0) ≤ x4 then ((8 : Int32)) else ((7 : Int32))) (fun (x6 : Int32) => grd (zix x6 10) (if (M.1 74 (zn x4)) ≤ (M.1 11 (zn x6)) then (rec5 (x4 + (1 : Int32))) else (some x4))))))) zFu (0 : Int32)
set_option maxHeartbeats 4000000 in
set_option maxRecDepth 100000 in
theorem tX10_firstOverpriced (E : zE)  (M : zM) : zFi E mX10_firstOverpriced [.ref 0] zY0 M (fX10_firstOverpriced M) := by
  refine zF_of (L := [some (.ref 0), none]) plX10 (Nat.le_of_ble_eq_true rfl) rfl (fun post => ?_)
  unfold fX10_firstOverpriced
  refine z_iconst 0 dX10_firstOverpriced_0 zci_0 ?_
  refine z_istore_n 1 (L' := [some (.ref 0), some (.int (0 : Int32))]) dX10_firstOverpriced_1 (by decide) rfl ?_
  refine zk_weak (L' := [some (.ref 0), some (.int (0 : Int32))]) (zLe_s (zLe_s zLe_nl)) (zk_lp (α := Int32) 2 (fun (x4 : Int32) => [some (.ref 0), some (.int x4)]) (fun (x4 : Int32) => (zY0, M)) ?_ zFu (0 : Int32))
  intro rec5 hrec5
  intro x4
  refine z_iload_n 2 dX10_firstOverpriced_2 rfl ?_
  refine z_aload_n 3 dX10_firstOverpriced_3 rfl ?_
  refine z_getR 4 (r := 55) dX10_firstOverpriced_4 fl_X10_44 zy_0 rfl ?_
  refine z_getI 7 dX10_firstOverpriced_7 fl_X10_385 zy_55 rfl ?_
  refine z_aload_n 10 dX10_firstOverpriced_10 rfl ?_
  refine z_getR 11 (r := 55) dX10_firstOverpriced_11 fl_X10_44 zy_0 rfl ?_
  refine z_getI 14 dX10_firstOverpriced_14 fl_X10_388 zy_55 rfl ?_
  refine z_iadd 17 dX10_firstOverpriced_17 ?_
  refine z_icge 18 67 dX10_firstOverpriced_18 (by decide) (fun _ => ?_) (fun _ => ?_)
  · refine z_bipush 67 dX10_firstOverpriced_67 zbp_m4 ?_
    exact z_ireturn 69 dX10_firstOverpriced_69 rfl rfl (fun h => h)
  · refine z_aload_n 21 dX10_firstOverpriced_21 rfl ?_
    refine z_getR 22 (r := 74) dX10_firstOverpriced_22 fl_X10_71 zy_0 rfl ?_
    refine z_iload_n 25 dX10_firstOverpriced_25 rfl ?_
    refine z_iaload 26 dX10_firstOverpriced_26 zy_74 ?_
    refine z_aload_n 27 dX10_firstOverpriced_27 rfl ?_
    refine z_getR 28 (r := 1) dX10_firstOverpriced_28 fl_X10_12 zy_0 rfl ?_
    refine z_getR 31 (r := 10) dX10_firstOverpriced_31 fl_X10_97 zy_1 rfl ?_
    refine z_getR 34 (r := 11) dX10_firstOverpriced_34 fl_X10_107 zy_10 rfl ?_
    refine z_iload_n 37 dX10_firstOverpriced_37 rfl ?_
    refine z_aload_n 38 dX10_firstOverpriced_38 rfl ?_
    refine z_getR 39 (r := 55) dX10_firstOverpriced_39 fl_X10_44 zy_0 rfl ?_
    refine z_getI 42 dX10_firstOverpriced_42 fl_X10_385 zy_55 rfl ?_
    refine zk_ltj (α := Int32) 55 (fun (x6 : Int32) => [some (.ref 0), some (.int x4)]) (fun (x6 : Int32) => [.int x6, .ref 11, .int (M.1 74 (zn x4))]) (fun (x6 : Int32) => (zY0, M)) ?_ ?_
    · intro x6
      refine z_iaload 55 dX10_firstOverpriced_55 zy_11 ?_
      refine z_icle 56 61 dX10_firstOverpriced_56 (by decide) (fun _ => ?_) (fun _ => ?_)
      · refine z_iinc 61 (v := (x4 + (1 : Int32))) (L' := [some (.ref 0), some (.int (x4 + (1 : Int32)))]) dX10_firstOverpriced_61 rfl (zinc zci_1 _) (by decide) rfl ?_
        refine z_goto 64 2 dX10_firstOverpriced_64 (by decide) ?_
        exact zk_weak (L' := [some (.ref 0), some (.int (x4 + (1 : Int32)))]) (zLe_s (zLe_s zLe_nl)) (hrec5 (x4 + (1 : Int32)))
      · refine z_iload_n 59 dX10_firstOverpriced_59 rfl ?_
        exact z_ireturn 60 dX10_firstOverpriced_60 rfl rfl (fun h => h)
    · intro k7 hk7
      refine z_icgev 45 53 dX10_firstOverpriced_45 (by decide) ?_ ?_
      · refine z_bipush 53 dX10_firstOverpriced_53 zbp_8 ?_
        exact zk_weak (L' := [some (.ref 0), some (.int x4)]) (zLe_s (zLe_s zLe_nl)) (hk7 (8 : Int32))
      · refine z_bipush 48 dX10_firstOverpriced_48 zbp_7 ?_
        refine z_goto 50 55 dX10_firstOverpriced_50 (by decide) ?_
        exact zk_weak (L' := [some (.ref 0), some (.int x4)]) (zLe_s (zLe_s zLe_nl)) (hk7 (7 : Int32))
def fX10_sumOfPrices (M : zM) : Option Int32 :=
  zlp (α := Int32 × Int32) (fun rec15 => (fun (u19 : Int32 × Int32) => match u19 with | (x13, x14) => if ((M.1 55 0) + (M.1 55 1)) ≤ x14 then (some x13) else (grd (zix x14 20) (lt ((x13 + (M.1 74 (zn x14)))) (fun (x18 : Int32) => rec15 (x18, (x14 + (1 : Int32)))))))) zFu ((0 : Int32), (0 : Int32))
set_option maxHeartbeats 4000000 in
set_option maxRecDepth 100000 in
theorem tX10_sumOfPrices (E : zE)  (M : zM) : zFi E mX10_sumOfPrices [.ref 0] zY0 M (fX10_sumOfPrices M) := by
  refine zF_of (L := [some (.ref 0), none, none]) plX10 (Nat.le_of_ble_eq_true rfl) rfl (fun post => ?_)
  unfold fX10_sumOfPrices
  refine z_iconst 0 dX10_sumOfPrices_0 zci_0 ?_
  refine z_istore_n 1 (L' := [some (.ref 0), some (.int (0 : Int32)), none]) dX10_sumOfPrices_1 (by decide) rfl ?_
  refine z_iconst 2 dX10_sumOfPrices_2 zci_0 ?_
  refine z_istore_n 3 (L' := [some (.ref 0), some (.int (0 : Int32)), some (.int (0 : Int32))]) dX10_sumOfPrices_3 (by decide) rfl ?_
  refine zk_weak (L' := [some (.ref 0), some (.int (0 : Int32)), some (.int (0 : Int32))]) (zLe_s (zLe_s (zLe_s zLe_nl))) (zk_lp (α := Int32 × Int32) 4 (fun (u16 : Int32 × Int32) => match u16 with | (x13, x14) => [some (.ref 0), some (.int x13), some (.int x14)]) (fun (u17 : Int32 × Int32) => match u17 with | (x13, x14) => (zY0, M)) ?_ zFu ((0 : Int32), (0 : Int32)))
  intro rec15 hrec15
  intro u20
  obtain ⟨x13, x14⟩ := u20
  try dsimp only
  refine z_iload_n 4 dX10_sumOfPrices_4 rfl ?_
  refine z_aload_n 5 dX10_sumOfPrices_5 rfl ?_
  refine z_getR 6 (r := 55) dX10_sumOfPrices_6 fl_X10_44 zy_0 rfl ?_
  refine z_getI 9 dX10_sumOfPrices_9 fl_X10_385 zy_55 rfl ?_
  refine z_aload_n 12 dX10_sumOfPrices_12 rfl ?_
  refine z_getR 13 (r := 55) dX10_sumOfPrices_13 fl_X10_44 zy_0 rfl ?_
  refine z_getI 16 dX10_sumOfPrices_16 fl_X10_388 zy_55 rfl ?_
  refine z_iadd 19 dX10_sumOfPrices_19 ?_
  refine z_icge 20 38 dX10_sumOfPrices_20 (by decide) (fun _ => ?_) (fun _ => ?_)
  · refine z_iload_n 38 dX10_sumOfPrices_38 rfl ?_
    exact z_ireturn 39 dX10_sumOfPrices_39 rfl rfl (fun h => h)
  · refine z_iload_n 23 dX10_sumOfPrices_23 rfl ?_
    refine z_aload_n 24 dX10_sumOfPrices_24 rfl ?_
    refine z_getR 25 (r := 74) dX10_sumOfPrices_25 fl_X10_71 zy_0 rfl ?_
    refine z_iload_n 28 dX10_sumOfPrices_28 rfl ?_
    refine z_iaload 29 dX10_sumOfPrices_29 zy_74 ?_
    refine z_iadd 30 dX10_sumOfPrices_30 ?_
    refine zk_nmI (fun x18 => ?_)
    refine z_istore_n 31 (L' := [some (.ref 0), some (.int x18), some (.int x14)]) dX10_sumOfPrices_31 (by decide) rfl ?_
    refine z_iinc 32 (v := (x14 + (1 : Int32))) (L' := [some (.ref 0), some (.int x18), some (.int (x14 + (1 : Int32)))]) dX10_sumOfPrices_32 rfl (zinc zci_1 _) (by decide) rfl ?_
    refine z_goto 35 4 dX10_sumOfPrices_35 (by decide) ?_
    exact zk_weak (L' := [some (.ref 0), some (.int x18), some (.int (x14 + (1 : Int32)))]) (zLe_s (zLe_s (zLe_s zLe_nl))) (hrec15 (x18, (x14 + (1 : Int32))))
def fX10_prices (p1 : Int32) (p2 : Int32) (p3 : Int32) (p4 : Int32) (M : zM) : Option (Int32 × zM) :=
  lt (fX10_isSheet p1) (fun (b1 : Bool) => jn (α := Unit) (fun (_ : Unit) => some ((-1000000 : Int32), M)) (fun k17 => if b1 = false then (k17 ()) else (lt (fX10_isLane p2) (fun (b18 : Bool) => if b18 = false then (k17 ()) else (lt (fX10_within p4 (0 : Int32) (4 : Int32)) (fun (b19 : Bool) => if b19 = false then (k17 ()) else (grd (zix p1 4) (lt (42 + 2 * zn p1) (fun (s20 : Nat) => bi (fX10_copyPrices s20 p2 p3 M) (fun (x22 : Int32) (M21 : zM) => if x22 = 0 then (sq (fX10_lookAtPairs (15 : Int32) M21) (fun (M23 : zM) => sq (fX10_firstUnderpriced M23) (fun (x24 : Int32) => sq (fX10_firstOverpriced M23) (fun (x25 : Int32) => lt (if x24 = (-4 : Int32) then (if x25 = (-4 : Int32) then (true) else (false)) else (false)) (fun (b27 : Bool) => if p4 = (0 : Int32) then (if b27 = false then (some ((0 : Int32), M23)) else (some ((1 : Int32), M23))) else (if p4 = (1 : Int32) then (some (x24, M23)) else (if p4 = (2 : Int32) then (some (x25, M23)) else (if p4 = (3 : Int32) then (if b27 = false then (some ((-4 : Int32), M23)) else (sq (fX10_sumOfPrices M23) (fun (x28 : Int32) => some (x28, M23)))) else (if b27 = false then (some ((-4 : Int32), M23)) else (bi (fX4_leastTotal M23) (fun (x30 : Int64) (M29 : zM) => sq (fX10_sumOfPrices M29) (fun (x31 : Int32) => some (((x30 - x31.toInt64)).toInt32, M29))))))))))))) else (some (x22, M21))))))))))))
set_option maxHeartbeats 4000000 in
set_option maxRecDepth 100000 in
theorem tX10_prices (E : zE) (p1 : Int32) (p2 : Int32) (p3 : Int32) (p4 : Int32) (M : zM) : zFI E mX10_prices [.ref 0, .int p1, .int p2, .int p3, .int p4] zY0 M (fX10_prices p1 p2 p3 p4 M) := by
  refine zF_of (L := [some (.ref 0), some (.int p1), some (.int p2), some (.int p3), some (.int p4), none, none, none, none]) plX10 (Nat.le_of_ble_eq_true rfl) rfl (fun post => ?_)
  unfold fX10_prices
  refine z_aload_n 0 dX10_prices_0 rfl ?_
  refine z_iload_n 1 dX10_prices_1 rfl ?_
  refine z_ctb (zat_V1 2 dX10_prices_2 lk_X10_266 zy_0 rfl rfl ⟨Nat.le_of_ble_eq_true rfl, Nat.le_of_ble_eq_true rfl⟩ (Nat.le_of_ble_eq_true rfl)) (tX10_isSheet E p1 M) (fun b1 => ?_)
  refine zk_jn (α := Unit) 25 (fun (_ : Unit) => [none, none, none, none, none, none, none, none, none]) (fun (_ : Unit) => []) (fun (_ : Unit) => (zY0, M)) ?_ ?_
  · intro _
    refine z_ldcw 25 dX10_prices_25 cw_X10_272 ?_
    exact z_ireturn 28 dX10_prices_28 rfl rfl (fun h => h)
  · intro k17 hk17
    refine z_ifeqb 5 25 dX10_prices_5 (by decide) (fun _ => ?_) (fun _ => ?_)
    · exact zk_weak (L' := [none, none, none, none, none, none, none, none, none]) (zLe_n (zLe_n (zLe_n (zLe_n (zLe_n (zLe_n (zLe_n (zLe_n (zLe_n zLe_nl))))))))) (hk17 ())
    · refine z_iload_n 8 dX10_prices_8 rfl ?_
      refine z_ctb (zat_S1 9 dX10_prices_9 lk_X10_269 ⟨Nat.le_of_ble_eq_true rfl, Nat.le_of_ble_eq_true rfl⟩ (Nat.le_of_ble_eq_true rfl)) (tX10_isLane E zY0 p2 M) (fun b18 => ?_)
      refine z_ifeqb 12 25 dX10_prices_12 (by decide) (fun _ => ?_) (fun _ => ?_)
      · exact zk_weak (L' := [none, none, none, none, none, none, none, none, none]) (zLe_n (zLe_n (zLe_n (zLe_n (zLe_n (zLe_n (zLe_n (zLe_n (zLe_n zLe_nl))))))))) (hk17 ())
      · refine z_iload 15 dX10_prices_15 rfl ?_
        refine z_iconst 17 dX10_prices_17 zci_0 ?_
        refine z_iconst 18 dX10_prices_18 zci_4 ?_
        refine z_ctb (zat_S3 19 dX10_prices_19 lk_X10_89 ⟨Nat.le_of_ble_eq_true rfl, Nat.le_of_ble_eq_true rfl⟩ (Nat.le_of_ble_eq_true rfl)) (tX10_within E zY0 p4 (0 : Int32) (4 : Int32) M) (fun b19 => ?_)
        refine z_ifneb 22 29 dX10_prices_22 (by decide) (fun _ => ?_) (fun _ => ?_)
        · exact zk_weak (L' := [none, none, none, none, none, none, none, none, none]) (zLe_n (zLe_n (zLe_n (zLe_n (zLe_n (zLe_n (zLe_n (zLe_n (zLe_n zLe_nl))))))))) (hk17 ())
        · refine z_aload_n 29 dX10_prices_29 rfl ?_
          refine z_aload_n 30 dX10_prices_30 rfl ?_
          refine z_getR 31 (r := 41) dX10_prices_31 fl_X10_23 zy_0 rfl ?_
          refine z_iload_n 34 dX10_prices_34 rfl ?_
          refine z_aaloadP 35 (r := fun j => 42 + 2 * j) (P := zsX8 zY0) dX10_prices_35 (by decide) rfl zy_41 zar_41 zap_41 (fun s20 hs20 => ?_)
          refine z_iload_n 36 dX10_prices_36 rfl ?_
          refine z_iload_n 37 dX10_prices_37 rfl ?_
          refine z_cI (zat_V3 38 dX10_prices_38 lk_X10_273 zy_0 rfl rfl ⟨Nat.le_of_ble_eq_true rfl, Nat.le_of_ble_eq_true rfl⟩ (Nat.le_of_ble_eq_true rfl)) (tX10_copyPrices E s20 hs20 p2 p3 M) (fun x22 M21 => ?_)
          refine z_istore 41 (L' := [some (.ref 0), some (.int p1), some (.int p2), some (.int p3), some (.int p4), some (.int x22), none, none, none]) dX10_prices_41 (by decide) rfl ?_
          refine z_iload 43 dX10_prices_43 rfl ?_
          refine z_ifeq 45 51 dX10_prices_45 (by decide) (fun _ => ?_) (fun _ => ?_)
          · refine z_aload_n 51 dX10_prices_51 rfl ?_
            refine z_bipush 52 dX10_prices_52 zbp_15 ?_
            refine z_cV (zat_V1 54 dX10_prices_54 lk_X10_164 zy_0 rfl rfl ⟨Nat.le_of_ble_eq_true rfl, Nat.le_of_ble_eq_true rfl⟩ (Nat.le_of_ble_eq_true rfl)) (tX10_lookAtPairs E (15 : Int32) M21) (fun M23 => ?_)
            refine z_aload_n 57 dX10_prices_57 rfl ?_
            refine z_ci (zat_V0 58 dX10_prices_58 lk_X10_277 zy_0 rfl rfl ⟨Nat.le_of_ble_eq_true rfl, Nat.le_of_ble_eq_true rfl⟩ (Nat.le_of_ble_eq_true rfl)) (tX10_firstUnderpriced E M23) (fun x24 => ?_)
            refine z_istore 61 (L' := [some (.ref 0), some (.int p1), some (.int p2), some (.int p3), some (.int p4), some (.int x22), some (.int x24), none, none]) dX10_prices_61 (by decide) rfl ?_
            refine z_aload_n 63 dX10_prices_63 rfl ?_
            refine z_ci (zat_V0 64 dX10_prices_64 lk_X10_280 zy_0 rfl rfl ⟨Nat.le_of_ble_eq_true rfl, Nat.le_of_ble_eq_true rfl⟩ (Nat.le_of_ble_eq_true rfl)) (tX10_firstOverpriced E M23) (fun x25 => ?_)
            refine z_istore 67 (L' := [some (.ref 0), some (.int p1), some (.int p2), some (.int p3), some (.int p4), some (.int x22), some (.int x24), some (.int x25), none]) dX10_prices_67 (by decide) rfl ?_
            refine z_iload 69 dX10_prices_69 rfl ?_
            refine z_bipush 71 dX10_prices_71 zbp_m4 ?_
            refine zk_ltj (α := Bool) 88 (fun (b27 : Bool) => [some (.ref 0), none, none, none, some (.int p4), none, some (.int x24), some (.int x25), none]) (fun (b27 : Bool) => [.int (zb b27)]) (fun (b27 : Bool) => (zY0, M23)) ?_ ?_
            · intro b27
              refine z_istore 88 (L' := [some (.ref 0), none, none, none, some (.int p4), none, some (.int x24), some (.int x25), some (.int (zb b27))]) dX10_prices_88 (by decide) rfl ?_
              refine z_iload 90 dX10_prices_90 rfl ?_
              refine z_tsc 92 124 (k := 0) (off := 32) dX10_prices_92 (by decide) (by decide) (by decide) (by decide) ?_ (fun n1 => ?_)
              · refine z_iload 124 dX10_prices_124 rfl ?_
                refine z_ifeqb 126 133 dX10_prices_126 (by decide) (fun _ => ?_) (fun _ => ?_)
                · refine z_iconst 133 dX10_prices_133 zci_0 ?_
                  exact z_ireturn 134 dX10_prices_134 rfl rfl (fun h => h)
                · refine z_iconst 129 dX10_prices_129 zci_1 ?_
                  refine z_goto 130 134 dX10_prices_130 (by decide) ?_
                  exact z_ireturn 134 dX10_prices_134 rfl rfl (fun h => h)
              · refine z_tsc 92 135 (k := 1) (off := 43) dX10_prices_92 (by decide) (by decide) (by decide) (by decide) ?_ (fun n2 => ?_)
                · refine z_iload 135 dX10_prices_135 rfl ?_
                  exact z_ireturn 137 dX10_prices_137 rfl rfl (fun h => h)
                · refine z_tsc 92 138 (k := 2) (off := 46) dX10_prices_92 (by decide) (by decide) (by decide) (by decide) ?_ (fun n3 => ?_)
                  · refine z_iload 138 dX10_prices_138 rfl ?_
                    exact z_ireturn 140 dX10_prices_140 rfl rfl (fun h => h)
                  · refine z_tsc 92 141 (k := 3) (off := 49) dX10_prices_92 (by decide) (by decide) (by decide) (by decide) ?_ (fun n4 => ?_)
                    · refine z_iload 141 dX10_prices_141 rfl ?_
                      refine z_ifeqb 143 153 dX10_prices_143 (by decide) (fun _ => ?_) (fun _ => ?_)
                      · refine z_bipush 153 dX10_prices_153 zbp_m4 ?_
                        exact z_ireturn 155 dX10_prices_155 rfl rfl (fun h => h)
                      · refine z_aload_n 146 dX10_prices_146 rfl ?_
                        refine z_ci (zat_V0 147 dX10_prices_147 lk_X10_283 zy_0 rfl rfl ⟨Nat.le_of_ble_eq_true rfl, Nat.le_of_ble_eq_true rfl⟩ (Nat.le_of_ble_eq_true rfl)) (tX10_sumOfPrices E M23) (fun x28 => ?_)
                        refine z_goto 150 155 dX10_prices_150 (by decide) ?_
                        exact z_ireturn 155 dX10_prices_155 rfl rfl (fun h => h)
                    · refine z_tsd 92 156 dX10_prices_92 (by have e1 := zne n1 (a := 0) (by decide); have e2 := zne n2 (a := 1) (by decide); have e3 := zne n3 (a := 2) (by decide); have e4 := zne n4 (a := 3) (by decide); omega) (by decide) ?_
                      refine z_iload 156 dX10_prices_156 rfl ?_
                      refine z_ifeqb 158 178 dX10_prices_158 (by decide) (fun _ => ?_) (fun _ => ?_)
                      · refine z_bipush 178 dX10_prices_178 zbp_m4 ?_
                        exact z_ireturn 180 dX10_prices_180 rfl rfl (fun h => h)
                      · refine z_aload_n 161 dX10_prices_161 rfl ?_
                        refine z_getR 162 (r := 58) dX10_prices_162 fl_X10_53 zy_0 rfl ?_
                        refine z_cJ (zat_V0 165 dX10_prices_165 lk_X10_182 zy_58 rfl rfl ⟨Nat.le_of_ble_eq_true rfl, Nat.le_of_ble_eq_true rfl⟩ (Nat.le_of_ble_eq_true rfl)) (tX4_leastTotal E M23) (fun x30 M29 => ?_)
                        refine z_aload_n 168 dX10_prices_168 rfl ?_
                        refine z_ci (zat_V0 169 dX10_prices_169 lk_X10_283 zy_0 rfl rfl ⟨Nat.le_of_ble_eq_true rfl, Nat.le_of_ble_eq_true rfl⟩ (Nat.le_of_ble_eq_true rfl)) (tX10_sumOfPrices E M29) (fun x31 => ?_)
                        refine z_i2l 172 dX10_prices_172 ?_
                        refine z_lsub 173 dX10_prices_173 ?_
                        refine z_l2i 174 dX10_prices_174 ?_
                        refine z_goto 175 180 dX10_prices_175 (by decide) ?_
                        exact z_ireturn 180 dX10_prices_180 rfl rfl (fun h => h)
            · intro k32 hk32
              refine z_icnev 73 87 dX10_prices_73 (by decide) ?_ ?_
              · refine z_iload 76 dX10_prices_76 rfl ?_
                refine z_bipush 78 dX10_prices_78 zbp_m4 ?_
                refine z_icnev 80 87 dX10_prices_80 (by decide) ?_ ?_
                · refine z_iconst 83 dX10_prices_83 zci_1 ?_
                  refine z_goto 84 88 dX10_prices_84 (by decide) ?_
                  exact zk_weak (L' := [some (.ref 0), none, none, none, some (.int p4), none, some (.int x24), some (.int x25), none]) (zLe_s (zLe_n (zLe_n (zLe_n (zLe_s (zLe_n (zLe_s (zLe_s (zLe_n zLe_nl))))))))) (hk32 true)
                · refine z_iconst 87 dX10_prices_87 zci_0 ?_
                  exact zk_weak (L' := [some (.ref 0), none, none, none, some (.int p4), none, some (.int x24), some (.int x25), none]) (zLe_s (zLe_n (zLe_n (zLe_n (zLe_s (zLe_n (zLe_s (zLe_s (zLe_n zLe_nl))))))))) (hk32 false)
              · refine z_iconst 87 dX10_prices_87 zci_0 ?_
                exact zk_weak (L' := [some (.ref 0), none, none, none, some (.int p4), none, some (.int x24), some (.int x25), none]) (zLe_s (zLe_n (zLe_n (zLe_n (zLe_s (zLe_n (zLe_s (zLe_s (zLe_n zLe_nl))))))))) (hk32 false)
          · refine z_iload 48 dX10_prices_48 rfl ?_
            exact z_ireturn 50 dX10_prices_50 rfl rfl (fun h => h)
def fX10_extremeTime (p1 : Int32) (M : zM) : Option Int32 :=
  zlp (α := Int32 × Int32) (fun rec16 => (fun (u33 : Int32 × Int32) => match u33 with | (x14, x15) => if (M.1 55 0) ≤ x15 then (some x14) else (grd (zix x15 10) (lt ((M.1 66 (zn x15))) (fun (x19 : Int32) => sq (α := Int32) (if x19 = (-4 : Int32) then (some x14) else (sq (fX10_tookNow x15 x19 M) (fun (x27 : Int32) => lt (if p1 = 0 then (if x27 ≤ x14 then (false) else (true)) else (if x14 ≤ x27 then (false) else (true))) (fun (b28 : Bool) => lt (if x14 = (-10004 : Int32) then (x27) else (if b28 = false then (x14) else (x27))) (fun (x30 : Int32) => some x30))))) (fun (x26 : Int32) => rec16 (x26, (x15 + (1 : Int32))))))))) zFu ((-10004 : Int32), (0 : Int32))
set_option maxHeartbeats 4000000 in
set_option maxRecDepth 100000 in
theorem tX10_extremeTime (E : zE) (p1 : Int32) (M : zM) : zFi E mX10_extremeTime [.ref 0, .int p1] zY0 M (fX10_extremeTime p1 M) := by
  refine zF_of (L := [some (.ref 0), some (.int p1), none, none, none, none, none]) plX10 (Nat.le_of_ble_eq_true rfl) rfl (fun post => ?_)
  unfold fX10_extremeTime
  refine z_sipush 0 dX10_extremeTime_0 zsp_m10004 ?_
  refine z_istore_n 3 (L' := [some (.ref 0), some (.int p1), some (.int (-10004 : Int32)), none, none, none, none]) dX10_extremeTime_3 (by decide) rfl ?_
  refine z_iconst 4 dX10_extremeTime_4 zci_0 ?_
  refine z_istore_n 5 (L' := [some (.ref 0), some (.int p1), some (.int (-10004 : Int32)), some (.int (0 : Int32)), none, none, none]) dX10_extremeTime_5 (by decide) rfl ?_
  refine zk_weak (L' := [some (.ref 0), some (.int p1), some (.int (-10004 : Int32)), some (.int (0 : Int32)), none, none, none]) (zLe_s (zLe_s (zLe_s (zLe_s (zLe_n (zLe_n (zLe_n zLe_nl))))))) (zk_lp (α := Int32 × Int32) 6 (fun (u17 : Int32 × Int32) => match u17 with | (x14, x15) => [some (.ref 0), some (.int p1), some (.int x14), some (.int x15), none, none, none]) (fun (u18 : Int32 × Int32) => match u18 with | (x14, x15) => (zY0, M)) ?_ zFu ((-10004 : Int32), (0 : Int32)))
  intro rec16 hrec16
  intro u34
  obtain ⟨x14, x15⟩ := u34
  try dsimp only
  refine z_iload_n 6 dX10_extremeTime_6 rfl ?_
  refine z_aload_n 7 dX10_extremeTime_7 rfl ?_
  refine z_getR 8 (r := 55) dX10_extremeTime_8 fl_X10_44 zy_0 rfl ?_
  refine z_getI 11 dX10_extremeTime_11 fl_X10_385 zy_55 rfl ?_
  refine z_icge 14 100 dX10_extremeTime_14 (by decide) (fun _ => ?_) (fun _ => ?_)
  · refine z_iload_n 100 dX10_extremeTime_100 rfl ?_
    exact z_ireturn 101 dX10_extremeTime_101 rfl rfl (fun h => h)
  · refine z_aload_n 17 dX10_extremeTime_17 rfl ?_
    refine z_getR 18 (r := 58) dX10_extremeTime_18 fl_X10_53 zy_0 rfl ?_
    refine z_getR 21 (r := 66) dX10_extremeTime_21 fl_X10_203 zy_58 rfl ?_
    refine z_iload_n 24 dX10_extremeTime_24 rfl ?_
    refine z_iaload 25 dX10_extremeTime_25 zy_66 ?_
    refine zk_nmI (fun x19 => ?_)
    refine z_istore 26 (L' := [some (.ref 0), some (.int p1), some (.int x14), some (.int x15), some (.int x19), none, none]) dX10_extremeTime_26 (by decide) rfl ?_
    refine z_iload 28 dX10_extremeTime_28 rfl ?_
    refine z_bipush 30 dX10_extremeTime_30 zbp_m4 ?_
    refine zk_sqj (α := Int32) 94 (fun (x26 : Int32) => [some (.ref 0), some (.int p1), some (.int x26), some (.int x15), none, none, none]) (fun (x26 : Int32) => []) (fun (x26 : Int32) => (zY0, M)) ?_ ?_
    · intro x26
      refine z_iinc 94 (v := (x15 + (1 : Int32))) (L' := [some (.ref 0), some (.int p1), some (.int x26), some (.int (x15 + (1 : Int32))), none, none, none]) dX10_extremeTime_94 rfl (zinc zci_1 _) (by decide) rfl ?_
      refine z_goto 97 6 dX10_extremeTime_97 (by decide) ?_
      exact zk_weak (L' := [some (.ref 0), some (.int p1), some (.int x26), some (.int (x15 + (1 : Int32))), none, none, none]) (zLe_s (zLe_s (zLe_s (zLe_s (zLe_n (zLe_n (zLe_n zLe_nl))))))) (hrec16 (x26, (x15 + (1 : Int32))))
    · refine z_iceq 32 94 dX10_extremeTime_32 (by decide) (fun _ => ?_) (fun _ => ?_)
      · exact zk_exitw (L' := [some (.ref 0), some (.int p1), some (.int x14), some (.int x15), none, none, none]) (zLe_s (zLe_s (zLe_s (zLe_s (zLe_n (zLe_n (zLe_n zLe_nl))))))) (fun h => h)
      · refine z_aload_n 35 dX10_extremeTime_35 rfl ?_
        refine z_iload_n 36 dX10_extremeTime_36 rfl ?_
        refine z_iload 37 dX10_extremeTime_37 rfl ?_
        refine z_ci (zat_V2 39 dX10_extremeTime_39 lk_X10_161 zy_0 rfl rfl ⟨Nat.le_of_ble_eq_true rfl, Nat.le_of_ble_eq_true rfl⟩ (Nat.le_of_ble_eq_true rfl)) (tX10_tookNow E x15 x19 M) (fun x27 => ?_)
        refine z_istore 42 (L' := [some (.ref 0), some (.int p1), some (.int x14), some (.int x15), some (.int x19), some (.int x27), none]) dX10_extremeTime_42 (by decide) rfl ?_
        refine z_iload_n 44 dX10_extremeTime_44 rfl ?_
        refine zk_ltj (α := Bool) 73 (fun (b28 : Bool) => [some (.ref 0), some (.int p1), some (.int x14), some (.int x15), none, some (.int x27), none]) (fun (b28 : Bool) => [.int (zb b28)]) (fun (b28 : Bool) => (zY0, M)) ?_ ?_
        · intro b28
          refine z_istore 73 (L' := [some (.ref 0), some (.int p1), some (.int x14), some (.int x15), none, some (.int x27), some (.int (zb b28))]) dX10_extremeTime_73 (by decide) rfl ?_
          refine z_iload_n 75 dX10_extremeTime_75 rfl ?_
          refine z_sipush 76 dX10_extremeTime_76 zsp_m10004 ?_
          refine zk_ltj (α := Int32) 93 (fun (x30 : Int32) => [some (.ref 0), some (.int p1), none, some (.int x15), none, none, none]) (fun (x30 : Int32) => [.int x30]) (fun (x30 : Int32) => (zY0, M)) ?_ ?_
          · intro x30
            refine z_istore_n 93 (L' := [some (.ref 0), some (.int p1), some (.int x30), some (.int x15), none, none, none]) dX10_extremeTime_93 (by decide) rfl ?_
            exact zk_exitw (L' := [some (.ref 0), some (.int p1), some (.int x30), some (.int x15), none, none, none]) (zLe_s (zLe_s (zLe_s (zLe_s (zLe_n (zLe_n (zLe_n zLe_nl))))))) (fun h => h)
          · intro k31 hk31
            refine z_iceqv 79 87 dX10_extremeTime_79 (by decide) ?_ ?_
            · refine z_iload 87 dX10_extremeTime_87 rfl ?_
              refine z_goto 89 93 dX10_extremeTime_89 (by decide) ?_
              exact zk_weak (L' := [some (.ref 0), some (.int p1), none, some (.int x15), none, none, none]) (zLe_s (zLe_s (zLe_n (zLe_s (zLe_n (zLe_n (zLe_n zLe_nl))))))) (hk31 x27)
            · refine z_iload 82 dX10_extremeTime_82 rfl ?_
              refine z_ifeqbv 84 92 dX10_extremeTime_84 (by decide) ?_ ?_
              · refine z_iload_n 92 dX10_extremeTime_92 rfl ?_
                exact zk_weak (L' := [some (.ref 0), some (.int p1), none, some (.int x15), none, none, none]) (zLe_s (zLe_s (zLe_n (zLe_s (zLe_n (zLe_n (zLe_n zLe_nl))))))) (hk31 x14)
              · refine z_iload 87 dX10_extremeTime_87 rfl ?_
                refine z_goto 89 93 dX10_extremeTime_89 (by decide) ?_
                exact zk_weak (L' := [some (.ref 0), some (.int p1), none, some (.int x15), none, none, none]) (zLe_s (zLe_s (zLe_n (zLe_s (zLe_n (zLe_n (zLe_n zLe_nl))))))) (hk31 x27)
        · intro k32 hk32
          refine z_ifeqv 45 62 dX10_extremeTime_45 (by decide) ?_ ?_
          · refine z_iload 62 dX10_extremeTime_62 rfl ?_
            refine z_iload_n 64 dX10_extremeTime_64 rfl ?_
            refine z_iclev 65 72 dX10_extremeTime_65 (by decide) ?_ ?_
            · refine z_iconst 72 dX10_extremeTime_72 zci_0 ?_
              exact zk_weak (L' := [some (.ref 0), some (.int p1), some (.int x14), some (.int x15), none, some (.int x27), none]) (zLe_s (zLe_s (zLe_s (zLe_s (zLe_n (zLe_s (zLe_n zLe_nl))))))) (hk32 false)
            · refine z_iconst 68 dX10_extremeTime_68 zci_1 ?_
              refine z_goto 69 73 dX10_extremeTime_69 (by decide) ?_
              exact zk_weak (L' := [some (.ref 0), some (.int p1), some (.int x14), some (.int x15), none, some (.int x27), none]) (zLe_s (zLe_s (zLe_s (zLe_s (zLe_n (zLe_s (zLe_n zLe_nl))))))) (hk32 true)
          · refine z_iload 48 dX10_extremeTime_48 rfl ?_
            refine z_iload_n 50 dX10_extremeTime_50 rfl ?_
            refine z_icgev 51 58 dX10_extremeTime_51 (by decide) ?_ ?_
            · refine z_iconst 58 dX10_extremeTime_58 zci_0 ?_
              refine z_goto 59 73 dX10_extremeTime_59 (by decide) ?_
              exact zk_weak (L' := [some (.ref 0), some (.int p1), some (.int x14), some (.int x15), none, some (.int x27), none]) (zLe_s (zLe_s (zLe_s (zLe_s (zLe_n (zLe_s (zLe_n zLe_nl))))))) (hk32 false)
            · refine z_iconst 54 dX10_extremeTime_54 zci_1 ?_
              refine z_goto 55 73 dX10_extremeTime_55 (by decide) ?_
              exact zk_weak (L' := [some (.ref 0), some (.int p1), some (.int x14), some (.int x15), none, some (.int x27), none]) (zLe_s (zLe_s (zLe_s (zLe_s (zLe_n (zLe_s (zLe_n zLe_nl))))))) (hk32 true)
def fX10_meanTime (p1 : Int32) (p2 : Int32) (M : zM) : Option (Int32 × zM) :=
  sq (α := Int32 × Int32 × zM) (zlp (α := Int32 × Int32 × Int32 × zM) (β := Int32 × Int32 × zM) (fun rec71 => (fun (u103 : Int32 × Int32 × Int32 × zM) => match u103 with | (x67, x68, x69, M70) => if (M70.1 55 0) ≤ x69 then (some (x67, x68, M70)) else (grd (zix x69 10) (lt ((M70.1 66 (zn x69))) (fun (x77 : Int32) => sq (α := Int32 × Int32 × zM) (if x77 = (-4 : Int32) then (some (x67, x68, M70)) else (jn (α := zM) (fun (M94 : zM) => sq (fX10_tookNow x69 x77 M94) (fun (x95 : Int32) => lt ((x67 + x95)) (fun (x96 : Int32) => some (x96, (x68 + (1 : Int32)), M94)))) (fun k97 => if p1 = 0 then (k97 M70) else (bi (fX4_isInAllBest x69 x77 M70) (fun (b99 : Bool) (M98 : zM) => if b99 = false then (some (x67, x68, M98)) else (k97 M98)))))) (fun (u100 : Int32 × Int32 × zM) => match u100 with | (x86, x87, M88) => rec71 (x86, x87, (x69 + (1 : Int32)), M88))))))) zFu ((0 : Int32), (0 : Int32), (0 : Int32), M)) (fun (u104 : Int32 × Int32 × zM) => match u104 with | (x74, x75, M76) => if x75 = 0 then (some ((-10004 : Int32), M76)) else (sq (fX10_partOfFraction x74.toInt64 x75.toInt64 p2) (fun (x102 : Int64) => some ((x102).toInt32, M76))))
set_option maxHeartbeats 4000000 in
set_option maxRecDepth 100000 in
theorem tX10_meanTime (E : zE) (p1 : Int32) (p2 : Int32) (M : zM) : zFI E mX10_meanTime [.ref 0, .int p1, .int p2] zY0 M (fX10_meanTime p1 p2 M) := by
  refine zF_of (L := [some (.ref 0), some (.int p1), some (.int p2), none, none, none, none]) plX10 (Nat.le_of_ble_eq_true rfl) rfl (fun post => ?_)
  unfold fX10_meanTime
  refine z_iconst 0 dX10_meanTime_0 zci_0 ?_
  refine z_istore_n 1 (L' := [some (.ref 0), some (.int p1), some (.int p2), some (.int (0 : Int32)), none, none, none]) dX10_meanTime_1 (by decide) rfl ?_
  refine z_iconst 2 dX10_meanTime_2 zci_0 ?_
  refine z_istore 3 (L' := [some (.ref 0), some (.int p1), some (.int p2), some (.int (0 : Int32)), some (.int (0 : Int32)), none, none]) dX10_meanTime_3 (by decide) rfl ?_
  refine z_iconst 5 dX10_meanTime_5 zci_0 ?_
  refine z_istore 6 (L' := [some (.ref 0), some (.int p1), some (.int p2), some (.int (0 : Int32)), some (.int (0 : Int32)), some (.int (0 : Int32)), none]) dX10_meanTime_6 (by decide) rfl ?_
  refine zk_sqj (α := Int32 × Int32 × zM) 77 (fun (u105 : Int32 × Int32 × zM) => match u105 with | (x74, x75, M76) => [none, none, some (.int p2), some (.int x74), some (.int x75), none, none]) (fun (u106 : Int32 × Int32 × zM) => match u106 with | (x74, x75, M76) => []) (fun (u107 : Int32 × Int32 × zM) => match u107 with | (x74, x75, M76) => (zY0, M76)) ?_ ?_
  · intro u108
    obtain ⟨x74, x75, M76⟩ := u108
    try dsimp only
    refine z_iload 77 dX10_meanTime_77 rfl ?_
    refine z_ifne 79 88 dX10_meanTime_79 (by decide) (fun _ => ?_) (fun _ => ?_)
    · refine z_sipush 82 dX10_meanTime_82 zsp_m10004 ?_
      refine z_goto 85 98 dX10_meanTime_85 (by decide) ?_
      exact z_ireturn 98 dX10_meanTime_98 rfl rfl (fun h => h)
    · refine z_iload_n 88 dX10_meanTime_88 rfl ?_
      refine z_i2l 89 dX10_meanTime_89 ?_
      refine z_iload 90 dX10_meanTime_90 rfl ?_
      refine z_i2l 92 dX10_meanTime_92 ?_
      refine z_iload_n 93 dX10_meanTime_93 rfl ?_
      refine z_cj (zat_S3 94 dX10_meanTime_94 lk_X10_216 ⟨Nat.le_of_ble_eq_true rfl, Nat.le_of_ble_eq_true rfl⟩ (Nat.le_of_ble_eq_true rfl)) (tX10_partOfFraction E zY0 x74.toInt64 x75.toInt64 p2 M76) (fun x102 => ?_)
      refine z_l2i 97 dX10_meanTime_97 ?_
      exact z_ireturn 98 dX10_meanTime_98 rfl rfl (fun h => h)
  · refine zk_weak (L' := [some (.ref 0), some (.int p1), some (.int p2), some (.int (0 : Int32)), some (.int (0 : Int32)), some (.int (0 : Int32)), none]) (zLe_s (zLe_s (zLe_s (zLe_s (zLe_s (zLe_s (zLe_n zLe_nl))))))) (zk_lp (α := Int32 × Int32 × Int32 × zM) 8 (fun (u72 : Int32 × Int32 × Int32 × zM) => match u72 with | (x67, x68, x69, M70) => [some (.ref 0), some (.int p1), some (.int p2), some (.int x67), some (.int x68), some (.int x69), none]) (fun (u73 : Int32 × Int32 × Int32 × zM) => match u73 with | (x67, x68, x69, M70) => (zY0, M70)) ?_ zFu ((0 : Int32), (0 : Int32), (0 : Int32), M))
    intro rec71 hrec71
    intro u109
    obtain ⟨x67, x68, x69, M70⟩ := u109
    try dsimp only
    refine z_iload 8 dX10_meanTime_8 rfl ?_
    refine z_aload_n 10 dX10_meanTime_10 rfl ?_
    refine z_getR 11 (r := 55) dX10_meanTime_11 fl_X10_44 zy_0 rfl ?_
    refine z_getI 14 dX10_meanTime_14 fl_X10_385 zy_55 rfl ?_
    refine z_icge 17 77 dX10_meanTime_17 (by decide) (fun _ => ?_) (fun _ => ?_)
    · exact zk_exitw (L' := [none, none, some (.int p2), some (.int x67), some (.int x68), none, none]) (zLe_n (zLe_n (zLe_s (zLe_s (zLe_s (zLe_n (zLe_n zLe_nl))))))) (fun h => h)
    · refine z_aload_n 20 dX10_meanTime_20 rfl ?_
      refine z_getR 21 (r := 58) dX10_meanTime_21 fl_X10_53 zy_0 rfl ?_
      refine z_getR 24 (r := 66) dX10_meanTime_24 fl_X10_203 zy_58 rfl ?_
      refine z_iload 27 dX10_meanTime_27 rfl ?_
      refine z_iaload 29 dX10_meanTime_29 zy_66 ?_
      refine zk_nmI (fun x77 => ?_)
      refine z_istore 30 (L' := [some (.ref 0), some (.int p1), some (.int p2), some (.int x67), some (.int x68), some (.int x69), some (.int x77)]) dX10_meanTime_30 (by decide) rfl ?_
      refine z_iload 32 dX10_meanTime_32 rfl ?_
      refine z_bipush 34 dX10_meanTime_34 zbp_m4 ?_
      refine zk_sqj (α := Int32 × Int32 × zM) 71 (fun (u89 : Int32 × Int32 × zM) => match u89 with | (x86, x87, M88) => [some (.ref 0), some (.int p1), some (.int p2), some (.int x86), some (.int x87), some (.int x69), none]) (fun (u90 : Int32 × Int32 × zM) => match u90 with | (x86, x87, M88) => []) (fun (u91 : Int32 × Int32 × zM) => match u91 with | (x86, x87, M88) => (zY0, M88)) ?_ ?_
      · intro u101
        obtain ⟨x86, x87, M88⟩ := u101
        try dsimp only
        refine z_iinc 71 (v := (x69 + (1 : Int32))) (L' := [some (.ref 0), some (.int p1), some (.int p2), some (.int x86), some (.int x87), some (.int (x69 + (1 : Int32))), none]) dX10_meanTime_71 rfl (zinc zci_1 _) (by decide) rfl ?_
        refine z_goto 74 8 dX10_meanTime_74 (by decide) ?_
        exact zk_weak (L' := [some (.ref 0), some (.int p1), some (.int p2), some (.int x86), some (.int x87), some (.int (x69 + (1 : Int32))), none]) (zLe_s (zLe_s (zLe_s (zLe_s (zLe_s (zLe_s (zLe_n zLe_nl))))))) (hrec71 (x86, x87, (x69 + (1 : Int32)), M88))
      · refine z_iceq 36 71 dX10_meanTime_36 (by decide) (fun _ => ?_) (fun _ => ?_)
        · exact zk_exitw (L' := [some (.ref 0), some (.int p1), some (.int p2), some (.int x67), some (.int x68), some (.int x69), none]) (zLe_s (zLe_s (zLe_s (zLe_s (zLe_s (zLe_s (zLe_n zLe_nl))))))) (fun h => h)
        · refine z_iload_n 39 dX10_meanTime_39 rfl ?_
          refine zk_jn (α := zM) 57 (fun (M94 : zM) => [some (.ref 0), some (.int p1), some (.int p2), some (.int x67), some (.int x68), some (.int x69), some (.int x77)]) (fun (M94 : zM) => []) (fun (M94 : zM) => (zY0, M94)) ?_ ?_
          · intro M94
            refine z_iload_n 57 dX10_meanTime_57 rfl ?_
            refine z_aload_n 58 dX10_meanTime_58 rfl ?_
            refine z_iload 59 dX10_meanTime_59 rfl ?_
            refine z_iload 61 dX10_meanTime_61 rfl ?_
            refine z_ci (zat_V2 63 dX10_meanTime_63 lk_X10_161 zy_0 rfl rfl ⟨Nat.le_of_ble_eq_true rfl, Nat.le_of_ble_eq_true rfl⟩ (Nat.le_of_ble_eq_true rfl)) (tX10_tookNow E x69 x77 M94) (fun x95 => ?_)
            refine z_iadd 66 dX10_meanTime_66 ?_
            refine zk_nmI (fun x96 => ?_)
            refine z_istore_n 67 (L' := [some (.ref 0), some (.int p1), some (.int p2), some (.int x96), some (.int x68), some (.int x69), some (.int x77)]) dX10_meanTime_67 (by decide) rfl ?_
            refine z_iinc 68 (v := (x68 + (1 : Int32))) (L' := [some (.ref 0), some (.int p1), some (.int p2), some (.int x96), some (.int (x68 + (1 : Int32))), some (.int x69), some (.int x77)]) dX10_meanTime_68 rfl (zinc zci_1 _) (by decide) rfl ?_
            exact zk_exitw (L' := [some (.ref 0), some (.int p1), some (.int p2), some (.int x96), some (.int (x68 + (1 : Int32))), some (.int x69), none]) (zLe_s (zLe_s (zLe_s (zLe_s (zLe_s (zLe_s (zLe_n zLe_nl))))))) (fun h => h)
          · intro k97 hk97
            refine z_ifeq 40 57 dX10_meanTime_40 (by decide) (fun _ => ?_) (fun _ => ?_)
            · exact zk_weak (L' := [some (.ref 0), some (.int p1), some (.int p2), some (.int x67), some (.int x68), some (.int x69), some (.int x77)]) (zLe_s (zLe_s (zLe_s (zLe_s (zLe_s (zLe_s (zLe_s zLe_nl))))))) (hk97 M70)
            · refine z_aload_n 43 dX10_meanTime_43 rfl ?_
              refine z_getR 44 (r := 58) dX10_meanTime_44 fl_X10_53 zy_0 rfl ?_
              refine z_iload 47 dX10_meanTime_47 rfl ?_
              refine z_iload 49 dX10_meanTime_49 rfl ?_
              refine z_cB (zat_V2 51 dX10_meanTime_51 lk_X10_213 zy_58 rfl rfl ⟨Nat.le_of_ble_eq_true rfl, Nat.le_of_ble_eq_true rfl⟩ (Nat.le_of_ble_eq_true rfl)) (tX4_isInAllBest E x69 x77 M70) (fun b99 M98 => ?_)
              refine z_ifeqb 54 71 dX10_meanTime_54 (by decide) (fun _ => ?_) (fun _ => ?_)
              · exact zk_exitw (L' := [some (.ref 0), some (.int p1), some (.int p2), some (.int x67), some (.int x68), some (.int x69), none]) (zLe_s (zLe_s (zLe_s (zLe_s (zLe_s (zLe_s (zLe_n zLe_nl))))))) (fun h => h)
              · exact zk_weak (L' := [some (.ref 0), some (.int p1), some (.int p2), some (.int x67), some (.int x68), some (.int x69), some (.int x77)]) (zLe_s (zLe_s (zLe_s (zLe_s (zLe_s (zLe_s (zLe_s zLe_nl))))))) (hk97 M98)
def fX10_times (p1 : Int32) (M : zM) : Option (Int32 × zM) :=
  lt (fX10_within p1 (0 : Int32) (6 : Int32)) (fun (b1 : Bool) => if b1 = false then (some ((-10000 : Int32), M)) else (sq (fX10_findFirst M) (fun (M2 : zM) => if p1 = 0 then (sq (fX4_countFirst M2) (fun (x3 : Int32) => some (x3, M2))) else (if (2 : Int32) < p1 then (lt (if p1 < (5 : Int32) then (false) else (true)) (fun (b4 : Bool) => bi (fX10_meanTime (zb b4) (zrm_i (p1 - (3 : Int32)) (2 : Int32)) M2) (fun (x6 : Int32) (M5 : zM) => some (x6, M5)))) else (lt (if p1 = (1 : Int32) then (true) else (false)) (fun (b8 : Bool) => sq (fX10_extremeTime (zb b8) M2) (fun (x9 : Int32) => some (x9, M2))))))))
set_option maxHeartbeats 4000000 in
set_option maxRecDepth 100000 in
theorem tX10_times (E : zE) (p1 : Int32) (M : zM) : zFI E mX10_times [.ref 0, .int p1] zY0 M (fX10_times p1 M) := by
  refine zF_of (L := [some (.ref 0), some (.int p1)]) plX10 (Nat.le_of_ble_eq_true rfl) rfl (fun post => ?_)
  unfold fX10_times
  refine z_iload_n 0 dX10_times_0 rfl ?_
  refine z_iconst 1 dX10_times_1 zci_0 ?_
  refine z_bipush 2 dX10_times_2 zbp_6 ?_
  refine z_ctb (zat_S3 4 dX10_times_4 lk_X10_89 ⟨Nat.le_of_ble_eq_true rfl, Nat.le_of_ble_eq_true rfl⟩ (Nat.le_of_ble_eq_true rfl)) (tX10_within E zY0 p1 (0 : Int32) (6 : Int32) M) (fun b1 => ?_)
  refine z_ifneb 7 14 dX10_times_7 (by decide) (fun _ => ?_) (fun _ => ?_)
  · refine z_sipush 10 dX10_times_10 zsp_m10000 ?_
    exact z_ireturn 13 dX10_times_13 rfl rfl (fun h => h)
  · refine z_aload_n 14 dX10_times_14 rfl ?_
    refine z_cV (zat_V0 15 dX10_times_15 lk_X10_200 zy_0 rfl rfl ⟨Nat.le_of_ble_eq_true rfl, Nat.le_of_ble_eq_true rfl⟩ (Nat.le_of_ble_eq_true rfl)) (tX10_findFirst E M) (fun M2 => ?_)
    refine z_iload_n 18 dX10_times_18 rfl ?_
    refine z_ifne 19 30 dX10_times_19 (by decide) (fun _ => ?_) (fun _ => ?_)
    · refine z_aload_n 22 dX10_times_22 rfl ?_
      refine z_getR 23 (r := 58) dX10_times_23 fl_X10_53 zy_0 rfl ?_
      refine z_ci (zat_V0 26 dX10_times_26 lk_X10_254 zy_58 rfl rfl ⟨Nat.le_of_ble_eq_true rfl, Nat.le_of_ble_eq_true rfl⟩ (Nat.le_of_ble_eq_true rfl)) (tX4_countFirst E M2) (fun x3 => ?_)
      exact z_ireturn 29 dX10_times_29 rfl rfl (fun h => h)
    · refine z_iload_n 30 dX10_times_30 rfl ?_
      refine z_iconst 31 dX10_times_31 zci_2 ?_
      refine z_icgt 32 50 dX10_times_32 (by decide) (fun _ => ?_) (fun _ => ?_)
      · refine z_aload_n 50 dX10_times_50 rfl ?_
        refine z_iload_n 51 dX10_times_51 rfl ?_
        refine z_iconst 52 dX10_times_52 zci_5 ?_
        refine zk_ltj (α := Bool) 61 (fun (b4 : Bool) => [none, some (.int p1)]) (fun (b4 : Bool) => [.int (zb b4), .ref 0]) (fun (b4 : Bool) => (zY0, M2)) ?_ ?_
        · intro b4
          refine z_iload_n 61 dX10_times_61 rfl ?_
          refine z_iconst 62 dX10_times_62 zci_3 ?_
          refine z_isub 63 dX10_times_63 ?_
          refine z_iconst 64 dX10_times_64 zci_2 ?_
          refine z_iremc 65 dX10_times_65 (by decide) ?_
          refine z_cI (zat_V2 66 dX10_times_66 lk_X10_290 zy_0 rfl rfl ⟨Nat.le_of_ble_eq_true rfl, Nat.le_of_ble_eq_true rfl⟩ (Nat.le_of_ble_eq_true rfl)) (tX10_meanTime E (zb b4) (zrm_i (p1 - (3 : Int32)) (2 : Int32)) M2) (fun x6 M5 => ?_)
          exact z_ireturn 69 dX10_times_69 rfl rfl (fun h => h)
        · intro k7 hk7
          refine z_icltv 53 60 dX10_times_53 (by decide) ?_ ?_
          · refine z_iconst 60 dX10_times_60 zci_0 ?_
            exact zk_weak (L' := [none, some (.int p1)]) (zLe_n (zLe_s zLe_nl)) (hk7 false)
          · refine z_iconst 56 dX10_times_56 zci_1 ?_
            refine z_goto 57 61 dX10_times_57 (by decide) ?_
            exact zk_weak (L' := [none, some (.int p1)]) (zLe_n (zLe_s zLe_nl)) (hk7 true)
      · refine z_aload_n 35 dX10_times_35 rfl ?_
        refine z_iload_n 36 dX10_times_36 rfl ?_
        refine z_iconst 37 dX10_times_37 zci_1 ?_
        refine zk_ltj (α := Bool) 46 (fun (b8 : Bool) => [none, none]) (fun (b8 : Bool) => [.int (zb b8), .ref 0]) (fun (b8 : Bool) => (zY0, M2)) ?_ ?_
        · intro b8
          refine z_ci (zat_V1 46 dX10_times_46 lk_X10_286 zy_0 rfl rfl ⟨Nat.le_of_ble_eq_true rfl, Nat.le_of_ble_eq_true rfl⟩ (Nat.le_of_ble_eq_true rfl)) (tX10_extremeTime E (zb b8) M2) (fun x9 => ?_)
          exact z_ireturn 49 dX10_times_49 rfl rfl (fun h => h)
        · intro k10 hk10
          refine z_icnev 38 45 dX10_times_38 (by decide) ?_ ?_
          · refine z_iconst 41 dX10_times_41 zci_1 ?_
            refine z_goto 42 46 dX10_times_42 (by decide) ?_
            exact zk_weak (L' := [none, none]) (zLe_n (zLe_n zLe_nl)) (hk10 true)
          · refine z_iconst 45 dX10_times_45 zci_0 ?_
            exact zk_weak (L' := [none, none]) (zLe_n (zLe_n zLe_nl)) (hk10 false)
def fX10_clock (p1 : Int32) (M : zM) : Option (Int32 × zM) :=
  lt (fX10_within p1 (0 : Int32) (1 : Int32)) (fun (b1 : Bool) => if b1 = false then (some ((-1000 : Int32), M)) else (grd (zix (9 : Int32) 10) (lt ((M.1 11 (zn (9 : Int32)))) (fun (x2 : Int32) => sq (fX5_comparePlates 1 (15 : Int32) M) (fun (M3 : zM) => sq (α := Int32 × Int64 × zM) (zlp (α := Int32 × Int64 × Int32 × zM) (β := Int32 × Int64 × zM) (fun rec8 => (fun (u26 : Int32 × Int64 × Int32 × zM) => match u26 with | (x4, x5, x6, M7) => if (30 : Int32) < x6 then (some (x4, x5, M7)) else (sq (fX5_addTimes 1 x6 M7) (fun (M14 : zM) => bi (fX4_leastTotal M14) (fun (x16 : Int64) (M15 : zM) => sq (α := Int32 × Int64) (jn (α := Unit) (fun (_ : Unit) => some (x6, x16)) (fun k23 => if x16 < x5 then (k23 ()) else (if x16 = x5 then (if (zab (x4 - x2)) ≤ (zab (x6 - x2)) then (some (x4, x5)) else (k23 ())) else (some (x4, x5))))) (fun (u24 : Int32 × Int64) => match u24 with | (x18, x19) => rec8 (x18, x19, (x6 + (1 : Int32)), M15))))))) zFu ((-30 : Int32), (1152921504606846976 : Int64), (-30 : Int32), M3)) (fun (u27 : Int32 × Int64 × zM) => match u27 with | (x11, x12, M13) => if p1 = 0 then (some (x11, M13)) else (some ((x12).toInt32, M13))))))))
set_option maxHeartbeats 4000000 in
set_option maxRecDepth 100000 in
theorem tX10_clock (E : zE) (p1 : Int32) (M : zM) : zFI E mX10_clock [.ref 0, .int p1] zY0 M (fX10_clock p1 M) := by
  refine zF_of (L := [some (.ref 0), some (.int p1), none, none, none, none, none, none, none]) plX10 (Nat.le_of_ble_eq_true rfl) rfl (fun post => ?_)
  unfold fX10_clock
  refine z_iload_n 0 dX10_clock_0 rfl ?_
  refine z_iconst 1 dX10_clock_1 zci_0 ?_
  refine z_iconst 2 dX10_clock_2 zci_1 ?_
  refine z_ctb (zat_S3 3 dX10_clock_3 lk_X10_89 ⟨Nat.le_of_ble_eq_true rfl, Nat.le_of_ble_eq_true rfl⟩ (Nat.le_of_ble_eq_true rfl)) (tX10_within E zY0 p1 (0 : Int32) (1 : Int32) M) (fun b1 => ?_)
  refine z_ifneb 6 13 dX10_clock_6 (by decide) (fun _ => ?_) (fun _ => ?_)
  · refine z_sipush 9 dX10_clock_9 zsp_m1000 ?_
    exact z_ireturn 12 dX10_clock_12 rfl rfl (fun h => h)
  · refine z_aload_n 13 dX10_clock_13 rfl ?_
    refine z_getR 14 (r := 1) dX10_clock_14 fl_X10_12 zy_0 rfl ?_
    refine z_getR 17 (r := 10) dX10_clock_17 fl_X10_97 zy_1 rfl ?_
    refine z_getR 20 (r := 11) dX10_clock_20 fl_X10_107 zy_10 rfl ?_
    refine z_bipush 23 dX10_clock_23 zbp_9 ?_
    refine z_iaload 25 dX10_clock_25 zy_11 ?_
    refine zk_nmI (fun x2 => ?_)
    refine z_istore_n 26 (L' := [some (.ref 0), some (.int p1), some (.int x2), none, none, none, none, none, none]) dX10_clock_26 (by decide) rfl ?_
    refine z_bipush 27 dX10_clock_27 zbp_m30 ?_
    refine z_istore_n 29 (L' := [some (.ref 0), some (.int p1), some (.int x2), some (.int (-30 : Int32)), none, none, none, none, none]) dX10_clock_29 (by decide) rfl ?_
    refine z_ldc2 30 dX10_clock_30 cw_X10_296 ?_
    refine z_lstore 33 (L' := [some (.ref 0), some (.int p1), some (.int x2), some (.int (-30 : Int32)), some (.long (1152921504606846976 : Int64)), none, none, none, none]) dX10_clock_33 (by decide) rfl ?_
    refine z_aload_n 35 dX10_clock_35 rfl ?_
    refine z_getR 36 (r := 55) dX10_clock_36 fl_X10_44 zy_0 rfl ?_
    refine z_aload_n 39 dX10_clock_39 rfl ?_
    refine z_getR 40 (r := 1) dX10_clock_40 fl_X10_12 zy_0 rfl ?_
    refine z_bipush 43 dX10_clock_43 zbp_15 ?_
    refine z_cV (zat_V2 45 dX10_clock_45 lk_X10_298 zy_55 rfl rfl ⟨Nat.le_of_ble_eq_true rfl, Nat.le_of_ble_eq_true rfl⟩ (Nat.le_of_ble_eq_true rfl)) (tX5_comparePlates E 1 zs_X7_1 (15 : Int32) M) (fun M3 => ?_)
    refine z_bipush 48 dX10_clock_48 zbp_m30 ?_
    refine z_istore 50 (L' := [some (.ref 0), some (.int p1), some (.int x2), some (.int (-30 : Int32)), some (.long (1152921504606846976 : Int64)), none, some (.int (-30 : Int32)), none, none]) dX10_clock_50 (by decide) rfl ?_
    refine zk_sqj (α := Int32 × Int64 × zM) 126 (fun (u28 : Int32 × Int64 × zM) => match u28 with | (x11, x12, M13) => [none, some (.int p1), none, some (.int x11), some (.long x12), none, none, none, none]) (fun (u29 : Int32 × Int64 × zM) => match u29 with | (x11, x12, M13) => []) (fun (u30 : Int32 × Int64 × zM) => match u30 with | (x11, x12, M13) => (zY0, M13)) ?_ ?_
    · intro u31
      obtain ⟨x11, x12, M13⟩ := u31
      try dsimp only
      refine z_iload_n 126 dX10_clock_126 rfl ?_
      refine z_ifne 127 134 dX10_clock_127 (by decide) (fun _ => ?_) (fun _ => ?_)
      · refine z_iload_n 130 dX10_clock_130 rfl ?_
        refine z_goto 131 137 dX10_clock_131 (by decide) ?_
        exact z_ireturn 137 dX10_clock_137 rfl rfl (fun h => h)
      · refine z_lload 134 dX10_clock_134 rfl ?_
        refine z_l2i 136 dX10_clock_136 ?_
        exact z_ireturn 137 dX10_clock_137 rfl rfl (fun h => h)
    · refine zk_weak (L' := [some (.ref 0), some (.int p1), some (.int x2), some (.int (-30 : Int32)), some (.long (1152921504606846976 : Int64)), none, some (.int (-30 : Int32)), none, none]) (zLe_s (zLe_s (zLe_s (zLe_s (zLe_s (zLe_n (zLe_s (zLe_n (zLe_n zLe_nl))))))))) (zk_lp (α := Int32 × Int64 × Int32 × zM) 52 (fun (u9 : Int32 × Int64 × Int32 × zM) => match u9 with | (x4, x5, x6, M7) => [some (.ref 0), some (.int p1), some (.int x2), some (.int x4), some (.long x5), none, some (.int x6), none, none]) (fun (u10 : Int32 × Int64 × Int32 × zM) => match u10 with | (x4, x5, x6, M7) => (zY0, M7)) ?_ zFu ((-30 : Int32), (1152921504606846976 : Int64), (-30 : Int32), M3))
      intro rec8 hrec8
      intro u32
      obtain ⟨x4, x5, x6, M7⟩ := u32
      try dsimp only
      refine z_iload 52 dX10_clock_52 rfl ?_
      refine z_bipush 54 dX10_clock_54 zbp_30 ?_
      refine z_icgt 56 126 dX10_clock_56 (by decide) (fun _ => ?_) (fun _ => ?_)
      · exact zk_exitw (L' := [none, some (.int p1), none, some (.int x4), some (.long x5), none, none, none, none]) (zLe_n (zLe_s (zLe_n (zLe_s (zLe_s (zLe_n (zLe_n (zLe_n (zLe_n zLe_nl))))))))) (fun h => h)
      · refine z_aload_n 59 dX10_clock_59 rfl ?_
        refine z_getR 60 (r := 55) dX10_clock_60 fl_X10_44 zy_0 rfl ?_
        refine z_aload_n 63 dX10_clock_63 rfl ?_
        refine z_getR 64 (r := 1) dX10_clock_64 fl_X10_12 zy_0 rfl ?_
        refine z_iload 67 dX10_clock_67 rfl ?_
        refine z_cV (zat_V2 69 dX10_clock_69 lk_X10_302 zy_55 rfl rfl ⟨Nat.le_of_ble_eq_true rfl, Nat.le_of_ble_eq_true rfl⟩ (Nat.le_of_ble_eq_true rfl)) (tX5_addTimes E 1 zs_X7_1 x6 M7) (fun M14 => ?_)
        refine z_aload_n 72 dX10_clock_72 rfl ?_
        refine z_getR 73 (r := 58) dX10_clock_73 fl_X10_53 zy_0 rfl ?_
        refine z_cJ (zat_V0 76 dX10_clock_76 lk_X10_182 zy_58 rfl rfl ⟨Nat.le_of_ble_eq_true rfl, Nat.le_of_ble_eq_true rfl⟩ (Nat.le_of_ble_eq_true rfl)) (tX4_leastTotal E M14) (fun x16 M15 => ?_)
        refine z_lstore 79 (L' := [some (.ref 0), some (.int p1), some (.int x2), some (.int x4), some (.long x5), none, some (.int x6), some (.long x16), none]) dX10_clock_79 (by decide) rfl ?_
        refine z_lload 81 dX10_clock_81 rfl ?_
        refine z_lload 83 dX10_clock_83 rfl ?_
        refine z_lcmp 85 dX10_clock_85 ?_
        refine zk_sqj (α := Int32 × Int64) 120 (fun (u20 : Int32 × Int64) => match u20 with | (x18, x19) => [some (.ref 0), some (.int p1), some (.int x2), some (.int x18), some (.long x19), none, some (.int x6), none, none]) (fun (u21 : Int32 × Int64) => match u21 with | (x18, x19) => []) (fun (u22 : Int32 × Int64) => match u22 with | (x18, x19) => (zY0, M15)) ?_ ?_
        · intro u25
          obtain ⟨x18, x19⟩ := u25
          try dsimp only
          refine z_iinc 120 (v := (x6 + (1 : Int32))) (L' := [some (.ref 0), some (.int p1), some (.int x2), some (.int x18), some (.long x19), none, some (.int (x6 + (1 : Int32))), none, none]) dX10_clock_120 rfl (zinc zci_1 _) (by decide) rfl ?_
          refine z_goto 123 52 dX10_clock_123 (by decide) ?_
          exact zk_weak (L' := [some (.ref 0), some (.int p1), some (.int x2), some (.int x18), some (.long x19), none, some (.int (x6 + (1 : Int32))), none, none]) (zLe_s (zLe_s (zLe_s (zLe_s (zLe_s (zLe_n (zLe_s (zLe_n (zLe_n zLe_nl))))))))) (hrec8 (x18, x19, (x6 + (1 : Int32)), M15))
        · refine zk_jn (α := Unit) 113 (fun (_ : Unit) => [some (.ref 0), some (.int p1), some (.int x2), none, none, none, some (.int x6), some (.long x16), none]) (fun (_ : Unit) => []) (fun (_ : Unit) => (zY0, M15)) ?_ ?_
          · intro _
            refine z_lload 113 dX10_clock_113 rfl ?_
            refine z_lstore 115 (L' := [some (.ref 0), some (.int p1), some (.int x2), none, some (.long x16), none, some (.int x6), some (.long x16), none]) dX10_clock_115 (by decide) rfl ?_
            refine z_iload 117 dX10_clock_117 rfl ?_
            refine z_istore_n 119 (L' := [some (.ref 0), some (.int p1), some (.int x2), some (.int x6), some (.long x16), none, some (.int x6), some (.long x16), none]) dX10_clock_119 (by decide) rfl ?_
            exact zk_exitw (L' := [some (.ref 0), some (.int p1), some (.int x2), some (.int x6), some (.long x16), none, some (.int x6), none, none]) (zLe_s (zLe_s (zLe_s (zLe_s (zLe_s (zLe_n (zLe_s (zLe_n (zLe_n zLe_nl))))))))) (fun h => h)
          · intro k23 hk23
            refine z_lclt 86 113 dX10_clock_86 (by decide) (fun _ => ?_) (fun _ => ?_)
            · exact zk_weak (L' := [some (.ref 0), some (.int p1), some (.int x2), none, none, none, some (.int x6), some (.long x16), none]) (zLe_s (zLe_s (zLe_s (zLe_n (zLe_n (zLe_n (zLe_s (zLe_s (zLe_n zLe_nl))))))))) (hk23 ())
            · refine z_lload 89 dX10_clock_89 rfl ?_
              refine z_lload 91 dX10_clock_91 rfl ?_
              refine z_lcmp 93 dX10_clock_93 ?_
              refine z_lcne 94 120 dX10_clock_94 (by decide) (fun _ => ?_) (fun _ => ?_)
              · refine z_iload 97 dX10_clock_97 rfl ?_
                refine z_iload_n 99 dX10_clock_99 rfl ?_
                refine z_isub 100 dX10_clock_100 ?_
                refine z_mabs 101 dX10_clock_101 ml_X10_305 ml_mabs.1 ml_mabs.2.1 ml_mabs.2.2 ⟨Nat.le_of_ble_eq_true rfl, Nat.le_of_ble_eq_true rfl⟩ ?_
                refine z_iload_n 104 dX10_clock_104 rfl ?_
                refine z_iload_n 105 dX10_clock_105 rfl ?_
                refine z_isub 106 dX10_clock_106 ?_
                refine z_mabs 107 dX10_clock_107 ml_X10_305 ml_mabs.1 ml_mabs.2.1 ml_mabs.2.2 ⟨Nat.le_of_ble_eq_true rfl, Nat.le_of_ble_eq_true rfl⟩ ?_
                refine z_icge 110 120 dX10_clock_110 (by decide) (fun _ => ?_) (fun _ => ?_)
                · exact zk_exitw (L' := [some (.ref 0), some (.int p1), some (.int x2), some (.int x4), some (.long x5), none, some (.int x6), none, none]) (zLe_s (zLe_s (zLe_s (zLe_s (zLe_s (zLe_n (zLe_s (zLe_n (zLe_n zLe_nl))))))))) (fun h => h)
                · exact zk_weak (L' := [some (.ref 0), some (.int p1), some (.int x2), none, none, none, some (.int x6), some (.long x16), none]) (zLe_s (zLe_s (zLe_s (zLe_n (zLe_n (zLe_n (zLe_s (zLe_s (zLe_n zLe_nl))))))))) (hk23 ())
              · exact zk_exitw (L' := [some (.ref 0), some (.int p1), some (.int x2), some (.int x4), some (.long x5), none, some (.int x6), none, none]) (zLe_s (zLe_s (zLe_s (zLe_s (zLe_s (zLe_n (zLe_s (zLe_n (zLe_n zLe_nl))))))))) (fun h => h)
def fX10_hasPassed (p1 : Int32) (p2 : Int32) (M : zM) : Option Bool :=
  grd (zix p1 10) (lt ((M.1 66 (zn p1))) (fun (x1 : Int32) => grd (zix p2 10) (lt ((M.1 66 (zn p2))) (fun (x2 : Int32) => if x1 = (-4 : Int32) then (some false) else (if x2 = (-4 : Int32) then (some false) else (grd (zix p1 10) (grd (zix p2 10) (if (M.1 3 (zn p1)) ≤ (M.1 3 (zn p2)) then (some false) else (grd (zix x1 10) (grd (zix x2 10) (if (M.1 7 (zn x2)) ≤ (M.1 7 (zn x1)) then (some false) else (some true))))))))))))
set_option maxHeartbeats 4000000 in
set_option maxRecDepth 100000 in
theorem tX10_hasPassed (E : zE) (p1 : Int32) (p2 : Int32) (M : zM) : zFb E mX10_hasPassed [.ref 0, .int p1, .int p2] zY0 M (fX10_hasPassed p1 p2 M) := by
  refine zF_of (L := [some (.ref 0), some (.int p1), some (.int p2), none, none]) plX10 (Nat.le_of_ble_eq_true rfl) rfl (fun post => ?_)
  unfold fX10_hasPassed
  refine z_aload_n 0 dX10_hasPassed_0 rfl ?_
  refine z_getR 1 (r := 58) dX10_hasPassed_1 fl_X10_53 zy_0 rfl ?_
  refine z_getR 4 (r := 66) dX10_hasPassed_4 fl_X10_203 zy_58 rfl ?_
  refine z_iload_n 7 dX10_hasPassed_7 rfl ?_
  refine z_iaload 8 dX10_hasPassed_8 zy_66 ?_
  refine zk_nmI (fun x1 => ?_)
  refine z_istore_n 9 (L' := [some (.ref 0), some (.int p1), some (.int p2), some (.int x1), none]) dX10_hasPassed_9 (by decide) rfl ?_
  refine z_aload_n 10 dX10_hasPassed_10 rfl ?_
  refine z_getR 11 (r := 58) dX10_hasPassed_11 fl_X10_53 zy_0 rfl ?_
  refine z_getR 14 (r := 66) dX10_hasPassed_14 fl_X10_203 zy_58 rfl ?_
  refine z_iload_n 17 dX10_hasPassed_17 rfl ?_
  refine z_iaload 18 dX10_hasPassed_18 zy_66 ?_
  refine zk_nmI (fun x2 => ?_)
  refine z_istore 19 (L' := [some (.ref 0), some (.int p1), some (.int p2), some (.int x1), some (.int x2)]) dX10_hasPassed_19 (by decide) rfl ?_
  refine z_iload_n 21 dX10_hasPassed_21 rfl ?_
  refine z_bipush 22 dX10_hasPassed_22 zbp_m4 ?_
  refine z_iceq 24 34 dX10_hasPassed_24 (by decide) (fun _ => ?_) (fun _ => ?_)
  · refine z_iconst 34 dX10_hasPassed_34 zci_0 ?_
    exact z_ireturn 35 (v := zb false) dX10_hasPassed_35 rfl (zput_b false).1 (fun h => h)
  · refine z_iload 27 dX10_hasPassed_27 rfl ?_
    refine z_bipush 29 dX10_hasPassed_29 zbp_m4 ?_
    refine z_icne 31 36 dX10_hasPassed_31 (by decide) (fun _ => ?_) (fun _ => ?_)
    · refine z_iconst 34 dX10_hasPassed_34 zci_0 ?_
      exact z_ireturn 35 (v := zb false) dX10_hasPassed_35 rfl (zput_b false).1 (fun h => h)
    · refine z_aload_n 36 dX10_hasPassed_36 rfl ?_
      refine z_getR 37 (r := 1) dX10_hasPassed_37 fl_X10_12 zy_0 rfl ?_
      refine z_getR 40 (r := 2) dX10_hasPassed_40 fl_X10_170 zy_1 rfl ?_
      refine z_getR 43 (r := 3) dX10_hasPassed_43 fl_X10_145 zy_2 rfl ?_
      refine z_iload_n 46 dX10_hasPassed_46 rfl ?_
      refine z_iaload 47 dX10_hasPassed_47 zy_3 ?_
      refine z_aload_n 48 dX10_hasPassed_48 rfl ?_
      refine z_getR 49 (r := 1) dX10_hasPassed_49 fl_X10_12 zy_0 rfl ?_
      refine z_getR 52 (r := 2) dX10_hasPassed_52 fl_X10_170 zy_1 rfl ?_
      refine z_getR 55 (r := 3) dX10_hasPassed_55 fl_X10_145 zy_2 rfl ?_
      refine z_iload_n 58 dX10_hasPassed_58 rfl ?_
      refine z_iaload 59 dX10_hasPassed_59 zy_3 ?_
      refine z_icle 60 95 dX10_hasPassed_60 (by decide) (fun _ => ?_) (fun _ => ?_)
      · refine z_iconst 95 dX10_hasPassed_95 zci_0 ?_
        exact z_ireturn 96 (v := zb false) dX10_hasPassed_96 rfl (zput_b false).1 (fun h => h)
      · refine z_aload_n 63 dX10_hasPassed_63 rfl ?_
        refine z_getR 64 (r := 1) dX10_hasPassed_64 fl_X10_12 zy_0 rfl ?_
        refine z_getR 67 (r := 6) dX10_hasPassed_67 fl_X10_174 zy_1 rfl ?_
        refine z_getR 70 (r := 7) dX10_hasPassed_70 fl_X10_145 zy_6 rfl ?_
        refine z_iload_n 73 dX10_hasPassed_73 rfl ?_
        refine z_iaload 74 dX10_hasPassed_74 zy_7 ?_
        refine z_aload_n 75 dX10_hasPassed_75 rfl ?_
        refine z_getR 76 (r := 1) dX10_hasPassed_76 fl_X10_12 zy_0 rfl ?_
        refine z_getR 79 (r := 6) dX10_hasPassed_79 fl_X10_174 zy_1 rfl ?_
        refine z_getR 82 (r := 7) dX10_hasPassed_82 fl_X10_145 zy_6 rfl ?_
        refine z_iload 85 dX10_hasPassed_85 rfl ?_
        refine z_iaload 87 dX10_hasPassed_87 zy_7 ?_
        refine z_icge 88 95 dX10_hasPassed_88 (by decide) (fun _ => ?_) (fun _ => ?_)
        · refine z_iconst 95 dX10_hasPassed_95 zci_0 ?_
          exact z_ireturn 96 (v := zb false) dX10_hasPassed_96 rfl (zput_b false).1 (fun h => h)
        · refine z_iconst 91 dX10_hasPassed_91 zci_1 ?_
          refine z_goto 92 96 dX10_hasPassed_92 (by decide) ?_
          exact z_ireturn 96 (v := zb true) dX10_hasPassed_96 rfl (zput_b true).1 (fun h => h)
def fX10_passingsOf (p1 : Int32) (M : zM) : Option Int32 :=
  zlp (α := Int32 × Int32) (fun rec19 => (fun (u26 : Int32 × Int32) => match u26 with | (x17, x18) => if (M.1 55 0) ≤ x18 then (some x17) else (sq (fX10_hasPassed p1 x18 M) (fun (b22 : Bool) => lt (if b22 = false then (false) else (true)) (fun (b23 : Bool) => lt ((x17 + (zb b23))) (fun (x24 : Int32) => rec19 (x24, (x18 + (1 : Int32))))))))) zFu ((0 : Int32), (0 : Int32))
set_option maxHeartbeats 4000000 in
set_option maxRecDepth 100000 in
theorem tX10_passingsOf (E : zE) (p1 : Int32) (M : zM) : zFi E mX10_passingsOf [.ref 0, .int p1] zY0 M (fX10_passingsOf p1 M) := by
  refine zF_of (L := [some (.ref 0), some (.int p1), none, none]) plX10 (Nat.le_of_ble_eq_true rfl) rfl (fun post => ?_)
  unfold fX10_passingsOf
  refine z_iconst 0 dX10_passingsOf_0 zci_0 ?_
  refine z_istore_n 1 (L' := [some (.ref 0), some (.int p1), some (.int (0 : Int32)), none]) dX10_passingsOf_1 (by decide) rfl ?_
  refine z_iconst 2 dX10_passingsOf_2 zci_0 ?_
  refine z_istore_n 3 (L' := [some (.ref 0), some (.int p1), some (.int (0 : Int32)), some (.int (0 : Int32))]) dX10_passingsOf_3 (by decide) rfl ?_
  refine zk_weak (L' := [some (.ref 0), some (.int p1), some (.int (0 : Int32)), some (.int (0 : Int32))]) (zLe_s (zLe_s (zLe_s (zLe_s zLe_nl)))) (zk_lp (α := Int32 × Int32) 4 (fun (u20 : Int32 × Int32) => match u20 with | (x17, x18) => [some (.ref 0), some (.int p1), some (.int x17), some (.int x18)]) (fun (u21 : Int32 × Int32) => match u21 with | (x17, x18) => (zY0, M)) ?_ zFu ((0 : Int32), (0 : Int32)))
  intro rec19 hrec19
  intro u27
  obtain ⟨x17, x18⟩ := u27
  try dsimp only
  refine z_iload_n 4 dX10_passingsOf_4 rfl ?_
  refine z_aload_n 5 dX10_passingsOf_5 rfl ?_
  refine z_getR 6 (r := 55) dX10_passingsOf_6 fl_X10_44 zy_0 rfl ?_
  refine z_getI 9 dX10_passingsOf_9 fl_X10_385 zy_55 rfl ?_
  refine z_icge 12 38 dX10_passingsOf_12 (by decide) (fun _ => ?_) (fun _ => ?_)
  · refine z_iload_n 38 dX10_passingsOf_38 rfl ?_
    exact z_ireturn 39 dX10_passingsOf_39 rfl rfl (fun h => h)
  · refine z_iload_n 15 dX10_passingsOf_15 rfl ?_
    refine z_aload_n 16 dX10_passingsOf_16 rfl ?_
    refine z_iload_n 17 dX10_passingsOf_17 rfl ?_
    refine z_iload_n 18 dX10_passingsOf_18 rfl ?_
    refine z_cb (zat_V2 19 dX10_passingsOf_19 lk_X10_400 zy_0 rfl rfl ⟨Nat.le_of_ble_eq_true rfl, Nat.le_of_ble_eq_true rfl⟩ (Nat.le_of_ble_eq_true rfl)) (tX10_hasPassed E p1 x18 M) (fun b22 => ?_)
    refine zk_ltj (α := Bool) 30 (fun (b23 : Bool) => [some (.ref 0), some (.int p1), none, some (.int x18)]) (fun (b23 : Bool) => [.int (zb b23), .int x17]) (fun (b23 : Bool) => (zY0, M)) ?_ ?_
    · intro b23
      refine z_iadd 30 dX10_passingsOf_30 ?_
      refine zk_nmI (fun x24 => ?_)
      refine z_istore_n 31 (L' := [some (.ref 0), some (.int p1), some (.int x24), some (.int x18)]) dX10_passingsOf_31 (by decide) rfl ?_
      refine z_iinc 32 (v := (x18 + (1 : Int32))) (L' := [some (.ref 0), some (.int p1), some (.int x24), some (.int (x18 + (1 : Int32)))]) dX10_passingsOf_32 rfl (zinc zci_1 _) (by decide) rfl ?_
      refine z_goto 35 4 dX10_passingsOf_35 (by decide) ?_
      exact zk_weak (L' := [some (.ref 0), some (.int p1), some (.int x24), some (.int (x18 + (1 : Int32)))]) (zLe_s (zLe_s (zLe_s (zLe_s zLe_nl)))) (hrec19 (x24, (x18 + (1 : Int32))))
    · intro k25 hk25
      refine z_ifeqbv 22 29 dX10_passingsOf_22 (by decide) ?_ ?_
      · refine z_iconst 29 dX10_passingsOf_29 zci_0 ?_
        exact zk_weak (L' := [some (.ref 0), some (.int p1), none, some (.int x18)]) (zLe_s (zLe_s (zLe_n (zLe_s zLe_nl)))) (hk25 false)
      · refine z_iconst 25 dX10_passingsOf_25 zci_1 ?_
        refine z_goto 26 30 dX10_passingsOf_26 (by decide) ?_
        exact zk_weak (L' := [some (.ref 0), some (.int p1), none, some (.int x18)]) (zLe_s (zLe_s (zLe_n (zLe_s zLe_nl)))) (hk25 true)
def fX10_allPassings (M : zM) : Option Int32 :=
  zlp (α := Int32 × Int32) (fun rec17 => (fun (u22 : Int32 × Int32) => match u22 with | (x15, x16) => if (M.1 55 0) ≤ x16 then (some x15) else (sq (fX10_passingsOf x16 M) (fun (x20 : Int32) => lt ((x15 + x20)) (fun (x21 : Int32) => rec17 (x21, (x16 + (1 : Int32)))))))) zFu ((0 : Int32), (0 : Int32))
set_option maxHeartbeats 4000000 in
set_option maxRecDepth 100000 in
theorem tX10_allPassings (E : zE)  (M : zM) : zFi E mX10_allPassings [.ref 0] zY0 M (fX10_allPassings M) := by
  refine zF_of (L := [some (.ref 0), none, none]) plX10 (Nat.le_of_ble_eq_true rfl) rfl (fun post => ?_)
  unfold fX10_allPassings
  refine z_iconst 0 dX10_allPassings_0 zci_0 ?_
  refine z_istore_n 1 (L' := [some (.ref 0), some (.int (0 : Int32)), none]) dX10_allPassings_1 (by decide) rfl ?_
  refine z_iconst 2 dX10_allPassings_2 zci_0 ?_
  refine z_istore_n 3 (L' := [some (.ref 0), some (.int (0 : Int32)), some (.int (0 : Int32))]) dX10_allPassings_3 (by decide) rfl ?_
  refine zk_weak (L' := [some (.ref 0), some (.int (0 : Int32)), some (.int (0 : Int32))]) (zLe_s (zLe_s (zLe_s zLe_nl))) (zk_lp (α := Int32 × Int32) 4 (fun (u18 : Int32 × Int32) => match u18 with | (x15, x16) => [some (.ref 0), some (.int x15), some (.int x16)]) (fun (u19 : Int32 × Int32) => match u19 with | (x15, x16) => (zY0, M)) ?_ zFu ((0 : Int32), (0 : Int32)))
  intro rec17 hrec17
  intro u23
  obtain ⟨x15, x16⟩ := u23
  try dsimp only
  refine z_iload_n 4 dX10_allPassings_4 rfl ?_
  refine z_aload_n 5 dX10_allPassings_5 rfl ?_
  refine z_getR 6 (r := 55) dX10_allPassings_6 fl_X10_44 zy_0 rfl ?_
  refine z_getI 9 dX10_allPassings_9 fl_X10_385 zy_55 rfl ?_
  refine z_icge 12 29 dX10_allPassings_12 (by decide) (fun _ => ?_) (fun _ => ?_)
  · refine z_iload_n 29 dX10_allPassings_29 rfl ?_
    exact z_ireturn 30 dX10_allPassings_30 rfl rfl (fun h => h)
  · refine z_iload_n 15 dX10_allPassings_15 rfl ?_
    refine z_aload_n 16 dX10_allPassings_16 rfl ?_
    refine z_iload_n 17 dX10_allPassings_17 rfl ?_
    refine z_ci (zat_V1 18 dX10_allPassings_18 lk_X10_403 zy_0 rfl rfl ⟨Nat.le_of_ble_eq_true rfl, Nat.le_of_ble_eq_true rfl⟩ (Nat.le_of_ble_eq_true rfl)) (tX10_passingsOf E x16 M) (fun x20 => ?_)
    refine z_iadd 21 dX10_allPassings_21 ?_
    refine zk_nmI (fun x21 => ?_)
    refine z_istore_n 22 (L' := [some (.ref 0), some (.int x21), some (.int x16)]) dX10_allPassings_22 (by decide) rfl ?_
    refine z_iinc 23 (v := (x16 + (1 : Int32))) (L' := [some (.ref 0), some (.int x21), some (.int (x16 + (1 : Int32)))]) dX10_allPassings_23 rfl (zinc zci_1 _) (by decide) rfl ?_
    refine z_goto 26 4 dX10_allPassings_26 (by decide) ?_
    exact zk_weak (L' := [some (.ref 0), some (.int x21), some (.int (x16 + (1 : Int32)))]) (zLe_s (zLe_s (zLe_s zLe_nl))) (hrec17 (x21, (x16 + (1 : Int32))))
def fX10_fewestWithoutPassing (M : zM) : Option (Int32 × zM) :=
  sq (fX1_begin (M.1 55 0) M) (fun (M1 : zM) => sq (α := zM) (zlp (α := Int32 × zM) (β := zM) (fun rec32 => (fun (u52 : Int32 × zM) => match u52 with | (x30, M31) => if (M31.1 55 0) ≤ x30 then (some M31) else (sq (α := zM) (zlp (α := Int32 × zM) (β := zM) (fun rec38 => (fun (u48 : Int32 × zM) => match u48 with | (x36, M37) => if x30 ≤ x36 then (some M37) else (sq (fX10_hasPassed x30 x36 M37) (fun (b42 : Bool) => sq (α := zM) (if b42 = false then (sq (fX10_hasPassed x36 x30 M37) (fun (b46 : Bool) => if b46 = false then (sq (fX1_join x30 x36 M37) (fun (M47 : zM) => some M47)) else (some M37))) else (some M37)) (fun (M45 : zM) => rec38 ((x36 + (1 : Int32)), M45)))))) zFu ((0 : Int32), M31)) (fun (M41 : zM) => rec32 ((x30 + (1 : Int32)), M41))))) zFu ((0 : Int32), M1)) (fun (M35 : zM) => bi (fX1_largest M35) (fun (x51 : Int32) (M50 : zM) => some (((M35.1 55 0) - x51), M50))))
set_option maxHeartbeats 4000000 in
set_option maxRecDepth 100000 in
theorem tX10_fewestWithoutPassing (E : zE)  (M : zM) : zFI E mX10_fewestWithoutPassing [.ref 0] zY0 M (fX10_fewestWithoutPassing M) := by
  refine zF_of (L := [some (.ref 0), none, none]) plX10 (Nat.le_of_ble_eq_true rfl) rfl (fun post => ?_)
  unfold fX10_fewestWithoutPassing
  refine z_aload_n 0 dX10_fewestWithoutPassing_0 rfl ?_
  refine z_getR 1 (r := 70) dX10_fewestWithoutPassing_1 fl_X10_67 zy_0 rfl ?_
  refine z_aload_n 4 dX10_fewestWithoutPassing_4 rfl ?_
  refine z_getR 5 (r := 55) dX10_fewestWithoutPassing_5 fl_X10_44 zy_0 rfl ?_
  refine z_getI 8 dX10_fewestWithoutPassing_8 fl_X10_385 zy_55 rfl ?_
  refine z_cV (zat_V1 11 dX10_fewestWithoutPassing_11 lk_X10_406 zy_70 rfl rfl ⟨Nat.le_of_ble_eq_true rfl, Nat.le_of_ble_eq_true rfl⟩ (Nat.le_of_ble_eq_true rfl)) (tX1_begin E (M.1 55 0) M) (fun M1 => ?_)
  refine z_iconst 14 dX10_fewestWithoutPassing_14 zci_0 ?_
  refine z_istore_n 15 (L' := [some (.ref 0), some (.int (0 : Int32)), none]) dX10_fewestWithoutPassing_15 (by decide) rfl ?_
  refine zk_sqj (α := zM) 73 (fun (M35 : zM) => [some (.ref 0), none, none]) (fun (M35 : zM) => []) (fun (M35 : zM) => (zY0, M35)) ?_ ?_
  · intro M35
    refine z_aload_n 73 dX10_fewestWithoutPassing_73 rfl ?_
    refine z_getR 74 (r := 55) dX10_fewestWithoutPassing_74 fl_X10_44 zy_0 rfl ?_
    refine z_getI 77 dX10_fewestWithoutPassing_77 fl_X10_385 zy_55 rfl ?_
    refine z_aload_n 80 dX10_fewestWithoutPassing_80 rfl ?_
    refine z_getR 81 (r := 70) dX10_fewestWithoutPassing_81 fl_X10_67 zy_0 rfl ?_
    refine z_cI (zat_V0 84 dX10_fewestWithoutPassing_84 lk_X10_412 zy_70 rfl rfl ⟨Nat.le_of_ble_eq_true rfl, Nat.le_of_ble_eq_true rfl⟩ (Nat.le_of_ble_eq_true rfl)) (tX1_largest E M35) (fun x51 M50 => ?_)
    refine z_isub 87 dX10_fewestWithoutPassing_87 ?_
    exact z_ireturn 88 dX10_fewestWithoutPassing_88 rfl rfl (fun h => h)
  · refine zk_weak (L' := [some (.ref 0), some (.int (0 : Int32)), none]) (zLe_s (zLe_s (zLe_n zLe_nl))) (zk_lp (α := Int32 × zM) 16 (fun (u33 : Int32 × zM) => match u33 with | (x30, M31) => [some (.ref 0), some (.int x30), none]) (fun (u34 : Int32 × zM) => match u34 with | (x30, M31) => (zY0, M31)) ?_ zFu ((0 : Int32), M1))
    intro rec32 hrec32
    intro u53
    obtain ⟨x30, M31⟩ := u53
    try dsimp only
    refine z_iload_n 16 dX10_fewestWithoutPassing_16 rfl ?_
    refine z_aload_n 17 dX10_fewestWithoutPassing_17 rfl ?_
    refine z_getR 18 (r := 55) dX10_fewestWithoutPassing_18 fl_X10_44 zy_0 rfl ?_
    refine z_getI 21 dX10_fewestWithoutPassing_21 fl_X10_385 zy_55 rfl ?_
    refine z_icge 24 73 dX10_fewestWithoutPassing_24 (by decide) (fun _ => ?_) (fun _ => ?_)
    · exact zk_exitw (L' := [some (.ref 0), none, none]) (zLe_s (zLe_n (zLe_n zLe_nl))) (fun h => h)
    · refine z_iconst 27 dX10_fewestWithoutPassing_27 zci_0 ?_
      refine z_istore_n 28 (L' := [some (.ref 0), some (.int x30), some (.int (0 : Int32))]) dX10_fewestWithoutPassing_28 (by decide) rfl ?_
      refine zk_sqj (α := zM) 67 (fun (M41 : zM) => [some (.ref 0), some (.int x30), none]) (fun (M41 : zM) => []) (fun (M41 : zM) => (zY0, M41)) ?_ ?_
      · intro M41
        refine z_iinc 67 (v := (x30 + (1 : Int32))) (L' := [some (.ref 0), some (.int (x30 + (1 : Int32))), none]) dX10_fewestWithoutPassing_67 rfl (zinc zci_1 _) (by decide) rfl ?_
        refine z_goto 70 16 dX10_fewestWithoutPassing_70 (by decide) ?_
        exact zk_weak (L' := [some (.ref 0), some (.int (x30 + (1 : Int32))), none]) (zLe_s (zLe_s (zLe_n zLe_nl))) (hrec32 ((x30 + (1 : Int32)), M41))
      · refine zk_weak (L' := [some (.ref 0), some (.int x30), some (.int (0 : Int32))]) (zLe_s (zLe_s (zLe_s zLe_nl))) (zk_lp (α := Int32 × zM) 29 (fun (u39 : Int32 × zM) => match u39 with | (x36, M37) => [some (.ref 0), some (.int x30), some (.int x36)]) (fun (u40 : Int32 × zM) => match u40 with | (x36, M37) => (zY0, M37)) ?_ zFu ((0 : Int32), M31))
        intro rec38 hrec38
        intro u49
        obtain ⟨x36, M37⟩ := u49
        try dsimp only
        refine z_iload_n 29 dX10_fewestWithoutPassing_29 rfl ?_
        refine z_iload_n 30 dX10_fewestWithoutPassing_30 rfl ?_
        refine z_icge 31 67 dX10_fewestWithoutPassing_31 (by decide) (fun _ => ?_) (fun _ => ?_)
        · exact zk_exitw (L' := [some (.ref 0), some (.int x30), none]) (zLe_s (zLe_s (zLe_n zLe_nl))) (fun h => h)
        · refine z_aload_n 34 dX10_fewestWithoutPassing_34 rfl ?_
          refine z_iload_n 35 dX10_fewestWithoutPassing_35 rfl ?_
          refine z_iload_n 36 dX10_fewestWithoutPassing_36 rfl ?_
          refine z_cb (zat_V2 37 dX10_fewestWithoutPassing_37 lk_X10_400 zy_0 rfl rfl ⟨Nat.le_of_ble_eq_true rfl, Nat.le_of_ble_eq_true rfl⟩ (Nat.le_of_ble_eq_true rfl)) (tX10_hasPassed E x30 x36 M37) (fun b42 => ?_)
          refine zk_sqj (α := zM) 61 (fun (M45 : zM) => [some (.ref 0), some (.int x30), some (.int x36)]) (fun (M45 : zM) => []) (fun (M45 : zM) => (zY0, M45)) ?_ ?_
          · intro M45
            refine z_iinc 61 (v := (x36 + (1 : Int32))) (L' := [some (.ref 0), some (.int x30), some (.int (x36 + (1 : Int32)))]) dX10_fewestWithoutPassing_61 rfl (zinc zci_1 _) (by decide) rfl ?_
            refine z_goto 64 29 dX10_fewestWithoutPassing_64 (by decide) ?_
            exact zk_weak (L' := [some (.ref 0), some (.int x30), some (.int (x36 + (1 : Int32)))]) (zLe_s (zLe_s (zLe_s zLe_nl))) (hrec38 ((x36 + (1 : Int32)), M45))
          · refine z_ifneb 40 61 dX10_fewestWithoutPassing_40 (by decide) (fun _ => ?_) (fun _ => ?_)
            · refine z_aload_n 43 dX10_fewestWithoutPassing_43 rfl ?_
              refine z_iload_n 44 dX10_fewestWithoutPassing_44 rfl ?_
              refine z_iload_n 45 dX10_fewestWithoutPassing_45 rfl ?_
              refine z_cb (zat_V2 46 dX10_fewestWithoutPassing_46 lk_X10_400 zy_0 rfl rfl ⟨Nat.le_of_ble_eq_true rfl, Nat.le_of_ble_eq_true rfl⟩ (Nat.le_of_ble_eq_true rfl)) (tX10_hasPassed E x36 x30 M37) (fun b46 => ?_)
              refine z_ifneb 49 61 dX10_fewestWithoutPassing_49 (by decide) (fun _ => ?_) (fun _ => ?_)
              · refine z_aload_n 52 dX10_fewestWithoutPassing_52 rfl ?_
                refine z_getR 53 (r := 70) dX10_fewestWithoutPassing_53 fl_X10_67 zy_0 rfl ?_
                refine z_iload_n 56 dX10_fewestWithoutPassing_56 rfl ?_
                refine z_iload_n 57 dX10_fewestWithoutPassing_57 rfl ?_
                refine z_cV (zat_V2 58 dX10_fewestWithoutPassing_58 lk_X10_409 zy_70 rfl rfl ⟨Nat.le_of_ble_eq_true rfl, Nat.le_of_ble_eq_true rfl⟩ (Nat.le_of_ble_eq_true rfl)) (tX1_join E x30 x36 M37) (fun M47 => ?_)
                exact zk_exitw (L' := [some (.ref 0), some (.int x30), some (.int x36)]) (zLe_s (zLe_s (zLe_s zLe_nl))) (fun h => h)
              · exact zk_exitw (L' := [some (.ref 0), some (.int x30), some (.int x36)]) (zLe_s (zLe_s (zLe_s zLe_nl))) (fun h => h)
            · exact zk_exitw (L' := [some (.ref 0), some (.int x30), some (.int x36)]) (zLe_s (zLe_s (zLe_s zLe_nl))) (fun h => h)
def fX10_greatestPasser (M : zM) : Option Int32 :=
  zlp (α := Int32 × Int32 × Int32) (fun rec22 => (fun (u33 : Int32 × Int32 × Int32) => match u33 with | (x19, x20, x21) => if (M.1 55 0) ≤ x21 then (some x19) else (sq (fX10_passingsOf x21 M) (fun (x25 : Int32) => sq (α := Int32 × Int32) (if x25 ≤ x20 then (some (x19, x20)) else (some (x21, x25))) (fun (u31 : Int32 × Int32) => match u31 with | (x26, x27) => rec22 (x26, x27, (x21 + (1 : Int32)))))))) zFu ((-4 : Int32), (0 : Int32), (0 : Int32))
set_option maxHeartbeats 4000000 in
set_option maxRecDepth 100000 in
theorem tX10_greatestPasser (E : zE)  (M : zM) : zFi E mX10_greatestPasser [.ref 0] zY0 M (fX10_greatestPasser M) := by
  refine zF_of (L := [some (.ref 0), none, none, none, none]) plX10 (Nat.le_of_ble_eq_true rfl) rfl (fun post => ?_)
  unfold fX10_greatestPasser
  refine z_bipush 0 dX10_greatestPasser_0 zbp_m4 ?_
  refine z_istore_n 2 (L' := [some (.ref 0), some (.int (-4 : Int32)), none, none, none]) dX10_greatestPasser_2 (by decide) rfl ?_
  refine z_iconst 3 dX10_greatestPasser_3 zci_0 ?_
  refine z_istore_n 4 (L' := [some (.ref 0), some (.int (-4 : Int32)), some (.int (0 : Int32)), none, none]) dX10_greatestPasser_4 (by decide) rfl ?_
  refine z_iconst 5 dX10_greatestPasser_5 zci_0 ?_
  refine z_istore_n 6 (L' := [some (.ref 0), some (.int (-4 : Int32)), some (.int (0 : Int32)), some (.int (0 : Int32)), none]) dX10_greatestPasser_6 (by decide) rfl ?_
  refine zk_weak (L' := [some (.ref 0), some (.int (-4 : Int32)), some (.int (0 : Int32)), some (.int (0 : Int32)), none]) (zLe_s (zLe_s (zLe_s (zLe_s (zLe_n zLe_nl))))) (zk_lp (α := Int32 × Int32 × Int32) 7 (fun (u23 : Int32 × Int32 × Int32) => match u23 with | (x19, x20, x21) => [some (.ref 0), some (.int x19), some (.int x20), some (.int x21), none]) (fun (u24 : Int32 × Int32 × Int32) => match u24 with | (x19, x20, x21) => (zY0, M)) ?_ zFu ((-4 : Int32), (0 : Int32), (0 : Int32)))
  intro rec22 hrec22
  intro u34
  obtain ⟨x19, x20, x21⟩ := u34
  try dsimp only
  refine z_iload_n 7 dX10_greatestPasser_7 rfl ?_
  refine z_aload_n 8 dX10_greatestPasser_8 rfl ?_
  refine z_getR 9 (r := 55) dX10_greatestPasser_9 fl_X10_44 zy_0 rfl ?_
  refine z_getI 12 dX10_greatestPasser_12 fl_X10_385 zy_55 rfl ?_
  refine z_icge 15 42 dX10_greatestPasser_15 (by decide) (fun _ => ?_) (fun _ => ?_)
  · refine z_iload_n 42 dX10_greatestPasser_42 rfl ?_
    exact z_ireturn 43 dX10_greatestPasser_43 rfl rfl (fun h => h)
  · refine z_aload_n 18 dX10_greatestPasser_18 rfl ?_
    refine z_iload_n 19 dX10_greatestPasser_19 rfl ?_
    refine z_ci (zat_V1 20 dX10_greatestPasser_20 lk_X10_403 zy_0 rfl rfl ⟨Nat.le_of_ble_eq_true rfl, Nat.le_of_ble_eq_true rfl⟩ (Nat.le_of_ble_eq_true rfl)) (tX10_passingsOf E x21 M) (fun x25 => ?_)
    refine z_istore 23 (L' := [some (.ref 0), some (.int x19), some (.int x20), some (.int x21), some (.int x25)]) dX10_greatestPasser_23 (by decide) rfl ?_
    refine z_iload 25 dX10_greatestPasser_25 rfl ?_
    refine z_iload_n 27 dX10_greatestPasser_27 rfl ?_
    refine zk_sqj (α := Int32 × Int32) 36 (fun (u28 : Int32 × Int32) => match u28 with | (x26, x27) => [some (.ref 0), some (.int x26), some (.int x27), some (.int x21), none]) (fun (u29 : Int32 × Int32) => match u29 with | (x26, x27) => []) (fun (u30 : Int32 × Int32) => match u30 with | (x26, x27) => (zY0, M)) ?_ ?_
    · intro u32
      obtain ⟨x26, x27⟩ := u32
      try dsimp only
      refine z_iinc 36 (v := (x21 + (1 : Int32))) (L' := [some (.ref 0), some (.int x26), some (.int x27), some (.int (x21 + (1 : Int32))), none]) dX10_greatestPasser_36 rfl (zinc zci_1 _) (by decide) rfl ?_
      refine z_goto 39 7 dX10_greatestPasser_39 (by decide) ?_
      exact zk_weak (L' := [some (.ref 0), some (.int x26), some (.int x27), some (.int (x21 + (1 : Int32))), none]) (zLe_s (zLe_s (zLe_s (zLe_s (zLe_n zLe_nl))))) (hrec22 (x26, x27, (x21 + (1 : Int32))))
    · refine z_icle 28 36 dX10_greatestPasser_28 (by decide) (fun _ => ?_) (fun _ => ?_)
      · exact zk_exitw (L' := [some (.ref 0), some (.int x19), some (.int x20), some (.int x21), none]) (zLe_s (zLe_s (zLe_s (zLe_s (zLe_n zLe_nl))))) (fun h => h)
      · refine z_iload 31 dX10_greatestPasser_31 rfl ?_
        refine z_istore_n 33 (L' := [some (.ref 0), some (.int x19), some (.int x25), some (.int x21), some (.int x25)]) dX10_greatestPasser_33 (by decide) rfl ?_
        refine z_iload_n 34 dX10_greatestPasser_34 rfl ?_
        refine z_istore_n 35 (L' := [some (.ref 0), some (.int x21), some (.int x25), some (.int x21), some (.int x25)]) dX10_greatestPasser_35 (by decide) rfl ?_
        exact zk_exitw (L' := [some (.ref 0), some (.int x21), some (.int x25), some (.int x21), none]) (zLe_s (zLe_s (zLe_s (zLe_s (zLe_n zLe_nl))))) (fun h => h)
def fX10_passed (p1 : Int32) (M : zM) : Option (Int32 × zM) :=
  lt (fX10_within p1 (0 : Int32) (2 : Int32)) (fun (b1 : Bool) => if b1 = false then (some ((-1 : Int32), M)) else (sq (fX10_findFirst M) (fun (M2 : zM) => if p1 = (0 : Int32) then (sq (fX10_allPassings M2) (fun (x3 : Int32) => some (x3, M2))) else (if p1 = (1 : Int32) then (bi (fX10_fewestWithoutPassing M2) (fun (x5 : Int32) (M4 : zM) => some (x5, M4))) else (sq (fX10_greatestPasser M2) (fun (x6 : Int32) => some (x6, M2)))))))
set_option maxHeartbeats 4000000 in
set_option maxRecDepth 100000 in
theorem tX10_passed (E : zE) (p1 : Int32) (M : zM) : zFI E mX10_passed [.ref 0, .int p1] zY0 M (fX10_passed p1 M) := by
  refine zF_of (L := [some (.ref 0), some (.int p1)]) plX10 (Nat.le_of_ble_eq_true rfl) rfl (fun post => ?_)
  unfold fX10_passed
  refine z_iload_n 0 dX10_passed_0 rfl ?_
  refine z_iconst 1 dX10_passed_1 zci_0 ?_
  refine z_iconst 2 dX10_passed_2 zci_2 ?_
  refine z_ctb (zat_S3 3 dX10_passed_3 lk_X10_89 ⟨Nat.le_of_ble_eq_true rfl, Nat.le_of_ble_eq_true rfl⟩ (Nat.le_of_ble_eq_true rfl)) (tX10_within E zY0 p1 (0 : Int32) (2 : Int32) M) (fun b1 => ?_)
  refine z_ifneb 6 11 dX10_passed_6 (by decide) (fun _ => ?_) (fun _ => ?_)
  · refine z_iconst 9 dX10_passed_9 zci_m1 ?_
    exact z_ireturn 10 dX10_passed_10 rfl rfl (fun h => h)
  · refine z_aload_n 11 dX10_passed_11 rfl ?_
    refine z_cV (zat_V0 12 dX10_passed_12 lk_X10_200 zy_0 rfl rfl ⟨Nat.le_of_ble_eq_true rfl, Nat.le_of_ble_eq_true rfl⟩ (Nat.le_of_ble_eq_true rfl)) (tX10_findFirst E M) (fun M2 => ?_)
    refine z_iload_n 15 dX10_passed_15 rfl ?_
    refine z_lsc 16 44 (k := 0) (off := 28) dX10_passed_16 (by decide) (by decide) (by decide) ?_ (fun n1 => ?_)
    · refine z_aload_n 44 dX10_passed_44 rfl ?_
      refine z_ci (zat_V0 45 dX10_passed_45 lk_X10_310 zy_0 rfl rfl ⟨Nat.le_of_ble_eq_true rfl, Nat.le_of_ble_eq_true rfl⟩ (Nat.le_of_ble_eq_true rfl)) (tX10_allPassings E M2) (fun x3 => ?_)
      exact z_ireturn 48 dX10_passed_48 rfl rfl (fun h => h)
    · refine z_lsc 16 49 (k := 1) (off := 33) dX10_passed_16 (by decide) (by decide) (by decide) ?_ (fun n2 => ?_)
      · refine z_aload_n 49 dX10_passed_49 rfl ?_
        refine z_cI (zat_V0 50 dX10_passed_50 lk_X10_313 zy_0 rfl rfl ⟨Nat.le_of_ble_eq_true rfl, Nat.le_of_ble_eq_true rfl⟩ (Nat.le_of_ble_eq_true rfl)) (tX10_fewestWithoutPassing E M2) (fun x5 M4 => ?_)
        exact z_ireturn 53 dX10_passed_53 rfl rfl (fun h => h)
      · refine z_lsw 16 54 (off := 38) dX10_passed_16 (by decide) (by show Op.lookupswitch.offset [(0, 28), (1, 33)] 38 _ = 38; rw [lv_osw n1 (by decide)]; rw [lv_osw n2 (by decide)]; rfl) (by decide) ?_
        refine z_aload_n 54 dX10_passed_54 rfl ?_
        refine z_ci (zat_V0 55 dX10_passed_55 lk_X10_316 zy_0 rfl rfl ⟨Nat.le_of_ble_eq_true rfl, Nat.le_of_ble_eq_true rfl⟩ (Nat.le_of_ble_eq_true rfl)) (tX10_greatestPasser E M2) (fun x6 => ?_)
        exact z_ireturn 58 dX10_passed_58 rfl rfl (fun h => h)
def fX10_countReadsOf (p1 : Int32) (p2 : Int32) (M : zM) : Option zM :=
  zlp (α := Int32 × zM) (fun rec15 => (fun (u29 : Int32 × zM) => match u29 with | (x13, M14) => if (4 : Int32) ≤ x13 then (some M14) else (grd (zix ((p1 * (4 : Int32)) + x13) 40) (lt ((M14.1 5 (zn ((p1 * (4 : Int32)) + x13)))) (fun (x18 : Int32) => grd (zix ((p2 * (4 : Int32)) + x13) 40) (lt ((M14.1 9 (zn ((p2 * (4 : Int32)) + x13)))) (fun (x19 : Int32) => sq (α := zM) (if x18 = 0 then (some M14) else (if x19 = 0 then (some M14) else (lt (fX2_letterOf x18) (fun (x25 : Int32) => lt (fX2_letterOf x19) (fun (x26 : Int32) => lt (((x25 * (8 : Int32)) + x26)) (fun (x27 : Int32) => grd (zix x27 64) (grd (zix x27 64) (lt (zwI M14 75 (zn x27) ((M14.1 75 (zn x27)) + (1 : Int32))) (fun (M28 : zM) => some M28))))))))) (fun (M24 : zM) => rec15 ((x13 + (1 : Int32)), M24))))))))) zFu ((0 : Int32), M)
set_option maxHeartbeats 4000000 in
set_option maxRecDepth 100000 in
theorem tX10_countReadsOf (E : zE) (p1 : Int32) (p2 : Int32) (M : zM) : zFV E mX10_countReadsOf [.ref 0, .int p1, .int p2] zY0 M (fX10_countReadsOf p1 p2 M) := by
  refine zF_of (L := [some (.ref 0), some (.int p1), some (.int p2), none, none, none]) plX10 (Nat.le_of_ble_eq_true rfl) rfl (fun post => ?_)
  unfold fX10_countReadsOf
  refine z_iconst 0 dX10_countReadsOf_0 zci_0 ?_
  refine z_istore_n 1 (L' := [some (.ref 0), some (.int p1), some (.int p2), some (.int (0 : Int32)), none, none]) dX10_countReadsOf_1 (by decide) rfl ?_
  refine zk_weak (L' := [some (.ref 0), some (.int p1), some (.int p2), some (.int (0 : Int32)), none, none]) (zLe_s (zLe_s (zLe_s (zLe_s (zLe_n (zLe_n zLe_nl)))))) (zk_lp (α := Int32 × zM) 2 (fun (u16 : Int32 × zM) => match u16 with | (x13, M14) => [some (.ref 0), some (.int p1), some (.int p2), some (.int x13), none, none]) (fun (u17 : Int32 × zM) => match u17 with | (x13, M14) => (zY0, M14)) ?_ zFu ((0 : Int32), M))
  intro rec15 hrec15
  intro u30
  obtain ⟨x13, M14⟩ := u30
  try dsimp only
  refine z_iload_n 2 dX10_countReadsOf_2 rfl ?_
  refine z_iconst 3 dX10_countReadsOf_3 zci_4 ?_
  refine z_icge 4 82 dX10_countReadsOf_4 (by decide) (fun _ => ?_) (fun _ => ?_)
  · exact z_return 82 dX10_countReadsOf_82 rfl (fun h => h)
  · refine z_aload_n 7 dX10_countReadsOf_7 rfl ?_
    refine z_getR 8 (r := 1) dX10_countReadsOf_8 fl_X10_12 zy_0 rfl ?_
    refine z_getR 11 (r := 2) dX10_countReadsOf_11 fl_X10_170 zy_1 rfl ?_
    refine z_getR 14 (r := 5) dX10_countReadsOf_14 fl_X10_155 zy_2 rfl ?_
    refine z_iload_n 17 dX10_countReadsOf_17 rfl ?_
    refine z_iconst 18 dX10_countReadsOf_18 zci_4 ?_
    refine z_imul 19 dX10_countReadsOf_19 ?_
    refine z_iload_n 20 dX10_countReadsOf_20 rfl ?_
    refine z_iadd 21 dX10_countReadsOf_21 ?_
    refine z_iaload 22 dX10_countReadsOf_22 zy_5 ?_
    refine zk_nmI (fun x18 => ?_)
    refine z_istore 23 (L' := [some (.ref 0), some (.int p1), some (.int p2), some (.int x13), some (.int x18), none]) dX10_countReadsOf_23 (by decide) rfl ?_
    refine z_aload_n 25 dX10_countReadsOf_25 rfl ?_
    refine z_getR 26 (r := 1) dX10_countReadsOf_26 fl_X10_12 zy_0 rfl ?_
    refine z_getR 29 (r := 6) dX10_countReadsOf_29 fl_X10_174 zy_1 rfl ?_
    refine z_getR 32 (r := 9) dX10_countReadsOf_32 fl_X10_155 zy_6 rfl ?_
    refine z_iload_n 35 dX10_countReadsOf_35 rfl ?_
    refine z_iconst 36 dX10_countReadsOf_36 zci_4 ?_
    refine z_imul 37 dX10_countReadsOf_37 ?_
    refine z_iload_n 38 dX10_countReadsOf_38 rfl ?_
    refine z_iadd 39 dX10_countReadsOf_39 ?_
    refine z_iaload 40 dX10_countReadsOf_40 zy_9 ?_
    refine zk_nmI (fun x19 => ?_)
    refine z_istore 41 (L' := [some (.ref 0), some (.int p1), some (.int p2), some (.int x13), some (.int x18), some (.int x19)]) dX10_countReadsOf_41 (by decide) rfl ?_
    refine z_iload 43 dX10_countReadsOf_43 rfl ?_
    refine zk_sqj (α := zM) 76 (fun (M24 : zM) => [some (.ref 0), some (.int p1), some (.int p2), some (.int x13), none, none]) (fun (M24 : zM) => []) (fun (M24 : zM) => (zY0, M24)) ?_ ?_
    · intro M24
      refine z_iinc 76 (v := (x13 + (1 : Int32))) (L' := [some (.ref 0), some (.int p1), some (.int p2), some (.int (x13 + (1 : Int32))), none, none]) dX10_countReadsOf_76 rfl (zinc zci_1 _) (by decide) rfl ?_
      refine z_goto 79 2 dX10_countReadsOf_79 (by decide) ?_
      exact zk_weak (L' := [some (.ref 0), some (.int p1), some (.int p2), some (.int (x13 + (1 : Int32))), none, none]) (zLe_s (zLe_s (zLe_s (zLe_s (zLe_n (zLe_n zLe_nl)))))) (hrec15 ((x13 + (1 : Int32)), M24))
    · refine z_ifeq 45 76 dX10_countReadsOf_45 (by decide) (fun _ => ?_) (fun _ => ?_)
      · exact zk_exitw (L' := [some (.ref 0), some (.int p1), some (.int p2), some (.int x13), none, none]) (zLe_s (zLe_s (zLe_s (zLe_s (zLe_n (zLe_n zLe_nl)))))) (fun h => h)
      · refine z_iload 48 dX10_countReadsOf_48 rfl ?_
        refine z_ifeq 50 76 dX10_countReadsOf_50 (by decide) (fun _ => ?_) (fun _ => ?_)
        · exact zk_exitw (L' := [some (.ref 0), some (.int p1), some (.int p2), some (.int x13), none, none]) (zLe_s (zLe_s (zLe_s (zLe_s (zLe_n (zLe_n zLe_nl)))))) (fun h => h)
        · refine z_aload_n 53 dX10_countReadsOf_53 rfl ?_
          refine z_getR 54 (r := 75) dX10_countReadsOf_54 fl_X10_75 zy_0 rfl ?_
          refine z_iload 57 dX10_countReadsOf_57 rfl ?_
          refine z_cti (zat_S1 59 dX10_countReadsOf_59 lk_X10_424 ⟨Nat.le_of_ble_eq_true rfl, Nat.le_of_ble_eq_true rfl⟩ (Nat.le_of_ble_eq_true rfl)) (tX2_letterOf E zY0 x18 M14) (fun x25 => ?_)
          refine z_bipush 62 dX10_countReadsOf_62 zbp_8 ?_
          refine z_imul 64 dX10_countReadsOf_64 ?_
          refine z_iload 65 dX10_countReadsOf_65 rfl ?_
          refine z_cti (zat_S1 67 dX10_countReadsOf_67 lk_X10_424 ⟨Nat.le_of_ble_eq_true rfl, Nat.le_of_ble_eq_true rfl⟩ (Nat.le_of_ble_eq_true rfl)) (tX2_letterOf E zY0 x19 M14) (fun x26 => ?_)
          refine z_iadd 70 dX10_countReadsOf_70 ?_
          refine zk_nmI (fun x27 => ?_)
          refine z_dup2 71 dX10_countReadsOf_71 rfl rfl ?_
          refine z_iaload 72 dX10_countReadsOf_72 zy_75 ?_
          refine z_iconst 73 dX10_countReadsOf_73 zci_1 ?_
          refine z_iadd 74 dX10_countReadsOf_74 ?_
          refine z_iastore 75 dX10_countReadsOf_75 zy_75 ?_
          refine zk_nmM (fun M28 => ?_)
          exact zk_exitw (L' := [some (.ref 0), some (.int p1), some (.int p2), some (.int x13), none, none]) (zLe_s (zLe_s (zLe_s (zLe_s (zLe_n (zLe_n zLe_nl)))))) (fun h => h)
def fX10_countReads (M : zM) : Option zM :=
  sq (fJ7_fill_53178 75 64 (0 : Int32) M) (fun (M1 : zM) => zlp (α := Int32 × zM) (fun rec12 => (fun (u19 : Int32 × zM) => match u19 with | (x10, M11) => if (M11.1 55 0) ≤ x10 then (some M11) else (grd (zix x10 10) (lt ((M11.1 66 (zn x10))) (fun (x15 : Int32) => sq (α := zM) (if x15 = (-4 : Int32) then (some M11) else (sq (fX10_countReadsOf x10 x15 M11) (fun (M18 : zM) => some M18))) (fun (M17 : zM) => rec12 ((x10 + (1 : Int32)), M17))))))) zFu ((0 : Int32), M1))
set_option maxHeartbeats 4000000 in
set_option maxRecDepth 100000 in
theorem tX10_countReads (E : zE)  (M : zM) : zFV E mX10_countReads [.ref 0] zY0 M (fX10_countReads M) := by
  refine zF_of (L := [some (.ref 0), none, none]) plX10 (Nat.le_of_ble_eq_true rfl) rfl (fun post => ?_)
  unfold fX10_countReads
  refine z_aload_n 0 dX10_countReads_0 rfl ?_
  refine z_getR 1 (r := 75) dX10_countReads_1 fl_X10_75 zy_0 rfl ?_
  refine z_iconst 4 dX10_countReads_4 zci_0 ?_
  refine z_cV (zat_S2 5 dX10_countReads_5 lk_X10_415 ⟨Nat.le_of_ble_eq_true rfl, Nat.le_of_ble_eq_true rfl⟩ (Nat.le_of_ble_eq_true rfl)) (tJ7_fill_53178 E zY0 75 64 zy_75 (0 : Int32) M) (fun M1 => ?_)
  refine z_iconst 8 dX10_countReads_8 zci_0 ?_
  refine z_istore_n 9 (L' := [some (.ref 0), some (.int (0 : Int32)), none]) dX10_countReads_9 (by decide) rfl ?_
  refine zk_weak (L' := [some (.ref 0), some (.int (0 : Int32)), none]) (zLe_s (zLe_s (zLe_n zLe_nl))) (zk_lp (α := Int32 × zM) 10 (fun (u13 : Int32 × zM) => match u13 with | (x10, M11) => [some (.ref 0), some (.int x10), none]) (fun (u14 : Int32 × zM) => match u14 with | (x10, M11) => (zY0, M11)) ?_ zFu ((0 : Int32), M1))
  intro rec12 hrec12
  intro u20
  obtain ⟨x10, M11⟩ := u20
  try dsimp only
  refine z_iload_n 10 dX10_countReads_10 rfl ?_
  refine z_aload_n 11 dX10_countReads_11 rfl ?_
  refine z_getR 12 (r := 55) dX10_countReads_12 fl_X10_44 zy_0 rfl ?_
  refine z_getI 15 dX10_countReads_15 fl_X10_385 zy_55 rfl ?_
  refine z_icge 18 49 dX10_countReads_18 (by decide) (fun _ => ?_) (fun _ => ?_)
  · exact z_return 49 dX10_countReads_49 rfl (fun h => h)
  · refine z_aload_n 21 dX10_countReads_21 rfl ?_
    refine z_getR 22 (r := 58) dX10_countReads_22 fl_X10_53 zy_0 rfl ?_
    refine z_getR 25 (r := 66) dX10_countReads_25 fl_X10_203 zy_58 rfl ?_
    refine z_iload_n 28 dX10_countReads_28 rfl ?_
    refine z_iaload 29 dX10_countReads_29 zy_66 ?_
    refine zk_nmI (fun x15 => ?_)
    refine z_istore_n 30 (L' := [some (.ref 0), some (.int x10), some (.int x15)]) dX10_countReads_30 (by decide) rfl ?_
    refine z_iload_n 31 dX10_countReads_31 rfl ?_
    refine z_bipush 32 dX10_countReads_32 zbp_m4 ?_
    refine zk_sqj (α := zM) 43 (fun (M17 : zM) => [some (.ref 0), some (.int x10), none]) (fun (M17 : zM) => []) (fun (M17 : zM) => (zY0, M17)) ?_ ?_
    · intro M17
      refine z_iinc 43 (v := (x10 + (1 : Int32))) (L' := [some (.ref 0), some (.int (x10 + (1 : Int32))), none]) dX10_countReads_43 rfl (zinc zci_1 _) (by decide) rfl ?_
      refine z_goto 46 10 dX10_countReads_46 (by decide) ?_
      exact zk_weak (L' := [some (.ref 0), some (.int (x10 + (1 : Int32))), none]) (zLe_s (zLe_s (zLe_n zLe_nl))) (hrec12 ((x10 + (1 : Int32)), M17))
    · refine z_iceq 34 43 dX10_countReads_34 (by decide) (fun _ => ?_) (fun _ => ?_)
      · exact zk_exitw (L' := [some (.ref 0), some (.int x10), none]) (zLe_s (zLe_s (zLe_n zLe_nl))) (fun h => h)
      · refine z_aload_n 37 dX10_countReads_37 rfl ?_
        refine z_iload_n 38 dX10_countReads_38 rfl ?_
        refine z_iload_n 39 dX10_countReads_39 rfl ?_
        refine z_cV (zat_V2 40 dX10_countReads_40 lk_X10_421 zy_0 rfl rfl ⟨Nat.le_of_ble_eq_true rfl, Nat.le_of_ble_eq_true rfl⟩ (Nat.le_of_ble_eq_true rfl)) (tX10_countReadsOf E x10 x15 M11) (fun M18 => ?_)
        exact zk_exitw (L' := [some (.ref 0), some (.int x10), none]) (zLe_s (zLe_s (zLe_n zLe_nl))) (fun h => h)
def fX10_reads (p1 : Int32) (p2 : Int32) (M : zM) : Option (Int32 × zM) :=
  lt (fX10_isLetter p1) (fun (b1 : Bool) => if b1 = false then (some ((-1 : Int32), M)) else (lt (fX10_isLetter p2) (fun (b2 : Bool) => if b2 = false then (some ((-1 : Int32), M)) else (sq (fX10_findFirst M) (fun (M3 : zM) => sq (fX10_countReads M3) (fun (M4 : zM) => grd (zix ((p1 * (8 : Int32)) + p2) 64) (some ((M4.1 75 (zn ((p1 * (8 : Int32)) + p2))), M4))))))))
set_option maxHeartbeats 4000000 in
set_option maxRecDepth 100000 in
theorem tX10_reads (E : zE) (p1 : Int32) (p2 : Int32) (M : zM) : zFI E mX10_reads [.ref 0, .int p1, .int p2] zY0 M (fX10_reads p1 p2 M) := by
  refine zF_of (L := [some (.ref 0), some (.int p1), some (.int p2)]) plX10 (Nat.le_of_ble_eq_true rfl) rfl (fun post => ?_)
  unfold fX10_reads
  refine z_iload_n 0 dX10_reads_0 rfl ?_
  refine z_ctb (zat_S1 1 dX10_reads_1 lk_X10_110 ⟨Nat.le_of_ble_eq_true rfl, Nat.le_of_ble_eq_true rfl⟩ (Nat.le_of_ble_eq_true rfl)) (tX10_isLetter E zY0 p1 M) (fun b1 => ?_)
  refine z_ifeqb 4 14 dX10_reads_4 (by decide) (fun _ => ?_) (fun _ => ?_)
  · refine z_iconst 14 dX10_reads_14 zci_m1 ?_
    exact z_ireturn 15 dX10_reads_15 rfl rfl (fun h => h)
  · refine z_iload_n 7 dX10_reads_7 rfl ?_
    refine z_ctb (zat_S1 8 dX10_reads_8 lk_X10_110 ⟨Nat.le_of_ble_eq_true rfl, Nat.le_of_ble_eq_true rfl⟩ (Nat.le_of_ble_eq_true rfl)) (tX10_isLetter E zY0 p2 M) (fun b2 => ?_)
    refine z_ifneb 11 16 dX10_reads_11 (by decide) (fun _ => ?_) (fun _ => ?_)
    · refine z_iconst 14 dX10_reads_14 zci_m1 ?_
      exact z_ireturn 15 dX10_reads_15 rfl rfl (fun h => h)
    · refine z_aload_n 16 dX10_reads_16 rfl ?_
      refine z_cV (zat_V0 17 dX10_reads_17 lk_X10_200 zy_0 rfl rfl ⟨Nat.le_of_ble_eq_true rfl, Nat.le_of_ble_eq_true rfl⟩ (Nat.le_of_ble_eq_true rfl)) (tX10_findFirst E M) (fun M3 => ?_)
      refine z_aload_n 20 dX10_reads_20 rfl ?_
      refine z_cV (zat_V0 21 dX10_reads_21 lk_X10_319 zy_0 rfl rfl ⟨Nat.le_of_ble_eq_true rfl, Nat.le_of_ble_eq_true rfl⟩ (Nat.le_of_ble_eq_true rfl)) (tX10_countReads E M3) (fun M4 => ?_)
      refine z_aload_n 24 dX10_reads_24 rfl ?_
      refine z_getR 25 (r := 75) dX10_reads_25 fl_X10_75 zy_0 rfl ?_
      refine z_iload_n 28 dX10_reads_28 rfl ?_
      refine z_bipush 29 dX10_reads_29 zbp_8 ?_
      refine z_imul 31 dX10_reads_31 ?_
      refine z_iload_n 32 dX10_reads_32 rfl ?_
      refine z_iadd 33 dX10_reads_33 ?_
      refine z_iaload 34 dX10_reads_34 zy_75 ?_
      exact z_ireturn 35 dX10_reads_35 rfl rfl (fun h => h)
def fX10_mostMistaken (M : zM) : Option Int32 :=
  zlp (α := Int32 × Int32 × Int32) (fun rec22 => (fun (u34 : Int32 × Int32 × Int32) => match u34 with | (x19, x20, x21) => if (64 : Int32) ≤ x21 then (some x19) else (sq (α := Int32 × Int32) (if (x21 / (8 : Int32)) = (zrm_i x21 (8 : Int32)) then (some (x19, x20)) else (grd (zix x21 64) (if (M.1 75 (zn x21)) ≤ x20 then (some (x19, x20)) else (grd (zix x21 64) (lt ((M.1 75 (zn x21))) (fun (x31 : Int32) => some (x21, x31))))))) (fun (u32 : Int32 × Int32) => match u32 with | (x26, x27) => rec22 (x26, x27, (x21 + (1 : Int32))))))) zFu ((-4 : Int32), (0 : Int32), (0 : Int32))
set_option maxHeartbeats 4000000 in
set_option maxRecDepth 100000 in
theorem tX10_mostMistaken (E : zE)  (M : zM) : zFi E mX10_mostMistaken [.ref 0] zY0 M (fX10_mostMistaken M) := by
  refine zF_of (L := [some (.ref 0), none, none, none]) plX10 (Nat.le_of_ble_eq_true rfl) rfl (fun post => ?_)
  unfold fX10_mostMistaken
  refine z_bipush 0 dX10_mostMistaken_0 zbp_m4 ?_
  refine z_istore_n 2 (L' := [some (.ref 0), some (.int (-4 : Int32)), none, none]) dX10_mostMistaken_2 (by decide) rfl ?_
  refine z_iconst 3 dX10_mostMistaken_3 zci_0 ?_
  refine z_istore_n 4 (L' := [some (.ref 0), some (.int (-4 : Int32)), some (.int (0 : Int32)), none]) dX10_mostMistaken_4 (by decide) rfl ?_
  refine z_iconst 5 dX10_mostMistaken_5 zci_0 ?_
  refine z_istore_n 6 (L' := [some (.ref 0), some (.int (-4 : Int32)), some (.int (0 : Int32)), some (.int (0 : Int32))]) dX10_mostMistaken_6 (by decide) rfl ?_
  refine zk_weak (L' := [some (.ref 0), some (.int (-4 : Int32)), some (.int (0 : Int32)), some (.int (0 : Int32))]) (zLe_s (zLe_s (zLe_s (zLe_s zLe_nl)))) (zk_lp (α := Int32 × Int32 × Int32) 7 (fun (u23 : Int32 × Int32 × Int32) => match u23 with | (x19, x20, x21) => [some (.ref 0), some (.int x19), some (.int x20), some (.int x21)]) (fun (u24 : Int32 × Int32 × Int32) => match u24 with | (x19, x20, x21) => (zY0, M)) ?_ zFu ((-4 : Int32), (0 : Int32), (0 : Int32)))
  intro rec22 hrec22
  intro u35
  obtain ⟨x19, x20, x21⟩ := u35
  try dsimp only
  refine z_iload_n 7 dX10_mostMistaken_7 rfl ?_
  refine z_bipush 8 dX10_mostMistaken_8 zbp_64 ?_
  refine z_icge 10 49 dX10_mostMistaken_10 (by decide) (fun _ => ?_) (fun _ => ?_)
  · refine z_iload_n 49 dX10_mostMistaken_49 rfl ?_
    exact z_ireturn 50 dX10_mostMistaken_50 rfl rfl (fun h => h)
  · refine z_iload_n 13 dX10_mostMistaken_13 rfl ?_
    refine z_bipush 14 dX10_mostMistaken_14 zbp_8 ?_
    refine z_idivc 16 dX10_mostMistaken_16 (by decide) ?_
    refine z_iload_n 17 dX10_mostMistaken_17 rfl ?_
    refine z_bipush 18 dX10_mostMistaken_18 zbp_8 ?_
    refine z_iremc 20 dX10_mostMistaken_20 (by decide) ?_
    refine zk_sqj (α := Int32 × Int32) 43 (fun (u28 : Int32 × Int32) => match u28 with | (x26, x27) => [some (.ref 0), some (.int x26), some (.int x27), some (.int x21)]) (fun (u29 : Int32 × Int32) => match u29 with | (x26, x27) => []) (fun (u30 : Int32 × Int32) => match u30 with | (x26, x27) => (zY0, M)) ?_ ?_
    · intro u33
      obtain ⟨x26, x27⟩ := u33
      try dsimp only
      refine z_iinc 43 (v := (x21 + (1 : Int32))) (L' := [some (.ref 0), some (.int x26), some (.int x27), some (.int (x21 + (1 : Int32)))]) dX10_mostMistaken_43 rfl (zinc zci_1 _) (by decide) rfl ?_
      refine z_goto 46 7 dX10_mostMistaken_46 (by decide) ?_
      exact zk_weak (L' := [some (.ref 0), some (.int x26), some (.int x27), some (.int (x21 + (1 : Int32)))]) (zLe_s (zLe_s (zLe_s (zLe_s zLe_nl)))) (hrec22 (x26, x27, (x21 + (1 : Int32))))
    · refine z_iceq 21 43 dX10_mostMistaken_21 (by decide) (fun _ => ?_) (fun _ => ?_)
      · exact zk_exitw (L' := [some (.ref 0), some (.int x19), some (.int x20), some (.int x21)]) (zLe_s (zLe_s (zLe_s (zLe_s zLe_nl)))) (fun h => h)
      · refine z_aload_n 24 dX10_mostMistaken_24 rfl ?_
        refine z_getR 25 (r := 75) dX10_mostMistaken_25 fl_X10_75 zy_0 rfl ?_
        refine z_iload_n 28 dX10_mostMistaken_28 rfl ?_
        refine z_iaload 29 dX10_mostMistaken_29 zy_75 ?_
        refine z_iload_n 30 dX10_mostMistaken_30 rfl ?_
        refine z_icle 31 43 dX10_mostMistaken_31 (by decide) (fun _ => ?_) (fun _ => ?_)
        · exact zk_exitw (L' := [some (.ref 0), some (.int x19), some (.int x20), some (.int x21)]) (zLe_s (zLe_s (zLe_s (zLe_s zLe_nl)))) (fun h => h)
        · refine z_aload_n 34 dX10_mostMistaken_34 rfl ?_
          refine z_getR 35 (r := 75) dX10_mostMistaken_35 fl_X10_75 zy_0 rfl ?_
          refine z_iload_n 38 dX10_mostMistaken_38 rfl ?_
          refine z_iaload 39 dX10_mostMistaken_39 zy_75 ?_
          refine zk_nmI (fun x31 => ?_)
          refine z_istore_n 40 (L' := [some (.ref 0), some (.int x19), some (.int x31), some (.int x21)]) dX10_mostMistaken_40 (by decide) rfl ?_
          refine z_iload_n 41 dX10_mostMistaken_41 rfl ?_
          refine z_istore_n 42 (L' := [some (.ref 0), some (.int x21), some (.int x31), some (.int x21)]) dX10_mostMistaken_42 (by decide) rfl ?_
          exact zk_exitw (L' := [some (.ref 0), some (.int x21), some (.int x31), some (.int x21)]) (zLe_s (zLe_s (zLe_s (zLe_s zLe_nl)))) (fun h => h)
def fX10_blame (p1 : Int32) (M : zM) : Option (Int32 × zM) :=
  lt (fX10_within p1 (0 : Int32) (2 : Int32)) (fun (b1 : Bool) => if b1 = false then (some ((-1 : Int32), M)) else (sq (fX10_findFirst M) (fun (M2 : zM) => sq (fX10_countReads M2) (fun (M3 : zM) => sq (fX10_mostMistaken M3) (fun (x4 : Int32) => if x4 = (-4 : Int32) then (some ((-4 : Int32), M3)) else (if p1 = (0 : Int32) then (some ((x4 / (8 : Int32)), M3)) else (if p1 = (1 : Int32) then (some ((zrm_i x4 (8 : Int32)), M3)) else (grd (zix x4 64) (some ((M3.1 75 (zn x4)), M3))))))))))
set_option maxHeartbeats 4000000 in
set_option maxRecDepth 100000 in
theorem tX10_blame (E : zE) (p1 : Int32) (M : zM) : zFI E mX10_blame [.ref 0, .int p1] zY0 M (fX10_blame p1 M) := by
  refine zF_of (L := [some (.ref 0), some (.int p1), none]) plX10 (Nat.le_of_ble_eq_true rfl) rfl (fun post => ?_)
  unfold fX10_blame
  refine z_iload_n 0 dX10_blame_0 rfl ?_
  refine z_iconst 1 dX10_blame_1 zci_0 ?_
  refine z_iconst 2 dX10_blame_2 zci_2 ?_
  refine z_ctb (zat_S3 3 dX10_blame_3 lk_X10_89 ⟨Nat.le_of_ble_eq_true rfl, Nat.le_of_ble_eq_true rfl⟩ (Nat.le_of_ble_eq_true rfl)) (tX10_within E zY0 p1 (0 : Int32) (2 : Int32) M) (fun b1 => ?_)
  refine z_ifneb 6 11 dX10_blame_6 (by decide) (fun _ => ?_) (fun _ => ?_)
  · refine z_iconst 9 dX10_blame_9 zci_m1 ?_
    exact z_ireturn 10 dX10_blame_10 rfl rfl (fun h => h)
  · refine z_aload_n 11 dX10_blame_11 rfl ?_
    refine z_cV (zat_V0 12 dX10_blame_12 lk_X10_200 zy_0 rfl rfl ⟨Nat.le_of_ble_eq_true rfl, Nat.le_of_ble_eq_true rfl⟩ (Nat.le_of_ble_eq_true rfl)) (tX10_findFirst E M) (fun M2 => ?_)
    refine z_aload_n 15 dX10_blame_15 rfl ?_
    refine z_cV (zat_V0 16 dX10_blame_16 lk_X10_319 zy_0 rfl rfl ⟨Nat.le_of_ble_eq_true rfl, Nat.le_of_ble_eq_true rfl⟩ (Nat.le_of_ble_eq_true rfl)) (tX10_countReads E M2) (fun M3 => ?_)
    refine z_aload_n 19 dX10_blame_19 rfl ?_
    refine z_ci (zat_V0 20 dX10_blame_20 lk_X10_322 zy_0 rfl rfl ⟨Nat.le_of_ble_eq_true rfl, Nat.le_of_ble_eq_true rfl⟩ (Nat.le_of_ble_eq_true rfl)) (tX10_mostMistaken E M3) (fun x4 => ?_)
    refine z_istore_n 23 (L' := [some (.ref 0), some (.int p1), some (.int x4)]) dX10_blame_23 (by decide) rfl ?_
    refine z_iload_n 24 dX10_blame_24 rfl ?_
    refine z_bipush 25 dX10_blame_25 zbp_m4 ?_
    refine z_icne 27 33 dX10_blame_27 (by decide) (fun _ => ?_) (fun _ => ?_)
    · refine z_bipush 30 dX10_blame_30 zbp_m4 ?_
      exact z_ireturn 32 dX10_blame_32 rfl rfl (fun h => h)
    · refine z_iload_n 33 dX10_blame_33 rfl ?_
      refine z_lsc 34 60 (k := 0) (off := 26) dX10_blame_34 (by decide) (by decide) (by decide) ?_ (fun n1 => ?_)
      · refine z_iload_n 60 dX10_blame_60 rfl ?_
        refine z_bipush 61 dX10_blame_61 zbp_8 ?_
        refine z_idivc 63 dX10_blame_63 (by decide) ?_
        exact z_ireturn 64 dX10_blame_64 rfl rfl (fun h => h)
      · refine z_lsc 34 65 (k := 1) (off := 31) dX10_blame_34 (by decide) (by decide) (by decide) ?_ (fun n2 => ?_)
        · refine z_iload_n 65 dX10_blame_65 rfl ?_
          refine z_bipush 66 dX10_blame_66 zbp_8 ?_
          refine z_iremc 68 dX10_blame_68 (by decide) ?_
          exact z_ireturn 69 dX10_blame_69 rfl rfl (fun h => h)
        · refine z_lsw 34 70 (off := 36) dX10_blame_34 (by decide) (by show Op.lookupswitch.offset [(0, 26), (1, 31)] 36 _ = 36; rw [lv_osw n1 (by decide)]; rw [lv_osw n2 (by decide)]; rfl) (by decide) ?_
          refine z_aload_n 70 dX10_blame_70 rfl ?_
          refine z_getR 71 (r := 75) dX10_blame_71 fl_X10_75 zy_0 rfl ?_
          refine z_iload_n 74 dX10_blame_74 rfl ?_
          refine z_iaload 75 dX10_blame_75 zy_75 ?_
          exact z_ireturn 76 dX10_blame_76 rfl rfl (fun h => h)
def fX10_learn (p1 : Int32) (M : zM) : Option (Int32 × zM) :=
  lt (fX10_within p1 (0 : Int32) (50 : Int32)) (fun (b1 : Bool) => if b1 = false then (some ((-1 : Int32), M)) else (sq (fX10_findFirst M) (fun (M2 : zM) => sq (fX10_countReads M2) (fun (M3 : zM) => sq (fX10_mostMistaken M3) (fun (x4 : Int32) => if x4 = (-4 : Int32) then (some ((-2 : Int32), M3)) else (grd (zix x4 64) (lt ((M3.1 12 (zn x4))) (fun (x5 : Int32) => grd (zix x4 64) (lt (zwI M3 12 (zn x4) p1) (fun (M6 : zM) => some (x5, M6)))))))))))
set_option maxHeartbeats 4000000 in
set_option maxRecDepth 100000 in
theorem tX10_learn (E : zE) (p1 : Int32) (M : zM) : zFI E mX10_learn [.ref 0, .int p1] zY0 M (fX10_learn p1 M) := by
  refine zF_of (L := [some (.ref 0), some (.int p1), none, none]) plX10 (Nat.le_of_ble_eq_true rfl) rfl (fun post => ?_)
  unfold fX10_learn
  refine z_iload_n 0 dX10_learn_0 rfl ?_
  refine z_iconst 1 dX10_learn_1 zci_0 ?_
  refine z_bipush 2 dX10_learn_2 zbp_50 ?_
  refine z_ctb (zat_S3 4 dX10_learn_4 lk_X10_89 ⟨Nat.le_of_ble_eq_true rfl, Nat.le_of_ble_eq_true rfl⟩ (Nat.le_of_ble_eq_true rfl)) (tX10_within E zY0 p1 (0 : Int32) (50 : Int32) M) (fun b1 => ?_)
  refine z_ifneb 7 12 dX10_learn_7 (by decide) (fun _ => ?_) (fun _ => ?_)
  · refine z_iconst 10 dX10_learn_10 zci_m1 ?_
    exact z_ireturn 11 dX10_learn_11 rfl rfl (fun h => h)
  · refine z_aload_n 12 dX10_learn_12 rfl ?_
    refine z_cV (zat_V0 13 dX10_learn_13 lk_X10_200 zy_0 rfl rfl ⟨Nat.le_of_ble_eq_true rfl, Nat.le_of_ble_eq_true rfl⟩ (Nat.le_of_ble_eq_true rfl)) (tX10_findFirst E M) (fun M2 => ?_)
    refine z_aload_n 16 dX10_learn_16 rfl ?_
    refine z_cV (zat_V0 17 dX10_learn_17 lk_X10_319 zy_0 rfl rfl ⟨Nat.le_of_ble_eq_true rfl, Nat.le_of_ble_eq_true rfl⟩ (Nat.le_of_ble_eq_true rfl)) (tX10_countReads E M2) (fun M3 => ?_)
    refine z_aload_n 20 dX10_learn_20 rfl ?_
    refine z_ci (zat_V0 21 dX10_learn_21 lk_X10_322 zy_0 rfl rfl ⟨Nat.le_of_ble_eq_true rfl, Nat.le_of_ble_eq_true rfl⟩ (Nat.le_of_ble_eq_true rfl)) (tX10_mostMistaken E M3) (fun x4 => ?_)
    refine z_istore_n 24 (L' := [some (.ref 0), some (.int p1), some (.int x4), none]) dX10_learn_24 (by decide) rfl ?_
    refine z_iload_n 25 dX10_learn_25 rfl ?_
    refine z_bipush 26 dX10_learn_26 zbp_m4 ?_
    refine z_icne 28 34 dX10_learn_28 (by decide) (fun _ => ?_) (fun _ => ?_)
    · refine z_bipush 31 dX10_learn_31 zbp_m2 ?_
      exact z_ireturn 33 dX10_learn_33 rfl rfl (fun h => h)
    · refine z_aload_n 34 dX10_learn_34 rfl ?_
      refine z_getR 35 (r := 1) dX10_learn_35 fl_X10_12 zy_0 rfl ?_
      refine z_getR 38 (r := 10) dX10_learn_38 fl_X10_97 zy_1 rfl ?_
      refine z_getR 41 (r := 12) dX10_learn_41 fl_X10_114 zy_10 rfl ?_
      refine z_iload_n 44 dX10_learn_44 rfl ?_
      refine z_iaload 45 dX10_learn_45 zy_12 ?_
      refine zk_nmI (fun x5 => ?_)
      refine z_istore_n 46 (L' := [some (.ref 0), some (.int p1), some (.int x4), some (.int x5)]) dX10_learn_46 (by decide) rfl ?_
      refine z_aload_n 47 dX10_learn_47 rfl ?_
      refine z_getR 48 (r := 1) dX10_learn_48 fl_X10_12 zy_0 rfl ?_
      refine z_getR 51 (r := 10) dX10_learn_51 fl_X10_97 zy_1 rfl ?_
      refine z_getR 54 (r := 12) dX10_learn_54 fl_X10_114 zy_10 rfl ?_
      refine z_iload_n 57 dX10_learn_57 rfl ?_
      refine z_iload_n 58 dX10_learn_58 rfl ?_
      refine z_iastore 59 dX10_learn_59 zy_12 ?_
      refine zk_nmM (fun M6 => ?_)
      refine z_iload_n 60 dX10_learn_60 rfl ?_
      exact z_ireturn 61 dX10_learn_61 rfl rfl (fun h => h)
def fX10_fewestPlaces (M : zM) : Option (Int32 × zM) :=
  sq (fX10_findFirst M) (fun (M1 : zM) => zlp (α := Int32 × zM) (fun rec14 => (fun (u43 : Int32 × zM) => match u43 with | (x12, M13) => if (4 : Int32) < x12 then (some ((-4 : Int32), M13)) else (zlp (α := Int32 × zM) (fun rec29 => (fun (u41 : Int32 × zM) => match u41 with | (x27, M28) => if (15 : Int32) < x27 then (rec14 ((x12 + (1 : Int32)), M28)) else (lt (fJ6_bitCount_0f7a4 x27) (fun (x32 : Int32) => jn (α := zM) (fun (M36 : zM) => rec29 ((x27 + (1 : Int32)), M36)) (fun k37 => if x32 = x12 then (sq (fX10_lookAtPairs x27 M28) (fun (M38 : zM) => bi (fX4_isFirstOnlyBest M38) (fun (b40 : Bool) (M39 : zM) => if b40 = false then (k37 M39) else (some (x27, M39))))) else (k37 M28)))))) zFu ((0 : Int32), M13)))) zFu ((0 : Int32), M1))
set_option maxHeartbeats 4000000 in
set_option maxRecDepth 100000 in
theorem tX10_fewestPlaces (E : zE)  (M : zM) : zFI E mX10_fewestPlaces [.ref 0] zY0 M (fX10_fewestPlaces M) := by
  refine zF_of (L := [some (.ref 0), none, none]) plX10 (Nat.le_of_ble_eq_true rfl) rfl (fun post => ?_)
  unfold fX10_fewestPlaces
  refine z_aload_n 0 dX10_fewestPlaces_0 rfl ?_
  refine z_cV (zat_V0 1 dX10_fewestPlaces_1 lk_X10_200 zy_0 rfl rfl ⟨Nat.le_of_ble_eq_true rfl, Nat.le_of_ble_eq_true rfl⟩ (Nat.le_of_ble_eq_true rfl)) (tX10_findFirst E M) (fun M1 => ?_)
  refine z_iconst 4 dX10_fewestPlaces_4 zci_0 ?_
  refine z_istore_n 5 (L' := [some (.ref 0), some (.int (0 : Int32)), none]) dX10_fewestPlaces_5 (by decide) rfl ?_
  refine zk_weak (L' := [some (.ref 0), some (.int (0 : Int32)), none]) (zLe_s (zLe_s (zLe_n zLe_nl))) (zk_lp (α := Int32 × zM) 6 (fun (u15 : Int32 × zM) => match u15 with | (x12, M13) => [some (.ref 0), some (.int x12), none]) (fun (u16 : Int32 × zM) => match u16 with | (x12, M13) => (zY0, M13)) ?_ zFu ((0 : Int32), M1))
  intro rec14 hrec14
  intro u44
  obtain ⟨x12, M13⟩ := u44
  try dsimp only
  refine z_iload_n 6 dX10_fewestPlaces_6 rfl ?_
  refine z_iconst 7 dX10_fewestPlaces_7 zci_4 ?_
  refine z_icgt 8 56 dX10_fewestPlaces_8 (by decide) (fun _ => ?_) (fun _ => ?_)
  · refine z_bipush 56 dX10_fewestPlaces_56 zbp_m4 ?_
    exact z_ireturn 58 dX10_fewestPlaces_58 rfl rfl (fun h => h)
  · refine z_iconst 11 dX10_fewestPlaces_11 zci_0 ?_
    refine z_istore_n 12 (L' := [some (.ref 0), some (.int x12), some (.int (0 : Int32))]) dX10_fewestPlaces_12 (by decide) rfl ?_
    refine zk_weak (L' := [some (.ref 0), some (.int x12), some (.int (0 : Int32))]) (zLe_s (zLe_s (zLe_s zLe_nl))) (zk_lp (α := Int32 × zM) 13 (fun (u30 : Int32 × zM) => match u30 with | (x27, M28) => [some (.ref 0), some (.int x12), some (.int x27)]) (fun (u31 : Int32 × zM) => match u31 with | (x27, M28) => (zY0, M28)) ?_ zFu ((0 : Int32), M13))
    intro rec29 hrec29
    intro u42
    obtain ⟨x27, M28⟩ := u42
    try dsimp only
    refine z_iload_n 13 dX10_fewestPlaces_13 rfl ?_
    refine z_bipush 14 dX10_fewestPlaces_14 zbp_15 ?_
    refine z_icgt 16 50 dX10_fewestPlaces_16 (by decide) (fun _ => ?_) (fun _ => ?_)
    · refine z_iinc 50 (v := (x12 + (1 : Int32))) (L' := [some (.ref 0), some (.int (x12 + (1 : Int32))), some (.int x27)]) dX10_fewestPlaces_50 rfl (zinc zci_1 _) (by decide) rfl ?_
      refine z_goto 53 6 dX10_fewestPlaces_53 (by decide) ?_
      exact zk_weak (L' := [some (.ref 0), some (.int (x12 + (1 : Int32))), none]) (zLe_s (zLe_s (zLe_n zLe_nl))) (hrec14 ((x12 + (1 : Int32)), M28))
    · refine z_iload_n 19 dX10_fewestPlaces_19 rfl ?_
      refine z_cti (zat_S1 20 dX10_fewestPlaces_20 lk_X10_328 ⟨Nat.le_of_ble_eq_true rfl, Nat.le_of_ble_eq_true rfl⟩ (Nat.le_of_ble_eq_true rfl)) (tJ6_bitCount_0f7a4 E zY0 x27 M28) (fun x32 => ?_)
      refine z_iload_n 23 dX10_fewestPlaces_23 rfl ?_
      refine zk_jn (α := zM) 44 (fun (M36 : zM) => [some (.ref 0), some (.int x12), some (.int x27)]) (fun (M36 : zM) => []) (fun (M36 : zM) => (zY0, M36)) ?_ ?_
      · intro M36
        refine z_iinc 44 (v := (x27 + (1 : Int32))) (L' := [some (.ref 0), some (.int x12), some (.int (x27 + (1 : Int32)))]) dX10_fewestPlaces_44 rfl (zinc zci_1 _) (by decide) rfl ?_
        refine z_goto 47 13 dX10_fewestPlaces_47 (by decide) ?_
        exact zk_weak (L' := [some (.ref 0), some (.int x12), some (.int (x27 + (1 : Int32)))]) (zLe_s (zLe_s (zLe_s zLe_nl))) (hrec29 ((x27 + (1 : Int32)), M36))
      · intro k37 hk37
        refine z_icne 24 44 dX10_fewestPlaces_24 (by decide) (fun _ => ?_) (fun _ => ?_)
        · refine z_aload_n 27 dX10_fewestPlaces_27 rfl ?_
          refine z_iload_n 28 dX10_fewestPlaces_28 rfl ?_
          refine z_cV (zat_V1 29 dX10_fewestPlaces_29 lk_X10_164 zy_0 rfl rfl ⟨Nat.le_of_ble_eq_true rfl, Nat.le_of_ble_eq_true rfl⟩ (Nat.le_of_ble_eq_true rfl)) (tX10_lookAtPairs E x27 M28) (fun M38 => ?_)
          refine z_aload_n 32 dX10_fewestPlaces_32 rfl ?_
          refine z_getR 33 (r := 58) dX10_fewestPlaces_33 fl_X10_53 zy_0 rfl ?_
          refine z_cB (zat_V0 36 dX10_fewestPlaces_36 lk_X10_427 zy_58 rfl rfl ⟨Nat.le_of_ble_eq_true rfl, Nat.le_of_ble_eq_true rfl⟩ (Nat.le_of_ble_eq_true rfl)) (tX4_isFirstOnlyBest E M38) (fun b40 M39 => ?_)
          refine z_ifeqb 39 44 dX10_fewestPlaces_39 (by decide) (fun _ => ?_) (fun _ => ?_)
          · exact zk_weak (L' := [some (.ref 0), some (.int x12), some (.int x27)]) (zLe_s (zLe_s (zLe_s zLe_nl))) (hk37 M39)
          · refine z_iload_n 42 dX10_fewestPlaces_42 rfl ?_
            exact z_ireturn 43 dX10_fewestPlaces_43 rfl rfl (fun h => h)
        · exact zk_weak (L' := [some (.ref 0), some (.int x12), some (.int x27)]) (zLe_s (zLe_s (zLe_s zLe_nl))) (hk37 M28)
def fX10_enough (p1 : Int32) (M : zM) : Option (Int32 × zM) :=
  lt (fX10_within p1 (0 : Int32) (1 : Int32)) (fun (b1 : Bool) => if b1 = false then (some ((-1 : Int32), M)) else (bi (fX10_fewestPlaces M) (fun (x3 : Int32) (M2 : zM) => jn (α := Unit) (fun (_ : Unit) => some (x3, M2)) (fun k5 => if x3 = (-4 : Int32) then (k5 ()) else (if p1 = (1 : Int32) then (k5 ()) else (lt (fJ6_bitCount_0f7a4 x3) (fun (x6 : Int32) => some (x6, M2))))))))
set_option maxHeartbeats 4000000 in
set_option maxRecDepth 100000 in
theorem tX10_enough (E : zE) (p1 : Int32) (M : zM) : zFI E mX10_enough [.ref 0, .int p1] zY0 M (fX10_enough p1 M) := by
  refine zF_of (L := [some (.ref 0), some (.int p1), none]) plX10 (Nat.le_of_ble_eq_true rfl) rfl (fun post => ?_)
  unfold fX10_enough
  refine z_iload_n 0 dX10_enough_0 rfl ?_
  refine z_iconst 1 dX10_enough_1 zci_0 ?_
  refine z_iconst 2 dX10_enough_2 zci_1 ?_
  refine z_ctb (zat_S3 3 dX10_enough_3 lk_X10_89 ⟨Nat.le_of_ble_eq_true rfl, Nat.le_of_ble_eq_true rfl⟩ (Nat.le_of_ble_eq_true rfl)) (tX10_within E zY0 p1 (0 : Int32) (1 : Int32) M) (fun b1 => ?_)
  refine z_ifneb 6 11 dX10_enough_6 (by decide) (fun _ => ?_) (fun _ => ?_)
  · refine z_iconst 9 dX10_enough_9 zci_m1 ?_
    exact z_ireturn 10 dX10_enough_10 rfl rfl (fun h => h)
  · refine z_aload_n 11 dX10_enough_11 rfl ?_
    refine z_cI (zat_V0 12 dX10_enough_12 lk_X10_325 zy_0 rfl rfl ⟨Nat.le_of_ble_eq_true rfl, Nat.le_of_ble_eq_true rfl⟩ (Nat.le_of_ble_eq_true rfl)) (tX10_fewestPlaces E M) (fun x3 M2 => ?_)
    refine z_istore_n 15 (L' := [some (.ref 0), some (.int p1), some (.int x3)]) dX10_enough_15 (by decide) rfl ?_
    refine z_iload_n 16 dX10_enough_16 rfl ?_
    refine z_bipush 17 dX10_enough_17 zbp_m4 ?_
    refine zk_jn (α := Unit) 27 (fun (_ : Unit) => [none, none, some (.int x3)]) (fun (_ : Unit) => []) (fun (_ : Unit) => (zY0, M2)) ?_ ?_
    · intro _
      refine z_iload_n 27 dX10_enough_27 rfl ?_
      refine z_goto 28 35 dX10_enough_28 (by decide) ?_
      exact z_ireturn 35 dX10_enough_35 rfl rfl (fun h => h)
    · intro k5 hk5
      refine z_iceq 19 27 dX10_enough_19 (by decide) (fun _ => ?_) (fun _ => ?_)
      · exact zk_weak (L' := [none, none, some (.int x3)]) (zLe_n (zLe_n (zLe_s zLe_nl))) (hk5 ())
      · refine z_iload_n 22 dX10_enough_22 rfl ?_
        refine z_iconst 23 dX10_enough_23 zci_1 ?_
        refine z_icne 24 31 dX10_enough_24 (by decide) (fun _ => ?_) (fun _ => ?_)
        · exact zk_weak (L' := [none, none, some (.int x3)]) (zLe_n (zLe_n (zLe_s zLe_nl))) (hk5 ())
        · refine z_iload_n 31 dX10_enough_31 rfl ?_
          refine z_cti (zat_S1 32 dX10_enough_32 lk_X10_328 ⟨Nat.le_of_ble_eq_true rfl, Nat.le_of_ble_eq_true rfl⟩ (Nat.le_of_ble_eq_true rfl)) (tJ6_bitCount_0f7a4 E zY0 x3 M2) (fun x6 => ?_)
          exact z_ireturn 35 dX10_enough_35 rfl rfl (fun h => h)
