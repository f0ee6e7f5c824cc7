def fJ7_fill_53178 (a1 : Nat) (n1 : Nat) (p2 : Int32) (M : zM) : Option zM :=
  lt ((Int32.ofNat n1)) (fun (x1 : Int32) => zlp (α := Int32 × zM) (fun rec10 => (fun (u14 : Int32 × zM) => match u14 with | (x8, M9) => if x1 ≤ x8 then (some M9) else (grd (zix x8 n1) (lt (zwI M9 a1 (zn x8) p2) (fun (M13 : zM) => rec10 ((x8 + (1 : Int32)), M13)))))) zFu ((0 : Int32), M))
set_option maxHeartbeats 4000000 in
set_option maxRecDepth 100000 in
theorem tJ7_fill_53178 (E : zE) (Y : zY) (a1 : Nat) (n1 : Nat) (ha1 : Y[a1]? = some (.inr (0, n1, []))) (p2 : Int32) (M : zM) : zFV E mJ7_fill_53178 [.ref a1, .int p2] Y M (fJ7_fill_53178 a1 n1 p2 M) := by
  refine zF_of (L := [some (.ref a1), some (.int p2), none, none]) plJ7 (Nat.le_of_ble_eq_true rfl) rfl (fun post => ?_)
  unfold fJ7_fill_53178
  refine z_iconst 0 dJ7_fill_53178_0 zci_0 ?_
  refine z_istore_n 1 (L' := [some (.ref a1), some (.int p2), some (.int (0 : Int32)), none]) dJ7_fill_53178_1 (by decide) rfl ?_
  refine z_aload_n 2 dJ7_fill_53178_2 rfl ?_
  refine z_alen 3 dJ7_fill_53178_3 ha1 (by decide) ?_
  refine zk_nmI (fun x1 => ?_)
  refine z_istore_n 4 (L' := [some (.ref a1), some (.int p2), some (.int (0 : Int32)), some (.int x1)]) dJ7_fill_53178_4 (by decide) rfl ?_
  refine zk_weak (L' := [some (.ref a1), some (.int p2), some (.int (0 : Int32)), some (.int x1)]) (zLe_s (zLe_s (zLe_s (zLe_s zLe_nl)))) (zk_lp (α := Int32 × zM) 5 (fun (u11 : Int32 × zM) => match u11 with | (x8, M9) => [some (.ref a1), some (.int p2), some (.int x8), some (.int x1)]) (fun (u12 : Int32 × zM) => match u12 with | (x8, M9) => (Y, M9)) ?_ zFu ((0 : Int32), M))
  intro rec10 hrec10
  intro u15
  obtain ⟨x8, M9⟩ := u15
  try dsimp only
  refine z_iload_n 5 dJ7_fill_53178_5 rfl ?_
  refine z_iload_n 6 dJ7_fill_53178_6 rfl ?_
  refine z_icge 7 20 dJ7_fill_53178_7 (by decide) (fun _ => ?_) (fun _ => ?_)
  · exact z_return 20 dJ7_fill_53178_20 rfl (fun h => h)
  · refine z_aload_n 10 dJ7_fill_53178_10 rfl ?_
    refine z_iload_n 11 dJ7_fill_53178_11 rfl ?_
    refine z_iload_n 12 dJ7_fill_53178_12 rfl ?_
    refine z_iastore 13 dJ7_fill_53178_13 ha1 ?_
    refine zk_nmM (fun M13 => ?_)
    refine z_iinc 14 (v := (x8 + (1 : Int32))) (L' := [some (.ref a1), some (.int p2), some (.int (x8 + (1 : Int32))), some (.int x1)]) dJ7_fill_53178_14 rfl (zinc zci_1 _) (by decide) rfl ?_
    refine z_goto 17 5 dJ7_fill_53178_17 (by decide) ?_
    exact zk_weak (L' := [some (.ref a1), some (.int p2), some (.int (x8 + (1 : Int32))), some (.int x1)]) (zLe_s (zLe_s (zLe_s (zLe_s zLe_nl)))) (hrec10 ((x8 + (1 : Int32)), M13))
def fX5_mayBe (p1 : Int32) (p2 : Int32) (M : zM) : Option Bool :=
  grd (zix ((p1 * (10 : Int32)) + p2) 100) (if (M.1 57 (zn ((p1 * (10 : Int32)) + p2))) = (-4 : Int32) then (some false) else (some true))
set_option maxHeartbeats 4000000 in
set_option maxRecDepth 100000 in
theorem tX5_mayBe (E : zE) (p1 : Int32) (p2 : Int32) (M : zM) : zFb E mX5_mayBe [.ref 55, .int p1, .int p2] zY0 M (fX5_mayBe p1 p2 M) := by
  refine zF_of (L := [some (.ref 55), some (.int p1), some (.int p2)]) plX5 (Nat.le_of_ble_eq_true rfl) rfl (fun post => ?_)
  unfold fX5_mayBe
  refine z_aload_n 0 dX5_mayBe_0 rfl ?_
  refine z_getR 1 (r := 57) dX5_mayBe_1 fl_X5_15 zy_55 rfl ?_
  refine z_iload_n 4 dX5_mayBe_4 rfl ?_
  refine z_bipush 5 dX5_mayBe_5 zbp_10 ?_
  refine z_imul 7 dX5_mayBe_7 ?_
  refine z_iload_n 8 dX5_mayBe_8 rfl ?_
  refine z_iadd 9 dX5_mayBe_9 ?_
  refine z_iaload 10 dX5_mayBe_10 zy_57 ?_
  refine z_bipush 11 dX5_mayBe_11 zbp_m4 ?_
  refine z_iceq 13 20 dX5_mayBe_13 (by decide) (fun _ => ?_) (fun _ => ?_)
  · refine z_iconst 20 dX5_mayBe_20 zci_0 ?_
    exact z_ireturn 21 (v := zb false) dX5_mayBe_21 rfl (zput_b false).1 (fun h => h)
  · refine z_iconst 16 dX5_mayBe_16 zci_1 ?_
    refine z_goto 17 21 dX5_mayBe_17 (by decide) ?_
    exact z_ireturn 21 (v := zb true) dX5_mayBe_21 rfl (zput_b true).1 (fun h => h)
def fX5_gainOf (p1 : Int32) (p2 : Int32) (M : zM) : Option Int32 :=
  grd (zix ((p1 * (10 : Int32)) + p2) 100) (some ((M.1 57 (zn ((p1 * (10 : Int32)) + p2))) - (M.1 55 3)))
set_option maxHeartbeats 4000000 in
set_option maxRecDepth 100000 in
theorem tX5_gainOf (E : zE) (p1 : Int32) (p2 : Int32) (M : zM) : zFi E mX5_gainOf [.ref 55, .int p1, .int p2] zY0 M (fX5_gainOf p1 p2 M) := by
  refine zF_of (L := [some (.ref 55), some (.int p1), some (.int p2)]) plX5 (Nat.le_of_ble_eq_true rfl) rfl (fun post => ?_)
  unfold fX5_gainOf
  refine z_aload_n 0 dX5_gainOf_0 rfl ?_
  refine z_getR 1 (r := 57) dX5_gainOf_1 fl_X5_15 zy_55 rfl ?_
  refine z_iload_n 4 dX5_gainOf_4 rfl ?_
  refine z_bipush 5 dX5_gainOf_5 zbp_10 ?_
  refine z_imul 7 dX5_gainOf_7 ?_
  refine z_iload_n 8 dX5_gainOf_8 rfl ?_
  refine z_iadd 9 dX5_gainOf_9 ?_
  refine z_iaload 10 dX5_gainOf_10 zy_57 ?_
  refine z_aload_n 11 dX5_gainOf_11 rfl ?_
  refine z_getI 12 dX5_gainOf_12 fl_X5_51 zy_55 rfl ?_
  refine z_isub 15 dX5_gainOf_15 ?_
  exact z_ireturn 16 dX5_gainOf_16 rfl rfl (fun h => h)
def fX0_openTo (p2 : Int32) (p3 : Int32) (M : zM) : Option Int32 :=
  zlp (α := Int32 × Int32) (fun rec21 => (fun (u30 : Int32 × Int32) => match u30 with | (x19, x20) => if (M.1 55 1) ≤ x20 then (some x19) else (sq (fX5_mayBe p2 x20 M) (fun (b24 : Bool) => sq (α := Int32) (if b24 = false then (some x19) else (sq (fX5_gainOf p2 x20 M) (fun (x28 : Int32) => if p3 < x28 then (some x19) else (lt ((x19 ||| ((1 : Int32) <<< (x20 &&& 31)))) (fun (x29 : Int32) => some x29))))) (fun (x27 : Int32) => rec21 (x27, (x20 + (1 : Int32)))))))) zFu ((0 : Int32), (0 : Int32))
set_option maxHeartbeats 4000000 in
set_option maxRecDepth 100000 in
theorem tX0_openTo (E : zE) (p2 : Int32) (p3 : Int32) (M : zM) : zFi E mX0_openTo [.ref 55, .int p2, .int p3] zY0 M (fX0_openTo p2 p3 M) := by
  refine zF_of (L := [some (.ref 55), some (.int p2), some (.int p3), none, none]) plX0 (Nat.le_of_ble_eq_true rfl) rfl (fun post => ?_)
  unfold fX0_openTo
  refine z_iconst 0 dX0_openTo_0 zci_0 ?_
  refine z_istore_n 1 (L' := [some (.ref 55), some (.int p2), some (.int p3), some (.int (0 : Int32)), none]) dX0_openTo_1 (by decide) rfl ?_
  refine z_iconst 2 dX0_openTo_2 zci_0 ?_
  refine z_istore 3 (L' := [some (.ref 55), some (.int p2), some (.int p3), some (.int (0 : Int32)), some (.int (0 : Int32))]) dX0_openTo_3 (by decide) rfl ?_
  refine zk_weak (L' := [some (.ref 55), some (.int p2), some (.int p3), some (.int (0 : Int32)), some (.int (0 : Int32))]) (zLe_s (zLe_s (zLe_s (zLe_s (zLe_s zLe_nl))))) (zk_lp (α := Int32 × Int32) 5 (fun (u22 : Int32 × Int32) => match u22 with | (x19, x20) => [some (.ref 55), some (.int p2), some (.int p3), some (.int x19), some (.int x20)]) (fun (u23 : Int32 × Int32) => match u23 with | (x19, x20) => (zY0, M)) ?_ zFu ((0 : Int32), (0 : Int32)))
  intro rec21 hrec21
  intro u31
  obtain ⟨x19, x20⟩ := u31
  try dsimp only
  refine z_iload 5 dX0_openTo_5 rfl ?_
  refine z_aload_n 7 dX0_openTo_7 rfl ?_
  refine z_getI 8 dX0_openTo_8 fl_X0_22 zy_55 rfl ?_
  refine z_icge 11 48 dX0_openTo_11 (by decide) (fun _ => ?_) (fun _ => ?_)
  · refine z_iload_n 48 dX0_openTo_48 rfl ?_
    exact z_ireturn 49 dX0_openTo_49 rfl rfl (fun h => h)
  · refine z_aload_n 14 dX0_openTo_14 rfl ?_
    refine z_iload_n 15 dX0_openTo_15 rfl ?_
    refine z_iload 16 dX0_openTo_16 rfl ?_
    refine z_cb (zat_V2 18 dX0_openTo_18 lk_X0_52 zy_55 rfl rfl ⟨Nat.le_of_ble_eq_true rfl, Nat.le_of_ble_eq_true rfl⟩ (Nat.le_of_ble_eq_true rfl)) (tX5_mayBe E p2 x20 M) (fun b24 => ?_)
    refine zk_sqj (α := Int32) 42 (fun (x27 : Int32) => [some (.ref 55), some (.int p2), some (.int p3), some (.int x27), some (.int x20)]) (fun (x27 : Int32) => []) (fun (x27 : Int32) => (zY0, M)) ?_ ?_
    · intro x27
      refine z_iinc 42 (v := (x20 + (1 : Int32))) (L' := [some (.ref 55), some (.int p2), some (.int p3), some (.int x27), some (.int (x20 + (1 : Int32)))]) dX0_openTo_42 rfl (zinc zci_1 _) (by decide) rfl ?_
      refine z_goto 45 5 dX0_openTo_45 (by decide) ?_
      exact zk_weak (L' := [some (.ref 55), some (.int p2), some (.int p3), some (.int x27), some (.int (x20 + (1 : Int32)))]) (zLe_s (zLe_s (zLe_s (zLe_s (zLe_s zLe_nl))))) (hrec21 (x27, (x20 + (1 : Int32))))
    · refine z_ifeqb 21 42 dX0_openTo_21 (by decide) (fun _ => ?_) (fun _ => ?_)
      · exact zk_exitw (L' := [some (.ref 55), some (.int p2), some (.int p3), some (.int x19), some (.int x20)]) (zLe_s (zLe_s (zLe_s (zLe_s (zLe_s zLe_nl))))) (fun h => h)
      · refine z_aload_n 24 dX0_openTo_24 rfl ?_
        refine z_iload_n 25 dX0_openTo_25 rfl ?_
        refine z_iload 26 dX0_openTo_26 rfl ?_
        refine z_ci (zat_V2 28 dX0_openTo_28 lk_X0_56 zy_55 rfl rfl ⟨Nat.le_of_ble_eq_true rfl, Nat.le_of_ble_eq_true rfl⟩ (Nat.le_of_ble_eq_true rfl)) (tX5_gainOf E p2 x20 M) (fun x28 => ?_)
        refine z_iload_n 31 dX0_openTo_31 rfl ?_
        refine z_icgt 32 42 dX0_openTo_32 (by decide) (fun _ => ?_) (fun _ => ?_)
        · exact zk_exitw (L' := [some (.ref 55), some (.int p2), some (.int p3), some (.int x19), some (.int x20)]) (zLe_s (zLe_s (zLe_s (zLe_s (zLe_s zLe_nl))))) (fun h => h)
        · refine z_iload_n 35 dX0_openTo_35 rfl ?_
          refine z_iconst 36 dX0_openTo_36 zci_1 ?_
          refine z_iload 37 dX0_openTo_37 rfl ?_
          refine z_ishl 39 dX0_openTo_39 ?_
          refine z_ior 40 dX0_openTo_40 ?_
          refine zk_nmI (fun x29 => ?_)
          refine z_istore_n 41 (L' := [some (.ref 55), some (.int p2), some (.int p3), some (.int x29), some (.int x20)]) dX0_openTo_41 (by decide) rfl ?_
          exact zk_exitw (L' := [some (.ref 55), some (.int p2), some (.int p3), some (.int x29), some (.int x20)]) (zLe_s (zLe_s (zLe_s (zLe_s (zLe_s zLe_nl))))) (fun h => h)
def fX0_spreadLine (p1 : Int32) (p2 : Int32) (M : zM) : Option zM :=
  lt ((((1 : Int32) <<< (p2 &&& 31)) - (1 : Int32))) (fun (x1 : Int32) => zlp (α := Int32 × zM) (fun rec4 => (fun (u31 : Int32 × zM) => match u31 with | (x2, M3) => if x2 < 0 then (some M3) else (grd (zix x2 1024) (lt (if (M3.1 68 (zn x2)) = 0 then ((0 : Int32)) else ((p1 &&& (x2 ^^^ (-1 : Int32))))) (fun (x7 : Int32) => sq (α := zM) (zlp (α := Int32 × zM) (β := zM) (fun rec19 => (fun (u28 : Int32 × zM) => match u28 with | (x17, M18) => if p2 ≤ x17 then (some M18) else (if (x7 >>> (x17 &&& 31)) = 0 then (some M18) else (sq (α := zM) (if ((x7 >>> (x17 &&& 31)) &&& (1 : Int32)) = (1 : Int32) then (lt ((x2 ||| ((1 : Int32) <<< (x17 &&& 31)))) (fun (x26 : Int32) => grd (zix x26 1024) (grd (zix x2 1024) (grd (zix x26 1024) (lt (zwI M18 68 (zn x26) ((M18.1 68 (zn x26)) + (M18.1 68 (zn x2)))) (fun (M27 : zM) => some M27)))))) else (some M18)) (fun (M25 : zM) => rec19 ((x17 + (1 : Int32)), M25)))))) zFu ((0 : Int32), M3)) (fun (M22 : zM) => rec4 ((x2 + (-1 : Int32)), M22))))))) zFu (x1, M))
set_option maxHeartbeats 4000000 in
set_option maxRecDepth 100000 in
theorem tX0_spreadLine (E : zE) (p1 : Int32) (p2 : Int32) (M : zM) : zFV E mX0_spreadLine [.ref 67, .int p1, .int p2] zY0 M (fX0_spreadLine p1 p2 M) := by
  refine zF_of (L := [some (.ref 67), some (.int p1), some (.int p2), none, none, none]) plX0 (Nat.le_of_ble_eq_true rfl) rfl (fun post => ?_)
  unfold fX0_spreadLine
  refine z_iconst 0 dX0_spreadLine_0 zci_1 ?_
  refine z_iload_n 1 dX0_spreadLine_1 rfl ?_
  refine z_ishl 2 dX0_spreadLine_2 ?_
  refine z_iconst 3 dX0_spreadLine_3 zci_1 ?_
  refine z_isub 4 dX0_spreadLine_4 ?_
  refine zk_nmI (fun x1 => ?_)
  refine z_istore_n 5 (L' := [some (.ref 67), some (.int p1), some (.int p2), some (.int x1), none, none]) dX0_spreadLine_5 (by decide) rfl ?_
  refine zk_weak (L' := [some (.ref 67), some (.int p1), some (.int p2), some (.int x1), none, none]) (zLe_s (zLe_s (zLe_s (zLe_s (zLe_n (zLe_n zLe_nl)))))) (zk_lp (α := Int32 × zM) 6 (fun (u5 : Int32 × zM) => match u5 with | (x2, M3) => [some (.ref 67), some (.int p1), some (.int p2), some (.int x2), none, none]) (fun (u6 : Int32 × zM) => match u6 with | (x2, M3) => (zY0, M3)) ?_ zFu (x1, M))
  intro rec4 hrec4
  intro u32
  obtain ⟨x2, M3⟩ := u32
  try dsimp only
  refine z_iload_n 6 dX0_spreadLine_6 rfl ?_
  refine z_iflt 7 90 dX0_spreadLine_7 (by decide) (fun _ => ?_) (fun _ => ?_)
  · exact z_return 90 dX0_spreadLine_90 rfl (fun h => h)
  · refine z_aload_n 10 dX0_spreadLine_10 rfl ?_
    refine z_getR 11 (r := 68) dX0_spreadLine_11 fl_X0_9 zy_67 rfl ?_
    refine z_iload_n 14 dX0_spreadLine_14 rfl ?_
    refine z_iaload 15 dX0_spreadLine_15 zy_68 ?_
    refine zk_ltj (α := Int32) 28 (fun (x7 : Int32) => [some (.ref 67), some (.int p1), some (.int p2), some (.int x2), none, none]) (fun (x7 : Int32) => [.int x7]) (fun (x7 : Int32) => (zY0, M3)) ?_ ?_
    · intro x7
      refine z_istore 28 (L' := [some (.ref 67), some (.int p1), some (.int p2), some (.int x2), some (.int x7), none]) dX0_spreadLine_28 (by decide) rfl ?_
      refine z_iconst 30 dX0_spreadLine_30 zci_0 ?_
      refine z_istore 31 (L' := [some (.ref 67), some (.int p1), some (.int p2), some (.int x2), some (.int x7), some (.int (0 : Int32))]) dX0_spreadLine_31 (by decide) rfl ?_
      refine zk_sqj (α := zM) 84 (fun (M22 : zM) => [some (.ref 67), some (.int p1), some (.int p2), some (.int x2), none, none]) (fun (M22 : zM) => []) (fun (M22 : zM) => (zY0, M22)) ?_ ?_
      · intro M22
        refine z_iinc 84 (v := (x2 + (-1 : Int32))) (L' := [some (.ref 67), some (.int p1), some (.int p2), some (.int (x2 + (-1 : Int32))), none, none]) dX0_spreadLine_84 rfl (zinc zci_m1 _) (by decide) rfl ?_
        refine z_goto 87 6 dX0_spreadLine_87 (by decide) ?_
        exact zk_weak (L' := [some (.ref 67), some (.int p1), some (.int p2), some (.int (x2 + (-1 : Int32))), none, none]) (zLe_s (zLe_s (zLe_s (zLe_s (zLe_n (zLe_n zLe_nl)))))) (hrec4 ((x2 + (-1 : Int32)), M22))
      · refine zk_weak (L' := [some (.ref 67), some (.int p1), some (.int p2), some (.int x2), some (.int x7), some (.int (0 : Int32))]) (zLe_s (zLe_s (zLe_s (zLe_s (zLe_s (zLe_s zLe_nl)))))) (zk_lp (α := Int32 × zM) 33 (fun (u20 : Int32 × zM) => match u20 with | (x17, M18) => [some (.ref 67), some (.int p1), some (.int p2), some (.int x2), some (.int x7), some (.int x17)]) (fun (u21 : Int32 × zM) => match u21 with | (x17, M18) => (zY0, M18)) ?_ zFu ((0 : Int32), M3))
        intro rec19 hrec19
        intro u29
        obtain ⟨x17, M18⟩ := u29
        try dsimp only
        refine z_iload 33 dX0_spreadLine_33 rfl ?_
        refine z_iload_n 35 dX0_spreadLine_35 rfl ?_
        refine z_icge 36 84 dX0_spreadLine_36 (by decide) (fun _ => ?_) (fun _ => ?_)
        · exact zk_exitw (L' := [some (.ref 67), some (.int p1), some (.int p2), some (.int x2), none, none]) (zLe_s (zLe_s (zLe_s (zLe_s (zLe_n (zLe_n zLe_nl)))))) (fun h => h)
        · refine z_iload 39 dX0_spreadLine_39 rfl ?_
          refine z_iload 41 dX0_spreadLine_41 rfl ?_
          refine z_ishr 43 dX0_spreadLine_43 ?_
          refine z_ifeq 44 84 dX0_spreadLine_44 (by decide) (fun _ => ?_) (fun _ => ?_)
          · exact zk_exitw (L' := [some (.ref 67), some (.int p1), some (.int p2), some (.int x2), none, none]) (zLe_s (zLe_s (zLe_s (zLe_s (zLe_n (zLe_n zLe_nl)))))) (fun h => h)
          · refine z_iload 47 dX0_spreadLine_47 rfl ?_
            refine z_iload 49 dX0_spreadLine_49 rfl ?_
            refine z_ishr 51 dX0_spreadLine_51 ?_
            refine z_iconst 52 dX0_spreadLine_52 zci_1 ?_
            refine z_iand 53 dX0_spreadLine_53 ?_
            refine z_iconst 54 dX0_spreadLine_54 zci_1 ?_
            refine zk_sqj (α := zM) 78 (fun (M25 : zM) => [some (.ref 67), some (.int p1), some (.int p2), some (.int x2), some (.int x7), some (.int x17)]) (fun (M25 : zM) => []) (fun (M25 : zM) => (zY0, M25)) ?_ ?_
            · intro M25
              refine z_iinc 78 (v := (x17 + (1 : Int32))) (L' := [some (.ref 67), some (.int p1), some (.int p2), some (.int x2), some (.int x7), some (.int (x17 + (1 : Int32)))]) dX0_spreadLine_78 rfl (zinc zci_1 _) (by decide) rfl ?_
              refine z_goto 81 33 dX0_spreadLine_81 (by decide) ?_
              exact zk_weak (L' := [some (.ref 67), some (.int p1), some (.int p2), some (.int x2), some (.int x7), some (.int (x17 + (1 : Int32)))]) (zLe_s (zLe_s (zLe_s (zLe_s (zLe_s (zLe_s zLe_nl)))))) (hrec19 ((x17 + (1 : Int32)), M25))
            · refine z_icne 55 78 dX0_spreadLine_55 (by decide) (fun _ => ?_) (fun _ => ?_)
              · refine z_aload_n 58 dX0_spreadLine_58 rfl ?_
                refine z_getR 59 (r := 68) dX0_spreadLine_59 fl_X0_9 zy_67 rfl ?_
                refine z_iload_n 62 dX0_spreadLine_62 rfl ?_
                refine z_iconst 63 dX0_spreadLine_63 zci_1 ?_
                refine z_iload 64 dX0_spreadLine_64 rfl ?_
                refine z_ishl 66 dX0_spreadLine_66 ?_
                refine z_ior 67 dX0_spreadLine_67 ?_
                refine zk_nmI (fun x26 => ?_)
                refine z_dup2 68 dX0_spreadLine_68 rfl rfl ?_
                refine z_iaload 69 dX0_spreadLine_69 zy_68 ?_
                refine z_aload_n 70 dX0_spreadLine_70 rfl ?_
                refine z_getR 71 (r := 68) dX0_spreadLine_71 fl_X0_9 zy_67 rfl ?_
                refine z_iload_n 74 dX0_spreadLine_74 rfl ?_
                refine z_iaload 75 dX0_spreadLine_75 zy_68 ?_
                refine z_iadd 76 dX0_spreadLine_76 ?_
                refine z_iastore 77 dX0_spreadLine_77 zy_68 ?_
                refine zk_nmM (fun M27 => ?_)
                exact zk_exitw (L' := [some (.ref 67), some (.int p1), some (.int p2), some (.int x2), some (.int x7), some (.int x17)]) (zLe_s (zLe_s (zLe_s (zLe_s (zLe_s (zLe_s zLe_nl)))))) (fun h => h)
              · exact zk_exitw (L' := [some (.ref 67), some (.int p1), some (.int p2), some (.int x2), some (.int x7), some (.int x17)]) (zLe_s (zLe_s (zLe_s (zLe_s (zLe_s (zLe_s zLe_nl)))))) (fun h => h)
    · intro k30 hk30
      refine z_ifnev 16 23 dX0_spreadLine_16 (by decide) ?_ ?_
      · refine z_iconst 19 dX0_spreadLine_19 zci_0 ?_
        refine z_goto 20 28 dX0_spreadLine_20 (by decide) ?_
        exact zk_weak (L' := [some (.ref 67), some (.int p1), some (.int p2), some (.int x2), none, none]) (zLe_s (zLe_s (zLe_s (zLe_s (zLe_n (zLe_n zLe_nl)))))) (hk30 (0 : Int32))
      · refine z_iload_n 23 dX0_spreadLine_23 rfl ?_
        refine z_iload_n 24 dX0_spreadLine_24 rfl ?_
        refine z_iconst 25 dX0_spreadLine_25 zci_m1 ?_
        refine z_ixor 26 dX0_spreadLine_26 ?_
        refine z_iand 27 dX0_spreadLine_27 ?_
        exact zk_weak (L' := [some (.ref 67), some (.int p1), some (.int p2), some (.int x2), none, none]) (zLe_s (zLe_s (zLe_s (zLe_s (zLe_n (zLe_n zLe_nl)))))) (hk30 (p1 &&& (x2 ^^^ (-1 : Int32))))
def fX0_spreadAll (p2 : Int32) (p3 : Int32) (M : zM) : Option zM :=
  lt (if p3 = (-4 : Int32) then ((0 : Int32)) else (((1 : Int32) <<< (p3 &&& 31)))) (fun (x1 : Int32) => sq (fJ7_fill_53178 68 1024 (0 : Int32) M) (fun (M2 : zM) => grd (zix (0 : Int32) 1024) (lt (zwI M2 68 (zn (0 : Int32)) (1 : Int32)) (fun (M3 : zM) => zlp (α := Int32 × zM) (fun rec14 => (fun (u22 : Int32 × zM) => match u22 with | (x12, M13) => if (M13.1 55 0) ≤ x12 then (some M13) else (sq (α := zM) (if x12 = p2 then (some M13) else (sq (fX0_openTo x12 (100000 : Int32) M13) (fun (x20 : Int32) => sq (fX0_spreadLine (x20 &&& (x1 ^^^ (-1 : Int32))) (M13.1 55 1) M13) (fun (M21 : zM) => some M21)))) (fun (M19 : zM) => rec14 ((x12 + (1 : Int32)), M19))))) zFu ((0 : Int32), M3)))))
set_option maxHeartbeats 4000000 in
set_option maxRecDepth 100000 in
theorem tX0_spreadAll (E : zE) (p2 : Int32) (p3 : Int32) (M : zM) : zFV E mX0_spreadAll [.ref 67, .ref 55, .int p2, .int p3] zY0 M (fX0_spreadAll p2 p3 M) := by
  refine zF_of (L := [some (.ref 67), some (.ref 55), some (.int p2), some (.int p3), none, none]) plX0 (Nat.le_of_ble_eq_true rfl) rfl (fun post => ?_)
  unfold fX0_spreadAll
  refine z_iload_n 0 dX0_spreadAll_0 rfl ?_
  refine z_bipush 1 dX0_spreadAll_1 zbp_m4 ?_
  refine zk_ltj (α := Int32) 13 (fun (x1 : Int32) => [some (.ref 67), some (.ref 55), some (.int p2), none, none, none]) (fun (x1 : Int32) => [.int x1]) (fun (x1 : Int32) => (zY0, M)) ?_ ?_
  · intro x1
    refine z_istore 13 (L' := [some (.ref 67), some (.ref 55), some (.int p2), none, some (.int x1), none]) dX0_spreadAll_13 (by decide) rfl ?_
    refine z_aload_n 15 dX0_spreadAll_15 rfl ?_
    refine z_getR 16 (r := 68) dX0_spreadAll_16 fl_X0_9 zy_67 rfl ?_
    refine z_iconst 19 dX0_spreadAll_19 zci_0 ?_
    refine z_cV (zat_S2 20 dX0_spreadAll_20 lk_X0_34 ⟨Nat.le_of_ble_eq_true rfl, Nat.le_of_ble_eq_true rfl⟩ (Nat.le_of_ble_eq_true rfl)) (tJ7_fill_53178 E zY0 68 1024 zy_68 (0 : Int32) M) (fun M2 => ?_)
    refine z_aload_n 23 dX0_spreadAll_23 rfl ?_
    refine z_getR 24 (r := 68) dX0_spreadAll_24 fl_X0_9 zy_67 rfl ?_
    refine z_iconst 27 dX0_spreadAll_27 zci_0 ?_
    refine z_iconst 28 dX0_spreadAll_28 zci_1 ?_
    refine z_iastore 29 dX0_spreadAll_29 zy_68 ?_
    refine zk_nmM (fun M3 => ?_)
    refine z_iconst 30 dX0_spreadAll_30 zci_0 ?_
    refine z_istore 31 (L' := [some (.ref 67), some (.ref 55), some (.int p2), none, some (.int x1), some (.int (0 : Int32))]) dX0_spreadAll_31 (by decide) rfl ?_
    refine zk_weak (L' := [some (.ref 67), some (.ref 55), some (.int p2), none, some (.int x1), some (.int (0 : Int32))]) (zLe_s (zLe_s (zLe_s (zLe_n (zLe_s (zLe_s zLe_nl)))))) (zk_lp (α := Int32 × zM) 33 (fun (u15 : Int32 × zM) => match u15 with | (x12, M13) => [some (.ref 67), some (.ref 55), some (.int p2), none, some (.int x1), some (.int x12)]) (fun (u16 : Int32 × zM) => match u16 with | (x12, M13) => (zY0, M13)) ?_ zFu ((0 : Int32), M3))
    intro rec14 hrec14
    intro u23
    obtain ⟨x12, M13⟩ := u23
    try dsimp only
    refine z_iload 33 dX0_spreadAll_33 rfl ?_
    refine z_aload_n 35 dX0_spreadAll_35 rfl ?_
    refine z_getI 36 dX0_spreadAll_36 fl_X0_40 zy_55 rfl ?_
    refine z_icge 39 75 dX0_spreadAll_39 (by decide) (fun _ => ?_) (fun _ => ?_)
    · exact z_return 75 dX0_spreadAll_75 rfl (fun h => h)
    · refine z_iload 42 dX0_spreadAll_42 rfl ?_
      refine z_iload_n 44 dX0_spreadAll_44 rfl ?_
      refine zk_sqj (α := zM) 69 (fun (M19 : zM) => [some (.ref 67), some (.ref 55), some (.int p2), none, some (.int x1), some (.int x12)]) (fun (M19 : zM) => []) (fun (M19 : zM) => (zY0, M19)) ?_ ?_
      · intro M19
        refine z_iinc 69 (v := (x12 + (1 : Int32))) (L' := [some (.ref 67), some (.ref 55), some (.int p2), none, some (.int x1), some (.int (x12 + (1 : Int32)))]) dX0_spreadAll_69 rfl (zinc zci_1 _) (by decide) rfl ?_
        refine z_goto 72 33 dX0_spreadAll_72 (by decide) ?_
        exact zk_weak (L' := [some (.ref 67), some (.ref 55), some (.int p2), none, some (.int x1), some (.int (x12 + (1 : Int32)))]) (zLe_s (zLe_s (zLe_s (zLe_n (zLe_s (zLe_s zLe_nl)))))) (hrec14 ((x12 + (1 : Int32)), M19))
      · refine z_iceq 45 69 dX0_spreadAll_45 (by decide) (fun _ => ?_) (fun _ => ?_)
        · exact zk_exitw (L' := [some (.ref 67), some (.ref 55), some (.int p2), none, some (.int x1), some (.int x12)]) (zLe_s (zLe_s (zLe_s (zLe_n (zLe_s (zLe_s zLe_nl)))))) (fun h => h)
        · refine z_aload_n 48 dX0_spreadAll_48 rfl ?_
          refine z_aload_n 49 dX0_spreadAll_49 rfl ?_
          refine z_iload 50 dX0_spreadAll_50 rfl ?_
          refine z_ldc 52 dX0_spreadAll_52 cw_X0_43 ?_
          refine z_ci (zat_S3 54 dX0_spreadAll_54 lk_X0_44 ⟨Nat.le_of_ble_eq_true rfl, Nat.le_of_ble_eq_true rfl⟩ (Nat.le_of_ble_eq_true rfl)) (tX0_openTo E x12 (100000 : Int32) M13) (fun x20 => ?_)
          refine z_iload 57 dX0_spreadAll_57 rfl ?_
          refine z_iconst 59 dX0_spreadAll_59 zci_m1 ?_
          refine z_ixor 60 dX0_spreadAll_60 ?_
          refine z_iand 61 dX0_spreadAll_61 ?_
          refine z_aload_n 62 dX0_spreadAll_62 rfl ?_
          refine z_getI 63 dX0_spreadAll_63 fl_X0_22 zy_55 rfl ?_
          refine z_cV (zat_V2 66 dX0_spreadAll_66 lk_X0_48 zy_67 rfl rfl ⟨Nat.le_of_ble_eq_true rfl, Nat.le_of_ble_eq_true rfl⟩ (Nat.le_of_ble_eq_true rfl)) (tX0_spreadLine E (x20 &&& (x1 ^^^ (-1 : Int32))) (M13.1 55 1) M13) (fun M21 => ?_)
          exact zk_exitw (L' := [some (.ref 67), some (.ref 55), some (.int p2), none, some (.int x1), some (.int x12)]) (zLe_s (zLe_s (zLe_s (zLe_n (zLe_s (zLe_s zLe_nl)))))) (fun h => h)
  · intro k24 hk24
    refine z_icnev 3 10 dX0_spreadAll_3 (by decide) ?_ ?_
    · refine z_iconst 6 dX0_spreadAll_6 zci_0 ?_
      refine z_goto 7 13 dX0_spreadAll_7 (by decide) ?_
      exact zk_weak (L' := [some (.ref 67), some (.ref 55), some (.int p2), none, none, none]) (zLe_s (zLe_s (zLe_s (zLe_n (zLe_n (zLe_n zLe_nl)))))) (hk24 (0 : Int32))
    · refine z_iconst 10 dX0_spreadAll_10 zci_1 ?_
      refine z_iload_n 11 dX0_spreadAll_11 rfl ?_
      refine z_ishl 12 dX0_spreadAll_12 ?_
      exact zk_weak (L' := [some (.ref 67), some (.ref 55), some (.int p2), none, none, none]) (zLe_s (zLe_s (zLe_s (zLe_n (zLe_n (zLe_n zLe_nl)))))) (hk24 ((1 : Int32) <<< (p3 &&& 31)))
def fX0_countAll (p2 : Int32) (p3 : Int32) (M : zM) : Option (Int64 × zM) :=
  sq (fX0_spreadAll p2 p3 M) (fun (M1 : zM) => zlp (α := Int64 × Int32) (fun rec10 => (fun (u14 : Int64 × Int32) => match u14 with | (x8, x9) => if ((1 : Int32) <<< ((M1.1 55 1) &&& 31)) ≤ x9 then (some (x8, M1)) else (grd (zix x9 1024) (lt ((x8 + ((M1.1 68 (zn x9))).toInt64)) (fun (x13 : Int64) => rec10 (x13, (x9 + (1 : Int32)))))))) zFu ((0 : Int64), (0 : Int32)))
set_option maxHeartbeats 4000000 in
set_option maxRecDepth 100000 in
theorem tX0_countAll (E : zE) (p2 : Int32) (p3 : Int32) (M : zM) : zFJ E mX0_countAll [.ref 67, .ref 55, .int p2, .int p3] zY0 M (fX0_countAll p2 p3 M) := by
  refine zF_of (L := [some (.ref 67), some (.ref 55), some (.int p2), some (.int p3), none, none, none]) plX0 (Nat.le_of_ble_eq_true rfl) rfl (fun post => ?_)
  unfold fX0_countAll
  refine z_aload_n 0 dX0_countAll_0 rfl ?_
  refine z_aload_n 1 dX0_countAll_1 rfl ?_
  refine z_iload_n 2 dX0_countAll_2 rfl ?_
  refine z_iload_n 3 dX0_countAll_3 rfl ?_
  refine z_cV (zat_V3 4 dX0_countAll_4 lk_X0_18 zy_67 rfl rfl ⟨Nat.le_of_ble_eq_true rfl, Nat.le_of_ble_eq_true rfl⟩ (Nat.le_of_ble_eq_true rfl)) (tX0_spreadAll E p2 p3 M) (fun M1 => ?_)
  refine z_lconst 7 dX0_countAll_7 zlc_0 ?_
  refine z_lstore 8 (L' := [some (.ref 67), some (.ref 55), some (.int p2), some (.int p3), some (.long (0 : Int64)), none, none]) dX0_countAll_8 (by decide) rfl ?_
  refine z_iconst 10 dX0_countAll_10 zci_0 ?_
  refine z_istore 11 (L' := [some (.ref 67), some (.ref 55), some (.int p2), some (.int p3), some (.long (0 : Int64)), none, some (.int (0 : Int32))]) dX0_countAll_11 (by decide) rfl ?_
  refine zk_weak (L' := [some (.ref 67), some (.ref 55), none, none, some (.long (0 : Int64)), none, some (.int (0 : Int32))]) (zLe_s (zLe_s (zLe_n (zLe_n (zLe_s (zLe_n (zLe_s zLe_nl))))))) (zk_lp (α := Int64 × Int32) 13 (fun (u11 : Int64 × Int32) => match u11 with | (x8, x9) => [some (.ref 67), some (.ref 55), none, none, some (.long x8), none, some (.int x9)]) (fun (u12 : Int64 × Int32) => match u12 with | (x8, x9) => (zY0, M1)) ?_ zFu ((0 : Int64), (0 : Int32)))
  intro rec10 hrec10
  intro u15
  obtain ⟨x8, x9⟩ := u15
  try dsimp only
  refine z_iload 13 dX0_countAll_13 rfl ?_
  refine z_iconst 15 dX0_countAll_15 zci_1 ?_
  refine z_aload_n 16 dX0_countAll_16 rfl ?_
  refine z_getI 17 dX0_countAll_17 fl_X0_22 zy_55 rfl ?_
  refine z_ishl 20 dX0_countAll_20 ?_
  refine z_icge 21 43 dX0_countAll_21 (by decide) (fun _ => ?_) (fun _ => ?_)
  · refine z_lload 43 dX0_countAll_43 rfl ?_
    exact z_lreturn 45 dX0_countAll_45 rfl (fun h => h)
  · refine z_lload 24 dX0_countAll_24 rfl ?_
    refine z_aload_n 26 dX0_countAll_26 rfl ?_
    refine z_getR 27 (r := 68) dX0_countAll_27 fl_X0_9 zy_67 rfl ?_
    refine z_iload 30 dX0_countAll_30 rfl ?_
    refine z_iaload 32 dX0_countAll_32 zy_68 ?_
    refine z_i2l 33 dX0_countAll_33 ?_
    refine z_ladd 34 dX0_countAll_34 ?_
    refine zk_nmL (fun x13 => ?_)
    refine z_lstore 35 (L' := [some (.ref 67), some (.ref 55), none, none, some (.long x13), none, some (.int x9)]) dX0_countAll_35 (by decide) rfl ?_
    refine z_iinc 37 (v := (x9 + (1 : Int32))) (L' := [some (.ref 67), some (.ref 55), none, none, some (.long x13), none, some (.int (x9 + (1 : Int32)))]) dX0_countAll_37 rfl (zinc zci_1 _) (by decide) rfl ?_
    refine z_goto 40 13 dX0_countAll_40 (by decide) ?_
    exact zk_weak (L' := [some (.ref 67), some (.ref 55), none, none, some (.long x13), none, some (.int (x9 + (1 : Int32)))]) (zLe_s (zLe_s (zLe_n (zLe_n (zLe_s (zLe_n (zLe_s zLe_nl))))))) (hrec10 (x13, (x9 + (1 : Int32))))
def fJ6_bitCount_0f7a4 (p1 : Int32) : Int32 :=
  ltn ((p1 - ((zush p1 (1 : Int32)) &&& (1431655765 : Int32)))) (fun (x1 : Int32) => ltn (((x1 &&& (858993459 : Int32)) + ((zush x1 (2 : Int32)) &&& (858993459 : Int32)))) (fun (x2 : Int32) => ltn (((x2 + (zush x2 (4 : Int32))) &&& (252645135 : Int32))) (fun (x3 : Int32) => ltn ((x3 + (zush x3 (8 : Int32)))) (fun (x4 : Int32) => ltn ((x4 + (zush x4 (16 : Int32)))) (fun (x5 : Int32) => (x5 &&& (63 : Int32)))))))
set_option maxHeartbeats 4000000 in
set_option maxRecDepth 100000 in
theorem tJ6_bitCount_0f7a4 (E : zE) (Y : zY) (p1 : Int32) (M : zM) : zFi E mJ6_bitCount_0f7a4 [.int p1] Y M (some (fJ6_bitCount_0f7a4 p1)) := by
  refine zF_of (L := [some (.int p1)]) plJ6 (Nat.le_of_ble_eq_true rfl) rfl (fun post => ?_)
  show zK E _ post 0 _ _ _ (lt (fJ6_bitCount_0f7a4 p1) some) _
  unfold fJ6_bitCount_0f7a4
  refine z_iload_n 0 dJ6_bitCount_0f7a4_0 rfl ?_
  refine z_iload_n 1 dJ6_bitCount_0f7a4_1 rfl ?_
  refine z_iconst 2 dJ6_bitCount_0f7a4_2 zci_1 ?_
  refine z_iushr 3 dJ6_bitCount_0f7a4_3 ?_
  refine z_ldcw 4 dJ6_bitCount_0f7a4_4 cw_J6_265 ?_
  refine z_iand 7 dJ6_bitCount_0f7a4_7 ?_
  refine z_isub 8 dJ6_bitCount_0f7a4_8 ?_
  refine zk_nvI (fun x1 => ?_)
  refine z_istore_n 9 (L' := [some (.int x1)]) dJ6_bitCount_0f7a4_9 (by decide) rfl ?_
  refine z_iload_n 10 dJ6_bitCount_0f7a4_10 rfl ?_
  refine z_ldcw 11 dJ6_bitCount_0f7a4_11 cw_J6_266 ?_
  refine z_iand 14 dJ6_bitCount_0f7a4_14 ?_
  refine z_iload_n 15 dJ6_bitCount_0f7a4_15 rfl ?_
  refine z_iconst 16 dJ6_bitCount_0f7a4_16 zci_2 ?_
  refine z_iushr 17 dJ6_bitCount_0f7a4_17 ?_
  refine z_ldcw 18 dJ6_bitCount_0f7a4_18 cw_J6_266 ?_
  refine z_iand 21 dJ6_bitCount_0f7a4_21 ?_
  refine z_iadd 22 dJ6_bitCount_0f7a4_22 ?_
  refine zk_nvI (fun x2 => ?_)
  refine z_istore_n 23 (L' := [some (.int x2)]) dJ6_bitCount_0f7a4_23 (by decide) rfl ?_
  refine z_iload_n 24 dJ6_bitCount_0f7a4_24 rfl ?_
  refine z_iload_n 25 dJ6_bitCount_0f7a4_25 rfl ?_
  refine z_iconst 26 dJ6_bitCount_0f7a4_26 zci_4 ?_
  refine z_iushr 27 dJ6_bitCount_0f7a4_27 ?_
  refine z_iadd 28 dJ6_bitCount_0f7a4_28 ?_
  refine z_ldcw 29 dJ6_bitCount_0f7a4_29 cw_J6_267 ?_
  refine z_iand 32 dJ6_bitCount_0f7a4_32 ?_
  refine zk_nvI (fun x3 => ?_)
  refine z_istore_n 33 (L' := [some (.int x3)]) dJ6_bitCount_0f7a4_33 (by decide) rfl ?_
  refine z_iload_n 34 dJ6_bitCount_0f7a4_34 rfl ?_
  refine z_iload_n 35 dJ6_bitCount_0f7a4_35 rfl ?_
  refine z_bipush 36 dJ6_bitCount_0f7a4_36 zbp_8 ?_
  refine z_iushr 38 dJ6_bitCount_0f7a4_38 ?_
  refine z_iadd 39 dJ6_bitCount_0f7a4_39 ?_
  refine zk_nvI (fun x4 => ?_)
  refine z_istore_n 40 (L' := [some (.int x4)]) dJ6_bitCount_0f7a4_40 (by decide) rfl ?_
  refine z_iload_n 41 dJ6_bitCount_0f7a4_41 rfl ?_
  refine z_iload_n 42 dJ6_bitCount_0f7a4_42 rfl ?_
  refine z_bipush 43 dJ6_bitCount_0f7a4_43 zbp_16 ?_
  refine z_iushr 45 dJ6_bitCount_0f7a4_45 ?_
  refine z_iadd 46 dJ6_bitCount_0f7a4_46 ?_
  refine zk_nvI (fun x5 => ?_)
  refine z_istore_n 47 (L' := [some (.int x5)]) dJ6_bitCount_0f7a4_47 (by decide) rfl ?_
  refine z_iload_n 48 dJ6_bitCount_0f7a4_48 rfl ?_
  refine z_bipush 49 dJ6_bitCount_0f7a4_49 zbp_63 ?_
  refine z_iand 51 dJ6_bitCount_0f7a4_51 ?_
  exact z_ireturn 52 dJ6_bitCount_0f7a4_52 rfl rfl (fun h => h)
def fX0_countOfSize (p2 : Int32) (M : zM) : Option Int64 :=
  zlp (α := Int64 × Int32) (fun rec11 => (fun (u17 : Int64 × Int32) => match u17 with | (x9, x10) => if ((1 : Int32) <<< ((M.1 55 1) &&& 31)) ≤ x10 then (some x9) else (lt (fJ6_bitCount_0f7a4 x10) (fun (x14 : Int32) => sq (α := Int64) (if x14 = p2 then (grd (zix x10 1024) (some ((M.1 68 (zn x10))).toInt64)) else (some (0 : Int64))) (fun (x15 : Int64) => lt ((x9 + x15)) (fun (x16 : Int64) => rec11 (x16, (x10 + (1 : Int32))))))))) zFu ((0 : Int64), (0 : Int32))
set_option maxHeartbeats 4000000 in
set_option maxRecDepth 100000 in
theorem tX0_countOfSize (E : zE) (p2 : Int32) (M : zM) : zFj E mX0_countOfSize [.ref 67, .ref 55, .int p2] zY0 M (fX0_countOfSize p2 M) := by
  refine zF_of (L := [some (.ref 67), some (.ref 55), some (.int p2), none, none, none]) plX0 (Nat.le_of_ble_eq_true rfl) rfl (fun post => ?_)
  unfold fX0_countOfSize
  refine z_lconst 0 dX0_countOfSize_0 zlc_0 ?_
  refine z_lstore_n 1 (L' := [some (.ref 67), some (.ref 55), some (.int p2), some (.long (0 : Int64)), none, none]) dX0_countOfSize_1 (by decide) rfl ?_
  refine z_iconst 2 dX0_countOfSize_2 zci_0 ?_
  refine z_istore 3 (L' := [some (.ref 67), some (.ref 55), some (.int p2), some (.long (0 : Int64)), none, some (.int (0 : Int32))]) dX0_countOfSize_3 (by decide) rfl ?_
  refine zk_weak (L' := [some (.ref 67), some (.ref 55), some (.int p2), some (.long (0 : Int64)), none, some (.int (0 : Int32))]) (zLe_s (zLe_s (zLe_s (zLe_s (zLe_n (zLe_s zLe_nl)))))) (zk_lp (α := Int64 × Int32) 5 (fun (u12 : Int64 × Int32) => match u12 with | (x9, x10) => [some (.ref 67), some (.ref 55), some (.int p2), some (.long x9), none, some (.int x10)]) (fun (u13 : Int64 × Int32) => match u13 with | (x9, x10) => (zY0, M)) ?_ zFu ((0 : Int64), (0 : Int32)))
  intro rec11 hrec11
  intro u18
  obtain ⟨x9, x10⟩ := u18
  try dsimp only
  refine z_iload 5 dX0_countOfSize_5 rfl ?_
  refine z_iconst 7 dX0_countOfSize_7 zci_1 ?_
  refine z_aload_n 8 dX0_countOfSize_8 rfl ?_
  refine z_getI 9 dX0_countOfSize_9 fl_X0_22 zy_55 rfl ?_
  refine z_ishl 12 dX0_countOfSize_12 ?_
  refine z_icge 13 46 dX0_countOfSize_13 (by decide) (fun _ => ?_) (fun _ => ?_)
  · refine z_lload_n 46 dX0_countOfSize_46 rfl ?_
    exact z_lreturn 47 dX0_countOfSize_47 rfl (fun h => h)
  · refine z_lload_n 16 dX0_countOfSize_16 rfl ?_
    refine z_iload 17 dX0_countOfSize_17 rfl ?_
    refine z_cti (zat_S1 19 dX0_countOfSize_19 lk_X0_28 ⟨Nat.le_of_ble_eq_true rfl, Nat.le_of_ble_eq_true rfl⟩ (Nat.le_of_ble_eq_true rfl)) (tJ6_bitCount_0f7a4 E zY0 x10 M) (fun x14 => ?_)
    refine z_iload_n 22 dX0_countOfSize_22 rfl ?_
    refine zk_sqj (α := Int64) 38 (fun (x15 : Int64) => [some (.ref 67), some (.ref 55), some (.int p2), none, none, some (.int x10)]) (fun (x15 : Int64) => [.long x15, .long x9]) (fun (x15 : Int64) => (zY0, M)) ?_ ?_
    · intro x15
      refine z_ladd 38 dX0_countOfSize_38 ?_
      refine zk_nmL (fun x16 => ?_)
      refine z_lstore_n 39 (L' := [some (.ref 67), some (.ref 55), some (.int p2), some (.long x16), none, some (.int x10)]) dX0_countOfSize_39 (by decide) rfl ?_
      refine z_iinc 40 (v := (x10 + (1 : Int32))) (L' := [some (.ref 67), some (.ref 55), some (.int p2), some (.long x16), none, some (.int (x10 + (1 : Int32)))]) dX0_countOfSize_40 rfl (zinc zci_1 _) (by decide) rfl ?_
      refine z_goto 43 5 dX0_countOfSize_43 (by decide) ?_
      exact zk_weak (L' := [some (.ref 67), some (.ref 55), some (.int p2), some (.long x16), none, some (.int (x10 + (1 : Int32)))]) (zLe_s (zLe_s (zLe_s (zLe_s (zLe_n (zLe_s zLe_nl)))))) (hrec11 (x16, (x10 + (1 : Int32))))
    · refine z_icne 23 37 dX0_countOfSize_23 (by decide) (fun _ => ?_) (fun _ => ?_)
      · refine z_aload_n 26 dX0_countOfSize_26 rfl ?_
        refine z_getR 27 (r := 68) dX0_countOfSize_27 fl_X0_9 zy_67 rfl ?_
        refine z_iload 30 dX0_countOfSize_30 rfl ?_
        refine z_iaload 32 dX0_countOfSize_32 zy_68 ?_
        refine z_i2l 33 dX0_countOfSize_33 ?_
        refine z_goto 34 38 dX0_countOfSize_34 (by decide) ?_
        exact zk_exitw (L' := [some (.ref 67), some (.ref 55), some (.int p2), none, none, some (.int x10)]) (zLe_s (zLe_s (zLe_s (zLe_n (zLe_n (zLe_s zLe_nl)))))) (fun h => h)
      · refine z_lconst 37 dX0_countOfSize_37 zlc_0 ?_
        exact zk_exitw (L' := [some (.ref 67), some (.ref 55), some (.int p2), none, none, some (.int x10)]) (zLe_s (zLe_s (zLe_s (zLe_n (zLe_n (zLe_s zLe_nl)))))) (fun h => h)
def fX0_addBest (p1 : Int32) (p2 : Int32) (p3 : Int32) (M : zM) : Option zM :=
  grd (zix p1 1024) (sq (α := zM) (jn (α := Unit) (fun (_ : Unit) => grd (zix p1 1024) (lt (zwI M 69 (zn p1) p2) (fun (M8 : zM) => grd (zix p1 1024) (lt (zwI M8 68 (zn p1) (0 : Int32)) (fun (M9 : zM) => some M9))))) (fun k10 => if (M.1 68 (zn p1)) = 0 then (k10 ()) else (grd (zix p1 1024) (if (M.1 69 (zn p1)) ≤ p2 then (some M) else (k10 ()))))) (fun (M4 : zM) => grd (zix p1 1024) (grd (zix p1 1024) (lt (if p2 = (M4.1 69 (zn p1)) then (p3) else ((0 : Int32))) (fun (x5 : Int32) => grd (zix p1 1024) (lt (zwI M4 68 (zn p1) ((M4.1 68 (zn p1)) + x5)) (fun (M6 : zM) => some M6)))))))
set_option maxHeartbeats 4000000 in
set_option maxRecDepth 100000 in
theorem tX0_addBest (E : zE) (p1 : Int32) (p2 : Int32) (p3 : Int32) (M : zM) : zFV E mX0_addBest [.ref 67, .int p1, .int p2, .int p3] zY0 M (fX0_addBest p1 p2 p3 M) := by
  refine zF_of (L := [some (.ref 67), some (.int p1), some (.int p2), some (.int p3)]) plX0 (Nat.le_of_ble_eq_true rfl) rfl (fun post => ?_)
  unfold fX0_addBest
  refine z_aload_n 0 dX0_addBest_0 rfl ?_
  refine z_getR 1 (r := 68) dX0_addBest_1 fl_X0_9 zy_67 rfl ?_
  refine z_iload_n 4 dX0_addBest_4 rfl ?_
  refine z_iaload 5 dX0_addBest_5 zy_68 ?_
  refine zk_sqj (α := zM) 33 (fun (M4 : zM) => [some (.ref 67), some (.int p1), some (.int p2), some (.int p3)]) (fun (M4 : zM) => []) (fun (M4 : zM) => (zY0, M4)) ?_ ?_
  · intro M4
    refine z_aload_n 33 dX0_addBest_33 rfl ?_
    refine z_getR 34 (r := 68) dX0_addBest_34 fl_X0_9 zy_67 rfl ?_
    refine z_iload_n 37 dX0_addBest_37 rfl ?_
    refine z_dup2 38 dX0_addBest_38 rfl rfl ?_
    refine z_iaload 39 dX0_addBest_39 zy_68 ?_
    refine z_iload_n 40 dX0_addBest_40 rfl ?_
    refine z_aload_n 41 dX0_addBest_41 rfl ?_
    refine z_getR 42 (r := 69) dX0_addBest_42 fl_X0_15 zy_67 rfl ?_
    refine z_iload_n 45 dX0_addBest_45 rfl ?_
    refine z_iaload 46 dX0_addBest_46 zy_69 ?_
    refine zk_ltj (α := Int32) 55 (fun (x5 : Int32) => [none, none, none, none]) (fun (x5 : Int32) => [.int x5, .int (M4.1 68 (zn p1)), .int p1, .ref 68]) (fun (x5 : Int32) => (zY0, M4)) ?_ ?_
    · intro x5
      refine z_iadd 55 dX0_addBest_55 ?_
      refine z_iastore 56 dX0_addBest_56 zy_68 ?_
      refine zk_nmM (fun M6 => ?_)
      exact z_return 57 dX0_addBest_57 rfl (fun h => h)
    · intro k7 hk7
      refine z_icnev 47 54 dX0_addBest_47 (by decide) ?_ ?_
      · refine z_iload_n 50 dX0_addBest_50 rfl ?_
        refine z_goto 51 55 dX0_addBest_51 (by decide) ?_
        exact zk_weak (L' := [none, none, none, none]) (zLe_n (zLe_n (zLe_n (zLe_n zLe_nl)))) (hk7 p3)
      · refine z_iconst 54 dX0_addBest_54 zci_0 ?_
        exact zk_weak (L' := [none, none, none, none]) (zLe_n (zLe_n (zLe_n (zLe_n zLe_nl)))) (hk7 (0 : Int32))
  · refine zk_jn (α := Unit) 19 (fun (_ : Unit) => [some (.ref 67), some (.int p1), some (.int p2), some (.int p3)]) (fun (_ : Unit) => []) (fun (_ : Unit) => (zY0, M)) ?_ ?_
    · intro _
      refine z_aload_n 19 dX0_addBest_19 rfl ?_
      refine z_getR 20 (r := 69) dX0_addBest_20 fl_X0_15 zy_67 rfl ?_
      refine z_iload_n 23 dX0_addBest_23 rfl ?_
      refine z_iload_n 24 dX0_addBest_24 rfl ?_
      refine z_iastore 25 dX0_addBest_25 zy_69 ?_
      refine zk_nmM (fun M8 => ?_)
      refine z_aload_n 26 dX0_addBest_26 rfl ?_
      refine z_getR 27 (r := 68) dX0_addBest_27 fl_X0_9 zy_67 rfl ?_
      refine z_iload_n 30 dX0_addBest_30 rfl ?_
      refine z_iconst 31 dX0_addBest_31 zci_0 ?_
      refine z_iastore 32 dX0_addBest_32 zy_68 ?_
      refine zk_nmM (fun M9 => ?_)
      exact zk_exitw (L' := [some (.ref 67), some (.int p1), some (.int p2), some (.int p3)]) (zLe_s (zLe_s (zLe_s (zLe_s zLe_nl)))) (fun h => h)
    · intro k10 hk10
      refine z_ifeq 6 19 dX0_addBest_6 (by decide) (fun _ => ?_) (fun _ => ?_)
      · exact zk_weak (L' := [some (.ref 67), some (.int p1), some (.int p2), some (.int p3)]) (zLe_s (zLe_s (zLe_s (zLe_s zLe_nl)))) (hk10 ())
      · refine z_iload_n 9 dX0_addBest_9 rfl ?_
        refine z_aload_n 10 dX0_addBest_10 rfl ?_
        refine z_getR 11 (r := 69) dX0_addBest_11 fl_X0_15 zy_67 rfl ?_
        refine z_iload_n 14 dX0_addBest_14 rfl ?_
        refine z_iaload 15 dX0_addBest_15 zy_69 ?_
        refine z_icge 16 33 dX0_addBest_16 (by decide) (fun _ => ?_) (fun _ => ?_)
        · exact zk_exitw (L' := [some (.ref 67), some (.int p1), some (.int p2), some (.int p3)]) (zLe_s (zLe_s (zLe_s (zLe_s zLe_nl)))) (fun h => h)
        · exact zk_weak (L' := [some (.ref 67), some (.int p1), some (.int p2), some (.int p3)]) (zLe_s (zLe_s (zLe_s (zLe_s zLe_nl)))) (hk10 ())
def fX0_spreadBest (p2 : Int32) (M : zM) : Option zM :=
  sq (fX0_openTo p2 (0 : Int32) M) (fun (x1 : Int32) => lt ((((1 : Int32) <<< ((M.1 55 1) &&& 31)) - (1 : Int32))) (fun (x2 : Int32) => zlp (α := Int32 × zM) (fun rec5 => (fun (u32 : Int32 × zM) => match u32 with | (x3, M4) => if x3 < 0 then (some M4) else (grd (zix x3 1024) (lt (if (M4.1 68 (zn x3)) = 0 then ((0 : Int32)) else ((x1 &&& (x3 ^^^ (-1 : Int32))))) (fun (x8 : Int32) => sq (α := zM) (zlp (α := Int32 × zM) (β := zM) (fun rec20 => (fun (u29 : Int32 × zM) => match u29 with | (x18, M19) => if (M19.1 55 1) ≤ x18 then (some M19) else (if (x8 >>> (x18 &&& 31)) = 0 then (some M19) else (sq (α := zM) (if ((x8 >>> (x18 &&& 31)) &&& (1 : Int32)) = (1 : Int32) then (grd (zix x3 1024) (sq (fX5_gainOf p2 x18 M19) (fun (x27 : Int32) => grd (zix x3 1024) (sq (fX0_addBest (x3 ||| ((1 : Int32) <<< (x18 &&& 31))) ((M19.1 69 (zn x3)) + x27) (M19.1 68 (zn x3)) M19) (fun (M28 : zM) => some M28))))) else (some M19)) (fun (M26 : zM) => rec20 ((x18 + (1 : Int32)), M26)))))) zFu ((0 : Int32), M4)) (fun (M23 : zM) => rec5 ((x3 + (-1 : Int32)), M23))))))) zFu (x2, M)))
set_option maxHeartbeats 4000000 in
set_option maxRecDepth 100000 in
theorem tX0_spreadBest (E : zE) (p2 : Int32) (M : zM) : zFV E mX0_spreadBest [.ref 67, .ref 55, .int p2] zY0 M (fX0_spreadBest p2 M) := by
  refine zF_of (L := [some (.ref 67), some (.ref 55), some (.int p2), none, none, none, none]) plX0 (Nat.le_of_ble_eq_true rfl) rfl (fun post => ?_)
  unfold fX0_spreadBest
  refine z_aload_n 0 dX0_spreadBest_0 rfl ?_
  refine z_iload_n 1 dX0_spreadBest_1 rfl ?_
  refine z_iconst 2 dX0_spreadBest_2 zci_0 ?_
  refine z_ci (zat_S3 3 dX0_spreadBest_3 lk_X0_44 ⟨Nat.le_of_ble_eq_true rfl, Nat.le_of_ble_eq_true rfl⟩ (Nat.le_of_ble_eq_true rfl)) (tX0_openTo E p2 (0 : Int32) M) (fun x1 => ?_)
  refine z_istore_n 6 (L' := [some (.ref 67), some (.ref 55), some (.int p2), some (.int x1), none, none, none]) dX0_spreadBest_6 (by decide) rfl ?_
  refine z_iconst 7 dX0_spreadBest_7 zci_1 ?_
  refine z_aload_n 8 dX0_spreadBest_8 rfl ?_
  refine z_getI 9 dX0_spreadBest_9 fl_X0_22 zy_55 rfl ?_
  refine z_ishl 12 dX0_spreadBest_12 ?_
  refine z_iconst 13 dX0_spreadBest_13 zci_1 ?_
  refine z_isub 14 dX0_spreadBest_14 ?_
  refine zk_nmI (fun x2 => ?_)
  refine z_istore 15 (L' := [some (.ref 67), some (.ref 55), some (.int p2), some (.int x1), some (.int x2), none, none]) dX0_spreadBest_15 (by decide) rfl ?_
  refine zk_weak (L' := [some (.ref 67), some (.ref 55), some (.int p2), some (.int x1), some (.int x2), none, none]) (zLe_s (zLe_s (zLe_s (zLe_s (zLe_s (zLe_n (zLe_n zLe_nl))))))) (zk_lp (α := Int32 × zM) 17 (fun (u6 : Int32 × zM) => match u6 with | (x3, M4) => [some (.ref 67), some (.ref 55), some (.int p2), some (.int x1), some (.int x3), none, none]) (fun (u7 : Int32 × zM) => match u7 with | (x3, M4) => (zY0, M4)) ?_ zFu (x2, M))
  intro rec5 hrec5
  intro u33
  obtain ⟨x3, M4⟩ := u33
  try dsimp only
  refine z_iload 17 dX0_spreadBest_17 rfl ?_
  refine z_iflt 19 120 dX0_spreadBest_19 (by decide) (fun _ => ?_) (fun _ => ?_)
  · exact z_return 120 dX0_spreadBest_120 rfl (fun h => h)
  · refine z_aload_n 22 dX0_spreadBest_22 rfl ?_
    refine z_getR 23 (r := 68) dX0_spreadBest_23 fl_X0_9 zy_67 rfl ?_
    refine z_iload 26 dX0_spreadBest_26 rfl ?_
    refine z_iaload 28 dX0_spreadBest_28 zy_68 ?_
    refine zk_ltj (α := Int32) 42 (fun (x8 : Int32) => [some (.ref 67), some (.ref 55), some (.int p2), some (.int x1), some (.int x3), none, none]) (fun (x8 : Int32) => [.int x8]) (fun (x8 : Int32) => (zY0, M4)) ?_ ?_
    · intro x8
      refine z_istore 42 (L' := [some (.ref 67), some (.ref 55), some (.int p2), some (.int x1), some (.int x3), some (.int x8), none]) dX0_spreadBest_42 (by decide) rfl ?_
      refine z_iconst 44 dX0_spreadBest_44 zci_0 ?_
      refine z_istore 45 (L' := [some (.ref 67), some (.ref 55), some (.int p2), some (.int x1), some (.int x3), some (.int x8), some (.int (0 : Int32))]) dX0_spreadBest_45 (by decide) rfl ?_
      refine zk_sqj (α := zM) 114 (fun (M23 : zM) => [some (.ref 67), some (.ref 55), some (.int p2), some (.int x1), some (.int x3), none, none]) (fun (M23 : zM) => []) (fun (M23 : zM) => (zY0, M23)) ?_ ?_
      · intro M23
        refine z_iinc 114 (v := (x3 + (-1 : Int32))) (L' := [some (.ref 67), some (.ref 55), some (.int p2), some (.int x1), some (.int (x3 + (-1 : Int32))), none, none]) dX0_spreadBest_114 rfl (zinc zci_m1 _) (by decide) rfl ?_
        refine z_goto 117 17 dX0_spreadBest_117 (by decide) ?_
        exact zk_weak (L' := [some (.ref 67), some (.ref 55), some (.int p2), some (.int x1), some (.int (x3 + (-1 : Int32))), none, none]) (zLe_s (zLe_s (zLe_s (zLe_s (zLe_s (zLe_n (zLe_n zLe_nl))))))) (hrec5 ((x3 + (-1 : Int32)), M23))
      · refine zk_weak (L' := [some (.ref 67), some (.ref 55), some (.int p2), some (.int x1), some (.int x3), some (.int x8), some (.int (0 : Int32))]) (zLe_s (zLe_s (zLe_s (zLe_s (zLe_s (zLe_s (zLe_s zLe_nl))))))) (zk_lp (α := Int32 × zM) 47 (fun (u21 : Int32 × zM) => match u21 with | (x18, M19) => [some (.ref 67), some (.ref 55), some (.int p2), some (.int x1), some (.int x3), some (.int x8), some (.int x18)]) (fun (u22 : Int32 × zM) => match u22 with | (x18, M19) => (zY0, M19)) ?_ zFu ((0 : Int32), M4))
        intro rec20 hrec20
        intro u30
        obtain ⟨x18, M19⟩ := u30
        try dsimp only
        refine z_iload 47 dX0_spreadBest_47 rfl ?_
        refine z_aload_n 49 dX0_spreadBest_49 rfl ?_
        refine z_getI 50 dX0_spreadBest_50 fl_X0_22 zy_55 rfl ?_
        refine z_icge 53 114 dX0_spreadBest_53 (by decide) (fun _ => ?_) (fun _ => ?_)
        · exact zk_exitw (L' := [some (.ref 67), some (.ref 55), some (.int p2), some (.int x1), some (.int x3), none, none]) (zLe_s (zLe_s (zLe_s (zLe_s (zLe_s (zLe_n (zLe_n zLe_nl))))))) (fun h => h)
        · refine z_iload 56 dX0_spreadBest_56 rfl ?_
          refine z_iload 58 dX0_spreadBest_58 rfl ?_
          refine z_ishr 60 dX0_spreadBest_60 ?_
          refine z_ifeq 61 114 dX0_spreadBest_61 (by decide) (fun _ => ?_) (fun _ => ?_)
          · exact zk_exitw (L' := [some (.ref 67), some (.ref 55), some (.int p2), some (.int x1), some (.int x3), none, none]) (zLe_s (zLe_s (zLe_s (zLe_s (zLe_s (zLe_n (zLe_n zLe_nl))))))) (fun h => h)
          · refine z_iload 64 dX0_spreadBest_64 rfl ?_
            refine z_iload 66 dX0_spreadBest_66 rfl ?_
            refine z_ishr 68 dX0_spreadBest_68 ?_
            refine z_iconst 69 dX0_spreadBest_69 zci_1 ?_
            refine z_iand 70 dX0_spreadBest_70 ?_
            refine z_iconst 71 dX0_spreadBest_71 zci_1 ?_
            refine zk_sqj (α := zM) 108 (fun (M26 : zM) => [some (.ref 67), some (.ref 55), some (.int p2), some (.int x1), some (.int x3), some (.int x8), some (.int x18)]) (fun (M26 : zM) => []) (fun (M26 : zM) => (zY0, M26)) ?_ ?_
            · intro M26
              refine z_iinc 108 (v := (x18 + (1 : Int32))) (L' := [some (.ref 67), some (.ref 55), some (.int p2), some (.int x1), some (.int x3), some (.int x8), some (.int (x18 + (1 : Int32)))]) dX0_spreadBest_108 rfl (zinc zci_1 _) (by decide) rfl ?_
              refine z_goto 111 47 dX0_spreadBest_111 (by decide) ?_
              exact zk_weak (L' := [some (.ref 67), some (.ref 55), some (.int p2), some (.int x1), some (.int x3), some (.int x8), some (.int (x18 + (1 : Int32)))]) (zLe_s (zLe_s (zLe_s (zLe_s (zLe_s (zLe_s (zLe_s zLe_nl))))))) (hrec20 ((x18 + (1 : Int32)), M26))
            · refine z_icne 72 108 dX0_spreadBest_72 (by decide) (fun _ => ?_) (fun _ => ?_)
              · refine z_aload_n 75 dX0_spreadBest_75 rfl ?_
                refine z_iload 76 dX0_spreadBest_76 rfl ?_
                refine z_iconst 78 dX0_spreadBest_78 zci_1 ?_
                refine z_iload 79 dX0_spreadBest_79 rfl ?_
                refine z_ishl 81 dX0_spreadBest_81 ?_
                refine z_ior 82 dX0_spreadBest_82 ?_
                refine z_aload_n 83 dX0_spreadBest_83 rfl ?_
                refine z_getR 84 (r := 69) dX0_spreadBest_84 fl_X0_15 zy_67 rfl ?_
                refine z_iload 87 dX0_spreadBest_87 rfl ?_
                refine z_iaload 89 dX0_spreadBest_89 zy_69 ?_
                refine z_aload_n 90 dX0_spreadBest_90 rfl ?_
                refine z_iload_n 91 dX0_spreadBest_91 rfl ?_
                refine z_iload 92 dX0_spreadBest_92 rfl ?_
                refine z_ci (zat_V2 94 dX0_spreadBest_94 lk_X0_56 zy_55 rfl rfl ⟨Nat.le_of_ble_eq_true rfl, Nat.le_of_ble_eq_true rfl⟩ (Nat.le_of_ble_eq_true rfl)) (tX5_gainOf E p2 x18 M19) (fun x27 => ?_)
                refine z_iadd 97 dX0_spreadBest_97 ?_
                refine z_aload_n 98 dX0_spreadBest_98 rfl ?_
                refine z_getR 99 (r := 68) dX0_spreadBest_99 fl_X0_9 zy_67 rfl ?_
                refine z_iload 102 dX0_spreadBest_102 rfl ?_
                refine z_iaload 104 dX0_spreadBest_104 zy_68 ?_
                refine z_cV (zat_V3 105 dX0_spreadBest_105 lk_X0_64 zy_67 rfl rfl ⟨Nat.le_of_ble_eq_true rfl, Nat.le_of_ble_eq_true rfl⟩ (Nat.le_of_ble_eq_true rfl)) (tX0_addBest E (x3 ||| ((1 : Int32) <<< (x18 &&& 31))) ((M19.1 69 (zn x3)) + x27) (M19.1 68 (zn x3)) M19) (fun M28 => ?_)
                exact zk_exitw (L' := [some (.ref 67), some (.ref 55), some (.int p2), some (.int x1), some (.int x3), some (.int x8), some (.int x18)]) (zLe_s (zLe_s (zLe_s (zLe_s (zLe_s (zLe_s (zLe_s zLe_nl))))))) (fun h => h)
              · exact zk_exitw (L' := [some (.ref 67), some (.ref 55), some (.int p2), some (.int x1), some (.int x3), some (.int x8), some (.int x18)]) (zLe_s (zLe_s (zLe_s (zLe_s (zLe_s (zLe_s (zLe_s zLe_nl))))))) (fun h => h)
    · intro k31 hk31
      refine z_ifnev 29 36 dX0_spreadBest_29 (by decide) ?_ ?_
      · refine z_iconst 32 dX0_spreadBest_32 zci_0 ?_
        refine z_goto 33 42 dX0_spreadBest_33 (by decide) ?_
        exact zk_weak (L' := [some (.ref 67), some (.ref 55), some (.int p2), some (.int x1), some (.int x3), none, none]) (zLe_s (zLe_s (zLe_s (zLe_s (zLe_s (zLe_n (zLe_n zLe_nl))))))) (hk31 (0 : Int32))
      · refine z_iload_n 36 dX0_spreadBest_36 rfl ?_
        refine z_iload 37 dX0_spreadBest_37 rfl ?_
        refine z_iconst 39 dX0_spreadBest_39 zci_m1 ?_
        refine z_ixor 40 dX0_spreadBest_40 ?_
        refine z_iand 41 dX0_spreadBest_41 ?_
        exact zk_weak (L' := [some (.ref 67), some (.ref 55), some (.int p2), some (.int x1), some (.int x3), none, none]) (zLe_s (zLe_s (zLe_s (zLe_s (zLe_s (zLe_n (zLe_n zLe_nl))))))) (hk31 (x1 &&& (x3 ^^^ (-1 : Int32))))
def fX0_countBest (M : zM) : Option (Int64 × zM) :=
  sq (fJ7_fill_53178 68 1024 (0 : Int32) M) (fun (M1 : zM) => grd (zix (0 : Int32) 1024) (lt (zwI M1 68 (zn (0 : Int32)) (1 : Int32)) (fun (M2 : zM) => grd (zix (0 : Int32) 1024) (lt (zwI M2 69 (zn (0 : Int32)) (0 : Int32)) (fun (M3 : zM) => sq (α := zM) (zlp (α := Int32 × zM) (β := zM) (fun rec13 => (fun (u63 : Int32 × zM) => match u63 with | (x11, M12) => if (M12.1 55 0) ≤ x11 then (some M12) else (sq (fX0_spreadBest x11 M12) (fun (M17 : zM) => rec13 ((x11 + (1 : Int32)), M17))))) zFu ((0 : Int32), M3)) (fun (M16 : zM) => zlp (α := Int32 × Int64 × Int32) (fun rec45 => (fun (u61 : Int32 × Int64 × Int32) => match u61 with | (x42, x43, x44) => if ((1 : Int32) <<< ((M16.1 55 1) &&& 31)) ≤ x44 then (some (x43, M16)) else (grd (zix x44 1024) (sq (α := Int32 × Int64) (if (M16.1 68 (zn x44)) = 0 then (some (x42, x43)) else (grd (zix x44 1024) (if x42 ≤ (M16.1 69 (zn x44)) then (some (x42, x43)) else (grd (zix x44 1024) (lt ((M16.1 69 (zn x44))) (fun (x58 : Int32) => some (x58, (0 : Int64)))))))) (fun (u59 : Int32 × Int64) => match u59 with | (x49, x50) => grd (zix x44 1024) (sq (α := Int64) (jn (α := Unit) (fun (_ : Unit) => some (0 : Int64)) (fun k54 => if (M16.1 68 (zn x44)) = 0 then (k54 ()) else (grd (zix x44 1024) (if (M16.1 69 (zn x44)) = x49 then (grd (zix x44 1024) (some ((M16.1 68 (zn x44))).toInt64)) else (k54 ()))))) (fun (x52 : Int64) => lt ((x50 + x52)) (fun (x53 : Int64) => rec45 (x49, x53, (x44 + (1 : Int32))))))))))) zFu ((0 : Int32), (0 : Int64), (0 : Int32))))))))
set_option maxHeartbeats 4000000 in
set_option maxRecDepth 100000 in
theorem tX0_countBest (E : zE)  (M : zM) : zFJ E mX0_countBest [.ref 67, .ref 55] zY0 M (fX0_countBest M) := by
  refine zF_of (L := [some (.ref 67), some (.ref 55), none, none, none, none]) plX0 (Nat.le_of_ble_eq_true rfl) rfl (fun post => ?_)
  unfold fX0_countBest
  refine z_aload_n 0 dX0_countBest_0 rfl ?_
  refine z_getR 1 (r := 68) dX0_countBest_1 fl_X0_9 zy_67 rfl ?_
  refine z_iconst 4 dX0_countBest_4 zci_0 ?_
  refine z_cV (zat_S2 5 dX0_countBest_5 lk_X0_34 ⟨Nat.le_of_ble_eq_true rfl, Nat.le_of_ble_eq_true rfl⟩ (Nat.le_of_ble_eq_true rfl)) (tJ7_fill_53178 E zY0 68 1024 zy_68 (0 : Int32) M) (fun M1 => ?_)
  refine z_aload_n 8 dX0_countBest_8 rfl ?_
  refine z_getR 9 (r := 68) dX0_countBest_9 fl_X0_9 zy_67 rfl ?_
  refine z_iconst 12 dX0_countBest_12 zci_0 ?_
  refine z_iconst 13 dX0_countBest_13 zci_1 ?_
  refine z_iastore 14 dX0_countBest_14 zy_68 ?_
  refine zk_nmM (fun M2 => ?_)
  refine z_aload_n 15 dX0_countBest_15 rfl ?_
  refine z_getR 16 (r := 69) dX0_countBest_16 fl_X0_15 zy_67 rfl ?_
  refine z_iconst 19 dX0_countBest_19 zci_0 ?_
  refine z_iconst 20 dX0_countBest_20 zci_0 ?_
  refine z_iastore 21 dX0_countBest_21 zy_69 ?_
  refine zk_nmM (fun M3 => ?_)
  refine z_iconst 22 dX0_countBest_22 zci_0 ?_
  refine z_istore_n 23 (L' := [some (.ref 67), some (.ref 55), some (.int (0 : Int32)), none, none, none]) dX0_countBest_23 (by decide) rfl ?_
  refine zk_sqj (α := zM) 44 (fun (M16 : zM) => [some (.ref 67), some (.ref 55), none, none, none, none]) (fun (M16 : zM) => []) (fun (M16 : zM) => (zY0, M16)) ?_ ?_
  · intro M16
    refine z_iconst 44 dX0_countBest_44 zci_0 ?_
    refine z_istore_n 45 (L' := [some (.ref 67), some (.ref 55), some (.int (0 : Int32)), none, none, none]) dX0_countBest_45 (by decide) rfl ?_
    refine z_lconst 46 dX0_countBest_46 zlc_0 ?_
    refine z_lstore_n 47 (L' := [some (.ref 67), some (.ref 55), some (.int (0 : Int32)), some (.long (0 : Int64)), none, none]) dX0_countBest_47 (by decide) rfl ?_
    refine z_iconst 48 dX0_countBest_48 zci_0 ?_
    refine z_istore 49 (L' := [some (.ref 67), some (.ref 55), some (.int (0 : Int32)), some (.long (0 : Int64)), none, some (.int (0 : Int32))]) dX0_countBest_49 (by decide) rfl ?_
    refine zk_weak (L' := [some (.ref 67), some (.ref 55), some (.int (0 : Int32)), some (.long (0 : Int64)), none, some (.int (0 : Int32))]) (zLe_s (zLe_s (zLe_s (zLe_s (zLe_n (zLe_s zLe_nl)))))) (zk_lp (α := Int32 × Int64 × Int32) 51 (fun (u46 : Int32 × Int64 × Int32) => match u46 with | (x42, x43, x44) => [some (.ref 67), some (.ref 55), some (.int x42), some (.long x43), none, some (.int x44)]) (fun (u47 : Int32 × Int64 × Int32) => match u47 with | (x42, x43, x44) => (zY0, M16)) ?_ zFu ((0 : Int32), (0 : Int64), (0 : Int32)))
    intro rec45 hrec45
    intro u62
    obtain ⟨x42, x43, x44⟩ := u62
    try dsimp only
    refine z_iload 51 dX0_countBest_51 rfl ?_
    refine z_iconst 53 dX0_countBest_53 zci_1 ?_
    refine z_aload_n 54 dX0_countBest_54 rfl ?_
    refine z_getI 55 dX0_countBest_55 fl_X0_22 zy_55 rfl ?_
    refine z_ishl 58 dX0_countBest_58 ?_
    refine z_icge 59 135 dX0_countBest_59 (by decide) (fun _ => ?_) (fun _ => ?_)
    · refine z_lload_n 135 dX0_countBest_135 rfl ?_
      exact z_lreturn 136 dX0_countBest_136 rfl (fun h => h)
    · refine z_aload_n 62 dX0_countBest_62 rfl ?_
      refine z_getR 63 (r := 68) dX0_countBest_63 fl_X0_9 zy_67 rfl ?_
      refine z_iload 66 dX0_countBest_66 rfl ?_
      refine z_iaload 68 dX0_countBest_68 zy_68 ?_
      refine zk_sqj (α := Int32 × Int64) 93 (fun (u55 : Int32 × Int64) => match u55 with | (x49, x50) => [some (.ref 67), some (.ref 55), some (.int x49), some (.long x50), none, some (.int x44)]) (fun (u56 : Int32 × Int64) => match u56 with | (x49, x50) => []) (fun (u57 : Int32 × Int64) => match u57 with | (x49, x50) => (zY0, M16)) ?_ ?_
      · intro u60
        obtain ⟨x49, x50⟩ := u60
        try dsimp only
        refine z_lload_n 93 dX0_countBest_93 rfl ?_
        refine z_aload_n 94 dX0_countBest_94 rfl ?_
        refine z_getR 95 (r := 68) dX0_countBest_95 fl_X0_9 zy_67 rfl ?_
        refine z_iload 98 dX0_countBest_98 rfl ?_
        refine z_iaload 100 dX0_countBest_100 zy_68 ?_
        refine zk_sqj (α := Int64) 127 (fun (x52 : Int64) => [some (.ref 67), some (.ref 55), some (.int x49), none, none, some (.int x44)]) (fun (x52 : Int64) => [.long x52, .long x50]) (fun (x52 : Int64) => (zY0, M16)) ?_ ?_
        · intro x52
          refine z_ladd 127 dX0_countBest_127 ?_
          refine zk_nmL (fun x53 => ?_)
          refine z_lstore_n 128 (L' := [some (.ref 67), some (.ref 55), some (.int x49), some (.long x53), none, some (.int x44)]) dX0_countBest_128 (by decide) rfl ?_
          refine z_iinc 129 (v := (x44 + (1 : Int32))) (L' := [some (.ref 67), some (.ref 55), some (.int x49), some (.long x53), none, some (.int (x44 + (1 : Int32)))]) dX0_countBest_129 rfl (zinc zci_1 _) (by decide) rfl ?_
          refine z_goto 132 51 dX0_countBest_132 (by decide) ?_
          exact zk_weak (L' := [some (.ref 67), some (.ref 55), some (.int x49), some (.long x53), none, some (.int (x44 + (1 : Int32)))]) (zLe_s (zLe_s (zLe_s (zLe_s (zLe_n (zLe_s zLe_nl)))))) (hrec45 (x49, x53, (x44 + (1 : Int32))))
        · refine zk_jn (α := Unit) 126 (fun (_ : Unit) => [some (.ref 67), some (.ref 55), some (.int x49), none, none, some (.int x44)]) (fun (_ : Unit) => [.long x50]) (fun (_ : Unit) => (zY0, M16)) ?_ ?_
          · intro _
            refine z_lconst 126 dX0_countBest_126 zlc_0 ?_
            exact zk_exitw (L' := [some (.ref 67), some (.ref 55), some (.int x49), none, none, some (.int x44)]) (zLe_s (zLe_s (zLe_s (zLe_n (zLe_n (zLe_s zLe_nl)))))) (fun h => h)
          · intro k54 hk54
            refine z_ifeq 101 126 dX0_countBest_101 (by decide) (fun _ => ?_) (fun _ => ?_)
            · exact zk_weak (L' := [some (.ref 67), some (.ref 55), some (.int x49), none, none, some (.int x44)]) (zLe_s (zLe_s (zLe_s (zLe_n (zLe_n (zLe_s zLe_nl)))))) (hk54 ())
            · refine z_aload_n 104 dX0_countBest_104 rfl ?_
              refine z_getR 105 (r := 69) dX0_countBest_105 fl_X0_15 zy_67 rfl ?_
              refine z_iload 108 dX0_countBest_108 rfl ?_
              refine z_iaload 110 dX0_countBest_110 zy_69 ?_
              refine z_iload_n 111 dX0_countBest_111 rfl ?_
              refine z_icne 112 126 dX0_countBest_112 (by decide) (fun _ => ?_) (fun _ => ?_)
              · refine z_aload_n 115 dX0_countBest_115 rfl ?_
                refine z_getR 116 (r := 68) dX0_countBest_116 fl_X0_9 zy_67 rfl ?_
                refine z_iload 119 dX0_countBest_119 rfl ?_
                refine z_iaload 121 dX0_countBest_121 zy_68 ?_
                refine z_i2l 122 dX0_countBest_122 ?_
                refine z_goto 123 127 dX0_countBest_123 (by decide) ?_
                exact zk_exitw (L' := [some (.ref 67), some (.ref 55), some (.int x49), none, none, some (.int x44)]) (zLe_s (zLe_s (zLe_s (zLe_n (zLe_n (zLe_s zLe_nl)))))) (fun h => h)
              · exact zk_weak (L' := [some (.ref 67), some (.ref 55), some (.int x49), none, none, some (.int x44)]) (zLe_s (zLe_s (zLe_s (zLe_n (zLe_n (zLe_s zLe_nl)))))) (hk54 ())
      · refine z_ifeq 69 93 dX0_countBest_69 (by decide) (fun _ => ?_) (fun _ => ?_)
        · exact zk_exitw (L' := [some (.ref 67), some (.ref 55), some (.int x42), some (.long x43), none, some (.int x44)]) (zLe_s (zLe_s (zLe_s (zLe_s (zLe_n (zLe_s zLe_nl)))))) (fun h => h)
        · refine z_aload_n 72 dX0_countBest_72 rfl ?_
          refine z_getR 73 (r := 69) dX0_countBest_73 fl_X0_15 zy_67 rfl ?_
          refine z_iload 76 dX0_countBest_76 rfl ?_
          refine z_iaload 78 dX0_countBest_78 zy_69 ?_
          refine z_iload_n 79 dX0_countBest_79 rfl ?_
          refine z_icge 80 93 dX0_countBest_80 (by decide) (fun _ => ?_) (fun _ => ?_)
          · exact zk_exitw (L' := [some (.ref 67), some (.ref 55), some (.int x42), some (.long x43), none, some (.int x44)]) (zLe_s (zLe_s (zLe_s (zLe_s (zLe_n (zLe_s zLe_nl)))))) (fun h => h)
          · refine z_aload_n 83 dX0_countBest_83 rfl ?_
            refine z_getR 84 (r := 69) dX0_countBest_84 fl_X0_15 zy_67 rfl ?_
            refine z_iload 87 dX0_countBest_87 rfl ?_
            refine z_iaload 89 dX0_countBest_89 zy_69 ?_
            refine zk_nmI (fun x58 => ?_)
            refine z_istore_n 90 (L' := [some (.ref 67), some (.ref 55), some (.int x58), some (.long x43), none, some (.int x44)]) dX0_countBest_90 (by decide) rfl ?_
            refine z_lconst 91 dX0_countBest_91 zlc_0 ?_
            refine z_lstore_n 92 (L' := [some (.ref 67), some (.ref 55), some (.int x58), some (.long (0 : Int64)), none, some (.int x44)]) dX0_countBest_92 (by decide) rfl ?_
            exact zk_exitw (L' := [some (.ref 67), some (.ref 55), some (.int x58), some (.long (0 : Int64)), none, some (.int x44)]) (zLe_s (zLe_s (zLe_s (zLe_s (zLe_n (zLe_s zLe_nl)))))) (fun h => h)
  · refine zk_weak (L' := [some (.ref 67), some (.ref 55), some (.int (0 : Int32)), none, none, none]) (zLe_s (zLe_s (zLe_s (zLe_n (zLe_n (zLe_n zLe_nl)))))) (zk_lp (α := Int32 × zM) 24 (fun (u14 : Int32 × zM) => match u14 with | (x11, M12) => [some (.ref 67), some (.ref 55), some (.int x11), none, none, none]) (fun (u15 : Int32 × zM) => match u15 with | (x11, M12) => (zY0, M12)) ?_ zFu ((0 : Int32), M3))
    intro rec13 hrec13
    intro u64
    obtain ⟨x11, M12⟩ := u64
    try dsimp only
    refine z_iload_n 24 dX0_countBest_24 rfl ?_
    refine z_aload_n 25 dX0_countBest_25 rfl ?_
    refine z_getI 26 dX0_countBest_26 fl_X0_40 zy_55 rfl ?_
    refine z_icge 29 44 dX0_countBest_29 (by decide) (fun _ => ?_) (fun _ => ?_)
    · exact zk_exitw (L' := [some (.ref 67), some (.ref 55), none, none, none, none]) (zLe_s (zLe_s (zLe_n (zLe_n (zLe_n (zLe_n zLe_nl)))))) (fun h => h)
    · refine z_aload_n 32 dX0_countBest_32 rfl ?_
      refine z_aload_n 33 dX0_countBest_33 rfl ?_
      refine z_iload_n 34 dX0_countBest_34 rfl ?_
      refine z_cV (zat_V2 35 dX0_countBest_35 lk_X0_60 zy_67 rfl rfl ⟨Nat.le_of_ble_eq_true rfl, Nat.le_of_ble_eq_true rfl⟩ (Nat.le_of_ble_eq_true rfl)) (tX0_spreadBest E x11 M12) (fun M17 => ?_)
      refine z_iinc 38 (v := (x11 + (1 : Int32))) (L' := [some (.ref 67), some (.ref 55), some (.int (x11 + (1 : Int32))), none, none, none]) dX0_countBest_38 rfl (zinc zci_1 _) (by decide) rfl ?_
      refine z_goto 41 24 dX0_countBest_41 (by decide) ?_
      exact zk_weak (L' := [some (.ref 67), some (.ref 55), some (.int (x11 + (1 : Int32))), none, none, none]) (zLe_s (zLe_s (zLe_s (zLe_n (zLe_n (zLe_n zLe_nl)))))) (hrec13 ((x11 + (1 : Int32)), M17))
def fX1_begin (p1 : Int32) (M : zM) : Option zM :=
  lt (zwI M 70 0 p1) (fun (M1 : zM) => sq (fJ7_fill_53178 71 10 (0 : Int32) M1) (fun (M2 : zM) => some M2))
set_option maxHeartbeats 4000000 in
set_option maxRecDepth 100000 in
theorem tX1_begin (E : zE) (p1 : Int32) (M : zM) : zFV E mX1_begin [.ref 70, .int p1] zY0 M (fX1_begin p1 M) := by
  refine zF_of (L := [some (.ref 70), some (.int p1)]) plX1 (Nat.le_of_ble_eq_true rfl) rfl (fun post => ?_)
  unfold fX1_begin
  refine z_aload_n 0 dX1_begin_0 rfl ?_
  refine z_iload_n 1 dX1_begin_1 rfl ?_
  refine z_put 2 dX1_begin_2 fp_X1_22 zy_70 rfl (zput_i _) ?_
  refine zk_nmM (fun M1 => ?_)
  refine z_aload_n 5 dX1_begin_5 rfl ?_
  refine z_getR 6 (r := 71) dX1_begin_6 fl_X1_9 zy_70 rfl ?_
  refine z_iconst 9 dX1_begin_9 zci_0 ?_
  refine z_cV (zat_S2 10 dX1_begin_10 lk_X1_26 ⟨Nat.le_of_ble_eq_true rfl, Nat.le_of_ble_eq_true rfl⟩ (Nat.le_of_ble_eq_true rfl)) (tJ7_fill_53178 E zY0 71 10 zy_71 (0 : Int32) M1) (fun M2 => ?_)
  exact z_return 13 dX1_begin_13 rfl (fun h => h)
def fX1_join (p1 : Int32) (p2 : Int32) (M : zM) : Option zM :=
  grd (zix p1 10) (grd (zix p1 10) (lt (zwI M 71 (zn p1) ((M.1 71 (zn p1)) ||| ((1 : Int32) <<< (p2 &&& 31)))) (fun (M1 : zM) => some M1)))
set_option maxHeartbeats 4000000 in
set_option maxRecDepth 100000 in
theorem tX1_join (E : zE) (p1 : Int32) (p2 : Int32) (M : zM) : zFV E mX1_join [.ref 70, .int p1, .int p2] zY0 M (fX1_join p1 p2 M) := by
  refine zF_of (L := [some (.ref 70), some (.int p1), some (.int p2)]) plX1 (Nat.le_of_ble_eq_true rfl) rfl (fun post => ?_)
  unfold fX1_join
  refine z_aload_n 0 dX1_join_0 rfl ?_
  refine z_getR 1 (r := 71) dX1_join_1 fl_X1_9 zy_70 rfl ?_
  refine z_iload_n 4 dX1_join_4 rfl ?_
  refine z_dup2 5 dX1_join_5 rfl rfl ?_
  refine z_iaload 6 dX1_join_6 zy_71 ?_
  refine z_iconst 7 dX1_join_7 zci_1 ?_
  refine z_iload_n 8 dX1_join_8 rfl ?_
  refine z_ishl 9 dX1_join_9 ?_
  refine z_ior 10 dX1_join_10 ?_
  refine z_iastore 11 dX1_join_11 zy_71 ?_
  refine zk_nmM (fun M1 => ?_)
  exact z_return 12 dX1_join_12 rfl (fun h => h)
def fX1_markTogether (M : zM) : Option zM :=
  grd (zix (0 : Int32) 1024) (lt (zwI M 72 (zn (0 : Int32)) (zb true)) (fun (M1 : zM) => zlp (α := Int32 × zM) (fun rec28 => (fun (u43 : Int32 × zM) => match u43 with | (x26, M27) => if (M27.1 70 0) ≤ x26 then (some M27) else (sq (α := zM) (zlp (α := Int32 × zM) (β := zM) (fun rec33 => (fun (u41 : Int32 × zM) => match u41 with | (x31, M32) => if ((1 : Int32) <<< (x26 &&& 31)) ≤ x31 then (some M32) else (grd (zix x31 1024) (sq (α := Bool) (jn (α := Unit) (fun (_ : Unit) => some false) (fun k40 => if (M32.1 72 (zn x31)) = 0 then (k40 ()) else (grd (zix x26 10) (if ((M32.1 71 (zn x26)) &&& x31) = x31 then (some true) else (k40 ()))))) (fun (b38 : Bool) => grd (zix (((1 : Int32) <<< (x26 &&& 31)) ||| x31) 1024) (lt (zwI M32 72 (zn (((1 : Int32) <<< (x26 &&& 31)) ||| x31)) (zb b38)) (fun (M39 : zM) => rec33 ((x31 + (1 : Int32)), M39)))))))) zFu ((0 : Int32), M27)) (fun (M36 : zM) => rec28 ((x26 + (1 : Int32)), M36))))) zFu ((0 : Int32), M1)))
set_option maxHeartbeats 4000000 in
set_option maxRecDepth 100000 in
theorem tX1_markTogether (E : zE)  (M : zM) : zFV E mX1_markTogether [.ref 70] zY0 M (fX1_markTogether M) := by
  refine zF_of (L := [some (.ref 70), none, none]) plX1 (Nat.le_of_ble_eq_true rfl) rfl (fun post => ?_)
  unfold fX1_markTogether
  refine z_aload_n 0 dX1_markTogether_0 rfl ?_
  refine z_getR 1 (r := 72) dX1_markTogether_1 fl_X1_15 zy_70 rfl ?_
  refine z_iconst 4 dX1_markTogether_4 zci_0 ?_
  refine z_iconst 5 dX1_markTogether_5 zci_1 ?_
  refine z_zastore 6 (b := true) dX1_markTogether_6 zy_72 ?_
  refine zk_nmM (fun M1 => ?_)
  refine z_iconst 7 dX1_markTogether_7 zci_0 ?_
  refine z_istore_n 8 (L' := [some (.ref 70), some (.int (0 : Int32)), none]) dX1_markTogether_8 (by decide) rfl ?_
  refine zk_weak (L' := [some (.ref 70), some (.int (0 : Int32)), none]) (zLe_s (zLe_s (zLe_n zLe_nl))) (zk_lp (α := Int32 × zM) 9 (fun (u29 : Int32 × zM) => match u29 with | (x26, M27) => [some (.ref 70), some (.int x26), none]) (fun (u30 : Int32 × zM) => match u30 with | (x26, M27) => (zY0, M27)) ?_ zFu ((0 : Int32), M1))
  intro rec28 hrec28
  intro u44
  obtain ⟨x26, M27⟩ := u44
  try dsimp only
  refine z_iload_n 9 dX1_markTogether_9 rfl ?_
  refine z_aload_n 10 dX1_markTogether_10 rfl ?_
  refine z_getI 11 dX1_markTogether_11 fl_X1_22 zy_70 rfl ?_
  refine z_icge 14 74 dX1_markTogether_14 (by decide) (fun _ => ?_) (fun _ => ?_)
  · exact z_return 74 dX1_markTogether_74 rfl (fun h => h)
  · refine z_iconst 17 dX1_markTogether_17 zci_0 ?_
    refine z_istore_n 18 (L' := [some (.ref 70), some (.int x26), some (.int (0 : Int32))]) dX1_markTogether_18 (by decide) rfl ?_
    refine zk_sqj (α := zM) 68 (fun (M36 : zM) => [some (.ref 70), some (.int x26), none]) (fun (M36 : zM) => []) (fun (M36 : zM) => (zY0, M36)) ?_ ?_
    · intro M36
      refine z_iinc 68 (v := (x26 + (1 : Int32))) (L' := [some (.ref 70), some (.int (x26 + (1 : Int32))), none]) dX1_markTogether_68 rfl (zinc zci_1 _) (by decide) rfl ?_
      refine z_goto 71 9 dX1_markTogether_71 (by decide) ?_
      exact zk_weak (L' := [some (.ref 70), some (.int (x26 + (1 : Int32))), none]) (zLe_s (zLe_s (zLe_n zLe_nl))) (hrec28 ((x26 + (1 : Int32)), M36))
    · refine zk_weak (L' := [some (.ref 70), some (.int x26), some (.int (0 : Int32))]) (zLe_s (zLe_s (zLe_s zLe_nl))) (zk_lp (α := Int32 × zM) 19 (fun (u34 : Int32 × zM) => match u34 with | (x31, M32) => [some (.ref 70), some (.int x26), some (.int x31)]) (fun (u35 : Int32 × zM) => match u35 with | (x31, M32) => (zY0, M32)) ?_ zFu ((0 : Int32), M27))
      intro rec33 hrec33
      intro u42
      obtain ⟨x31, M32⟩ := u42
      try dsimp only
      refine z_iload_n 19 dX1_markTogether_19 rfl ?_
      refine z_iconst 20 dX1_markTogether_20 zci_1 ?_
      refine z_iload_n 21 dX1_markTogether_21 rfl ?_
      refine z_ishl 22 dX1_markTogether_22 ?_
      refine z_icge 23 68 dX1_markTogether_23 (by decide) (fun _ => ?_) (fun _ => ?_)
      · exact zk_exitw (L' := [some (.ref 70), some (.int x26), none]) (zLe_s (zLe_s (zLe_n zLe_nl))) (fun h => h)
      · refine z_aload_n 26 dX1_markTogether_26 rfl ?_
        refine z_getR 27 (r := 72) dX1_markTogether_27 fl_X1_15 zy_70 rfl ?_
        refine z_iconst 30 dX1_markTogether_30 zci_1 ?_
        refine z_iload_n 31 dX1_markTogether_31 rfl ?_
        refine z_ishl 32 dX1_markTogether_32 ?_
        refine z_iload_n 33 dX1_markTogether_33 rfl ?_
        refine z_ior 34 dX1_markTogether_34 ?_
        refine z_aload_n 35 dX1_markTogether_35 rfl ?_
        refine z_getR 36 (r := 72) dX1_markTogether_36 fl_X1_15 zy_70 rfl ?_
        refine z_iload_n 39 dX1_markTogether_39 rfl ?_
        refine z_zaload 40 dX1_markTogether_40 zy_72 ?_
        refine zk_sqj (α := Bool) 61 (fun (b38 : Bool) => [some (.ref 70), some (.int x26), some (.int x31)]) (fun (b38 : Bool) => [.int (zb b38), .int (((1 : Int32) <<< (x26 &&& 31)) ||| x31), .ref 72]) (fun (b38 : Bool) => (zY0, M32)) ?_ ?_
        · intro b38
          refine z_zastore 61 (b := b38) dX1_markTogether_61 zy_72 ?_
          refine zk_nmM (fun M39 => ?_)
          refine z_iinc 62 (v := (x31 + (1 : Int32))) (L' := [some (.ref 70), some (.int x26), some (.int (x31 + (1 : Int32)))]) dX1_markTogether_62 rfl (zinc zci_1 _) (by decide) rfl ?_
          refine z_goto 65 19 dX1_markTogether_65 (by decide) ?_
          exact zk_weak (L' := [some (.ref 70), some (.int x26), some (.int (x31 + (1 : Int32)))]) (zLe_s (zLe_s (zLe_s zLe_nl))) (hrec33 ((x31 + (1 : Int32)), M39))
        · refine zk_jn (α := Unit) 60 (fun (_ : Unit) => [some (.ref 70), some (.int x26), some (.int x31)]) (fun (_ : Unit) => [.int (((1 : Int32) <<< (x26 &&& 31)) ||| x31), .ref 72]) (fun (_ : Unit) => (zY0, M32)) ?_ ?_
          · intro _
            refine z_iconst 60 dX1_markTogether_60 zci_0 ?_
            exact zk_exitw (L' := [some (.ref 70), some (.int x26), some (.int x31)]) (zLe_s (zLe_s (zLe_s zLe_nl))) (fun h => h)
          · intro k40 hk40
            refine z_ifeq 41 60 dX1_markTogether_41 (by decide) (fun _ => ?_) (fun _ => ?_)
            · exact zk_weak (L' := [some (.ref 70), some (.int x26), some (.int x31)]) (zLe_s (zLe_s (zLe_s zLe_nl))) (hk40 ())
            · refine z_aload_n 44 dX1_markTogether_44 rfl ?_
              refine z_getR 45 (r := 71) dX1_markTogether_45 fl_X1_9 zy_70 rfl ?_
              refine z_iload_n 48 dX1_markTogether_48 rfl ?_
              refine z_iaload 49 dX1_markTogether_49 zy_71 ?_
              refine z_iload_n 50 dX1_markTogether_50 rfl ?_
              refine z_iand 51 dX1_markTogether_51 ?_
              refine z_iload_n 52 dX1_markTogether_52 rfl ?_
              refine z_icne 53 60 dX1_markTogether_53 (by decide) (fun _ => ?_) (fun _ => ?_)
              · refine z_iconst 56 dX1_markTogether_56 zci_1 ?_
                refine z_goto 57 61 dX1_markTogether_57 (by decide) ?_
                exact zk_exitw (L' := [some (.ref 70), some (.int x26), some (.int x31)]) (zLe_s (zLe_s (zLe_s zLe_nl))) (fun h => h)
              · exact zk_weak (L' := [some (.ref 70), some (.int x26), some (.int x31)]) (zLe_s (zLe_s (zLe_s zLe_nl))) (hk40 ())
def fX1_largest (M : zM) : Option (Int32 × zM) :=
  sq (fX1_markTogether M) (fun (M1 : zM) => zlp (α := Int32 × Int32) (fun rec20 => (fun (u28 : Int32 × Int32) => match u28 with | (x18, x19) => if ((1 : Int32) <<< ((M1.1 70 0) &&& 31)) ≤ x19 then (some (x18, M1)) else (grd (zix x19 1024) (sq (α := Int32) (if (M1.1 72 (zn x19)) = 0 then (some x18) else (lt (fJ6_bitCount_0f7a4 x19) (fun (x26 : Int32) => lt ((zmx x18 x26)) (fun (x27 : Int32) => some x27)))) (fun (x25 : Int32) => rec20 (x25, (x19 + (1 : Int32)))))))) zFu ((0 : Int32), (0 : Int32)))
set_option maxHeartbeats 4000000 in
set_option maxRecDepth 100000 in
theorem tX1_largest (E : zE)  (M : zM) : zFI E mX1_largest [.ref 70] zY0 M (fX1_largest M) := by
  refine zF_of (L := [some (.ref 70), none, none]) plX1 (Nat.le_of_ble_eq_true rfl) rfl (fun post => ?_)
  unfold fX1_largest
  refine z_aload_n 0 dX1_largest_0 rfl ?_
  refine z_cV (zat_V0 1 dX1_largest_1 lk_X1_32 zy_70 rfl rfl ⟨Nat.le_of_ble_eq_true rfl, Nat.le_of_ble_eq_true rfl⟩ (Nat.le_of_ble_eq_true rfl)) (tX1_markTogether E M) (fun M1 => ?_)
  refine z_iconst 4 dX1_largest_4 zci_0 ?_
  refine z_istore_n 5 (L' := [some (.ref 70), some (.int (0 : Int32)), none]) dX1_largest_5 (by decide) rfl ?_
  refine z_iconst 6 dX1_largest_6 zci_0 ?_
  refine z_istore_n 7 (L' := [some (.ref 70), some (.int (0 : Int32)), some (.int (0 : Int32))]) dX1_largest_7 (by decide) rfl ?_
  refine zk_weak (L' := [some (.ref 70), some (.int (0 : Int32)), some (.int (0 : Int32))]) (zLe_s (zLe_s (zLe_s zLe_nl))) (zk_lp (α := Int32 × Int32) 8 (fun (u21 : Int32 × Int32) => match u21 with | (x18, x19) => [some (.ref 70), some (.int x18), some (.int x19)]) (fun (u22 : Int32 × Int32) => match u22 with | (x18, x19) => (zY0, M1)) ?_ zFu ((0 : Int32), (0 : Int32)))
  intro rec20 hrec20
  intro u29
  obtain ⟨x18, x19⟩ := u29
  try dsimp only
  refine z_iload_n 8 dX1_largest_8 rfl ?_
  refine z_iconst 9 dX1_largest_9 zci_1 ?_
  refine z_aload_n 10 dX1_largest_10 rfl ?_
  refine z_getI 11 dX1_largest_11 fl_X1_22 zy_70 rfl ?_
  refine z_ishl 14 dX1_largest_14 ?_
  refine z_icge 15 42 dX1_largest_15 (by decide) (fun _ => ?_) (fun _ => ?_)
  · refine z_iload_n 42 dX1_largest_42 rfl ?_
    exact z_ireturn 43 dX1_largest_43 rfl rfl (fun h => h)
  · refine z_aload_n 18 dX1_largest_18 rfl ?_
    refine z_getR 19 (r := 72) dX1_largest_19 fl_X1_15 zy_70 rfl ?_
    refine z_iload_n 22 dX1_largest_22 rfl ?_
    refine z_zaload 23 dX1_largest_23 zy_72 ?_
    refine zk_sqj (α := Int32) 36 (fun (x25 : Int32) => [some (.ref 70), some (.int x25), some (.int x19)]) (fun (x25 : Int32) => []) (fun (x25 : Int32) => (zY0, M1)) ?_ ?_
    · intro x25
      refine z_iinc 36 (v := (x19 + (1 : Int32))) (L' := [some (.ref 70), some (.int x25), some (.int (x19 + (1 : Int32)))]) dX1_largest_36 rfl (zinc zci_1 _) (by decide) rfl ?_
      refine z_goto 39 8 dX1_largest_39 (by decide) ?_
      exact zk_weak (L' := [some (.ref 70), some (.int x25), some (.int (x19 + (1 : Int32)))]) (zLe_s (zLe_s (zLe_s zLe_nl))) (hrec20 (x25, (x19 + (1 : Int32))))
    · refine z_ifeq 24 36 dX1_largest_24 (by decide) (fun _ => ?_) (fun _ => ?_)
      · exact zk_exitw (L' := [some (.ref 70), some (.int x18), some (.int x19)]) (zLe_s (zLe_s (zLe_s zLe_nl))) (fun h => h)
      · refine z_iload_n 27 dX1_largest_27 rfl ?_
        refine z_iload_n 28 dX1_largest_28 rfl ?_
        refine z_cti (zat_S1 29 dX1_largest_29 lk_X1_35 ⟨Nat.le_of_ble_eq_true rfl, Nat.le_of_ble_eq_true rfl⟩ (Nat.le_of_ble_eq_true rfl)) (tJ6_bitCount_0f7a4 E zY0 x19 M1) (fun x26 => ?_)
        refine z_mmax 32 dX1_largest_32 ml_X1_41 ml_mmax.1 ml_mmax.2.1 ml_mmax.2.2 ⟨Nat.le_of_ble_eq_true rfl, Nat.le_of_ble_eq_true rfl⟩ ?_
        refine zk_nmI (fun x27 => ?_)
        refine z_istore_n 35 (L' := [some (.ref 70), some (.int x27), some (.int x19)]) dX1_largest_35 (by decide) rfl ?_
        exact zk_exitw (L' := [some (.ref 70), some (.int x27), some (.int x19)]) (zLe_s (zLe_s (zLe_s zLe_nl))) (fun h => h)
def fX1_fewestParts (p1 : Int32) (p2 : Int32) (M : zM) : Option Int32 :=
  grd (zix p2 1024) (lt (((1 : Int32) + (M.1 73 (zn p2)))) (fun (x1 : Int32) => zlp (α := Int32 × Int32) (fun rec4 => (fun (u11 : Int32 × Int32) => match u11 with | (x2, x3) => if x3 ≤ 0 then (some x2) else (grd (zix (p1 ||| x3) 1024) (sq (α := Int32) (if (M.1 72 (zn (p1 ||| x3))) = 0 then (some x2) else (grd (zix (p2 ^^^ x3) 1024) (lt ((zmn x2 ((1 : Int32) + (M.1 73 (zn (p2 ^^^ x3)))))) (fun (x10 : Int32) => some x10)))) (fun (x8 : Int32) => lt (((x3 - (1 : Int32)) &&& p2)) (fun (x9 : Int32) => rec4 (x8, x9))))))) zFu (x1, p2)))
set_option maxHeartbeats 4000000 in
set_option maxRecDepth 100000 in
theorem tX1_fewestParts (E : zE) (p1 : Int32) (p2 : Int32) (M : zM) : zFi E mX1_fewestParts [.ref 70, .int p1, .int p2] zY0 M (fX1_fewestParts p1 p2 M) := by
  refine zF_of (L := [some (.ref 70), some (.int p1), some (.int p2), none, none]) plX1 (Nat.le_of_ble_eq_true rfl) rfl (fun post => ?_)
  unfold fX1_fewestParts
  refine z_iconst 0 dX1_fewestParts_0 zci_1 ?_
  refine z_aload_n 1 dX1_fewestParts_1 rfl ?_
  refine z_getR 2 (r := 73) dX1_fewestParts_2 fl_X1_19 zy_70 rfl ?_
  refine z_iload_n 5 dX1_fewestParts_5 rfl ?_
  refine z_iaload 6 dX1_fewestParts_6 zy_73 ?_
  refine z_iadd 7 dX1_fewestParts_7 ?_
  refine zk_nmI (fun x1 => ?_)
  refine z_istore_n 8 (L' := [some (.ref 70), some (.int p1), some (.int p2), some (.int x1), none]) dX1_fewestParts_8 (by decide) rfl ?_
  refine z_iload_n 9 dX1_fewestParts_9 rfl ?_
  refine z_istore 10 (L' := [some (.ref 70), some (.int p1), some (.int p2), some (.int x1), some (.int p2)]) dX1_fewestParts_10 (by decide) rfl ?_
  refine zk_weak (L' := [some (.ref 70), some (.int p1), some (.int p2), some (.int x1), some (.int p2)]) (zLe_s (zLe_s (zLe_s (zLe_s (zLe_s zLe_nl))))) (zk_lp (α := Int32 × Int32) 12 (fun (u5 : Int32 × Int32) => match u5 with | (x2, x3) => [some (.ref 70), some (.int p1), some (.int p2), some (.int x2), some (.int x3)]) (fun (u6 : Int32 × Int32) => match u6 with | (x2, x3) => (zY0, M)) ?_ zFu (x1, p2))
  intro rec4 hrec4
  intro u12
  obtain ⟨x2, x3⟩ := u12
  try dsimp only
  refine z_iload 12 dX1_fewestParts_12 rfl ?_
  refine z_ifle 14 56 dX1_fewestParts_14 (by decide) (fun _ => ?_) (fun _ => ?_)
  · refine z_iload_n 56 dX1_fewestParts_56 rfl ?_
    exact z_ireturn 57 dX1_fewestParts_57 rfl rfl (fun h => h)
  · refine z_aload_n 17 dX1_fewestParts_17 rfl ?_
    refine z_getR 18 (r := 72) dX1_fewestParts_18 fl_X1_15 zy_70 rfl ?_
    refine z_iload_n 21 dX1_fewestParts_21 rfl ?_
    refine z_iload 22 dX1_fewestParts_22 rfl ?_
    refine z_ior 24 dX1_fewestParts_24 ?_
    refine z_zaload 25 dX1_fewestParts_25 zy_72 ?_
    refine zk_sqj (α := Int32) 45 (fun (x8 : Int32) => [some (.ref 70), some (.int p1), some (.int p2), some (.int x8), some (.int x3)]) (fun (x8 : Int32) => []) (fun (x8 : Int32) => (zY0, M)) ?_ ?_
    · intro x8
      refine z_iload 45 dX1_fewestParts_45 rfl ?_
      refine z_iconst 47 dX1_fewestParts_47 zci_1 ?_
      refine z_isub 48 dX1_fewestParts_48 ?_
      refine z_iload_n 49 dX1_fewestParts_49 rfl ?_
      refine z_iand 50 dX1_fewestParts_50 ?_
      refine zk_nmI (fun x9 => ?_)
      refine z_istore 51 (L' := [some (.ref 70), some (.int p1), some (.int p2), some (.int x8), some (.int x9)]) dX1_fewestParts_51 (by decide) rfl ?_
      refine z_goto 53 12 dX1_fewestParts_53 (by decide) ?_
      exact zk_weak (L' := [some (.ref 70), some (.int p1), some (.int p2), some (.int x8), some (.int x9)]) (zLe_s (zLe_s (zLe_s (zLe_s (zLe_s zLe_nl))))) (hrec4 (x8, x9))
    · refine z_ifeq 26 45 dX1_fewestParts_26 (by decide) (fun _ => ?_) (fun _ => ?_)
      · exact zk_exitw (L' := [some (.ref 70), some (.int p1), some (.int p2), some (.int x2), some (.int x3)]) (zLe_s (zLe_s (zLe_s (zLe_s (zLe_s zLe_nl))))) (fun h => h)
      · refine z_iload_n 29 dX1_fewestParts_29 rfl ?_
        refine z_iconst 30 dX1_fewestParts_30 zci_1 ?_
        refine z_aload_n 31 dX1_fewestParts_31 rfl ?_
        refine z_getR 32 (r := 73) dX1_fewestParts_32 fl_X1_19 zy_70 rfl ?_
        refine z_iload_n 35 dX1_fewestParts_35 rfl ?_
        refine z_iload 36 dX1_fewestParts_36 rfl ?_
        refine z_ixor 38 dX1_fewestParts_38 ?_
        refine z_iaload 39 dX1_fewestParts_39 zy_73 ?_
        refine z_iadd 40 dX1_fewestParts_40 ?_
        refine z_mmin 41 dX1_fewestParts_41 ml_X1_50 ml_mmin.1 ml_mmin.2.1 ml_mmin.2.2 ⟨Nat.le_of_ble_eq_true rfl, Nat.le_of_ble_eq_true rfl⟩ ?_
        refine zk_nmI (fun x10 => ?_)
        refine z_istore_n 44 (L' := [some (.ref 70), some (.int p1), some (.int p2), some (.int x10), some (.int x3)]) dX1_fewestParts_44 (by decide) rfl ?_
        exact zk_exitw (L' := [some (.ref 70), some (.int p1), some (.int p2), some (.int x10), some (.int x3)]) (zLe_s (zLe_s (zLe_s (zLe_s (zLe_s zLe_nl))))) (fun h => h)
def fX1_fewest (M : zM) : Option (Int32 × zM) :=
  sq (fX1_markTogether M) (fun (M1 : zM) => grd (zix (0 : Int32) 1024) (lt (zwI M1 73 (zn (0 : Int32)) (0 : Int32)) (fun (M2 : zM) => sq (α := zM) (zlp (α := Int32 × zM) (β := zM) (fun rec27 => (fun (u41 : Int32 × zM) => match u41 with | (x25, M26) => if (M26.1 70 0) ≤ x25 then (some M26) else (sq (α := zM) (zlp (α := Int32 × zM) (β := zM) (fun rec33 => (fun (u39 : Int32 × zM) => match u39 with | (x31, M32) => if ((1 : Int32) <<< (x25 &&& 31)) ≤ x31 then (some M32) else (sq (fX1_fewestParts ((1 : Int32) <<< (x25 &&& 31)) x31 M32) (fun (x37 : Int32) => grd (zix (((1 : Int32) <<< (x25 &&& 31)) ||| x31) 1024) (lt (zwI M32 73 (zn (((1 : Int32) <<< (x25 &&& 31)) ||| x31)) x37) (fun (M38 : zM) => rec33 ((x31 + (1 : Int32)), M38))))))) zFu ((0 : Int32), M26)) (fun (M36 : zM) => rec27 ((x25 + (1 : Int32)), M36))))) zFu ((0 : Int32), M2)) (fun (M30 : zM) => grd (zix (((1 : Int32) <<< ((M30.1 70 0) &&& 31)) - (1 : Int32)) 1024) (some ((M30.1 73 (zn (((1 : Int32) <<< ((M30.1 70 0) &&& 31)) - (1 : Int32)))), M30))))))
set_option maxHeartbeats 4000000 in
set_option maxRecDepth 100000 in
theorem tX1_fewest (E : zE)  (M : zM) : zFI E mX1_fewest [.ref 70] zY0 M (fX1_fewest M) := by
  refine zF_of (L := [some (.ref 70), none, none]) plX1 (Nat.le_of_ble_eq_true rfl) rfl (fun post => ?_)
  unfold fX1_fewest
  refine z_aload_n 0 dX1_fewest_0 rfl ?_
  refine z_cV (zat_V0 1 dX1_fewest_1 lk_X1_32 zy_70 rfl rfl ⟨Nat.le_of_ble_eq_true rfl, Nat.le_of_ble_eq_true rfl⟩ (Nat.le_of_ble_eq_true rfl)) (tX1_markTogether E M) (fun M1 => ?_)
  refine z_aload_n 4 dX1_fewest_4 rfl ?_
  refine z_getR 5 (r := 73) dX1_fewest_5 fl_X1_19 zy_70 rfl ?_
  refine z_iconst 8 dX1_fewest_8 zci_0 ?_
  refine z_iconst 9 dX1_fewest_9 zci_0 ?_
  refine z_iastore 10 dX1_fewest_10 zy_73 ?_
  refine zk_nmM (fun M2 => ?_)
  refine z_iconst 11 dX1_fewest_11 zci_0 ?_
  refine z_istore_n 12 (L' := [some (.ref 70), some (.int (0 : Int32)), none]) dX1_fewest_12 (by decide) rfl ?_
  refine zk_sqj (α := zM) 60 (fun (M30 : zM) => [some (.ref 70), none, none]) (fun (M30 : zM) => []) (fun (M30 : zM) => (zY0, M30)) ?_ ?_
  · intro M30
    refine z_aload_n 60 dX1_fewest_60 rfl ?_
    refine z_getR 61 (r := 73) dX1_fewest_61 fl_X1_19 zy_70 rfl ?_
    refine z_iconst 64 dX1_fewest_64 zci_1 ?_
    refine z_aload_n 65 dX1_fewest_65 rfl ?_
    refine z_getI 66 dX1_fewest_66 fl_X1_22 zy_70 rfl ?_
    refine z_ishl 69 dX1_fewest_69 ?_
    refine z_iconst 70 dX1_fewest_70 zci_1 ?_
    refine z_isub 71 dX1_fewest_71 ?_
    refine z_iaload 72 dX1_fewest_72 zy_73 ?_
    exact z_ireturn 73 dX1_fewest_73 rfl rfl (fun h => h)
  · refine zk_weak (L' := [some (.ref 70), some (.int (0 : Int32)), none]) (zLe_s (zLe_s (zLe_n zLe_nl))) (zk_lp (α := Int32 × zM) 13 (fun (u28 : Int32 × zM) => match u28 with | (x25, M26) => [some (.ref 70), some (.int x25), none]) (fun (u29 : Int32 × zM) => match u29 with | (x25, M26) => (zY0, M26)) ?_ zFu ((0 : Int32), M2))
    intro rec27 hrec27
    intro u42
    obtain ⟨x25, M26⟩ := u42
    try dsimp only
    refine z_iload_n 13 dX1_fewest_13 rfl ?_
    refine z_aload_n 14 dX1_fewest_14 rfl ?_
    refine z_getI 15 dX1_fewest_15 fl_X1_22 zy_70 rfl ?_
    refine z_icge 18 60 dX1_fewest_18 (by decide) (fun _ => ?_) (fun _ => ?_)
    · exact zk_exitw (L' := [some (.ref 70), none, none]) (zLe_s (zLe_n (zLe_n zLe_nl))) (fun h => h)
    · refine z_iconst 21 dX1_fewest_21 zci_0 ?_
      refine z_istore_n 22 (L' := [some (.ref 70), some (.int x25), some (.int (0 : Int32))]) dX1_fewest_22 (by decide) rfl ?_
      refine zk_sqj (α := zM) 54 (fun (M36 : zM) => [some (.ref 70), some (.int x25), none]) (fun (M36 : zM) => []) (fun (M36 : zM) => (zY0, M36)) ?_ ?_
      · intro M36
        refine z_iinc 54 (v := (x25 + (1 : Int32))) (L' := [some (.ref 70), some (.int (x25 + (1 : Int32))), none]) dX1_fewest_54 rfl (zinc zci_1 _) (by decide) rfl ?_
        refine z_goto 57 13 dX1_fewest_57 (by decide) ?_
        exact zk_weak (L' := [some (.ref 70), some (.int (x25 + (1 : Int32))), none]) (zLe_s (zLe_s (zLe_n zLe_nl))) (hrec27 ((x25 + (1 : Int32)), M36))
      · refine zk_weak (L' := [some (.ref 70), some (.int x25), some (.int (0 : Int32))]) (zLe_s (zLe_s (zLe_s zLe_nl))) (zk_lp (α := Int32 × zM) 23 (fun (u34 : Int32 × zM) => match u34 with | (x31, M32) => [some (.ref 70), some (.int x25), some (.int x31)]) (fun (u35 : Int32 × zM) => match u35 with | (x31, M32) => (zY0, M32)) ?_ zFu ((0 : Int32), M26))
        intro rec33 hrec33
        intro u40
        obtain ⟨x31, M32⟩ := u40
        try dsimp only
        refine z_iload_n 23 dX1_fewest_23 rfl ?_
        refine z_iconst 24 dX1_fewest_24 zci_1 ?_
        refine z_iload_n 25 dX1_fewest_25 rfl ?_
        refine z_ishl 26 dX1_fewest_26 ?_
        refine z_icge 27 54 dX1_fewest_27 (by decide) (fun _ => ?_) (fun _ => ?_)
        · exact zk_exitw (L' := [some (.ref 70), some (.int x25), none]) (zLe_s (zLe_s (zLe_n zLe_nl))) (fun h => h)
        · refine z_aload_n 30 dX1_fewest_30 rfl ?_
          refine z_getR 31 (r := 73) dX1_fewest_31 fl_X1_19 zy_70 rfl ?_
          refine z_iconst 34 dX1_fewest_34 zci_1 ?_
          refine z_iload_n 35 dX1_fewest_35 rfl ?_
          refine z_ishl 36 dX1_fewest_36 ?_
          refine z_iload_n 37 dX1_fewest_37 rfl ?_
          refine z_ior 38 dX1_fewest_38 ?_
          refine z_aload_n 39 dX1_fewest_39 rfl ?_
          refine z_iconst 40 dX1_fewest_40 zci_1 ?_
          refine z_iload_n 41 dX1_fewest_41 rfl ?_
          refine z_ishl 42 dX1_fewest_42 ?_
          refine z_iload_n 43 dX1_fewest_43 rfl ?_
          refine z_ci (zat_V2 44 dX1_fewest_44 lk_X1_47 zy_70 rfl rfl ⟨Nat.le_of_ble_eq_true rfl, Nat.le_of_ble_eq_true rfl⟩ (Nat.le_of_ble_eq_true rfl)) (tX1_fewestParts E ((1 : Int32) <<< (x25 &&& 31)) x31 M32) (fun x37 => ?_)
          refine z_iastore 47 dX1_fewest_47 zy_73 ?_
          refine zk_nmM (fun M38 => ?_)
          refine z_iinc 48 (v := (x31 + (1 : Int32))) (L' := [some (.ref 70), some (.int x25), some (.int (x31 + (1 : Int32)))]) dX1_fewest_48 rfl (zinc zci_1 _) (by decide) rfl ?_
          refine z_goto 51 23 dX1_fewest_51 (by decide) ?_
          exact zk_weak (L' := [some (.ref 70), some (.int x25), some (.int (x31 + (1 : Int32)))]) (zLe_s (zLe_s (zLe_s zLe_nl))) (hrec33 ((x31 + (1 : Int32)), M38))
def fX10_within (p1 : Int32) (p2 : Int32) (p3 : Int32) : Bool :=
  if p1 < p2 then (false) else (if p3 < p1 then (false) else (true))
set_option maxHeartbeats 4000000 in
set_option maxRecDepth 100000 in
theorem tX10_within (E : zE) (Y : zY) (p1 : Int32) (p2 : Int32) (p3 : Int32) (M : zM) : zFb E mX10_within [.int p1, .int p2, .int p3] Y M (some (fX10_within p1 p2 p3)) := by
  refine zF_of (L := [some (.int p1), some (.int p2), some (.int p3)]) plX10 (Nat.le_of_ble_eq_true rfl) rfl (fun post => ?_)
  show zK E _ post 0 _ _ _ (lt (fX10_within p1 p2 p3) some) _
  unfold fX10_within
  refine z_iload_n 0 dX10_within_0 rfl ?_
  refine z_iload_n 1 dX10_within_1 rfl ?_
  refine z_icltv 2 14 dX10_within_2 (by decide) ?_ ?_
  · refine z_iconst 14 dX10_within_14 zci_0 ?_
    exact z_ireturn 15 (v := zb false) dX10_within_15 rfl (zput_b false).1 (fun h => h)
  · refine z_iload_n 5 dX10_within_5 rfl ?_
    refine z_iload_n 6 dX10_within_6 rfl ?_
    refine z_icgtv 7 14 dX10_within_7 (by decide) ?_ ?_
    · refine z_iconst 14 dX10_within_14 zci_0 ?_
      exact z_ireturn 15 (v := zb false) dX10_within_15 rfl (zput_b false).1 (fun h => h)
    · refine z_iconst 10 dX10_within_10 zci_1 ?_
      refine z_goto 11 15 dX10_within_11 (by decide) ?_
      exact z_ireturn 15 (v := zb true) dX10_within_15 rfl (zput_b true).1 (fun h => h)
def fX2_has (a0 : Nat) (p1 : Int32) (M : zM) : Bool :=
  (fX10_within p1 (0 : Int32) ((M.1 a0 0) - (1 : Int32)))
set_option maxHeartbeats 4000000 in
set_option maxRecDepth 100000 in
theorem tX2_has (E : zE) (Y : zY) (a0 : Nat) (ha0 : zsX2 Y a0) (p1 : Int32) (M : zM) : zFb E mX2_has [.ref a0, .int p1] Y M (some (fX2_has a0 p1 M)) := by
  refine zF_of (L := [some (.ref a0), some (.int p1)]) plX2 (Nat.le_of_ble_eq_true rfl) rfl (fun post => ?_)
  show zK E _ post 0 _ _ _ (lt (fX2_has a0 p1 M) some) _
  unfold fX2_has
  refine z_iload_n 0 dX2_has_0 rfl ?_
  refine z_iconst 1 dX2_has_1 zci_0 ?_
  refine z_aload_n 2 dX2_has_2 rfl ?_
  refine z_getI 3 dX2_has_3 fl_X2_21 ha0.1 rfl ?_
  refine z_iconst 6 dX2_has_6 zci_1 ?_
  refine z_isub 7 dX2_has_7 ?_
  refine z_ctb0 (zat_N3 8 dX2_has_8 lk_X2_25 ⟨Nat.le_of_ble_eq_true rfl, Nat.le_of_ble_eq_true rfl⟩ (Nat.le_of_ble_eq_true rfl)) (tX10_within E Y p1 (0 : Int32) ((M.1 a0 0) - (1 : Int32)) M) ?_
  exact z_ireturn 11 (v := zb (fX10_within p1 (0 : Int32) ((M.1 a0 0) - (1 : Int32)))) dX2_has_11 rfl (zput_b (fX10_within p1 (0 : Int32) ((M.1 a0 0) - (1 : Int32)))).1 (fun h => h)
def fX2_append (a0 : Nat) (p1 : Int32) (p2 : Int32) (M : zM) : Option (Int32 × zM) :=
  lt ((M.1 a0 0)) (fun (x1 : Int32) => grd (zix x1 10) (lt (zwI M (a0 + 1) (zn x1) p1) (fun (M2 : zM) => grd (zix x1 10) (lt (zwI M2 (a0 + 2) (zn x1) p2) (fun (M3 : zM) => lt (zwI M3 a0 0 ((M3.1 a0 0) + (1 : Int32))) (fun (M4 : zM) => some (x1, M4)))))))
set_option maxHeartbeats 4000000 in
set_option maxRecDepth 100000 in
theorem tX2_append (E : zE) (Y : zY) (a0 : Nat) (ha0 : zsX2 Y a0) (p1 : Int32) (p2 : Int32) (M : zM) : zFI E mX2_append [.ref a0, .int p1, .int p2] Y M (fX2_append a0 p1 p2 M) := by
  refine zF_of (L := [some (.ref a0), some (.int p1), some (.int p2), none]) plX2 (Nat.le_of_ble_eq_true rfl) rfl (fun post => ?_)
  unfold fX2_append
  refine z_aload_n 0 dX2_append_0 rfl ?_
  refine z_getI 1 dX2_append_1 fl_X2_21 ha0.1 rfl ?_
  refine zk_nmI (fun x1 => ?_)
  refine z_istore_n 4 (L' := [some (.ref a0), some (.int p1), some (.int p2), some (.int x1)]) dX2_append_4 (by decide) rfl ?_
  refine z_aload_n 5 dX2_append_5 rfl ?_
  refine z_getR 6 (r := (a0 + 1)) dX2_append_6 fl_X2_9 ha0.1 rfl ?_
  refine z_iload_n 9 dX2_append_9 rfl ?_
  refine z_iload_n 10 dX2_append_10 rfl ?_
  refine z_iastore 11 dX2_append_11 ha0.2.1 ?_
  refine zk_nmM (fun M2 => ?_)
  refine z_aload_n 12 dX2_append_12 rfl ?_
  refine z_getR 13 (r := (a0 + 2)) dX2_append_13 fl_X2_15 ha0.1 rfl ?_
  refine z_iload_n 16 dX2_append_16 rfl ?_
  refine z_iload_n 17 dX2_append_17 rfl ?_
  refine z_iastore 18 dX2_append_18 ha0.2.2.1 ?_
  refine zk_nmM (fun M3 => ?_)
  refine z_aload_n 19 dX2_append_19 rfl ?_
  refine z_dup 20 dX2_append_20 rfl ?_
  refine z_getI 21 dX2_append_21 fl_X2_21 ha0.1 rfl ?_
  refine z_iconst 24 dX2_append_24 zci_1 ?_
  refine z_iadd 25 dX2_append_25 ?_
  refine z_put 26 dX2_append_26 fp_X2_21 ha0.1 rfl (zput_i _) ?_
  refine zk_nmM (fun M4 => ?_)
  refine z_iload_n 29 dX2_append_29 rfl ?_
  exact z_ireturn 30 dX2_append_30 rfl rfl (fun h => h)
def fX2_setPlate (a0 : Nat) (p1 : Int32) (p2 : Int32) (M : zM) : Option zM :=
  zlp (α := Int32 × Int32 × zM) (fun rec4 => (fun (u9 : Int32 × Int32 × zM) => match u9 with | (x1, x2, M3) => if x2 < 0 then (some M3) else (grd (zix ((p1 * (4 : Int32)) + x2) 40) (lt (zwI M3 (a0 + 3) (zn ((p1 * (4 : Int32)) + x2)) (zrm_i x1 (17 : Int32))) (fun (M7 : zM) => lt ((x1 / (17 : Int32))) (fun (x8 : Int32) => rec4 (x8, (x2 + (-1 : Int32)), M7))))))) zFu (p2, (3 : Int32), M)
set_option maxHeartbeats 4000000 in
set_option maxRecDepth 100000 in
theorem tX2_setPlate (E : zE) (Y : zY) (a0 : Nat) (ha0 : zsX2 Y a0) (p1 : Int32) (p2 : Int32) (M : zM) : zFV E mX2_setPlate [.ref a0, .int p1, .int p2] Y M (fX2_setPlate a0 p1 p2 M) := by
  refine zF_of (L := [some (.ref a0), some (.int p1), some (.int p2), none, none]) plX2 (Nat.le_of_ble_eq_true rfl) rfl (fun post => ?_)
  unfold fX2_setPlate
  refine z_iload_n 0 dX2_setPlate_0 rfl ?_
  refine z_istore_n 1 (L' := [some (.ref a0), some (.int p1), some (.int p2), some (.int p2), none]) dX2_setPlate_1 (by decide) rfl ?_
  refine z_iconst 2 dX2_setPlate_2 zci_3 ?_
  refine z_istore 3 (L' := [some (.ref a0), some (.int p1), some (.int p2), some (.int p2), some (.int (3 : Int32))]) dX2_setPlate_3 (by decide) rfl ?_
  refine zk_weak (L' := [some (.ref a0), some (.int p1), none, some (.int p2), some (.int (3 : Int32))]) (zLe_s (zLe_s (zLe_n (zLe_s (zLe_s zLe_nl))))) (zk_lp (α := Int32 × Int32 × zM) 5 (fun (u5 : Int32 × Int32 × zM) => match u5 with | (x1, x2, M3) => [some (.ref a0), some (.int p1), none, some (.int x1), some (.int x2)]) (fun (u6 : Int32 × Int32 × zM) => match u6 with | (x1, x2, M3) => (Y, M3)) ?_ zFu (p2, (3 : Int32), M))
  intro rec4 hrec4
  intro u10
  obtain ⟨x1, x2, M3⟩ := u10
  try dsimp only
  refine z_iload 5 dX2_setPlate_5 rfl ?_
  refine z_iflt 7 36 dX2_setPlate_7 (by decide) (fun _ => ?_) (fun _ => ?_)
  · exact z_return 36 dX2_setPlate_36 rfl (fun h => h)
  · refine z_aload_n 10 dX2_setPlate_10 rfl ?_
    refine z_getR 11 (r := (a0 + 3)) dX2_setPlate_11 fl_X2_18 ha0.1 rfl ?_
    refine z_iload_n 14 dX2_setPlate_14 rfl ?_
    refine z_iconst 15 dX2_setPlate_15 zci_4 ?_
    refine z_imul 16 dX2_setPlate_16 ?_
    refine z_iload 17 dX2_setPlate_17 rfl ?_
    refine z_iadd 19 dX2_setPlate_19 ?_
    refine z_iload_n 20 dX2_setPlate_20 rfl ?_
    refine z_bipush 21 dX2_setPlate_21 zbp_17 ?_
    refine z_iremc 23 dX2_setPlate_23 (by decide) ?_
    refine z_iastore 24 dX2_setPlate_24 ha0.2.2.2 ?_
    refine zk_nmM (fun M7 => ?_)
    refine z_iload_n 25 dX2_setPlate_25 rfl ?_
    refine z_bipush 26 dX2_setPlate_26 zbp_17 ?_
    refine z_idivc 28 dX2_setPlate_28 (by decide) ?_
    refine zk_nmI (fun x8 => ?_)
    refine z_istore_n 29 (L' := [some (.ref a0), some (.int p1), none, some (.int x8), some (.int x2)]) dX2_setPlate_29 (by decide) rfl ?_
    refine z_iinc 30 (v := (x2 + (-1 : Int32))) (L' := [some (.ref a0), some (.int p1), none, some (.int x8), some (.int (x2 + (-1 : Int32)))]) dX2_setPlate_30 rfl (zinc zci_m1 _) (by decide) rfl ?_
    refine z_goto 33 5 dX2_setPlate_33 (by decide) ?_
    exact zk_weak (L' := [some (.ref a0), some (.int p1), none, some (.int x8), some (.int (x2 + (-1 : Int32)))]) (zLe_s (zLe_s (zLe_n (zLe_s (zLe_s zLe_nl))))) (hrec4 (x8, (x2 + (-1 : Int32)), M7))
def fX2_plateOf (a0 : Nat) (p1 : Int32) (M : zM) : Option Int32 :=
  zlp (α := Int32 × Int32) (fun rec15 => (fun (u19 : Int32 × Int32) => match u19 with | (x13, x14) => if (4 : Int32) ≤ x14 then (some x13) else (grd (zix ((p1 * (4 : Int32)) + x14) 40) (lt (((x13 * (17 : Int32)) + (M.1 (a0 + 3) (zn ((p1 * (4 : Int32)) + x14))))) (fun (x18 : Int32) => rec15 (x18, (x14 + (1 : Int32)))))))) zFu ((0 : Int32), (0 : Int32))
set_option maxHeartbeats 4000000 in
set_option maxRecDepth 100000 in
theorem tX2_plateOf (E : zE) (Y : zY) (a0 : Nat) (ha0 : zsX2 Y a0) (p1 : Int32) (M : zM) : zFi E mX2_plateOf [.ref a0, .int p1] Y M (fX2_plateOf a0 p1 M) := by
  refine zF_of (L := [some (.ref a0), some (.int p1), none, none]) plX2 (Nat.le_of_ble_eq_true rfl) rfl (fun post => ?_)
  unfold fX2_plateOf
  refine z_iconst 0 dX2_plateOf_0 zci_0 ?_
  refine z_istore_n 1 (L' := [some (.ref a0), some (.int p1), some (.int (0 : Int32)), none]) dX2_plateOf_1 (by decide) rfl ?_
  refine z_iconst 2 dX2_plateOf_2 zci_0 ?_
  refine z_istore_n 3 (L' := [some (.ref a0), some (.int p1), some (.int (0 : Int32)), some (.int (0 : Int32))]) dX2_plateOf_3 (by decide) rfl ?_
  refine zk_weak (L' := [some (.ref a0), some (.int p1), some (.int (0 : Int32)), some (.int (0 : Int32))]) (zLe_s (zLe_s (zLe_s (zLe_s zLe_nl)))) (zk_lp (α := Int32 × Int32) 4 (fun (u16 : Int32 × Int32) => match u16 with | (x13, x14) => [some (.ref a0), some (.int p1), some (.int x13), some (.int x14)]) (fun (u17 : Int32 × Int32) => match u17 with | (x13, x14) => (Y, M)) ?_ zFu ((0 : Int32), (0 : Int32)))
  intro rec15 hrec15
  intro u20
  obtain ⟨x13, x14⟩ := u20
  try dsimp only
  refine z_iload_n 4 dX2_plateOf_4 rfl ?_
  refine z_iconst 5 dX2_plateOf_5 zci_4 ?_
  refine z_icge 6 31 dX2_plateOf_6 (by decide) (fun _ => ?_) (fun _ => ?_)
  · refine z_iload_n 31 dX2_plateOf_31 rfl ?_
    exact z_ireturn 32 dX2_plateOf_32 rfl rfl (fun h => h)
  · refine z_iload_n 9 dX2_plateOf_9 rfl ?_
    refine z_bipush 10 dX2_plateOf_10 zbp_17 ?_
    refine z_imul 12 dX2_plateOf_12 ?_
    refine z_aload_n 13 dX2_plateOf_13 rfl ?_
    refine z_getR 14 (r := (a0 + 3)) dX2_plateOf_14 fl_X2_18 ha0.1 rfl ?_
    refine z_iload_n 17 dX2_plateOf_17 rfl ?_
    refine z_iconst 18 dX2_plateOf_18 zci_4 ?_
    refine z_imul 19 dX2_plateOf_19 ?_
    refine z_iload_n 20 dX2_plateOf_20 rfl ?_
    refine z_iadd 21 dX2_plateOf_21 ?_
    refine z_iaload 22 dX2_plateOf_22 ha0.2.2.2 ?_
    refine z_iadd 23 dX2_plateOf_23 ?_
    refine zk_nmI (fun x18 => ?_)
    refine z_istore_n 24 (L' := [some (.ref a0), some (.int p1), some (.int x18), some (.int x14)]) dX2_plateOf_24 (by decide) rfl ?_
    refine z_iinc 25 (v := (x14 + (1 : Int32))) (L' := [some (.ref a0), some (.int p1), some (.int x18), some (.int (x14 + (1 : Int32)))]) dX2_plateOf_25 rfl (zinc zci_1 _) (by decide) rfl ?_
    refine z_goto 28 4 dX2_plateOf_28 (by decide) ?_
    exact zk_weak (L' := [some (.ref a0), some (.int p1), some (.int x18), some (.int (x14 + (1 : Int32)))]) (zLe_s (zLe_s (zLe_s (zLe_s zLe_nl)))) (hrec15 (x18, (x14 + (1 : Int32))))
def fX2_remove (a0 : Nat) (p1 : Int32) (M : zM) : Option zM :=
  lt ((((M.1 a0 0) - p1) - (1 : Int32))) (fun (x1 : Int32) => grd (zcp (p1 + (1 : Int32)) p1 x1 10 10) (lt (zwA M (a0 + 1) (va_cpy (M.1 (a0 + 1)) (M.1 (a0 + 1)) (zn (p1 + (1 : Int32))) (zn p1) (zn x1))) (fun (M2 : zM) => grd (zcp (p1 + (1 : Int32)) p1 x1 10 10) (lt (zwA M2 (a0 + 2) (va_cpy (M2.1 (a0 + 2)) (M2.1 (a0 + 2)) (zn (p1 + (1 : Int32))) (zn p1) (zn x1))) (fun (M3 : zM) => grd (zcp ((p1 + (1 : Int32)) * (4 : Int32)) (p1 * (4 : Int32)) (x1 * (4 : Int32)) 40 40) (lt (zwA M3 (a0 + 3) (va_cpy (M3.1 (a0 + 3)) (M3.1 (a0 + 3)) (zn ((p1 + (1 : Int32)) * (4 : Int32))) (zn (p1 * (4 : Int32))) (zn (x1 * (4 : Int32))))) (fun (M4 : zM) => lt (zwI M4 a0 0 ((M4.1 a0 0) - (1 : Int32))) (fun (M5 : zM) => some M5))))))))
set_option maxHeartbeats 4000000 in
set_option maxRecDepth 100000 in
theorem tX2_remove (E : zE) (Y : zY) (a0 : Nat) (ha0 : zsX2 Y a0) (p1 : Int32) (M : zM) : zFV E mX2_remove [.ref a0, .int p1] Y M (fX2_remove a0 p1 M) := by
  refine zF_of (L := [some (.ref a0), some (.int p1), none]) plX2 (Nat.le_of_ble_eq_true rfl) rfl (fun post => ?_)
  unfold fX2_remove
  refine z_aload_n 0 dX2_remove_0 rfl ?_
  refine z_getI 1 dX2_remove_1 fl_X2_21 ha0.1 rfl ?_
  refine z_iload_n 4 dX2_remove_4 rfl ?_
  refine z_isub 5 dX2_remove_5 ?_
  refine z_iconst 6 dX2_remove_6 zci_1 ?_
  refine z_isub 7 dX2_remove_7 ?_
  refine zk_nmI (fun x1 => ?_)
  refine z_istore_n 8 (L' := [some (.ref a0), some (.int p1), some (.int x1)]) dX2_remove_8 (by decide) rfl ?_
  refine z_aload_n 9 dX2_remove_9 rfl ?_
  refine z_getR 10 (r := (a0 + 1)) dX2_remove_10 fl_X2_9 ha0.1 rfl ?_
  refine z_iload_n 13 dX2_remove_13 rfl ?_
  refine z_iconst 14 dX2_remove_14 zci_1 ?_
  refine z_iadd 15 dX2_remove_15 ?_
  refine z_aload_n 16 dX2_remove_16 rfl ?_
  refine z_getR 17 (r := (a0 + 1)) dX2_remove_17 fl_X2_9 ha0.1 rfl ?_
  refine z_iload_n 20 dX2_remove_20 rfl ?_
  refine z_iload_n 21 dX2_remove_21 rfl ?_
  refine z_copyi 22 dX2_remove_22 ac_X2_29 ac_native ac_static ac_init ha0.2.1 ha0.2.1 ⟨Nat.le_of_ble_eq_true rfl, Nat.le_of_ble_eq_true rfl⟩ ?_
  refine zk_nmM (fun M2 => ?_)
  refine z_aload_n 25 dX2_remove_25 rfl ?_
  refine z_getR 26 (r := (a0 + 2)) dX2_remove_26 fl_X2_15 ha0.1 rfl ?_
  refine z_iload_n 29 dX2_remove_29 rfl ?_
  refine z_iconst 30 dX2_remove_30 zci_1 ?_
  refine z_iadd 31 dX2_remove_31 ?_
  refine z_aload_n 32 dX2_remove_32 rfl ?_
  refine z_getR 33 (r := (a0 + 2)) dX2_remove_33 fl_X2_15 ha0.1 rfl ?_
  refine z_iload_n 36 dX2_remove_36 rfl ?_
  refine z_iload_n 37 dX2_remove_37 rfl ?_
  refine z_copyi 38 dX2_remove_38 ac_X2_29 ac_native ac_static ac_init ha0.2.2.1 ha0.2.2.1 ⟨Nat.le_of_ble_eq_true rfl, Nat.le_of_ble_eq_true rfl⟩ ?_
  refine zk_nmM (fun M3 => ?_)
  refine z_aload_n 41 dX2_remove_41 rfl ?_
  refine z_getR 42 (r := (a0 + 3)) dX2_remove_42 fl_X2_18 ha0.1 rfl ?_
  refine z_iload_n 45 dX2_remove_45 rfl ?_
  refine z_iconst 46 dX2_remove_46 zci_1 ?_
  refine z_iadd 47 dX2_remove_47 ?_
  refine z_iconst 48 dX2_remove_48 zci_4 ?_
  refine z_imul 49 dX2_remove_49 ?_
  refine z_aload_n 50 dX2_remove_50 rfl ?_
  refine z_getR 51 (r := (a0 + 3)) dX2_remove_51 fl_X2_18 ha0.1 rfl ?_
  refine z_iload_n 54 dX2_remove_54 rfl ?_
  refine z_iconst 55 dX2_remove_55 zci_4 ?_
  refine z_imul 56 dX2_remove_56 ?_
  refine z_iload_n 57 dX2_remove_57 rfl ?_
  refine z_iconst 58 dX2_remove_58 zci_4 ?_
  refine z_imul 59 dX2_remove_59 ?_
  refine z_copyi 60 dX2_remove_60 ac_X2_29 ac_native ac_static ac_init ha0.2.2.2 ha0.2.2.2 ⟨Nat.le_of_ble_eq_true rfl, Nat.le_of_ble_eq_true rfl⟩ ?_
  refine zk_nmM (fun M4 => ?_)
  refine z_aload_n 63 dX2_remove_63 rfl ?_
  refine z_dup 64 dX2_remove_64 rfl ?_
  refine z_getI 65 dX2_remove_65 fl_X2_21 ha0.1 rfl ?_
  refine z_iconst 68 dX2_remove_68 zci_1 ?_
  refine z_isub 69 dX2_remove_69 ?_
  refine z_put 70 dX2_remove_70 fp_X2_21 ha0.1 rfl (zput_i _) ?_
  refine zk_nmM (fun M5 => ?_)
  exact z_return 73 dX2_remove_73 rfl (fun h => h)
def fX2_copyFrom (a0 : Nat) (a1 : Nat) (M : zM) : Option zM :=
  lt (zwI M a0 0 (M.1 a1 0)) (fun (M1 : zM) => grd (zcp (0 : Int32) (0 : Int32) (10 : Int32) 10 10) (lt (zwA M1 (a0 + 1) (va_cpy (M1.1 (a1 + 1)) (M1.1 (a0 + 1)) (zn (0 : Int32)) (zn (0 : Int32)) (zn (10 : Int32)))) (fun (M2 : zM) => grd (zcp (0 : Int32) (0 : Int32) (10 : Int32) 10 10) (lt (zwA M2 (a0 + 2) (va_cpy (M2.1 (a1 + 2)) (M2.1 (a0 + 2)) (zn (0 : Int32)) (zn (0 : Int32)) (zn (10 : Int32)))) (fun (M3 : zM) => grd (zcp (0 : Int32) (0 : Int32) (40 : Int32) 40 40) (lt (zwA M3 (a0 + 3) (va_cpy (M3.1 (a1 + 3)) (M3.1 (a0 + 3)) (zn (0 : Int32)) (zn (0 : Int32)) (zn (40 : Int32)))) (fun (M4 : zM) => some M4)))))))
set_option maxHeartbeats 4000000 in
set_option maxRecDepth 100000 in
theorem tX2_copyFrom (E : zE) (Y : zY) (a0 : Nat) (ha0 : zsX2 Y a0) (a1 : Nat) (ha1 : zsX2 Y a1) (M : zM) : zFV E mX2_copyFrom [.ref a0, .ref a1] Y M (fX2_copyFrom a0 a1 M) := by
  refine zF_of (L := [some (.ref a0), some (.ref a1)]) plX2 (Nat.le_of_ble_eq_true rfl) rfl (fun post => ?_)
  unfold fX2_copyFrom
  refine z_aload_n 0 dX2_copyFrom_0 rfl ?_
  refine z_aload_n 1 dX2_copyFrom_1 rfl ?_
  refine z_getI 2 dX2_copyFrom_2 fl_X2_21 ha1.1 rfl ?_
  refine z_put 5 dX2_copyFrom_5 fp_X2_21 ha0.1 rfl (zput_i _) ?_
  refine zk_nmM (fun M1 => ?_)
  refine z_aload_n 8 dX2_copyFrom_8 rfl ?_
  refine z_getR 9 (r := (a1 + 1)) dX2_copyFrom_9 fl_X2_9 ha1.1 rfl ?_
  refine z_iconst 12 dX2_copyFrom_12 zci_0 ?_
  refine z_aload_n 13 dX2_copyFrom_13 rfl ?_
  refine z_getR 14 (r := (a0 + 1)) dX2_copyFrom_14 fl_X2_9 ha0.1 rfl ?_
  refine z_iconst 17 dX2_copyFrom_17 zci_0 ?_
  refine z_bipush 18 dX2_copyFrom_18 zbp_10 ?_
  refine z_copyi 20 dX2_copyFrom_20 ac_X2_29 ac_native ac_static ac_init ha1.2.1 ha0.2.1 ⟨Nat.le_of_ble_eq_true rfl, Nat.le_of_ble_eq_true rfl⟩ ?_
  refine zk_nmM (fun M2 => ?_)
  refine z_aload_n 23 dX2_copyFrom_23 rfl ?_
  refine z_getR 24 (r := (a1 + 2)) dX2_copyFrom_24 fl_X2_15 ha1.1 rfl ?_
  refine z_iconst 27 dX2_copyFrom_27 zci_0 ?_
  refine z_aload_n 28 dX2_copyFrom_28 rfl ?_
  refine z_getR 29 (r := (a0 + 2)) dX2_copyFrom_29 fl_X2_15 ha0.1 rfl ?_
  refine z_iconst 32 dX2_copyFrom_32 zci_0 ?_
  refine z_bipush 33 dX2_copyFrom_33 zbp_10 ?_
  refine z_copyi 35 dX2_copyFrom_35 ac_X2_29 ac_native ac_static ac_init ha1.2.2.1 ha0.2.2.1 ⟨Nat.le_of_ble_eq_true rfl, Nat.le_of_ble_eq_true rfl⟩ ?_
  refine zk_nmM (fun M3 => ?_)
  refine z_aload_n 38 dX2_copyFrom_38 rfl ?_
  refine z_getR 39 (r := (a1 + 3)) dX2_copyFrom_39 fl_X2_18 ha1.1 rfl ?_
  refine z_iconst 42 dX2_copyFrom_42 zci_0 ?_
  refine z_aload_n 43 dX2_copyFrom_43 rfl ?_
  refine z_getR 44 (r := (a0 + 3)) dX2_copyFrom_44 fl_X2_18 ha0.1 rfl ?_
  refine z_iconst 47 dX2_copyFrom_47 zci_0 ?_
  refine z_bipush 48 dX2_copyFrom_48 zbp_40 ?_
  refine z_copyi 50 dX2_copyFrom_50 ac_X2_29 ac_native ac_static ac_init ha1.2.2.2 ha0.2.2.2 ⟨Nat.le_of_ble_eq_true rfl, Nat.le_of_ble_eq_true rfl⟩ ?_
  refine zk_nmM (fun M4 => ?_)
  exact z_return 53 dX2_copyFrom_53 rfl (fun h => h)
def fX2_areUnlikeColours (p1 : Int32) (p2 : Int32) : Bool :=
  if p1 = 0 then (false) else (if p2 = 0 then (false) else (if p1 = p2 then (false) else (true)))
set_option maxHeartbeats 4000000 in
set_option maxRecDepth 100000 in
theorem tX2_areUnlikeColours (E : zE) (Y : zY) (p1 : Int32) (p2 : Int32) (M : zM) : zFb E mX2_areUnlikeColours [.int p1, .int p2] Y M (some (fX2_areUnlikeColours p1 p2)) := by
  refine zF_of (L := [some (.int p1), some (.int p2)]) plX2 (Nat.le_of_ble_eq_true rfl) rfl (fun post => ?_)
  show zK E _ post 0 _ _ _ (lt (fX2_areUnlikeColours p1 p2) some) _
  unfold fX2_areUnlikeColours
  refine z_iload_n 0 dX2_areUnlikeColours_0 rfl ?_
  refine z_ifeqv 1 17 dX2_areUnlikeColours_1 (by decide) ?_ ?_
  · refine z_iconst 17 dX2_areUnlikeColours_17 zci_0 ?_
    exact z_ireturn 18 (v := zb false) dX2_areUnlikeColours_18 rfl (zput_b false).1 (fun h => h)
  · refine z_iload_n 4 dX2_areUnlikeColours_4 rfl ?_
    refine z_ifeqv 5 17 dX2_areUnlikeColours_5 (by decide) ?_ ?_
    · refine z_iconst 17 dX2_areUnlikeColours_17 zci_0 ?_
      exact z_ireturn 18 (v := zb false) dX2_areUnlikeColours_18 rfl (zput_b false).1 (fun h => h)
    · refine z_iload_n 8 dX2_areUnlikeColours_8 rfl ?_
      refine z_iload_n 9 dX2_areUnlikeColours_9 rfl ?_
      refine z_iceqv 10 17 dX2_areUnlikeColours_10 (by decide) ?_ ?_
      · refine z_iconst 17 dX2_areUnlikeColours_17 zci_0 ?_
        exact z_ireturn 18 (v := zb false) dX2_areUnlikeColours_18 rfl (zput_b false).1 (fun h => h)
      · refine z_iconst 13 dX2_areUnlikeColours_13 zci_1 ?_
        refine z_goto 14 18 dX2_areUnlikeColours_14 (by decide) ?_
        exact z_ireturn 18 (v := zb true) dX2_areUnlikeColours_18 rfl (zput_b true).1 (fun h => h)
def fX2_isDoubtful (p1 : Int32) : Bool :=
  if p1 ≤ (8 : Int32) then (false) else (true)
set_option maxHeartbeats 4000000 in
set_option maxRecDepth 100000 in
theorem tX2_isDoubtful (E : zE) (Y : zY) (p1 : Int32) (M : zM) : zFb E mX2_isDoubtful [.int p1] Y M (some (fX2_isDoubtful p1)) := by
  refine zF_of (L := [some (.int p1)]) plX2 (Nat.le_of_ble_eq_true rfl) rfl (fun post => ?_)
  show zK E _ post 0 _ _ _ (lt (fX2_isDoubtful p1) some) _
  unfold fX2_isDoubtful
  refine z_iload_n 0 dX2_isDoubtful_0 rfl ?_
  refine z_bipush 1 dX2_isDoubtful_1 zbp_8 ?_
  refine z_iclev 3 10 dX2_isDoubtful_3 (by decide) ?_ ?_
  · refine z_iconst 10 dX2_isDoubtful_10 zci_0 ?_
    exact z_ireturn 11 (v := zb false) dX2_isDoubtful_11 rfl (zput_b false).1 (fun h => h)
  · refine z_iconst 6 dX2_isDoubtful_6 zci_1 ?_
    refine z_goto 7 11 dX2_isDoubtful_7 (by decide) ?_
    exact z_ireturn 11 (v := zb true) dX2_isDoubtful_11 rfl (zput_b true).1 (fun h => h)
def fX2_mayBeOneCar (a0 : Nat) (p1 : Int32) (p2 : Int32) (M : zM) : Option Bool :=
  grd (zix p1 10) (grd (zix p2 10) (lt (fX2_areUnlikeColours (M.1 (a0 + 2) (zn p1)) (M.1 (a0 + 2) (zn p2))) (fun (b1 : Bool) => if b1 = false then (zlp (α := Int32) (fun rec13 => (fun (x12 : Int32) => if (4 : Int32) ≤ x12 then (some true) else (grd (zix ((p1 * (4 : Int32)) + x12) 40) (lt ((M.1 (a0 + 3) (zn ((p1 * (4 : Int32)) + x12)))) (fun (x14 : Int32) => grd (zix ((p2 * (4 : Int32)) + x12) 40) (lt ((M.1 (a0 + 3) (zn ((p2 * (4 : Int32)) + x12)))) (fun (x15 : Int32) => sq (α := Bool) (jn (α := Unit) (fun (_ : Unit) => some true) (fun k25 => if x14 = 0 then (k25 ()) else (if x15 = 0 then (k25 ()) else (lt (fX2_isDoubtful x14) (fun (b26 : Bool) => if b26 = false then (lt (fX2_isDoubtful x15) (fun (b27 : Bool) => if b27 = false then (some false) else (k25 ()))) else (k25 ())))))) (fun (b21 : Bool) => jn (α := Unit) (fun (_ : Unit) => rec13 (x12 + (1 : Int32))) (fun k22 => if b21 = false then (if x14 = x15 then (k22 ()) else (some false)) else (k22 ())))))))))) zFu (0 : Int32)) else (some false))))
set_option maxHeartbeats 4000000 in
set_option maxRecDepth 100000 in
theorem tX2_mayBeOneCar (E : zE) (Y : zY) (a0 : Nat) (ha0 : zsX2 Y a0) (p1 : Int32) (p2 : Int32) (M : zM) : zFb E mX2_mayBeOneCar [.ref a0, .int p1, .int p2] Y M (fX2_mayBeOneCar a0 p1 p2 M) := by
  refine zF_of (L := [some (.ref a0), some (.int p1), some (.int p2), none, none, none, none]) plX2 (Nat.le_of_ble_eq_true rfl) rfl (fun post => ?_)
  unfold fX2_mayBeOneCar
  refine z_aload_n 0 dX2_mayBeOneCar_0 rfl ?_
  refine z_getR 1 (r := (a0 + 2)) dX2_mayBeOneCar_1 fl_X2_15 ha0.1 rfl ?_
  refine z_iload_n 4 dX2_mayBeOneCar_4 rfl ?_
  refine z_iaload 5 dX2_mayBeOneCar_5 ha0.2.2.1 ?_
  refine z_aload_n 6 dX2_mayBeOneCar_6 rfl ?_
  refine z_getR 7 (r := (a0 + 2)) dX2_mayBeOneCar_7 fl_X2_15 ha0.1 rfl ?_
  refine z_iload_n 10 dX2_mayBeOneCar_10 rfl ?_
  refine z_iaload 11 dX2_mayBeOneCar_11 ha0.2.2.1 ?_
  refine z_ctb (zat_S2 12 dX2_mayBeOneCar_12 lk_X2_35 ⟨Nat.le_of_ble_eq_true rfl, Nat.le_of_ble_eq_true rfl⟩ (Nat.le_of_ble_eq_true rfl)) (tX2_areUnlikeColours E Y (M.1 (a0 + 2) (zn p1)) (M.1 (a0 + 2) (zn p2)) M) (fun b1 => ?_)
  refine z_ifeqb 15 20 dX2_mayBeOneCar_15 (by decide) (fun _ => ?_) (fun _ => ?_)
  · refine z_iconst 20 dX2_mayBeOneCar_20 zci_0 ?_
    refine z_istore_n 21 (L' := [some (.ref a0), some (.int p1), some (.int p2), some (.int (0 : Int32)), none, none, none]) dX2_mayBeOneCar_21 (by decide) rfl ?_
    refine zk_weak (L' := [some (.ref a0), some (.int p1), some (.int p2), some (.int (0 : Int32)), none, none, none]) (zLe_s (zLe_s (zLe_s (zLe_s (zLe_n (zLe_n (zLe_n zLe_nl))))))) (zk_lp (α := Int32) 22 (fun (x12 : Int32) => [some (.ref a0), some (.int p1), some (.int p2), some (.int x12), none, none, none]) (fun (x12 : Int32) => (Y, M)) ?_ zFu (0 : Int32))
    intro rec13 hrec13
    intro x12
    refine z_iload_n 22 dX2_mayBeOneCar_22 rfl ?_
    refine z_iconst 23 dX2_mayBeOneCar_23 zci_4 ?_
    refine z_icge 24 104 dX2_mayBeOneCar_24 (by decide) (fun _ => ?_) (fun _ => ?_)
    · refine z_iconst 104 dX2_mayBeOneCar_104 zci_1 ?_
      exact z_ireturn 105 (v := zb true) dX2_mayBeOneCar_105 rfl (zput_b true).1 (fun h => h)
    · refine z_aload_n 27 dX2_mayBeOneCar_27 rfl ?_
      refine z_getR 28 (r := (a0 + 3)) dX2_mayBeOneCar_28 fl_X2_18 ha0.1 rfl ?_
      refine z_iload_n 31 dX2_mayBeOneCar_31 rfl ?_
      refine z_iconst 32 dX2_mayBeOneCar_32 zci_4 ?_
      refine z_imul 33 dX2_mayBeOneCar_33 ?_
      refine z_iload_n 34 dX2_mayBeOneCar_34 rfl ?_
      refine z_iadd 35 dX2_mayBeOneCar_35 ?_
      refine z_iaload 36 dX2_mayBeOneCar_36 ha0.2.2.2 ?_
      refine zk_nmI (fun x14 => ?_)
      refine z_istore 37 (L' := [some (.ref a0), some (.int p1), some (.int p2), some (.int x12), some (.int x14), none, none]) dX2_mayBeOneCar_37 (by decide) rfl ?_
      refine z_aload_n 39 dX2_mayBeOneCar_39 rfl ?_
      refine z_getR 40 (r := (a0 + 3)) dX2_mayBeOneCar_40 fl_X2_18 ha0.1 rfl ?_
      refine z_iload_n 43 dX2_mayBeOneCar_43 rfl ?_
      refine z_iconst 44 dX2_mayBeOneCar_44 zci_4 ?_
      refine z_imul 45 dX2_mayBeOneCar_45 ?_
      refine z_iload_n 46 dX2_mayBeOneCar_46 rfl ?_
      refine z_iadd 47 dX2_mayBeOneCar_47 ?_
      refine z_iaload 48 dX2_mayBeOneCar_48 ha0.2.2.2 ?_
      refine zk_nmI (fun x15 => ?_)
      refine z_istore 49 (L' := [some (.ref a0), some (.int p1), some (.int p2), some (.int x12), some (.int x14), some (.int x15), none]) dX2_mayBeOneCar_49 (by decide) rfl ?_
      refine z_iload 51 dX2_mayBeOneCar_51 rfl ?_
      refine zk_sqj (α := Bool) 82 (fun (b21 : Bool) => [some (.ref a0), some (.int p1), some (.int p2), some (.int x12), some (.int x14), some (.int x15), none]) (fun (b21 : Bool) => [.int (zb b21)]) (fun (b21 : Bool) => (Y, M)) ?_ ?_
      · intro b21
        refine z_istore 82 (L' := [some (.ref a0), some (.int p1), some (.int p2), some (.int x12), some (.int x14), some (.int x15), some (.int (zb b21))]) dX2_mayBeOneCar_82 (by decide) rfl ?_
        refine z_iload 84 dX2_mayBeOneCar_84 rfl ?_
        refine zk_jn (α := Unit) 98 (fun (_ : Unit) => [some (.ref a0), some (.int p1), some (.int p2), some (.int x12), none, none, none]) (fun (_ : Unit) => []) (fun (_ : Unit) => (Y, M)) ?_ ?_
        · intro _
          refine z_iinc 98 (v := (x12 + (1 : Int32))) (L' := [some (.ref a0), some (.int p1), some (.int p2), some (.int (x12 + (1 : Int32))), none, none, none]) dX2_mayBeOneCar_98 rfl (zinc zci_1 _) (by decide) rfl ?_
          refine z_goto 101 22 dX2_mayBeOneCar_101 (by decide) ?_
          exact zk_weak (L' := [some (.ref a0), some (.int p1), some (.int p2), some (.int (x12 + (1 : Int32))), none, none, none]) (zLe_s (zLe_s (zLe_s (zLe_s (zLe_n (zLe_n (zLe_n zLe_nl))))))) (hrec13 (x12 + (1 : Int32)))
        · intro k22 hk22
          refine z_ifneb 86 98 dX2_mayBeOneCar_86 (by decide) (fun _ => ?_) (fun _ => ?_)
          · refine z_iload 89 dX2_mayBeOneCar_89 rfl ?_
            refine z_iload 91 dX2_mayBeOneCar_91 rfl ?_
            refine z_iceq 93 98 dX2_mayBeOneCar_93 (by decide) (fun _ => ?_) (fun _ => ?_)
            · exact zk_weak (L' := [some (.ref a0), some (.int p1), some (.int p2), some (.int x12), none, none, none]) (zLe_s (zLe_s (zLe_s (zLe_s (zLe_n (zLe_n (zLe_n zLe_nl))))))) (hk22 ())
            · refine z_iconst 96 dX2_mayBeOneCar_96 zci_0 ?_
              exact z_ireturn 97 (v := zb false) dX2_mayBeOneCar_97 rfl (zput_b false).1 (fun h => h)
          · exact zk_weak (L' := [some (.ref a0), some (.int p1), some (.int p2), some (.int x12), none, none, none]) (zLe_s (zLe_s (zLe_s (zLe_s (zLe_n (zLe_n (zLe_n zLe_nl))))))) (hk22 ())
      · refine zk_jn (α := Unit) 77 (fun (_ : Unit) => [some (.ref a0), some (.int p1), some (.int p2), some (.int x12), some (.int x14), some (.int x15), none]) (fun (_ : Unit) => []) (fun (_ : Unit) => (Y, M)) ?_ ?_
        · intro _
          refine z_iconst 77 dX2_mayBeOneCar_77 zci_1 ?_
          refine z_goto 78 82 dX2_mayBeOneCar_78 (by decide) ?_
          exact zk_exitw (L' := [some (.ref a0), some (.int p1), some (.int p2), some (.int x12), some (.int x14), some (.int x15), none]) (zLe_s (zLe_s (zLe_s (zLe_s (zLe_s (zLe_s (zLe_n zLe_nl))))))) (fun h => h)
        · intro k25 hk25
          refine z_ifeq 53 77 dX2_mayBeOneCar_53 (by decide) (fun _ => ?_) (fun _ => ?_)
          · exact zk_weak (L' := [some (.ref a0), some (.int p1), some (.int p2), some (.int x12), some (.int x14), some (.int x15), none]) (zLe_s (zLe_s (zLe_s (zLe_s (zLe_s (zLe_s (zLe_n zLe_nl))))))) (hk25 ())
          · refine z_iload 56 dX2_mayBeOneCar_56 rfl ?_
            refine z_ifeq 58 77 dX2_mayBeOneCar_58 (by decide) (fun _ => ?_) (fun _ => ?_)
            · exact zk_weak (L' := [some (.ref a0), some (.int p1), some (.int p2), some (.int x12), some (.int x14), some (.int x15), none]) (zLe_s (zLe_s (zLe_s (zLe_s (zLe_s (zLe_s (zLe_n zLe_nl))))))) (hk25 ())
            · refine z_iload 61 dX2_mayBeOneCar_61 rfl ?_
              refine z_ctb (zat_S1 63 dX2_mayBeOneCar_63 lk_X2_39 ⟨Nat.le_of_ble_eq_true rfl, Nat.le_of_ble_eq_true rfl⟩ (Nat.le_of_ble_eq_true rfl)) (tX2_isDoubtful E Y x14 M) (fun b26 => ?_)
              refine z_ifneb 66 77 dX2_mayBeOneCar_66 (by decide) (fun _ => ?_) (fun _ => ?_)
              · refine z_iload 69 dX2_mayBeOneCar_69 rfl ?_
                refine z_ctb (zat_S1 71 dX2_mayBeOneCar_71 lk_X2_39 ⟨Nat.le_of_ble_eq_true rfl, Nat.le_of_ble_eq_true rfl⟩ (Nat.le_of_ble_eq_true rfl)) (tX2_isDoubtful E Y x15 M) (fun b27 => ?_)
                refine z_ifeqb 74 81 dX2_mayBeOneCar_74 (by decide) (fun _ => ?_) (fun _ => ?_)
                · refine z_iconst 81 dX2_mayBeOneCar_81 zci_0 ?_
                  exact zk_exitw (L' := [some (.ref a0), some (.int p1), some (.int p2), some (.int x12), some (.int x14), some (.int x15), none]) (zLe_s (zLe_s (zLe_s (zLe_s (zLe_s (zLe_s (zLe_n zLe_nl))))))) (fun h => h)
                · exact zk_weak (L' := [some (.ref a0), some (.int p1), some (.int p2), some (.int x12), some (.int x14), some (.int x15), none]) (zLe_s (zLe_s (zLe_s (zLe_s (zLe_s (zLe_s (zLe_n zLe_nl))))))) (hk25 ())
              · exact zk_weak (L' := [some (.ref a0), some (.int p1), some (.int p2), some (.int x12), some (.int x14), some (.int x15), none]) (zLe_s (zLe_s (zLe_s (zLe_s (zLe_s (zLe_s (zLe_n zLe_nl))))))) (hk25 ())
  · refine z_iconst 18 dX2_mayBeOneCar_18 zci_0 ?_
    exact z_ireturn 19 (v := zb false) dX2_mayBeOneCar_19 rfl (zput_b false).1 (fun h => h)
def fX2_letterOf (p1 : Int32) : Int32 :=
  (zrm_i (p1 - (1 : Int32)) (8 : Int32))
set_option maxHeartbeats 4000000 in
set_option maxRecDepth 100000 in
theorem tX2_letterOf (E : zE) (Y : zY) (p1 : Int32) (M : zM) : zFi E mX2_letterOf [.int p1] Y M (some (fX2_letterOf p1)) := by
  refine zF_of (L := [some (.int p1)]) plX2 (Nat.le_of_ble_eq_true rfl) rfl (fun post => ?_)
  show zK E _ post 0 _ _ _ (lt (fX2_letterOf p1) some) _
  unfold fX2_letterOf
  refine z_iload_n 0 dX2_letterOf_0 rfl ?_
  refine z_iconst 1 dX2_letterOf_1 zci_1 ?_
  refine z_isub 2 dX2_letterOf_2 ?_
  refine z_bipush 3 dX2_letterOf_3 zbp_8 ?_
  refine z_iremc 5 dX2_letterOf_5 (by decide) ?_
  exact z_ireturn 6 dX2_letterOf_6 rfl rfl (fun h => h)
def fJ7_fill_d0a16 (a1 : Nat) (n1 : Nat) (p2 : Int64) (M : zM) : Option zM :=
  lt ((Int32.ofNat n1)) (fun (x1 : Int32) => zlp (α := Int32 × zM) (fun rec10 => (fun (u14 : Int32 × zM) => match u14 with | (x8, M9) => if x1 ≤ x8 then (some M9) else (grd (zix x8 n1) (lt (zwL M9 a1 (zn x8) p2) (fun (M13 : zM) => rec10 ((x8 + (1 : Int32)), M13)))))) zFu ((0 : Int32), M))
set_option maxHeartbeats 4000000 in
set_option maxRecDepth 100000 in
theorem tJ7_fill_d0a16 (E : zE) (Y : zY) (a1 : Nat) (n1 : Nat) (ha1 : Y[a1]? = some (.inr (1, n1, []))) (p2 : Int64) (M : zM) : zFV E mJ7_fill_d0a16 [.ref a1, .long p2] Y M (fJ7_fill_d0a16 a1 n1 p2 M) := by
  refine zF_of (L := [some (.ref a1), some (.long p2), none, none, none]) plJ7 (Nat.le_of_ble_eq_true rfl) rfl (fun post => ?_)
  unfold fJ7_fill_d0a16
  refine z_iconst 0 dJ7_fill_d0a16_0 zci_0 ?_
  refine z_istore_n 1 (L' := [some (.ref a1), some (.long p2), none, some (.int (0 : Int32)), none]) dJ7_fill_d0a16_1 (by decide) rfl ?_
  refine z_aload_n 2 dJ7_fill_d0a16_2 rfl ?_
  refine z_alen 3 dJ7_fill_d0a16_3 ha1 (by decide) ?_
  refine zk_nmI (fun x1 => ?_)
  refine z_istore 4 (L' := [some (.ref a1), some (.long p2), none, some (.int (0 : Int32)), some (.int x1)]) dJ7_fill_d0a16_4 (by decide) rfl ?_
  refine zk_weak (L' := [some (.ref a1), some (.long p2), none, some (.int (0 : Int32)), some (.int x1)]) (zLe_s (zLe_s (zLe_n (zLe_s (zLe_s zLe_nl))))) (zk_lp (α := Int32 × zM) 6 (fun (u11 : Int32 × zM) => match u11 with | (x8, M9) => [some (.ref a1), some (.long p2), none, some (.int x8), some (.int x1)]) (fun (u12 : Int32 × zM) => match u12 with | (x8, M9) => (Y, M9)) ?_ zFu ((0 : Int32), M))
  intro rec10 hrec10
  intro u15
  obtain ⟨x8, M9⟩ := u15
  try dsimp only
  refine z_iload_n 6 dJ7_fill_d0a16_6 rfl ?_
  refine z_iload 7 dJ7_fill_d0a16_7 rfl ?_
  refine z_icge 9 22 dJ7_fill_d0a16_9 (by decide) (fun _ => ?_) (fun _ => ?_)
  · exact z_return 22 dJ7_fill_d0a16_22 rfl (fun h => h)
  · refine z_aload_n 12 dJ7_fill_d0a16_12 rfl ?_
    refine z_iload_n 13 dJ7_fill_d0a16_13 rfl ?_
    refine z_lload_n 14 dJ7_fill_d0a16_14 rfl ?_
    refine z_lastore 15 dJ7_fill_d0a16_15 ha1 ?_
    refine zk_nmM (fun M13 => ?_)
    refine z_iinc 16 (v := (x8 + (1 : Int32))) (L' := [some (.ref a1), some (.long p2), none, some (.int (x8 + (1 : Int32))), some (.int x1)]) dJ7_fill_d0a16_16 rfl (zinc zci_1 _) (by decide) rfl ?_
    refine z_goto 19 6 dJ7_fill_d0a16_19 (by decide) ?_
    exact zk_weak (L' := [some (.ref a1), some (.long p2), none, some (.int (x8 + (1 : Int32))), some (.int x1)]) (zLe_s (zLe_s (zLe_n (zLe_s (zLe_s zLe_nl))))) (hrec10 ((x8 + (1 : Int32)), M13))
def fX3_clear (M : zM) : Option zM :=
  sq (fJ7_fill_d0a16 60 100 (0 : Int64) M) (fun (M1 : zM) => some M1)
set_option maxHeartbeats 4000000 in
set_option maxRecDepth 100000 in
theorem tX3_clear (E : zE)  (M : zM) : zFV E mX3_clear [.ref 59] zY0 M (fX3_clear M) := by
  refine zF_of (L := [some (.ref 59)]) plX3 (Nat.le_of_ble_eq_true rfl) rfl (fun post => ?_)
  unfold fX3_clear
  refine z_aload_n 0 dX3_clear_0 rfl ?_
  refine z_getR 1 (r := 60) dX3_clear_1 fl_X3_9 zy_59 rfl ?_
  refine z_lconst 4 dX3_clear_4 zlc_0 ?_
  refine z_cV (zat_S2 5 dX3_clear_5 lk_X3_31 ⟨Nat.le_of_ble_eq_true rfl, Nat.le_of_ble_eq_true rfl⟩ (Nat.le_of_ble_eq_true rfl)) (tJ7_fill_d0a16 E zY0 60 100 zy_60 (0 : Int64) M) (fun M1 => ?_)
  exact z_return 8 dX3_clear_8 rfl (fun h => h)
