def fX3_setWeight (p1 : Int32) (p2 : Int32) (p3 : Int64) (M : zM) : Option zM :=
  grd (zix ((p1 * (10 : Int32)) + p2) 100) (lt (zwL M 60 (zn ((p1 * (10 : Int32)) + p2)) (zmnl (0 : Int64) p3)) (fun (M1 : zM) => some M1))
set_option maxHeartbeats 4000000 in
set_option maxRecDepth 100000 in
theorem tX3_setWeight (E : zE) (p1 : Int32) (p2 : Int32) (p3 : Int64) (M : zM) : zFV E mX3_setWeight [.ref 59, .int p1, .int p2, .long p3] zY0 M (fX3_setWeight p1 p2 p3 M) := by
  refine zF_of (L := [some (.ref 59), some (.int p1), some (.int p2), some (.long p3), none]) plX3 (Nat.le_of_ble_eq_true rfl) rfl (fun post => ?_)
  unfold fX3_setWeight
  refine z_aload_n 0 dX3_setWeight_0 rfl ?_
  refine z_getR 1 (r := 60) dX3_setWeight_1 fl_X3_9 zy_59 rfl ?_
  refine z_iload_n 4 dX3_setWeight_4 rfl ?_
  refine z_bipush 5 dX3_setWeight_5 zbp_10 ?_
  refine z_imul 7 dX3_setWeight_7 ?_
  refine z_iload_n 8 dX3_setWeight_8 rfl ?_
  refine z_iadd 9 dX3_setWeight_9 ?_
  refine z_lconst 10 dX3_setWeight_10 zlc_0 ?_
  refine z_lload_n 11 dX3_setWeight_11 rfl ?_
  refine z_mminl 12 dX3_setWeight_12 ml_X3_37 ml_mminl.1 ml_mminl.2.1 ml_mminl.2.2 ⟨Nat.le_of_ble_eq_true rfl, Nat.le_of_ble_eq_true rfl⟩ ?_
  refine z_lastore 15 dX3_setWeight_15 zy_60 ?_
  refine zk_nmM (fun M1 => ?_)
  exact z_return 16 dX3_setWeight_16 rfl (fun h => h)
def fX3_reachFrom (p1 : Int32) (M : zM) : Option zM :=
  grd (zix p1 11) (lt ((M.1 64 (zn p1))) (fun (x1 : Int32) => zlp (α := Int32 × zM) (fun rec14 => (fun (u24 : Int32 × zM) => match u24 with | (x12, M13) => if (M13.1 59 0) < x12 then (some M13) else (grd (zix ((((x1 - (1 : Int32)) * (10 : Int32)) + x12) - (1 : Int32)) 100) (lt ((M13.2 60 (zn ((((x1 - (1 : Int32)) * (10 : Int32)) + x12) - (1 : Int32))))) (fun (x17 : Int64) => grd (zix x1 11) (grd (zix x12 11) (lt (((x17 - (M13.2 61 (zn x1))) - (M13.2 62 (zn x12)))) (fun (x18 : Int64) => sq (α := zM) (if (((M13.1 59 1) >>> (x12 &&& 31)) &&& (1 : Int32)) = 0 then (grd (zix x12 11) (if (M13.2 63 (zn x12)) ≤ x18 then (some M13) else (grd (zix x12 11) (lt (zwL M13 63 (zn x12) x18) (fun (M22 : zM) => grd (zix x12 11) (lt (zwI M22 65 (zn x12) p1) (fun (M23 : zM) => some M23))))))) else (some M13)) (fun (M21 : zM) => rec14 ((x12 + (1 : Int32)), M21)))))))))) zFu ((1 : Int32), M)))
set_option maxHeartbeats 4000000 in
set_option maxRecDepth 100000 in
theorem tX3_reachFrom (E : zE) (p1 : Int32) (M : zM) : zFV E mX3_reachFrom [.ref 59, .int p1] zY0 M (fX3_reachFrom p1 M) := by
  refine zF_of (L := [some (.ref 59), some (.int p1), none, none, none, none, none, none]) plX3 (Nat.le_of_ble_eq_true rfl) rfl (fun post => ?_)
  unfold fX3_reachFrom
  refine z_aload_n 0 dX3_reachFrom_0 rfl ?_
  refine z_getR 1 (r := 64) dX3_reachFrom_1 fl_X3_24 zy_59 rfl ?_
  refine z_iload_n 4 dX3_reachFrom_4 rfl ?_
  refine z_iaload 5 dX3_reachFrom_5 zy_64 ?_
  refine zk_nmI (fun x1 => ?_)
  refine z_istore_n 6 (L' := [some (.ref 59), some (.int p1), some (.int x1), none, none, none, none, none]) dX3_reachFrom_6 (by decide) rfl ?_
  refine z_iconst 7 dX3_reachFrom_7 zci_1 ?_
  refine z_istore_n 8 (L' := [some (.ref 59), some (.int p1), some (.int x1), some (.int (1 : Int32)), none, none, none, none]) dX3_reachFrom_8 (by decide) rfl ?_
  refine zk_weak (L' := [some (.ref 59), some (.int p1), some (.int x1), some (.int (1 : Int32)), none, none, none, none]) (zLe_s (zLe_s (zLe_s (zLe_s (zLe_n (zLe_n (zLe_n (zLe_n zLe_nl)))))))) (zk_lp (α := Int32 × zM) 9 (fun (u15 : Int32 × zM) => match u15 with | (x12, M13) => [some (.ref 59), some (.int p1), some (.int x1), some (.int x12), none, none, none, none]) (fun (u16 : Int32 × zM) => match u16 with | (x12, M13) => (zY0, M13)) ?_ zFu ((1 : Int32), M))
  intro rec14 hrec14
  intro u25
  obtain ⟨x12, M13⟩ := u25
  try dsimp only
  refine z_iload_n 9 dX3_reachFrom_9 rfl ?_
  refine z_aload_n 10 dX3_reachFrom_10 rfl ?_
  refine z_getI 11 dX3_reachFrom_11 fl_X3_47 zy_59 rfl ?_
  refine z_icgt 14 96 dX3_reachFrom_14 (by decide) (fun _ => ?_) (fun _ => ?_)
  · exact z_return 96 dX3_reachFrom_96 rfl (fun h => h)
  · refine z_aload_n 17 dX3_reachFrom_17 rfl ?_
    refine z_getR 18 (r := 60) dX3_reachFrom_18 fl_X3_9 zy_59 rfl ?_
    refine z_iload_n 21 dX3_reachFrom_21 rfl ?_
    refine z_iconst 22 dX3_reachFrom_22 zci_1 ?_
    refine z_isub 23 dX3_reachFrom_23 ?_
    refine z_bipush 24 dX3_reachFrom_24 zbp_10 ?_
    refine z_imul 26 dX3_reachFrom_26 ?_
    refine z_iload_n 27 dX3_reachFrom_27 rfl ?_
    refine z_iadd 28 dX3_reachFrom_28 ?_
    refine z_iconst 29 dX3_reachFrom_29 zci_1 ?_
    refine z_isub 30 dX3_reachFrom_30 ?_
    refine z_laload 31 dX3_reachFrom_31 zy_60 ?_
    refine zk_nmL (fun x17 => ?_)
    refine z_lstore 32 (L' := [some (.ref 59), some (.int p1), some (.int x1), some (.int x12), some (.long x17), none, none, none]) dX3_reachFrom_32 (by decide) rfl ?_
    refine z_lload 34 dX3_reachFrom_34 rfl ?_
    refine z_aload_n 36 dX3_reachFrom_36 rfl ?_
    refine z_getR 37 (r := 61) dX3_reachFrom_37 fl_X3_15 zy_59 rfl ?_
    refine z_iload_n 40 dX3_reachFrom_40 rfl ?_
    refine z_laload 41 dX3_reachFrom_41 zy_61 ?_
    refine z_lsub 42 dX3_reachFrom_42 ?_
    refine z_aload_n 43 dX3_reachFrom_43 rfl ?_
    refine z_getR 44 (r := 62) dX3_reachFrom_44 fl_X3_18 zy_59 rfl ?_
    refine z_iload_n 47 dX3_reachFrom_47 rfl ?_
    refine z_laload 48 dX3_reachFrom_48 zy_62 ?_
    refine z_lsub 49 dX3_reachFrom_49 ?_
    refine zk_nmL (fun x18 => ?_)
    refine z_lstore 50 (L' := [some (.ref 59), some (.int p1), some (.int x1), some (.int x12), some (.long x17), none, some (.long x18), none]) dX3_reachFrom_50 (by decide) rfl ?_
    refine z_aload_n 52 dX3_reachFrom_52 rfl ?_
    refine z_getI 53 dX3_reachFrom_53 fl_X3_60 zy_59 rfl ?_
    refine z_iload_n 56 dX3_reachFrom_56 rfl ?_
    refine z_ishr 57 dX3_reachFrom_57 ?_
    refine z_iconst 58 dX3_reachFrom_58 zci_1 ?_
    refine z_iand 59 dX3_reachFrom_59 ?_
    refine zk_sqj (α := zM) 90 (fun (M21 : zM) => [some (.ref 59), some (.int p1), some (.int x1), some (.int x12), none, none, none, none]) (fun (M21 : zM) => []) (fun (M21 : zM) => (zY0, M21)) ?_ ?_
    · intro M21
      refine z_iinc 90 (v := (x12 + (1 : Int32))) (L' := [some (.ref 59), some (.int p1), some (.int x1), some (.int (x12 + (1 : Int32))), none, none, none, none]) dX3_reachFrom_90 rfl (zinc zci_1 _) (by decide) rfl ?_
      refine z_goto 93 9 dX3_reachFrom_93 (by decide) ?_
      exact zk_weak (L' := [some (.ref 59), some (.int p1), some (.int x1), some (.int (x12 + (1 : Int32))), none, none, none, none]) (zLe_s (zLe_s (zLe_s (zLe_s (zLe_n (zLe_n (zLe_n (zLe_n zLe_nl)))))))) (hrec14 ((x12 + (1 : Int32)), M21))
    · refine z_ifne 60 90 dX3_reachFrom_60 (by decide) (fun _ => ?_) (fun _ => ?_)
      · refine z_lload 63 dX3_reachFrom_63 rfl ?_
        refine z_aload_n 65 dX3_reachFrom_65 rfl ?_
        refine z_getR 66 (r := 63) dX3_reachFrom_66 fl_X3_21 zy_59 rfl ?_
        refine z_iload_n 69 dX3_reachFrom_69 rfl ?_
        refine z_laload 70 dX3_reachFrom_70 zy_63 ?_
        refine z_lcmp 71 dX3_reachFrom_71 ?_
        refine z_lcge 72 90 dX3_reachFrom_72 (by decide) (fun _ => ?_) (fun _ => ?_)
        · exact zk_exitw (L' := [some (.ref 59), some (.int p1), some (.int x1), some (.int x12), none, none, none, none]) (zLe_s (zLe_s (zLe_s (zLe_s (zLe_n (zLe_n (zLe_n (zLe_n zLe_nl)))))))) (fun h => h)
        · refine z_aload_n 75 dX3_reachFrom_75 rfl ?_
          refine z_getR 76 (r := 63) dX3_reachFrom_76 fl_X3_21 zy_59 rfl ?_
          refine z_iload_n 79 dX3_reachFrom_79 rfl ?_
          refine z_lload 80 dX3_reachFrom_80 rfl ?_
          refine z_lastore 82 dX3_reachFrom_82 zy_63 ?_
          refine zk_nmM (fun M22 => ?_)
          refine z_aload_n 83 dX3_reachFrom_83 rfl ?_
          refine z_getR 84 (r := 65) dX3_reachFrom_84 fl_X3_28 zy_59 rfl ?_
          refine z_iload_n 87 dX3_reachFrom_87 rfl ?_
          refine z_iload_n 88 dX3_reachFrom_88 rfl ?_
          refine z_iastore 89 dX3_reachFrom_89 zy_65 ?_
          refine zk_nmM (fun M23 => ?_)
          exact zk_exitw (L' := [some (.ref 59), some (.int p1), some (.int x1), some (.int x12), none, none, none, none]) (zLe_s (zLe_s (zLe_s (zLe_s (zLe_n (zLe_n (zLe_n (zLe_n zLe_nl)))))))) (fun h => h)
      · exact zk_exitw (L' := [some (.ref 59), some (.int p1), some (.int x1), some (.int x12), none, none, none, none]) (zLe_s (zLe_s (zLe_s (zLe_s (zLe_n (zLe_n (zLe_n (zLe_n zLe_nl)))))))) (fun h => h)
def fX3_nearest (M : zM) : Option Int32 :=
  zlp (α := Int32 × Int32) (fun rec17 => (fun (u23 : Int32 × Int32) => match u23 with | (x15, x16) => if (M.1 59 0) < x16 then (some x15) else (sq (α := Int32) (if (((M.1 59 1) >>> (x16 &&& 31)) &&& (1 : Int32)) = 0 then (jn (α := Unit) (fun (_ : Unit) => some x16) (fun k22 => if x15 = 0 then (k22 ()) else (grd (zix x16 11) (grd (zix x15 11) (if (M.2 63 (zn x15)) ≤ (M.2 63 (zn x16)) then (some x15) else (k22 ())))))) else (some x15)) (fun (x21 : Int32) => rec17 (x21, (x16 + (1 : Int32))))))) zFu ((0 : Int32), (1 : Int32))
set_option maxHeartbeats 4000000 in
set_option maxRecDepth 100000 in
theorem tX3_nearest (E : zE)  (M : zM) : zFi E mX3_nearest [.ref 59] zY0 M (fX3_nearest M) := by
  refine zF_of (L := [some (.ref 59), none, none]) plX3 (Nat.le_of_ble_eq_true rfl) rfl (fun post => ?_)
  unfold fX3_nearest
  refine z_iconst 0 dX3_nearest_0 zci_0 ?_
  refine z_istore_n 1 (L' := [some (.ref 59), some (.int (0 : Int32)), none]) dX3_nearest_1 (by decide) rfl ?_
  refine z_iconst 2 dX3_nearest_2 zci_1 ?_
  refine z_istore_n 3 (L' := [some (.ref 59), some (.int (0 : Int32)), some (.int (1 : Int32))]) dX3_nearest_3 (by decide) rfl ?_
  refine zk_weak (L' := [some (.ref 59), some (.int (0 : Int32)), some (.int (1 : Int32))]) (zLe_s (zLe_s (zLe_s zLe_nl))) (zk_lp (α := Int32 × Int32) 4 (fun (u18 : Int32 × Int32) => match u18 with | (x15, x16) => [some (.ref 59), some (.int x15), some (.int x16)]) (fun (u19 : Int32 × Int32) => match u19 with | (x15, x16) => (zY0, M)) ?_ zFu ((0 : Int32), (1 : Int32)))
  intro rec17 hrec17
  intro u24
  obtain ⟨x15, x16⟩ := u24
  try dsimp only
  refine z_iload_n 4 dX3_nearest_4 rfl ?_
  refine z_aload_n 5 dX3_nearest_5 rfl ?_
  refine z_getI 6 dX3_nearest_6 fl_X3_47 zy_59 rfl ?_
  refine z_icgt 9 51 dX3_nearest_9 (by decide) (fun _ => ?_) (fun _ => ?_)
  · refine z_iload_n 51 dX3_nearest_51 rfl ?_
    exact z_ireturn 52 dX3_nearest_52 rfl rfl (fun h => h)
  · refine z_aload_n 12 dX3_nearest_12 rfl ?_
    refine z_getI 13 dX3_nearest_13 fl_X3_60 zy_59 rfl ?_
    refine z_iload_n 16 dX3_nearest_16 rfl ?_
    refine z_ishr 17 dX3_nearest_17 ?_
    refine z_iconst 18 dX3_nearest_18 zci_1 ?_
    refine z_iand 19 dX3_nearest_19 ?_
    refine zk_sqj (α := Int32) 45 (fun (x21 : Int32) => [some (.ref 59), some (.int x21), some (.int x16)]) (fun (x21 : Int32) => []) (fun (x21 : Int32) => (zY0, M)) ?_ ?_
    · intro x21
      refine z_iinc 45 (v := (x16 + (1 : Int32))) (L' := [some (.ref 59), some (.int x21), some (.int (x16 + (1 : Int32)))]) dX3_nearest_45 rfl (zinc zci_1 _) (by decide) rfl ?_
      refine z_goto 48 4 dX3_nearest_48 (by decide) ?_
      exact zk_weak (L' := [some (.ref 59), some (.int x21), some (.int (x16 + (1 : Int32)))]) (zLe_s (zLe_s (zLe_s zLe_nl))) (hrec17 (x21, (x16 + (1 : Int32))))
    · refine z_ifne 20 45 dX3_nearest_20 (by decide) (fun _ => ?_) (fun _ => ?_)
      · refine z_iload_n 23 dX3_nearest_23 rfl ?_
        refine zk_jn (α := Unit) 43 (fun (_ : Unit) => [some (.ref 59), none, some (.int x16)]) (fun (_ : Unit) => []) (fun (_ : Unit) => (zY0, M)) ?_ ?_
        · intro _
          refine z_iload_n 43 dX3_nearest_43 rfl ?_
          refine z_istore_n 44 (L' := [some (.ref 59), some (.int x16), some (.int x16)]) dX3_nearest_44 (by decide) rfl ?_
          exact zk_exitw (L' := [some (.ref 59), some (.int x16), some (.int x16)]) (zLe_s (zLe_s (zLe_s zLe_nl))) (fun h => h)
        · intro k22 hk22
          refine z_ifeq 24 43 dX3_nearest_24 (by decide) (fun _ => ?_) (fun _ => ?_)
          · exact zk_weak (L' := [some (.ref 59), none, some (.int x16)]) (zLe_s (zLe_n (zLe_s zLe_nl))) (hk22 ())
          · refine z_aload_n 27 dX3_nearest_27 rfl ?_
            refine z_getR 28 (r := 63) dX3_nearest_28 fl_X3_21 zy_59 rfl ?_
            refine z_iload_n 31 dX3_nearest_31 rfl ?_
            refine z_laload 32 dX3_nearest_32 zy_63 ?_
            refine z_aload_n 33 dX3_nearest_33 rfl ?_
            refine z_getR 34 (r := 63) dX3_nearest_34 fl_X3_21 zy_59 rfl ?_
            refine z_iload_n 37 dX3_nearest_37 rfl ?_
            refine z_laload 38 dX3_nearest_38 zy_63 ?_
            refine z_lcmp 39 dX3_nearest_39 ?_
            refine z_lcge 40 45 dX3_nearest_40 (by decide) (fun _ => ?_) (fun _ => ?_)
            · exact zk_exitw (L' := [some (.ref 59), some (.int x15), some (.int x16)]) (zLe_s (zLe_s (zLe_s zLe_nl))) (fun h => h)
            · exact zk_weak (L' := [some (.ref 59), none, some (.int x16)]) (zLe_s (zLe_n (zLe_s zLe_nl))) (hk22 ())
      · exact zk_exitw (L' := [some (.ref 59), some (.int x15), some (.int x16)]) (zLe_s (zLe_s (zLe_s zLe_nl))) (fun h => h)
def fX3_shiftPrices (p1 : Int64) (M : zM) : Option zM :=
  zlp (α := Int32 × zM) (fun rec13 => (fun (u25 : Int32 × zM) => match u25 with | (x11, M12) => if (M12.1 59 0) < x11 then (some M12) else (sq (α := zM) (if (((M12.1 59 1) >>> (x11 &&& 31)) &&& (1 : Int32)) = (1 : Int32) then (grd (zix x11 11) (lt ((M12.1 64 (zn x11))) (fun (x21 : Int32) => grd (zix x21 11) (grd (zix x21 11) (lt (zwL M12 61 (zn x21) ((M12.2 61 (zn x21)) + p1)) (fun (M22 : zM) => grd (zix x11 11) (grd (zix x11 11) (lt (zwL M22 62 (zn x11) ((M22.2 62 (zn x11)) - p1)) (fun (M23 : zM) => some M23))))))))) else (grd (zix x11 11) (grd (zix x11 11) (lt (zwL M12 63 (zn x11) ((M12.2 63 (zn x11)) - p1)) (fun (M24 : zM) => some M24))))) (fun (M20 : zM) => rec13 ((x11 + (1 : Int32)), M20))))) zFu ((0 : Int32), M)
set_option maxHeartbeats 4000000 in
set_option maxRecDepth 100000 in
theorem tX3_shiftPrices (E : zE) (p1 : Int64) (M : zM) : zFV E mX3_shiftPrices [.ref 59, .long p1] zY0 M (fX3_shiftPrices p1 M) := by
  refine zF_of (L := [some (.ref 59), some (.long p1), none, none]) plX3 (Nat.le_of_ble_eq_true rfl) rfl (fun post => ?_)
  unfold fX3_shiftPrices
  refine z_iconst 0 dX3_shiftPrices_0 zci_0 ?_
  refine z_istore_n 1 (L' := [some (.ref 59), some (.long p1), none, some (.int (0 : Int32))]) dX3_shiftPrices_1 (by decide) rfl ?_
  refine zk_weak (L' := [some (.ref 59), some (.long p1), none, some (.int (0 : Int32))]) (zLe_s (zLe_s (zLe_n (zLe_s zLe_nl)))) (zk_lp (α := Int32 × zM) 2 (fun (u14 : Int32 × zM) => match u14 with | (x11, M12) => [some (.ref 59), some (.long p1), none, some (.int x11)]) (fun (u15 : Int32 × zM) => match u15 with | (x11, M12) => (zY0, M12)) ?_ zFu ((0 : Int32), M))
  intro rec13 hrec13
  intro u26
  obtain ⟨x11, M12⟩ := u26
  try dsimp only
  refine z_iload_n 2 dX3_shiftPrices_2 rfl ?_
  refine z_aload_n 3 dX3_shiftPrices_3 rfl ?_
  refine z_getI 4 dX3_shiftPrices_4 fl_X3_47 zy_59 rfl ?_
  refine z_icgt 7 66 dX3_shiftPrices_7 (by decide) (fun _ => ?_) (fun _ => ?_)
  · exact z_return 66 dX3_shiftPrices_66 rfl (fun h => h)
  · refine z_aload_n 10 dX3_shiftPrices_10 rfl ?_
    refine z_getI 11 dX3_shiftPrices_11 fl_X3_60 zy_59 rfl ?_
    refine z_iload_n 14 dX3_shiftPrices_14 rfl ?_
    refine z_ishr 15 dX3_shiftPrices_15 ?_
    refine z_iconst 16 dX3_shiftPrices_16 zci_1 ?_
    refine z_iand 17 dX3_shiftPrices_17 ?_
    refine z_iconst 18 dX3_shiftPrices_18 zci_1 ?_
    refine zk_sqj (α := zM) 60 (fun (M20 : zM) => [some (.ref 59), some (.long p1), none, some (.int x11)]) (fun (M20 : zM) => []) (fun (M20 : zM) => (zY0, M20)) ?_ ?_
    · intro M20
      refine z_iinc 60 (v := (x11 + (1 : Int32))) (L' := [some (.ref 59), some (.long p1), none, some (.int (x11 + (1 : Int32)))]) dX3_shiftPrices_60 rfl (zinc zci_1 _) (by decide) rfl ?_
      refine z_goto 63 2 dX3_shiftPrices_63 (by decide) ?_
      exact zk_weak (L' := [some (.ref 59), some (.long p1), none, some (.int (x11 + (1 : Int32)))]) (zLe_s (zLe_s (zLe_n (zLe_s zLe_nl)))) (hrec13 ((x11 + (1 : Int32)), M20))
    · refine z_icne 19 50 dX3_shiftPrices_19 (by decide) (fun _ => ?_) (fun _ => ?_)
      · refine z_aload_n 22 dX3_shiftPrices_22 rfl ?_
        refine z_getR 23 (r := 61) dX3_shiftPrices_23 fl_X3_15 zy_59 rfl ?_
        refine z_aload_n 26 dX3_shiftPrices_26 rfl ?_
        refine z_getR 27 (r := 64) dX3_shiftPrices_27 fl_X3_24 zy_59 rfl ?_
        refine z_iload_n 30 dX3_shiftPrices_30 rfl ?_
        refine z_iaload 31 dX3_shiftPrices_31 zy_64 ?_
        refine zk_nmI (fun x21 => ?_)
        refine z_dup2 32 dX3_shiftPrices_32 rfl rfl ?_
        refine z_laload 33 dX3_shiftPrices_33 zy_61 ?_
        refine z_lload_n 34 dX3_shiftPrices_34 rfl ?_
        refine z_ladd 35 dX3_shiftPrices_35 ?_
        refine z_lastore 36 dX3_shiftPrices_36 zy_61 ?_
        refine zk_nmM (fun M22 => ?_)
        refine z_aload_n 37 dX3_shiftPrices_37 rfl ?_
        refine z_getR 38 (r := 62) dX3_shiftPrices_38 fl_X3_18 zy_59 rfl ?_
        refine z_iload_n 41 dX3_shiftPrices_41 rfl ?_
        refine z_dup2 42 dX3_shiftPrices_42 rfl rfl ?_
        refine z_laload 43 dX3_shiftPrices_43 zy_62 ?_
        refine z_lload_n 44 dX3_shiftPrices_44 rfl ?_
        refine z_lsub 45 dX3_shiftPrices_45 ?_
        refine z_lastore 46 dX3_shiftPrices_46 zy_62 ?_
        refine zk_nmM (fun M23 => ?_)
        refine z_goto 47 60 dX3_shiftPrices_47 (by decide) ?_
        exact zk_exitw (L' := [some (.ref 59), some (.long p1), none, some (.int x11)]) (zLe_s (zLe_s (zLe_n (zLe_s zLe_nl)))) (fun h => h)
      · refine z_aload_n 50 dX3_shiftPrices_50 rfl ?_
        refine z_getR 51 (r := 63) dX3_shiftPrices_51 fl_X3_21 zy_59 rfl ?_
        refine z_iload_n 54 dX3_shiftPrices_54 rfl ?_
        refine z_dup2 55 dX3_shiftPrices_55 rfl rfl ?_
        refine z_laload 56 dX3_shiftPrices_56 zy_63 ?_
        refine z_lload_n 57 dX3_shiftPrices_57 rfl ?_
        refine z_lsub 58 dX3_shiftPrices_58 ?_
        refine z_lastore 59 dX3_shiftPrices_59 zy_63 ?_
        refine zk_nmM (fun M24 => ?_)
        exact zk_exitw (L' := [some (.ref 59), some (.long p1), none, some (.int x11)]) (zLe_s (zLe_s (zLe_n (zLe_s zLe_nl)))) (fun h => h)
def fX3_seat (p1 : Int32) (M : zM) : Option zM :=
  sq (fJ7_fill_d0a16 63 11 (1152921504606846976 : Int64) M) (fun (M1 : zM) => lt (zwI M1 59 1 (0 : Int32)) (fun (M2 : zM) => grd (zix (0 : Int32) 11) (lt (zwI M2 64 (zn (0 : Int32)) p1) (fun (M3 : zM) => sq (α := Int32 × zM) (zlp (α := Int32 × Int32 × zM) (β := Int32 × zM) (fun rec31 => (fun (u58 : Int32 × Int32 × zM) => match u58 with | (x28, x29, M30) => if (M30.1 59 0) < x29 then (some (x28, M30)) else (grd (zix x28 11) (if (M30.1 64 (zn x28)) = 0 then (some (x28, M30)) else (lt (zwI M30 59 1 ((M30.1 59 1) ||| ((1 : Int32) <<< (x28 &&& 31)))) (fun (M36 : zM) => sq (fX3_reachFrom x28 M36) (fun (M37 : zM) => sq (fX3_nearest M37) (fun (x38 : Int32) => grd (zix x38 11) (sq (fX3_shiftPrices (M37.2 63 (zn x38)) M37) (fun (M39 : zM) => rec31 (x38, (x29 + (1 : Int32)), M39))))))))))) zFu ((0 : Int32), (0 : Int32), M3)) (fun (u59 : Int32 × zM) => match u59 with | (x34, M35) => zlp (α := Int32 × Int32 × zM) (fun rec51 => (fun (u56 : Int32 × Int32 × zM) => match u56 with | (x48, x49, M50) => if (M50.1 59 0) < x49 then (some M50) else (if x48 = 0 then (some M50) else (grd (zix x48 11) (grd (zix (M50.1 65 (zn x48)) 11) (grd (zix x48 11) (lt (zwI M50 64 (zn x48) (M50.1 64 (zn (M50.1 65 (zn x48))))) (fun (M54 : zM) => grd (zix x48 11) (lt ((M54.1 65 (zn x48))) (fun (x55 : Int32) => rec51 (x55, (x49 + (1 : Int32)), M54))))))))))) zFu (x34, (0 : Int32), M35))))))
set_option maxHeartbeats 4000000 in
set_option maxRecDepth 100000 in
theorem tX3_seat (E : zE) (p1 : Int32) (M : zM) : zFV E mX3_seat [.ref 59, .int p1] zY0 M (fX3_seat p1 M) := by
  refine zF_of (L := [some (.ref 59), some (.int p1), none, none, none]) plX3 (Nat.le_of_ble_eq_true rfl) rfl (fun post => ?_)
  unfold fX3_seat
  refine z_aload_n 0 dX3_seat_0 rfl ?_
  refine z_getR 1 (r := 63) dX3_seat_1 fl_X3_21 zy_59 rfl ?_
  refine z_ldc2 4 dX3_seat_4 cw_X3_58 ?_
  refine z_cV (zat_S2 7 dX3_seat_7 lk_X3_31 ⟨Nat.le_of_ble_eq_true rfl, Nat.le_of_ble_eq_true rfl⟩ (Nat.le_of_ble_eq_true rfl)) (tJ7_fill_d0a16 E zY0 63 11 zy_63 (1152921504606846976 : Int64) M) (fun M1 => ?_)
  refine z_aload_n 10 dX3_seat_10 rfl ?_
  refine z_iconst 11 dX3_seat_11 zci_0 ?_
  refine z_put 12 dX3_seat_12 fp_X3_60 zy_59 rfl (zput_i _) ?_
  refine zk_nmM (fun M2 => ?_)
  refine z_aload_n 15 dX3_seat_15 rfl ?_
  refine z_getR 16 (r := 64) dX3_seat_16 fl_X3_24 zy_59 rfl ?_
  refine z_iconst 19 dX3_seat_19 zci_0 ?_
  refine z_iload_n 20 dX3_seat_20 rfl ?_
  refine z_iastore 21 dX3_seat_21 zy_64 ?_
  refine zk_nmM (fun M3 => ?_)
  refine z_iconst 22 dX3_seat_22 zci_0 ?_
  refine z_istore_n 23 (L' := [some (.ref 59), some (.int p1), some (.int (0 : Int32)), none, none]) dX3_seat_23 (by decide) rfl ?_
  refine z_iconst 24 dX3_seat_24 zci_0 ?_
  refine z_istore_n 25 (L' := [some (.ref 59), some (.int p1), some (.int (0 : Int32)), some (.int (0 : Int32)), none]) dX3_seat_25 (by decide) rfl ?_
  refine zk_sqj (α := Int32 × zM) 86 (fun (u60 : Int32 × zM) => match u60 with | (x34, M35) => [some (.ref 59), none, some (.int x34), none, none]) (fun (u61 : Int32 × zM) => match u61 with | (x34, M35) => []) (fun (u62 : Int32 × zM) => match u62 with | (x34, M35) => (zY0, M35)) ?_ ?_
  · intro u63
    obtain ⟨x34, M35⟩ := u63
    try dsimp only
    refine z_iconst 86 dX3_seat_86 zci_0 ?_
    refine z_istore_n 87 (L' := [some (.ref 59), none, some (.int x34), some (.int (0 : Int32)), none]) dX3_seat_87 (by decide) rfl ?_
    refine zk_weak (L' := [some (.ref 59), none, some (.int x34), some (.int (0 : Int32)), none]) (zLe_s (zLe_n (zLe_s (zLe_s (zLe_n zLe_nl))))) (zk_lp (α := Int32 × Int32 × zM) 88 (fun (u52 : Int32 × Int32 × zM) => match u52 with | (x48, x49, M50) => [some (.ref 59), none, some (.int x48), some (.int x49), none]) (fun (u53 : Int32 × Int32 × zM) => match u53 with | (x48, x49, M50) => (zY0, M50)) ?_ zFu (x34, (0 : Int32), M35))
    intro rec51 hrec51
    intro u57
    obtain ⟨x48, x49, M50⟩ := u57
    try dsimp only
    refine z_iload_n 88 dX3_seat_88 rfl ?_
    refine z_aload_n 89 dX3_seat_89 rfl ?_
    refine z_getI 90 dX3_seat_90 fl_X3_47 zy_59 rfl ?_
    refine z_icgt 93 130 dX3_seat_93 (by decide) (fun _ => ?_) (fun _ => ?_)
    · exact z_return 130 dX3_seat_130 rfl (fun h => h)
    · refine z_iload_n 96 dX3_seat_96 rfl ?_
      refine z_ifeq 97 130 dX3_seat_97 (by decide) (fun _ => ?_) (fun _ => ?_)
      · exact z_return 130 dX3_seat_130 rfl (fun h => h)
      · refine z_aload_n 100 dX3_seat_100 rfl ?_
        refine z_getR 101 (r := 64) dX3_seat_101 fl_X3_24 zy_59 rfl ?_
        refine z_iload_n 104 dX3_seat_104 rfl ?_
        refine z_aload_n 105 dX3_seat_105 rfl ?_
        refine z_getR 106 (r := 64) dX3_seat_106 fl_X3_24 zy_59 rfl ?_
        refine z_aload_n 109 dX3_seat_109 rfl ?_
        refine z_getR 110 (r := 65) dX3_seat_110 fl_X3_28 zy_59 rfl ?_
        refine z_iload_n 113 dX3_seat_113 rfl ?_
        refine z_iaload 114 dX3_seat_114 zy_65 ?_
        refine z_iaload 115 dX3_seat_115 zy_64 ?_
        refine z_iastore 116 dX3_seat_116 zy_64 ?_
        refine zk_nmM (fun M54 => ?_)
        refine z_aload_n 117 dX3_seat_117 rfl ?_
        refine z_getR 118 (r := 65) dX3_seat_118 fl_X3_28 zy_59 rfl ?_
        refine z_iload_n 121 dX3_seat_121 rfl ?_
        refine z_iaload 122 dX3_seat_122 zy_65 ?_
        refine zk_nmI (fun x55 => ?_)
        refine z_istore_n 123 (L' := [some (.ref 59), none, some (.int x55), some (.int x49), none]) dX3_seat_123 (by decide) rfl ?_
        refine z_iinc 124 (v := (x49 + (1 : Int32))) (L' := [some (.ref 59), none, some (.int x55), some (.int (x49 + (1 : Int32))), none]) dX3_seat_124 rfl (zinc zci_1 _) (by decide) rfl ?_
        refine z_goto 127 88 dX3_seat_127 (by decide) ?_
        exact zk_weak (L' := [some (.ref 59), none, some (.int x55), some (.int (x49 + (1 : Int32))), none]) (zLe_s (zLe_n (zLe_s (zLe_s (zLe_n zLe_nl))))) (hrec51 (x55, (x49 + (1 : Int32)), M54))
  · refine zk_weak (L' := [some (.ref 59), none, some (.int (0 : Int32)), some (.int (0 : Int32)), none]) (zLe_s (zLe_n (zLe_s (zLe_s (zLe_n zLe_nl))))) (zk_lp (α := Int32 × Int32 × zM) 26 (fun (u32 : Int32 × Int32 × zM) => match u32 with | (x28, x29, M30) => [some (.ref 59), none, some (.int x28), some (.int x29), none]) (fun (u33 : Int32 × Int32 × zM) => match u33 with | (x28, x29, M30) => (zY0, M30)) ?_ zFu ((0 : Int32), (0 : Int32), M3))
    intro rec31 hrec31
    intro u64
    obtain ⟨x28, x29, M30⟩ := u64
    try dsimp only
    refine z_iload_n 26 dX3_seat_26 rfl ?_
    refine z_aload_n 27 dX3_seat_27 rfl ?_
    refine z_getI 28 dX3_seat_28 fl_X3_47 zy_59 rfl ?_
    refine z_icgt 31 86 dX3_seat_31 (by decide) (fun _ => ?_) (fun _ => ?_)
    · exact zk_exitw (L' := [some (.ref 59), none, some (.int x28), none, none]) (zLe_s (zLe_n (zLe_s (zLe_n (zLe_n zLe_nl))))) (fun h => h)
    · refine z_aload_n 34 dX3_seat_34 rfl ?_
      refine z_getR 35 (r := 64) dX3_seat_35 fl_X3_24 zy_59 rfl ?_
      refine z_iload_n 38 dX3_seat_38 rfl ?_
      refine z_iaload 39 dX3_seat_39 zy_64 ?_
      refine z_ifeq 40 86 dX3_seat_40 (by decide) (fun _ => ?_) (fun _ => ?_)
      · exact zk_exitw (L' := [some (.ref 59), none, some (.int x28), none, none]) (zLe_s (zLe_n (zLe_s (zLe_n (zLe_n zLe_nl))))) (fun h => h)
      · refine z_aload_n 43 dX3_seat_43 rfl ?_
        refine z_dup 44 dX3_seat_44 rfl ?_
        refine z_getI 45 dX3_seat_45 fl_X3_60 zy_59 rfl ?_
        refine z_iconst 48 dX3_seat_48 zci_1 ?_
        refine z_iload_n 49 dX3_seat_49 rfl ?_
        refine z_ishl 50 dX3_seat_50 ?_
        refine z_ior 51 dX3_seat_51 ?_
        refine z_put 52 dX3_seat_52 fp_X3_60 zy_59 rfl (zput_i _) ?_
        refine zk_nmM (fun M36 => ?_)
        refine z_aload_n 55 dX3_seat_55 rfl ?_
        refine z_iload_n 56 dX3_seat_56 rfl ?_
        refine z_cV (zat_V1 57 dX3_seat_57 lk_X3_63 zy_59 rfl rfl ⟨Nat.le_of_ble_eq_true rfl, Nat.le_of_ble_eq_true rfl⟩ (Nat.le_of_ble_eq_true rfl)) (tX3_reachFrom E x28 M36) (fun M37 => ?_)
        refine z_aload_n 60 dX3_seat_60 rfl ?_
        refine z_ci (zat_V0 61 dX3_seat_61 lk_X3_66 zy_59 rfl rfl ⟨Nat.le_of_ble_eq_true rfl, Nat.le_of_ble_eq_true rfl⟩ (Nat.le_of_ble_eq_true rfl)) (tX3_nearest E M37) (fun x38 => ?_)
        refine z_istore 64 (L' := [some (.ref 59), none, some (.int x28), some (.int x29), some (.int x38)]) dX3_seat_64 (by decide) rfl ?_
        refine z_aload_n 66 dX3_seat_66 rfl ?_
        refine z_aload_n 67 dX3_seat_67 rfl ?_
        refine z_getR 68 (r := 63) dX3_seat_68 fl_X3_21 zy_59 rfl ?_
        refine z_iload 71 dX3_seat_71 rfl ?_
        refine z_laload 73 dX3_seat_73 zy_63 ?_
        refine z_cV (zat_V1 74 dX3_seat_74 lk_X3_70 zy_59 rfl rfl ⟨Nat.le_of_ble_eq_true rfl, Nat.le_of_ble_eq_true rfl⟩ (Nat.le_of_ble_eq_true rfl)) (tX3_shiftPrices E (M37.2 63 (zn x38)) M37) (fun M39 => ?_)
        refine z_iload 77 dX3_seat_77 rfl ?_
        refine z_istore_n 79 (L' := [some (.ref 59), none, some (.int x38), some (.int x29), some (.int x38)]) dX3_seat_79 (by decide) rfl ?_
        refine z_iinc 80 (v := (x29 + (1 : Int32))) (L' := [some (.ref 59), none, some (.int x38), some (.int (x29 + (1 : Int32))), some (.int x38)]) dX3_seat_80 rfl (zinc zci_1 _) (by decide) rfl ?_
        refine z_goto 83 26 dX3_seat_83 (by decide) ?_
        exact zk_weak (L' := [some (.ref 59), none, some (.int x38), some (.int (x29 + (1 : Int32))), none]) (zLe_s (zLe_n (zLe_s (zLe_s (zLe_n zLe_nl))))) (hrec31 (x38, (x29 + (1 : Int32)), M39))
def fX3_settle (p1 : Int32) (p2 : Int32) (M : zM) : Option (Int64 × zM) :=
  lt (zwI M 59 0 (zmx p1 p2)) (fun (M1 : zM) => sq (fJ7_fill_d0a16 61 11 (0 : Int64) M1) (fun (M2 : zM) => sq (fJ7_fill_d0a16 62 11 (0 : Int64) M2) (fun (M3 : zM) => sq (fJ7_fill_53178 64 11 (0 : Int32) M3) (fun (M4 : zM) => sq (α := zM) (zlp (α := Int32 × zM) (β := zM) (fun rec14 => (fun (u37 : Int32 × zM) => match u37 with | (x12, M13) => if p1 < x12 then (some M13) else (sq (fX3_seat x12 M13) (fun (M18 : zM) => rec14 ((x12 + (1 : Int32)), M18))))) zFu ((1 : Int32), M4)) (fun (M17 : zM) => zlp (α := Int64 × Int32) (fun rec29 => (fun (u35 : Int64 × Int32) => match u35 with | (x27, x28) => if (M17.1 59 0) < x28 then (some (x27, M17)) else (grd (zix x28 11) (lt ((M17.1 64 (zn x28))) (fun (x32 : Int32) => sq (α := Int64) (if x32 = 0 then (some (0 : Int64)) else (grd (zix ((((x32 - (1 : Int32)) * (10 : Int32)) + x28) - (1 : Int32)) 100) (some (M17.2 60 (zn ((((x32 - (1 : Int32)) * (10 : Int32)) + x28) - (1 : Int32))))))) (fun (x33 : Int64) => lt ((x27 + x33)) (fun (x34 : Int64) => rec29 (x34, (x28 + (1 : Int32)))))))))) zFu ((0 : Int64), (1 : Int32)))))))
set_option maxHeartbeats 4000000 in
set_option maxRecDepth 100000 in
theorem tX3_settle (E : zE) (p1 : Int32) (p2 : Int32) (M : zM) : zFJ E mX3_settle [.ref 59, .int p1, .int p2] zY0 M (fX3_settle p1 p2 M) := by
  refine zF_of (L := [some (.ref 59), some (.int p1), some (.int p2), none, none, none, none]) plX3 (Nat.le_of_ble_eq_true rfl) rfl (fun post => ?_)
  unfold fX3_settle
  refine z_aload_n 0 dX3_settle_0 rfl ?_
  refine z_iload_n 1 dX3_settle_1 rfl ?_
  refine z_iload_n 2 dX3_settle_2 rfl ?_
  refine z_mmax 3 dX3_settle_3 ml_X3_43 ml_mmax.1 ml_mmax.2.1 ml_mmax.2.2 ⟨Nat.le_of_ble_eq_true rfl, Nat.le_of_ble_eq_true rfl⟩ ?_
  refine z_put 6 dX3_settle_6 fp_X3_47 zy_59 rfl (zput_i _) ?_
  refine zk_nmM (fun M1 => ?_)
  refine z_aload_n 9 dX3_settle_9 rfl ?_
  refine z_getR 10 (r := 61) dX3_settle_10 fl_X3_15 zy_59 rfl ?_
  refine z_lconst 13 dX3_settle_13 zlc_0 ?_
  refine z_cV (zat_S2 14 dX3_settle_14 lk_X3_31 ⟨Nat.le_of_ble_eq_true rfl, Nat.le_of_ble_eq_true rfl⟩ (Nat.le_of_ble_eq_true rfl)) (tJ7_fill_d0a16 E zY0 61 11 zy_61 (0 : Int64) M1) (fun M2 => ?_)
  refine z_aload_n 17 dX3_settle_17 rfl ?_
  refine z_getR 18 (r := 62) dX3_settle_18 fl_X3_18 zy_59 rfl ?_
  refine z_lconst 21 dX3_settle_21 zlc_0 ?_
  refine z_cV (zat_S2 22 dX3_settle_22 lk_X3_31 ⟨Nat.le_of_ble_eq_true rfl, Nat.le_of_ble_eq_true rfl⟩ (Nat.le_of_ble_eq_true rfl)) (tJ7_fill_d0a16 E zY0 62 11 zy_62 (0 : Int64) M2) (fun M3 => ?_)
  refine z_aload_n 25 dX3_settle_25 rfl ?_
  refine z_getR 26 (r := 64) dX3_settle_26 fl_X3_24 zy_59 rfl ?_
  refine z_iconst 29 dX3_settle_29 zci_0 ?_
  refine z_cV (zat_S2 30 dX3_settle_30 lk_X3_51 ⟨Nat.le_of_ble_eq_true rfl, Nat.le_of_ble_eq_true rfl⟩ (Nat.le_of_ble_eq_true rfl)) (tJ7_fill_53178 E zY0 64 11 zy_64 (0 : Int32) M3) (fun M4 => ?_)
  refine z_iconst 33 dX3_settle_33 zci_1 ?_
  refine z_istore_n 34 (L' := [some (.ref 59), some (.int p1), some (.int p2), some (.int (1 : Int32)), none, none, none]) dX3_settle_34 (by decide) rfl ?_
  refine zk_sqj (α := zM) 51 (fun (M17 : zM) => [some (.ref 59), none, none, none, none, none, none]) (fun (M17 : zM) => []) (fun (M17 : zM) => (zY0, M17)) ?_ ?_
  · intro M17
    refine z_lconst 51 dX3_settle_51 zlc_0 ?_
    refine z_lstore_n 52 (L' := [some (.ref 59), none, none, some (.long (0 : Int64)), none, none, none]) dX3_settle_52 (by decide) rfl ?_
    refine z_iconst 53 dX3_settle_53 zci_1 ?_
    refine z_istore 54 (L' := [some (.ref 59), none, none, some (.long (0 : Int64)), none, some (.int (1 : Int32)), none]) dX3_settle_54 (by decide) rfl ?_
    refine zk_weak (L' := [some (.ref 59), none, none, some (.long (0 : Int64)), none, some (.int (1 : Int32)), none]) (zLe_s (zLe_n (zLe_n (zLe_s (zLe_n (zLe_s (zLe_n zLe_nl))))))) (zk_lp (α := Int64 × Int32) 56 (fun (u30 : Int64 × Int32) => match u30 with | (x27, x28) => [some (.ref 59), none, none, some (.long x27), none, some (.int x28), none]) (fun (u31 : Int64 × Int32) => match u31 with | (x27, x28) => (zY0, M17)) ?_ zFu ((0 : Int64), (1 : Int32)))
    intro rec29 hrec29
    intro u36
    obtain ⟨x27, x28⟩ := u36
    try dsimp only
    refine z_iload 56 dX3_settle_56 rfl ?_
    refine z_aload_n 58 dX3_settle_58 rfl ?_
    refine z_getI 59 dX3_settle_59 fl_X3_47 zy_59 rfl ?_
    refine z_icgt 62 109 dX3_settle_62 (by decide) (fun _ => ?_) (fun _ => ?_)
    · refine z_lload_n 109 dX3_settle_109 rfl ?_
      exact z_lreturn 110 dX3_settle_110 rfl (fun h => h)
    · refine z_aload_n 65 dX3_settle_65 rfl ?_
      refine z_getR 66 (r := 64) dX3_settle_66 fl_X3_24 zy_59 rfl ?_
      refine z_iload 69 dX3_settle_69 rfl ?_
      refine z_iaload 71 dX3_settle_71 zy_64 ?_
      refine zk_nmI (fun x32 => ?_)
      refine z_istore 72 (L' := [some (.ref 59), none, none, some (.long x27), none, some (.int x28), some (.int x32)]) dX3_settle_72 (by decide) rfl ?_
      refine z_lload_n 74 dX3_settle_74 rfl ?_
      refine z_iload 75 dX3_settle_75 rfl ?_
      refine zk_sqj (α := Int64) 101 (fun (x33 : Int64) => [some (.ref 59), none, none, none, none, some (.int x28), none]) (fun (x33 : Int64) => [.long x33, .long x27]) (fun (x33 : Int64) => (zY0, M17)) ?_ ?_
      · intro x33
        refine z_ladd 101 dX3_settle_101 ?_
        refine zk_nmL (fun x34 => ?_)
        refine z_lstore_n 102 (L' := [some (.ref 59), none, none, some (.long x34), none, some (.int x28), none]) dX3_settle_102 (by decide) rfl ?_
        refine z_iinc 103 (v := (x28 + (1 : Int32))) (L' := [some (.ref 59), none, none, some (.long x34), none, some (.int (x28 + (1 : Int32))), none]) dX3_settle_103 rfl (zinc zci_1 _) (by decide) rfl ?_
        refine z_goto 106 56 dX3_settle_106 (by decide) ?_
        exact zk_weak (L' := [some (.ref 59), none, none, some (.long x34), none, some (.int (x28 + (1 : Int32))), none]) (zLe_s (zLe_n (zLe_n (zLe_s (zLe_n (zLe_s (zLe_n zLe_nl))))))) (hrec29 (x34, (x28 + (1 : Int32))))
      · refine z_ifne 77 84 dX3_settle_77 (by decide) (fun _ => ?_) (fun _ => ?_)
        · refine z_lconst 80 dX3_settle_80 zlc_0 ?_
          refine z_goto 81 101 dX3_settle_81 (by decide) ?_
          exact zk_exitw (L' := [some (.ref 59), none, none, none, none, some (.int x28), none]) (zLe_s (zLe_n (zLe_n (zLe_n (zLe_n (zLe_s (zLe_n zLe_nl))))))) (fun h => h)
        · refine z_aload_n 84 dX3_settle_84 rfl ?_
          refine z_getR 85 (r := 60) dX3_settle_85 fl_X3_9 zy_59 rfl ?_
          refine z_iload 88 dX3_settle_88 rfl ?_
          refine z_iconst 90 dX3_settle_90 zci_1 ?_
          refine z_isub 91 dX3_settle_91 ?_
          refine z_bipush 92 dX3_settle_92 zbp_10 ?_
          refine z_imul 94 dX3_settle_94 ?_
          refine z_iload 95 dX3_settle_95 rfl ?_
          refine z_iadd 97 dX3_settle_97 ?_
          refine z_iconst 98 dX3_settle_98 zci_1 ?_
          refine z_isub 99 dX3_settle_99 ?_
          refine z_laload 100 dX3_settle_100 zy_60 ?_
          exact zk_exitw (L' := [some (.ref 59), none, none, none, none, some (.int x28), none]) (zLe_s (zLe_n (zLe_n (zLe_n (zLe_n (zLe_s (zLe_n zLe_nl))))))) (fun h => h)
  · refine zk_weak (L' := [some (.ref 59), some (.int p1), none, some (.int (1 : Int32)), none, none, none]) (zLe_s (zLe_s (zLe_n (zLe_s (zLe_n (zLe_n (zLe_n zLe_nl))))))) (zk_lp (α := Int32 × zM) 35 (fun (u15 : Int32 × zM) => match u15 with | (x12, M13) => [some (.ref 59), some (.int p1), none, some (.int x12), none, none, none]) (fun (u16 : Int32 × zM) => match u16 with | (x12, M13) => (zY0, M13)) ?_ zFu ((1 : Int32), M4))
    intro rec14 hrec14
    intro u38
    obtain ⟨x12, M13⟩ := u38
    try dsimp only
    refine z_iload_n 35 dX3_settle_35 rfl ?_
    refine z_iload_n 36 dX3_settle_36 rfl ?_
    refine z_icgt 37 51 dX3_settle_37 (by decide) (fun _ => ?_) (fun _ => ?_)
    · exact zk_exitw (L' := [some (.ref 59), none, none, none, none, none, none]) (zLe_s (zLe_n (zLe_n (zLe_n (zLe_n (zLe_n (zLe_n zLe_nl))))))) (fun h => h)
    · refine z_aload_n 40 dX3_settle_40 rfl ?_
      refine z_iload_n 41 dX3_settle_41 rfl ?_
      refine z_cV (zat_V1 42 dX3_settle_42 lk_X3_54 zy_59 rfl rfl ⟨Nat.le_of_ble_eq_true rfl, Nat.le_of_ble_eq_true rfl⟩ (Nat.le_of_ble_eq_true rfl)) (tX3_seat E x12 M13) (fun M18 => ?_)
      refine z_iinc 45 (v := (x12 + (1 : Int32))) (L' := [some (.ref 59), some (.int p1), none, some (.int (x12 + (1 : Int32))), none, none, none]) dX3_settle_45 rfl (zinc zci_1 _) (by decide) rfl ?_
      refine z_goto 48 35 dX3_settle_48 (by decide) ?_
      exact zk_weak (L' := [some (.ref 59), some (.int p1), none, some (.int (x12 + (1 : Int32))), none, none, none]) (zLe_s (zLe_s (zLe_n (zLe_s (zLe_n (zLe_n (zLe_n zLe_nl))))))) (hrec14 ((x12 + (1 : Int32)), M18))
def fX3_isTaken (p1 : Int32) (p2 : Int32) (M : zM) : Option Bool :=
  grd (zix (p2 + (1 : Int32)) 11) (if (M.1 64 (zn (p2 + (1 : Int32)))) = (p1 + (1 : Int32)) then (grd (zix ((p1 * (10 : Int32)) + p2) 100) (if (0 : Int64) ≤ (M.2 60 (zn ((p1 * (10 : Int32)) + p2))) then (some false) else (some true))) else (some false))
set_option maxHeartbeats 4000000 in
set_option maxRecDepth 100000 in
theorem tX3_isTaken (E : zE) (p1 : Int32) (p2 : Int32) (M : zM) : zFb E mX3_isTaken [.ref 59, .int p1, .int p2] zY0 M (fX3_isTaken p1 p2 M) := by
  refine zF_of (L := [some (.ref 59), some (.int p1), some (.int p2)]) plX3 (Nat.le_of_ble_eq_true rfl) rfl (fun post => ?_)
  unfold fX3_isTaken
  refine z_aload_n 0 dX3_isTaken_0 rfl ?_
  refine z_getR 1 (r := 64) dX3_isTaken_1 fl_X3_24 zy_59 rfl ?_
  refine z_iload_n 4 dX3_isTaken_4 rfl ?_
  refine z_iconst 5 dX3_isTaken_5 zci_1 ?_
  refine z_iadd 6 dX3_isTaken_6 ?_
  refine z_iaload 7 dX3_isTaken_7 zy_64 ?_
  refine z_iload_n 8 dX3_isTaken_8 rfl ?_
  refine z_iconst 9 dX3_isTaken_9 zci_1 ?_
  refine z_iadd 10 dX3_isTaken_10 ?_
  refine z_icne 11 34 dX3_isTaken_11 (by decide) (fun _ => ?_) (fun _ => ?_)
  · refine z_aload_n 14 dX3_isTaken_14 rfl ?_
    refine z_getR 15 (r := 60) dX3_isTaken_15 fl_X3_9 zy_59 rfl ?_
    refine z_iload_n 18 dX3_isTaken_18 rfl ?_
    refine z_bipush 19 dX3_isTaken_19 zbp_10 ?_
    refine z_imul 21 dX3_isTaken_21 ?_
    refine z_iload_n 22 dX3_isTaken_22 rfl ?_
    refine z_iadd 23 dX3_isTaken_23 ?_
    refine z_laload 24 dX3_isTaken_24 zy_60 ?_
    refine z_lconst 25 dX3_isTaken_25 zlc_0 ?_
    refine z_lcmp 26 dX3_isTaken_26 ?_
    refine z_lcge 27 34 dX3_isTaken_27 (by decide) (fun _ => ?_) (fun _ => ?_)
    · refine z_iconst 34 dX3_isTaken_34 zci_0 ?_
      exact z_ireturn 35 (v := zb false) dX3_isTaken_35 rfl (zput_b false).1 (fun h => h)
    · refine z_iconst 30 dX3_isTaken_30 zci_1 ?_
      refine z_goto 31 35 dX3_isTaken_31 (by decide) ?_
      exact z_ireturn 35 (v := zb true) dX3_isTaken_35 rfl (zput_b true).1 (fun h => h)
  · refine z_iconst 34 dX3_isTaken_34 zci_0 ?_
    exact z_ireturn 35 (v := zb false) dX3_isTaken_35 rfl (zput_b false).1 (fun h => h)
def fX4_weighPair (p1 : Int32) (p2 : Int32) (p3 : Int32) (p4 : Int32) (M : zM) : Option zM :=
  sq (fX5_mayBe p1 p2 M) (fun (b1 : Bool) => if b1 = false then (some M) else (sq (fX5_gainOf p1 p2 M) (fun (x2 : Int32) => sq (fX3_setWeight p1 p2 ((p3.toInt64 * x2.toInt64) + p4.toInt64) M) (fun (M3 : zM) => some M3))))
set_option maxHeartbeats 4000000 in
set_option maxRecDepth 100000 in
theorem tX4_weighPair (E : zE) (p1 : Int32) (p2 : Int32) (p3 : Int32) (p4 : Int32) (M : zM) : zFV E mX4_weighPair [.ref 58, .int p1, .int p2, .int p3, .int p4] zY0 M (fX4_weighPair p1 p2 p3 p4 M) := by
  refine zF_of (L := [some (.ref 58), some (.int p1), some (.int p2), some (.int p3), some (.int p4)]) plX4 (Nat.le_of_ble_eq_true rfl) rfl (fun post => ?_)
  unfold fX4_weighPair
  refine z_aload_n 0 dX4_weighPair_0 rfl ?_
  refine z_getR 1 (r := 55) dX4_weighPair_1 fl_X4_22 zy_58 rfl ?_
  refine z_iload_n 4 dX4_weighPair_4 rfl ?_
  refine z_iload_n 5 dX4_weighPair_5 rfl ?_
  refine z_cb (zat_V2 6 dX4_weighPair_6 lk_X4_48 zy_55 rfl rfl ⟨Nat.le_of_ble_eq_true rfl, Nat.le_of_ble_eq_true rfl⟩ (Nat.le_of_ble_eq_true rfl)) (tX5_mayBe E p1 p2 M) (fun b1 => ?_)
  refine z_ifeqb 9 38 dX4_weighPair_9 (by decide) (fun _ => ?_) (fun _ => ?_)
  · exact z_return 38 dX4_weighPair_38 rfl (fun h => h)
  · refine z_aload_n 12 dX4_weighPair_12 rfl ?_
    refine z_getR 13 (r := 59) dX4_weighPair_13 fl_X4_12 zy_58 rfl ?_
    refine z_iload_n 16 dX4_weighPair_16 rfl ?_
    refine z_iload_n 17 dX4_weighPair_17 rfl ?_
    refine z_iload_n 18 dX4_weighPair_18 rfl ?_
    refine z_i2l 19 dX4_weighPair_19 ?_
    refine z_aload_n 20 dX4_weighPair_20 rfl ?_
    refine z_getR 21 (r := 55) dX4_weighPair_21 fl_X4_22 zy_58 rfl ?_
    refine z_iload_n 24 dX4_weighPair_24 rfl ?_
    refine z_iload_n 25 dX4_weighPair_25 rfl ?_
    refine z_ci (zat_V2 26 dX4_weighPair_26 lk_X4_52 zy_55 rfl rfl ⟨Nat.le_of_ble_eq_true rfl, Nat.le_of_ble_eq_true rfl⟩ (Nat.le_of_ble_eq_true rfl)) (tX5_gainOf E p1 p2 M) (fun x2 => ?_)
    refine z_i2l 29 dX4_weighPair_29 ?_
    refine z_lmul 30 dX4_weighPair_30 ?_
    refine z_iload 31 dX4_weighPair_31 rfl ?_
    refine z_i2l 33 dX4_weighPair_33 ?_
    refine z_ladd 34 dX4_weighPair_34 ?_
    refine z_cV (zat_V3 35 dX4_weighPair_35 lk_X4_56 zy_59 rfl rfl ⟨Nat.le_of_ble_eq_true rfl, Nat.le_of_ble_eq_true rfl⟩ (Nat.le_of_ble_eq_true rfl)) (tX3_setWeight E p1 p2 ((p3.toInt64 * x2.toInt64) + p4.toInt64) M) (fun M3 => ?_)
    exact z_return 38 dX4_weighPair_38 rfl (fun h => h)
def fX4_weighAll (p1 : Int32) (p2 : Int32) (M : zM) : Option zM :=
  sq (fX3_clear M) (fun (M1 : zM) => zlp (α := Int32 × zM) (fun rec23 => (fun (u35 : Int32 × zM) => match u35 with | (x21, M22) => if (M22.1 55 0) ≤ x21 then (some M22) else (sq (α := zM) (zlp (α := Int32 × zM) (β := zM) (fun rec28 => (fun (u33 : Int32 × zM) => match u33 with | (x26, M27) => if (M27.1 55 1) ≤ x26 then (some M27) else (sq (fX4_weighPair x21 x26 p1 p2 M27) (fun (M32 : zM) => rec28 ((x26 + (1 : Int32)), M32))))) zFu ((0 : Int32), M22)) (fun (M31 : zM) => rec23 ((x21 + (1 : Int32)), M31))))) zFu ((0 : Int32), M1))
set_option maxHeartbeats 4000000 in
set_option maxRecDepth 100000 in
theorem tX4_weighAll (E : zE) (p1 : Int32) (p2 : Int32) (M : zM) : zFV E mX4_weighAll [.ref 58, .int p1, .int p2] zY0 M (fX4_weighAll p1 p2 M) := by
  refine zF_of (L := [some (.ref 58), some (.int p1), some (.int p2), none, none]) plX4 (Nat.le_of_ble_eq_true rfl) rfl (fun post => ?_)
  unfold fX4_weighAll
  refine z_aload_n 0 dX4_weighAll_0 rfl ?_
  refine z_getR 1 (r := 59) dX4_weighAll_1 fl_X4_12 zy_58 rfl ?_
  refine z_cV (zat_V0 4 dX4_weighAll_4 lk_X4_32 zy_59 rfl rfl ⟨Nat.le_of_ble_eq_true rfl, Nat.le_of_ble_eq_true rfl⟩ (Nat.le_of_ble_eq_true rfl)) (tX3_clear E M) (fun M1 => ?_)
  refine z_iconst 7 dX4_weighAll_7 zci_0 ?_
  refine z_istore_n 8 (L' := [some (.ref 58), some (.int p1), some (.int p2), some (.int (0 : Int32)), none]) dX4_weighAll_8 (by decide) rfl ?_
  refine zk_weak (L' := [some (.ref 58), some (.int p1), some (.int p2), some (.int (0 : Int32)), none]) (zLe_s (zLe_s (zLe_s (zLe_s (zLe_n zLe_nl))))) (zk_lp (α := Int32 × zM) 9 (fun (u24 : Int32 × zM) => match u24 with | (x21, M22) => [some (.ref 58), some (.int p1), some (.int p2), some (.int x21), none]) (fun (u25 : Int32 × zM) => match u25 with | (x21, M22) => (zY0, M22)) ?_ zFu ((0 : Int32), M1))
  intro rec23 hrec23
  intro u36
  obtain ⟨x21, M22⟩ := u36
  try dsimp only
  refine z_iload_n 9 dX4_weighAll_9 rfl ?_
  refine z_aload_n 10 dX4_weighAll_10 rfl ?_
  refine z_getR 11 (r := 55) dX4_weighAll_11 fl_X4_22 zy_58 rfl ?_
  refine z_getI 14 dX4_weighAll_14 fl_X4_35 zy_55 rfl ?_
  refine z_icge 17 56 dX4_weighAll_17 (by decide) (fun _ => ?_) (fun _ => ?_)
  · exact z_return 56 dX4_weighAll_56 rfl (fun h => h)
  · refine z_iconst 20 dX4_weighAll_20 zci_0 ?_
    refine z_istore 21 (L' := [some (.ref 58), some (.int p1), some (.int p2), some (.int x21), some (.int (0 : Int32))]) dX4_weighAll_21 (by decide) rfl ?_
    refine zk_sqj (α := zM) 50 (fun (M31 : zM) => [some (.ref 58), some (.int p1), some (.int p2), some (.int x21), none]) (fun (M31 : zM) => []) (fun (M31 : zM) => (zY0, M31)) ?_ ?_
    · intro M31
      refine z_iinc 50 (v := (x21 + (1 : Int32))) (L' := [some (.ref 58), some (.int p1), some (.int p2), some (.int (x21 + (1 : Int32))), none]) dX4_weighAll_50 rfl (zinc zci_1 _) (by decide) rfl ?_
      refine z_goto 53 9 dX4_weighAll_53 (by decide) ?_
      exact zk_weak (L' := [some (.ref 58), some (.int p1), some (.int p2), some (.int (x21 + (1 : Int32))), none]) (zLe_s (zLe_s (zLe_s (zLe_s (zLe_n zLe_nl))))) (hrec23 ((x21 + (1 : Int32)), M31))
    · refine zk_weak (L' := [some (.ref 58), some (.int p1), some (.int p2), some (.int x21), some (.int (0 : Int32))]) (zLe_s (zLe_s (zLe_s (zLe_s (zLe_s zLe_nl))))) (zk_lp (α := Int32 × zM) 23 (fun (u29 : Int32 × zM) => match u29 with | (x26, M27) => [some (.ref 58), some (.int p1), some (.int p2), some (.int x21), some (.int x26)]) (fun (u30 : Int32 × zM) => match u30 with | (x26, M27) => (zY0, M27)) ?_ zFu ((0 : Int32), M22))
      intro rec28 hrec28
      intro u34
      obtain ⟨x26, M27⟩ := u34
      try dsimp only
      refine z_iload 23 dX4_weighAll_23 rfl ?_
      refine z_aload_n 25 dX4_weighAll_25 rfl ?_
      refine z_getR 26 (r := 55) dX4_weighAll_26 fl_X4_22 zy_58 rfl ?_
      refine z_getI 29 dX4_weighAll_29 fl_X4_41 zy_55 rfl ?_
      refine z_icge 32 50 dX4_weighAll_32 (by decide) (fun _ => ?_) (fun _ => ?_)
      · exact zk_exitw (L' := [some (.ref 58), some (.int p1), some (.int p2), some (.int x21), none]) (zLe_s (zLe_s (zLe_s (zLe_s (zLe_n zLe_nl))))) (fun h => h)
      · refine z_aload_n 35 dX4_weighAll_35 rfl ?_
        refine z_iload_n 36 dX4_weighAll_36 rfl ?_
        refine z_iload 37 dX4_weighAll_37 rfl ?_
        refine z_iload_n 39 dX4_weighAll_39 rfl ?_
        refine z_iload_n 40 dX4_weighAll_40 rfl ?_
        refine z_cV (zat_V4 41 dX4_weighAll_41 lk_X4_44 zy_58 rfl rfl ⟨Nat.le_of_ble_eq_true rfl, Nat.le_of_ble_eq_true rfl⟩ (Nat.le_of_ble_eq_true rfl)) (tX4_weighPair E x21 x26 p1 p2 M27) (fun M32 => ?_)
        refine z_iinc 44 (v := (x26 + (1 : Int32))) (L' := [some (.ref 58), some (.int p1), some (.int p2), some (.int x21), some (.int (x26 + (1 : Int32)))]) dX4_weighAll_44 rfl (zinc zci_1 _) (by decide) rfl ?_
        refine z_goto 47 23 dX4_weighAll_47 (by decide) ?_
        exact zk_weak (L' := [some (.ref 58), some (.int p1), some (.int p2), some (.int x21), some (.int (x26 + (1 : Int32)))]) (zLe_s (zLe_s (zLe_s (zLe_s (zLe_s zLe_nl))))) (hrec28 ((x26 + (1 : Int32)), M32))
