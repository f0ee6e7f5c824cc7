def fX3_setWeight (p1 : Int32) (p2 : Int32) (p3 : Int64) (M : zM) : Option zM :=
  grd (zix ((p1 * (10 : Int32)) + p2) 100) (lt (zwL M 60 (zn ((p1 * (10 : Int32)) + p2)) (zmnl (0 : Int64) p3)) (fun (M1 : zM) => some M1))
set_option maxHeartbeats 4000000 in
set_option maxRecDepth 100000 in
theorem tX3_setWeight (E : zE) (p1 : Int32) (p2 : Int32) (p3 : Int64) (M : zM) : zFV E mX3_setWeight [.ref 59, .int p1, .int p2, .long p3] zY0 M (fX3_setWeight p1 p2 p3 M) := by
  refine zF_of (L := [some (.ref 59), some (.int p1), some (.int p2), some (.long p3), none]) plX3 (Nat.le_of_ble_eq_true rfl) rfl (fun post => ?_)
  unfold fX3_setWeight
  refine z_aload_n 0 dX3_setWeight_0 rfl ?_
  refine z_getR 1 (r := 60) dX3_setWeight_1 fl_X3_9 zy_59 rfl ?_
  refine z_iload_n 4 dX3_setWeight_4 rfl ?_
  refine z_bipush 5 dX3_setWeight_5 zbp_10 ?_
  refine z_imul 7 dX3_setWeight_7 ?_
  refine z_iload_n 8 dX3_setWeight_8 rfl ?_
  refine z_iadd 9 dX3_setWeight_9 ?_
  refine z_lconst 10 dX3_setWeight_10 zlc_0 ?_
  refine z_lload_n 11 dX3_setWeight_11 rfl ?_
  refine z_mminl 12 dX3_setWeight_12 ml_X3_37 ml_mminl.1 ml_mminl.2.1 ml_mminl.2.2 ⟨Nat.le_of_ble_eq_true rfl, Nat.le_of_ble_eq_true rfl⟩ ?_
  refine z_lastore 15 dX3_setWeight_15 zy_60 ?_
  refine zk_nmM (fun M1 => ?_)
  exact z_return 16 dX3_setWeight_16 rfl (fun h => h)
def fX3_reachFrom (p1 : Int32) (M : zM) : Option zM :=
  grd (zix p1 11) (lt ((M.1 64 (zn p1))) (fun (x1 : Int32) => zlp (α := Int32 × zM) (fun rec14 => (fun (u24 : Int32 × zM) => match u24 with | (x12, M13) => if (M13.1 59 0) < x12 then (some M13) else (grd (zix ((((x1 - (1 : Int32)) * (10 : Int32)) + x12) - (1 : Int32)) 100) (lt ((M13.2 60 (zn ((((x1 - (1 : Int32)) * (10 : Int32)) + x12) - (1 : Int32))))) (fun (x17 : Int64) => grd (zix x1 11) (grd (zix x12 11) (lt (((x17 - (M13.2 61 (zn x1))) - (M13.2 62 (zn x12)))) (fun (x18 : Int64) => sq (α := zM) (if (((M13.1 59 1) >>> (x12 &&& 31)) &&& (1 : Int32)) = 0 then (grd (zix x12 11) (if (M13.2 63 (zn x12)) ≤ x18 then (some M13) else (grd (zix x12 11) (lt (zwL M13 63 (zn x12) x18) (fun (M22 : zM) => grd (zix x12 11) (lt (zwI M22 65 (zn x12) p1) (fun (M23 : zM) => some M23))))))) else (some M13)) (fun (M21 : zM) => rec14 ((x12 + (1 : Int32)), M21)))))))))) zFu ((1 : Int32), M)))
set_option maxHeartbeats 4000000 in
set_option maxRecDepth 100000 in
theorem tX3_reachFrom (E : zE) (p1 : Int32) (M : zM) : zFV E mX3_reachFrom [.ref 59, .int p1] zY0 M (fX3_reachFrom p1 M) := by
  refine zF_of (L := [some (.ref 59), some (.int p1), none, none, none, none, none, none]) plX3 (Nat.le_of_ble_eq_true rfl) rfl (fun post => ?_)
  unfold fX3_reachFrom
  refine z_aload_n 0 dX3_reachFrom_0 rfl ?_
  refine z_getR 1 (r := 64) dX3_reachFrom_1 fl_X3_24 zy_59 rfl ?_
  refine z_iload_n 4 dX3_reachFrom_4 rfl ?_
  refine z_iaload 5 dX3_reachFrom_5 zy_64 ?_
  refine zk_nmI (fun x1 => ?_)
  refine z_istore_n 6 (L' := [some (.ref 59), some (.int p1), some (.int x1), none, none, none, none, none]) dX3_reachFrom_6 (by decide) rfl ?_
  refine z_iconst 7 dX3_reachFrom_7 zci_1 ?_
  refine z_istore_n 8 (L' := [some (.ref 59), some (.int p1), some (.int x1), some (.int (1 : Int32)), none, none, none, none]) dX3_reachFrom_8 (by decide) rfl ?_
  refine zk_weak (L' := [some (.ref 59), some (.int p1), some (.int x1), some (.int (1 : Int32)), none, none, none, none]) (zLe_s (zLe_s (zLe_s (zLe_s (zLe_n (zLe_n (zLe_n (zLe_n zLe_nl)))))))) (zk_lp (α := Int32 × zM) 9 (fun (u15 : Int32 × zM) => match u15 with | (x12, M13) => [some (.ref 59), some (.int p1), some (.int x1), some (.int x12), none, none, none, none]) (fun (u16 : Int32 × zM) => match u16 with | (x12, M13) => (zY0, M13)) ?_ zFu ((1 : Int32), M))
  intro rec14 hrec14
  intro u25
  obtain ⟨x12, M13⟩ := u25
  try dsimp only
  refine z_iload_n 9 dX3_reachFrom_9 rfl ?_
  refine z_aload_n 10 dX3_reachFrom_10 rfl ?_
  refine z_getI 11 dX3_reachFrom_11 fl_X3_47 zy_59 rfl ?_
  refine z_icgt 14 96 dX3_reachFrom_14 (by decide) (fun _ => ?_) (fun _ => ?_)
  · exact z_return 96 dX3_reachFrom_96 rfl (fun h => h)
  · refine z_aload_n 17 dX3_reachFrom_17 rfl ?_
    refine z_getR 18 (r := 60) dX3_reachFrom_18 fl_X3_9 zy_59 rfl ?_
    refine z_iload_n 21 dX3_reachFrom_21 rfl ?_
    refine z_iconst 22 dX3_reachFrom_22 zci_1 ?_
    refine z_isub 23 dX3_reachFrom_23 ?_
    refine z_bipush 24 dX3_reachFrom_24 zbp_10 ?_
    refine z_imul 26 dX3_reachFrom_26 ?_
    refine z_iload_n 27 dX3_reachFrom_27 rfl ?_
    refine z_iadd 28 dX3_reachFrom_28 ?_
    refine z_iconst 29 dX3_reachFrom_29 zci_1 ?_
    refine z_isub 30 dX3_reachFrom_30 ?_
    refine z_laload 31 dX3_reachFrom_31 zy_60 ?_
    refine zk_nmL (fun x17 => ?_)
    refine z_lstore 32 (L' := [some (.ref 59), some (.int p1), some (.int x1), some (.int x12), some (.long x17), none, none, none]) dX3_reachFrom_32 (by decide) rfl ?_
    refine z_lload 34 dX3_reachFrom_34 rfl ?_
    refine z_aload_n 36 dX3_reachFrom_36 rfl ?_
    refine z_getR 37 (r := 61) dX3_reachFrom_37 fl_X3_15 zy_59 rfl ?_
    refine z_iload_n 40 dX3_reachFrom_40 rfl ?_
    refine z_laload 41 dX3_reachFrom_41 zy_61 ?_
    refine z_lsub 42 dX3_reachFrom_42 ?_
    refine z_aload_n 43 dX3_reachFrom_43 rfl ?_
    refine z_getR 44 (r := 62) dX3_reachFrom_44 fl_X3_18 zy_59 rfl ?_
    refine z_iload_n 47 dX3_reachFrom_47 rfl ?_
    refine z_laload 48 dX3_reachFrom_48 zy_62 ?_
    refine z_lsub 49 dX3_reachFrom_49 ?_
    refine zk_nmL (fun x18 => ?_)
    refine z_lstore 50 (L' := [some (.ref 59), some (.int p1), some (.int x1), some (.int x12), some (.long x17), none, some (.long x18), none]) dX3_reachFrom_50 (by decide) rfl ?_
    refine z_aload_n 52 dX3_reachFrom_52 rfl ?_
    refine z_getI 53 dX3_reachFrom_53 fl_X3_60 zy_59 rfl ?_
    refine z_iload_n 56 dX3_reachFrom_56 rfl ?_
    refine z_ishr 57 dX3_reachFrom_57 ?_
    refine z_iconst 58 dX3_reachFrom_58 zci_1 ?_
    refine z_iand 59 dX3_reachFrom_59 ?_
    refine zk_sqj (α := zM) 90 (fun (M21 : zM) => [some (.ref 59), some (.int p1), some (.int x1), some (.int x12), none, none, none, none]) (fun (M21 : zM) => []) (fun (M21 : zM) => (zY0, M21)) ?_ ?_
    · intro M21
      refine z_iinc 90 (v := (x12 + (1 : Int32))) (L' := [some (.ref 59), some (.int p1), some (.int x1), some (.int (x12 + (1 : Int32))), none, none, none, none]) dX3_reachFrom_90 rfl (zinc zci_1 _) (by decide) rfl ?_
      refine z_goto 93 9 dX3_reachFrom_93 (by decide) ?_
      exact zk_weak (L' := [some (.ref 59), some (.int p1), some (.int x1), some (.int (x12 + (1 : Int32))), none, none, none, none]) (zLe_s (zLe_s (zLe_s (zLe_s (zLe_n (zLe_n (zLe_n (zLe_n zLe_nl)))))))) (hrec14 ((x12 + (1 : Int32)), M21))
    · refine z_ifne 60 90 dX3_reachFrom_60 (by decide) (fun _ => ?_) (fun _ => ?_)
      · refine z_lload 63 dX3_reachFrom_63 rfl ?_
        refine z_aload_n 65 dX3_reachFrom_65 rfl ?_
        refine z_getR 66 (r := 63) dX3_reachFrom_66 fl_X3_21 zy_59 rfl ?_
        refine z_iload_n 69 dX3_reachFrom_69 rfl ?_
        refine z_laload 70 dX3_reachFrom_70 zy_63 ?_
        refine z_lcmp 71 dX3_reachFrom_71 ?_
        refine z_lcge 72 90 dX3_reachFrom_72 (by decide) (fun _ => ?_) (fun _ => ?_)
        · exact zk_exitw (L' := [some (.ref 59), some (.int p1), some (.int x1), some (.int x12), none, none, none, none]) (zLe_s (zLe_s (zLe_s (zLe_s (zLe_n (zLe_n (zLe_n (zLe_n zLe_nl)))))))) (fun h => h)
        · refine z_aload_n 75 dX3_reachFrom_75 rfl ?_
          refine z_getR 76 (r := 63) dX3_reachFrom_76 fl_X3_21 zy_59 rfl ?_
          refine z_iload_n 79 dX3_reachFrom_79 rfl ?_
          refine z_lload 80 dX3_reachFrom_80 rfl ?_
          refine z_lastore 82 dX3_reachFrom_82 zy_63 ?_
          refine zk_nmM (fun M22 => ?_)
          refine z_aload_n 83 dX3_reachFrom_83 rfl ?_
          refine z_getR 84 (r := 65) dX3_reachFrom_84 fl_X3_28 zy_59 rfl ?_
          refine z_iload_n 87 dX3_reachFrom_87 rfl ?_
          refine z_iload_n 88 dX3_reachFrom_88 rfl ?_
          refine z_iastore 89 dX3_reachFrom_89 zy_65 ?_
          refine zk_nmM (fun M23 => ?_)
          exact zk_exitw (L' := [some (.ref 59), some (.int p1), some (.int x1), some (.int x12), none, none, none, none]) (zLe_s (zLe_s (zLe_s (zLe_s (zLe_n (zLe_n (zLe_n (zLe_n zLe_nl)))))))) (fun h => h)
      · exact zk_exitw (L' := [some (.ref 59), some (.int p1), some (.int x1), some (.int x12), none, none, none, none]) (zLe_s (zLe_s (zLe_s (zLe_s (zLe_n (zLe_n (zLe_n (zLe_n zLe_nl)))))))) (fun h => h)
def fX3_nearest (M : zM) : Option Int32 :=
  zlp (α := Int32 × Int32) (fun rec17 => (fun (u23 : Int32 × Int32) => match u23 with | (x15, x16) => if (M.1 59 0) < x16 then (some x15) else (sq (α := Int32) (if (((M.1 59 1) >>> (x16 &&& 31)) &&& (1 : Int32)) = 0 then (jn (α := Unit) (fun (_ : Unit) => some x16) (fun k22 => if x15 = 0 then (k22 ()) else (grd (zix x16 11) (grd (zix x15 11) (if (M.2 63 (zn x15)) ≤ (M.2 63 (zn x16)) then (some x15) else (k22 ())))))) else (some x15)) (fun (x21 : Int32) => rec17 (x21, (x16 + (1 : Int32))))))) zFu ((0 : Int32), (1 : Int32))
set_option maxHeartbeats 4000000 in
set_option maxRecDepth 100000 in
theorem tX3_nearest (E : zE)  (M : zM) : zFi E mX3_nearest [.ref 59] zY0 M (fX3_nearest M) := by
  refine zF_of (L := [some (.ref 59), none, none]) plX3 (Nat.le_of_ble_eq_true rfl) rfl (fun post => ?_)
  unfold fX3_nearest
  refine z_iconst 0 dX3_nearest_0 zci_0 ?_
  refine z_istore_n 1 (L' := [some (.ref 59), some (.int (0 : Int32)), none]) dX3_nearest_1 (by decide) rfl ?_
  refine z_iconst 2 dX3_nearest_2 zci_1 ?_
  refine z_istore_n 3 (L' := [some (.ref 59), some (.int (0 : Int32)), some (.int (1 : Int32))]) dX3_nearest_3 (by decide) rfl ?_
  refine zk_weak (L' := [some (.ref 59), some (.int (0 : Int32)), some (.int (1 : Int32))]) (zLe_s (zLe_s (zLe_s zLe_nl))) (zk_lp (α := Int32 × Int32) 4 (fun (u18 : Int32 × Int32) => match u18 with | (x15, x16) => [some (.ref 59), some (.int x15), some (.int x16)]) (fun (u19 : Int32 × Int32) => match u19 with | (x15, x16) => (zY0, M)) ?_ zFu ((0 : Int32), (1 : Int32)))
  intro rec17 hrec17
  intro u24
  obtain ⟨x15, x16⟩ := u24
  try dsimp only
  refine z_iload_n 4 dX3_nearest_4 rfl ?_
  refine z_aload_n 5 dX3_nearest_5 rfl ?_
  refine z_getI 6 dX3_nearest_6 fl_X3_47 zy_59 rfl ?_
  refine z_icgt 9 51 dX3_nearest_9 (by decide) (fun _ => ?_) (fun _ => ?_)
  · refine z_iload_n 51 dX3_nearest_51 rfl ?_
    exact z_ireturn 52 dX3_nearest_52 rfl rfl (fun h => h)
  · refine z_aload_n 12 dX3_nearest_12 rfl ?_
    refine z_getI 13 dX3_nearest_13 fl_X3_60 zy_59 rfl ?_
    refine z_iload_n 16 dX3_nearest_16 rfl ?_
    refine z_ishr 17 dX3_nearest_17 ?_
    refine z_iconst 18 dX3_nearest_18 zci_1 ?_
    refine z_iand 19 dX3_nearest_19 ?_
    refine zk_sqj (α := Int32) 45 (fun (x21 : Int32) => [some (.ref 59), some (.int x21), some (.int x16)]) (fun (x21 : Int32) => []) (fun (x21 : Int32) => (zY0, M)) ?_ ?_
    · intro x21
      refine z_iinc 45 (v := (x16 + (1 : Int32))) (L' := [some (.ref 59), some (.int x21), some (.int (x16 + (1 : Int32)))]) dX3_nearest_45 rfl (zinc zci_1 _) (by decide) rfl ?_
      refine z_goto 48 4 dX3_nearest_48 (by decide) ?_
      exact zk_weak (L' := [some (.ref 59), some (.int x21), some (.int (x16 + (1 : Int32)))]) (zLe_s (zLe_s (zLe_s zLe_nl))) (hrec17 (x21, (x16 + (1 : Int32))))
    · refine z_ifne 20 45 dX3_nearest_20 (by decide) (fun _ => ?_) (fun _ => ?_)
      · refine z_iload_n 23 dX3_nearest_23 rfl ?_
        refine zk_jn (α := Unit) 43 (fun (_ : Unit) => [some (.ref 59), none, some (.int x16)]) (fun (_ : Unit) => []) (fun (_ : Unit) => (zY0, M)) ?_ ?_
        · intro _
          refine z_iload_n 43 dX3_nearest_43 rfl ?_
          refine z_istore_n 44 (L' := [some (.ref 59), some (.int x16), some (.int x16)]) dX3_nearest_44 (by decide) rfl ?_
          exact zk_exitw (L' := [some (.ref 59), some (.int x16), some (.int x16)]) (zLe_s (zLe_s (zLe_s zLe_nl))) (fun h => h)
        · intro k22 hk22
          refine z_ifeq 24 43 dX3_nearest_24 (by decide) (fun _ => ?_) (fun _ => ?_)
          · exact zk_weak (L' := [some (.ref 59), none, some (.int x16)]) (zLe_s (zLe_n (zLe_s zLe_nl))) (hk22 ())
          · refine z_aload_n 27 dX3_nearest_27 rfl ?_
            refine z_getR 28 (r := 63) dX3_nearest_28 fl_X3_21 zy_59 rfl ?_
            refine z_iload_n 31 dX3_nearest_31 rfl ?_
            refine z_laload 32 dX3_nearest_32 zy_63 ?_
            refine z_aload_n 33 dX3_nearest_33 rfl ?_
            refine z_getR 34 (r := 63) dX3_nearest_34 fl_X3_21 zy_59 rfl ?_
            refine z_iload_n 37 dX3_nearest_37 rfl ?_
            refine z_laload 38 dX3_nearest_38 zy_63 ?_
            refine z_lcmp 39 dX3_nearest_39 ?_
            refine z_lcge 40 45 dX3_nearest_40 (by decide) (fun _ => ?_) (fun _ => ?_)
            · exact zk_exitw (L' := [some (.ref 59), some (.int x15), some (.int x16)]) (zLe_s (zLe_s (zLe_s zLe_nl))) (fun h => h)
            · exact zk_weak (L' := [some (.ref 59), none, some (.int x16)]) (zLe_s (zLe_n (zLe_s zLe_nl))) (hk22 ())
      · exact zk_exitw (L' := [some (.ref 59), some (.int x15), some (.int x16)]) (zLe_s (zLe_s (zLe_s zLe_nl))) (fun h => h)
def fX3_shiftPrices (p1 : Int64) (M : zM) : Option zM :=
  zlp (α := Int32 × zM) (fun rec13 => (fun (u25 : Int32 × zM) => match u25 with | (x11, M12) => if (M12.1 59 0) < x11 then (some M12) else (sq (α := zM) (if (((M12.1 59 1) >>> (x11 &&& 31)) &&& (1 : Int32)) = (1 : Int32) then (grd (zix x11 11) (lt ((M12.1 64 (zn x11))) (fun (x21 : Int32) => grd (zix x21 11) (grd (zix x21 11) (lt (zwL M12 61 (zn x21) ((M12.2 61 (zn x21)) + p1)) (fun (M22 : zM) => grd (zix x11 11) (grd (zix x11 11) (lt (zwL M22 62 (zn x11) ((M22.2 62 (zn x11)) - p1)) (fun (M23 : zM) => some M23))))))))) else (grd (zix x11 11) (grd (zix x11 11) (lt (zwL M12 63 (zn x11) ((M12.2 63 (zn x11)) - p1)) (fun (M24 : zM) => some M24))))) (fun (M20 : zM) => rec13 ((x11 + (1 : Int32)), M20))))) zFu ((0 : Int32), M)
set_option maxHeartbeats 4000000 in
set_option maxRecDepth 100000 in
theorem tX3_shiftPrices (E : zE) (p1 : Int64) (M : zM) : zFV E mX3_shiftPrices [.ref 59, .long p1] zY0 M (fX3_shiftPrices p1 M) := by
  refine zF_of (L := [some (.ref 59), some (.long p1), none, none]) plX3 (Nat.le_of_ble_eq_true rfl) rfl (fun post => ?_)
  unfold fX3_shiftPrices
  refine z_iconst 0 dX3_shiftPrices_0 zci_0 ?_
  refine z_istore_n 1 (L' := [some (.ref 59), some (.long p1), none, some (.int (0 : Int32))]) dX3_shiftPrices_1 (by decide) rfl ?_
  refine zk_weak (L' := [some (.ref 59), some (.long p1), none, some (.int (0 : Int32))]) (zLe_s (zLe_s (zLe_n (zLe_s zLe_nl)))) (zk_lp (α := Int32 × zM) 2 (fun (u14 : Int32 × zM) => match u14 with | (x11, M12) => [some (.ref 59), some (.long p1), none, some (.int x11)]) (fun (u15 : Int32 × zM) => match u15 with | (x11, M12) => (zY0, M12)) ?_ zFu ((0 : Int32), M))
  intro rec13 hrec13
  intro u26
  obtain ⟨x11, M12⟩ := u26
  try dsimp only
  refine z_iload_n 2 dX3_shiftPrices_2 rfl ?_
  refine z_aload_n 3 dX3_shiftPrices_3 rfl ?_
  refine z_getI 4 dX3_shiftPrices_4 fl_X3_47 zy_59 rfl ?_
  refine z_icgt 7 66 dX3_shiftPrices_7 (by decide) (fun _ => ?_) (fun _ => ?_)
  · exact z_return 66 dX3_shiftPrices_66 rfl (fun h => h)
  · refine z_aload_n 10 dX3_shiftPrices_10 rfl ?_
    refine z_getI 11 dX3_shiftPrices_11 fl_X3_60 zy_59 rfl ?_
    refine z_iload_n 14 dX3_shiftPrices_14 rfl ?_
    refine z_ishr 15 dX3_shiftPrices_15 ?_
    refine z_iconst 16 dX3_shiftPrices_16 zci_1 ?_
    refine z_iand 17 dX3_shiftPrices_17 ?_
    refine z_iconst 18 dX3_shiftPrices_18 zci_1 ?_
    refine zk_sqj (α := zM) 60 (fun (M20 : zM) => [some (.ref 59), some (.long p1), none, some (.int x11)]) (fun (M20 : zM) => []) (fun (M20 : zM) => (zY0, M20)) ?_ ?_
    · intro M20
      refine z_iinc 60 (v := (x11 + (1 : Int32))) (L' := [some (.ref 59), some (.long p1), none, some (.int (x11 + (1 : Int32)))]) dX3_shiftPrices_60 rfl (zinc zci_1 _) (by decide) rfl ?_
      refine z_goto 63 2 dX3_shiftPrices_63 (by decide) ?_
      exact zk_weak (L' := [some (.ref 59), some (.long p1), none, some (.int (x11 + (1 : Int32)))]) (zLe_s (zLe_s (zLe_n (zLe_s zLe_nl)))) (hrec13 ((x11 + (1 : Int32)), M20))
    · refine z_icne 19 50 dX3_shiftPrices_19 (by decide) (fun _ => ?_) (fun _ => ?_)
      · refine z_aload_n 22 dX3_shiftPrices_22 rfl ?_
        refine z_getR 23 (r := 61) dX3_shiftPrices_23 fl_X3_15 zy_59 rfl ?_
        refine z_aload_n 26 dX3_shiftPrices_26 rfl ?_
        refine z_getR 27 (r := 64) dX3_shiftPrices_27 fl_X3_24 zy_59 rfl ?_
        refine z_iload_n 30 dX3_shiftPrices_30 rfl ?_
        refine z_iaload 31 dX3_shiftPrices_31 zy_64 ?_
        refine zk_nmI (fun x21 => ?_)
        refine z_dup2 32 dX3_shiftPrices_32 rfl rfl ?_
        refine z_laload 33 dX3_shiftPrices_33 zy_61 ?_
        refine z_lload_n 34 dX3_shiftPrices_34 rfl ?_
        refine z_ladd 35 dX3_shiftPrices_35 ?_
        refine z_lastore 36 dX3_shiftPrices_36 zy_61 ?_
        refine zk_nmM (fun M22 => ?_)
        refine z_aload_n 37 dX3_shiftPrices_37 rfl ?_
        refine z_getR 38 (r := 62) dX3_shiftPrices_38 fl_X3_18 zy_59 rfl ?_
        refine z_iload_n 41 dX3_shiftPrices_41 rfl ?_
        refine z_dup2 42 dX3_shiftPrices_42 rfl rfl ?_
        refine z_laload 43 dX3_shiftPrices_43 zy_62 ?_
        refine z_lload_n 44 dX3_shiftPrices_44 rfl ?_
        refine z_lsub 45 dX3_shiftPrices_45 ?_
        refine z_lastore 46 dX3_shiftPrices_46 zy_62 ?_
        refine zk_nmM (fun M23 => ?_)
        refine z_goto 47 60 dX3_shiftPrices_47 (by decide) ?_
        exact zk_exitw (L' := [some (.ref 59), some (.long p1), none, some (.int x11)]) (zLe_s (zLe_s (zLe_n (zLe_s zLe_nl)))) (fun h => h)
      · refine z_aload_n 50 dX3_shiftPrices_50 rfl ?_
        refine z_getR 51 (r := 63) dX3_shiftPrices_51 fl_X3_21 zy_59 rfl ?_
        refine z_iload_n 54 dX3_shiftPrices_54 rfl ?_
        refine z_dup2 55 dX3_shiftPrices_55 rfl rfl ?_
        refine z_laload 56 dX3_shiftPrices_56 zy_63 ?_
        refine z_lload_n 57 dX3_shiftPrices_57 rfl ?_
        refine z_lsub 58 dX3_shiftPrices_58 ?_
        refine z_lastore 59 dX3_shiftPrices_59 zy_63 ?_
        refine zk_nmM (fun M24 => ?_)
        exact zk_exitw (L' := [some (.ref 59), some (.long p1), none, some (.int x11)]) (zLe_s (zLe_s (zLe_n (zLe_s zLe_nl)))) (fun h => h)
def fX3_seat (p1 : Int32) (M : zM) : Option zM :=
  sq (fJ7_fill_d0a16 63 11 (1152921504606846976 : Int64) M) (fun (M1 : zM) => lt (zwI M1 59 1 (0 : Int32)) (fun (M2 : zM) => grd (zix (0 : Int32) 11) (lt (zwI M2 64 (zn (0 : Int32)) p1) (fun (M3 : zM) => sq (α := Int32 × zM) (zlp (α := Int32 × Int32 × zM) (β := Int32 × zM) (fun rec31 => (fun (u58 : Int32 × Int32 × zM) => match u58 with | (x28, x29, M30) => if (M30.1 59 0) < x29 then (some (x28, M30)) else (grd (zix x28 11) (if (M30.1 64 (zn x28)) = 0 then (some (x28, M30)) else (lt (zwI M30 59 1 ((M30.1 59 1) ||| ((1 : Int32) <<< (x28 &&& 31)))) (fun (M36 : zM) => sq (fX3_reachFrom x28 M36) (fun (M37 : zM) => sq (fX3_nearest M37) (fun (x38 : Int32) => grd (zix x38 11) (sq (fX3_shiftPrices (M37.2 63 (zn x38)) M37) (fun (M39 : zM) => rec31 (x38, (x29 + (1 : Int32)), M39))))))))))) zFu ((0 : Int32), (0 : Int32), M3)) (fun (u59 : Int32 × zM) => match u59 with | (x34, M35) => zlp (α := Int32 × Int32 × zM) (fun rec51 => (fun (u56 : Int32 × Int32 × zM) => match u56 with | (x48, x49, M50) => if (M50.1 59 0) < x49 then (some M50) else (if x48 = 0 then (some M50) else (grd (zix x48 11) (grd (zix (M50.1 65 (zn x48)) 11) (grd (zix x48 11) (lt (zwI M50 64 (zn x48) (M50.1 64 (zn (M50.1 65 (zn x48))))) (fun (M54 : zM) => grd (zix x48 11) (lt ((M54.1 65 (zn x48))) (fun (x55 : Int32) => rec51 (x55, (x49 + (1 : Int32)), M54))))))))))) zFu (x34, (0 : Int32), M35))))))
set_option maxHeartbeats 4000000 in
set_option maxRecDepth 100000 in
theorem tX3_seat (E : zE) (p1 : Int32) (M : zM) : zFV E mX3_seat [.ref 59, .int p1] zY0 M (fX3_seat p1 M) := by
  refine zF_of (L := [some (.ref 59), some (.int p1), none, none, none]) plX3 (Nat.le_of_ble_eq_true rfl) rfl (fun post => ?_)
  unfold fX3_seat
  refine z_aload_n 0 dX3_seat_0 rfl ?_
  refine z_getR 1 (r := 63) dX3_seat_1 fl_X3_21 zy_59 rfl ?_
  refine z_ldc2 4 dX3_seat_4 cw_X3_58 ?_
  refine z_cV (zat_S2 7 dX3_seat_7 lk_X3_31 ⟨Nat.le_of_ble_eq_true rfl, Nat.le_of_ble_eq_true rfl⟩ (Nat.le_of_ble_eq_true rfl)) (tJ7_fill_d0a16 E zY0 63 11 zy_63 (1152921504606846976 : Int64) M) (fun M1 => ?_)
  refine z_aload_n 10 dX3_seat_10 rfl ?_
  refine z_iconst 11 dX3_seat_11 zci_0 ?_
  refine z_put 12 dX3_seat_12 fp_X3_60 zy_59 rfl (zput_i _) ?_
  refine zk_nmM (fun M2 => ?_)
  refine z_aload_n 15 dX3_seat_15 rfl ?_
  refine z_getR 16 (r := 64) dX3_seat_16 fl_X3_24 zy_59 rfl ?_
  refine z_iconst 19 dX3_seat_19 zci_0 ?_
  refine z_iload_n 20 dX3_seat_20 rfl ?_
  refine z_iastore 21 dX3_seat_21 zy_64 ?_
  refine zk_nmM (fun M3 => ?_)
  refine z_iconst 22 dX3_seat_22 zci_0 ?_
  refine z_istore_n 23 (L' := [some (.ref 59), some (.int p1), some (.int (0 : Int32)), none, none]) dX3_seat_23 (by decide) rfl ?_
  refine z_iconst 24 dX3_seat_24 zci_0 ?_
  refine z_istore_n 25 (L' := [some (.ref 59), some (.int p1), some (.int (0 : Int32)), some (.int (0 : Int32)), none]) dX3_seat_25 (by decide) rfl ?_
  refine zk_sqj (α := Int32 × zM) 86 (fun (u60 : Int32 × zM) => match u60 with | (x34, M35) => [some (.ref 59), none, some (.int x34), none, none]) (fun (u61 : Int32 × zM) => match u61 with | (x34, M35) => []) (fun (u62 : Int32 × zM) => match u62 with | (x34, M35) => (zY0, M35)) ?_ ?_
  · intro u63
    obtain ⟨x34, M35⟩ := u63
    try dsimp only
    refine z_iconst 86 dX3_seat_86 zci_0 ?_
    refine z_istore_n 87 (L' := [some (.ref 59), none, some (.int x34), some (.int (0 : Int32)), none]) dX3_seat_87 (by decide) rfl ?_
    refine zk_weak (L' := [some (.ref 59), none, some (.int x34), some (.int (0 : Int32)), none]) (zLe_s (zLe_n (zLe_s (zLe_s (zLe_n zLe_nl))))) (zk_lp (α := Int32 × Int32 × zM) 88 (fun (u52 : Int32 × Int32 × zM) => match u52 with | (x48, x49, M50) => [some (.ref 59), none, some (.int x48), some (.int x49), none]) (fun (u53 : Int32 × Int32 × zM) => match u53 with | (x48, x49, M50) => (zY0, M50)) ?_ zFu (x34, (0 : Int32), M35))
    intro rec51 hrec51
    intro u57
    obtain ⟨x48, x49, M50⟩ := u57
    try dsimp only
    refine z_iload_n 88 dX3_seat_88 rfl ?_
    refine z_aload_n 89 dX3_seat_89 rfl ?_
    refine z_getI 90 dX3_seat_90 fl_X3_47 zy_59 rfl ?_
    refine z_icgt 93 130 dX3_seat_93 (by decide) (fun _ => ?_) (fun _ => ?_)
    · exact z_return 130 dX3_seat_130 rfl (fun h => h)
    · refine z_iload_n 96 dX3_seat_96 rfl ?_
      refine z_ifeq 97 130 dX3_seat_97 (by decide) (fun _ => ?_) (fun _ => ?_)
      · exact z_return 130 dX3_seat_130 rfl (fun h => h)
      · refine z_aload_n 100 dX3_seat_100 rfl ?_
        refine z_getR 101 (r := 64) dX3_seat_101 fl_X3_24 zy_59 rfl ?_
        refine z_iload_n 104 dX3_seat_104 rfl ?_
        refine z_aload_n 105 dX3_seat_105 rfl ?_
        refine z_getR 106 (r := 64) dX3_seat_106 fl_X3_24 zy_59 rfl ?_
        refine z_aload_n 109 dX3_seat_109 rfl ?_
        refine z_getR 110 (r := 65) dX3_seat_110 fl_X3_28 zy_59 rfl ?_
        refine z_iload_n 113 dX3_seat_113 rfl ?_
        refine z_iaload 114 dX3_seat_114 zy_65 ?_
        refine z_iaload 115 dX3_seat_115 zy_64 ?_
        refine z_iastore 116 dX3_seat_116 zy_64 ?_
        refine zk_nmM (fun M54 => ?_)
        refine z_aload_n 117 dX3_seat_117 rfl ?_
        refine z_getR 118 (r := 65) dX3_seat_118 fl_X3_28 zy_59 rfl ?_
        refine z_iload_n 121 dX3_seat_121 rfl ?_
        refine z_iaload 122 dX3_seat_122 zy_65 ?_
        refine zk_nmI (fun x55 => ?_)
        refine z_istore_n 123 (L' := [some (.ref 59), none, some (.int x55), some (.int x49), none]) dX3_seat_123 (by decide) rfl ?_
        refine z_iinc 124 (v := (x49 + (1 : Int32))) (L' := [some (.ref 59), none, some (.int x55), some (.int (x49 + (1 : Int32))), none]) dX3_seat_124 rfl (zinc zci_1 _) (by decide) rfl ?_
        refine z_goto 127 88 dX3_seat_127 (by decide) ?_
        exact zk_weak (L' := [some (.ref 59), none, some (.int x55), some (.int (x49 + (1 : Int32))), none]) (zLe_s (zLe_n (zLe_s (zLe_s (zLe_n zLe_nl))))) (hrec51 (x55, (x49 + (1 : Int32)), M54))
  · refine zk_weak (L' := [some (.ref 59), none, some (.int (0 : Int32)), some (.int (0 : Int32)), none]) (zLe_s (zLe_n (zLe_s (zLe_s (zLe_n zLe_nl))))) (zk_lp (α := Int32 × Int32 × zM) 26 (fun (u32 : Int32 × Int32 × zM) => match u32 with | (x28, x29, M30) => [some (.ref 59), none, some (.int x28), some (.int x29), none]) (fun (u33 : Int32 × Int32 × zM) => match u33 with | (x28, x29, M30) => (zY0, M30)) ?_ zFu ((0 : Int32), (0 : Int32), M3))
    intro rec31 hrec31
    intro u64
    obtain ⟨x28, x29, M30⟩ := u64
    try dsimp only
    refine z_iload_n 26 dX3_seat_26 rfl ?_
    refine z_aload_n 27 dX3_seat_27 rfl ?_
    refine z_getI 28 dX3_seat_28 fl_X3_47 zy_59 rfl ?_
    refine z_icgt 31 86 dX3_seat_31 (by decide) (fun _ => ?_) (fun _ => ?_)
    · exact zk_exitw (L' := [some (.ref 59), none, some (.int x28), none, none]) (zLe_s (zLe_n (zLe_s (zLe_n (zLe_n zLe_nl))))) (fun h => h)
    · refine z_aload_n 34 dX3_seat_34 rfl ?_
      refine z_getR 35 (r := 64) dX3_seat_35 fl_X3_24 zy_59 rfl ?_
      refine z_iload_n 38 dX3_seat_38 rfl ?_
      refine z_iaload 39 dX3_seat_39 zy_64 ?_
      refine z_ifeq 40 86 dX3_seat_40 (by decide) (fun _ => ?_) (fun _ => ?_)
      · exact zk_exitw (L' := [some (.ref 59), none, some (.int x28), none, none]) (zLe_s (zLe_n (zLe_s (zLe_n (zLe_n zLe_nl))))) (fun h => h)
      · refine z_aload_n 43 dX3_seat_43 rfl ?_
        refine z_dup 44 dX3_seat_44 rfl ?_
        refine z_getI 45 dX3_seat_45 fl_X3_60 zy_59 rfl ?_
        refine z_iconst 48 dX3_seat_48 zci_1 ?_
        refine z_iload_n 49 dX3_seat_49 rfl ?_
        refine z_ishl 50 dX3_seat_50 ?_
        refine z_ior 51 dX3_seat_51 ?_
        refine z_put 52 dX3_seat_52 fp_X3_60 zy_59 rfl (zput_i _) ?_
        refine zk_nmM (fun M36 => ?_)
        refine z_aload_n 55 dX3_seat_55 rfl ?_
        refine z_iload_n 56 dX3_seat_56 rfl ?_
        refine z_cV (zat_V1 57 dX3_seat_57 lk_X3_63 zy_59 rfl rfl ⟨Nat.le_of_ble_eq_true rfl, Nat.le_of_ble_eq_true rfl⟩ (Nat.le_of_ble_eq_true rfl)) (tX3_reachFrom E x28 M36) (fun M37 => ?_)
        refine z_aload_n 60 dX3_seat_60 rfl ?_
        refine z_ci (zat_V0 61 dX3_seat_61 lk_X3_66 zy_59 rfl rfl ⟨Nat.le_of_ble_eq_true rfl, Nat.le_of_ble_eq_true rfl⟩ (Nat.le_of_ble_eq_true rfl)) (tX3_nearest E M37) (fun x38 => ?_)
        refine z_istore 64 (L' := [some (.ref 59), none, some (.int x28), some (.int x29), some (.int x38)]) dX3_seat_64 (by decide) rfl ?_
        refine z_aload_n 66 dX3_seat_66 rfl ?_
        refine z_aload_n 67 dX3_seat_67 rfl ?_
        refine z_getR 68 (r := 63) dX3_seat_68 fl_X3_21 zy_59 rfl ?_
        refine z_iload 71 dX3_seat_71 rfl ?_
        refine z_laload 73 dX3_seat_73 zy_63 ?_
        refine z_cV (zat_V1 74 dX3_seat_74 lk_X3_70 zy_59 rfl rfl ⟨Nat.le_of_ble_eq_true rfl, Nat.le_of_ble_eq_true rfl⟩ (Nat.le_of_ble_eq_true rfl)) (tX3_shiftPrices E (M37.2 63 (zn x38)) M37) (fun M39 => ?_)
        refine z_iload 77 dX3_seat_77 rfl ?_
        refine z_istore_n 79 (L' := [some (.ref 59), none, some (.int x38), some (.int x29), some (.int x38)]) dX3_seat_79 (by decide) rfl ?_
        refine z_iinc 80 (v := (x29 + (1 : Int32))) (L' := [some (.ref 59), none, some (.int x38), some (.int (x29 + (1 : Int32))), some (.int x38)]) dX3_seat_80 rfl (zinc zci_1 _) (by decide) rfl ?_
        refine z_goto 83 26 dX3_seat_83 (by decide) ?_
        exact zk_weak (L' := [some (.ref 59), none, some (.int x38), some (.int (x29 + (1 : Int32))), none]) (zLe_s (zLe_n (zLe_s (zLe_s (zLe_n zLe_nl))))) (hrec31 (x38, (x29 + (1 : Int32)), M39))
def fX3_settle (p1 : Int32) (p2 : Int32) (M : zM) : Option (Int64 × zM) :=
  lt (zwI M 59 0 (zmx p1 p2)) (fun (M1 : zM) => sq (fJ7_fill_d0a16 61 11 (0 : Int64) M1) (fun (M2 : zM) => sq (fJ7_fill_d0a16 62 11 (0 : Int64) M2) (fun (M3 : zM) => sq (fJ7_fill_53178 64 11 (0 : Int32) M3) (fun (M4 : zM) => sq (α := zM) (zlp (α := Int32 × zM) (β := zM) (fun rec14 => (fun (u37 : Int32 × zM) => match u37 with | (x12, M13) => if p1 < x12 then (some M13) else (sq (fX3_seat x12 M13) (fun (M18 : zM) => rec14 ((x12 + (1 : Int32)), M18))))) zFu ((1 : Int32), M4)) (fun (M17 : zM) => zlp (α := Int64 × Int32) (fun rec29 => (fun (u35 : Int64 × Int32) => match u35 with | (x27, x28) => if (M17.1 59 0) < x28 then (some (x27, M17)) else (grd (zix x28 11) (lt ((M17.1 64 (zn x28))) (fun (x32 : Int32) => sq (α := Int64) (if x32 = 0 then (some (0 : Int64)) else (grd (zix ((((x32 - (1 : Int32)) * (10 : Int32)) + x28) - (1 : Int32)) 100) (some (M17.2 60 (zn ((((x32 - (1 : Int32)) * (10 : Int32)) + x28) - (1 : Int32))))))) (fun (x33 : Int64) => lt ((x27 + x33)) (fun (x34 : Int64) => rec29 (x34, (x28 + (1 : Int32)))))))))) zFu ((0 : Int64), (1 : Int32)))))))
set_option maxHeartbeats 4000000 in
set_option maxRecDepth 100000 in
theorem tX3_settle (E : zE) (p1 : Int32) (p2 : Int32) (M : zM) : zFJ E mX3_settle [.ref 59, .int p1, .int p2] zY0 M (fX3_settle p1 p2 M) := by
  refine zF_of (L := [some (.ref 59), some (.int p1), some (.int p2), none, none, none, none]) plX3 (Nat.le_of_ble_eq_true rfl) rfl (fun post => ?_)
  unfold fX3_settle
  refine z_aload_n 0 dX3_settle_0 rfl ?_
  refine z_iload_n 1 dX3_settle_1 rfl ?_
  refine z_iload_n 2 dX3_settle_2 rfl ?_
  refine z_mmax 3 dX3_settle_3 ml_X3_43 ml_mmax.1 ml_mmax.2.1 ml_mmax.2.2 ⟨Nat.le_of_ble_eq_true rfl, Nat.le_of_ble_eq_true rfl⟩ ?_
  refine z_put 6 dX3_settle_6 fp_X3_47 zy_59 rfl (zput_i _) ?_
  refine zk_nmM (fun M1 => ?_)
  refine z_aload_n 9 dX3_settle_9 rfl ?_
  refine z_getR 10 (r := 61) dX3_settle_10 fl_X3_15 zy_59 rfl ?_
  refine z_lconst 13 dX3_settle_13 zlc_0 ?_
  refine z_cV (zat_S2 14 dX3_settle_14 lk_X3_31 ⟨Nat.le_of_ble_eq_true rfl, Nat.le_of_ble_eq_true rfl⟩ (Nat.le_of_ble_eq_true rfl)) (tJ7_fill_d0a16 E zY0 61 11 zy_61 (0 : Int64) M1) (fun M2 => ?_)
  refine z_aload_n 17 dX3_settle_17 rfl ?_
  refine z_getR 18 (r := 62) dX3_settle_18 fl_X3_18 zy_59 rfl ?_
  refine z_lconst 21 dX3_settle_21 zlc_0 ?_
  refine z_cV (zat_S2 22 dX3_settle_22 lk_X3_31 ⟨Nat.le_of_ble_eq_true rfl, Nat.le_of_ble_eq_true rfl⟩ (Nat.le_of_ble_eq_true rfl)) (tJ7_fill_d0a16 E zY0 62 11 zy_62 (0 : Int64) M2) (fun M3 => ?_)
  refine z_aload_n 25 dX3_settle_25 rfl ?_
  refine z_getR 26 (r := 64) dX3_settle_26 fl_X3_24 zy_59 rfl ?_
  refine z_iconst 29 dX3_settle_29 zci_0 ?_
  refine z_cV (zat_S2 30 dX3_settle_30 lk_X3_51 ⟨Nat.le_of_ble_eq_true rfl, Nat.le_of_ble_eq_true rfl⟩ (Nat.le_of_ble_eq_true rfl)) (tJ7_fill_53178 E zY0 64 11 zy_64 (0 : Int32) M3) (fun M4 => ?_)
  refine z_iconst 33 dX3_settle_33 zci_1 ?_
  refine z_istore_n 34 (L' := [some (.ref 59), some (.int p1), some (.int p2), some (.int (1 : Int32)), none, none, none]) dX3_settle_34 (by decide) rfl ?_
  refine zk_sqj (α := zM) 51 (fun (M17 : zM) => [some (.ref 59), none, none, none, none, none, none]) (fun (M17 : zM) => []) (fun (M17 : zM) => (zY0, M17)) ?_ ?_
  · intro M17
    refine z_lconst 51 dX3_settle_51 zlc_0 ?_
    refine z_lstore_n 52 (L' := [some (.ref 59), none, none, some (.long (0 : Int64)), none, none, none]) dX3_settle_52 (by decide) rfl ?_
    refine z_iconst 53 dX3_settle_53 zci_1 ?_
    refine z_istore 54 (L' := [some (.ref 59), none, none, some (.long (0 : Int64)), none, some (.int (1 : Int32)), none]) dX3_settle_54 (by decide) rfl ?_
    refine zk_weak (L' := [some (.ref 59), none, none, some (.long (0 : Int64)), none, some (.int (1 : Int32)), none]) (zLe_s (zLe_n (zLe_n (zLe_s (zLe_n (zLe_s (zLe_n zLe_nl))))))) (zk_lp (α := Int64 × Int32) 56 (fun (u30 : Int64 × Int32) => match u30 with | (x27, x28) => [some (.ref 59), none, none, some (.long x27), none, some (.int x28), none]) (fun (u31 : Int64 × Int32) => match u31 with | (x27, x28) => (zY0, M17)) ?_ zFu ((0 : Int64), (1 : Int32)))
    intro rec29 hrec29
    intro u36
    obtain ⟨x27, x28⟩ := u36
    try dsimp only
    refine z_iload 56 dX3_settle_56 rfl ?_
    refine z_aload_n 58 dX3_settle_58 rfl ?_
    refine z_getI 59 dX3_settle_59 fl_X3_47 zy_59 rfl ?_
    refine z_icgt 62 109 dX3_settle_62 (by decide) (fun _ => ?_) (fun _ => ?_)
    · refine z_lload_n 109 dX3_settle_109 rfl ?_
      exact z_lreturn 110 dX3_settle_110 rfl (fun h => h)
    · refine z_aload_n 65 dX3_settle_65 rfl ?_
      refine z_getR 66 (r := 64) dX3_settle_66 fl_X3_24 zy_59 rfl ?_
      refine z_iload 69 dX3_settle_69 rfl ?_
      refine z_iaload 71 dX3_settle_71 zy_64 ?_
      refine zk_nmI (fun x32 => ?_)
      refine z_istore 72 (L' := [some (.ref 59), none, none, some (.long x27), none, some (.int x28), some (.int x32)]) dX3_settle_72 (by decide) rfl ?_
      refine z_lload_n 74 dX3_settle_74 rfl ?_
      refine z_iload 75 dX3_settle_75 rfl ?_
      refine zk_sqj (α := Int64) 101 (fun (x33 : Int64) => [some (.ref 59), none, none, none, none, some (.int x28), none]) (fun (x33 : Int64) => [.long x33, .long x27]) (fun (x33 : Int64) => (zY0, M17)) ?_ ?_
      · intro x33
        refine z_ladd 101 dX3_settle_101 ?_
        refine zk_nmL (fun x34 => ?_)
        refine z_lstore_n 102 (L' := [some (.ref 59), none, none, some (.long x34), none, some (.int x28), none]) dX3_settle_102 (by decide) rfl ?_
        refine z_iinc 103 (v := (x28 + (1 : Int32))) (L' := [some (.ref 59), none, none, some (.long x34), none, some (.int (x28 + (1 : Int32))), none]) dX3_settle_103 rfl (zinc zci_1 _) (by decide) rfl ?_
        refine z_goto 106 56 dX3_settle_106 (by decide) ?_
        exact zk_weak (L' := [some (.ref 59), none, none, some (.long x34), none, some (.int (x28 + (1 : Int32))), none]) (zLe_s (zLe_n (zLe_n (zLe_s (zLe_n (zLe_s (zLe_n zLe_nl))))))) (hrec29 (x34, (x28 + (1 : Int32))))
      · refine z_ifne 77 84 dX3_settle_77 (by decide) (fun _ => ?_) (fun _ => ?_)
        · refine z_lconst 80 dX3_settle_80 zlc_0 ?_
          refine z_goto 81 101 dX3_settle_81 (by decide) ?_
          exact zk_exitw (L' := [some (.ref 59), none, none, none, none, some (.int x28), none]) (zLe_s (zLe_n (zLe_n (zLe_n (zLe_n (zLe_s (zLe_n zLe_nl))))))) (fun h => h)
        · refine z_aload_n 84 dX3_settle_84 rfl ?_
          refine z_getR 85 (r := 60) dX3_settle_85 fl_X3_9 zy_59 rfl ?_
          refine z_iload 88 dX3_settle_88 rfl ?_
          refine z_iconst 90 dX3_settle_90 zci_1 ?_
          refine z_isub 91 dX3_settle_91 ?_
          refine z_bipush 92 dX3_settle_92 zbp_10 ?_
          refine z_imul 94 dX3_settle_94 ?_
          refine z_iload 95 dX3_settle_95 rfl ?_
          refine z_iadd 97 dX3_settle_97 ?_
          refine z_iconst 98 dX3_settle_98 zci_1 ?_
          refine z_isub 99 dX3_settle_99 ?_
          refine z_laload 100 dX3_settle_100 zy_60 ?_
          exact zk_exitw (L' := [some (.ref 59), none, none, none, none, some (.int x28), none]) (zLe_s (zLe_n (zLe_n (zLe_n (zLe_n (zLe_s (zLe_n zLe_nl))))))) (fun h => h)
  · refine zk_weak (L' := [some (.ref 59), some (.int p1), none, some (.int (1 : Int32)), none, none, none]) (zLe_s (zLe_s (zLe_n (zLe_s (zLe_n (zLe_n (zLe_n zLe_nl))))))) (zk_lp (α := Int32 × zM) 35 (fun (u15 : Int32 × zM) => match u15 with | (x12, M13) => [some (.ref 59), some (.int p1), none, some (.int x12), none, none, none]) (fun (u16 : Int32 × zM) => match u16 with | (x12, M13) => (zY0, M13)) ?_ zFu ((1 : Int32), M4))
    intro rec14 hrec14
    intro u38
    obtain ⟨x12, M13⟩ := u38
    try dsimp only
    refine z_iload_n 35 dX3_settle_35 rfl ?_
    refine z_iload_n 36 dX3_settle_36 rfl ?_
    refine z_icgt 37 51 dX3_settle_37 (by decide) (fun _ => ?_) (fun _ => ?_)
    · exact zk_exitw (L' := [some (.ref 59), none, none, none, none, none, none]) (zLe_s (zLe_n (zLe_n (zLe_n (zLe_n (zLe_n (zLe_n zLe_nl))))))) (fun h => h)
    · refine z_aload_n 40 dX3_settle_40 rfl ?_
      refine z_iload_n 41 dX3_settle_41 rfl ?_
      refine z_cV (zat_V1 42 dX3_settle_42 lk_X3_54 zy_59 rfl rfl ⟨Nat.le_of_ble_eq_true rfl, Nat.le_of_ble_eq_true rfl⟩ (Nat.le_of_ble_eq_true rfl)) (tX3_seat E x12 M13) (fun M18 => ?_)
      refine z_iinc 45 (v := (x12 + (1 : Int32))) (L' := [some (.ref 59), some (.int p1), none, some (.int (x12 + (1 : Int32))), none, none, none]) dX3_settle_45 rfl (zinc zci_1 _) (by decide) rfl ?_
      refine z_goto 48 35 dX3_settle_48 (by decide) ?_
      exact zk_weak (L' := [some (.ref 59), some (.int p1), none, some (.int (x12 + (1 : Int32))), none, none, none]) (zLe_s (zLe_s (zLe_n (zLe_s (zLe_n (zLe_n (zLe_n zLe_nl))))))) (hrec14 ((x12 + (1 : Int32)), M18))
def fX3_isTaken (p1 : Int32) (p2 : Int32) (M : zM) : Option Bool :=
  grd (zix (p2 + (1 : Int32)) 11) (if (M.1 64 (zn (p2 + (1 : Int32)))) = (p1 + (1 : Int32)) then (grd (zix ((p1 * (10 : Int32)) + p2) 100) (if (0 : Int64) ≤ (M.2 60 (zn ((p1 * (10 : Int32)) + p2))) then (some false) else (some true))) else (some false))
set_option maxHeartbeats 4000000 in
set_option maxRecDepth 100000 in
theorem tX3_isTaken (E : zE) (p1 : Int32) (p2 : Int32) (M : zM) : zFb E mX3_isTaken [.ref 59, .int p1, .int p2] zY0 M (fX3_isTaken p1 p2 M) := by
  refine zF_of (L := [some (.ref 59), some (.int p1), some (.int p2)]) plX3 (Nat.le_of_ble_eq_true rfl) rfl (fun post => ?_)
  unfold fX3_isTaken
  refine z_aload_n 0 dX3_isTaken_0 rfl ?_
  refine z_getR 1 (r := 64) dX3_isTaken_1 fl_X3_24 zy_59 rfl ?_
  refine z_iload_n 4 dX3_isTaken_4 rfl ?_
  refine z_iconst 5 dX3_isTaken_5 zci_1 ?_
  refine z_iadd 6 dX3_isTaken_6 ?_
  refine z_iaload 7 dX3_isTaken_7 zy_64 ?_
  refine z_iload_n 8 dX3_isTaken_8 rfl ?_
  refine z_iconst 9 dX3_isTaken_9 zci_1 ?_
  refine z_iadd 10 dX3_isTaken_10 ?_
  refine z_icne 11 34 dX3_isTaken_11 (by decide) (fun _ => ?_) (fun _ => ?_)
  · refine z_aload_n 14 dX3_isTaken_14 rfl ?_
    refine z_getR 15 (r := 60) dX3_isTaken_15 fl_X3_9 zy_59 rfl ?_
    refine z_iload_n 18 dX3_isTaken_18 rfl ?_
    refine z_bipush 19 dX3_isTaken_19 zbp_10 ?_
    refine z_imul 21 dX3_isTaken_21 ?_
    refine z_iload_n 22 dX3_isTaken_22 rfl ?_
    refine z_iadd 23 dX3_isTaken_23 ?_
    refine z_laload 24 dX3_isTaken_24 zy_60 ?_
    refine z_lconst 25 dX3_isTaken_25 zlc_0 ?_
    refine z_lcmp 26 dX3_isTaken_26 ?_
    refine z_lcge 27 34 dX3_isTaken_27 (by decide) (fun _ => ?_) (fun _ => ?_)
    · refine z_iconst 34 dX3_isTaken_34 zci_0 ?_
      exact z_ireturn 35 (v := zb false) dX3_isTaken_35 rfl (zput_b false).1 (fun h => h)
    · refine z_iconst 30 dX3_isTaken_30 zci_1 ?_
      refine z_goto 31 35 dX3_isTaken_31 (by decide) ?_
      exact z_ireturn 35 (v := zb true) dX3_isTaken_35 rfl (zput_b true).1 (fun h => h)
  · refine z_iconst 34 dX3_isTaken_34 zci_0 ?_
    exact z_ireturn 35 (v := zb false) dX3_isTaken_35 rfl (zput_b false).1 (fun h => h)
def fX4_weighPair (p1 : Int32) (p2 : Int32) (p3 : Int32) (p4 : Int32) (M : zM) : Option zM :=
  sq (fX5_mayBe p1 p2 M) (fun (b1 : Bool) => if b1 = false then (some M) else (sq (fX5_gainOf p1 p2 M) (fun (x2 : Int32) => sq (fX3_setWeight p1 p2 ((p3.toInt64 * x2.toInt64) + p4.toInt64) M) (fun (M3 : zM) => some M3))))
set_option maxHeartbeats 4000000 in
set_option maxRecDepth 100000 in
theorem tX4_weighPair (E : zE) (p1 : Int32) (p2 : Int32) (p3 : Int32) (p4 : Int32) (M : zM) : zFV E mX4_weighPair [.ref 58, .int p1, .int p2, .int p3, .int p4] zY0 M (fX4_weighPair p1 p2 p3 p4 M) := by
  refine zF_of (L := [some (.ref 58), some (.int p1), some (.int p2), some (.int p3), some (.int p4)]) plX4 (Nat.le_of_ble_eq_true rfl) rfl (fun post => ?_)
  unfold fX4_weighPair
  refine z_aload_n 0 dX4_weighPair_0 rfl ?_
  refine z_getR 1 (r := 55) dX4_weighPair_1 fl_X4_22 zy_58 rfl ?_
  refine z_iload_n 4 dX4_weighPair_4 rfl ?_
  refine z_iload_n 5 dX4_weighPair_5 rfl ?_
  refine z_cb (zat_V2 6 dX4_weighPair_6 lk_X4_48 zy_55 rfl rfl ⟨Nat.le_of_ble_eq_true rfl, Nat.le_of_ble_eq_true rfl⟩ (Nat.le_of_ble_eq_true rfl)) (tX5_mayBe E p1 p2 M) (fun b1 => ?_)
  refine z_ifeqb 9 38 dX4_weighPair_9 (by decide) (fun _ => ?_) (fun _ => ?_)
  · exact z_return 38 dX4_weighPair_38 rfl (fun h => h)
  · refine z_aload_n 12 dX4_weighPair_12 rfl ?_
    refine z_getR 13 (r := 59) dX4_weighPair_13 fl_X4_12 zy_58 rfl ?_
    refine z_iload_n 16 dX4_weighPair_16 rfl ?_
    refine z_iload_n 17 dX4_weighPair_17 rfl ?_
    refine z_iload_n 18 dX4_weighPair_18 rfl ?_
    refine z_i2l 19 dX4_weighPair_19 ?_
    refine z_aload_n 20 dX4_weighPair_20 rfl ?_
    refine z_getR 21 (r := 55) dX4_weighPair_21 fl_X4_22 zy_58 rfl ?_
    refine z_iload_n 24 dX4_weighPair_24 rfl ?_
    refine z_iload_n 25 dX4_weighPair_25 rfl ?_
    refine z_ci (zat_V2 26 dX4_weighPair_26 lk_X4_52 zy_55 rfl rfl ⟨Nat.le_of_ble_eq_true rfl, Nat.le_of_ble_eq_true rfl⟩ (Nat.le_of_ble_eq_true rfl)) (tX5_gainOf E p1 p2 M) (fun x2 => ?_)
    refine z_i2l 29 dX4_weighPair_29 ?_
    refine z_lmul 30 dX4_weighPair_30 ?_
    refine z_iload 31 dX4_weighPair_31 rfl ?_
    refine z_i2l 33 dX4_weighPair_33 ?_
    refine z_ladd 34 dX4_weighPair_34 ?_
    refine z_cV (zat_V3 35 dX4_weighPair_35 lk_X4_56 zy_59 rfl rfl ⟨Nat.le_of_ble_eq_true rfl, Nat.le_of_ble_eq_true rfl⟩ (Nat.le_of_ble_eq_true rfl)) (tX3_setWeight E p1 p2 ((p3.toInt64 * x2.toInt64) + p4.toInt64) M) (fun M3 => ?_)
    exact z_return 38 dX4_weighPair_38 rfl (fun h => h)
def fX4_weighAll (p1 : Int32) (p2 : Int32) (M : zM) : Option zM :=
  sq (fX3_clear M) (fun (M1 : zM) => zlp (α := Int32 × zM) (fun rec23 => (fun (u35 : Int32 × zM) => match u35 with | (x21, M22) => if (M22.1 55 0) ≤ x21 then (some M22) else (sq (α := zM) (zlp (α := Int32 × zM) (β := zM) (fun rec28 => (fun (u33 : Int32 × zM) => match u33 with | (x26, M27) => if (M27.1 55 1) ≤ x26 then (some M27) else (sq (fX4_weighPair x21 x26 p1 p2 M27) (fun (M32 : zM) => rec28 ((x26 + (1 : Int32)), M32))))) zFu ((0 : Int32), M22)) (fun (M31 : zM) => rec23 ((x21 + (1 : Int32)), M31))))) zFu ((0 : Int32), M1))
set_option maxHeartbeats 4000000 in
set_option maxRecDepth 100000 in
theorem tX4_weighAll (E : zE) (p1 : Int32) (p2 : Int32) (M : zM) : zFV E mX4_weighAll [.ref 58, .int p1, .int p2] zY0 M (fX4_weighAll p1 p2 M) := by
  refine zF_of (L := [some (.ref 58), some (.int p1), some (.int p2), none, none]) plX4 (Nat.le_of_ble_eq_true rfl) rfl (fun post => ?_)
  unfold fX4_weighAll
  refine z_aload_n 0 dX4_weighAll_0 rfl ?_
  refine z_getR 1 (r := 59) dX4_weighAll_1 fl_X4_12 zy_58 rfl ?_
  refine z_cV (zat_V0 4 dX4_weighAll_4 lk_X4_32 zy_59 rfl rfl ⟨Nat.le_of_ble_eq_true rfl, Nat.le_of_ble_eq_true rfl⟩ (Nat.le_of_ble_eq_true rfl)) (tX3_clear E M) (fun M1 => ?_)
  refine z_iconst 7 dX4_weighAll_7 zci_0 ?_
  refine z_istore_n 8 (L' := [some (.ref 58), some (.int p1), some (.int p2), some (.int (0 : Int32)), none]) dX4_weighAll_8 (by decide) rfl ?_
  refine zk_weak (L' := [some (.ref 58), some (.int p1), some (.int p2), some (.int (0 : Int32)), none]) (zLe_s (zLe_s (zLe_s (zLe_s (zLe_n zLe_nl))))) (zk_lp (α := Int32 × zM) 9 (fun (u24 : Int32 × zM) => match u24 with | (x21, M22) => [some (.ref 58), some (.int p1), some (.int p2), some (.int x21), none]) (fun (u25 : Int32 × zM) => match u25 with | (x21, M22) => (zY0, M22)) ?_ zFu ((0 : Int32), M1))
  intro rec23 hrec23
  intro u36
  obtain ⟨x21, M22⟩ := u36
  try dsimp only
  refine z_iload_n 9 dX4_weighAll_9 rfl ?_
  refine z_aload_n 10 dX4_weighAll_10 rfl ?_
  refine z_getR 11 (r := 55) dX4_weighAll_11 fl_X4_22 zy_58 rfl ?_
  refine z_getI 14 dX4_weighAll_14 fl_X4_35 zy_55 rfl ?_
  refine z_icge 17 56 dX4_weighAll_17 (by decide) (fun _ => ?_) (fun _ => ?_)
  · exact z_return 56 dX4_weighAll_56 rfl (fun h => h)
  · refine z_iconst 20 dX4_weighAll_20 zci_0 ?_
    refine z_istore 21 (L' := [some (.ref 58), some (.int p1), some (.int p2), some (.int x21), some (.int (0 : Int32))]) dX4_weighAll_21 (by decide) rfl ?_
    refine zk_sqj (α := zM) 50 (fun (M31 : zM) => [some (.ref 58), some (.int p1), some (.int p2), some (.int x21), none]) (fun (M31 : zM) => []) (fun (M31 : zM) => (zY0, M31)) ?_ ?_
    · intro M31
      refine z_iinc 50 (v := (x21 + (1 : Int32))) (L' := [some (.ref 58), some (.int p1), some (.int p2), some (.int (x21 + (1 : Int32))), none]) dX4_weighAll_50 rfl (zinc zci_1 _) (by decide) rfl ?_
      refine z_goto 53 9 dX4_weighAll_53 (by decide) ?_
      exact zk_weak (L' := [some (.ref 58), some (.int p1), some (.int p2), some (.int (x21 + (1 : Int32))), none]) (zLe_s (zLe_s (zLe_s (zLe_s (zLe_n zLe_nl))))) (hrec23 ((x21 + (1 : Int32)), M31))
    · refine zk_weak (L' := [some (.ref 58), some (.int p1), some (.int p2), some (.int x21), some (.int (0 : Int32))]) (zLe_s (zLe_s (zLe_s (zLe_s (zLe_s zLe_nl))))) (zk_lp (α := Int32 × zM) 23 (fun (u29 : Int32 × zM) => match u29 with | (x26, M27) => [some (.ref 58), some (.int p1), some (.int p2), some (.int x21), some (.int x26)]) (fun (u30 : Int32 × zM) => match u30 with | (x26, M27) => (zY0, M27)) ?_ zFu ((0 : Int32), M22))
      intro rec28 hrec28
      intro u34
      obtain ⟨x26, M27⟩ := u34
      try dsimp only
      refine z_iload 23 dX4_weighAll_23 rfl ?_
      refine z_aload_n 25 dX4_weighAll_25 rfl ?_
      refine z_getR 26 (r := 55) dX4_weighAll_26 fl_X4_22 zy_58 rfl ?_
      refine z_getI 29 dX4_weighAll_29 fl_X4_41 zy_55 rfl ?_
      refine z_icge 32 50 dX4_weighAll_32 (by decide) (fun _ => ?_) (fun _ => ?_)
      · exact zk_exitw (L' := [some (.ref 58), some (.int p1), some (.int p2), some (.int x21), none]) (zLe_s (zLe_s (zLe_s (zLe_s (zLe_n zLe_nl))))) (fun h => h)
      · refine z_aload_n 35 dX4_weighAll_35 rfl ?_
        refine z_iload_n 36 dX4_weighAll_36 rfl ?_
        refine z_iload 37 dX4_weighAll_37 rfl ?_
        refine z_iload_n 39 dX4_weighAll_39 rfl ?_
        refine z_iload_n 40 dX4_weighAll_40 rfl ?_
        refine z_cV (zat_V4 41 dX4_weighAll_41 lk_X4_44 zy_58 rfl rfl ⟨Nat.le_of_ble_eq_true rfl, Nat.le_of_ble_eq_true rfl⟩ (Nat.le_of_ble_eq_true rfl)) (tX4_weighPair E x21 x26 p1 p2 M27) (fun M32 => ?_)
        refine z_iinc 44 (v := (x26 + (1 : Int32))) (L' := [some (.ref 58), some (.int p1), some (.int p2), some (.int x21), some (.int (x26 + (1 : Int32)))]) dX4_weighAll_44 rfl (zinc zci_1 _) (by decide) rfl ?_
        refine z_goto 47 23 dX4_weighAll_47 (by decide) ?_
        exact zk_weak (L' := [some (.ref 58), some (.int p1), some (.int p2), some (.int x21), some (.int (x26 + (1 : Int32)))]) (zLe_s (zLe_s (zLe_s (zLe_s (zLe_s zLe_nl))))) (hrec28 ((x26 + (1 : Int32)), M32))
def fX4_settle (M : zM) : Option (Int64 × zM) :=
  bi (fX3_settle (M.1 55 0) (M.1 55 1) M) (fun (x2 : Int64) (M1 : zM) => some (x2, M1))
set_option maxHeartbeats 4000000 in
set_option maxRecDepth 100000 in
theorem tX4_settle (E : zE)  (M : zM) : zFJ E mX4_settle [.ref 58] zY0 M (fX4_settle M) := by
  refine zF_of (L := [some (.ref 58)]) plX4 (Nat.le_of_ble_eq_true rfl) rfl (fun post => ?_)
  unfold fX4_settle
  refine z_aload_n 0 dX4_settle_0 rfl ?_
  refine z_getR 1 (r := 59) dX4_settle_1 fl_X4_12 zy_58 rfl ?_
  refine z_aload_n 4 dX4_settle_4 rfl ?_
  refine z_getR 5 (r := 55) dX4_settle_5 fl_X4_22 zy_58 rfl ?_
  refine z_getI 8 dX4_settle_8 fl_X4_35 zy_55 rfl ?_
  refine z_aload_n 11 dX4_settle_11 rfl ?_
  refine z_getR 12 (r := 55) dX4_settle_12 fl_X4_22 zy_58 rfl ?_
  refine z_getI 15 dX4_settle_15 fl_X4_41 zy_55 rfl ?_
  refine z_cJ (zat_V2 18 dX4_settle_18 lk_X4_60 zy_59 rfl rfl ⟨Nat.le_of_ble_eq_true rfl, Nat.le_of_ble_eq_true rfl⟩ (Nat.le_of_ble_eq_true rfl)) (tX3_settle E (M.1 55 0) (M.1 55 1) M) (fun x2 M1 => ?_)
  exact z_lreturn 21 dX4_settle_21 rfl (fun h => h)
def fX4_leastGain (M : zM) : Option (Int64 × zM) :=
  sq (fX4_weighAll (1 : Int32) (0 : Int32) M) (fun (M1 : zM) => bi (fX4_settle M1) (fun (x3 : Int64) (M2 : zM) => some (x3, M2)))
set_option maxHeartbeats 4000000 in
set_option maxRecDepth 100000 in
theorem tX4_leastGain (E : zE)  (M : zM) : zFJ E mX4_leastGain [.ref 58] zY0 M (fX4_leastGain M) := by
  refine zF_of (L := [some (.ref 58)]) plX4 (Nat.le_of_ble_eq_true rfl) rfl (fun post => ?_)
  unfold fX4_leastGain
  refine z_aload_n 0 dX4_leastGain_0 rfl ?_
  refine z_iconst 1 dX4_leastGain_1 zci_1 ?_
  refine z_iconst 2 dX4_leastGain_2 zci_0 ?_
  refine z_cV (zat_V2 3 dX4_leastGain_3 lk_X4_64 zy_58 rfl rfl ⟨Nat.le_of_ble_eq_true rfl, Nat.le_of_ble_eq_true rfl⟩ (Nat.le_of_ble_eq_true rfl)) (tX4_weighAll E (1 : Int32) (0 : Int32) M) (fun M1 => ?_)
  refine z_aload_n 6 dX4_leastGain_6 rfl ?_
  refine z_cJ (zat_V0 7 dX4_leastGain_7 lk_X4_68 zy_58 rfl rfl ⟨Nat.le_of_ble_eq_true rfl, Nat.le_of_ble_eq_true rfl⟩ (Nat.le_of_ble_eq_true rfl)) (tX4_settle E M1) (fun x3 M2 => ?_)
  exact z_lreturn 10 dX4_leastGain_10 rfl (fun h => h)
def fX4_leastTotal (M : zM) : Option (Int64 × zM) :=
  sq (fX4_weighAll (1 : Int32) (0 : Int32) M) (fun (M1 : zM) => bi (fX4_settle M1) (fun (x3 : Int64) (M2 : zM) => some ((((M1.1 55 2)).toInt64 + x3), M2)))
set_option maxHeartbeats 4000000 in
set_option maxRecDepth 100000 in
theorem tX4_leastTotal (E : zE)  (M : zM) : zFJ E mX4_leastTotal [.ref 58] zY0 M (fX4_leastTotal M) := by
  refine zF_of (L := [some (.ref 58)]) plX4 (Nat.le_of_ble_eq_true rfl) rfl (fun post => ?_)
  unfold fX4_leastTotal
  refine z_aload_n 0 dX4_leastTotal_0 rfl ?_
  refine z_iconst 1 dX4_leastTotal_1 zci_1 ?_
  refine z_iconst 2 dX4_leastTotal_2 zci_0 ?_
  refine z_cV (zat_V2 3 dX4_leastTotal_3 lk_X4_64 zy_58 rfl rfl ⟨Nat.le_of_ble_eq_true rfl, Nat.le_of_ble_eq_true rfl⟩ (Nat.le_of_ble_eq_true rfl)) (tX4_weighAll E (1 : Int32) (0 : Int32) M) (fun M1 => ?_)
  refine z_aload_n 6 dX4_leastTotal_6 rfl ?_
  refine z_getR 7 (r := 55) dX4_leastTotal_7 fl_X4_22 zy_58 rfl ?_
  refine z_getI 10 dX4_leastTotal_10 fl_X4_71 zy_55 rfl ?_
  refine z_i2l 13 dX4_leastTotal_13 ?_
  refine z_aload_n 14 dX4_leastTotal_14 rfl ?_
  refine z_cJ (zat_V0 15 dX4_leastTotal_15 lk_X4_68 zy_58 rfl rfl ⟨Nat.le_of_ble_eq_true rfl, Nat.le_of_ble_eq_true rfl⟩ (Nat.le_of_ble_eq_true rfl)) (tX4_settle E M1) (fun x3 M2 => ?_)
  refine z_ladd 18 dX4_leastTotal_18 ?_
  exact z_lreturn 19 dX4_leastTotal_19 rfl (fun h => h)
def fX4_leastWith (p1 : Int32) (p2 : Int32) (M : zM) : Option (Int64 × zM) :=
  sq (fX4_weighAll (1 : Int32) (0 : Int32) M) (fun (M1 : zM) => sq (α := zM) (zlp (α := Int32 × zM) (β := zM) (fun rec12 => (fun (u21 : Int32 × zM) => match u21 with | (x10, M11) => if (10 : Int32) ≤ x10 then (some M11) else (sq (fX3_setWeight p1 x10 (0 : Int64) M11) (fun (M16 : zM) => sq (fX3_setWeight x10 p2 (0 : Int64) M16) (fun (M17 : zM) => rec12 ((x10 + (1 : Int32)), M17)))))) zFu ((0 : Int32), M1)) (fun (M15 : zM) => sq (fX5_gainOf p1 p2 M15) (fun (x18 : Int32) => bi (fX4_settle M15) (fun (x20 : Int64) (M19 : zM) => some (((((M15.1 55 2) + x18)).toInt64 + x20), M19)))))
set_option maxHeartbeats 4000000 in
set_option maxRecDepth 100000 in
theorem tX4_leastWith (E : zE) (p1 : Int32) (p2 : Int32) (M : zM) : zFJ E mX4_leastWith [.ref 58, .int p1, .int p2] zY0 M (fX4_leastWith p1 p2 M) := by
  refine zF_of (L := [some (.ref 58), some (.int p1), some (.int p2), none]) plX4 (Nat.le_of_ble_eq_true rfl) rfl (fun post => ?_)
  unfold fX4_leastWith
  refine z_aload_n 0 dX4_leastWith_0 rfl ?_
  refine z_iconst 1 dX4_leastWith_1 zci_1 ?_
  refine z_iconst 2 dX4_leastWith_2 zci_0 ?_
  refine z_cV (zat_V2 3 dX4_leastWith_3 lk_X4_64 zy_58 rfl rfl ⟨Nat.le_of_ble_eq_true rfl, Nat.le_of_ble_eq_true rfl⟩ (Nat.le_of_ble_eq_true rfl)) (tX4_weighAll E (1 : Int32) (0 : Int32) M) (fun M1 => ?_)
  refine z_iconst 6 dX4_leastWith_6 zci_0 ?_
  refine z_istore_n 7 (L' := [some (.ref 58), some (.int p1), some (.int p2), some (.int (0 : Int32))]) dX4_leastWith_7 (by decide) rfl ?_
  refine zk_sqj (α := zM) 40 (fun (M15 : zM) => [some (.ref 58), some (.int p1), some (.int p2), none]) (fun (M15 : zM) => []) (fun (M15 : zM) => (zY0, M15)) ?_ ?_
  · intro M15
    refine z_aload_n 40 dX4_leastWith_40 rfl ?_
    refine z_getR 41 (r := 55) dX4_leastWith_41 fl_X4_22 zy_58 rfl ?_
    refine z_getI 44 dX4_leastWith_44 fl_X4_71 zy_55 rfl ?_
    refine z_aload_n 47 dX4_leastWith_47 rfl ?_
    refine z_getR 48 (r := 55) dX4_leastWith_48 fl_X4_22 zy_58 rfl ?_
    refine z_iload_n 51 dX4_leastWith_51 rfl ?_
    refine z_iload_n 52 dX4_leastWith_52 rfl ?_
    refine z_ci (zat_V2 53 dX4_leastWith_53 lk_X4_52 zy_55 rfl rfl ⟨Nat.le_of_ble_eq_true rfl, Nat.le_of_ble_eq_true rfl⟩ (Nat.le_of_ble_eq_true rfl)) (tX5_gainOf E p1 p2 M15) (fun x18 => ?_)
    refine z_iadd 56 dX4_leastWith_56 ?_
    refine z_i2l 57 dX4_leastWith_57 ?_
    refine z_aload_n 58 dX4_leastWith_58 rfl ?_
    refine z_cJ (zat_V0 59 dX4_leastWith_59 lk_X4_68 zy_58 rfl rfl ⟨Nat.le_of_ble_eq_true rfl, Nat.le_of_ble_eq_true rfl⟩ (Nat.le_of_ble_eq_true rfl)) (tX4_settle E M15) (fun x20 M19 => ?_)
    refine z_ladd 62 dX4_leastWith_62 ?_
    exact z_lreturn 63 dX4_leastWith_63 rfl (fun h => h)
  · refine zk_weak (L' := [some (.ref 58), some (.int p1), some (.int p2), some (.int (0 : Int32))]) (zLe_s (zLe_s (zLe_s (zLe_s zLe_nl)))) (zk_lp (α := Int32 × zM) 8 (fun (u13 : Int32 × zM) => match u13 with | (x10, M11) => [some (.ref 58), some (.int p1), some (.int p2), some (.int x10)]) (fun (u14 : Int32 × zM) => match u14 with | (x10, M11) => (zY0, M11)) ?_ zFu ((0 : Int32), M1))
    intro rec12 hrec12
    intro u22
    obtain ⟨x10, M11⟩ := u22
    try dsimp only
    refine z_iload_n 8 dX4_leastWith_8 rfl ?_
    refine z_bipush 9 dX4_leastWith_9 zbp_10 ?_
    refine z_icge 11 40 dX4_leastWith_11 (by decide) (fun _ => ?_) (fun _ => ?_)
    · exact zk_exitw (L' := [some (.ref 58), some (.int p1), some (.int p2), none]) (zLe_s (zLe_s (zLe_s (zLe_n zLe_nl)))) (fun h => h)
    · refine z_aload_n 14 dX4_leastWith_14 rfl ?_
      refine z_getR 15 (r := 59) dX4_leastWith_15 fl_X4_12 zy_58 rfl ?_
      refine z_iload_n 18 dX4_leastWith_18 rfl ?_
      refine z_iload_n 19 dX4_leastWith_19 rfl ?_
      refine z_lconst 20 dX4_leastWith_20 zlc_0 ?_
      refine z_cV (zat_V3 21 dX4_leastWith_21 lk_X4_56 zy_59 rfl rfl ⟨Nat.le_of_ble_eq_true rfl, Nat.le_of_ble_eq_true rfl⟩ (Nat.le_of_ble_eq_true rfl)) (tX3_setWeight E p1 x10 (0 : Int64) M11) (fun M16 => ?_)
      refine z_aload_n 24 dX4_leastWith_24 rfl ?_
      refine z_getR 25 (r := 59) dX4_leastWith_25 fl_X4_12 zy_58 rfl ?_
      refine z_iload_n 28 dX4_leastWith_28 rfl ?_
      refine z_iload_n 29 dX4_leastWith_29 rfl ?_
      refine z_lconst 30 dX4_leastWith_30 zlc_0 ?_
      refine z_cV (zat_V3 31 dX4_leastWith_31 lk_X4_56 zy_59 rfl rfl ⟨Nat.le_of_ble_eq_true rfl, Nat.le_of_ble_eq_true rfl⟩ (Nat.le_of_ble_eq_true rfl)) (tX3_setWeight E x10 p2 (0 : Int64) M16) (fun M17 => ?_)
      refine z_iinc 34 (v := (x10 + (1 : Int32))) (L' := [some (.ref 58), some (.int p1), some (.int p2), some (.int (x10 + (1 : Int32)))]) dX4_leastWith_34 rfl (zinc zci_1 _) (by decide) rfl ?_
      refine z_goto 37 8 dX4_leastWith_37 (by decide) ?_
      exact zk_weak (L' := [some (.ref 58), some (.int p1), some (.int p2), some (.int (x10 + (1 : Int32)))]) (zLe_s (zLe_s (zLe_s (zLe_s zLe_nl)))) (hrec12 ((x10 + (1 : Int32)), M17))
def fX4_leastWithout (p1 : Int32) (p2 : Int32) (M : zM) : Option (Int64 × zM) :=
  sq (fX4_weighAll (1 : Int32) (0 : Int32) M) (fun (M1 : zM) => sq (fX3_setWeight p1 p2 (0 : Int64) M1) (fun (M2 : zM) => bi (fX4_settle M2) (fun (x4 : Int64) (M3 : zM) => some ((((M2.1 55 2)).toInt64 + x4), M3))))
set_option maxHeartbeats 4000000 in
set_option maxRecDepth 100000 in
theorem tX4_leastWithout (E : zE) (p1 : Int32) (p2 : Int32) (M : zM) : zFJ E mX4_leastWithout [.ref 58, .int p1, .int p2] zY0 M (fX4_leastWithout p1 p2 M) := by
  refine zF_of (L := [some (.ref 58), some (.int p1), some (.int p2)]) plX4 (Nat.le_of_ble_eq_true rfl) rfl (fun post => ?_)
  unfold fX4_leastWithout
  refine z_aload_n 0 dX4_leastWithout_0 rfl ?_
  refine z_iconst 1 dX4_leastWithout_1 zci_1 ?_
  refine z_iconst 2 dX4_leastWithout_2 zci_0 ?_
  refine z_cV (zat_V2 3 dX4_leastWithout_3 lk_X4_64 zy_58 rfl rfl ⟨Nat.le_of_ble_eq_true rfl, Nat.le_of_ble_eq_true rfl⟩ (Nat.le_of_ble_eq_true rfl)) (tX4_weighAll E (1 : Int32) (0 : Int32) M) (fun M1 => ?_)
  refine z_aload_n 6 dX4_leastWithout_6 rfl ?_
  refine z_getR 7 (r := 59) dX4_leastWithout_7 fl_X4_12 zy_58 rfl ?_
  refine z_iload_n 10 dX4_leastWithout_10 rfl ?_
  refine z_iload_n 11 dX4_leastWithout_11 rfl ?_
  refine z_lconst 12 dX4_leastWithout_12 zlc_0 ?_
  refine z_cV (zat_V3 13 dX4_leastWithout_13 lk_X4_56 zy_59 rfl rfl ⟨Nat.le_of_ble_eq_true rfl, Nat.le_of_ble_eq_true rfl⟩ (Nat.le_of_ble_eq_true rfl)) (tX3_setWeight E p1 p2 (0 : Int64) M1) (fun M2 => ?_)
  refine z_aload_n 16 dX4_leastWithout_16 rfl ?_
  refine z_getR 17 (r := 55) dX4_leastWithout_17 fl_X4_22 zy_58 rfl ?_
  refine z_getI 20 dX4_leastWithout_20 fl_X4_71 zy_55 rfl ?_
  refine z_i2l 23 dX4_leastWithout_23 ?_
  refine z_aload_n 24 dX4_leastWithout_24 rfl ?_
  refine z_cJ (zat_V0 25 dX4_leastWithout_25 lk_X4_68 zy_58 rfl rfl ⟨Nat.le_of_ble_eq_true rfl, Nat.le_of_ble_eq_true rfl⟩ (Nat.le_of_ble_eq_true rfl)) (tX4_settle E M2) (fun x4 M3 => ?_)
  refine z_ladd 28 dX4_leastWithout_28 ?_
  exact z_lreturn 29 dX4_leastWithout_29 rfl (fun h => h)
def fX4_isInAllBest (p1 : Int32) (p2 : Int32) (M : zM) : Option (Bool × zM) :=
  bi (fX4_leastWithout p1 p2 M) (fun (x2 : Int64) (M1 : zM) => bi (fX4_leastTotal M1) (fun (x4 : Int64) (M3 : zM) => if x2 ≤ x4 then (some (false, M3)) else (some (true, M3))))
set_option maxHeartbeats 4000000 in
set_option maxRecDepth 100000 in
theorem tX4_isInAllBest (E : zE) (p1 : Int32) (p2 : Int32) (M : zM) : zFB E mX4_isInAllBest [.ref 58, .int p1, .int p2] zY0 M (fX4_isInAllBest p1 p2 M) := by
  refine zF_of (L := [some (.ref 58), some (.int p1), some (.int p2)]) plX4 (Nat.le_of_ble_eq_true rfl) rfl (fun post => ?_)
  unfold fX4_isInAllBest
  refine z_aload_n 0 dX4_isInAllBest_0 rfl ?_
  refine z_iload_n 1 dX4_isInAllBest_1 rfl ?_
  refine z_iload_n 2 dX4_isInAllBest_2 rfl ?_
  refine z_cJ (zat_V2 3 dX4_isInAllBest_3 lk_X4_74 zy_58 rfl rfl ⟨Nat.le_of_ble_eq_true rfl, Nat.le_of_ble_eq_true rfl⟩ (Nat.le_of_ble_eq_true rfl)) (tX4_leastWithout E p1 p2 M) (fun x2 M1 => ?_)
  refine z_aload_n 6 dX4_isInAllBest_6 rfl ?_
  refine z_cJ (zat_V0 7 dX4_isInAllBest_7 lk_X4_77 zy_58 rfl rfl ⟨Nat.le_of_ble_eq_true rfl, Nat.le_of_ble_eq_true rfl⟩ (Nat.le_of_ble_eq_true rfl)) (tX4_leastTotal E M1) (fun x4 M3 => ?_)
  refine z_lcmp 10 dX4_isInAllBest_10 ?_
  refine z_lcle 11 18 dX4_isInAllBest_11 (by decide) (fun _ => ?_) (fun _ => ?_)
  · refine z_iconst 18 dX4_isInAllBest_18 zci_0 ?_
    exact z_ireturn 19 (v := zb false) dX4_isInAllBest_19 rfl (zput_b false).1 (fun h => h)
  · refine z_iconst 14 dX4_isInAllBest_14 zci_1 ?_
    refine z_goto 15 19 dX4_isInAllBest_15 (by decide) ?_
    exact z_ireturn 19 (v := zb true) dX4_isInAllBest_19 rfl (zput_b true).1 (fun h => h)
def fX4_isAlone (p1 : Int32) (p2 : Int32) (p3 : Int32) (M : zM) : Option (Bool × zM) :=
  lt (if p3 = 0 then ((1 : Int32)) else ((-1 : Int32))) (fun (x1 : Int32) => bi (fX4_leastGain M) (fun (x3 : Int64) (M2 : zM) => sq (fX4_weighAll (2 : Int32) (0 : Int32) M2) (fun (M4 : zM) => lt (if p1 = 0 then ((M4.1 55 1)) else ((M4.1 55 0))) (fun (x5 : Int32) => sq (α := zM) (zlp (α := Int32 × zM) (β := zM) (fun rec17 => (fun (u28 : Int32 × zM) => match u28 with | (x15, M16) => if x5 ≤ x15 then (some M16) else (lt (if p1 = 0 then (p2) else (x15)) (fun (x21 : Int32) => lt (if p1 = 0 then (x15) else (p2)) (fun (x22 : Int32) => sq (fX4_weighPair x21 x22 (2 : Int32) x1 M16) (fun (M23 : zM) => rec17 ((x15 + (1 : Int32)), M23))))))) zFu ((0 : Int32), M4)) (fun (M20 : zM) => bi (fX4_settle M20) (fun (x27 : Int64) (M26 : zM) => if x27 = ((2 : Int64) * x3) then (some (true, M26)) else (some (false, M26))))))))
set_option maxHeartbeats 4000000 in
set_option maxRecDepth 100000 in
theorem tX4_isAlone (E : zE) (p1 : Int32) (p2 : Int32) (p3 : Int32) (M : zM) : zFB E mX4_isAlone [.ref 58, .int p1, .int p2, .int p3] zY0 M (fX4_isAlone p1 p2 p3 M) := by
  refine zF_of (L := [some (.ref 58), some (.int p1), some (.int p2), some (.int p3), none, none, none, none, none]) plX4 (Nat.le_of_ble_eq_true rfl) rfl (fun post => ?_)
  unfold fX4_isAlone
  refine z_iload_n 0 dX4_isAlone_0 rfl ?_
  refine zk_ltj (α := Int32) 9 (fun (x1 : Int32) => [some (.ref 58), some (.int p1), some (.int p2), none, none, none, none, none, none]) (fun (x1 : Int32) => [.int x1]) (fun (x1 : Int32) => (zY0, M)) ?_ ?_
  · intro x1
    refine z_istore 9 (L' := [some (.ref 58), some (.int p1), some (.int p2), none, some (.int x1), none, none, none, none]) dX4_isAlone_9 (by decide) rfl ?_
    refine z_aload_n 11 dX4_isAlone_11 rfl ?_
    refine z_cJ (zat_V0 12 dX4_isAlone_12 lk_X4_80 zy_58 rfl rfl ⟨Nat.le_of_ble_eq_true rfl, Nat.le_of_ble_eq_true rfl⟩ (Nat.le_of_ble_eq_true rfl)) (tX4_leastGain E M) (fun x3 M2 => ?_)
    refine z_lstore 15 (L' := [some (.ref 58), some (.int p1), some (.int p2), none, some (.int x1), some (.long x3), none, none, none]) dX4_isAlone_15 (by decide) rfl ?_
    refine z_aload_n 17 dX4_isAlone_17 rfl ?_
    refine z_iconst 18 dX4_isAlone_18 zci_2 ?_
    refine z_iconst 19 dX4_isAlone_19 zci_0 ?_
    refine z_cV (zat_V2 20 dX4_isAlone_20 lk_X4_64 zy_58 rfl rfl ⟨Nat.le_of_ble_eq_true rfl, Nat.le_of_ble_eq_true rfl⟩ (Nat.le_of_ble_eq_true rfl)) (tX4_weighAll E (2 : Int32) (0 : Int32) M2) (fun M4 => ?_)
    refine z_iload_n 23 dX4_isAlone_23 rfl ?_
    refine zk_ltj (α := Int32) 44 (fun (x5 : Int32) => [some (.ref 58), some (.int p1), some (.int p2), none, some (.int x1), some (.long x3), none, none, none]) (fun (x5 : Int32) => [.int x5]) (fun (x5 : Int32) => (zY0, M4)) ?_ ?_
    · intro x5
      refine z_istore 44 (L' := [some (.ref 58), some (.int p1), some (.int p2), none, some (.int x1), some (.long x3), none, some (.int x5), none]) dX4_isAlone_44 (by decide) rfl ?_
      refine z_iconst 46 dX4_isAlone_46 zci_0 ?_
      refine z_istore 47 (L' := [some (.ref 58), some (.int p1), some (.int p2), none, some (.int x1), some (.long x3), none, some (.int x5), some (.int (0 : Int32))]) dX4_isAlone_47 (by decide) rfl ?_
      refine zk_sqj (α := zM) 89 (fun (M20 : zM) => [some (.ref 58), none, none, none, none, some (.long x3), none, none, none]) (fun (M20 : zM) => []) (fun (M20 : zM) => (zY0, M20)) ?_ ?_
      · intro M20
        refine z_aload_n 89 dX4_isAlone_89 rfl ?_
        refine z_cJ (zat_V0 90 dX4_isAlone_90 lk_X4_68 zy_58 rfl rfl ⟨Nat.le_of_ble_eq_true rfl, Nat.le_of_ble_eq_true rfl⟩ (Nat.le_of_ble_eq_true rfl)) (tX4_settle E M20) (fun x27 M26 => ?_)
        refine z_ldc2 93 dX4_isAlone_93 cw_X4_83 ?_
        refine z_lload 96 dX4_isAlone_96 rfl ?_
        refine z_lmul 98 dX4_isAlone_98 ?_
        refine z_lcmp 99 dX4_isAlone_99 ?_
        refine z_lcne 100 107 dX4_isAlone_100 (by decide) (fun _ => ?_) (fun _ => ?_)
        · refine z_iconst 103 dX4_isAlone_103 zci_1 ?_
          refine z_goto 104 108 dX4_isAlone_104 (by decide) ?_
          exact z_ireturn 108 (v := zb true) dX4_isAlone_108 rfl (zput_b true).1 (fun h => h)
        · refine z_iconst 107 dX4_isAlone_107 zci_0 ?_
          exact z_ireturn 108 (v := zb false) dX4_isAlone_108 rfl (zput_b false).1 (fun h => h)
      · refine zk_weak (L' := [some (.ref 58), some (.int p1), some (.int p2), none, some (.int x1), some (.long x3), none, some (.int x5), some (.int (0 : Int32))]) (zLe_s (zLe_s (zLe_s (zLe_n (zLe_s (zLe_s (zLe_n (zLe_s (zLe_s zLe_nl))))))))) (zk_lp (α := Int32 × zM) 49 (fun (u18 : Int32 × zM) => match u18 with | (x15, M16) => [some (.ref 58), some (.int p1), some (.int p2), none, some (.int x1), some (.long x3), none, some (.int x5), some (.int x15)]) (fun (u19 : Int32 × zM) => match u19 with | (x15, M16) => (zY0, M16)) ?_ zFu ((0 : Int32), M4))
        intro rec17 hrec17
        intro u29
        obtain ⟨x15, M16⟩ := u29
        try dsimp only
        refine z_iload 49 dX4_isAlone_49 rfl ?_
        refine z_iload 51 dX4_isAlone_51 rfl ?_
        refine z_icge 53 89 dX4_isAlone_53 (by decide) (fun _ => ?_) (fun _ => ?_)
        · exact zk_exitw (L' := [some (.ref 58), none, none, none, none, some (.long x3), none, none, none]) (zLe_s (zLe_n (zLe_n (zLe_n (zLe_n (zLe_s (zLe_n (zLe_n (zLe_n zLe_nl))))))))) (fun h => h)
        · refine z_aload_n 56 dX4_isAlone_56 rfl ?_
          refine z_iload_n 57 dX4_isAlone_57 rfl ?_
          refine zk_ltj (α := Int32) 67 (fun (x21 : Int32) => [some (.ref 58), some (.int p1), some (.int p2), none, some (.int x1), some (.long x3), none, some (.int x5), some (.int x15)]) (fun (x21 : Int32) => [.int x21, .ref 58]) (fun (x21 : Int32) => (zY0, M16)) ?_ ?_
          · intro x21
            refine z_iload_n 67 dX4_isAlone_67 rfl ?_
            refine zk_ltj (α := Int32) 77 (fun (x22 : Int32) => [some (.ref 58), some (.int p1), some (.int p2), none, some (.int x1), some (.long x3), none, some (.int x5), some (.int x15)]) (fun (x22 : Int32) => [.int x22, .int x21, .ref 58]) (fun (x22 : Int32) => (zY0, M16)) ?_ ?_
            · intro x22
              refine z_iconst 77 dX4_isAlone_77 zci_2 ?_
              refine z_iload 78 dX4_isAlone_78 rfl ?_
              refine z_cV (zat_V4 80 dX4_isAlone_80 lk_X4_44 zy_58 rfl rfl ⟨Nat.le_of_ble_eq_true rfl, Nat.le_of_ble_eq_true rfl⟩ (Nat.le_of_ble_eq_true rfl)) (tX4_weighPair E x21 x22 (2 : Int32) x1 M16) (fun M23 => ?_)
              refine z_iinc 83 (v := (x15 + (1 : Int32))) (L' := [some (.ref 58), some (.int p1), some (.int p2), none, some (.int x1), some (.long x3), none, some (.int x5), some (.int (x15 + (1 : Int32)))]) dX4_isAlone_83 rfl (zinc zci_1 _) (by decide) rfl ?_
              refine z_goto 86 49 dX4_isAlone_86 (by decide) ?_
              exact zk_weak (L' := [some (.ref 58), some (.int p1), some (.int p2), none, some (.int x1), some (.long x3), none, some (.int x5), some (.int (x15 + (1 : Int32)))]) (zLe_s (zLe_s (zLe_s (zLe_n (zLe_s (zLe_s (zLe_n (zLe_s (zLe_s zLe_nl))))))))) (hrec17 ((x15 + (1 : Int32)), M23))
            · intro k24 hk24
              refine z_ifnev 68 76 dX4_isAlone_68 (by decide) ?_ ?_
              · refine z_iload 71 dX4_isAlone_71 rfl ?_
                refine z_goto 73 77 dX4_isAlone_73 (by decide) ?_
                exact zk_weak (L' := [some (.ref 58), some (.int p1), some (.int p2), none, some (.int x1), some (.long x3), none, some (.int x5), some (.int x15)]) (zLe_s (zLe_s (zLe_s (zLe_n (zLe_s (zLe_s (zLe_n (zLe_s (zLe_s zLe_nl))))))))) (hk24 x15)
              · refine z_iload_n 76 dX4_isAlone_76 rfl ?_
                exact zk_weak (L' := [some (.ref 58), some (.int p1), some (.int p2), none, some (.int x1), some (.long x3), none, some (.int x5), some (.int x15)]) (zLe_s (zLe_s (zLe_s (zLe_n (zLe_s (zLe_s (zLe_n (zLe_s (zLe_s zLe_nl))))))))) (hk24 p2)
          · intro k25 hk25
            refine z_ifnev 58 65 dX4_isAlone_58 (by decide) ?_ ?_
            · refine z_iload_n 61 dX4_isAlone_61 rfl ?_
              refine z_goto 62 67 dX4_isAlone_62 (by decide) ?_
              exact zk_weak (L' := [some (.ref 58), some (.int p1), some (.int p2), none, some (.int x1), some (.long x3), none, some (.int x5), some (.int x15)]) (zLe_s (zLe_s (zLe_s (zLe_n (zLe_s (zLe_s (zLe_n (zLe_s (zLe_s zLe_nl))))))))) (hk25 p2)
            · refine z_iload 65 dX4_isAlone_65 rfl ?_
              exact zk_weak (L' := [some (.ref 58), some (.int p1), some (.int p2), none, some (.int x1), some (.long x3), none, some (.int x5), some (.int x15)]) (zLe_s (zLe_s (zLe_s (zLe_n (zLe_s (zLe_s (zLe_n (zLe_s (zLe_s zLe_nl))))))))) (hk25 x15)
    · intro k30 hk30
      refine z_ifnev 24 37 dX4_isAlone_24 (by decide) ?_ ?_
      · refine z_aload_n 27 dX4_isAlone_27 rfl ?_
        refine z_getR 28 (r := 55) dX4_isAlone_28 fl_X4_22 zy_58 rfl ?_
        refine z_getI 31 dX4_isAlone_31 fl_X4_41 zy_55 rfl ?_
        refine z_goto 34 44 dX4_isAlone_34 (by decide) ?_
        exact zk_weak (L' := [some (.ref 58), some (.int p1), some (.int p2), none, some (.int x1), some (.long x3), none, none, none]) (zLe_s (zLe_s (zLe_s (zLe_n (zLe_s (zLe_s (zLe_n (zLe_n (zLe_n zLe_nl))))))))) (hk30 (M4.1 55 1))
      · refine z_aload_n 37 dX4_isAlone_37 rfl ?_
        refine z_getR 38 (r := 55) dX4_isAlone_38 fl_X4_22 zy_58 rfl ?_
        refine z_getI 41 dX4_isAlone_41 fl_X4_35 zy_55 rfl ?_
        exact zk_weak (L' := [some (.ref 58), some (.int p1), some (.int p2), none, some (.int x1), some (.long x3), none, none, none]) (zLe_s (zLe_s (zLe_s (zLe_n (zLe_s (zLe_s (zLe_n (zLe_n (zLe_n zLe_nl))))))))) (hk30 (M4.1 55 0))
  · intro k31 hk31
    refine z_ifeqv 1 8 dX4_isAlone_1 (by decide) ?_ ?_
    · refine z_iconst 8 dX4_isAlone_8 zci_1 ?_
      exact zk_weak (L' := [some (.ref 58), some (.int p1), some (.int p2), none, none, none, none, none, none]) (zLe_s (zLe_s (zLe_s (zLe_n (zLe_n (zLe_n (zLe_n (zLe_n (zLe_n zLe_nl))))))))) (hk31 (1 : Int32))
    · refine z_iconst 4 dX4_isAlone_4 zci_m1 ?_
      refine z_goto 5 9 dX4_isAlone_5 (by decide) ?_
      exact zk_weak (L' := [some (.ref 58), some (.int p1), some (.int p2), none, none, none, none, none, none]) (zLe_s (zLe_s (zLe_s (zLe_n (zLe_n (zLe_n (zLe_n (zLe_n (zLe_n zLe_nl))))))))) (hk31 (-1 : Int32))
def fX4_fewestInBest (M : zM) : Option (Int32 × zM) :=
  bi (fX4_leastGain M) (fun (x2 : Int64) (M1 : zM) => sq (fX4_weighAll (32 : Int32) (1 : Int32) M1) (fun (M3 : zM) => bi (fX4_settle M3) (fun (x5 : Int64) (M4 : zM) => some (((x5 - ((32 : Int64) * x2))).toInt32, M4))))
set_option maxHeartbeats 4000000 in
set_option maxRecDepth 100000 in
theorem tX4_fewestInBest (E : zE)  (M : zM) : zFI E mX4_fewestInBest [.ref 58] zY0 M (fX4_fewestInBest M) := by
  refine zF_of (L := [some (.ref 58), none, none]) plX4 (Nat.le_of_ble_eq_true rfl) rfl (fun post => ?_)
  unfold fX4_fewestInBest
  refine z_aload_n 0 dX4_fewestInBest_0 rfl ?_
  refine z_cJ (zat_V0 1 dX4_fewestInBest_1 lk_X4_80 zy_58 rfl rfl ⟨Nat.le_of_ble_eq_true rfl, Nat.le_of_ble_eq_true rfl⟩ (Nat.le_of_ble_eq_true rfl)) (tX4_leastGain E M) (fun x2 M1 => ?_)
  refine z_lstore_n 4 (L' := [some (.ref 58), some (.long x2), none]) dX4_fewestInBest_4 (by decide) rfl ?_
  refine z_aload_n 5 dX4_fewestInBest_5 rfl ?_
  refine z_bipush 6 dX4_fewestInBest_6 zbp_32 ?_
  refine z_iconst 8 dX4_fewestInBest_8 zci_1 ?_
  refine z_cV (zat_V2 9 dX4_fewestInBest_9 lk_X4_64 zy_58 rfl rfl ⟨Nat.le_of_ble_eq_true rfl, Nat.le_of_ble_eq_true rfl⟩ (Nat.le_of_ble_eq_true rfl)) (tX4_weighAll E (32 : Int32) (1 : Int32) M1) (fun M3 => ?_)
  refine z_aload_n 12 dX4_fewestInBest_12 rfl ?_
  refine z_cJ (zat_V0 13 dX4_fewestInBest_13 lk_X4_68 zy_58 rfl rfl ⟨Nat.le_of_ble_eq_true rfl, Nat.le_of_ble_eq_true rfl⟩ (Nat.le_of_ble_eq_true rfl)) (tX4_settle E M3) (fun x5 M4 => ?_)
  refine z_ldc2 16 dX4_fewestInBest_16 cw_X4_85 ?_
  refine z_lload_n 19 dX4_fewestInBest_19 rfl ?_
  refine z_lmul 20 dX4_fewestInBest_20 ?_
  refine z_lsub 21 dX4_fewestInBest_21 ?_
  refine z_l2i 22 dX4_fewestInBest_22 ?_
  exact z_ireturn 23 dX4_fewestInBest_23 rfl rfl (fun h => h)
def fX4_mostInBest (M : zM) : Option (Int32 × zM) :=
  bi (fX4_leastGain M) (fun (x2 : Int64) (M1 : zM) => sq (fX4_weighAll (32 : Int32) (-1 : Int32) M1) (fun (M3 : zM) => bi (fX4_settle M3) (fun (x5 : Int64) (M4 : zM) => some (((((32 : Int64) * x2) - x5)).toInt32, M4))))
set_option maxHeartbeats 4000000 in
set_option maxRecDepth 100000 in
theorem tX4_mostInBest (E : zE)  (M : zM) : zFI E mX4_mostInBest [.ref 58] zY0 M (fX4_mostInBest M) := by
  refine zF_of (L := [some (.ref 58), none, none]) plX4 (Nat.le_of_ble_eq_true rfl) rfl (fun post => ?_)
  unfold fX4_mostInBest
  refine z_aload_n 0 dX4_mostInBest_0 rfl ?_
  refine z_cJ (zat_V0 1 dX4_mostInBest_1 lk_X4_80 zy_58 rfl rfl ⟨Nat.le_of_ble_eq_true rfl, Nat.le_of_ble_eq_true rfl⟩ (Nat.le_of_ble_eq_true rfl)) (tX4_leastGain E M) (fun x2 M1 => ?_)
  refine z_lstore_n 4 (L' := [some (.ref 58), some (.long x2), none]) dX4_mostInBest_4 (by decide) rfl ?_
  refine z_aload_n 5 dX4_mostInBest_5 rfl ?_
  refine z_bipush 6 dX4_mostInBest_6 zbp_32 ?_
  refine z_iconst 8 dX4_mostInBest_8 zci_m1 ?_
  refine z_cV (zat_V2 9 dX4_mostInBest_9 lk_X4_64 zy_58 rfl rfl ⟨Nat.le_of_ble_eq_true rfl, Nat.le_of_ble_eq_true rfl⟩ (Nat.le_of_ble_eq_true rfl)) (tX4_weighAll E (32 : Int32) (-1 : Int32) M1) (fun M3 => ?_)
  refine z_ldc2 12 dX4_mostInBest_12 cw_X4_85 ?_
  refine z_lload_n 15 dX4_mostInBest_15 rfl ?_
  refine z_lmul 16 dX4_mostInBest_16 ?_
  refine z_aload_n 17 dX4_mostInBest_17 rfl ?_
  refine z_cJ (zat_V0 18 dX4_mostInBest_18 lk_X4_68 zy_58 rfl rfl ⟨Nat.le_of_ble_eq_true rfl, Nat.le_of_ble_eq_true rfl⟩ (Nat.le_of_ble_eq_true rfl)) (tX4_settle E M3) (fun x5 M4 => ?_)
  refine z_lsub 21 dX4_mostInBest_21 ?_
  refine z_l2i 22 dX4_mostInBest_22 ?_
  exact z_ireturn 23 dX4_mostInBest_23 rfl rfl (fun h => h)
def fX4_partnerTaken (p1 : Int32) (M : zM) : Option Int32 :=
  zlp (α := Int32) (fun rec5 => (fun (x4 : Int32) => if (M.1 55 1) ≤ x4 then (some (-4 : Int32)) else (sq (fX3_isTaken p1 x4 M) (fun (b6 : Bool) => if b6 = false then (rec5 (x4 + (1 : Int32))) else (some x4))))) zFu (0 : Int32)
set_option maxHeartbeats 4000000 in
set_option maxRecDepth 100000 in
theorem tX4_partnerTaken (E : zE) (p1 : Int32) (M : zM) : zFi E mX4_partnerTaken [.ref 58, .int p1] zY0 M (fX4_partnerTaken p1 M) := by
  refine zF_of (L := [some (.ref 58), some (.int p1), none]) plX4 (Nat.le_of_ble_eq_true rfl) rfl (fun post => ?_)
  unfold fX4_partnerTaken
  refine z_iconst 0 dX4_partnerTaken_0 zci_0 ?_
  refine z_istore_n 1 (L' := [some (.ref 58), some (.int p1), some (.int (0 : Int32))]) dX4_partnerTaken_1 (by decide) rfl ?_
  refine zk_weak (L' := [some (.ref 58), some (.int p1), some (.int (0 : Int32))]) (zLe_s (zLe_s (zLe_s zLe_nl))) (zk_lp (α := Int32) 2 (fun (x4 : Int32) => [some (.ref 58), some (.int p1), some (.int x4)]) (fun (x4 : Int32) => (zY0, M)) ?_ zFu (0 : Int32))
  intro rec5 hrec5
  intro x4
  refine z_iload_n 2 dX4_partnerTaken_2 rfl ?_
  refine z_aload_n 3 dX4_partnerTaken_3 rfl ?_
  refine z_getR 4 (r := 55) dX4_partnerTaken_4 fl_X4_22 zy_58 rfl ?_
  refine z_getI 7 dX4_partnerTaken_7 fl_X4_41 zy_55 rfl ?_
  refine z_icge 10 33 dX4_partnerTaken_10 (by decide) (fun _ => ?_) (fun _ => ?_)
  · refine z_bipush 33 dX4_partnerTaken_33 zbp_m4 ?_
    exact z_ireturn 35 dX4_partnerTaken_35 rfl rfl (fun h => h)
  · refine z_aload_n 13 dX4_partnerTaken_13 rfl ?_
    refine z_getR 14 (r := 59) dX4_partnerTaken_14 fl_X4_12 zy_58 rfl ?_
    refine z_iload_n 17 dX4_partnerTaken_17 rfl ?_
    refine z_iload_n 18 dX4_partnerTaken_18 rfl ?_
    refine z_cb (zat_V2 19 dX4_partnerTaken_19 lk_X4_95 zy_59 rfl rfl ⟨Nat.le_of_ble_eq_true rfl, Nat.le_of_ble_eq_true rfl⟩ (Nat.le_of_ble_eq_true rfl)) (tX3_isTaken E p1 x4 M) (fun b6 => ?_)
    refine z_ifeqb 22 27 dX4_partnerTaken_22 (by decide) (fun _ => ?_) (fun _ => ?_)
    · refine z_iinc 27 (v := (x4 + (1 : Int32))) (L' := [some (.ref 58), some (.int p1), some (.int (x4 + (1 : Int32)))]) dX4_partnerTaken_27 rfl (zinc zci_1 _) (by decide) rfl ?_
      refine z_goto 30 2 dX4_partnerTaken_30 (by decide) ?_
      exact zk_weak (L' := [some (.ref 58), some (.int p1), some (.int (x4 + (1 : Int32)))]) (zLe_s (zLe_s (zLe_s zLe_nl))) (hrec5 (x4 + (1 : Int32)))
    · refine z_iload_n 25 dX4_partnerTaken_25 rfl ?_
      exact z_ireturn 26 dX4_partnerTaken_26 rfl rfl (fun h => h)
def fX4_findFirst (M : zM) : Option zM :=
  sq (fX3_clear M) (fun (M1 : zM) => sq (α := zM) (zlp (α := Int64 × Int32 × zM) (β := zM) (fun rec38 => (fun (u80 : Int64 × Int32 × zM) => match u80 with | (x35, x36, M37) => if (M37.1 55 0) ≤ x36 then (some M37) else (lt ((x35 / (11 : Int64))) (fun (x42 : Int64) => sq (α := zM) (zlp (α := Int32 × zM) (β := zM) (fun rec45 => (fun (u57 : Int32 × zM) => match u57 with | (x43, M44) => if (M44.1 55 1) ≤ x43 then (some M44) else (sq (fX5_mayBe x36 x43 M44) (fun (b49 : Bool) => sq (α := zM) (if b49 = false then (some M44) else (lt (((((10 : Int32) - x43)).toInt64 * x42)) (fun (x54 : Int64) => sq (fX5_gainOf x36 x43 M44) (fun (x55 : Int32) => sq (fX3_setWeight x36 x43 (((25937424601 : Int64) * x55.toInt64) - x54) M44) (fun (M56 : zM) => some M56))))) (fun (M53 : zM) => rec45 ((x43 + (1 : Int32)), M53)))))) zFu ((0 : Int32), M37)) (fun (M48 : zM) => rec38 (x42, (x36 + (1 : Int32)), M48)))))) zFu ((25937424601 : Int64), (0 : Int32), M1)) (fun (M41 : zM) => bi (fX4_settle M41) (fun (x60 : Int64) (M59 : zM) => zlp (α := Int32 × zM) (fun rec71 => (fun (u78 : Int32 × zM) => match u78 with | (x69, M70) => if (10 : Int32) ≤ x69 then (some M70) else (sq (α := Int32) (if (M70.1 55 0) ≤ x69 then (some (-4 : Int32)) else (sq (fX4_partnerTaken x69 M70) (fun (x77 : Int32) => some x77))) (fun (x75 : Int32) => grd (zix x69 10) (lt (zwI M70 66 (zn x69) x75) (fun (M76 : zM) => rec71 ((x69 + (1 : Int32)), M76))))))) zFu ((0 : Int32), M59))))
set_option maxHeartbeats 4000000 in
set_option maxRecDepth 100000 in
theorem tX4_findFirst (E : zE)  (M : zM) : zFV E mX4_findFirst [.ref 58] zY0 M (fX4_findFirst M) := by
  refine zF_of (L := [some (.ref 58), none, none, none, none, none, none]) plX4 (Nat.le_of_ble_eq_true rfl) rfl (fun post => ?_)
  unfold fX4_findFirst
  refine z_aload_n 0 dX4_findFirst_0 rfl ?_
  refine z_getR 1 (r := 59) dX4_findFirst_1 fl_X4_12 zy_58 rfl ?_
  refine z_cV (zat_V0 4 dX4_findFirst_4 lk_X4_32 zy_59 rfl rfl ⟨Nat.le_of_ble_eq_true rfl, Nat.le_of_ble_eq_true rfl⟩ (Nat.le_of_ble_eq_true rfl)) (tX3_clear E M) (fun M1 => ?_)
  refine z_ldc2 7 dX4_findFirst_7 cw_X4_87 ?_
  refine z_lstore_n 10 (L' := [some (.ref 58), some (.long (25937424601 : Int64)), none, none, none, none, none]) dX4_findFirst_10 (by decide) rfl ?_
  refine z_iconst 11 dX4_findFirst_11 zci_0 ?_
  refine z_istore_n 12 (L' := [some (.ref 58), some (.long (25937424601 : Int64)), none, some (.int (0 : Int32)), none, none, none]) dX4_findFirst_12 (by decide) rfl ?_
  refine zk_sqj (α := zM) 108 (fun (M41 : zM) => [some (.ref 58), none, none, none, none, none, none]) (fun (M41 : zM) => []) (fun (M41 : zM) => (zY0, M41)) ?_ ?_
  · intro M41
    refine z_aload_n 108 dX4_findFirst_108 rfl ?_
    refine z_cJ (zat_V0 109 dX4_findFirst_109 lk_X4_68 zy_58 rfl rfl ⟨Nat.le_of_ble_eq_true rfl, Nat.le_of_ble_eq_true rfl⟩ (Nat.le_of_ble_eq_true rfl)) (tX4_settle E M41) (fun x60 M59 => ?_)
    refine z_pop2 112 dX4_findFirst_112 rfl ?_
    refine z_iconst 113 dX4_findFirst_113 zci_0 ?_
    refine z_istore_n 114 (L' := [some (.ref 58), none, none, some (.int (0 : Int32)), none, none, none]) dX4_findFirst_114 (by decide) rfl ?_
    refine zk_weak (L' := [some (.ref 58), none, none, some (.int (0 : Int32)), none, none, none]) (zLe_s (zLe_n (zLe_n (zLe_s (zLe_n (zLe_n (zLe_n zLe_nl))))))) (zk_lp (α := Int32 × zM) 115 (fun (u72 : Int32 × zM) => match u72 with | (x69, M70) => [some (.ref 58), none, none, some (.int x69), none, none, none]) (fun (u73 : Int32 × zM) => match u73 with | (x69, M70) => (zY0, M70)) ?_ zFu ((0 : Int32), M59))
    intro rec71 hrec71
    intro u79
    obtain ⟨x69, M70⟩ := u79
    try dsimp only
    refine z_iload_n 115 dX4_findFirst_115 rfl ?_
    refine z_bipush 116 dX4_findFirst_116 zbp_10 ?_
    refine z_icge 118 154 dX4_findFirst_118 (by decide) (fun _ => ?_) (fun _ => ?_)
    · exact z_return 154 dX4_findFirst_154 rfl (fun h => h)
    · refine z_aload_n 121 dX4_findFirst_121 rfl ?_
      refine z_getR 122 (r := 66) dX4_findFirst_122 fl_X4_18 zy_58 rfl ?_
      refine z_iload_n 125 dX4_findFirst_125 rfl ?_
      refine z_iload_n 126 dX4_findFirst_126 rfl ?_
      refine z_aload_n 127 dX4_findFirst_127 rfl ?_
      refine z_getR 128 (r := 55) dX4_findFirst_128 fl_X4_22 zy_58 rfl ?_
      refine z_getI 131 dX4_findFirst_131 fl_X4_35 zy_55 rfl ?_
      refine zk_sqj (α := Int32) 147 (fun (x75 : Int32) => [some (.ref 58), none, none, some (.int x69), none, none, none]) (fun (x75 : Int32) => [.int x75, .int x69, .ref 66]) (fun (x75 : Int32) => (zY0, M70)) ?_ ?_
      · intro x75
        refine z_iastore 147 dX4_findFirst_147 zy_66 ?_
        refine zk_nmM (fun M76 => ?_)
        refine z_iinc 148 (v := (x69 + (1 : Int32))) (L' := [some (.ref 58), none, none, some (.int (x69 + (1 : Int32))), none, none, none]) dX4_findFirst_148 rfl (zinc zci_1 _) (by decide) rfl ?_
        refine z_goto 151 115 dX4_findFirst_151 (by decide) ?_
        exact zk_weak (L' := [some (.ref 58), none, none, some (.int (x69 + (1 : Int32))), none, none, none]) (zLe_s (zLe_n (zLe_n (zLe_s (zLe_n (zLe_n (zLe_n zLe_nl))))))) (hrec71 ((x69 + (1 : Int32)), M76))
      · refine z_icge 134 145 dX4_findFirst_134 (by decide) (fun _ => ?_) (fun _ => ?_)
        · refine z_bipush 145 dX4_findFirst_145 zbp_m4 ?_
          exact zk_exitw (L' := [some (.ref 58), none, none, some (.int x69), none, none, none]) (zLe_s (zLe_n (zLe_n (zLe_s (zLe_n (zLe_n (zLe_n zLe_nl))))))) (fun h => h)
        · refine z_aload_n 137 dX4_findFirst_137 rfl ?_
          refine z_iload_n 138 dX4_findFirst_138 rfl ?_
          refine z_ci (zat_V1 139 dX4_findFirst_139 lk_X4_91 zy_58 rfl rfl ⟨Nat.le_of_ble_eq_true rfl, Nat.le_of_ble_eq_true rfl⟩ (Nat.le_of_ble_eq_true rfl)) (tX4_partnerTaken E x69 M70) (fun x77 => ?_)
          refine z_goto 142 147 dX4_findFirst_142 (by decide) ?_
          exact zk_exitw (L' := [some (.ref 58), none, none, some (.int x69), none, none, none]) (zLe_s (zLe_n (zLe_n (zLe_s (zLe_n (zLe_n (zLe_n zLe_nl))))))) (fun h => h)
  · refine zk_weak (L' := [some (.ref 58), some (.long (25937424601 : Int64)), none, some (.int (0 : Int32)), none, none, none]) (zLe_s (zLe_s (zLe_n (zLe_s (zLe_n (zLe_n (zLe_n zLe_nl))))))) (zk_lp (α := Int64 × Int32 × zM) 13 (fun (u39 : Int64 × Int32 × zM) => match u39 with | (x35, x36, M37) => [some (.ref 58), some (.long x35), none, some (.int x36), none, none, none]) (fun (u40 : Int64 × Int32 × zM) => match u40 with | (x35, x36, M37) => (zY0, M37)) ?_ zFu ((25937424601 : Int64), (0 : Int32), M1))
    intro rec38 hrec38
    intro u81
    obtain ⟨x35, x36, M37⟩ := u81
    try dsimp only
    refine z_iload_n 13 dX4_findFirst_13 rfl ?_
    refine z_aload_n 14 dX4_findFirst_14 rfl ?_
    refine z_getR 15 (r := 55) dX4_findFirst_15 fl_X4_22 zy_58 rfl ?_
    refine z_getI 18 dX4_findFirst_18 fl_X4_35 zy_55 rfl ?_
    refine z_icge 21 108 dX4_findFirst_21 (by decide) (fun _ => ?_) (fun _ => ?_)
    · exact zk_exitw (L' := [some (.ref 58), none, none, none, none, none, none]) (zLe_s (zLe_n (zLe_n (zLe_n (zLe_n (zLe_n (zLe_n zLe_nl))))))) (fun h => h)
    · refine z_lload_n 24 dX4_findFirst_24 rfl ?_
      refine z_ldc2 25 dX4_findFirst_25 cw_X4_89 ?_
      refine z_ldivc 28 dX4_findFirst_28 (by decide) ?_
      refine zk_nmL (fun x42 => ?_)
      refine z_lstore_n 29 (L' := [some (.ref 58), some (.long x42), none, some (.int x36), none, none, none]) dX4_findFirst_29 (by decide) rfl ?_
      refine z_iconst 30 dX4_findFirst_30 zci_0 ?_
      refine z_istore 31 (L' := [some (.ref 58), some (.long x42), none, some (.int x36), some (.int (0 : Int32)), none, none]) dX4_findFirst_31 (by decide) rfl ?_
      refine zk_sqj (α := zM) 102 (fun (M48 : zM) => [some (.ref 58), some (.long x42), none, some (.int x36), none, none, none]) (fun (M48 : zM) => []) (fun (M48 : zM) => (zY0, M48)) ?_ ?_
      · intro M48
        refine z_iinc 102 (v := (x36 + (1 : Int32))) (L' := [some (.ref 58), some (.long x42), none, some (.int (x36 + (1 : Int32))), none, none, none]) dX4_findFirst_102 rfl (zinc zci_1 _) (by decide) rfl ?_
        refine z_goto 105 13 dX4_findFirst_105 (by decide) ?_
        exact zk_weak (L' := [some (.ref 58), some (.long x42), none, some (.int (x36 + (1 : Int32))), none, none, none]) (zLe_s (zLe_s (zLe_n (zLe_s (zLe_n (zLe_n (zLe_n zLe_nl))))))) (hrec38 (x42, (x36 + (1 : Int32)), M48))
      · refine zk_weak (L' := [some (.ref 58), some (.long x42), none, some (.int x36), some (.int (0 : Int32)), none, none]) (zLe_s (zLe_s (zLe_n (zLe_s (zLe_s (zLe_n (zLe_n zLe_nl))))))) (zk_lp (α := Int32 × zM) 33 (fun (u46 : Int32 × zM) => match u46 with | (x43, M44) => [some (.ref 58), some (.long x42), none, some (.int x36), some (.int x43), none, none]) (fun (u47 : Int32 × zM) => match u47 with | (x43, M44) => (zY0, M44)) ?_ zFu ((0 : Int32), M37))
        intro rec45 hrec45
        intro u58
        obtain ⟨x43, M44⟩ := u58
        try dsimp only
        refine z_iload 33 dX4_findFirst_33 rfl ?_
        refine z_aload_n 35 dX4_findFirst_35 rfl ?_
        refine z_getR 36 (r := 55) dX4_findFirst_36 fl_X4_22 zy_58 rfl ?_
        refine z_getI 39 dX4_findFirst_39 fl_X4_41 zy_55 rfl ?_
        refine z_icge 42 102 dX4_findFirst_42 (by decide) (fun _ => ?_) (fun _ => ?_)
        · exact zk_exitw (L' := [some (.ref 58), some (.long x42), none, some (.int x36), none, none, none]) (zLe_s (zLe_s (zLe_n (zLe_s (zLe_n (zLe_n (zLe_n zLe_nl))))))) (fun h => h)
        · refine z_aload_n 45 dX4_findFirst_45 rfl ?_
          refine z_getR 46 (r := 55) dX4_findFirst_46 fl_X4_22 zy_58 rfl ?_
          refine z_iload_n 49 dX4_findFirst_49 rfl ?_
          refine z_iload 50 dX4_findFirst_50 rfl ?_
          refine z_cb (zat_V2 52 dX4_findFirst_52 lk_X4_48 zy_55 rfl rfl ⟨Nat.le_of_ble_eq_true rfl, Nat.le_of_ble_eq_true rfl⟩ (Nat.le_of_ble_eq_true rfl)) (tX5_mayBe E x36 x43 M44) (fun b49 => ?_)
          refine zk_sqj (α := zM) 96 (fun (M53 : zM) => [some (.ref 58), some (.long x42), none, some (.int x36), some (.int x43), none, none]) (fun (M53 : zM) => []) (fun (M53 : zM) => (zY0, M53)) ?_ ?_
          · intro M53
            refine z_iinc 96 (v := (x43 + (1 : Int32))) (L' := [some (.ref 58), some (.long x42), none, some (.int x36), some (.int (x43 + (1 : Int32))), none, none]) dX4_findFirst_96 rfl (zinc zci_1 _) (by decide) rfl ?_
            refine z_goto 99 33 dX4_findFirst_99 (by decide) ?_
            exact zk_weak (L' := [some (.ref 58), some (.long x42), none, some (.int x36), some (.int (x43 + (1 : Int32))), none, none]) (zLe_s (zLe_s (zLe_n (zLe_s (zLe_s (zLe_n (zLe_n zLe_nl))))))) (hrec45 ((x43 + (1 : Int32)), M53))
          · refine z_ifeqb 55 96 dX4_findFirst_55 (by decide) (fun _ => ?_) (fun _ => ?_)
            · exact zk_exitw (L' := [some (.ref 58), some (.long x42), none, some (.int x36), some (.int x43), none, none]) (zLe_s (zLe_s (zLe_n (zLe_s (zLe_s (zLe_n (zLe_n zLe_nl))))))) (fun h => h)
            · refine z_bipush 58 dX4_findFirst_58 zbp_10 ?_
              refine z_iload 60 dX4_findFirst_60 rfl ?_
              refine z_isub 62 dX4_findFirst_62 ?_
              refine z_i2l 63 dX4_findFirst_63 ?_
              refine z_lload_n 64 dX4_findFirst_64 rfl ?_
              refine z_lmul 65 dX4_findFirst_65 ?_
              refine zk_nmL (fun x54 => ?_)
              refine z_lstore 66 (L' := [some (.ref 58), some (.long x42), none, some (.int x36), some (.int x43), some (.long x54), none]) dX4_findFirst_66 (by decide) rfl ?_
              refine z_aload_n 68 dX4_findFirst_68 rfl ?_
              refine z_getR 69 (r := 59) dX4_findFirst_69 fl_X4_12 zy_58 rfl ?_
              refine z_iload_n 72 dX4_findFirst_72 rfl ?_
              refine z_iload 73 dX4_findFirst_73 rfl ?_
              refine z_ldc2 75 dX4_findFirst_75 cw_X4_87 ?_
              refine z_aload_n 78 dX4_findFirst_78 rfl ?_
              refine z_getR 79 (r := 55) dX4_findFirst_79 fl_X4_22 zy_58 rfl ?_
              refine z_iload_n 82 dX4_findFirst_82 rfl ?_
              refine z_iload 83 dX4_findFirst_83 rfl ?_
              refine z_ci (zat_V2 85 dX4_findFirst_85 lk_X4_52 zy_55 rfl rfl ⟨Nat.le_of_ble_eq_true rfl, Nat.le_of_ble_eq_true rfl⟩ (Nat.le_of_ble_eq_true rfl)) (tX5_gainOf E x36 x43 M44) (fun x55 => ?_)
              refine z_i2l 88 dX4_findFirst_88 ?_
              refine z_lmul 89 dX4_findFirst_89 ?_
              refine z_lload 90 dX4_findFirst_90 rfl ?_
              refine z_lsub 92 dX4_findFirst_92 ?_
              refine z_cV (zat_V3 93 dX4_findFirst_93 lk_X4_56 zy_59 rfl rfl ⟨Nat.le_of_ble_eq_true rfl, Nat.le_of_ble_eq_true rfl⟩ (Nat.le_of_ble_eq_true rfl)) (tX3_setWeight E x36 x43 (((25937424601 : Int64) * x55.toInt64) - x54) M44) (fun M56 => ?_)
              exact zk_exitw (L' := [some (.ref 58), some (.long x42), none, some (.int x36), some (.int x43), none, none]) (zLe_s (zLe_s (zLe_n (zLe_s (zLe_s (zLe_n (zLe_n zLe_nl))))))) (fun h => h)
def fX4_countFirst (M : zM) : Option Int32 :=
  zlp (α := Int32 × Int32) (fun rec17 => (fun (u23 : Int32 × Int32) => match u23 with | (x15, x16) => if (10 : Int32) ≤ x16 then (some x15) else (grd (zix x16 10) (lt (if (M.1 66 (zn x16)) = (-4 : Int32) then (false) else (true)) (fun (b20 : Bool) => lt ((x15 + (zb b20))) (fun (x21 : Int32) => rec17 (x21, (x16 + (1 : Int32))))))))) zFu ((0 : Int32), (0 : Int32))
set_option maxHeartbeats 4000000 in
set_option maxRecDepth 100000 in
theorem tX4_countFirst (E : zE)  (M : zM) : zFi E mX4_countFirst [.ref 58] zY0 M (fX4_countFirst M) := by
  refine zF_of (L := [some (.ref 58), none, none]) plX4 (Nat.le_of_ble_eq_true rfl) rfl (fun post => ?_)
  unfold fX4_countFirst
  refine z_iconst 0 dX4_countFirst_0 zci_0 ?_
  refine z_istore_n 1 (L' := [some (.ref 58), some (.int (0 : Int32)), none]) dX4_countFirst_1 (by decide) rfl ?_
  refine z_iconst 2 dX4_countFirst_2 zci_0 ?_
  refine z_istore_n 3 (L' := [some (.ref 58), some (.int (0 : Int32)), some (.int (0 : Int32))]) dX4_countFirst_3 (by decide) rfl ?_
  refine zk_weak (L' := [some (.ref 58), some (.int (0 : Int32)), some (.int (0 : Int32))]) (zLe_s (zLe_s (zLe_s zLe_nl))) (zk_lp (α := Int32 × Int32) 4 (fun (u18 : Int32 × Int32) => match u18 with | (x15, x16) => [some (.ref 58), some (.int x15), some (.int x16)]) (fun (u19 : Int32 × Int32) => match u19 with | (x15, x16) => (zY0, M)) ?_ zFu ((0 : Int32), (0 : Int32)))
  intro rec17 hrec17
  intro u24
  obtain ⟨x15, x16⟩ := u24
  try dsimp only
  refine z_iload_n 4 dX4_countFirst_4 rfl ?_
  refine z_bipush 5 dX4_countFirst_5 zbp_10 ?_
  refine z_icge 7 35 dX4_countFirst_7 (by decide) (fun _ => ?_) (fun _ => ?_)
  · refine z_iload_n 35 dX4_countFirst_35 rfl ?_
    exact z_ireturn 36 dX4_countFirst_36 rfl rfl (fun h => h)
  · refine z_iload_n 10 dX4_countFirst_10 rfl ?_
    refine z_aload_n 11 dX4_countFirst_11 rfl ?_
    refine z_getR 12 (r := 66) dX4_countFirst_12 fl_X4_18 zy_58 rfl ?_
    refine z_iload_n 15 dX4_countFirst_15 rfl ?_
    refine z_iaload 16 dX4_countFirst_16 zy_66 ?_
    refine z_bipush 17 dX4_countFirst_17 zbp_m4 ?_
    refine zk_ltj (α := Bool) 27 (fun (b20 : Bool) => [some (.ref 58), none, some (.int x16)]) (fun (b20 : Bool) => [.int (zb b20), .int x15]) (fun (b20 : Bool) => (zY0, M)) ?_ ?_
    · intro b20
      refine z_iadd 27 dX4_countFirst_27 ?_
      refine zk_nmI (fun x21 => ?_)
      refine z_istore_n 28 (L' := [some (.ref 58), some (.int x21), some (.int x16)]) dX4_countFirst_28 (by decide) rfl ?_
      refine z_iinc 29 (v := (x16 + (1 : Int32))) (L' := [some (.ref 58), some (.int x21), some (.int (x16 + (1 : Int32)))]) dX4_countFirst_29 rfl (zinc zci_1 _) (by decide) rfl ?_
      refine z_goto 32 4 dX4_countFirst_32 (by decide) ?_
      exact zk_weak (L' := [some (.ref 58), some (.int x21), some (.int (x16 + (1 : Int32)))]) (zLe_s (zLe_s (zLe_s zLe_nl))) (hrec17 (x21, (x16 + (1 : Int32))))
    · intro k22 hk22
      refine z_icnev 19 26 dX4_countFirst_19 (by decide) ?_ ?_
      · refine z_iconst 22 dX4_countFirst_22 zci_0 ?_
        refine z_goto 23 27 dX4_countFirst_23 (by decide) ?_
        exact zk_weak (L' := [some (.ref 58), none, some (.int x16)]) (zLe_s (zLe_n (zLe_s zLe_nl))) (hk22 false)
      · refine z_iconst 26 dX4_countFirst_26 zci_1 ?_
        exact zk_weak (L' := [some (.ref 58), none, some (.int x16)]) (zLe_s (zLe_n (zLe_s zLe_nl))) (hk22 true)
def fX4_isFirstOnlyBest (M : zM) : Option (Bool × zM) :=
  sq (fX4_weighAll (32 : Int32) (-1 : Int32) M) (fun (M1 : zM) => sq (α := Int64 × zM) (zlp (α := Int64 × Int32 × zM) (β := Int64 × zM) (fun rec18 => (fun (u39 : Int64 × Int32 × zM) => match u39 with | (x15, x16, M17) => if (M17.1 55 0) ≤ x16 then (some (x15, M17)) else (grd (zix x16 10) (sq (α := Int64 × zM) (if (M17.1 66 (zn x16)) = (-4 : Int32) then (some (x15, M17)) else (grd (zix x16 10) (sq (fX5_gainOf x16 (M17.1 66 (zn x16)) M17) (fun (x31 : Int32) => lt ((x15 + x31.toInt64)) (fun (x32 : Int64) => grd (zix x16 10) (sq (fX4_weighPair x16 (M17.1 66 (zn x16)) (32 : Int32) (1 : Int32) M17) (fun (M33 : zM) => some (x32, M33)))))))) (fun (u34 : Int64 × zM) => match u34 with | (x26, M27) => rec18 (x26, (x16 + (1 : Int32)), M27)))))) zFu ((0 : Int64), (0 : Int32), M1)) (fun (u40 : Int64 × zM) => match u40 with | (x21, M22) => bi (fX4_settle M22) (fun (x37 : Int64) (M36 : zM) => sq (fX4_countFirst M36) (fun (x38 : Int32) => if x37 = (((32 : Int64) * x21) + x38.toInt64) then (some (true, M36)) else (some (false, M36))))))
set_option maxHeartbeats 4000000 in
set_option maxRecDepth 100000 in
theorem tX4_isFirstOnlyBest (E : zE)  (M : zM) : zFB E mX4_isFirstOnlyBest [.ref 58] zY0 M (fX4_isFirstOnlyBest M) := by
  refine zF_of (L := [some (.ref 58), none, none, none]) plX4 (Nat.le_of_ble_eq_true rfl) rfl (fun post => ?_)
  unfold fX4_isFirstOnlyBest
  refine z_lconst 0 dX4_isFirstOnlyBest_0 zlc_0 ?_
  refine z_lstore_n 1 (L' := [some (.ref 58), some (.long (0 : Int64)), none, none]) dX4_isFirstOnlyBest_1 (by decide) rfl ?_
  refine z_aload_n 2 dX4_isFirstOnlyBest_2 rfl ?_
  refine z_bipush 3 dX4_isFirstOnlyBest_3 zbp_32 ?_
  refine z_iconst 5 dX4_isFirstOnlyBest_5 zci_m1 ?_
  refine z_cV (zat_V2 6 dX4_isFirstOnlyBest_6 lk_X4_64 zy_58 rfl rfl ⟨Nat.le_of_ble_eq_true rfl, Nat.le_of_ble_eq_true rfl⟩ (Nat.le_of_ble_eq_true rfl)) (tX4_weighAll E (32 : Int32) (-1 : Int32) M) (fun M1 => ?_)
  refine z_iconst 9 dX4_isFirstOnlyBest_9 zci_0 ?_
  refine z_istore_n 10 (L' := [some (.ref 58), some (.long (0 : Int64)), none, some (.int (0 : Int32))]) dX4_isFirstOnlyBest_10 (by decide) rfl ?_
  refine zk_sqj (α := Int64 × zM) 71 (fun (u41 : Int64 × zM) => match u41 with | (x21, M22) => [some (.ref 58), some (.long x21), none, none]) (fun (u42 : Int64 × zM) => match u42 with | (x21, M22) => []) (fun (u43 : Int64 × zM) => match u43 with | (x21, M22) => (zY0, M22)) ?_ ?_
  · intro u44
    obtain ⟨x21, M22⟩ := u44
    try dsimp only
    refine z_aload_n 71 dX4_isFirstOnlyBest_71 rfl ?_
    refine z_cJ (zat_V0 72 dX4_isFirstOnlyBest_72 lk_X4_68 zy_58 rfl rfl ⟨Nat.le_of_ble_eq_true rfl, Nat.le_of_ble_eq_true rfl⟩ (Nat.le_of_ble_eq_true rfl)) (tX4_settle E M22) (fun x37 M36 => ?_)
    refine z_ldc2 75 dX4_isFirstOnlyBest_75 cw_X4_85 ?_
    refine z_lload_n 78 dX4_isFirstOnlyBest_78 rfl ?_
    refine z_lmul 79 dX4_isFirstOnlyBest_79 ?_
    refine z_aload_n 80 dX4_isFirstOnlyBest_80 rfl ?_
    refine z_ci (zat_V0 81 dX4_isFirstOnlyBest_81 lk_X4_98 zy_58 rfl rfl ⟨Nat.le_of_ble_eq_true rfl, Nat.le_of_ble_eq_true rfl⟩ (Nat.le_of_ble_eq_true rfl)) (tX4_countFirst E M36) (fun x38 => ?_)
    refine z_i2l 84 dX4_isFirstOnlyBest_84 ?_
    refine z_ladd 85 dX4_isFirstOnlyBest_85 ?_
    refine z_lcmp 86 dX4_isFirstOnlyBest_86 ?_
    refine z_lcne 87 94 dX4_isFirstOnlyBest_87 (by decide) (fun _ => ?_) (fun _ => ?_)
    · refine z_iconst 90 dX4_isFirstOnlyBest_90 zci_1 ?_
      refine z_goto 91 95 dX4_isFirstOnlyBest_91 (by decide) ?_
      exact z_ireturn 95 (v := zb true) dX4_isFirstOnlyBest_95 rfl (zput_b true).1 (fun h => h)
    · refine z_iconst 94 dX4_isFirstOnlyBest_94 zci_0 ?_
      exact z_ireturn 95 (v := zb false) dX4_isFirstOnlyBest_95 rfl (zput_b false).1 (fun h => h)
  · refine zk_weak (L' := [some (.ref 58), some (.long (0 : Int64)), none, some (.int (0 : Int32))]) (zLe_s (zLe_s (zLe_n (zLe_s zLe_nl)))) (zk_lp (α := Int64 × Int32 × zM) 11 (fun (u19 : Int64 × Int32 × zM) => match u19 with | (x15, x16, M17) => [some (.ref 58), some (.long x15), none, some (.int x16)]) (fun (u20 : Int64 × Int32 × zM) => match u20 with | (x15, x16, M17) => (zY0, M17)) ?_ zFu ((0 : Int64), (0 : Int32), M1))
    intro rec18 hrec18
    intro u45
    obtain ⟨x15, x16, M17⟩ := u45
    try dsimp only
    refine z_iload_n 11 dX4_isFirstOnlyBest_11 rfl ?_
    refine z_aload_n 12 dX4_isFirstOnlyBest_12 rfl ?_
    refine z_getR 13 (r := 55) dX4_isFirstOnlyBest_13 fl_X4_22 zy_58 rfl ?_
    refine z_getI 16 dX4_isFirstOnlyBest_16 fl_X4_35 zy_55 rfl ?_
    refine z_icge 19 71 dX4_isFirstOnlyBest_19 (by decide) (fun _ => ?_) (fun _ => ?_)
    · exact zk_exitw (L' := [some (.ref 58), some (.long x15), none, none]) (zLe_s (zLe_s (zLe_n (zLe_n zLe_nl)))) (fun h => h)
    · refine z_aload_n 22 dX4_isFirstOnlyBest_22 rfl ?_
      refine z_getR 23 (r := 66) dX4_isFirstOnlyBest_23 fl_X4_18 zy_58 rfl ?_
      refine z_iload_n 26 dX4_isFirstOnlyBest_26 rfl ?_
      refine z_iaload 27 dX4_isFirstOnlyBest_27 zy_66 ?_
      refine z_bipush 28 dX4_isFirstOnlyBest_28 zbp_m4 ?_
      refine zk_sqj (α := Int64 × zM) 65 (fun (u28 : Int64 × zM) => match u28 with | (x26, M27) => [some (.ref 58), some (.long x26), none, some (.int x16)]) (fun (u29 : Int64 × zM) => match u29 with | (x26, M27) => []) (fun (u30 : Int64 × zM) => match u30 with | (x26, M27) => (zY0, M27)) ?_ ?_
      · intro u35
        obtain ⟨x26, M27⟩ := u35
        try dsimp only
        refine z_iinc 65 (v := (x16 + (1 : Int32))) (L' := [some (.ref 58), some (.long x26), none, some (.int (x16 + (1 : Int32)))]) dX4_isFirstOnlyBest_65 rfl (zinc zci_1 _) (by decide) rfl ?_
        refine z_goto 68 11 dX4_isFirstOnlyBest_68 (by decide) ?_
        exact zk_weak (L' := [some (.ref 58), some (.long x26), none, some (.int (x16 + (1 : Int32)))]) (zLe_s (zLe_s (zLe_n (zLe_s zLe_nl)))) (hrec18 (x26, (x16 + (1 : Int32)), M27))
      · refine z_iceq 30 65 dX4_isFirstOnlyBest_30 (by decide) (fun _ => ?_) (fun _ => ?_)
        · exact zk_exitw (L' := [some (.ref 58), some (.long x15), none, some (.int x16)]) (zLe_s (zLe_s (zLe_n (zLe_s zLe_nl)))) (fun h => h)
        · refine z_lload_n 33 dX4_isFirstOnlyBest_33 rfl ?_
          refine z_aload_n 34 dX4_isFirstOnlyBest_34 rfl ?_
          refine z_getR 35 (r := 55) dX4_isFirstOnlyBest_35 fl_X4_22 zy_58 rfl ?_
          refine z_iload_n 38 dX4_isFirstOnlyBest_38 rfl ?_
          refine z_aload_n 39 dX4_isFirstOnlyBest_39 rfl ?_
          refine z_getR 40 (r := 66) dX4_isFirstOnlyBest_40 fl_X4_18 zy_58 rfl ?_
          refine z_iload_n 43 dX4_isFirstOnlyBest_43 rfl ?_
          refine z_iaload 44 dX4_isFirstOnlyBest_44 zy_66 ?_
          refine z_ci (zat_V2 45 dX4_isFirstOnlyBest_45 lk_X4_52 zy_55 rfl rfl ⟨Nat.le_of_ble_eq_true rfl, Nat.le_of_ble_eq_true rfl⟩ (Nat.le_of_ble_eq_true rfl)) (tX5_gainOf E x16 (M17.1 66 (zn x16)) M17) (fun x31 => ?_)
          refine z_i2l 48 dX4_isFirstOnlyBest_48 ?_
          refine z_ladd 49 dX4_isFirstOnlyBest_49 ?_
          refine zk_nmL (fun x32 => ?_)
          refine z_lstore_n 50 (L' := [some (.ref 58), some (.long x32), none, some (.int x16)]) dX4_isFirstOnlyBest_50 (by decide) rfl ?_
          refine z_aload_n 51 dX4_isFirstOnlyBest_51 rfl ?_
          refine z_iload_n 52 dX4_isFirstOnlyBest_52 rfl ?_
          refine z_aload_n 53 dX4_isFirstOnlyBest_53 rfl ?_
          refine z_getR 54 (r := 66) dX4_isFirstOnlyBest_54 fl_X4_18 zy_58 rfl ?_
          refine z_iload_n 57 dX4_isFirstOnlyBest_57 rfl ?_
          refine z_iaload 58 dX4_isFirstOnlyBest_58 zy_66 ?_
          refine z_bipush 59 dX4_isFirstOnlyBest_59 zbp_32 ?_
          refine z_iconst 61 dX4_isFirstOnlyBest_61 zci_1 ?_
          refine z_cV (zat_V4 62 dX4_isFirstOnlyBest_62 lk_X4_44 zy_58 rfl rfl ⟨Nat.le_of_ble_eq_true rfl, Nat.le_of_ble_eq_true rfl⟩ (Nat.le_of_ble_eq_true rfl)) (tX4_weighPair E x16 (M17.1 66 (zn x16)) (32 : Int32) (1 : Int32) M17) (fun M33 => ?_)
          exact zk_exitw (L' := [some (.ref 58), some (.long x32), none, some (.int x16)]) (zLe_s (zLe_s (zLe_n (zLe_s zLe_nl)))) (fun h => h)
def fX6_pointsOf (a0 : Nat) (p1 : Int32) (p2 : Int32) (M : zM) : Option Int32 :=
  jn (α := Unit) (fun (_ : Unit) => grd (zix (5 : Int32) 10) (some (M.1 (a0 + 1) (zn (5 : Int32))))) (fun k12 => if p1 = 0 then (k12 ()) else (if p2 = 0 then (k12 ()) else (lt (fX2_isDoubtful p1) (fun (b13 : Bool) => sq (α := Bool) (jn (α := Unit) (fun (_ : Unit) => some true) (fun k22 => if b13 = false then (lt (fX2_isDoubtful p2) (fun (b23 : Bool) => if b23 = false then (some false) else (k22 ()))) else (k22 ()))) (fun (b17 : Bool) => lt (fX2_letterOf p1) (fun (x18 : Int32) => lt (fX2_letterOf p2) (fun (x19 : Int32) => if x18 = x19 then (if b17 = false then (some (0 : Int32)) else (some (1 : Int32))) else (grd (zix ((x18 * (8 : Int32)) + x19) 64) (lt ((M.1 (a0 + 2) (zn ((x18 * (8 : Int32)) + x19)))) (fun (x20 : Int32) => if b17 = false then (some x20) else (if x20 = (-4 : Int32) then (grd (zix (4 : Int32) 10) (some (M.1 (a0 + 1) (zn (4 : Int32))))) else (grd (zix (4 : Int32) 10) (some (zmn x20 (M.1 (a0 + 1) (zn (4 : Int32)))))))))))))))))
set_option maxHeartbeats 4000000 in
set_option maxRecDepth 100000 in
theorem tX6_pointsOf (E : zE) (Y : zY) (a0 : Nat) (ha0 : zsX6 Y a0) (p1 : Int32) (p2 : Int32) (M : zM) : zFi E mX6_pointsOf [.ref a0, .int p1, .int p2] Y M (fX6_pointsOf a0 p1 p2 M) := by
  refine zF_of (L := [some (.ref a0), some (.int p1), some (.int p2), none, none, none, none]) plX6 (Nat.le_of_ble_eq_true rfl) rfl (fun post => ?_)
  unfold fX6_pointsOf
  refine z_iload_n 0 dX6_pointsOf_0 rfl ?_
  refine zk_jn (α := Unit) 8 (fun (_ : Unit) => [some (.ref a0), none, none, none, none, none, none]) (fun (_ : Unit) => []) (fun (_ : Unit) => (Y, M)) ?_ ?_
  · intro _
    refine z_aload_n 8 dX6_pointsOf_8 rfl ?_
    refine z_getR 9 (r := (a0 + 1)) dX6_pointsOf_9 fl_X6_9 ha0.1 rfl ?_
    refine z_iconst 12 dX6_pointsOf_12 zci_5 ?_
    refine z_iaload 13 dX6_pointsOf_13 ha0.2.1 ?_
    exact z_ireturn 14 dX6_pointsOf_14 rfl rfl (fun h => h)
  · intro k12 hk12
    refine z_ifeq 1 8 dX6_pointsOf_1 (by decide) (fun _ => ?_) (fun _ => ?_)
    · exact zk_weak (L' := [some (.ref a0), none, none, none, none, none, none]) (zLe_s (zLe_n (zLe_n (zLe_n (zLe_n (zLe_n (zLe_n zLe_nl))))))) (hk12 ())
    · refine z_iload_n 4 dX6_pointsOf_4 rfl ?_
      refine z_ifne 5 15 dX6_pointsOf_5 (by decide) (fun _ => ?_) (fun _ => ?_)
      · exact zk_weak (L' := [some (.ref a0), none, none, none, none, none, none]) (zLe_s (zLe_n (zLe_n (zLe_n (zLe_n (zLe_n (zLe_n zLe_nl))))))) (hk12 ())
      · refine z_iload_n 15 dX6_pointsOf_15 rfl ?_
        refine z_ctb (zat_S1 16 dX6_pointsOf_16 lk_X6_36 ⟨Nat.le_of_ble_eq_true rfl, Nat.le_of_ble_eq_true rfl⟩ (Nat.le_of_ble_eq_true rfl)) (tX2_isDoubtful E Y p1 M) (fun b13 => ?_)
        refine zk_sqj (α := Bool) 34 (fun (b17 : Bool) => [some (.ref a0), some (.int p1), some (.int p2), none, none, none, none]) (fun (b17 : Bool) => [.int (zb b17)]) (fun (b17 : Bool) => (Y, M)) ?_ ?_
        · intro b17
          refine z_istore_n 34 (L' := [some (.ref a0), some (.int p1), some (.int p2), some (.int (zb b17)), none, none, none]) dX6_pointsOf_34 (by decide) rfl ?_
          refine z_iload_n 35 dX6_pointsOf_35 rfl ?_
          refine z_cti (zat_S1 36 dX6_pointsOf_36 lk_X6_42 ⟨Nat.le_of_ble_eq_true rfl, Nat.le_of_ble_eq_true rfl⟩ (Nat.le_of_ble_eq_true rfl)) (tX2_letterOf E Y p1 M) (fun x18 => ?_)
          refine z_istore 39 (L' := [some (.ref a0), some (.int p1), some (.int p2), some (.int (zb b17)), some (.int x18), none, none]) dX6_pointsOf_39 (by decide) rfl ?_
          refine z_iload_n 41 dX6_pointsOf_41 rfl ?_
          refine z_cti (zat_S1 42 dX6_pointsOf_42 lk_X6_42 ⟨Nat.le_of_ble_eq_true rfl, Nat.le_of_ble_eq_true rfl⟩ (Nat.le_of_ble_eq_true rfl)) (tX2_letterOf E Y p2 M) (fun x19 => ?_)
          refine z_istore 45 (L' := [some (.ref a0), some (.int p1), some (.int p2), some (.int (zb b17)), some (.int x18), some (.int x19), none]) dX6_pointsOf_45 (by decide) rfl ?_
          refine z_iload 47 dX6_pointsOf_47 rfl ?_
          refine z_iload 49 dX6_pointsOf_49 rfl ?_
          refine z_icne 51 64 dX6_pointsOf_51 (by decide) (fun _ => ?_) (fun _ => ?_)
          · refine z_iload_n 54 dX6_pointsOf_54 rfl ?_
            refine z_ifeqb 55 62 dX6_pointsOf_55 (by decide) (fun _ => ?_) (fun _ => ?_)
            · refine z_iconst 62 dX6_pointsOf_62 zci_0 ?_
              exact z_ireturn 63 dX6_pointsOf_63 rfl rfl (fun h => h)
            · refine z_iconst 58 dX6_pointsOf_58 zci_1 ?_
              refine z_goto 59 63 dX6_pointsOf_59 (by decide) ?_
              exact z_ireturn 63 dX6_pointsOf_63 rfl rfl (fun h => h)
          · refine z_aload_n 64 dX6_pointsOf_64 rfl ?_
            refine z_getR 65 (r := (a0 + 2)) dX6_pointsOf_65 fl_X6_15 ha0.1 rfl ?_
            refine z_iload 68 dX6_pointsOf_68 rfl ?_
            refine z_bipush 70 dX6_pointsOf_70 zbp_8 ?_
            refine z_imul 72 dX6_pointsOf_72 ?_
            refine z_iload 73 dX6_pointsOf_73 rfl ?_
            refine z_iadd 75 dX6_pointsOf_75 ?_
            refine z_iaload 76 dX6_pointsOf_76 ha0.2.2 ?_
            refine zk_nmI (fun x20 => ?_)
            refine z_istore 77 (L' := [some (.ref a0), some (.int p1), some (.int p2), some (.int (zb b17)), some (.int x18), some (.int x19), some (.int x20)]) dX6_pointsOf_77 (by decide) rfl ?_
            refine z_iload_n 79 dX6_pointsOf_79 rfl ?_
            refine z_ifneb 80 86 dX6_pointsOf_80 (by decide) (fun _ => ?_) (fun _ => ?_)
            · refine z_iload 83 dX6_pointsOf_83 rfl ?_
              exact z_ireturn 85 dX6_pointsOf_85 rfl rfl (fun h => h)
            · refine z_iload 86 dX6_pointsOf_86 rfl ?_
              refine z_bipush 88 dX6_pointsOf_88 zbp_m4 ?_
              refine z_icne 90 102 dX6_pointsOf_90 (by decide) (fun _ => ?_) (fun _ => ?_)
              · refine z_aload_n 93 dX6_pointsOf_93 rfl ?_
                refine z_getR 94 (r := (a0 + 1)) dX6_pointsOf_94 fl_X6_9 ha0.1 rfl ?_
                refine z_iconst 97 dX6_pointsOf_97 zci_4 ?_
                refine z_iaload 98 dX6_pointsOf_98 ha0.2.1 ?_
                refine z_goto 99 113 dX6_pointsOf_99 (by decide) ?_
                exact z_ireturn 113 dX6_pointsOf_113 rfl rfl (fun h => h)
              · refine z_iload 102 dX6_pointsOf_102 rfl ?_
                refine z_aload_n 104 dX6_pointsOf_104 rfl ?_
                refine z_getR 105 (r := (a0 + 1)) dX6_pointsOf_105 fl_X6_9 ha0.1 rfl ?_
                refine z_iconst 108 dX6_pointsOf_108 zci_4 ?_
                refine z_iaload 109 dX6_pointsOf_109 ha0.2.1 ?_
                refine z_mmin 110 dX6_pointsOf_110 ml_X6_46 ml_mmin.1 ml_mmin.2.1 ml_mmin.2.2 ⟨Nat.le_of_ble_eq_true rfl, Nat.le_of_ble_eq_true rfl⟩ ?_
                exact z_ireturn 113 dX6_pointsOf_113 rfl rfl (fun h => h)
        · refine zk_jn (α := Unit) 29 (fun (_ : Unit) => [some (.ref a0), some (.int p1), some (.int p2), none, none, none, none]) (fun (_ : Unit) => []) (fun (_ : Unit) => (Y, M)) ?_ ?_
          · intro _
            refine z_iconst 29 dX6_pointsOf_29 zci_1 ?_
            refine z_goto 30 34 dX6_pointsOf_30 (by decide) ?_
            exact zk_exitw (L' := [some (.ref a0), some (.int p1), some (.int p2), none, none, none, none]) (zLe_s (zLe_s (zLe_s (zLe_n (zLe_n (zLe_n (zLe_n zLe_nl))))))) (fun h => h)
          · intro k22 hk22
            refine z_ifneb 19 29 dX6_pointsOf_19 (by decide) (fun _ => ?_) (fun _ => ?_)
            · refine z_iload_n 22 dX6_pointsOf_22 rfl ?_
              refine z_ctb (zat_S1 23 dX6_pointsOf_23 lk_X6_36 ⟨Nat.le_of_ble_eq_true rfl, Nat.le_of_ble_eq_true rfl⟩ (Nat.le_of_ble_eq_true rfl)) (tX2_isDoubtful E Y p2 M) (fun b23 => ?_)
              refine z_ifeqb 26 33 dX6_pointsOf_26 (by decide) (fun _ => ?_) (fun _ => ?_)
              · refine z_iconst 33 dX6_pointsOf_33 zci_0 ?_
                exact zk_exitw (L' := [some (.ref a0), some (.int p1), some (.int p2), none, none, none, none]) (zLe_s (zLe_s (zLe_s (zLe_n (zLe_n (zLe_n (zLe_n zLe_nl))))))) (fun h => h)
              · exact zk_weak (L' := [some (.ref a0), some (.int p1), some (.int p2), none, none, none, none]) (zLe_s (zLe_s (zLe_s (zLe_n (zLe_n (zLe_n (zLe_n zLe_nl))))))) (hk22 ())
            · exact zk_weak (L' := [some (.ref a0), some (.int p1), some (.int p2), none, none, none, none]) (zLe_s (zLe_s (zLe_s (zLe_n (zLe_n (zLe_n (zLe_n zLe_nl))))))) (hk22 ())
def fX5_pointsBut (a1 : Nat) (p2 : Int32) (p3 : Int32) (p4 : Int32) (M : zM) : Option Int32 :=
  grd (zix p2 10) (grd (zix p3 10) (lt (fX2_areUnlikeColours (M.1 (a1 + 3) (zn p2)) (M.1 (a1 + 7) (zn p3))) (fun (b1 : Bool) => sq (α := Int32) (if b1 = false then (some (0 : Int32)) else (grd (zix (6 : Int32) 10) (some (M.1 (a1 + 10) (zn (6 : Int32)))))) (fun (x2 : Int32) => zlp (α := Int32 × Int32) (fun rec15 => (fun (u24 : Int32 × Int32) => match u24 with | (x13, x14) => if (4 : Int32) ≤ x14 then (some x13) else (grd (zix ((p2 * (4 : Int32)) + x14) 40) (lt ((M.1 (a1 + 4) (zn ((p2 * (4 : Int32)) + x14)))) (fun (x18 : Int32) => grd (zix ((p3 * (4 : Int32)) + x14) 40) (lt ((M.1 (a1 + 8) (zn ((p3 * (4 : Int32)) + x14)))) (fun (x19 : Int32) => sq (α := Int32) (if ((p4 >>> (x14 &&& 31)) &&& (1 : Int32)) = 0 then (some (0 : Int32)) else (sq (fX6_pointsOf (a1 + 9) x18 x19 M) (fun (x23 : Int32) => some x23))) (fun (x21 : Int32) => if x21 = (-4 : Int32) then (some (-4 : Int32)) else (lt ((x13 + x21)) (fun (x22 : Int32) => rec15 (x22, (x14 + (1 : Int32))))))))))))) zFu (x2, (0 : Int32))))))
set_option maxHeartbeats 4000000 in
set_option maxRecDepth 100000 in
theorem tX5_pointsBut (E : zE) (Y : zY) (a1 : Nat) (ha1 : zsX7 Y a1) (p2 : Int32) (p3 : Int32) (p4 : Int32) (M : zM) : zFi E mX5_pointsBut [.ref a1, .int p2, .int p3, .int p4] Y M (fX5_pointsBut a1 p2 p3 p4 M) := by
  refine zF_of (L := [some (.ref a1), some (.int p2), some (.int p3), some (.int p4), none, none, none, none, none, none]) plX5 (Nat.le_of_ble_eq_true rfl) rfl (fun post => ?_)
  unfold fX5_pointsBut
  refine z_aload_n 0 dX5_pointsBut_0 rfl ?_
  refine z_getR 1 (r := (a1 + 1)) dX5_pointsBut_1 fl_X5_18 ha1.1 rfl ?_
  refine z_getR 4 (r := (a1 + 3)) dX5_pointsBut_4 fl_X5_76 ha1.2.1.1 rfl ?_
  refine z_iload_n 7 dX5_pointsBut_7 rfl ?_
  refine z_iaload 8 dX5_pointsBut_8 ha1.2.1.2.2.1 ?_
  refine z_aload_n 9 dX5_pointsBut_9 rfl ?_
  refine z_getR 10 (r := (a1 + 5)) dX5_pointsBut_10 fl_X5_33 ha1.1 rfl ?_
  refine z_getR 13 (r := (a1 + 7)) dX5_pointsBut_13 fl_X5_76 ha1.2.2.1.1 rfl ?_
  refine z_iload_n 16 dX5_pointsBut_16 rfl ?_
  refine z_iaload 17 dX5_pointsBut_17 ha1.2.2.1.2.2.1 ?_
  refine z_ctb (zat_S2 18 dX5_pointsBut_18 lk_X5_79 ⟨Nat.le_of_ble_eq_true rfl, Nat.le_of_ble_eq_true rfl⟩ (Nat.le_of_ble_eq_true rfl)) (tX2_areUnlikeColours E Y (M.1 (a1 + 3) (zn p2)) (M.1 (a1 + 7) (zn p3)) M) (fun b1 => ?_)
  refine z_istore 21 (L' := [some (.ref a1), some (.int p2), some (.int p3), some (.int p4), some (.int (zb b1)), none, none, none, none, none]) dX5_pointsBut_21 (by decide) rfl ?_
  refine z_iload 23 dX5_pointsBut_23 rfl ?_
  refine zk_sqj (α := Int32) 42 (fun (x2 : Int32) => [some (.ref a1), some (.int p2), some (.int p3), some (.int p4), none, none, none, none, none, none]) (fun (x2 : Int32) => [.int x2]) (fun (x2 : Int32) => (Y, M)) ?_ ?_
  · intro x2
    refine z_istore 42 (L' := [some (.ref a1), some (.int p2), some (.int p3), some (.int p4), none, some (.int x2), none, none, none, none]) dX5_pointsBut_42 (by decide) rfl ?_
    refine z_iconst 44 dX5_pointsBut_44 zci_0 ?_
    refine z_istore 45 (L' := [some (.ref a1), some (.int p2), some (.int p3), some (.int p4), none, some (.int x2), some (.int (0 : Int32)), none, none, none]) dX5_pointsBut_45 (by decide) rfl ?_
    refine zk_weak (L' := [some (.ref a1), some (.int p2), some (.int p3), some (.int p4), none, some (.int x2), some (.int (0 : Int32)), none, none, none]) (zLe_s (zLe_s (zLe_s (zLe_s (zLe_n (zLe_s (zLe_s (zLe_n (zLe_n (zLe_n zLe_nl)))))))))) (zk_lp (α := Int32 × Int32) 47 (fun (u16 : Int32 × Int32) => match u16 with | (x13, x14) => [some (.ref a1), some (.int p2), some (.int p3), some (.int p4), none, some (.int x13), some (.int x14), none, none, none]) (fun (u17 : Int32 × Int32) => match u17 with | (x13, x14) => (Y, M)) ?_ zFu (x2, (0 : Int32)))
    intro rec15 hrec15
    intro u25
    obtain ⟨x13, x14⟩ := u25
    try dsimp only
    refine z_iload 47 dX5_pointsBut_47 rfl ?_
    refine z_iconst 49 dX5_pointsBut_49 zci_4 ?_
    refine z_icge 50 134 dX5_pointsBut_50 (by decide) (fun _ => ?_) (fun _ => ?_)
    · refine z_iload 134 dX5_pointsBut_134 rfl ?_
      exact z_ireturn 136 dX5_pointsBut_136 rfl rfl (fun h => h)
    · refine z_aload_n 53 dX5_pointsBut_53 rfl ?_
      refine z_getR 54 (r := (a1 + 1)) dX5_pointsBut_54 fl_X5_18 ha1.1 rfl ?_
      refine z_getR 57 (r := (a1 + 4)) dX5_pointsBut_57 fl_X5_83 ha1.2.1.1 rfl ?_
      refine z_iload_n 60 dX5_pointsBut_60 rfl ?_
      refine z_iconst 61 dX5_pointsBut_61 zci_4 ?_
      refine z_imul 62 dX5_pointsBut_62 ?_
      refine z_iload 63 dX5_pointsBut_63 rfl ?_
      refine z_iadd 65 dX5_pointsBut_65 ?_
      refine z_iaload 66 dX5_pointsBut_66 ha1.2.1.2.2.2 ?_
      refine zk_nmI (fun x18 => ?_)
      refine z_istore 67 (L' := [some (.ref a1), some (.int p2), some (.int p3), some (.int p4), none, some (.int x13), some (.int x14), some (.int x18), none, none]) dX5_pointsBut_67 (by decide) rfl ?_
      refine z_aload_n 69 dX5_pointsBut_69 rfl ?_
      refine z_getR 70 (r := (a1 + 5)) dX5_pointsBut_70 fl_X5_33 ha1.1 rfl ?_
      refine z_getR 73 (r := (a1 + 8)) dX5_pointsBut_73 fl_X5_83 ha1.2.2.1.1 rfl ?_
      refine z_iload_n 76 dX5_pointsBut_76 rfl ?_
      refine z_iconst 77 dX5_pointsBut_77 zci_4 ?_
      refine z_imul 78 dX5_pointsBut_78 ?_
      refine z_iload 79 dX5_pointsBut_79 rfl ?_
      refine z_iadd 81 dX5_pointsBut_81 ?_
      refine z_iaload 82 dX5_pointsBut_82 ha1.2.2.1.2.2.2 ?_
      refine zk_nmI (fun x19 => ?_)
      refine z_istore 83 (L' := [some (.ref a1), some (.int p2), some (.int p3), some (.int p4), none, some (.int x13), some (.int x14), some (.int x18), some (.int x19), none]) dX5_pointsBut_83 (by decide) rfl ?_
      refine z_iload_n 85 dX5_pointsBut_85 rfl ?_
      refine z_iload 86 dX5_pointsBut_86 rfl ?_
      refine z_ishr 88 dX5_pointsBut_88 ?_
      refine z_iconst 89 dX5_pointsBut_89 zci_1 ?_
      refine z_iand 90 dX5_pointsBut_90 ?_
      refine zk_sqj (α := Int32) 109 (fun (x21 : Int32) => [some (.ref a1), some (.int p2), some (.int p3), some (.int p4), none, some (.int x13), some (.int x14), none, none, none]) (fun (x21 : Int32) => [.int x21]) (fun (x21 : Int32) => (Y, M)) ?_ ?_
      · intro x21
        refine z_istore 109 (L' := [some (.ref a1), some (.int p2), some (.int p3), some (.int p4), none, some (.int x13), some (.int x14), none, none, some (.int x21)]) dX5_pointsBut_109 (by decide) rfl ?_
        refine z_iload 111 dX5_pointsBut_111 rfl ?_
        refine z_bipush 113 dX5_pointsBut_113 zbp_m4 ?_
        refine z_icne 115 121 dX5_pointsBut_115 (by decide) (fun _ => ?_) (fun _ => ?_)
        · refine z_bipush 118 dX5_pointsBut_118 zbp_m4 ?_
          exact z_ireturn 120 dX5_pointsBut_120 rfl rfl (fun h => h)
        · refine z_iload 121 dX5_pointsBut_121 rfl ?_
          refine z_iload 123 dX5_pointsBut_123 rfl ?_
          refine z_iadd 125 dX5_pointsBut_125 ?_
          refine zk_nmI (fun x22 => ?_)
          refine z_istore 126 (L' := [some (.ref a1), some (.int p2), some (.int p3), some (.int p4), none, some (.int x22), some (.int x14), none, none, some (.int x21)]) dX5_pointsBut_126 (by decide) rfl ?_
          refine z_iinc 128 (v := (x14 + (1 : Int32))) (L' := [some (.ref a1), some (.int p2), some (.int p3), some (.int p4), none, some (.int x22), some (.int (x14 + (1 : Int32))), none, none, some (.int x21)]) dX5_pointsBut_128 rfl (zinc zci_1 _) (by decide) rfl ?_
          refine z_goto 131 47 dX5_pointsBut_131 (by decide) ?_
          exact zk_weak (L' := [some (.ref a1), some (.int p2), some (.int p3), some (.int p4), none, some (.int x22), some (.int (x14 + (1 : Int32))), none, none, none]) (zLe_s (zLe_s (zLe_s (zLe_s (zLe_n (zLe_s (zLe_s (zLe_n (zLe_n (zLe_n zLe_nl)))))))))) (hrec15 (x22, (x14 + (1 : Int32))))
      · refine z_ifne 91 98 dX5_pointsBut_91 (by decide) (fun _ => ?_) (fun _ => ?_)
        · refine z_iconst 94 dX5_pointsBut_94 zci_0 ?_
          refine z_goto 95 109 dX5_pointsBut_95 (by decide) ?_
          exact zk_exitw (L' := [some (.ref a1), some (.int p2), some (.int p3), some (.int p4), none, some (.int x13), some (.int x14), none, none, none]) (zLe_s (zLe_s (zLe_s (zLe_s (zLe_n (zLe_s (zLe_s (zLe_n (zLe_n (zLe_n zLe_nl)))))))))) (fun h => h)
        · refine z_aload_n 98 dX5_pointsBut_98 rfl ?_
          refine z_getR 99 (r := (a1 + 9)) dX5_pointsBut_99 fl_X5_39 ha1.1 rfl ?_
          refine z_iload 102 dX5_pointsBut_102 rfl ?_
          refine z_iload 104 dX5_pointsBut_104 rfl ?_
          refine z_ci (zat_V2 106 dX5_pointsBut_106 lk_X5_86 ha1.2.2.2.1.1 rfl rfl ⟨Nat.le_of_ble_eq_true rfl, Nat.le_of_ble_eq_true rfl⟩ (Nat.le_of_ble_eq_true rfl)) (tX6_pointsOf E Y (a1 + 9) ha1.2.2.2.1 x18 x19 M) (fun x23 => ?_)
          exact zk_exitw (L' := [some (.ref a1), some (.int p2), some (.int p3), some (.int p4), none, some (.int x13), some (.int x14), none, none, none]) (zLe_s (zLe_s (zLe_s (zLe_s (zLe_n (zLe_s (zLe_s (zLe_n (zLe_n (zLe_n zLe_nl)))))))))) (fun h => h)
  · refine z_ifeqb 25 41 dX5_pointsBut_25 (by decide) (fun _ => ?_) (fun _ => ?_)
    · refine z_iconst 41 dX5_pointsBut_41 zci_0 ?_
      exact zk_exitw (L' := [some (.ref a1), some (.int p2), some (.int p3), some (.int p4), none, none, none, none, none, none]) (zLe_s (zLe_s (zLe_s (zLe_s (zLe_n (zLe_n (zLe_n (zLe_n (zLe_n (zLe_n zLe_nl)))))))))) (fun h => h)
    · refine z_aload_n 28 dX5_pointsBut_28 rfl ?_
      refine z_getR 29 (r := (a1 + 9)) dX5_pointsBut_29 fl_X5_39 ha1.1 rfl ?_
      refine z_getR 32 (r := (a1 + 10)) dX5_pointsBut_32 fl_X5_43 ha1.2.2.2.1.1 rfl ?_
      refine z_bipush 35 dX5_pointsBut_35 zbp_6 ?_
      refine z_iaload 37 dX5_pointsBut_37 ha1.2.2.2.1.2.1 ?_
      refine z_goto 38 42 dX5_pointsBut_38 (by decide) ?_
      exact zk_exitw (L' := [some (.ref a1), some (.int p2), some (.int p3), some (.int p4), none, none, none, none, none, none]) (zLe_s (zLe_s (zLe_s (zLe_s (zLe_n (zLe_n (zLe_n (zLe_n (zLe_n (zLe_n zLe_nl)))))))))) (fun h => h)
def fX5_comparePlates (a1 : Nat) (p2 : Int32) (M : zM) : Option zM :=
  lt (zwI M 55 0 (M.1 (a1 + 1) 0)) (fun (M1 : zM) => lt (zwI M1 55 1 (M1.1 (a1 + 5) 0)) (fun (M2 : zM) => grd (zix (7 : Int32) 10) (lt ((M2.1 (a1 + 10) (zn (7 : Int32)))) (fun (x3 : Int32) => grd (zix (8 : Int32) 10) (lt ((M2.1 (a1 + 10) (zn (8 : Int32)))) (fun (x4 : Int32) => lt (zwI M2 55 2 ((x3 * (M2.1 55 0)) + (x4 * (M2.1 55 1)))) (fun (M5 : zM) => lt (zwI M5 55 3 (x3 + x4)) (fun (M6 : zM) => zlp (α := Int32 × zM) (fun rec30 => (fun (u43 : Int32 × zM) => match u43 with | (x28, M29) => if (M29.1 55 0) ≤ x28 then (some M29) else (sq (α := zM) (zlp (α := Int32 × zM) (β := zM) (fun rec35 => (fun (u41 : Int32 × zM) => match u41 with | (x33, M34) => if (M34.1 55 1) ≤ x33 then (some M34) else (sq (fX5_pointsBut a1 x28 x33 p2 M34) (fun (x39 : Int32) => grd (zix ((x28 * (10 : Int32)) + x33) 100) (lt (zwI M34 56 (zn ((x28 * (10 : Int32)) + x33)) x39) (fun (M40 : zM) => rec35 ((x33 + (1 : Int32)), M40))))))) zFu ((0 : Int32), M29)) (fun (M38 : zM) => rec30 ((x28 + (1 : Int32)), M38))))) zFu ((0 : Int32), M6)))))))))
set_option maxHeartbeats 4000000 in
set_option maxRecDepth 100000 in
theorem tX5_comparePlates (E : zE) (a1 : Nat) (ha1 : zsX7 zY0 a1) (p2 : Int32) (M : zM) : zFV E mX5_comparePlates [.ref 55, .ref a1, .int p2] zY0 M (fX5_comparePlates a1 p2 M) := by
  refine zF_of (L := [some (.ref 55), some (.ref a1), some (.int p2), none, none, none, none]) plX5 (Nat.le_of_ble_eq_true rfl) rfl (fun post => ?_)
  unfold fX5_comparePlates
  refine z_aload_n 0 dX5_comparePlates_0 rfl ?_
  refine z_aload_n 1 dX5_comparePlates_1 rfl ?_
  refine z_getR 2 (r := (a1 + 1)) dX5_comparePlates_2 fl_X5_18 ha1.1 rfl ?_
  refine z_getI 5 dX5_comparePlates_5 fl_X5_24 ha1.2.1.1 rfl ?_
  refine z_put 8 dX5_comparePlates_8 fp_X5_30 zy_55 rfl (zput_i _) ?_
  refine zk_nmM (fun M1 => ?_)
  refine z_aload_n 11 dX5_comparePlates_11 rfl ?_
  refine z_aload_n 12 dX5_comparePlates_12 rfl ?_
  refine z_getR 13 (r := (a1 + 5)) dX5_comparePlates_13 fl_X5_33 ha1.1 rfl ?_
  refine z_getI 16 dX5_comparePlates_16 fl_X5_24 ha1.2.2.1.1 rfl ?_
  refine z_put 19 dX5_comparePlates_19 fp_X5_36 zy_55 rfl (zput_i _) ?_
  refine zk_nmM (fun M2 => ?_)
  refine z_aload_n 22 dX5_comparePlates_22 rfl ?_
  refine z_getR 23 (r := (a1 + 9)) dX5_comparePlates_23 fl_X5_39 ha1.1 rfl ?_
  refine z_getR 26 (r := (a1 + 10)) dX5_comparePlates_26 fl_X5_43 ha1.2.2.2.1.1 rfl ?_
  refine z_bipush 29 dX5_comparePlates_29 zbp_7 ?_
  refine z_iaload 31 dX5_comparePlates_31 ha1.2.2.2.1.2.1 ?_
  refine zk_nmI (fun x3 => ?_)
  refine z_istore_n 32 (L' := [some (.ref 55), some (.ref a1), some (.int p2), some (.int x3), none, none, none]) dX5_comparePlates_32 (by decide) rfl ?_
  refine z_aload_n 33 dX5_comparePlates_33 rfl ?_
  refine z_getR 34 (r := (a1 + 9)) dX5_comparePlates_34 fl_X5_39 ha1.1 rfl ?_
  refine z_getR 37 (r := (a1 + 10)) dX5_comparePlates_37 fl_X5_43 ha1.2.2.2.1.1 rfl ?_
  refine z_bipush 40 dX5_comparePlates_40 zbp_8 ?_
  refine z_iaload 42 dX5_comparePlates_42 ha1.2.2.2.1.2.1 ?_
  refine zk_nmI (fun x4 => ?_)
  refine z_istore 43 (L' := [some (.ref 55), some (.ref a1), some (.int p2), some (.int x3), some (.int x4), none, none]) dX5_comparePlates_43 (by decide) rfl ?_
  refine z_aload_n 45 dX5_comparePlates_45 rfl ?_
  refine z_iload_n 46 dX5_comparePlates_46 rfl ?_
  refine z_aload_n 47 dX5_comparePlates_47 rfl ?_
  refine z_getI 48 dX5_comparePlates_48 fl_X5_30 zy_55 rfl ?_
  refine z_imul 51 dX5_comparePlates_51 ?_
  refine z_iload 52 dX5_comparePlates_52 rfl ?_
  refine z_aload_n 54 dX5_comparePlates_54 rfl ?_
  refine z_getI 55 dX5_comparePlates_55 fl_X5_36 zy_55 rfl ?_
  refine z_imul 58 dX5_comparePlates_58 ?_
  refine z_iadd 59 dX5_comparePlates_59 ?_
  refine z_put 60 dX5_comparePlates_60 fp_X5_48 zy_55 rfl (zput_i _) ?_
  refine zk_nmM (fun M5 => ?_)
  refine z_aload_n 63 dX5_comparePlates_63 rfl ?_
  refine z_iload_n 64 dX5_comparePlates_64 rfl ?_
  refine z_iload 65 dX5_comparePlates_65 rfl ?_
  refine z_iadd 67 dX5_comparePlates_67 ?_
  refine z_put 68 dX5_comparePlates_68 fp_X5_51 zy_55 rfl (zput_i _) ?_
  refine zk_nmM (fun M6 => ?_)
  refine z_iconst 71 dX5_comparePlates_71 zci_0 ?_
  refine z_istore 72 (L' := [some (.ref 55), some (.ref a1), some (.int p2), some (.int x3), some (.int x4), some (.int (0 : Int32)), none]) dX5_comparePlates_72 (by decide) rfl ?_
  refine zk_weak (L' := [some (.ref 55), some (.ref a1), some (.int p2), none, none, some (.int (0 : Int32)), none]) (zLe_s (zLe_s (zLe_s (zLe_n (zLe_n (zLe_s (zLe_n zLe_nl))))))) (zk_lp (α := Int32 × zM) 74 (fun (u31 : Int32 × zM) => match u31 with | (x28, M29) => [some (.ref 55), some (.ref a1), some (.int p2), none, none, some (.int x28), none]) (fun (u32 : Int32 × zM) => match u32 with | (x28, M29) => (zY0, M29)) ?_ zFu ((0 : Int32), M6))
  intro rec30 hrec30
  intro u44
  obtain ⟨x28, M29⟩ := u44
  try dsimp only
  refine z_iload 74 dX5_comparePlates_74 rfl ?_
  refine z_aload_n 76 dX5_comparePlates_76 rfl ?_
  refine z_getI 77 dX5_comparePlates_77 fl_X5_30 zy_55 rfl ?_
  refine z_icge 80 129 dX5_comparePlates_80 (by decide) (fun _ => ?_) (fun _ => ?_)
  · exact z_return 129 dX5_comparePlates_129 rfl (fun h => h)
  · refine z_iconst 83 dX5_comparePlates_83 zci_0 ?_
    refine z_istore 84 (L' := [some (.ref 55), some (.ref a1), some (.int p2), none, none, some (.int x28), some (.int (0 : Int32))]) dX5_comparePlates_84 (by decide) rfl ?_
    refine zk_sqj (α := zM) 123 (fun (M38 : zM) => [some (.ref 55), some (.ref a1), some (.int p2), none, none, some (.int x28), none]) (fun (M38 : zM) => []) (fun (M38 : zM) => (zY0, M38)) ?_ ?_
    · intro M38
      refine z_iinc 123 (v := (x28 + (1 : Int32))) (L' := [some (.ref 55), some (.ref a1), some (.int p2), none, none, some (.int (x28 + (1 : Int32))), none]) dX5_comparePlates_123 rfl (zinc zci_1 _) (by decide) rfl ?_
      refine z_goto 126 74 dX5_comparePlates_126 (by decide) ?_
      exact zk_weak (L' := [some (.ref 55), some (.ref a1), some (.int p2), none, none, some (.int (x28 + (1 : Int32))), none]) (zLe_s (zLe_s (zLe_s (zLe_n (zLe_n (zLe_s (zLe_n zLe_nl))))))) (hrec30 ((x28 + (1 : Int32)), M38))
    · refine zk_weak (L' := [some (.ref 55), some (.ref a1), some (.int p2), none, none, some (.int x28), some (.int (0 : Int32))]) (zLe_s (zLe_s (zLe_s (zLe_n (zLe_n (zLe_s (zLe_s zLe_nl))))))) (zk_lp (α := Int32 × zM) 86 (fun (u36 : Int32 × zM) => match u36 with | (x33, M34) => [some (.ref 55), some (.ref a1), some (.int p2), none, none, some (.int x28), some (.int x33)]) (fun (u37 : Int32 × zM) => match u37 with | (x33, M34) => (zY0, M34)) ?_ zFu ((0 : Int32), M29))
      intro rec35 hrec35
      intro u42
      obtain ⟨x33, M34⟩ := u42
      try dsimp only
      refine z_iload 86 dX5_comparePlates_86 rfl ?_
      refine z_aload_n 88 dX5_comparePlates_88 rfl ?_
      refine z_getI 89 dX5_comparePlates_89 fl_X5_36 zy_55 rfl ?_
      refine z_icge 92 123 dX5_comparePlates_92 (by decide) (fun _ => ?_) (fun _ => ?_)
      · exact zk_exitw (L' := [some (.ref 55), some (.ref a1), some (.int p2), none, none, some (.int x28), none]) (zLe_s (zLe_s (zLe_s (zLe_n (zLe_n (zLe_s (zLe_n zLe_nl))))))) (fun h => h)
      · refine z_aload_n 95 dX5_comparePlates_95 rfl ?_
        refine z_getR 96 (r := 56) dX5_comparePlates_96 fl_X5_9 zy_55 rfl ?_
        refine z_iload 99 dX5_comparePlates_99 rfl ?_
        refine z_bipush 101 dX5_comparePlates_101 zbp_10 ?_
        refine z_imul 103 dX5_comparePlates_103 ?_
        refine z_iload 104 dX5_comparePlates_104 rfl ?_
        refine z_iadd 106 dX5_comparePlates_106 ?_
        refine z_aload_n 107 dX5_comparePlates_107 rfl ?_
        refine z_iload 108 dX5_comparePlates_108 rfl ?_
        refine z_iload 110 dX5_comparePlates_110 rfl ?_
        refine z_iload_n 112 dX5_comparePlates_112 rfl ?_
        refine z_ci (zat_S4 113 dX5_comparePlates_113 lk_X5_54 ⟨Nat.le_of_ble_eq_true rfl, Nat.le_of_ble_eq_true rfl⟩ (Nat.le_of_ble_eq_true rfl)) (tX5_pointsBut E zY0 a1 ha1 x28 x33 p2 M34) (fun x39 => ?_)
        refine z_iastore 116 dX5_comparePlates_116 zy_56 ?_
        refine zk_nmM (fun M40 => ?_)
        refine z_iinc 117 (v := (x33 + (1 : Int32))) (L' := [some (.ref 55), some (.ref a1), some (.int p2), none, none, some (.int x28), some (.int (x33 + (1 : Int32)))]) dX5_comparePlates_117 rfl (zinc zci_1 _) (by decide) rfl ?_
        refine z_goto 120 86 dX5_comparePlates_120 (by decide) ?_
        exact zk_weak (L' := [some (.ref 55), some (.ref a1), some (.int p2), none, none, some (.int x28), some (.int (x33 + (1 : Int32)))]) (zLe_s (zLe_s (zLe_s (zLe_n (zLe_n (zLe_s (zLe_s zLe_nl))))))) (hrec35 ((x33 + (1 : Int32)), M40))
