def fX10_end (p1 : Int32) (M : zM) : Option (Int32 × zM) :=
  lt ((M.1 50 1)) (fun (x1 : Int32) => lt (fX10_within p1 (0 : Int32) x1) (fun (b2 : Bool) => if b2 = false then (some ((-1 : Int32), M)) else (lt (zwI M 50 1 p1) (fun (M3 : zM) => some (x1, M3)))))
set_option maxHeartbeats 4000000 in
set_option maxRecDepth 100000 in
theorem tX10_end (E : zE) (p1 : Int32) (M : zM) : zFI E mX10_end [.ref 0, .int p1] zY0 M (fX10_end p1 M) := by
  refine zF_of (L := [some (.ref 0), some (.int p1), none]) plX10 (Nat.le_of_ble_eq_true rfl) rfl (fun post => ?_)
  unfold fX10_end
  refine z_aload_n 0 dX10_end_0 rfl ?_
  refine z_getR 1 (r := 50) dX10_end_1 fl_X10_30 zy_0 rfl ?_
  refine z_getI 4 dX10_end_4 fl_X10_86 zy_50 rfl ?_
  refine zk_nmI (fun x1 => ?_)
  refine z_istore_n 7 (L' := [some (.ref 0), some (.int p1), some (.int x1)]) dX10_end_7 (by decide) rfl ?_
  refine z_iload_n 8 dX10_end_8 rfl ?_
  refine z_iconst 9 dX10_end_9 zci_0 ?_
  refine z_iload_n 10 dX10_end_10 rfl ?_
  refine z_ctb (zat_S3 11 dX10_end_11 lk_X10_89 ⟨Nat.le_of_ble_eq_true rfl, Nat.le_of_ble_eq_true rfl⟩ (Nat.le_of_ble_eq_true rfl)) (tX10_within E zY0 p1 (0 : Int32) x1 M) (fun b2 => ?_)
  refine z_ifneb 14 19 dX10_end_14 (by decide) (fun _ => ?_) (fun _ => ?_)
  · refine z_iconst 17 dX10_end_17 zci_m1 ?_
    exact z_ireturn 18 dX10_end_18 rfl rfl (fun h => h)
  · refine z_aload_n 19 dX10_end_19 rfl ?_
    refine z_getR 20 (r := 50) dX10_end_20 fl_X10_30 zy_0 rfl ?_
    refine z_iload_n 23 dX10_end_23 rfl ?_
    refine z_put 24 dX10_end_24 fp_X10_86 zy_50 rfl (zput_i _) ?_
    refine zk_nmM (fun M3 => ?_)
    refine z_iload_n 27 dX10_end_27 rfl ?_
    exact z_ireturn 28 dX10_end_28 rfl rfl (fun h => h)
def fX10_road (M : zM) : Option (Int32 × zM) :=
  bi (fX9_tellRoad 52 M) (fun (x2 : Int32) (M1 : zM) => if x2 < 0 then (some (x2, M1)) else (sq (fX6_copyFrom 10 52 M1) (fun (M3 : zM) => some (x2, M3))))
set_option maxHeartbeats 4000000 in
set_option maxRecDepth 100000 in
theorem tX10_road (E : zE)  (M : zM) : zFI E mX10_road [.ref 0] zY0 M (fX10_road M) := by
  refine zF_of (L := [some (.ref 0), none]) plX10 (Nat.le_of_ble_eq_true rfl) rfl (fun post => ?_)
  unfold fX10_road
  refine z_aload_n 0 dX10_road_0 rfl ?_
  refine z_getR 1 (r := 50) dX10_road_1 fl_X10_30 zy_0 rfl ?_
  refine z_aload_n 4 dX10_road_4 rfl ?_
  refine z_getR 5 (r := 52) dX10_road_5 fl_X10_37 zy_0 rfl ?_
  refine z_cI (zat_V1 8 dX10_road_8 lk_X10_93 zy_50 rfl rfl ⟨Nat.le_of_ble_eq_true rfl, Nat.le_of_ble_eq_true rfl⟩ (Nat.le_of_ble_eq_true rfl)) (tX9_tellRoad E 52 zs_X6_52 M) (fun x2 M1 => ?_)
  refine z_istore_n 11 (L' := [some (.ref 0), some (.int x2)]) dX10_road_11 (by decide) rfl ?_
  refine z_iload_n 12 dX10_road_12 rfl ?_
  refine z_iflt 13 30 dX10_road_13 (by decide) (fun _ => ?_) (fun _ => ?_)
  · refine z_iload_n 30 dX10_road_30 rfl ?_
    exact z_ireturn 31 dX10_road_31 rfl rfl (fun h => h)
  · refine z_aload_n 16 dX10_road_16 rfl ?_
    refine z_getR 17 (r := 1) dX10_road_17 fl_X10_12 zy_0 rfl ?_
    refine z_getR 20 (r := 10) dX10_road_20 fl_X10_97 zy_1 rfl ?_
    refine z_aload_n 23 dX10_road_23 rfl ?_
    refine z_getR 24 (r := 52) dX10_road_24 fl_X10_37 zy_0 rfl ?_
    refine z_cV (zat_V1 27 dX10_road_27 lk_X10_100 zy_10 rfl rfl ⟨Nat.le_of_ble_eq_true rfl, Nat.le_of_ble_eq_true rfl⟩ (Nat.le_of_ble_eq_true rfl)) (tX6_copyFrom E zY0 10 zs_X6_10 52 zs_X6_52 M1) (fun M3 => ?_)
    refine z_iload_n 30 dX10_road_30 rfl ?_
    exact z_ireturn 31 dX10_road_31 rfl rfl (fun h => h)
def fX10_fault (M : zM) : Int32 :=
  (M.1 50 2)
set_option maxHeartbeats 4000000 in
set_option maxRecDepth 100000 in
theorem tX10_fault (E : zE)  (M : zM) : zFi E mX10_fault [.ref 0] zY0 M (some (fX10_fault M)) := by
  refine zF_of (L := [some (.ref 0)]) plX10 (Nat.le_of_ble_eq_true rfl) rfl (fun post => ?_)
  show zK E _ post 0 _ _ _ (lt (fX10_fault M) some) _
  unfold fX10_fault
  refine z_aload_n 0 dX10_fault_0 rfl ?_
  refine z_getR 1 (r := 50) dX10_fault_1 fl_X10_30 zy_0 rfl ?_
  refine z_getI 4 dX10_fault_4 fl_X10_104 zy_50 rfl ?_
  exact z_ireturn 7 dX10_fault_7 rfl rfl (fun h => h)
def fX10_rule (p1 : Int32) (M : zM) : Option Int32 :=
  lt (fX10_within p1 (0 : Int32) (9 : Int32)) (fun (b1 : Bool) => if b1 = false then (some (-1000 : Int32)) else (grd (zix p1 10) (some (M.1 11 (zn p1)))))
set_option maxHeartbeats 4000000 in
set_option maxRecDepth 100000 in
theorem tX10_rule (E : zE) (p1 : Int32) (M : zM) : zFi E mX10_rule [.ref 0, .int p1] zY0 M (fX10_rule p1 M) := by
  refine zF_of (L := [some (.ref 0), some (.int p1)]) plX10 (Nat.le_of_ble_eq_true rfl) rfl (fun post => ?_)
  unfold fX10_rule
  refine z_iload_n 0 dX10_rule_0 rfl ?_
  refine z_iconst 1 dX10_rule_1 zci_0 ?_
  refine z_bipush 2 dX10_rule_2 zbp_9 ?_
  refine z_ctb (zat_S3 4 dX10_rule_4 lk_X10_89 ⟨Nat.le_of_ble_eq_true rfl, Nat.le_of_ble_eq_true rfl⟩ (Nat.le_of_ble_eq_true rfl)) (tX10_within E zY0 p1 (0 : Int32) (9 : Int32) M) (fun b1 => ?_)
  refine z_ifeqb 7 25 dX10_rule_7 (by decide) (fun _ => ?_) (fun _ => ?_)
  · refine z_sipush 25 dX10_rule_25 zsp_m1000 ?_
    exact z_ireturn 28 dX10_rule_28 rfl rfl (fun h => h)
  · refine z_aload_n 10 dX10_rule_10 rfl ?_
    refine z_getR 11 (r := 1) dX10_rule_11 fl_X10_12 zy_0 rfl ?_
    refine z_getR 14 (r := 10) dX10_rule_14 fl_X10_97 zy_1 rfl ?_
    refine z_getR 17 (r := 11) dX10_rule_17 fl_X10_107 zy_10 rfl ?_
    refine z_iload_n 20 dX10_rule_20 rfl ?_
    refine z_iaload 21 dX10_rule_21 zy_11 ?_
    refine z_goto 22 28 dX10_rule_22 (by decide) ?_
    exact z_ireturn 28 dX10_rule_28 rfl rfl (fun h => h)
def fX10_mixed (p1 : Int32) (p2 : Int32) (M : zM) : Option Int32 :=
  lt (fX10_isLetter p1) (fun (b1 : Bool) => if b1 = false then (some (-1 : Int32)) else (lt (fX10_isLetter p2) (fun (b2 : Bool) => if b2 = false then (some (-1 : Int32)) else (if p1 = p2 then (some (-1 : Int32)) else (grd (zix ((p1 * (8 : Int32)) + p2) 64) (some (M.1 12 (zn ((p1 * (8 : Int32)) + p2)))))))))
set_option maxHeartbeats 4000000 in
set_option maxRecDepth 100000 in
theorem tX10_mixed (E : zE) (p1 : Int32) (p2 : Int32) (M : zM) : zFi E mX10_mixed [.ref 0, .int p1, .int p2] zY0 M (fX10_mixed p1 p2 M) := by
  refine zF_of (L := [some (.ref 0), some (.int p1), some (.int p2)]) plX10 (Nat.le_of_ble_eq_true rfl) rfl (fun post => ?_)
  unfold fX10_mixed
  refine z_iload_n 0 dX10_mixed_0 rfl ?_
  refine z_ctb (zat_S1 1 dX10_mixed_1 lk_X10_110 ⟨Nat.le_of_ble_eq_true rfl, Nat.le_of_ble_eq_true rfl⟩ (Nat.le_of_ble_eq_true rfl)) (tX10_isLetter E zY0 p1 M) (fun b1 => ?_)
  refine z_ifeqb 4 19 dX10_mixed_4 (by decide) (fun _ => ?_) (fun _ => ?_)
  · refine z_iconst 19 dX10_mixed_19 zci_m1 ?_
    exact z_ireturn 20 dX10_mixed_20 rfl rfl (fun h => h)
  · refine z_iload_n 7 dX10_mixed_7 rfl ?_
    refine z_ctb (zat_S1 8 dX10_mixed_8 lk_X10_110 ⟨Nat.le_of_ble_eq_true rfl, Nat.le_of_ble_eq_true rfl⟩ (Nat.le_of_ble_eq_true rfl)) (tX10_isLetter E zY0 p2 M) (fun b2 => ?_)
    refine z_ifeqb 11 19 dX10_mixed_11 (by decide) (fun _ => ?_) (fun _ => ?_)
    · refine z_iconst 19 dX10_mixed_19 zci_m1 ?_
      exact z_ireturn 20 dX10_mixed_20 rfl rfl (fun h => h)
    · refine z_iload_n 14 dX10_mixed_14 rfl ?_
      refine z_iload_n 15 dX10_mixed_15 rfl ?_
      refine z_icne 16 21 dX10_mixed_16 (by decide) (fun _ => ?_) (fun _ => ?_)
      · refine z_iconst 19 dX10_mixed_19 zci_m1 ?_
        exact z_ireturn 20 dX10_mixed_20 rfl rfl (fun h => h)
      · refine z_aload_n 21 dX10_mixed_21 rfl ?_
        refine z_getR 22 (r := 1) dX10_mixed_22 fl_X10_12 zy_0 rfl ?_
        refine z_getR 25 (r := 10) dX10_mixed_25 fl_X10_97 zy_1 rfl ?_
        refine z_getR 28 (r := 12) dX10_mixed_28 fl_X10_114 zy_10 rfl ?_
        refine z_iload_n 31 dX10_mixed_31 rfl ?_
        refine z_bipush 32 dX10_mixed_32 zbp_8 ?_
        refine z_imul 34 dX10_mixed_34 ?_
        refine z_iload_n 35 dX10_mixed_35 rfl ?_
        refine z_iadd 36 dX10_mixed_36 ?_
        refine z_iaload 37 dX10_mixed_37 zy_12 ?_
        exact z_ireturn 38 dX10_mixed_38 rfl rfl (fun h => h)
def fX10_setClock (p1 : Int32) (M : zM) : Option (Int32 × zM) :=
  lt (fX10_within p1 (-99 : Int32) (99 : Int32)) (fun (b1 : Bool) => if b1 = false then (some ((-1000 : Int32), M)) else (grd (zix (9 : Int32) 10) (lt ((M.1 11 (zn (9 : Int32)))) (fun (x2 : Int32) => grd (zix (9 : Int32) 10) (lt (zwI M 11 (zn (9 : Int32)) p1) (fun (M3 : zM) => some (x2, M3)))))))
set_option maxHeartbeats 4000000 in
set_option maxRecDepth 100000 in
theorem tX10_setClock (E : zE) (p1 : Int32) (M : zM) : zFI E mX10_setClock [.ref 0, .int p1] zY0 M (fX10_setClock p1 M) := by
  refine zF_of (L := [some (.ref 0), some (.int p1), none]) plX10 (Nat.le_of_ble_eq_true rfl) rfl (fun post => ?_)
  unfold fX10_setClock
  refine z_iload_n 0 dX10_setClock_0 rfl ?_
  refine z_bipush 1 dX10_setClock_1 zbp_m99 ?_
  refine z_bipush 3 dX10_setClock_3 zbp_99 ?_
  refine z_ctb (zat_S3 5 dX10_setClock_5 lk_X10_89 ⟨Nat.le_of_ble_eq_true rfl, Nat.le_of_ble_eq_true rfl⟩ (Nat.le_of_ble_eq_true rfl)) (tX10_within E zY0 p1 (-99 : Int32) (99 : Int32) M) (fun b1 => ?_)
  refine z_ifneb 8 15 dX10_setClock_8 (by decide) (fun _ => ?_) (fun _ => ?_)
  · refine z_sipush 11 dX10_setClock_11 zsp_m1000 ?_
    exact z_ireturn 14 dX10_setClock_14 rfl rfl (fun h => h)
  · refine z_aload_n 15 dX10_setClock_15 rfl ?_
    refine z_getR 16 (r := 1) dX10_setClock_16 fl_X10_12 zy_0 rfl ?_
    refine z_getR 19 (r := 10) dX10_setClock_19 fl_X10_97 zy_1 rfl ?_
    refine z_getR 22 (r := 11) dX10_setClock_22 fl_X10_107 zy_10 rfl ?_
    refine z_bipush 25 dX10_setClock_25 zbp_9 ?_
    refine z_iaload 27 dX10_setClock_27 zy_11 ?_
    refine zk_nmI (fun x2 => ?_)
    refine z_istore_n 28 (L' := [some (.ref 0), some (.int p1), some (.int x2)]) dX10_setClock_28 (by decide) rfl ?_
    refine z_aload_n 29 dX10_setClock_29 rfl ?_
    refine z_getR 30 (r := 1) dX10_setClock_30 fl_X10_12 zy_0 rfl ?_
    refine z_getR 33 (r := 10) dX10_setClock_33 fl_X10_97 zy_1 rfl ?_
    refine z_getR 36 (r := 11) dX10_setClock_36 fl_X10_107 zy_10 rfl ?_
    refine z_bipush 39 dX10_setClock_39 zbp_9 ?_
    refine z_iload_n 41 dX10_setClock_41 rfl ?_
    refine z_iastore 42 dX10_setClock_42 zy_11 ?_
    refine zk_nmM (fun M3 => ?_)
    refine z_iload_n 43 dX10_setClock_43 rfl ?_
    exact z_ireturn 44 dX10_setClock_44 rfl rfl (fun h => h)
def fX10_isEnd (p1 : Int32) : Bool :=
  if p1 = 0 then (true) else (if p1 = (1 : Int32) then (true) else (false))
set_option maxHeartbeats 4000000 in
set_option maxRecDepth 100000 in
theorem tX10_isEnd (E : zE) (Y : zY) (p1 : Int32) (M : zM) : zFb E mX10_isEnd [.int p1] Y M (some (fX10_isEnd p1)) := by
  refine zF_of (L := [some (.int p1)]) plX10 (Nat.le_of_ble_eq_true rfl) rfl (fun post => ?_)
  show zK E _ post 0 _ _ _ (lt (fX10_isEnd p1) some) _
  unfold fX10_isEnd
  refine z_iload_n 0 dX10_isEnd_0 rfl ?_
  refine z_ifeqv 1 9 dX10_isEnd_1 (by decide) ?_ ?_
  · refine z_iconst 9 dX10_isEnd_9 zci_1 ?_
    refine z_goto 10 14 dX10_isEnd_10 (by decide) ?_
    exact z_ireturn 14 (v := zb true) dX10_isEnd_14 rfl (zput_b true).1 (fun h => h)
  · refine z_iload_n 4 dX10_isEnd_4 rfl ?_
    refine z_iconst 5 dX10_isEnd_5 zci_1 ?_
    refine z_icnev 6 13 dX10_isEnd_6 (by decide) ?_ ?_
    · refine z_iconst 9 dX10_isEnd_9 zci_1 ?_
      refine z_goto 10 14 dX10_isEnd_10 (by decide) ?_
      exact z_ireturn 14 (v := zb true) dX10_isEnd_14 rfl (zput_b true).1 (fun h => h)
    · refine z_iconst 13 dX10_isEnd_13 zci_0 ?_
      exact z_ireturn 14 (v := zb false) dX10_isEnd_14 rfl (zput_b false).1 (fun h => h)
def fX10_linesAt (p1 : Int32) : Nat :=
  if p1 = 0 then (2) else (6)
set_option maxHeartbeats 4000000 in
set_option maxRecDepth 100000 in
theorem tX10_linesAt (E : zE) (p1 : Int32) (M : zM) : zFa E mX10_linesAt [.ref 0, .int p1] zY0 M (some (fX10_linesAt p1)) := by
  refine zF_of (L := [some (.ref 0), some (.int p1)]) plX10 (Nat.le_of_ble_eq_true rfl) rfl (fun post => ?_)
  show zK E _ post 0 _ _ _ (lt (fX10_linesAt p1) some) _
  unfold fX10_linesAt
  refine z_iload_n 0 dX10_linesAt_0 rfl ?_
  refine z_ifnev 1 14 dX10_linesAt_1 (by decide) ?_ ?_
  · refine z_aload_n 4 dX10_linesAt_4 rfl ?_
    refine z_getR 5 (r := 1) dX10_linesAt_5 fl_X10_12 zy_0 rfl ?_
    refine z_getR 8 (r := 2) dX10_linesAt_8 fl_X10_170 zy_1 rfl ?_
    refine z_goto 11 21 dX10_linesAt_11 (by decide) ?_
    exact z_areturn 21 dX10_linesAt_21 rfl (fun h => h)
  · refine z_aload_n 14 dX10_linesAt_14 rfl ?_
    refine z_getR 15 (r := 1) dX10_linesAt_15 fl_X10_12 zy_0 rfl ?_
    refine z_getR 18 (r := 6) dX10_linesAt_18 fl_X10_174 zy_1 rfl ?_
    exact z_areturn 21 dX10_linesAt_21 rfl (fun h => h)
theorem zpX10_linesAt (p1 : Int32) : zsX2 zY0 (fX10_linesAt p1) := by
  unfold fX10_linesAt
  split
  · first | exact zs_X2_2 | exact zs_X2_6
  · first | exact zs_X2_2 | exact zs_X2_6
def fX10_line (p1 : Int32) (p2 : Int32) (p3 : Int32) (p4 : Int32) (M : zM) : Option (Int32 × zM) :=
  lt (fX10_isEnd p1) (fun (b1 : Bool) => if b1 = false then (some ((-1 : Int32), M)) else (lt (fX10_within p2 (0 : Int32) (999 : Int32)) (fun (b2 : Bool) => if b2 = false then (some ((-1 : Int32), M)) else (lt (fX10_within p3 (0 : Int32) (83520 : Int32)) (fun (b3 : Bool) => if b3 = false then (some ((-1 : Int32), M)) else (lt (fX10_within p4 (0 : Int32) (6 : Int32)) (fun (b4 : Bool) => if b4 = false then (some ((-1 : Int32), M)) else (lt (fX10_linesAt p1) (fun (s5 : Nat) => if (M.1 s5 0) < (10 : Int32) then (bi (fX2_append s5 p2 p4 M) (fun (x7 : Int32) (M6 : zM) => sq (fX2_setPlate s5 x7 p3 M6) (fun (M8 : zM) => some (x7, M8)))) else (some ((-3 : Int32), M)))))))))))
set_option maxHeartbeats 4000000 in
set_option maxRecDepth 100000 in
theorem tX10_line (E : zE) (p1 : Int32) (p2 : Int32) (p3 : Int32) (p4 : Int32) (M : zM) : zFI E mX10_line [.ref 0, .int p1, .int p2, .int p3, .int p4] zY0 M (fX10_line p1 p2 p3 p4 M) := by
  refine zF_of (L := [some (.ref 0), some (.int p1), some (.int p2), some (.int p3), some (.int p4), none, none]) plX10 (Nat.le_of_ble_eq_true rfl) rfl (fun post => ?_)
  unfold fX10_line
  refine z_iload_n 0 dX10_line_0 rfl ?_
  refine z_ctb (zat_S1 1 dX10_line_1 lk_X10_117 ⟨Nat.le_of_ble_eq_true rfl, Nat.le_of_ble_eq_true rfl⟩ (Nat.le_of_ble_eq_true rfl)) (tX10_isEnd E zY0 p1 M) (fun b1 => ?_)
  refine z_ifeqb 4 39 dX10_line_4 (by decide) (fun _ => ?_) (fun _ => ?_)
  · refine z_iconst 39 dX10_line_39 zci_m1 ?_
    exact z_ireturn 40 dX10_line_40 rfl rfl (fun h => h)
  · refine z_iload_n 7 dX10_line_7 rfl ?_
    refine z_iconst 8 dX10_line_8 zci_0 ?_
    refine z_sipush 9 dX10_line_9 zsp_999 ?_
    refine z_ctb (zat_S3 12 dX10_line_12 lk_X10_89 ⟨Nat.le_of_ble_eq_true rfl, Nat.le_of_ble_eq_true rfl⟩ (Nat.le_of_ble_eq_true rfl)) (tX10_within E zY0 p2 (0 : Int32) (999 : Int32) M) (fun b2 => ?_)
    refine z_ifeqb 15 39 dX10_line_15 (by decide) (fun _ => ?_) (fun _ => ?_)
    · refine z_iconst 39 dX10_line_39 zci_m1 ?_
      exact z_ireturn 40 dX10_line_40 rfl rfl (fun h => h)
    · refine z_iload_n 18 dX10_line_18 rfl ?_
      refine z_iconst 19 dX10_line_19 zci_0 ?_
      refine z_ldc 20 dX10_line_20 cw_X10_120 ?_
      refine z_ctb (zat_S3 22 dX10_line_22 lk_X10_89 ⟨Nat.le_of_ble_eq_true rfl, Nat.le_of_ble_eq_true rfl⟩ (Nat.le_of_ble_eq_true rfl)) (tX10_within E zY0 p3 (0 : Int32) (83520 : Int32) M) (fun b3 => ?_)
      refine z_ifeqb 25 39 dX10_line_25 (by decide) (fun _ => ?_) (fun _ => ?_)
      · refine z_iconst 39 dX10_line_39 zci_m1 ?_
        exact z_ireturn 40 dX10_line_40 rfl rfl (fun h => h)
      · refine z_iload 28 dX10_line_28 rfl ?_
        refine z_iconst 30 dX10_line_30 zci_0 ?_
        refine z_bipush 31 dX10_line_31 zbp_6 ?_
        refine z_ctb (zat_S3 33 dX10_line_33 lk_X10_89 ⟨Nat.le_of_ble_eq_true rfl, Nat.le_of_ble_eq_true rfl⟩ (Nat.le_of_ble_eq_true rfl)) (tX10_within E zY0 p4 (0 : Int32) (6 : Int32) M) (fun b4 => ?_)
        refine z_ifneb 36 41 dX10_line_36 (by decide) (fun _ => ?_) (fun _ => ?_)
        · refine z_iconst 39 dX10_line_39 zci_m1 ?_
          exact z_ireturn 40 dX10_line_40 rfl rfl (fun h => h)
        · refine z_aload_n 41 dX10_line_41 rfl ?_
          refine z_iload_n 42 dX10_line_42 rfl ?_
          refine z_ctaP (zat_V1 43 dX10_line_43 lk_X10_121 zy_0 rfl rfl ⟨Nat.le_of_ble_eq_true rfl, Nat.le_of_ble_eq_true rfl⟩ (Nat.le_of_ble_eq_true rfl)) (tX10_linesAt E p1 M) (P := zsX2 zY0) (zpX10_linesAt p1) (fun s5 hs5 => ?_)
          refine z_astore 46 (L' := [some (.ref 0), some (.int p1), some (.int p2), some (.int p3), some (.int p4), some (.ref s5), none]) dX10_line_46 (by decide) rfl ?_
          refine z_aload 48 dX10_line_48 rfl ?_
          refine z_getI 50 dX10_line_50 fl_X10_125 hs5.1 rfl ?_
          refine z_bipush 53 dX10_line_53 zbp_10 ?_
          refine z_iclt 55 61 dX10_line_55 (by decide) (fun _ => ?_) (fun _ => ?_)
          · refine z_aload 61 dX10_line_61 rfl ?_
            refine z_iload_n 63 dX10_line_63 rfl ?_
            refine z_iload 64 dX10_line_64 rfl ?_
            refine z_cI (zat_V2 66 dX10_line_66 lk_X10_130 hs5.1 rfl rfl ⟨Nat.le_of_ble_eq_true rfl, Nat.le_of_ble_eq_true rfl⟩ (Nat.le_of_ble_eq_true rfl)) (tX2_append E zY0 s5 hs5 p2 p4 M) (fun x7 M6 => ?_)
            refine z_istore 69 (L' := [some (.ref 0), some (.int p1), some (.int p2), some (.int p3), some (.int p4), some (.ref s5), some (.int x7)]) dX10_line_69 (by decide) rfl ?_
            refine z_aload 71 dX10_line_71 rfl ?_
            refine z_iload 73 dX10_line_73 rfl ?_
            refine z_iload_n 75 dX10_line_75 rfl ?_
            refine z_cV (zat_V2 76 dX10_line_76 lk_X10_133 hs5.1 rfl rfl ⟨Nat.le_of_ble_eq_true rfl, Nat.le_of_ble_eq_true rfl⟩ (Nat.le_of_ble_eq_true rfl)) (tX2_setPlate E zY0 s5 hs5 x7 p3 M6) (fun M8 => ?_)
            refine z_iload 79 dX10_line_79 rfl ?_
            exact z_ireturn 81 dX10_line_81 rfl rfl (fun h => h)
          · refine z_bipush 58 dX10_line_58 zbp_m3 ?_
            exact z_ireturn 60 dX10_line_60 rfl rfl (fun h => h)
def fX10_hasLine (p1 : Int32) (p2 : Int32) (M : zM) : Bool :=
  if (fX10_isEnd p1) = false then (false) else (ltn (fX10_linesAt p1) (fun (s1 : Nat) => if (fX2_has s1 p2 M) = false then (false) else (true)))
set_option maxHeartbeats 4000000 in
set_option maxRecDepth 100000 in
theorem tX10_hasLine (E : zE) (p1 : Int32) (p2 : Int32) (M : zM) : zFb E mX10_hasLine [.ref 0, .int p1, .int p2] zY0 M (some (fX10_hasLine p1 p2 M)) := by
  refine zF_of (L := [some (.ref 0), some (.int p1), some (.int p2)]) plX10 (Nat.le_of_ble_eq_true rfl) rfl (fun post => ?_)
  show zK E _ post 0 _ _ _ (lt (fX10_hasLine p1 p2 M) some) _
  unfold fX10_hasLine
  refine z_iload_n 0 dX10_hasLine_0 rfl ?_
  refine z_ctb0 (zat_S1 1 dX10_hasLine_1 lk_X10_117 ⟨Nat.le_of_ble_eq_true rfl, Nat.le_of_ble_eq_true rfl⟩ (Nat.le_of_ble_eq_true rfl)) (tX10_isEnd E zY0 p1 M) ?_
  refine z_ifeqbv 4 23 dX10_hasLine_4 (by decide) ?_ ?_
  · refine z_iconst 23 dX10_hasLine_23 zci_0 ?_
    exact z_ireturn 24 (v := zb false) dX10_hasLine_24 rfl (zput_b false).1 (fun h => h)
  · refine z_aload_n 7 dX10_hasLine_7 rfl ?_
    refine z_iload_n 8 dX10_hasLine_8 rfl ?_
    refine z_ctaPv (zat_V1 9 dX10_hasLine_9 lk_X10_121 zy_0 rfl rfl ⟨Nat.le_of_ble_eq_true rfl, Nat.le_of_ble_eq_true rfl⟩ (Nat.le_of_ble_eq_true rfl)) (tX10_linesAt E p1 M) (P := zsX2 zY0) (zpX10_linesAt p1) (fun s1 hs1 => ?_)
    refine z_iload_n 12 dX10_hasLine_12 rfl ?_
    refine z_ctb0 (zat_V1 13 dX10_hasLine_13 lk_X10_197 hs1.1 rfl rfl ⟨Nat.le_of_ble_eq_true rfl, Nat.le_of_ble_eq_true rfl⟩ (Nat.le_of_ble_eq_true rfl)) (tX2_has E zY0 s1 hs1 p2 M) ?_
    refine z_ifeqbv 16 23 dX10_hasLine_16 (by decide) ?_ ?_
    · refine z_iconst 23 dX10_hasLine_23 zci_0 ?_
      exact z_ireturn 24 (v := zb false) dX10_hasLine_24 rfl (zput_b false).1 (fun h => h)
    · refine z_iconst 19 dX10_hasLine_19 zci_1 ?_
      refine z_goto 20 24 dX10_hasLine_20 (by decide) ?_
      exact z_ireturn 24 (v := zb true) dX10_hasLine_24 rfl (zput_b true).1 (fun h => h)
def fX10_drop (p1 : Int32) (p2 : Int32) (M : zM) : Option (Int32 × zM) :=
  lt (fX10_hasLine p1 p2 M) (fun (b1 : Bool) => if b1 = false then (some ((-1 : Int32), M)) else (lt (fX10_linesAt p1) (fun (s2 : Nat) => sq (fX2_remove s2 p2 M) (fun (M3 : zM) => some ((M3.1 s2 0), M3)))))
set_option maxHeartbeats 4000000 in
set_option maxRecDepth 100000 in
theorem tX10_drop (E : zE) (p1 : Int32) (p2 : Int32) (M : zM) : zFI E mX10_drop [.ref 0, .int p1, .int p2] zY0 M (fX10_drop p1 p2 M) := by
  refine zF_of (L := [some (.ref 0), some (.int p1), some (.int p2), none]) plX10 (Nat.le_of_ble_eq_true rfl) rfl (fun post => ?_)
  unfold fX10_drop
  refine z_aload_n 0 dX10_drop_0 rfl ?_
  refine z_iload_n 1 dX10_drop_1 rfl ?_
  refine z_iload_n 2 dX10_drop_2 rfl ?_
  refine z_ctb (zat_V2 3 dX10_drop_3 lk_X10_137 zy_0 rfl rfl ⟨Nat.le_of_ble_eq_true rfl, Nat.le_of_ble_eq_true rfl⟩ (Nat.le_of_ble_eq_true rfl)) (tX10_hasLine E p1 p2 M) (fun b1 => ?_)
  refine z_ifneb 6 11 dX10_drop_6 (by decide) (fun _ => ?_) (fun _ => ?_)
  · refine z_iconst 9 dX10_drop_9 zci_m1 ?_
    exact z_ireturn 10 dX10_drop_10 rfl rfl (fun h => h)
  · refine z_aload_n 11 dX10_drop_11 rfl ?_
    refine z_iload_n 12 dX10_drop_12 rfl ?_
    refine z_ctaP (zat_V1 13 dX10_drop_13 lk_X10_121 zy_0 rfl rfl ⟨Nat.le_of_ble_eq_true rfl, Nat.le_of_ble_eq_true rfl⟩ (Nat.le_of_ble_eq_true rfl)) (tX10_linesAt E p1 M) (P := zsX2 zY0) (zpX10_linesAt p1) (fun s2 hs2 => ?_)
    refine z_astore_n 16 (L' := [some (.ref 0), some (.int p1), some (.int p2), some (.ref s2)]) dX10_drop_16 (by decide) rfl ?_
    refine z_aload_n 17 dX10_drop_17 rfl ?_
    refine z_iload_n 18 dX10_drop_18 rfl ?_
    refine z_cV (zat_V1 19 dX10_drop_19 lk_X10_141 hs2.1 rfl rfl ⟨Nat.le_of_ble_eq_true rfl, Nat.le_of_ble_eq_true rfl⟩ (Nat.le_of_ble_eq_true rfl)) (tX2_remove E zY0 s2 hs2 p2 M) (fun M3 => ?_)
    refine z_aload_n 22 dX10_drop_22 rfl ?_
    refine z_getI 23 dX10_drop_23 fl_X10_125 hs2.1 rfl ?_
    exact z_ireturn 26 dX10_drop_26 rfl rfl (fun h => h)
def fX10_of (p1 : Int32) (p2 : Int32) (p3 : Int32) (M : zM) : Option Int32 :=
  lt (fX10_hasLine p1 p2 M) (fun (b1 : Bool) => if b1 = false then (some (-1 : Int32)) else (lt (fX10_linesAt p1) (fun (s2 : Nat) => if p3 = (0 : Int32) then (grd (zix p2 10) (some (M.1 (s2 + 1) (zn p2)))) else (if p3 = (1 : Int32) then (sq (fX2_plateOf s2 p2 M) (fun (x3 : Int32) => some x3)) else (if p3 = (2 : Int32) then (grd (zix p2 10) (some (M.1 (s2 + 2) (zn p2)))) else (lt (fX10_within p3 (10 : Int32) (13 : Int32)) (fun (b4 : Bool) => if b4 = false then (some (-1 : Int32)) else (grd (zix (((p2 * (4 : Int32)) + p3) - (10 : Int32)) 40) (some (M.1 (s2 + 3) (zn (((p2 * (4 : Int32)) + p3) - (10 : Int32)))))))))))))
set_option maxHeartbeats 4000000 in
set_option maxRecDepth 100000 in
theorem tX10_of (E : zE) (p1 : Int32) (p2 : Int32) (p3 : Int32) (M : zM) : zFi E mX10_of [.ref 0, .int p1, .int p2, .int p3] zY0 M (fX10_of p1 p2 p3 M) := by
  refine zF_of (L := [some (.ref 0), some (.int p1), some (.int p2), some (.int p3), none]) plX10 (Nat.le_of_ble_eq_true rfl) rfl (fun post => ?_)
  unfold fX10_of
  refine z_aload_n 0 dX10_of_0 rfl ?_
  refine z_iload_n 1 dX10_of_1 rfl ?_
  refine z_iload_n 2 dX10_of_2 rfl ?_
  refine z_ctb (zat_V2 3 dX10_of_3 lk_X10_137 zy_0 rfl rfl ⟨Nat.le_of_ble_eq_true rfl, Nat.le_of_ble_eq_true rfl⟩ (Nat.le_of_ble_eq_true rfl)) (tX10_hasLine E p1 p2 M) (fun b1 => ?_)
  refine z_ifneb 6 11 dX10_of_6 (by decide) (fun _ => ?_) (fun _ => ?_)
  · refine z_iconst 9 dX10_of_9 zci_m1 ?_
    exact z_ireturn 10 dX10_of_10 rfl rfl (fun h => h)
  · refine z_aload_n 11 dX10_of_11 rfl ?_
    refine z_iload_n 12 dX10_of_12 rfl ?_
    refine z_ctaP (zat_V1 13 dX10_of_13 lk_X10_121 zy_0 rfl rfl ⟨Nat.le_of_ble_eq_true rfl, Nat.le_of_ble_eq_true rfl⟩ (Nat.le_of_ble_eq_true rfl)) (tX10_linesAt E p1 M) (P := zsX2 zY0) (zpX10_linesAt p1) (fun s2 hs2 => ?_)
    refine z_astore 16 (L' := [some (.ref 0), some (.int p1), some (.int p2), some (.int p3), some (.ref s2)]) dX10_of_16 (by decide) rfl ?_
    refine z_iload_n 18 dX10_of_18 rfl ?_
    refine z_tsc 19 44 (k := 0) (off := 25) dX10_of_19 (by decide) (by decide) (by decide) (by decide) ?_ (fun n1 => ?_)
    · refine z_aload 44 dX10_of_44 rfl ?_
      refine z_getR 46 (r := (s2 + 1)) dX10_of_46 fl_X10_145 hs2.1 rfl ?_
      refine z_iload_n 49 dX10_of_49 rfl ?_
      refine z_iaload 50 dX10_of_50 hs2.2.1 ?_
      exact z_ireturn 51 dX10_of_51 rfl rfl (fun h => h)
    · refine z_tsc 19 52 (k := 1) (off := 33) dX10_of_19 (by decide) (by decide) (by decide) (by decide) ?_ (fun n2 => ?_)
      · refine z_aload 52 dX10_of_52 rfl ?_
        refine z_iload_n 54 dX10_of_54 rfl ?_
        refine z_ci (zat_V1 55 dX10_of_55 lk_X10_148 hs2.1 rfl rfl ⟨Nat.le_of_ble_eq_true rfl, Nat.le_of_ble_eq_true rfl⟩ (Nat.le_of_ble_eq_true rfl)) (tX2_plateOf E zY0 s2 hs2 p2 M) (fun x3 => ?_)
        exact z_ireturn 58 dX10_of_58 rfl rfl (fun h => h)
      · refine z_tsc 19 59 (k := 2) (off := 40) dX10_of_19 (by decide) (by decide) (by decide) (by decide) ?_ (fun n3 => ?_)
        · refine z_aload 59 dX10_of_59 rfl ?_
          refine z_getR 61 (r := (s2 + 2)) dX10_of_61 fl_X10_152 hs2.1 rfl ?_
          refine z_iload_n 64 dX10_of_64 rfl ?_
          refine z_iaload 65 dX10_of_65 hs2.2.2.1 ?_
          exact z_ireturn 66 dX10_of_66 rfl rfl (fun h => h)
        · refine z_tsd 19 67 dX10_of_19 (by have e1 := zne n1 (a := 0) (by decide); have e2 := zne n2 (a := 1) (by decide); have e3 := zne n3 (a := 2) (by decide); omega) (by decide) ?_
          refine z_iload_n 67 dX10_of_67 rfl ?_
          refine z_bipush 68 dX10_of_68 zbp_10 ?_
          refine z_bipush 70 dX10_of_70 zbp_13 ?_
          refine z_ctb (zat_S3 72 dX10_of_72 lk_X10_89 ⟨Nat.le_of_ble_eq_true rfl, Nat.le_of_ble_eq_true rfl⟩ (Nat.le_of_ble_eq_true rfl)) (tX10_within E zY0 p3 (10 : Int32) (13 : Int32) M) (fun b4 => ?_)
          refine z_ifeqb 75 95 dX10_of_75 (by decide) (fun _ => ?_) (fun _ => ?_)
          · refine z_iconst 95 dX10_of_95 zci_m1 ?_
            exact z_ireturn 96 dX10_of_96 rfl rfl (fun h => h)
          · refine z_aload 78 dX10_of_78 rfl ?_
            refine z_getR 80 (r := (s2 + 3)) dX10_of_80 fl_X10_155 hs2.1 rfl ?_
            refine z_iload_n 83 dX10_of_83 rfl ?_
            refine z_iconst 84 dX10_of_84 zci_4 ?_
            refine z_imul 85 dX10_of_85 ?_
            refine z_iload_n 86 dX10_of_86 rfl ?_
            refine z_iadd 87 dX10_of_87 ?_
            refine z_bipush 88 dX10_of_88 zbp_10 ?_
            refine z_isub 90 dX10_of_90 ?_
            refine z_iaload 91 dX10_of_91 hs2.2.2.2 ?_
            refine z_goto 92 96 dX10_of_92 (by decide) ?_
            exact z_ireturn 96 dX10_of_96 rfl rfl (fun h => h)
def fX10_sign (p1 : Int32) (p2 : Int32) (p3 : Int32) (p4 : Int32) (M : zM) : Option (Int32 × zM) :=
  lt (fX10_hasLine p1 p2 M) (fun (b1 : Bool) => if b1 = false then (some ((-1 : Int32), M)) else (lt (fX10_within p3 (0 : Int32) (3 : Int32)) (fun (b2 : Bool) => if b2 = false then (some ((-1 : Int32), M)) else (lt (fX10_within p4 (0 : Int32) (16 : Int32)) (fun (b3 : Bool) => if b3 = false then (some ((-1 : Int32), M)) else (lt (fX10_linesAt p1) (fun (s4 : Nat) => grd (zix ((p2 * (4 : Int32)) + p3) 40) (lt ((M.1 (s4 + 3) (zn ((p2 * (4 : Int32)) + p3)))) (fun (x5 : Int32) => grd (zix ((p2 * (4 : Int32)) + p3) 40) (lt (zwI M (s4 + 3) (zn ((p2 * (4 : Int32)) + p3)) p4) (fun (M6 : zM) => some (x5, M6))))))))))))
set_option maxHeartbeats 4000000 in
set_option maxRecDepth 100000 in
theorem tX10_sign (E : zE) (p1 : Int32) (p2 : Int32) (p3 : Int32) (p4 : Int32) (M : zM) : zFI E mX10_sign [.ref 0, .int p1, .int p2, .int p3, .int p4] zY0 M (fX10_sign p1 p2 p3 p4 M) := by
  refine zF_of (L := [some (.ref 0), some (.int p1), some (.int p2), some (.int p3), some (.int p4), none, none]) plX10 (Nat.le_of_ble_eq_true rfl) rfl (fun post => ?_)
  unfold fX10_sign
  refine z_aload_n 0 dX10_sign_0 rfl ?_
  refine z_iload_n 1 dX10_sign_1 rfl ?_
  refine z_iload_n 2 dX10_sign_2 rfl ?_
  refine z_ctb (zat_V2 3 dX10_sign_3 lk_X10_137 zy_0 rfl rfl ⟨Nat.le_of_ble_eq_true rfl, Nat.le_of_ble_eq_true rfl⟩ (Nat.le_of_ble_eq_true rfl)) (tX10_hasLine E p1 p2 M) (fun b1 => ?_)
  refine z_ifeqb 6 29 dX10_sign_6 (by decide) (fun _ => ?_) (fun _ => ?_)
  · refine z_iconst 29 dX10_sign_29 zci_m1 ?_
    exact z_ireturn 30 dX10_sign_30 rfl rfl (fun h => h)
  · refine z_iload_n 9 dX10_sign_9 rfl ?_
    refine z_iconst 10 dX10_sign_10 zci_0 ?_
    refine z_iconst 11 dX10_sign_11 zci_3 ?_
    refine z_ctb (zat_S3 12 dX10_sign_12 lk_X10_89 ⟨Nat.le_of_ble_eq_true rfl, Nat.le_of_ble_eq_true rfl⟩ (Nat.le_of_ble_eq_true rfl)) (tX10_within E zY0 p3 (0 : Int32) (3 : Int32) M) (fun b2 => ?_)
    refine z_ifeqb 15 29 dX10_sign_15 (by decide) (fun _ => ?_) (fun _ => ?_)
    · refine z_iconst 29 dX10_sign_29 zci_m1 ?_
      exact z_ireturn 30 dX10_sign_30 rfl rfl (fun h => h)
    · refine z_iload 18 dX10_sign_18 rfl ?_
      refine z_iconst 20 dX10_sign_20 zci_0 ?_
      refine z_bipush 21 dX10_sign_21 zbp_16 ?_
      refine z_ctb (zat_S3 23 dX10_sign_23 lk_X10_89 ⟨Nat.le_of_ble_eq_true rfl, Nat.le_of_ble_eq_true rfl⟩ (Nat.le_of_ble_eq_true rfl)) (tX10_within E zY0 p4 (0 : Int32) (16 : Int32) M) (fun b3 => ?_)
      refine z_ifneb 26 31 dX10_sign_26 (by decide) (fun _ => ?_) (fun _ => ?_)
      · refine z_iconst 29 dX10_sign_29 zci_m1 ?_
        exact z_ireturn 30 dX10_sign_30 rfl rfl (fun h => h)
      · refine z_aload_n 31 dX10_sign_31 rfl ?_
        refine z_iload_n 32 dX10_sign_32 rfl ?_
        refine z_ctaP (zat_V1 33 dX10_sign_33 lk_X10_121 zy_0 rfl rfl ⟨Nat.le_of_ble_eq_true rfl, Nat.le_of_ble_eq_true rfl⟩ (Nat.le_of_ble_eq_true rfl)) (tX10_linesAt E p1 M) (P := zsX2 zY0) (zpX10_linesAt p1) (fun s4 hs4 => ?_)
        refine z_astore 36 (L' := [some (.ref 0), some (.int p1), some (.int p2), some (.int p3), some (.int p4), some (.ref s4), none]) dX10_sign_36 (by decide) rfl ?_
        refine z_aload 38 dX10_sign_38 rfl ?_
        refine z_getR 40 (r := (s4 + 3)) dX10_sign_40 fl_X10_155 hs4.1 rfl ?_
        refine z_iload_n 43 dX10_sign_43 rfl ?_
        refine z_iconst 44 dX10_sign_44 zci_4 ?_
        refine z_imul 45 dX10_sign_45 ?_
        refine z_iload_n 46 dX10_sign_46 rfl ?_
        refine z_iadd 47 dX10_sign_47 ?_
        refine z_iaload 48 dX10_sign_48 hs4.2.2.2 ?_
        refine zk_nmI (fun x5 => ?_)
        refine z_istore 49 (L' := [some (.ref 0), some (.int p1), some (.int p2), some (.int p3), some (.int p4), some (.ref s4), some (.int x5)]) dX10_sign_49 (by decide) rfl ?_
        refine z_aload 51 dX10_sign_51 rfl ?_
        refine z_getR 53 (r := (s4 + 3)) dX10_sign_53 fl_X10_155 hs4.1 rfl ?_
        refine z_iload_n 56 dX10_sign_56 rfl ?_
        refine z_iconst 57 dX10_sign_57 zci_4 ?_
        refine z_imul 58 dX10_sign_58 ?_
        refine z_iload_n 59 dX10_sign_59 rfl ?_
        refine z_iadd 60 dX10_sign_60 ?_
        refine z_iload 61 dX10_sign_61 rfl ?_
        refine z_iastore 63 dX10_sign_63 hs4.2.2.2 ?_
        refine zk_nmM (fun M6 => ?_)
        refine z_iload 64 dX10_sign_64 rfl ?_
        exact z_ireturn 66 dX10_sign_66 rfl rfl (fun h => h)
def fX10_hasPair (p1 : Int32) (p2 : Int32) (M : zM) : Bool :=
  if (fX2_has 2 p1 M) = false then (false) else (if (fX2_has 6 p2 M) = false then (false) else (true))
set_option maxHeartbeats 4000000 in
set_option maxRecDepth 100000 in
theorem tX10_hasPair (E : zE) (p1 : Int32) (p2 : Int32) (M : zM) : zFb E mX10_hasPair [.ref 0, .int p1, .int p2] zY0 M (some (fX10_hasPair p1 p2 M)) := by
  refine zF_of (L := [some (.ref 0), some (.int p1), some (.int p2)]) plX10 (Nat.le_of_ble_eq_true rfl) rfl (fun post => ?_)
  show zK E _ post 0 _ _ _ (lt (fX10_hasPair p1 p2 M) some) _
  unfold fX10_hasPair
  refine z_aload_n 0 dX10_hasPair_0 rfl ?_
  refine z_getR 1 (r := 1) dX10_hasPair_1 fl_X10_12 zy_0 rfl ?_
  refine z_getR 4 (r := 2) dX10_hasPair_4 fl_X10_170 zy_1 rfl ?_
  refine z_iload_n 7 dX10_hasPair_7 rfl ?_
  refine z_ctb0 (zat_V1 8 dX10_hasPair_8 lk_X10_197 zy_2 rfl rfl ⟨Nat.le_of_ble_eq_true rfl, Nat.le_of_ble_eq_true rfl⟩ (Nat.le_of_ble_eq_true rfl)) (tX2_has E zY0 2 zs_X2_2 p1 M) ?_
  refine z_ifeqbv 11 32 dX10_hasPair_11 (by decide) ?_ ?_
  · refine z_iconst 32 dX10_hasPair_32 zci_0 ?_
    exact z_ireturn 33 (v := zb false) dX10_hasPair_33 rfl (zput_b false).1 (fun h => h)
  · refine z_aload_n 14 dX10_hasPair_14 rfl ?_
    refine z_getR 15 (r := 1) dX10_hasPair_15 fl_X10_12 zy_0 rfl ?_
    refine z_getR 18 (r := 6) dX10_hasPair_18 fl_X10_174 zy_1 rfl ?_
    refine z_iload_n 21 dX10_hasPair_21 rfl ?_
    refine z_ctb0 (zat_V1 22 dX10_hasPair_22 lk_X10_197 zy_6 rfl rfl ⟨Nat.le_of_ble_eq_true rfl, Nat.le_of_ble_eq_true rfl⟩ (Nat.le_of_ble_eq_true rfl)) (tX2_has E zY0 6 zs_X2_6 p2 M) ?_
    refine z_ifeqbv 25 32 dX10_hasPair_25 (by decide) ?_ ?_
    · refine z_iconst 32 dX10_hasPair_32 zci_0 ?_
      exact z_ireturn 33 (v := zb false) dX10_hasPair_33 rfl (zput_b false).1 (fun h => h)
    · refine z_iconst 28 dX10_hasPair_28 zci_1 ?_
      refine z_goto 29 33 dX10_hasPair_29 (by decide) ?_
      exact z_ireturn 33 (v := zb true) dX10_hasPair_33 rfl (zput_b true).1 (fun h => h)
def fX10_tookNow (p1 : Int32) (p2 : Int32) (M : zM) : Option Int32 :=
  grd (zix (9 : Int32) 10) (sq (fX7_tookBy 1 p1 p2 (M.1 11 (zn (9 : Int32))) M) (fun (x1 : Int32) => some x1))
set_option maxHeartbeats 4000000 in
set_option maxRecDepth 100000 in
theorem tX10_tookNow (E : zE) (p1 : Int32) (p2 : Int32) (M : zM) : zFi E mX10_tookNow [.ref 0, .int p1, .int p2] zY0 M (fX10_tookNow p1 p2 M) := by
  refine zF_of (L := [some (.ref 0), some (.int p1), some (.int p2)]) plX10 (Nat.le_of_ble_eq_true rfl) rfl (fun post => ?_)
  unfold fX10_tookNow
  refine z_aload_n 0 dX10_tookNow_0 rfl ?_
  refine z_getR 1 (r := 1) dX10_tookNow_1 fl_X10_12 zy_0 rfl ?_
  refine z_iload_n 4 dX10_tookNow_4 rfl ?_
  refine z_iload_n 5 dX10_tookNow_5 rfl ?_
  refine z_aload_n 6 dX10_tookNow_6 rfl ?_
  refine z_getR 7 (r := 1) dX10_tookNow_7 fl_X10_12 zy_0 rfl ?_
  refine z_getR 10 (r := 10) dX10_tookNow_10 fl_X10_97 zy_1 rfl ?_
  refine z_getR 13 (r := 11) dX10_tookNow_13 fl_X10_107 zy_10 rfl ?_
  refine z_bipush 16 dX10_tookNow_16 zbp_9 ?_
  refine z_iaload 18 dX10_tookNow_18 zy_11 ?_
  refine z_ci (zat_V3 19 dX10_tookNow_19 lk_X10_380 zy_1 rfl rfl ⟨Nat.le_of_ble_eq_true rfl, Nat.le_of_ble_eq_true rfl⟩ (Nat.le_of_ble_eq_true rfl)) (tX7_tookBy E zY0 1 zs_X7_1 p1 p2 (M.1 11 (zn (9 : Int32))) M) (fun x1 => ?_)
  exact z_ireturn 22 dX10_tookNow_22 rfl rfl (fun h => h)
def fX10_took (p1 : Int32) (p2 : Int32) (M : zM) : Option Int32 :=
  lt (fX10_hasPair p1 p2 M) (fun (b1 : Bool) => if b1 = false then (some (-10000 : Int32)) else (sq (fX10_tookNow p1 p2 M) (fun (x2 : Int32) => some x2)))
set_option maxHeartbeats 4000000 in
set_option maxRecDepth 100000 in
theorem tX10_took (E : zE) (p1 : Int32) (p2 : Int32) (M : zM) : zFi E mX10_took [.ref 0, .int p1, .int p2] zY0 M (fX10_took p1 p2 M) := by
  refine zF_of (L := [some (.ref 0), some (.int p1), some (.int p2)]) plX10 (Nat.le_of_ble_eq_true rfl) rfl (fun post => ?_)
  unfold fX10_took
  refine z_aload_n 0 dX10_took_0 rfl ?_
  refine z_iload_n 1 dX10_took_1 rfl ?_
  refine z_iload_n 2 dX10_took_2 rfl ?_
  refine z_ctb (zat_V2 3 dX10_took_3 lk_X10_158 zy_0 rfl rfl ⟨Nat.le_of_ble_eq_true rfl, Nat.le_of_ble_eq_true rfl⟩ (Nat.le_of_ble_eq_true rfl)) (tX10_hasPair E p1 p2 M) (fun b1 => ?_)
  refine z_ifeqb 6 18 dX10_took_6 (by decide) (fun _ => ?_) (fun _ => ?_)
  · refine z_sipush 18 dX10_took_18 zsp_m10000 ?_
    exact z_ireturn 21 dX10_took_21 rfl rfl (fun h => h)
  · refine z_aload_n 9 dX10_took_9 rfl ?_
    refine z_iload_n 10 dX10_took_10 rfl ?_
    refine z_iload_n 11 dX10_took_11 rfl ?_
    refine z_ci (zat_V2 12 dX10_took_12 lk_X10_161 zy_0 rfl rfl ⟨Nat.le_of_ble_eq_true rfl, Nat.le_of_ble_eq_true rfl⟩ (Nat.le_of_ble_eq_true rfl)) (tX10_tookNow E p1 p2 M) (fun x2 => ?_)
    refine z_goto 15 21 dX10_took_15 (by decide) ?_
    exact z_ireturn 21 dX10_took_21 rfl rfl (fun h => h)
def fX10_lookAtPairs (p1 : Int32) (M : zM) : Option zM :=
  sq (fX5_comparePlates 1 p1 M) (fun (M1 : zM) => grd (zix (9 : Int32) 10) (sq (fX5_addTimes 1 (M1.1 11 (zn (9 : Int32))) M1) (fun (M2 : zM) => some M2)))
set_option maxHeartbeats 4000000 in
set_option maxRecDepth 100000 in
theorem tX10_lookAtPairs (E : zE) (p1 : Int32) (M : zM) : zFV E mX10_lookAtPairs [.ref 0, .int p1] zY0 M (fX10_lookAtPairs p1 M) := by
  refine zF_of (L := [some (.ref 0), some (.int p1)]) plX10 (Nat.le_of_ble_eq_true rfl) rfl (fun post => ?_)
  unfold fX10_lookAtPairs
  refine z_aload_n 0 dX10_lookAtPairs_0 rfl ?_
  refine z_getR 1 (r := 55) dX10_lookAtPairs_1 fl_X10_44 zy_0 rfl ?_
  refine z_aload_n 4 dX10_lookAtPairs_4 rfl ?_
  refine z_getR 5 (r := 1) dX10_lookAtPairs_5 fl_X10_12 zy_0 rfl ?_
  refine z_iload_n 8 dX10_lookAtPairs_8 rfl ?_
  refine z_cV (zat_V2 9 dX10_lookAtPairs_9 lk_X10_298 zy_55 rfl rfl ⟨Nat.le_of_ble_eq_true rfl, Nat.le_of_ble_eq_true rfl⟩ (Nat.le_of_ble_eq_true rfl)) (tX5_comparePlates E 1 zs_X7_1 p1 M) (fun M1 => ?_)
  refine z_aload_n 12 dX10_lookAtPairs_12 rfl ?_
  refine z_getR 13 (r := 55) dX10_lookAtPairs_13 fl_X10_44 zy_0 rfl ?_
  refine z_aload_n 16 dX10_lookAtPairs_16 rfl ?_
  refine z_getR 17 (r := 1) dX10_lookAtPairs_17 fl_X10_12 zy_0 rfl ?_
  refine z_aload_n 20 dX10_lookAtPairs_20 rfl ?_
  refine z_getR 21 (r := 1) dX10_lookAtPairs_21 fl_X10_12 zy_0 rfl ?_
  refine z_getR 24 (r := 10) dX10_lookAtPairs_24 fl_X10_97 zy_1 rfl ?_
  refine z_getR 27 (r := 11) dX10_lookAtPairs_27 fl_X10_107 zy_10 rfl ?_
  refine z_bipush 30 dX10_lookAtPairs_30 zbp_9 ?_
  refine z_iaload 32 dX10_lookAtPairs_32 zy_11 ?_
  refine z_cV (zat_V2 33 dX10_lookAtPairs_33 lk_X10_302 zy_55 rfl rfl ⟨Nat.le_of_ble_eq_true rfl, Nat.le_of_ble_eq_true rfl⟩ (Nat.le_of_ble_eq_true rfl)) (tX5_addTimes E 1 zs_X7_1 (M1.1 11 (zn (9 : Int32))) M1) (fun M2 => ?_)
  exact z_return 36 dX10_lookAtPairs_36 rfl (fun h => h)
def fX10_cost (p1 : Int32) (p2 : Int32) (M : zM) : Option (Int32 × zM) :=
  lt (fX10_hasPair p1 p2 M) (fun (b1 : Bool) => if b1 = false then (some ((-1 : Int32), M)) else (sq (fX10_lookAtPairs (15 : Int32) M) (fun (M2 : zM) => sq (fX5_costOf p1 p2 M2) (fun (x3 : Int32) => some (x3, M2)))))
set_option maxHeartbeats 4000000 in
set_option maxRecDepth 100000 in
theorem tX10_cost (E : zE) (p1 : Int32) (p2 : Int32) (M : zM) : zFI E mX10_cost [.ref 0, .int p1, .int p2] zY0 M (fX10_cost p1 p2 M) := by
  refine zF_of (L := [some (.ref 0), some (.int p1), some (.int p2)]) plX10 (Nat.le_of_ble_eq_true rfl) rfl (fun post => ?_)
  unfold fX10_cost
  refine z_aload_n 0 dX10_cost_0 rfl ?_
  refine z_iload_n 1 dX10_cost_1 rfl ?_
  refine z_iload_n 2 dX10_cost_2 rfl ?_
  refine z_ctb (zat_V2 3 dX10_cost_3 lk_X10_158 zy_0 rfl rfl ⟨Nat.le_of_ble_eq_true rfl, Nat.le_of_ble_eq_true rfl⟩ (Nat.le_of_ble_eq_true rfl)) (tX10_hasPair E p1 p2 M) (fun b1 => ?_)
  refine z_ifneb 6 11 dX10_cost_6 (by decide) (fun _ => ?_) (fun _ => ?_)
  · refine z_iconst 9 dX10_cost_9 zci_m1 ?_
    exact z_ireturn 10 dX10_cost_10 rfl rfl (fun h => h)
  · refine z_aload_n 11 dX10_cost_11 rfl ?_
    refine z_bipush 12 dX10_cost_12 zbp_15 ?_
    refine z_cV (zat_V1 14 dX10_cost_14 lk_X10_164 zy_0 rfl rfl ⟨Nat.le_of_ble_eq_true rfl, Nat.le_of_ble_eq_true rfl⟩ (Nat.le_of_ble_eq_true rfl)) (tX10_lookAtPairs E (15 : Int32) M) (fun M2 => ?_)
    refine z_aload_n 17 dX10_cost_17 rfl ?_
    refine z_getR 18 (r := 55) dX10_cost_18 fl_X10_44 zy_0 rfl ?_
    refine z_iload_n 21 dX10_cost_21 rfl ?_
    refine z_iload_n 22 dX10_cost_22 rfl ?_
    refine z_ci (zat_V2 23 dX10_cost_23 lk_X10_167 zy_55 rfl rfl ⟨Nat.le_of_ble_eq_true rfl, Nat.le_of_ble_eq_true rfl⟩ (Nat.le_of_ble_eq_true rfl)) (tX5_costOf E p1 p2 M2) (fun x3 => ?_)
    exact z_ireturn 26 dX10_cost_26 rfl rfl (fun h => h)
def fX10_why (p1 : Int32) (p2 : Int32) (M : zM) : Option Int32 :=
  lt (fX10_hasPair p1 p2 M) (fun (b1 : Bool) => if b1 = false then (some (-1 : Int32)) else (sq (fX10_tookNow p1 p2 M) (fun (x2 : Int32) => grd (zix (0 : Int32) 10) (grd (zix (1 : Int32) 10) (lt (fX10_within x2 (M.1 11 (zn (0 : Int32))) (M.1 11 (zn (1 : Int32)))) (fun (b3 : Bool) => lt (if b3 = false then ((16 : Int32)) else ((0 : Int32))) (fun (x4 : Int32) => zlp (α := Int32 × Int32) (fun rec17 => (fun (u27 : Int32 × Int32) => match u27 with | (x15, x16) => if (4 : Int32) ≤ x16 then (some x15) else (grd (zix ((p1 * (4 : Int32)) + x16) 40) (lt ((M.1 5 (zn ((p1 * (4 : Int32)) + x16)))) (fun (x20 : Int32) => grd (zix ((p2 * (4 : Int32)) + x16) 40) (lt ((M.1 9 (zn ((p2 * (4 : Int32)) + x16)))) (fun (x21 : Int32) => sq (fX6_pointsOf 10 x20 x21 M) (fun (x22 : Int32) => lt (if x22 = (-4 : Int32) then (ltn ((x15 ||| ((1 : Int32) <<< (x16 &&& 31)))) (fun (x26 : Int32) => x26)) else (x15)) (fun (x24 : Int32) => rec17 (x24, (x16 + (1 : Int32)))))))))))) zFu (x4, (0 : Int32)))))))))
set_option maxHeartbeats 4000000 in
set_option maxRecDepth 100000 in
theorem tX10_why (E : zE) (p1 : Int32) (p2 : Int32) (M : zM) : zFi E mX10_why [.ref 0, .int p1, .int p2] zY0 M (fX10_why p1 p2 M) := by
  refine zF_of (L := [some (.ref 0), some (.int p1), some (.int p2), none, none, none, none, none]) plX10 (Nat.le_of_ble_eq_true rfl) rfl (fun post => ?_)
  unfold fX10_why
  refine z_aload_n 0 dX10_why_0 rfl ?_
  refine z_iload_n 1 dX10_why_1 rfl ?_
  refine z_iload_n 2 dX10_why_2 rfl ?_
  refine z_ctb (zat_V2 3 dX10_why_3 lk_X10_158 zy_0 rfl rfl ⟨Nat.le_of_ble_eq_true rfl, Nat.le_of_ble_eq_true rfl⟩ (Nat.le_of_ble_eq_true rfl)) (tX10_hasPair E p1 p2 M) (fun b1 => ?_)
  refine z_ifneb 6 11 dX10_why_6 (by decide) (fun _ => ?_) (fun _ => ?_)
  · refine z_iconst 9 dX10_why_9 zci_m1 ?_
    exact z_ireturn 10 dX10_why_10 rfl rfl (fun h => h)
  · refine z_aload_n 11 dX10_why_11 rfl ?_
    refine z_getR 12 (r := 1) dX10_why_12 fl_X10_12 zy_0 rfl ?_
    refine z_getR 15 (r := 10) dX10_why_15 fl_X10_97 zy_1 rfl ?_
    refine z_getR 18 (r := 11) dX10_why_18 fl_X10_107 zy_10 rfl ?_
    refine z_astore_n 21 (L' := [some (.ref 0), some (.int p1), some (.int p2), some (.ref 11), none, none, none, none]) dX10_why_21 (by decide) rfl ?_
    refine z_aload_n 22 dX10_why_22 rfl ?_
    refine z_iload_n 23 dX10_why_23 rfl ?_
    refine z_iload_n 24 dX10_why_24 rfl ?_
    refine z_ci (zat_V2 25 dX10_why_25 lk_X10_161 zy_0 rfl rfl ⟨Nat.le_of_ble_eq_true rfl, Nat.le_of_ble_eq_true rfl⟩ (Nat.le_of_ble_eq_true rfl)) (tX10_tookNow E p1 p2 M) (fun x2 => ?_)
    refine z_aload_n 28 dX10_why_28 rfl ?_
    refine z_iconst 29 dX10_why_29 zci_0 ?_
    refine z_iaload 30 dX10_why_30 zy_11 ?_
    refine z_aload_n 31 dX10_why_31 rfl ?_
    refine z_iconst 32 dX10_why_32 zci_1 ?_
    refine z_iaload 33 dX10_why_33 zy_11 ?_
    refine z_ctb (zat_S3 34 dX10_why_34 lk_X10_89 ⟨Nat.le_of_ble_eq_true rfl, Nat.le_of_ble_eq_true rfl⟩ (Nat.le_of_ble_eq_true rfl)) (tX10_within E zY0 x2 (M.1 11 (zn (0 : Int32))) (M.1 11 (zn (1 : Int32))) M) (fun b3 => ?_)
    refine zk_ltj (α := Int32) 46 (fun (x4 : Int32) => [some (.ref 0), some (.int p1), some (.int p2), none, none, none, none, none]) (fun (x4 : Int32) => [.int x4]) (fun (x4 : Int32) => (zY0, M)) ?_ ?_
    · intro x4
      refine z_istore 46 (L' := [some (.ref 0), some (.int p1), some (.int p2), none, some (.int x4), none, none, none]) dX10_why_46 (by decide) rfl ?_
      refine z_iconst 48 dX10_why_48 zci_0 ?_
      refine z_istore 49 (L' := [some (.ref 0), some (.int p1), some (.int p2), none, some (.int x4), some (.int (0 : Int32)), none, none]) dX10_why_49 (by decide) rfl ?_
      refine zk_weak (L' := [some (.ref 0), some (.int p1), some (.int p2), none, some (.int x4), some (.int (0 : Int32)), none, none]) (zLe_s (zLe_s (zLe_s (zLe_n (zLe_s (zLe_s (zLe_n (zLe_n zLe_nl)))))))) (zk_lp (α := Int32 × Int32) 51 (fun (u18 : Int32 × Int32) => match u18 with | (x15, x16) => [some (.ref 0), some (.int p1), some (.int p2), none, some (.int x15), some (.int x16), none, none]) (fun (u19 : Int32 × Int32) => match u19 with | (x15, x16) => (zY0, M)) ?_ zFu (x4, (0 : Int32)))
      intro rec17 hrec17
      intro u28
      obtain ⟨x15, x16⟩ := u28
      try dsimp only
      refine z_iload 51 dX10_why_51 rfl ?_
      refine z_iconst 53 dX10_why_53 zci_4 ?_
      refine z_icge 54 129 dX10_why_54 (by decide) (fun _ => ?_) (fun _ => ?_)
      · refine z_iload 129 dX10_why_129 rfl ?_
        exact z_ireturn 131 dX10_why_131 rfl rfl (fun h => h)
      · refine z_aload_n 57 dX10_why_57 rfl ?_
        refine z_getR 58 (r := 1) dX10_why_58 fl_X10_12 zy_0 rfl ?_
        refine z_getR 61 (r := 2) dX10_why_61 fl_X10_170 zy_1 rfl ?_
        refine z_getR 64 (r := 5) dX10_why_64 fl_X10_155 zy_2 rfl ?_
        refine z_iload_n 67 dX10_why_67 rfl ?_
        refine z_iconst 68 dX10_why_68 zci_4 ?_
        refine z_imul 69 dX10_why_69 ?_
        refine z_iload 70 dX10_why_70 rfl ?_
        refine z_iadd 72 dX10_why_72 ?_
        refine z_iaload 73 dX10_why_73 zy_5 ?_
        refine zk_nmI (fun x20 => ?_)
        refine z_istore 74 (L' := [some (.ref 0), some (.int p1), some (.int p2), none, some (.int x15), some (.int x16), some (.int x20), none]) dX10_why_74 (by decide) rfl ?_
        refine z_aload_n 76 dX10_why_76 rfl ?_
        refine z_getR 77 (r := 1) dX10_why_77 fl_X10_12 zy_0 rfl ?_
        refine z_getR 80 (r := 6) dX10_why_80 fl_X10_174 zy_1 rfl ?_
        refine z_getR 83 (r := 9) dX10_why_83 fl_X10_155 zy_6 rfl ?_
        refine z_iload_n 86 dX10_why_86 rfl ?_
        refine z_iconst 87 dX10_why_87 zci_4 ?_
        refine z_imul 88 dX10_why_88 ?_
        refine z_iload 89 dX10_why_89 rfl ?_
        refine z_iadd 91 dX10_why_91 ?_
        refine z_iaload 92 dX10_why_92 zy_9 ?_
        refine zk_nmI (fun x21 => ?_)
        refine z_istore 93 (L' := [some (.ref 0), some (.int p1), some (.int p2), none, some (.int x15), some (.int x16), some (.int x20), some (.int x21)]) dX10_why_93 (by decide) rfl ?_
        refine z_aload_n 95 dX10_why_95 rfl ?_
        refine z_getR 96 (r := 1) dX10_why_96 fl_X10_12 zy_0 rfl ?_
        refine z_getR 99 (r := 10) dX10_why_99 fl_X10_97 zy_1 rfl ?_
        refine z_iload 102 dX10_why_102 rfl ?_
        refine z_iload 104 dX10_why_104 rfl ?_
        refine z_ci (zat_V2 106 dX10_why_106 lk_X10_177 zy_10 rfl rfl ⟨Nat.le_of_ble_eq_true rfl, Nat.le_of_ble_eq_true rfl⟩ (Nat.le_of_ble_eq_true rfl)) (tX6_pointsOf E zY0 10 zs_X6_10 x20 x21 M) (fun x22 => ?_)
        refine z_bipush 109 dX10_why_109 zbp_m4 ?_
        refine zk_ltj (α := Int32) 123 (fun (x24 : Int32) => [some (.ref 0), some (.int p1), some (.int p2), none, some (.int x24), some (.int x16), none, none]) (fun (x24 : Int32) => []) (fun (x24 : Int32) => (zY0, M)) ?_ ?_
        · intro x24
          refine z_iinc 123 (v := (x16 + (1 : Int32))) (L' := [some (.ref 0), some (.int p1), some (.int p2), none, some (.int x24), some (.int (x16 + (1 : Int32))), none, none]) dX10_why_123 rfl (zinc zci_1 _) (by decide) rfl ?_
          refine z_goto 126 51 dX10_why_126 (by decide) ?_
          exact zk_weak (L' := [some (.ref 0), some (.int p1), some (.int p2), none, some (.int x24), some (.int (x16 + (1 : Int32))), none, none]) (zLe_s (zLe_s (zLe_s (zLe_n (zLe_s (zLe_s (zLe_n (zLe_n zLe_nl)))))))) (hrec17 (x24, (x16 + (1 : Int32))))
        · intro k25 hk25
          refine z_icnev 111 123 dX10_why_111 (by decide) ?_ ?_
          · refine z_iload 114 dX10_why_114 rfl ?_
            refine z_iconst 116 dX10_why_116 zci_1 ?_
            refine z_iload 117 dX10_why_117 rfl ?_
            refine z_ishl 119 dX10_why_119 ?_
            refine z_ior 120 dX10_why_120 ?_
            refine zk_nvI (fun x26 => ?_)
            refine z_istore 121 (L' := [some (.ref 0), some (.int p1), some (.int p2), none, some (.int x26), some (.int x16), some (.int x20), some (.int x21)]) dX10_why_121 (by decide) rfl ?_
            exact zk_weak (L' := [some (.ref 0), some (.int p1), some (.int p2), none, some (.int x26), some (.int x16), none, none]) (zLe_s (zLe_s (zLe_s (zLe_n (zLe_s (zLe_s (zLe_n (zLe_n zLe_nl)))))))) (hk25 x26)
          · exact zk_weak (L' := [some (.ref 0), some (.int p1), some (.int p2), none, some (.int x15), some (.int x16), none, none]) (zLe_s (zLe_s (zLe_s (zLe_n (zLe_s (zLe_s (zLe_n (zLe_n zLe_nl)))))))) (hk25 x15)
    · intro k29 hk29
      refine z_ifeqbv 37 44 dX10_why_37 (by decide) ?_ ?_
      · refine z_bipush 44 dX10_why_44 zbp_16 ?_
        exact zk_weak (L' := [some (.ref 0), some (.int p1), some (.int p2), none, none, none, none, none]) (zLe_s (zLe_s (zLe_s (zLe_n (zLe_n (zLe_n (zLe_n (zLe_n zLe_nl)))))))) (hk29 (16 : Int32))
      · refine z_iconst 40 dX10_why_40 zci_0 ?_
        refine z_goto 41 46 dX10_why_41 (by decide) ?_
        exact zk_weak (L' := [some (.ref 0), some (.int p1), some (.int p2), none, none, none, none, none]) (zLe_s (zLe_s (zLe_s (zLe_n (zLe_n (zLe_n (zLe_n (zLe_n zLe_nl)))))))) (hk29 (0 : Int32))
def fX10_best (p1 : Int32) (M : zM) : Option (Int64 × zM) :=
  lt (fX10_within p1 (0 : Int32) (3 : Int32)) (fun (b1 : Bool) => if b1 = false then (some ((-1 : Int64), M)) else (sq (fX10_lookAtPairs (15 : Int32) M) (fun (M2 : zM) => if p1 = (0 : Int32) then (bi (fX4_leastTotal M2) (fun (x4 : Int64) (M3 : zM) => some (x4, M3))) else (if p1 = (1 : Int32) then (bi (fX0_countBest M2) (fun (x6 : Int64) (M5 : zM) => some (x6, M5))) else (if p1 = (2 : Int32) then (bi (fX0_countAll (-4 : Int32) (-4 : Int32) M2) (fun (x8 : Int64) (M7 : zM) => some (x8, M7))) else (some (((M2.1 55 2)).toInt64, M2)))))))
set_option maxHeartbeats 4000000 in
set_option maxRecDepth 100000 in
theorem tX10_best (E : zE) (p1 : Int32) (M : zM) : zFJ E mX10_best [.ref 0, .int p1] zY0 M (fX10_best p1 M) := by
  refine zF_of (L := [some (.ref 0), some (.int p1)]) plX10 (Nat.le_of_ble_eq_true rfl) rfl (fun post => ?_)
  unfold fX10_best
  refine z_iload_n 0 dX10_best_0 rfl ?_
  refine z_iconst 1 dX10_best_1 zci_0 ?_
  refine z_iconst 2 dX10_best_2 zci_3 ?_
  refine z_ctb (zat_S3 3 dX10_best_3 lk_X10_89 ⟨Nat.le_of_ble_eq_true rfl, Nat.le_of_ble_eq_true rfl⟩ (Nat.le_of_ble_eq_true rfl)) (tX10_within E zY0 p1 (0 : Int32) (3 : Int32) M) (fun b1 => ?_)
  refine z_ifneb 6 13 dX10_best_6 (by decide) (fun _ => ?_) (fun _ => ?_)
  · refine z_ldc2 9 dX10_best_9 cw_X10_180 ?_
    exact z_lreturn 12 dX10_best_12 rfl (fun h => h)
  · refine z_aload_n 13 dX10_best_13 rfl ?_
    refine z_bipush 14 dX10_best_14 zbp_15 ?_
    refine z_cV (zat_V1 16 dX10_best_16 lk_X10_164 zy_0 rfl rfl ⟨Nat.le_of_ble_eq_true rfl, Nat.le_of_ble_eq_true rfl⟩ (Nat.le_of_ble_eq_true rfl)) (tX10_lookAtPairs E (15 : Int32) M) (fun M2 => ?_)
    refine z_iload_n 19 dX10_best_19 rfl ?_
    refine z_tsc 20 48 (k := 0) (off := 28) dX10_best_20 (by decide) (by decide) (by decide) (by decide) ?_ (fun n1 => ?_)
    · refine z_aload_n 48 dX10_best_48 rfl ?_
      refine z_getR 49 (r := 58) dX10_best_49 fl_X10_53 zy_0 rfl ?_
      refine z_cJ (zat_V0 52 dX10_best_52 lk_X10_182 zy_58 rfl rfl ⟨Nat.le_of_ble_eq_true rfl, Nat.le_of_ble_eq_true rfl⟩ (Nat.le_of_ble_eq_true rfl)) (tX4_leastTotal E M2) (fun x4 M3 => ?_)
      exact z_lreturn 55 dX10_best_55 rfl (fun h => h)
    · refine z_tsc 20 56 (k := 1) (off := 36) dX10_best_20 (by decide) (by decide) (by decide) (by decide) ?_ (fun n2 => ?_)
      · refine z_aload_n 56 dX10_best_56 rfl ?_
        refine z_getR 57 (r := 67) dX10_best_57 fl_X10_60 zy_0 rfl ?_
        refine z_aload_n 60 dX10_best_60 rfl ?_
        refine z_getR 61 (r := 55) dX10_best_61 fl_X10_44 zy_0 rfl ?_
        refine z_cJ (zat_V1 64 dX10_best_64 lk_X10_186 zy_67 rfl rfl ⟨Nat.le_of_ble_eq_true rfl, Nat.le_of_ble_eq_true rfl⟩ (Nat.le_of_ble_eq_true rfl)) (tX0_countBest E M2) (fun x6 M5 => ?_)
        exact z_lreturn 67 dX10_best_67 rfl (fun h => h)
      · refine z_tsc 20 68 (k := 2) (off := 48) dX10_best_20 (by decide) (by decide) (by decide) (by decide) ?_ (fun n3 => ?_)
        · refine z_aload_n 68 dX10_best_68 rfl ?_
          refine z_getR 69 (r := 67) dX10_best_69 fl_X10_60 zy_0 rfl ?_
          refine z_aload_n 72 dX10_best_72 rfl ?_
          refine z_getR 73 (r := 55) dX10_best_73 fl_X10_44 zy_0 rfl ?_
          refine z_bipush 76 dX10_best_76 zbp_m4 ?_
          refine z_bipush 78 dX10_best_78 zbp_m4 ?_
          refine z_cJ (zat_V3 80 dX10_best_80 lk_X10_190 zy_67 rfl rfl ⟨Nat.le_of_ble_eq_true rfl, Nat.le_of_ble_eq_true rfl⟩ (Nat.le_of_ble_eq_true rfl)) (tX0_countAll E (-4 : Int32) (-4 : Int32) M2) (fun x8 M7 => ?_)
          exact z_lreturn 83 dX10_best_83 rfl (fun h => h)
        · refine z_tsd 20 84 dX10_best_20 (by have e1 := zne n1 (a := 0) (by decide); have e2 := zne n2 (a := 1) (by decide); have e3 := zne n3 (a := 2) (by decide); omega) (by decide) ?_
          refine z_aload_n 84 dX10_best_84 rfl ?_
          refine z_getR 85 (r := 55) dX10_best_85 fl_X10_44 zy_0 rfl ?_
          refine z_getI 88 dX10_best_88 fl_X10_194 zy_55 rfl ?_
          refine z_i2l 91 dX10_best_91 ?_
          exact z_lreturn 92 dX10_best_92 rfl (fun h => h)
def fX10_findFirst (M : zM) : Option zM :=
  sq (fX10_lookAtPairs (15 : Int32) M) (fun (M1 : zM) => sq (fX4_findFirst M1) (fun (M2 : zM) => some M2))
set_option maxHeartbeats 4000000 in
set_option maxRecDepth 100000 in
theorem tX10_findFirst (E : zE)  (M : zM) : zFV E mX10_findFirst [.ref 0] zY0 M (fX10_findFirst M) := by
  refine zF_of (L := [some (.ref 0)]) plX10 (Nat.le_of_ble_eq_true rfl) rfl (fun post => ?_)
  unfold fX10_findFirst
  refine z_aload_n 0 dX10_findFirst_0 rfl ?_
  refine z_bipush 1 dX10_findFirst_1 zbp_15 ?_
  refine z_cV (zat_V1 3 dX10_findFirst_3 lk_X10_164 zy_0 rfl rfl ⟨Nat.le_of_ble_eq_true rfl, Nat.le_of_ble_eq_true rfl⟩ (Nat.le_of_ble_eq_true rfl)) (tX10_lookAtPairs E (15 : Int32) M) (fun M1 => ?_)
  refine z_aload_n 6 dX10_findFirst_6 rfl ?_
  refine z_getR 7 (r := 58) dX10_findFirst_7 fl_X10_53 zy_0 rfl ?_
  refine z_cV (zat_V0 10 dX10_findFirst_10 lk_X10_384 zy_58 rfl rfl ⟨Nat.le_of_ble_eq_true rfl, Nat.le_of_ble_eq_true rfl⟩ (Nat.le_of_ble_eq_true rfl)) (tX4_findFirst E M1) (fun M2 => ?_)
  exact z_return 13 dX10_findFirst_13 rfl (fun h => h)
def fX10_first (p1 : Int32) (M : zM) : Option (Int32 × zM) :=
  lt (fX2_has 2 p1 M) (fun (b1 : Bool) => if b1 = false then (some ((-1 : Int32), M)) else (sq (fX10_findFirst M) (fun (M2 : zM) => grd (zix p1 10) (some ((M2.1 66 (zn p1)), M2)))))
set_option maxHeartbeats 4000000 in
set_option maxRecDepth 100000 in
theorem tX10_first (E : zE) (p1 : Int32) (M : zM) : zFI E mX10_first [.ref 0, .int p1] zY0 M (fX10_first p1 M) := by
  refine zF_of (L := [some (.ref 0), some (.int p1)]) plX10 (Nat.le_of_ble_eq_true rfl) rfl (fun post => ?_)
  unfold fX10_first
  refine z_aload_n 0 dX10_first_0 rfl ?_
  refine z_getR 1 (r := 1) dX10_first_1 fl_X10_12 zy_0 rfl ?_
  refine z_getR 4 (r := 2) dX10_first_4 fl_X10_170 zy_1 rfl ?_
  refine z_iload_n 7 dX10_first_7 rfl ?_
  refine z_ctb (zat_V1 8 dX10_first_8 lk_X10_197 zy_2 rfl rfl ⟨Nat.le_of_ble_eq_true rfl, Nat.le_of_ble_eq_true rfl⟩ (Nat.le_of_ble_eq_true rfl)) (tX2_has E zY0 2 zs_X2_2 p1 M) (fun b1 => ?_)
  refine z_ifneb 11 16 dX10_first_11 (by decide) (fun _ => ?_) (fun _ => ?_)
  · refine z_iconst 14 dX10_first_14 zci_m1 ?_
    exact z_ireturn 15 dX10_first_15 rfl rfl (fun h => h)
  · refine z_aload_n 16 dX10_first_16 rfl ?_
    refine z_cV (zat_V0 17 dX10_first_17 lk_X10_200 zy_0 rfl rfl ⟨Nat.le_of_ble_eq_true rfl, Nat.le_of_ble_eq_true rfl⟩ (Nat.le_of_ble_eq_true rfl)) (tX10_findFirst E M) (fun M2 => ?_)
    refine z_aload_n 20 dX10_first_20 rfl ?_
    refine z_getR 21 (r := 58) dX10_first_21 fl_X10_53 zy_0 rfl ?_
    refine z_getR 24 (r := 66) dX10_first_24 fl_X10_203 zy_58 rfl ?_
    refine z_iload_n 27 dX10_first_27 rfl ?_
    refine z_iaload 28 dX10_first_28 zy_66 ?_
    exact z_ireturn 29 dX10_first_29 rfl rfl (fun h => h)
def fX10_sure (p1 : Int32) (p2 : Int32) (M : zM) : Option (Int32 × zM) :=
  lt (fX10_hasPair p1 p2 M) (fun (b1 : Bool) => if b1 = false then (some ((-1 : Int32), M)) else (sq (fX10_lookAtPairs (15 : Int32) M) (fun (M2 : zM) => sq (fX5_mayBe p1 p2 M2) (fun (b3 : Bool) => if b3 = false then (some ((0 : Int32), M2)) else (bi (fX4_leastWith p1 p2 M2) (fun (x5 : Int64) (M4 : zM) => bi (fX4_leastTotal M4) (fun (x7 : Int64) (M6 : zM) => if x5 ≤ x7 then (bi (fX4_isInAllBest p1 p2 M6) (fun (b9 : Bool) (M8 : zM) => if b9 = false then (some ((1 : Int32), M8)) else (some ((2 : Int32), M8)))) else (some ((0 : Int32), M6)))))))))
set_option maxHeartbeats 4000000 in
set_option maxRecDepth 100000 in
theorem tX10_sure (E : zE) (p1 : Int32) (p2 : Int32) (M : zM) : zFI E mX10_sure [.ref 0, .int p1, .int p2] zY0 M (fX10_sure p1 p2 M) := by
  refine zF_of (L := [some (.ref 0), some (.int p1), some (.int p2)]) plX10 (Nat.le_of_ble_eq_true rfl) rfl (fun post => ?_)
  unfold fX10_sure
  refine z_aload_n 0 dX10_sure_0 rfl ?_
  refine z_iload_n 1 dX10_sure_1 rfl ?_
  refine z_iload_n 2 dX10_sure_2 rfl ?_
  refine z_ctb (zat_V2 3 dX10_sure_3 lk_X10_158 zy_0 rfl rfl ⟨Nat.le_of_ble_eq_true rfl, Nat.le_of_ble_eq_true rfl⟩ (Nat.le_of_ble_eq_true rfl)) (tX10_hasPair E p1 p2 M) (fun b1 => ?_)
  refine z_ifneb 6 11 dX10_sure_6 (by decide) (fun _ => ?_) (fun _ => ?_)
  · refine z_iconst 9 dX10_sure_9 zci_m1 ?_
    exact z_ireturn 10 dX10_sure_10 rfl rfl (fun h => h)
  · refine z_aload_n 11 dX10_sure_11 rfl ?_
    refine z_bipush 12 dX10_sure_12 zbp_15 ?_
    refine z_cV (zat_V1 14 dX10_sure_14 lk_X10_164 zy_0 rfl rfl ⟨Nat.le_of_ble_eq_true rfl, Nat.le_of_ble_eq_true rfl⟩ (Nat.le_of_ble_eq_true rfl)) (tX10_lookAtPairs E (15 : Int32) M) (fun M2 => ?_)
    refine z_aload_n 17 dX10_sure_17 rfl ?_
    refine z_getR 18 (r := 55) dX10_sure_18 fl_X10_44 zy_0 rfl ?_
    refine z_iload_n 21 dX10_sure_21 rfl ?_
    refine z_iload_n 22 dX10_sure_22 rfl ?_
    refine z_cb (zat_V2 23 dX10_sure_23 lk_X10_206 zy_55 rfl rfl ⟨Nat.le_of_ble_eq_true rfl, Nat.le_of_ble_eq_true rfl⟩ (Nat.le_of_ble_eq_true rfl)) (tX5_mayBe E p1 p2 M2) (fun b3 => ?_)
    refine z_ifeqb 26 49 dX10_sure_26 (by decide) (fun _ => ?_) (fun _ => ?_)
    · refine z_iconst 49 dX10_sure_49 zci_0 ?_
      exact z_ireturn 50 dX10_sure_50 rfl rfl (fun h => h)
    · refine z_aload_n 29 dX10_sure_29 rfl ?_
      refine z_getR 30 (r := 58) dX10_sure_30 fl_X10_53 zy_0 rfl ?_
      refine z_iload_n 33 dX10_sure_33 rfl ?_
      refine z_iload_n 34 dX10_sure_34 rfl ?_
      refine z_cJ (zat_V2 35 dX10_sure_35 lk_X10_209 zy_58 rfl rfl ⟨Nat.le_of_ble_eq_true rfl, Nat.le_of_ble_eq_true rfl⟩ (Nat.le_of_ble_eq_true rfl)) (tX4_leastWith E p1 p2 M2) (fun x5 M4 => ?_)
      refine z_aload_n 38 dX10_sure_38 rfl ?_
      refine z_getR 39 (r := 58) dX10_sure_39 fl_X10_53 zy_0 rfl ?_
      refine z_cJ (zat_V0 42 dX10_sure_42 lk_X10_182 zy_58 rfl rfl ⟨Nat.le_of_ble_eq_true rfl, Nat.le_of_ble_eq_true rfl⟩ (Nat.le_of_ble_eq_true rfl)) (tX4_leastTotal E M4) (fun x7 M6 => ?_)
      refine z_lcmp 45 dX10_sure_45 ?_
      refine z_lcle 46 51 dX10_sure_46 (by decide) (fun _ => ?_) (fun _ => ?_)
      · refine z_aload_n 51 dX10_sure_51 rfl ?_
        refine z_getR 52 (r := 58) dX10_sure_52 fl_X10_53 zy_0 rfl ?_
        refine z_iload_n 55 dX10_sure_55 rfl ?_
        refine z_iload_n 56 dX10_sure_56 rfl ?_
        refine z_cB (zat_V2 57 dX10_sure_57 lk_X10_213 zy_58 rfl rfl ⟨Nat.le_of_ble_eq_true rfl, Nat.le_of_ble_eq_true rfl⟩ (Nat.le_of_ble_eq_true rfl)) (tX4_isInAllBest E p1 p2 M6) (fun b9 M8 => ?_)
        refine z_ifeqb 60 67 dX10_sure_60 (by decide) (fun _ => ?_) (fun _ => ?_)
        · refine z_iconst 67 dX10_sure_67 zci_1 ?_
          exact z_ireturn 68 dX10_sure_68 rfl rfl (fun h => h)
        · refine z_iconst 63 dX10_sure_63 zci_2 ?_
          refine z_goto 64 68 dX10_sure_64 (by decide) ?_
          exact z_ireturn 68 dX10_sure_68 rfl rfl (fun h => h)
      · refine z_iconst 49 dX10_sure_49 zci_0 ?_
        exact z_ireturn 50 dX10_sure_50 rfl rfl (fun h => h)
def fX10_partOfFraction (p1 : Int64) (p2 : Int64) (p3 : Int32) : Option Int64 :=
  sq (α := Int64) (zlp (α := Int64 × Int64 × Int32) (β := Int64) (fun rec12 => (fun (u19 : Int64 × Int64 × Int32) => match u19 with | (x9, x10, x11) => if (128 : Int32) ≤ x11 then (some x9) else (if x10 = (0 : Int64) then (some x9) else (grd (¬ x10 = 0) (lt ((zrm_l x9 x10)) (fun (x16 : Int64) => rec12 (x10, x16, (x11 + (1 : Int32))))))))) zFu (p2, p1, (0 : Int32))) (fun (x15 : Int64) => lt (if p3 = 0 then (p1) else (p2)) (fun (x17 : Int64) => if x15 = (0 : Int64) then (some x17) else (grd (¬ x15 = 0) (some (x17 / x15)))))
set_option maxHeartbeats 4000000 in
set_option maxRecDepth 100000 in
theorem tX10_partOfFraction (E : zE) (Y : zY) (p1 : Int64) (p2 : Int64) (p3 : Int32) (M : zM) : zFj E mX10_partOfFraction [.long p1, .long p2, .int p3] Y M (fX10_partOfFraction p1 p2 p3) := by
  refine zF_of (L := [some (.long p1), none, some (.long p2), none, some (.int p3), none, none, none, none, none, none, none]) plX10 (Nat.le_of_ble_eq_true rfl) rfl (fun post => ?_)
  unfold fX10_partOfFraction
  refine z_lload_n 0 dX10_partOfFraction_0 rfl ?_
  refine z_lstore 1 (L' := [some (.long p1), none, some (.long p2), none, some (.int p3), some (.long p2), none, none, none, none, none, none]) dX10_partOfFraction_1 (by decide) rfl ?_
  refine z_lload_n 3 dX10_partOfFraction_3 rfl ?_
  refine z_lstore 4 (L' := [some (.long p1), none, some (.long p2), none, some (.int p3), some (.long p2), none, some (.long p1), none, none, none, none]) dX10_partOfFraction_4 (by decide) rfl ?_
  refine z_iconst 6 dX10_partOfFraction_6 zci_0 ?_
  refine z_istore 7 (L' := [some (.long p1), none, some (.long p2), none, some (.int p3), some (.long p2), none, some (.long p1), none, some (.int (0 : Int32)), none, none]) dX10_partOfFraction_7 (by decide) rfl ?_
  refine zk_sqj (α := Int64) 45 (fun (x15 : Int64) => [some (.long p1), none, some (.long p2), none, some (.int p3), some (.long x15), none, none, none, none, none, none]) (fun (x15 : Int64) => []) (fun (x15 : Int64) => (Y, M)) ?_ ?_
  · intro x15
    refine z_iload 45 dX10_partOfFraction_45 rfl ?_
    refine zk_ltj (α := Int64) 55 (fun (x17 : Int64) => [none, none, none, none, none, some (.long x15), none, none, none, none, none, none]) (fun (x17 : Int64) => [.long x17]) (fun (x17 : Int64) => (Y, M)) ?_ ?_
    · intro x17
      refine z_lstore 55 (L' := [none, none, none, none, none, some (.long x15), none, none, none, some (.long x17), none, none]) dX10_partOfFraction_55 (by decide) rfl ?_
      refine z_lload 57 dX10_partOfFraction_57 rfl ?_
      refine z_lconst 59 dX10_partOfFraction_59 zlc_0 ?_
      refine z_lcmp 60 dX10_partOfFraction_60 ?_
      refine z_lcne 61 69 dX10_partOfFraction_61 (by decide) (fun _ => ?_) (fun _ => ?_)
      · refine z_lload 64 dX10_partOfFraction_64 rfl ?_
        refine z_goto 66 74 dX10_partOfFraction_66 (by decide) ?_
        exact z_lreturn 74 dX10_partOfFraction_74 rfl (fun h => h)
      · refine z_lload 69 dX10_partOfFraction_69 rfl ?_
        refine z_lload 71 dX10_partOfFraction_71 rfl ?_
        refine z_ldiv 73 dX10_partOfFraction_73 ?_
        exact z_lreturn 74 dX10_partOfFraction_74 rfl (fun h => h)
    · intro k18 hk18
      refine z_ifnev 47 54 dX10_partOfFraction_47 (by decide) ?_ ?_
      · refine z_lload_n 50 dX10_partOfFraction_50 rfl ?_
        refine z_goto 51 55 dX10_partOfFraction_51 (by decide) ?_
        exact zk_weak (L' := [none, none, none, none, none, some (.long x15), none, none, none, none, none, none]) (zLe_n (zLe_n (zLe_n (zLe_n (zLe_n (zLe_s (zLe_n (zLe_n (zLe_n (zLe_n (zLe_n (zLe_n zLe_nl)))))))))))) (hk18 p1)
      · refine z_lload_n 54 dX10_partOfFraction_54 rfl ?_
        exact zk_weak (L' := [none, none, none, none, none, some (.long x15), none, none, none, none, none, none]) (zLe_n (zLe_n (zLe_n (zLe_n (zLe_n (zLe_s (zLe_n (zLe_n (zLe_n (zLe_n (zLe_n (zLe_n zLe_nl)))))))))))) (hk18 p2)
  · refine zk_weak (L' := [some (.long p1), none, some (.long p2), none, some (.int p3), some (.long p2), none, some (.long p1), none, some (.int (0 : Int32)), none, none]) (zLe_s (zLe_n (zLe_s (zLe_n (zLe_s (zLe_s (zLe_n (zLe_s (zLe_n (zLe_s (zLe_n (zLe_n zLe_nl)))))))))))) (zk_lp (α := Int64 × Int64 × Int32) 9 (fun (u13 : Int64 × Int64 × Int32) => match u13 with | (x9, x10, x11) => [some (.long p1), none, some (.long p2), none, some (.int p3), some (.long x9), none, some (.long x10), none, some (.int x11), none, none]) (fun (u14 : Int64 × Int64 × Int32) => match u14 with | (x9, x10, x11) => (Y, M)) ?_ zFu (p2, p1, (0 : Int32)))
    intro rec12 hrec12
    intro u20
    obtain ⟨x9, x10, x11⟩ := u20
    try dsimp only
    refine z_iload 9 dX10_partOfFraction_9 rfl ?_
    refine z_sipush 11 dX10_partOfFraction_11 zsp_128 ?_
    refine z_icge 14 45 dX10_partOfFraction_14 (by decide) (fun _ => ?_) (fun _ => ?_)
    · exact zk_exitw (L' := [some (.long p1), none, some (.long p2), none, some (.int p3), some (.long x9), none, none, none, none, none, none]) (zLe_s (zLe_n (zLe_s (zLe_n (zLe_s (zLe_s (zLe_n (zLe_n (zLe_n (zLe_n (zLe_n (zLe_n zLe_nl)))))))))))) (fun h => h)
    · refine z_lload 17 dX10_partOfFraction_17 rfl ?_
      refine z_lconst 19 dX10_partOfFraction_19 zlc_0 ?_
      refine z_lcmp 20 dX10_partOfFraction_20 ?_
      refine z_lceq 21 45 dX10_partOfFraction_21 (by decide) (fun _ => ?_) (fun _ => ?_)
      · exact zk_exitw (L' := [some (.long p1), none, some (.long p2), none, some (.int p3), some (.long x9), none, none, none, none, none, none]) (zLe_s (zLe_n (zLe_s (zLe_n (zLe_s (zLe_s (zLe_n (zLe_n (zLe_n (zLe_n (zLe_n (zLe_n zLe_nl)))))))))))) (fun h => h)
      · refine z_lload 24 dX10_partOfFraction_24 rfl ?_
        refine z_lload 26 dX10_partOfFraction_26 rfl ?_
        refine z_lrem 28 dX10_partOfFraction_28 ?_
        refine zk_nmL (fun x16 => ?_)
        refine z_lstore 29 (L' := [some (.long p1), none, some (.long p2), none, some (.int p3), some (.long x9), none, some (.long x10), none, some (.int x11), some (.long x16), none]) dX10_partOfFraction_29 (by decide) rfl ?_
        refine z_lload 31 dX10_partOfFraction_31 rfl ?_
        refine z_lstore 33 (L' := [some (.long p1), none, some (.long p2), none, some (.int p3), some (.long x10), none, some (.long x10), none, some (.int x11), some (.long x16), none]) dX10_partOfFraction_33 (by decide) rfl ?_
        refine z_lload 35 dX10_partOfFraction_35 rfl ?_
        refine z_lstore 37 (L' := [some (.long p1), none, some (.long p2), none, some (.int p3), some (.long x10), none, some (.long x16), none, some (.int x11), some (.long x16), none]) dX10_partOfFraction_37 (by decide) rfl ?_
        refine z_iinc 39 (v := (x11 + (1 : Int32))) (L' := [some (.long p1), none, some (.long p2), none, some (.int p3), some (.long x10), none, some (.long x16), none, some (.int (x11 + (1 : Int32))), some (.long x16), none]) dX10_partOfFraction_39 rfl (zinc zci_1 _) (by decide) rfl ?_
        refine z_goto 42 9 dX10_partOfFraction_42 (by decide) ?_
        exact zk_weak (L' := [some (.long p1), none, some (.long p2), none, some (.int p3), some (.long x10), none, some (.long x16), none, some (.int (x11 + (1 : Int32))), none, none]) (zLe_s (zLe_n (zLe_s (zLe_n (zLe_s (zLe_s (zLe_n (zLe_s (zLe_n (zLe_s (zLe_n (zLe_n zLe_nl)))))))))))) (hrec12 (x10, x16, (x11 + (1 : Int32))))
def fX10_share (p1 : Int32) (p2 : Int32) (p3 : Int32) (M : zM) : Option (Int64 × zM) :=
  lt (fX10_hasPair p1 p2 M) (fun (b1 : Bool) => if b1 = false then (some ((-1 : Int64), M)) else (lt (fX10_within p3 (0 : Int32) (1 : Int32)) (fun (b2 : Bool) => if b2 = false then (some ((-1 : Int64), M)) else (sq (fX10_lookAtPairs (15 : Int32) M) (fun (M3 : zM) => sq (fX5_mayBe p1 p2 M3) (fun (b4 : Bool) => sq (α := Int64 × zM) (if b4 = false then (some ((0 : Int64), M3)) else (bi (fX0_countAll p1 p2 M3) (fun (x16 : Int64) (M15 : zM) => some (x16, M15)))) (fun (u17 : Int64 × zM) => match u17 with | (x7, M8) => bi (fX0_countAll (-4 : Int32) (-4 : Int32) M8) (fun (x10 : Int64) (M9 : zM) => sq (fX10_partOfFraction x7 x10 p3) (fun (x11 : Int64) => some (x11, M9))))))))))
set_option maxHeartbeats 4000000 in
set_option maxRecDepth 100000 in
theorem tX10_share (E : zE) (p1 : Int32) (p2 : Int32) (p3 : Int32) (M : zM) : zFJ E mX10_share [.ref 0, .int p1, .int p2, .int p3] zY0 M (fX10_share p1 p2 p3 M) := by
  refine zF_of (L := [some (.ref 0), some (.int p1), some (.int p2), some (.int p3), none, none, none, none]) plX10 (Nat.le_of_ble_eq_true rfl) rfl (fun post => ?_)
  unfold fX10_share
  refine z_aload_n 0 dX10_share_0 rfl ?_
  refine z_iload_n 1 dX10_share_1 rfl ?_
  refine z_iload_n 2 dX10_share_2 rfl ?_
  refine z_ctb (zat_V2 3 dX10_share_3 lk_X10_158 zy_0 rfl rfl ⟨Nat.le_of_ble_eq_true rfl, Nat.le_of_ble_eq_true rfl⟩ (Nat.le_of_ble_eq_true rfl)) (tX10_hasPair E p1 p2 M) (fun b1 => ?_)
  refine z_ifeqb 6 18 dX10_share_6 (by decide) (fun _ => ?_) (fun _ => ?_)
  · refine z_ldc2 18 dX10_share_18 cw_X10_180 ?_
    exact z_lreturn 21 dX10_share_21 rfl (fun h => h)
  · refine z_iload_n 9 dX10_share_9 rfl ?_
    refine z_iconst 10 dX10_share_10 zci_0 ?_
    refine z_iconst 11 dX10_share_11 zci_1 ?_
    refine z_ctb (zat_S3 12 dX10_share_12 lk_X10_89 ⟨Nat.le_of_ble_eq_true rfl, Nat.le_of_ble_eq_true rfl⟩ (Nat.le_of_ble_eq_true rfl)) (tX10_within E zY0 p3 (0 : Int32) (1 : Int32) M) (fun b2 => ?_)
    refine z_ifneb 15 22 dX10_share_15 (by decide) (fun _ => ?_) (fun _ => ?_)
    · refine z_ldc2 18 dX10_share_18 cw_X10_180 ?_
      exact z_lreturn 21 dX10_share_21 rfl (fun h => h)
    · refine z_aload_n 22 dX10_share_22 rfl ?_
      refine z_bipush 23 dX10_share_23 zbp_15 ?_
      refine z_cV (zat_V1 25 dX10_share_25 lk_X10_164 zy_0 rfl rfl ⟨Nat.le_of_ble_eq_true rfl, Nat.le_of_ble_eq_true rfl⟩ (Nat.le_of_ble_eq_true rfl)) (tX10_lookAtPairs E (15 : Int32) M) (fun M3 => ?_)
      refine z_aload_n 28 dX10_share_28 rfl ?_
      refine z_getR 29 (r := 55) dX10_share_29 fl_X10_44 zy_0 rfl ?_
      refine z_iload_n 32 dX10_share_32 rfl ?_
      refine z_iload_n 33 dX10_share_33 rfl ?_
      refine z_cb (zat_V2 34 dX10_share_34 lk_X10_206 zy_55 rfl rfl ⟨Nat.le_of_ble_eq_true rfl, Nat.le_of_ble_eq_true rfl⟩ (Nat.le_of_ble_eq_true rfl)) (tX5_mayBe E p1 p2 M3) (fun b4 => ?_)
      refine zk_sqj (α := Int64 × zM) 57 (fun (u12 : Int64 × zM) => match u12 with | (x7, M8) => [some (.ref 0), none, none, some (.int p3), none, none, none, none]) (fun (u13 : Int64 × zM) => match u13 with | (x7, M8) => [.long x7]) (fun (u14 : Int64 × zM) => match u14 with | (x7, M8) => (zY0, M8)) ?_ ?_
      · intro u18
        obtain ⟨x7, M8⟩ := u18
        try dsimp only
        refine z_lstore 57 (L' := [some (.ref 0), none, none, some (.int p3), some (.long x7), none, none, none]) dX10_share_57 (by decide) rfl ?_
        refine z_aload_n 59 dX10_share_59 rfl ?_
        refine z_getR 60 (r := 67) dX10_share_60 fl_X10_60 zy_0 rfl ?_
        refine z_aload_n 63 dX10_share_63 rfl ?_
        refine z_getR 64 (r := 55) dX10_share_64 fl_X10_44 zy_0 rfl ?_
        refine z_bipush 67 dX10_share_67 zbp_m4 ?_
        refine z_bipush 69 dX10_share_69 zbp_m4 ?_
        refine z_cJ (zat_V3 71 dX10_share_71 lk_X10_190 zy_67 rfl rfl ⟨Nat.le_of_ble_eq_true rfl, Nat.le_of_ble_eq_true rfl⟩ (Nat.le_of_ble_eq_true rfl)) (tX0_countAll E (-4 : Int32) (-4 : Int32) M8) (fun x10 M9 => ?_)
        refine z_lstore 74 (L' := [some (.ref 0), none, none, some (.int p3), some (.long x7), none, some (.long x10), none]) dX10_share_74 (by decide) rfl ?_
        refine z_lload 76 dX10_share_76 rfl ?_
        refine z_lload 78 dX10_share_78 rfl ?_
        refine z_iload_n 80 dX10_share_80 rfl ?_
        refine z_cj (zat_S3 81 dX10_share_81 lk_X10_216 ⟨Nat.le_of_ble_eq_true rfl, Nat.le_of_ble_eq_true rfl⟩ (Nat.le_of_ble_eq_true rfl)) (tX10_partOfFraction E zY0 x7 x10 p3 M9) (fun x11 => ?_)
        exact z_lreturn 84 dX10_share_84 rfl (fun h => h)
      · refine z_ifeqb 37 56 dX10_share_37 (by decide) (fun _ => ?_) (fun _ => ?_)
        · refine z_lconst 56 dX10_share_56 zlc_0 ?_
          exact zk_exitw (L' := [some (.ref 0), none, none, some (.int p3), none, none, none, none]) (zLe_s (zLe_n (zLe_n (zLe_s (zLe_n (zLe_n (zLe_n (zLe_n zLe_nl)))))))) (fun h => h)
        · refine z_aload_n 40 dX10_share_40 rfl ?_
          refine z_getR 41 (r := 67) dX10_share_41 fl_X10_60 zy_0 rfl ?_
          refine z_aload_n 44 dX10_share_44 rfl ?_
          refine z_getR 45 (r := 55) dX10_share_45 fl_X10_44 zy_0 rfl ?_
          refine z_iload_n 48 dX10_share_48 rfl ?_
          refine z_iload_n 49 dX10_share_49 rfl ?_
          refine z_cJ (zat_V3 50 dX10_share_50 lk_X10_190 zy_67 rfl rfl ⟨Nat.le_of_ble_eq_true rfl, Nat.le_of_ble_eq_true rfl⟩ (Nat.le_of_ble_eq_true rfl)) (tX0_countAll E p1 p2 M3) (fun x16 M15 => ?_)
          refine z_goto 53 57 dX10_share_53 (by decide) ?_
          exact zk_exitw (L' := [some (.ref 0), none, none, some (.int p3), none, none, none, none]) (zLe_s (zLe_n (zLe_n (zLe_s (zLe_n (zLe_n (zLe_n (zLe_n zLe_nl)))))))) (fun h => h)
def fX10_ifMust (p1 : Int32) (p2 : Int32) (p3 : Int32) (M : zM) : Option (Int32 × zM) :=
  lt (fX10_hasPair p1 p2 M) (fun (b1 : Bool) => if b1 = false then (some ((-1 : Int32), M)) else (sq (fX10_lookAtPairs (15 : Int32) M) (fun (M2 : zM) => if p3 = 0 then (bi (fX4_leastWithout p1 p2 M2) (fun (x4 : Int64) (M3 : zM) => bi (fX4_leastTotal M3) (fun (x6 : Int64) (M5 : zM) => some (((x4 - x6)).toInt32, M5)))) else (sq (fX5_mayBe p1 p2 M2) (fun (b7 : Bool) => if b7 = false then (some ((-4 : Int32), M2)) else (bi (fX4_leastWith p1 p2 M2) (fun (x9 : Int64) (M8 : zM) => bi (fX4_leastTotal M8) (fun (x11 : Int64) (M10 : zM) => some (((x9 - x11)).toInt32, M10)))))))))
set_option maxHeartbeats 4000000 in
set_option maxRecDepth 100000 in
theorem tX10_ifMust (E : zE) (p1 : Int32) (p2 : Int32) (p3 : Int32) (M : zM) : zFI E mX10_ifMust [.ref 0, .int p1, .int p2, .int p3] zY0 M (fX10_ifMust p1 p2 p3 M) := by
  refine zF_of (L := [some (.ref 0), some (.int p1), some (.int p2), some (.int p3)]) plX10 (Nat.le_of_ble_eq_true rfl) rfl (fun post => ?_)
  unfold fX10_ifMust
  refine z_aload_n 0 dX10_ifMust_0 rfl ?_
  refine z_iload_n 1 dX10_ifMust_1 rfl ?_
  refine z_iload_n 2 dX10_ifMust_2 rfl ?_
  refine z_ctb (zat_V2 3 dX10_ifMust_3 lk_X10_158 zy_0 rfl rfl ⟨Nat.le_of_ble_eq_true rfl, Nat.le_of_ble_eq_true rfl⟩ (Nat.le_of_ble_eq_true rfl)) (tX10_hasPair E p1 p2 M) (fun b1 => ?_)
  refine z_ifneb 6 11 dX10_ifMust_6 (by decide) (fun _ => ?_) (fun _ => ?_)
  · refine z_iconst 9 dX10_ifMust_9 zci_m1 ?_
    exact z_ireturn 10 dX10_ifMust_10 rfl rfl (fun h => h)
  · refine z_aload_n 11 dX10_ifMust_11 rfl ?_
    refine z_bipush 12 dX10_ifMust_12 zbp_15 ?_
    refine z_cV (zat_V1 14 dX10_ifMust_14 lk_X10_164 zy_0 rfl rfl ⟨Nat.le_of_ble_eq_true rfl, Nat.le_of_ble_eq_true rfl⟩ (Nat.le_of_ble_eq_true rfl)) (tX10_lookAtPairs E (15 : Int32) M) (fun M2 => ?_)
    refine z_iload_n 17 dX10_ifMust_17 rfl ?_
    refine z_ifne 18 40 dX10_ifMust_18 (by decide) (fun _ => ?_) (fun _ => ?_)
    · refine z_aload_n 21 dX10_ifMust_21 rfl ?_
      refine z_getR 22 (r := 58) dX10_ifMust_22 fl_X10_53 zy_0 rfl ?_
      refine z_iload_n 25 dX10_ifMust_25 rfl ?_
      refine z_iload_n 26 dX10_ifMust_26 rfl ?_
      refine z_cJ (zat_V2 27 dX10_ifMust_27 lk_X10_220 zy_58 rfl rfl ⟨Nat.le_of_ble_eq_true rfl, Nat.le_of_ble_eq_true rfl⟩ (Nat.le_of_ble_eq_true rfl)) (tX4_leastWithout E p1 p2 M2) (fun x4 M3 => ?_)
      refine z_aload_n 30 dX10_ifMust_30 rfl ?_
      refine z_getR 31 (r := 58) dX10_ifMust_31 fl_X10_53 zy_0 rfl ?_
      refine z_cJ (zat_V0 34 dX10_ifMust_34 lk_X10_182 zy_58 rfl rfl ⟨Nat.le_of_ble_eq_true rfl, Nat.le_of_ble_eq_true rfl⟩ (Nat.le_of_ble_eq_true rfl)) (tX4_leastTotal E M3) (fun x6 M5 => ?_)
      refine z_lsub 37 dX10_ifMust_37 ?_
      refine z_l2i 38 dX10_ifMust_38 ?_
      exact z_ireturn 39 dX10_ifMust_39 rfl rfl (fun h => h)
    · refine z_aload_n 40 dX10_ifMust_40 rfl ?_
      refine z_getR 41 (r := 55) dX10_ifMust_41 fl_X10_44 zy_0 rfl ?_
      refine z_iload_n 44 dX10_ifMust_44 rfl ?_
      refine z_iload_n 45 dX10_ifMust_45 rfl ?_
      refine z_cb (zat_V2 46 dX10_ifMust_46 lk_X10_206 zy_55 rfl rfl ⟨Nat.le_of_ble_eq_true rfl, Nat.le_of_ble_eq_true rfl⟩ (Nat.le_of_ble_eq_true rfl)) (tX5_mayBe E p1 p2 M2) (fun b7 => ?_)
      refine z_ifeqb 49 73 dX10_ifMust_49 (by decide) (fun _ => ?_) (fun _ => ?_)
      · refine z_bipush 73 dX10_ifMust_73 zbp_m4 ?_
        exact z_ireturn 75 dX10_ifMust_75 rfl rfl (fun h => h)
      · refine z_aload_n 52 dX10_ifMust_52 rfl ?_
        refine z_getR 53 (r := 58) dX10_ifMust_53 fl_X10_53 zy_0 rfl ?_
        refine z_iload_n 56 dX10_ifMust_56 rfl ?_
        refine z_iload_n 57 dX10_ifMust_57 rfl ?_
        refine z_cJ (zat_V2 58 dX10_ifMust_58 lk_X10_209 zy_58 rfl rfl ⟨Nat.le_of_ble_eq_true rfl, Nat.le_of_ble_eq_true rfl⟩ (Nat.le_of_ble_eq_true rfl)) (tX4_leastWith E p1 p2 M2) (fun x9 M8 => ?_)
        refine z_aload_n 61 dX10_ifMust_61 rfl ?_
        refine z_getR 62 (r := 58) dX10_ifMust_62 fl_X10_53 zy_0 rfl ?_
        refine z_cJ (zat_V0 65 dX10_ifMust_65 lk_X10_182 zy_58 rfl rfl ⟨Nat.le_of_ble_eq_true rfl, Nat.le_of_ble_eq_true rfl⟩ (Nat.le_of_ble_eq_true rfl)) (tX4_leastTotal E M8) (fun x11 M10 => ?_)
        refine z_lsub 68 dX10_ifMust_68 ?_
        refine z_l2i 69 dX10_ifMust_69 ?_
        refine z_goto 70 75 dX10_ifMust_70 (by decide) ?_
        exact z_ireturn 75 dX10_ifMust_75 rfl rfl (fun h => h)
def fX10_alone (p1 : Int32) (p2 : Int32) (M : zM) : Option (Int32 × zM) :=
  lt (fX10_isEnd p1) (fun (b1 : Bool) => if b1 = false then (some ((-1 : Int32), M)) else (lt (fX10_within p2 (0 : Int32) (2 : Int32)) (fun (b2 : Bool) => if b2 = false then (some ((-1 : Int32), M)) else (sq (fX10_lookAtPairs (15 : Int32) M) (fun (M3 : zM) => lt (fX10_linesAt p1) (fun (s4 : Nat) => lt ((M3.1 s4 0)) (fun (x5 : Int32) => zlp (α := Int32 × Int32 × zM) (fun rec51 => (fun (u87 : Int32 × Int32 × zM) => match u87 with | (x48, x49, M50) => if x5 ≤ x49 then (some (x48, M50)) else (sq (α := Int32 × zM) (jn (α := zM) (fun (M77 : zM) => lt ((x48 ||| ((1 : Int32) <<< (x49 &&& 31)))) (fun (x78 : Int32) => some (x78, M77))) (fun k79 => if p2 = (2 : Int32) then (sq (fX5_mayBeNone p1 x49 M50) (fun (b80 : Bool) => if b80 = false then (some (x48, M50)) else (k79 M50))) else (lt (if p2 = 0 then (true) else (false)) (fun (b81 : Bool) => bi (fX4_isAlone p1 x49 (zb b81) M50) (fun (b83 : Bool) (M82 : zM) => if b83 = false then (some (x48, M82)) else (k79 M82)))))) (fun (u85 : Int32 × zM) => match u85 with | (x67, M68) => rec51 (x67, (x49 + (1 : Int32)), M68))))) zFu ((0 : Int32), (0 : Int32), M3))))))))
set_option maxHeartbeats 4000000 in
set_option maxRecDepth 100000 in
theorem tX10_alone (E : zE) (p1 : Int32) (p2 : Int32) (M : zM) : zFI E mX10_alone [.ref 0, .int p1, .int p2] zY0 M (fX10_alone p1 p2 M) := by
  refine zF_of (L := [some (.ref 0), some (.int p1), some (.int p2), none, none, none]) plX10 (Nat.le_of_ble_eq_true rfl) rfl (fun post => ?_)
  unfold fX10_alone
  refine z_iload_n 0 dX10_alone_0 rfl ?_
  refine z_ctb (zat_S1 1 dX10_alone_1 lk_X10_117 ⟨Nat.le_of_ble_eq_true rfl, Nat.le_of_ble_eq_true rfl⟩ (Nat.le_of_ble_eq_true rfl)) (tX10_isEnd E zY0 p1 M) (fun b1 => ?_)
  refine z_ifeqb 4 16 dX10_alone_4 (by decide) (fun _ => ?_) (fun _ => ?_)
  · refine z_iconst 16 dX10_alone_16 zci_m1 ?_
    exact z_ireturn 17 dX10_alone_17 rfl rfl (fun h => h)
  · refine z_iload_n 7 dX10_alone_7 rfl ?_
    refine z_iconst 8 dX10_alone_8 zci_0 ?_
    refine z_iconst 9 dX10_alone_9 zci_2 ?_
    refine z_ctb (zat_S3 10 dX10_alone_10 lk_X10_89 ⟨Nat.le_of_ble_eq_true rfl, Nat.le_of_ble_eq_true rfl⟩ (Nat.le_of_ble_eq_true rfl)) (tX10_within E zY0 p2 (0 : Int32) (2 : Int32) M) (fun b2 => ?_)
    refine z_ifneb 13 18 dX10_alone_13 (by decide) (fun _ => ?_) (fun _ => ?_)
    · refine z_iconst 16 dX10_alone_16 zci_m1 ?_
      exact z_ireturn 17 dX10_alone_17 rfl rfl (fun h => h)
    · refine z_aload_n 18 dX10_alone_18 rfl ?_
      refine z_bipush 19 dX10_alone_19 zbp_15 ?_
      refine z_cV (zat_V1 21 dX10_alone_21 lk_X10_164 zy_0 rfl rfl ⟨Nat.le_of_ble_eq_true rfl, Nat.le_of_ble_eq_true rfl⟩ (Nat.le_of_ble_eq_true rfl)) (tX10_lookAtPairs E (15 : Int32) M) (fun M3 => ?_)
      refine z_iconst 24 dX10_alone_24 zci_0 ?_
      refine z_istore_n 25 (L' := [some (.ref 0), some (.int p1), some (.int p2), some (.int (0 : Int32)), none, none]) dX10_alone_25 (by decide) rfl ?_
      refine z_aload_n 26 dX10_alone_26 rfl ?_
      refine z_iload_n 27 dX10_alone_27 rfl ?_
      refine z_ctaP (zat_V1 28 dX10_alone_28 lk_X10_121 zy_0 rfl rfl ⟨Nat.le_of_ble_eq_true rfl, Nat.le_of_ble_eq_true rfl⟩ (Nat.le_of_ble_eq_true rfl)) (tX10_linesAt E p1 M3) (P := zsX2 zY0) (zpX10_linesAt p1) (fun s4 hs4 => ?_)
      refine z_getI 31 dX10_alone_31 fl_X10_125 hs4.1 rfl ?_
      refine zk_nmI (fun x5 => ?_)
      refine z_istore 34 (L' := [some (.ref 0), some (.int p1), some (.int p2), some (.int (0 : Int32)), some (.int x5), none]) dX10_alone_34 (by decide) rfl ?_
      refine z_iconst 36 dX10_alone_36 zci_0 ?_
      refine z_istore 37 (L' := [some (.ref 0), some (.int p1), some (.int p2), some (.int (0 : Int32)), some (.int x5), some (.int (0 : Int32))]) dX10_alone_37 (by decide) rfl ?_
      refine zk_weak (L' := [some (.ref 0), some (.int p1), some (.int p2), some (.int (0 : Int32)), some (.int x5), some (.int (0 : Int32))]) (zLe_s (zLe_s (zLe_s (zLe_s (zLe_s (zLe_s zLe_nl)))))) (zk_lp (α := Int32 × Int32 × zM) 39 (fun (u52 : Int32 × Int32 × zM) => match u52 with | (x48, x49, M50) => [some (.ref 0), some (.int p1), some (.int p2), some (.int x48), some (.int x5), some (.int x49)]) (fun (u53 : Int32 × Int32 × zM) => match u53 with | (x48, x49, M50) => (zY0, M50)) ?_ zFu ((0 : Int32), (0 : Int32), M3))
      intro rec51 hrec51
      intro u88
      obtain ⟨x48, x49, M50⟩ := u88
      try dsimp only
      refine z_iload 39 dX10_alone_39 rfl ?_
      refine z_iload 41 dX10_alone_41 rfl ?_
      refine z_icge 43 102 dX10_alone_43 (by decide) (fun _ => ?_) (fun _ => ?_)
      · refine z_iload_n 102 dX10_alone_102 rfl ?_
        exact z_ireturn 103 dX10_alone_103 rfl rfl (fun h => h)
      · refine z_iload_n 46 dX10_alone_46 rfl ?_
        refine z_iconst 47 dX10_alone_47 zci_2 ?_
        refine zk_sqj (α := Int32 × zM) 96 (fun (u69 : Int32 × zM) => match u69 with | (x67, M68) => [some (.ref 0), some (.int p1), some (.int p2), some (.int x67), some (.int x5), some (.int x49)]) (fun (u70 : Int32 × zM) => match u70 with | (x67, M68) => []) (fun (u71 : Int32 × zM) => match u71 with | (x67, M68) => (zY0, M68)) ?_ ?_
        · intro u86
          obtain ⟨x67, M68⟩ := u86
          try dsimp only
          refine z_iinc 96 (v := (x49 + (1 : Int32))) (L' := [some (.ref 0), some (.int p1), some (.int p2), some (.int x67), some (.int x5), some (.int (x49 + (1 : Int32)))]) dX10_alone_96 rfl (zinc zci_1 _) (by decide) rfl ?_
          refine z_goto 99 39 dX10_alone_99 (by decide) ?_
          exact zk_weak (L' := [some (.ref 0), some (.int p1), some (.int p2), some (.int x67), some (.int x5), some (.int (x49 + (1 : Int32)))]) (zLe_s (zLe_s (zLe_s (zLe_s (zLe_s (zLe_s zLe_nl)))))) (hrec51 (x67, (x49 + (1 : Int32)), M68))
        · refine zk_jn (α := zM) 89 (fun (M77 : zM) => [some (.ref 0), some (.int p1), some (.int p2), some (.int x48), some (.int x5), some (.int x49)]) (fun (M77 : zM) => []) (fun (M77 : zM) => (zY0, M77)) ?_ ?_
          · intro M77
            refine z_iload_n 89 dX10_alone_89 rfl ?_
            refine z_iconst 90 dX10_alone_90 zci_1 ?_
            refine z_iload 91 dX10_alone_91 rfl ?_
            refine z_ishl 93 dX10_alone_93 ?_
            refine z_ior 94 dX10_alone_94 ?_
            refine zk_nmI (fun x78 => ?_)
            refine z_istore_n 95 (L' := [some (.ref 0), some (.int p1), some (.int p2), some (.int x78), some (.int x5), some (.int x49)]) dX10_alone_95 (by decide) rfl ?_
            exact zk_exitw (L' := [some (.ref 0), some (.int p1), some (.int p2), some (.int x78), some (.int x5), some (.int x49)]) (zLe_s (zLe_s (zLe_s (zLe_s (zLe_s (zLe_s zLe_nl)))))) (fun h => h)
          · intro k79 hk79
            refine z_icne 48 67 dX10_alone_48 (by decide) (fun _ => ?_) (fun _ => ?_)
            · refine z_aload_n 51 dX10_alone_51 rfl ?_
              refine z_getR 52 (r := 55) dX10_alone_52 fl_X10_44 zy_0 rfl ?_
              refine z_iload_n 55 dX10_alone_55 rfl ?_
              refine z_iload 56 dX10_alone_56 rfl ?_
              refine z_cb (zat_V2 58 dX10_alone_58 lk_X10_223 zy_55 rfl rfl ⟨Nat.le_of_ble_eq_true rfl, Nat.le_of_ble_eq_true rfl⟩ (Nat.le_of_ble_eq_true rfl)) (tX5_mayBeNone E p1 x49 M50) (fun b80 => ?_)
              refine z_ifeqb 61 96 dX10_alone_61 (by decide) (fun _ => ?_) (fun _ => ?_)
              · exact zk_exitw (L' := [some (.ref 0), some (.int p1), some (.int p2), some (.int x48), some (.int x5), some (.int x49)]) (zLe_s (zLe_s (zLe_s (zLe_s (zLe_s (zLe_s zLe_nl)))))) (fun h => h)
              · refine z_goto 64 89 dX10_alone_64 (by decide) ?_
                exact zk_weak (L' := [some (.ref 0), some (.int p1), some (.int p2), some (.int x48), some (.int x5), some (.int x49)]) (zLe_s (zLe_s (zLe_s (zLe_s (zLe_s (zLe_s zLe_nl)))))) (hk79 M50)
            · refine z_aload_n 67 dX10_alone_67 rfl ?_
              refine z_getR 68 (r := 58) dX10_alone_68 fl_X10_53 zy_0 rfl ?_
              refine z_iload_n 71 dX10_alone_71 rfl ?_
              refine z_iload 72 dX10_alone_72 rfl ?_
              refine z_iload_n 74 dX10_alone_74 rfl ?_
              refine zk_ltj (α := Bool) 83 (fun (b81 : Bool) => [some (.ref 0), some (.int p1), some (.int p2), some (.int x48), some (.int x5), some (.int x49)]) (fun (b81 : Bool) => [.int (zb b81), .int x49, .int p1, .ref 58]) (fun (b81 : Bool) => (zY0, M50)) ?_ ?_
              · intro b81
                refine z_cB (zat_V3 83 dX10_alone_83 lk_X10_226 zy_58 rfl rfl ⟨Nat.le_of_ble_eq_true rfl, Nat.le_of_ble_eq_true rfl⟩ (Nat.le_of_ble_eq_true rfl)) (tX4_isAlone E p1 x49 (zb b81) M50) (fun b83 M82 => ?_)
                refine z_ifeqb 86 96 dX10_alone_86 (by decide) (fun _ => ?_) (fun _ => ?_)
                · exact zk_exitw (L' := [some (.ref 0), some (.int p1), some (.int p2), some (.int x48), some (.int x5), some (.int x49)]) (zLe_s (zLe_s (zLe_s (zLe_s (zLe_s (zLe_s zLe_nl)))))) (fun h => h)
                · exact zk_weak (L' := [some (.ref 0), some (.int p1), some (.int p2), some (.int x48), some (.int x5), some (.int x49)]) (zLe_s (zLe_s (zLe_s (zLe_s (zLe_s (zLe_s zLe_nl)))))) (hk79 M82)
              · intro k84 hk84
                refine z_ifnev 75 82 dX10_alone_75 (by decide) ?_ ?_
                · refine z_iconst 78 dX10_alone_78 zci_1 ?_
                  refine z_goto 79 83 dX10_alone_79 (by decide) ?_
                  exact zk_weak (L' := [some (.ref 0), some (.int p1), some (.int p2), some (.int x48), some (.int x5), some (.int x49)]) (zLe_s (zLe_s (zLe_s (zLe_s (zLe_s (zLe_s zLe_nl)))))) (hk84 true)
                · refine z_iconst 82 dX10_alone_82 zci_0 ?_
                  exact zk_weak (L' := [some (.ref 0), some (.int p1), some (.int p2), some (.int x48), some (.int x5), some (.int x49)]) (zLe_s (zLe_s (zLe_s (zLe_s (zLe_s (zLe_s zLe_nl)))))) (hk84 false)
def fX10_many (p1 : Int32) (M : zM) : Option (Int32 × zM) :=
  lt (fX10_within p1 (0 : Int32) (1 : Int32)) (fun (b1 : Bool) => if b1 = false then (some ((-1 : Int32), M)) else (sq (fX10_lookAtPairs (15 : Int32) M) (fun (M2 : zM) => if p1 = 0 then (bi (fX4_fewestInBest M2) (fun (x4 : Int32) (M3 : zM) => some (x4, M3))) else (bi (fX4_mostInBest M2) (fun (x6 : Int32) (M5 : zM) => some (x6, M5))))))
set_option maxHeartbeats 4000000 in
set_option maxRecDepth 100000 in
theorem tX10_many (E : zE) (p1 : Int32) (M : zM) : zFI E mX10_many [.ref 0, .int p1] zY0 M (fX10_many p1 M) := by
  refine zF_of (L := [some (.ref 0), some (.int p1)]) plX10 (Nat.le_of_ble_eq_true rfl) rfl (fun post => ?_)
  unfold fX10_many
  refine z_iload_n 0 dX10_many_0 rfl ?_
  refine z_iconst 1 dX10_many_1 zci_0 ?_
  refine z_iconst 2 dX10_many_2 zci_1 ?_
  refine z_ctb (zat_S3 3 dX10_many_3 lk_X10_89 ⟨Nat.le_of_ble_eq_true rfl, Nat.le_of_ble_eq_true rfl⟩ (Nat.le_of_ble_eq_true rfl)) (tX10_within E zY0 p1 (0 : Int32) (1 : Int32) M) (fun b1 => ?_)
  refine z_ifneb 6 11 dX10_many_6 (by decide) (fun _ => ?_) (fun _ => ?_)
  · refine z_iconst 9 dX10_many_9 zci_m1 ?_
    exact z_ireturn 10 dX10_many_10 rfl rfl (fun h => h)
  · refine z_aload_n 11 dX10_many_11 rfl ?_
    refine z_bipush 12 dX10_many_12 zbp_15 ?_
    refine z_cV (zat_V1 14 dX10_many_14 lk_X10_164 zy_0 rfl rfl ⟨Nat.le_of_ble_eq_true rfl, Nat.le_of_ble_eq_true rfl⟩ (Nat.le_of_ble_eq_true rfl)) (tX10_lookAtPairs E (15 : Int32) M) (fun M2 => ?_)
    refine z_iload_n 17 dX10_many_17 rfl ?_
    refine z_ifne 18 31 dX10_many_18 (by decide) (fun _ => ?_) (fun _ => ?_)
    · refine z_aload_n 21 dX10_many_21 rfl ?_
      refine z_getR 22 (r := 58) dX10_many_22 fl_X10_53 zy_0 rfl ?_
      refine z_cI (zat_V0 25 dX10_many_25 lk_X10_230 zy_58 rfl rfl ⟨Nat.le_of_ble_eq_true rfl, Nat.le_of_ble_eq_true rfl⟩ (Nat.le_of_ble_eq_true rfl)) (tX4_fewestInBest E M2) (fun x4 M3 => ?_)
      refine z_goto 28 38 dX10_many_28 (by decide) ?_
      exact z_ireturn 38 dX10_many_38 rfl rfl (fun h => h)
    · refine z_aload_n 31 dX10_many_31 rfl ?_
      refine z_getR 32 (r := 58) dX10_many_32 fl_X10_53 zy_0 rfl ?_
      refine z_cI (zat_V0 35 dX10_many_35 lk_X10_234 zy_58 rfl rfl ⟨Nat.le_of_ble_eq_true rfl, Nat.le_of_ble_eq_true rfl⟩ (Nat.le_of_ble_eq_true rfl)) (tX4_mostInBest E M2) (fun x6 M5 => ?_)
      exact z_ireturn 38 dX10_many_38 rfl rfl (fun h => h)
def fX10_ways (p1 : Int32) (M : zM) : Option (Int64 × zM) :=
  lt (fX10_within p1 (0 : Int32) (10 : Int32)) (fun (b1 : Bool) => if b1 = false then (some ((-1 : Int64), M)) else (sq (fX10_lookAtPairs (15 : Int32) M) (fun (M2 : zM) => sq (fX0_spreadAll (-4 : Int32) (-4 : Int32) M2) (fun (M3 : zM) => sq (fX0_countOfSize p1 M3) (fun (x4 : Int64) => some (x4, M3))))))
set_option maxHeartbeats 4000000 in
set_option maxRecDepth 100000 in
theorem tX10_ways (E : zE) (p1 : Int32) (M : zM) : zFJ E mX10_ways [.ref 0, .int p1] zY0 M (fX10_ways p1 M) := by
  refine zF_of (L := [some (.ref 0), some (.int p1)]) plX10 (Nat.le_of_ble_eq_true rfl) rfl (fun post => ?_)
  unfold fX10_ways
  refine z_iload_n 0 dX10_ways_0 rfl ?_
  refine z_iconst 1 dX10_ways_1 zci_0 ?_
  refine z_bipush 2 dX10_ways_2 zbp_10 ?_
  refine z_ctb (zat_S3 4 dX10_ways_4 lk_X10_89 ⟨Nat.le_of_ble_eq_true rfl, Nat.le_of_ble_eq_true rfl⟩ (Nat.le_of_ble_eq_true rfl)) (tX10_within E zY0 p1 (0 : Int32) (10 : Int32) M) (fun b1 => ?_)
  refine z_ifneb 7 14 dX10_ways_7 (by decide) (fun _ => ?_) (fun _ => ?_)
  · refine z_ldc2 10 dX10_ways_10 cw_X10_180 ?_
    exact z_lreturn 13 dX10_ways_13 rfl (fun h => h)
  · refine z_aload_n 14 dX10_ways_14 rfl ?_
    refine z_bipush 15 dX10_ways_15 zbp_15 ?_
    refine z_cV (zat_V1 17 dX10_ways_17 lk_X10_164 zy_0 rfl rfl ⟨Nat.le_of_ble_eq_true rfl, Nat.le_of_ble_eq_true rfl⟩ (Nat.le_of_ble_eq_true rfl)) (tX10_lookAtPairs E (15 : Int32) M) (fun M2 => ?_)
    refine z_aload_n 20 dX10_ways_20 rfl ?_
    refine z_getR 21 (r := 67) dX10_ways_21 fl_X10_60 zy_0 rfl ?_
    refine z_aload_n 24 dX10_ways_24 rfl ?_
    refine z_getR 25 (r := 55) dX10_ways_25 fl_X10_44 zy_0 rfl ?_
    refine z_bipush 28 dX10_ways_28 zbp_m4 ?_
    refine z_bipush 30 dX10_ways_30 zbp_m4 ?_
    refine z_cV (zat_V3 32 dX10_ways_32 lk_X10_237 zy_67 rfl rfl ⟨Nat.le_of_ble_eq_true rfl, Nat.le_of_ble_eq_true rfl⟩ (Nat.le_of_ble_eq_true rfl)) (tX0_spreadAll E (-4 : Int32) (-4 : Int32) M2) (fun M3 => ?_)
    refine z_aload_n 35 dX10_ways_35 rfl ?_
    refine z_getR 36 (r := 67) dX10_ways_36 fl_X10_60 zy_0 rfl ?_
    refine z_aload_n 39 dX10_ways_39 rfl ?_
    refine z_getR 40 (r := 55) dX10_ways_40 fl_X10_44 zy_0 rfl ?_
    refine z_iload_n 43 dX10_ways_43 rfl ?_
    refine z_cj (zat_V2 44 dX10_ways_44 lk_X10_241 zy_67 rfl rfl ⟨Nat.le_of_ble_eq_true rfl, Nat.le_of_ble_eq_true rfl⟩ (Nat.le_of_ble_eq_true rfl)) (tX0_countOfSize E p1 M3) (fun x4 => ?_)
    exact z_lreturn 47 dX10_ways_47 rfl (fun h => h)
def fX10_tell (p1 : Int32) (p2 : Int32) (M : zM) : Option (Int32 × zM) :=
  lt (fX10_within p1 (0 : Int32) (9 : Int32)) (fun (b1 : Bool) => if b1 = false then (some ((-1 : Int32), M)) else (jn (α := Unit) (fun (_ : Unit) => grd (zix p1 10) (lt ((M.1 13 (zn p1))) (fun (x3 : Int32) => grd (zix p1 10) (lt (zwI M 13 (zn p1) p2) (fun (M4 : zM) => some (x3, M4)))))) (fun k5 => if p2 = (-4 : Int32) then (k5 ()) else (lt (fX10_within p2 (0 : Int32) (9 : Int32)) (fun (b6 : Bool) => if b6 = false then (some ((-1 : Int32), M)) else (k5 ()))))))
set_option maxHeartbeats 4000000 in
set_option maxRecDepth 100000 in
theorem tX10_tell (E : zE) (p1 : Int32) (p2 : Int32) (M : zM) : zFI E mX10_tell [.ref 0, .int p1, .int p2] zY0 M (fX10_tell p1 p2 M) := by
  refine zF_of (L := [some (.ref 0), some (.int p1), some (.int p2), none]) plX10 (Nat.le_of_ble_eq_true rfl) rfl (fun post => ?_)
  unfold fX10_tell
  refine z_iload_n 0 dX10_tell_0 rfl ?_
  refine z_iconst 1 dX10_tell_1 zci_0 ?_
  refine z_bipush 2 dX10_tell_2 zbp_9 ?_
  refine z_ctb (zat_S3 4 dX10_tell_4 lk_X10_89 ⟨Nat.le_of_ble_eq_true rfl, Nat.le_of_ble_eq_true rfl⟩ (Nat.le_of_ble_eq_true rfl)) (tX10_within E zY0 p1 (0 : Int32) (9 : Int32) M) (fun b1 => ?_)
  refine z_ifeqb 7 26 dX10_tell_7 (by decide) (fun _ => ?_) (fun _ => ?_)
  · refine z_iconst 26 dX10_tell_26 zci_m1 ?_
    exact z_ireturn 27 dX10_tell_27 rfl rfl (fun h => h)
  · refine z_iload_n 10 dX10_tell_10 rfl ?_
    refine z_bipush 11 dX10_tell_11 zbp_m4 ?_
    refine zk_jn (α := Unit) 28 (fun (_ : Unit) => [some (.ref 0), some (.int p1), some (.int p2), none]) (fun (_ : Unit) => []) (fun (_ : Unit) => (zY0, M)) ?_ ?_
    · intro _
      refine z_aload_n 28 dX10_tell_28 rfl ?_
      refine z_getR 29 (r := 1) dX10_tell_29 fl_X10_12 zy_0 rfl ?_
      refine z_getR 32 (r := 13) dX10_tell_32 fl_X10_245 zy_1 rfl ?_
      refine z_iload_n 35 dX10_tell_35 rfl ?_
      refine z_iaload 36 dX10_tell_36 zy_13 ?_
      refine zk_nmI (fun x3 => ?_)
      refine z_istore_n 37 (L' := [some (.ref 0), some (.int p1), some (.int p2), some (.int x3)]) dX10_tell_37 (by decide) rfl ?_
      refine z_aload_n 38 dX10_tell_38 rfl ?_
      refine z_getR 39 (r := 1) dX10_tell_39 fl_X10_12 zy_0 rfl ?_
      refine z_getR 42 (r := 13) dX10_tell_42 fl_X10_245 zy_1 rfl ?_
      refine z_iload_n 45 dX10_tell_45 rfl ?_
      refine z_iload_n 46 dX10_tell_46 rfl ?_
      refine z_iastore 47 dX10_tell_47 zy_13 ?_
      refine zk_nmM (fun M4 => ?_)
      refine z_iload_n 48 dX10_tell_48 rfl ?_
      exact z_ireturn 49 dX10_tell_49 rfl rfl (fun h => h)
    · intro k5 hk5
      refine z_iceq 13 28 dX10_tell_13 (by decide) (fun _ => ?_) (fun _ => ?_)
      · exact zk_weak (L' := [some (.ref 0), some (.int p1), some (.int p2), none]) (zLe_s (zLe_s (zLe_s (zLe_n zLe_nl)))) (hk5 ())
      · refine z_iload_n 16 dX10_tell_16 rfl ?_
        refine z_iconst 17 dX10_tell_17 zci_0 ?_
        refine z_bipush 18 dX10_tell_18 zbp_9 ?_
        refine z_ctb (zat_S3 20 dX10_tell_20 lk_X10_89 ⟨Nat.le_of_ble_eq_true rfl, Nat.le_of_ble_eq_true rfl⟩ (Nat.le_of_ble_eq_true rfl)) (tX10_within E zY0 p2 (0 : Int32) (9 : Int32) M) (fun b6 => ?_)
        refine z_ifneb 23 28 dX10_tell_23 (by decide) (fun _ => ?_) (fun _ => ?_)
        · refine z_iconst 26 dX10_tell_26 zci_m1 ?_
          exact z_ireturn 27 dX10_tell_27 rfl rfl (fun h => h)
        · exact zk_weak (L' := [some (.ref 0), some (.int p1), some (.int p2), none]) (zLe_s (zLe_s (zLe_s (zLe_n zLe_nl)))) (hk5 ())
def fX10_adopt (M : zM) : Option (Int32 × zM) :=
  sq (fX10_findFirst M) (fun (M1 : zM) => grd (zcp (0 : Int32) (0 : Int32) (10 : Int32) 10 10) (lt (zwA M1 13 (va_cpy (M1.1 66) (M1.1 13) (zn (0 : Int32)) (zn (0 : Int32)) (zn (10 : Int32)))) (fun (M2 : zM) => sq (fX4_countFirst M2) (fun (x3 : Int32) => some (x3, M2)))))
set_option maxHeartbeats 4000000 in
set_option maxRecDepth 100000 in
theorem tX10_adopt (E : zE)  (M : zM) : zFI E mX10_adopt [.ref 0] zY0 M (fX10_adopt M) := by
  refine zF_of (L := [some (.ref 0)]) plX10 (Nat.le_of_ble_eq_true rfl) rfl (fun post => ?_)
  unfold fX10_adopt
  refine z_aload_n 0 dX10_adopt_0 rfl ?_
  refine z_cV (zat_V0 1 dX10_adopt_1 lk_X10_200 zy_0 rfl rfl ⟨Nat.le_of_ble_eq_true rfl, Nat.le_of_ble_eq_true rfl⟩ (Nat.le_of_ble_eq_true rfl)) (tX10_findFirst E M) (fun M1 => ?_)
  refine z_aload_n 4 dX10_adopt_4 rfl ?_
  refine z_getR 5 (r := 58) dX10_adopt_5 fl_X10_53 zy_0 rfl ?_
  refine z_getR 8 (r := 66) dX10_adopt_8 fl_X10_203 zy_58 rfl ?_
  refine z_iconst 11 dX10_adopt_11 zci_0 ?_
  refine z_aload_n 12 dX10_adopt_12 rfl ?_
  refine z_getR 13 (r := 1) dX10_adopt_13 fl_X10_12 zy_0 rfl ?_
  refine z_getR 16 (r := 13) dX10_adopt_16 fl_X10_245 zy_1 rfl ?_
  refine z_iconst 19 dX10_adopt_19 zci_0 ?_
  refine z_bipush 20 dX10_adopt_20 zbp_10 ?_
  refine z_copyi 22 dX10_adopt_22 ac_X10_248 ac_native ac_static ac_init zy_66 zy_13 ⟨Nat.le_of_ble_eq_true rfl, Nat.le_of_ble_eq_true rfl⟩ ?_
  refine zk_nmM (fun M2 => ?_)
  refine z_aload_n 25 dX10_adopt_25 rfl ?_
  refine z_getR 26 (r := 58) dX10_adopt_26 fl_X10_53 zy_0 rfl ?_
  refine z_ci (zat_V0 29 dX10_adopt_29 lk_X10_254 zy_58 rfl rfl ⟨Nat.le_of_ble_eq_true rfl, Nat.le_of_ble_eq_true rfl⟩ (Nat.le_of_ble_eq_true rfl)) (tX4_countFirst E M2) (fun x3 => ?_)
  exact z_ireturn 32 dX10_adopt_32 rfl rfl (fun h => h)
def fX10_faultOfTold (p1 : Int32) (M : zM) : Option Int32 :=
  grd (zix p1 10) (lt ((M.1 13 (zn p1))) (fun (x1 : Int32) => if x1 = (-4 : Int32) then (some (0 : Int32)) else (lt (fX2_has 6 x1 M) (fun (b2 : Bool) => if b2 = false then (some (1 : Int32)) else (zlp (α := Int32) (fun rec7 => (fun (x6 : Int32) => if p1 ≤ x6 then (sq (fX5_mayBe p1 x1 M) (fun (b8 : Bool) => if b8 = false then (some (3 : Int32)) else (some (0 : Int32)))) else (grd (zix x6 10) (if (M.1 13 (zn x6)) = x1 then (some (2 : Int32)) else (rec7 (x6 + (1 : Int32))))))) zFu (0 : Int32))))))
set_option maxHeartbeats 4000000 in
set_option maxRecDepth 100000 in
theorem tX10_faultOfTold (E : zE) (p1 : Int32) (M : zM) : zFi E mX10_faultOfTold [.ref 0, .int p1] zY0 M (fX10_faultOfTold p1 M) := by
  refine zF_of (L := [some (.ref 0), some (.int p1), none, none]) plX10 (Nat.le_of_ble_eq_true rfl) rfl (fun post => ?_)
  unfold fX10_faultOfTold
  refine z_aload_n 0 dX10_faultOfTold_0 rfl ?_
  refine z_getR 1 (r := 1) dX10_faultOfTold_1 fl_X10_12 zy_0 rfl ?_
  refine z_getR 4 (r := 13) dX10_faultOfTold_4 fl_X10_245 zy_1 rfl ?_
  refine z_iload_n 7 dX10_faultOfTold_7 rfl ?_
  refine z_iaload 8 dX10_faultOfTold_8 zy_13 ?_
  refine zk_nmI (fun x1 => ?_)
  refine z_istore_n 9 (L' := [some (.ref 0), some (.int p1), some (.int x1), none]) dX10_faultOfTold_9 (by decide) rfl ?_
  refine z_iload_n 10 dX10_faultOfTold_10 rfl ?_
  refine z_bipush 11 dX10_faultOfTold_11 zbp_m4 ?_
  refine z_icne 13 18 dX10_faultOfTold_13 (by decide) (fun _ => ?_) (fun _ => ?_)
  · refine z_iconst 16 dX10_faultOfTold_16 zci_0 ?_
    exact z_ireturn 17 dX10_faultOfTold_17 rfl rfl (fun h => h)
  · refine z_aload_n 18 dX10_faultOfTold_18 rfl ?_
    refine z_getR 19 (r := 1) dX10_faultOfTold_19 fl_X10_12 zy_0 rfl ?_
    refine z_getR 22 (r := 6) dX10_faultOfTold_22 fl_X10_174 zy_1 rfl ?_
    refine z_iload_n 25 dX10_faultOfTold_25 rfl ?_
    refine z_ctb (zat_V1 26 dX10_faultOfTold_26 lk_X10_197 zy_6 rfl rfl ⟨Nat.le_of_ble_eq_true rfl, Nat.le_of_ble_eq_true rfl⟩ (Nat.le_of_ble_eq_true rfl)) (tX2_has E zY0 6 zs_X2_6 x1 M) (fun b2 => ?_)
    refine z_ifneb 29 34 dX10_faultOfTold_29 (by decide) (fun _ => ?_) (fun _ => ?_)
    · refine z_iconst 32 dX10_faultOfTold_32 zci_1 ?_
      exact z_ireturn 33 dX10_faultOfTold_33 rfl rfl (fun h => h)
    · refine z_iconst 34 dX10_faultOfTold_34 zci_0 ?_
      refine z_istore_n 35 (L' := [some (.ref 0), some (.int p1), some (.int x1), some (.int (0 : Int32))]) dX10_faultOfTold_35 (by decide) rfl ?_
      refine zk_weak (L' := [some (.ref 0), some (.int p1), some (.int x1), some (.int (0 : Int32))]) (zLe_s (zLe_s (zLe_s (zLe_s zLe_nl)))) (zk_lp (α := Int32) 36 (fun (x6 : Int32) => [some (.ref 0), some (.int p1), some (.int x1), some (.int x6)]) (fun (x6 : Int32) => (zY0, M)) ?_ zFu (0 : Int32))
      intro rec7 hrec7
      intro x6
      refine z_iload_n 36 dX10_faultOfTold_36 rfl ?_
      refine z_iload_n 37 dX10_faultOfTold_37 rfl ?_
      refine z_icge 38 62 dX10_faultOfTold_38 (by decide) (fun _ => ?_) (fun _ => ?_)
      · refine z_aload_n 62 dX10_faultOfTold_62 rfl ?_
        refine z_getR 63 (r := 55) dX10_faultOfTold_63 fl_X10_44 zy_0 rfl ?_
        refine z_iload_n 66 dX10_faultOfTold_66 rfl ?_
        refine z_iload_n 67 dX10_faultOfTold_67 rfl ?_
        refine z_cb (zat_V2 68 dX10_faultOfTold_68 lk_X10_206 zy_55 rfl rfl ⟨Nat.le_of_ble_eq_true rfl, Nat.le_of_ble_eq_true rfl⟩ (Nat.le_of_ble_eq_true rfl)) (tX5_mayBe E p1 x1 M) (fun b8 => ?_)
        refine z_ifeqb 71 78 dX10_faultOfTold_71 (by decide) (fun _ => ?_) (fun _ => ?_)
        · refine z_iconst 78 dX10_faultOfTold_78 zci_3 ?_
          exact z_ireturn 79 dX10_faultOfTold_79 rfl rfl (fun h => h)
        · refine z_iconst 74 dX10_faultOfTold_74 zci_0 ?_
          refine z_goto 75 79 dX10_faultOfTold_75 (by decide) ?_
          exact z_ireturn 79 dX10_faultOfTold_79 rfl rfl (fun h => h)
      · refine z_aload_n 41 dX10_faultOfTold_41 rfl ?_
        refine z_getR 42 (r := 1) dX10_faultOfTold_42 fl_X10_12 zy_0 rfl ?_
        refine z_getR 45 (r := 13) dX10_faultOfTold_45 fl_X10_245 zy_1 rfl ?_
        refine z_iload_n 48 dX10_faultOfTold_48 rfl ?_
        refine z_iaload 49 dX10_faultOfTold_49 zy_13 ?_
        refine z_iload_n 50 dX10_faultOfTold_50 rfl ?_
        refine z_icne 51 56 dX10_faultOfTold_51 (by decide) (fun _ => ?_) (fun _ => ?_)
        · refine z_iconst 54 dX10_faultOfTold_54 zci_2 ?_
          exact z_ireturn 55 dX10_faultOfTold_55 rfl rfl (fun h => h)
        · refine z_iinc 56 (v := (x6 + (1 : Int32))) (L' := [some (.ref 0), some (.int p1), some (.int x1), some (.int (x6 + (1 : Int32)))]) dX10_faultOfTold_56 rfl (zinc zci_1 _) (by decide) rfl ?_
          refine z_goto 59 36 dX10_faultOfTold_59 (by decide) ?_
          exact zk_weak (L' := [some (.ref 0), some (.int p1), some (.int x1), some (.int (x6 + (1 : Int32)))]) (zLe_s (zLe_s (zLe_s (zLe_s zLe_nl)))) (hrec7 (x6 + (1 : Int32)))
def fX10_firstWrong (M : zM) : Option Int32 :=
  zlp (α := Int32) (fun rec5 => (fun (x4 : Int32) => if (M.1 2 0) ≤ x4 then (some (-4 : Int32)) else (sq (fX10_faultOfTold x4 M) (fun (x6 : Int32) => if x6 = 0 then (rec5 (x4 + (1 : Int32))) else (some x4))))) zFu (0 : Int32)
set_option maxHeartbeats 4000000 in
set_option maxRecDepth 100000 in
theorem tX10_firstWrong (E : zE)  (M : zM) : zFi E mX10_firstWrong [.ref 0] zY0 M (fX10_firstWrong M) := by
  refine zF_of (L := [some (.ref 0), none]) plX10 (Nat.le_of_ble_eq_true rfl) rfl (fun post => ?_)
  unfold fX10_firstWrong
  refine z_iconst 0 dX10_firstWrong_0 zci_0 ?_
  refine z_istore_n 1 (L' := [some (.ref 0), some (.int (0 : Int32))]) dX10_firstWrong_1 (by decide) rfl ?_
  refine zk_weak (L' := [some (.ref 0), some (.int (0 : Int32))]) (zLe_s (zLe_s zLe_nl)) (zk_lp (α := Int32) 2 (fun (x4 : Int32) => [some (.ref 0), some (.int x4)]) (fun (x4 : Int32) => (zY0, M)) ?_ zFu (0 : Int32))
  intro rec5 hrec5
  intro x4
  refine z_iload_n 2 dX10_firstWrong_2 rfl ?_
  refine z_aload_n 3 dX10_firstWrong_3 rfl ?_
  refine z_getR 4 (r := 1) dX10_firstWrong_4 fl_X10_12 zy_0 rfl ?_
  refine z_getR 7 (r := 2) dX10_firstWrong_7 fl_X10_170 zy_1 rfl ?_
  refine z_getI 10 dX10_firstWrong_10 fl_X10_125 zy_2 rfl ?_
  refine z_icge 13 32 dX10_firstWrong_13 (by decide) (fun _ => ?_) (fun _ => ?_)
  · refine z_bipush 32 dX10_firstWrong_32 zbp_m4 ?_
    exact z_ireturn 34 dX10_firstWrong_34 rfl rfl (fun h => h)
  · refine z_aload_n 16 dX10_firstWrong_16 rfl ?_
    refine z_iload_n 17 dX10_firstWrong_17 rfl ?_
    refine z_ci (zat_V1 18 dX10_firstWrong_18 lk_X10_260 zy_0 rfl rfl ⟨Nat.le_of_ble_eq_true rfl, Nat.le_of_ble_eq_true rfl⟩ (Nat.le_of_ble_eq_true rfl)) (tX10_faultOfTold E x4 M) (fun x6 => ?_)
    refine z_ifeq 21 26 dX10_firstWrong_21 (by decide) (fun _ => ?_) (fun _ => ?_)
    · refine z_iinc 26 (v := (x4 + (1 : Int32))) (L' := [some (.ref 0), some (.int (x4 + (1 : Int32)))]) dX10_firstWrong_26 rfl (zinc zci_1 _) (by decide) rfl ?_
      refine z_goto 29 2 dX10_firstWrong_29 (by decide) ?_
      exact zk_weak (L' := [some (.ref 0), some (.int (x4 + (1 : Int32)))]) (zLe_s (zLe_s zLe_nl)) (hrec5 (x4 + (1 : Int32)))
    · refine z_iload_n 24 dX10_firstWrong_24 rfl ?_
      exact z_ireturn 25 dX10_firstWrong_25 rfl rfl (fun h => h)
def fX10_toldTotal (M : zM) : Option Int32 :=
  lt ((M.1 55 2)) (fun (x1 : Int32) => zlp (α := Int32 × Int32) (fun rec12 => (fun (u20 : Int32 × Int32) => match u20 with | (x10, x11) => if (M.1 2 0) ≤ x11 then (some x10) else (grd (zix x11 10) (sq (α := Int32) (if (M.1 13 (zn x11)) = (-4 : Int32) then (some x10) else (grd (zix x11 10) (sq (fX5_gainOf x11 (M.1 13 (zn x11)) M) (fun (x18 : Int32) => lt ((x10 + x18)) (fun (x19 : Int32) => some x19))))) (fun (x17 : Int32) => rec12 (x17, (x11 + (1 : Int32)))))))) zFu (x1, (0 : Int32)))
set_option maxHeartbeats 4000000 in
set_option maxRecDepth 100000 in
theorem tX10_toldTotal (E : zE)  (M : zM) : zFi E mX10_toldTotal [.ref 0] zY0 M (fX10_toldTotal M) := by
  refine zF_of (L := [some (.ref 0), none, none]) plX10 (Nat.le_of_ble_eq_true rfl) rfl (fun post => ?_)
  unfold fX10_toldTotal
  refine z_aload_n 0 dX10_toldTotal_0 rfl ?_
  refine z_getR 1 (r := 55) dX10_toldTotal_1 fl_X10_44 zy_0 rfl ?_
  refine z_getI 4 dX10_toldTotal_4 fl_X10_194 zy_55 rfl ?_
  refine zk_nmI (fun x1 => ?_)
  refine z_istore_n 7 (L' := [some (.ref 0), some (.int x1), none]) dX10_toldTotal_7 (by decide) rfl ?_
  refine z_iconst 8 dX10_toldTotal_8 zci_0 ?_
  refine z_istore_n 9 (L' := [some (.ref 0), some (.int x1), some (.int (0 : Int32))]) dX10_toldTotal_9 (by decide) rfl ?_
  refine zk_weak (L' := [some (.ref 0), some (.int x1), some (.int (0 : Int32))]) (zLe_s (zLe_s (zLe_s zLe_nl))) (zk_lp (α := Int32 × Int32) 10 (fun (u13 : Int32 × Int32) => match u13 with | (x10, x11) => [some (.ref 0), some (.int x10), some (.int x11)]) (fun (u14 : Int32 × Int32) => match u14 with | (x10, x11) => (zY0, M)) ?_ zFu (x1, (0 : Int32)))
  intro rec12 hrec12
  intro u21
  obtain ⟨x10, x11⟩ := u21
  try dsimp only
  refine z_iload_n 10 dX10_toldTotal_10 rfl ?_
  refine z_aload_n 11 dX10_toldTotal_11 rfl ?_
  refine z_getR 12 (r := 1) dX10_toldTotal_12 fl_X10_12 zy_0 rfl ?_
  refine z_getR 15 (r := 2) dX10_toldTotal_15 fl_X10_170 zy_1 rfl ?_
  refine z_getI 18 dX10_toldTotal_18 fl_X10_125 zy_2 rfl ?_
  refine z_icge 21 64 dX10_toldTotal_21 (by decide) (fun _ => ?_) (fun _ => ?_)
  · refine z_iload_n 64 dX10_toldTotal_64 rfl ?_
    exact z_ireturn 65 dX10_toldTotal_65 rfl rfl (fun h => h)
  · refine z_aload_n 24 dX10_toldTotal_24 rfl ?_
    refine z_getR 25 (r := 1) dX10_toldTotal_25 fl_X10_12 zy_0 rfl ?_
    refine z_getR 28 (r := 13) dX10_toldTotal_28 fl_X10_245 zy_1 rfl ?_
    refine z_iload_n 31 dX10_toldTotal_31 rfl ?_
    refine z_iaload 32 dX10_toldTotal_32 zy_13 ?_
    refine z_bipush 33 dX10_toldTotal_33 zbp_m4 ?_
    refine zk_sqj (α := Int32) 58 (fun (x17 : Int32) => [some (.ref 0), some (.int x17), some (.int x11)]) (fun (x17 : Int32) => []) (fun (x17 : Int32) => (zY0, M)) ?_ ?_
    · intro x17
      refine z_iinc 58 (v := (x11 + (1 : Int32))) (L' := [some (.ref 0), some (.int x17), some (.int (x11 + (1 : Int32)))]) dX10_toldTotal_58 rfl (zinc zci_1 _) (by decide) rfl ?_
      refine z_goto 61 10 dX10_toldTotal_61 (by decide) ?_
      exact zk_weak (L' := [some (.ref 0), some (.int x17), some (.int (x11 + (1 : Int32)))]) (zLe_s (zLe_s (zLe_s zLe_nl))) (hrec12 (x17, (x11 + (1 : Int32))))
    · refine z_iceq 35 58 dX10_toldTotal_35 (by decide) (fun _ => ?_) (fun _ => ?_)
      · exact zk_exitw (L' := [some (.ref 0), some (.int x10), some (.int x11)]) (zLe_s (zLe_s (zLe_s zLe_nl))) (fun h => h)
      · refine z_iload_n 38 dX10_toldTotal_38 rfl ?_
        refine z_aload_n 39 dX10_toldTotal_39 rfl ?_
        refine z_getR 40 (r := 55) dX10_toldTotal_40 fl_X10_44 zy_0 rfl ?_
        refine z_iload_n 43 dX10_toldTotal_43 rfl ?_
        refine z_aload_n 44 dX10_toldTotal_44 rfl ?_
        refine z_getR 45 (r := 1) dX10_toldTotal_45 fl_X10_12 zy_0 rfl ?_
        refine z_getR 48 (r := 13) dX10_toldTotal_48 fl_X10_245 zy_1 rfl ?_
        refine z_iload_n 51 dX10_toldTotal_51 rfl ?_
        refine z_iaload 52 dX10_toldTotal_52 zy_13 ?_
        refine z_ci (zat_V2 53 dX10_toldTotal_53 lk_X10_391 zy_55 rfl rfl ⟨Nat.le_of_ble_eq_true rfl, Nat.le_of_ble_eq_true rfl⟩ (Nat.le_of_ble_eq_true rfl)) (tX5_gainOf E x11 (M.1 13 (zn x11)) M) (fun x18 => ?_)
        refine z_iadd 56 dX10_toldTotal_56 ?_
        refine zk_nmI (fun x19 => ?_)
        refine z_istore_n 57 (L' := [some (.ref 0), some (.int x19), some (.int x11)]) dX10_toldTotal_57 (by decide) rfl ?_
        exact zk_exitw (L' := [some (.ref 0), some (.int x19), some (.int x11)]) (zLe_s (zLe_s (zLe_s zLe_nl))) (fun h => h)
def fX10_judge (p1 : Int32) (M : zM) : Option (Int32 × zM) :=
  lt (fX10_within p1 (0 : Int32) (3 : Int32)) (fun (b1 : Bool) => if b1 = false then (some ((-1 : Int32), M)) else (sq (fX10_lookAtPairs (15 : Int32) M) (fun (M2 : zM) => sq (fX10_firstWrong M2) (fun (x3 : Int32) => if p1 = (0 : Int32) then (some (x3, M2)) else (if p1 = (1 : Int32) then (if x3 = (-4 : Int32) then (some ((0 : Int32), M2)) else (sq (fX10_faultOfTold x3 M2) (fun (x4 : Int32) => some (x4, M2)))) else (if p1 = (2 : Int32) then (if x3 = (-4 : Int32) then (sq (fX10_toldTotal M2) (fun (x5 : Int32) => some (x5, M2))) else (some ((-4 : Int32), M2))) else (if x3 = (-4 : Int32) then (sq (fX10_toldTotal M2) (fun (x6 : Int32) => bi (fX4_leastTotal M2) (fun (x8 : Int64) (M7 : zM) => some (((x6.toInt64 - x8)).toInt32, M7)))) else (some ((-4 : Int32), M2)))))))))
set_option maxHeartbeats 4000000 in
set_option maxRecDepth 100000 in
theorem tX10_judge (E : zE) (p1 : Int32) (M : zM) : zFI E mX10_judge [.ref 0, .int p1] zY0 M (fX10_judge p1 M) := by
  refine zF_of (L := [some (.ref 0), some (.int p1), none]) plX10 (Nat.le_of_ble_eq_true rfl) rfl (fun post => ?_)
  unfold fX10_judge
  refine z_iload_n 0 dX10_judge_0 rfl ?_
  refine z_iconst 1 dX10_judge_1 zci_0 ?_
  refine z_iconst 2 dX10_judge_2 zci_3 ?_
  refine z_ctb (zat_S3 3 dX10_judge_3 lk_X10_89 ⟨Nat.le_of_ble_eq_true rfl, Nat.le_of_ble_eq_true rfl⟩ (Nat.le_of_ble_eq_true rfl)) (tX10_within E zY0 p1 (0 : Int32) (3 : Int32) M) (fun b1 => ?_)
  refine z_ifneb 6 11 dX10_judge_6 (by decide) (fun _ => ?_) (fun _ => ?_)
  · refine z_iconst 9 dX10_judge_9 zci_m1 ?_
    exact z_ireturn 10 dX10_judge_10 rfl rfl (fun h => h)
  · refine z_aload_n 11 dX10_judge_11 rfl ?_
    refine z_bipush 12 dX10_judge_12 zbp_15 ?_
    refine z_cV (zat_V1 14 dX10_judge_14 lk_X10_164 zy_0 rfl rfl ⟨Nat.le_of_ble_eq_true rfl, Nat.le_of_ble_eq_true rfl⟩ (Nat.le_of_ble_eq_true rfl)) (tX10_lookAtPairs E (15 : Int32) M) (fun M2 => ?_)
    refine z_aload_n 17 dX10_judge_17 rfl ?_
    refine z_ci (zat_V0 18 dX10_judge_18 lk_X10_257 zy_0 rfl rfl ⟨Nat.le_of_ble_eq_true rfl, Nat.le_of_ble_eq_true rfl⟩ (Nat.le_of_ble_eq_true rfl)) (tX10_firstWrong E M2) (fun x3 => ?_)
    refine z_istore_n 21 (L' := [some (.ref 0), some (.int p1), some (.int x3)]) dX10_judge_21 (by decide) rfl ?_
    refine z_iload_n 22 dX10_judge_22 rfl ?_
    refine z_tsc 23 48 (k := 0) (off := 25) dX10_judge_23 (by decide) (by decide) (by decide) (by decide) ?_ (fun n1 => ?_)
    · refine z_iload_n 48 dX10_judge_48 rfl ?_
      exact z_ireturn 49 dX10_judge_49 rfl rfl (fun h => h)
    · refine z_tsc 23 50 (k := 1) (off := 27) dX10_judge_23 (by decide) (by decide) (by decide) (by decide) ?_ (fun n2 => ?_)
      · refine z_iload_n 50 dX10_judge_50 rfl ?_
        refine z_bipush 51 dX10_judge_51 zbp_m4 ?_
        refine z_icne 53 60 dX10_judge_53 (by decide) (fun _ => ?_) (fun _ => ?_)
        · refine z_iconst 56 dX10_judge_56 zci_0 ?_
          refine z_goto 57 65 dX10_judge_57 (by decide) ?_
          exact z_ireturn 65 dX10_judge_65 rfl rfl (fun h => h)
        · refine z_aload_n 60 dX10_judge_60 rfl ?_
          refine z_iload_n 61 dX10_judge_61 rfl ?_
          refine z_ci (zat_V1 62 dX10_judge_62 lk_X10_260 zy_0 rfl rfl ⟨Nat.le_of_ble_eq_true rfl, Nat.le_of_ble_eq_true rfl⟩ (Nat.le_of_ble_eq_true rfl)) (tX10_faultOfTold E x3 M2) (fun x4 => ?_)
          exact z_ireturn 65 dX10_judge_65 rfl rfl (fun h => h)
      · refine z_tsc 23 66 (k := 2) (off := 43) dX10_judge_23 (by decide) (by decide) (by decide) (by decide) ?_ (fun n3 => ?_)
        · refine z_iload_n 66 dX10_judge_66 rfl ?_
          refine z_bipush 67 dX10_judge_67 zbp_m4 ?_
          refine z_icne 69 79 dX10_judge_69 (by decide) (fun _ => ?_) (fun _ => ?_)
          · refine z_aload_n 72 dX10_judge_72 rfl ?_
            refine z_ci (zat_V0 73 dX10_judge_73 lk_X10_263 zy_0 rfl rfl ⟨Nat.le_of_ble_eq_true rfl, Nat.le_of_ble_eq_true rfl⟩ (Nat.le_of_ble_eq_true rfl)) (tX10_toldTotal E M2) (fun x5 => ?_)
            refine z_goto 76 81 dX10_judge_76 (by decide) ?_
            exact z_ireturn 81 dX10_judge_81 rfl rfl (fun h => h)
          · refine z_bipush 79 dX10_judge_79 zbp_m4 ?_
            exact z_ireturn 81 dX10_judge_81 rfl rfl (fun h => h)
        · refine z_tsd 23 82 dX10_judge_23 (by have e1 := zne n1 (a := 0) (by decide); have e2 := zne n2 (a := 1) (by decide); have e3 := zne n3 (a := 2) (by decide); omega) (by decide) ?_
          refine z_iload_n 82 dX10_judge_82 rfl ?_
          refine z_bipush 83 dX10_judge_83 zbp_m4 ?_
          refine z_icne 85 105 dX10_judge_85 (by decide) (fun _ => ?_) (fun _ => ?_)
          · refine z_aload_n 88 dX10_judge_88 rfl ?_
            refine z_ci (zat_V0 89 dX10_judge_89 lk_X10_263 zy_0 rfl rfl ⟨Nat.le_of_ble_eq_true rfl, Nat.le_of_ble_eq_true rfl⟩ (Nat.le_of_ble_eq_true rfl)) (tX10_toldTotal E M2) (fun x6 => ?_)
            refine z_i2l 92 dX10_judge_92 ?_
            refine z_aload_n 93 dX10_judge_93 rfl ?_
            refine z_getR 94 (r := 58) dX10_judge_94 fl_X10_53 zy_0 rfl ?_
            refine z_cJ (zat_V0 97 dX10_judge_97 lk_X10_182 zy_58 rfl rfl ⟨Nat.le_of_ble_eq_true rfl, Nat.le_of_ble_eq_true rfl⟩ (Nat.le_of_ble_eq_true rfl)) (tX4_leastTotal E M2) (fun x8 M7 => ?_)
            refine z_lsub 100 dX10_judge_100 ?_
            refine z_l2i 101 dX10_judge_101 ?_
            refine z_goto 102 107 dX10_judge_102 (by decide) ?_
            exact z_ireturn 107 dX10_judge_107 rfl rfl (fun h => h)
          · refine z_bipush 105 dX10_judge_105 zbp_m4 ?_
            exact z_ireturn 107 dX10_judge_107 rfl rfl (fun h => h)
