def fX11_adopt (M : zM) : Option (Int32 × zM) :=
  sq (fX11_layAll M) (fun (M1 : zM) => sq (fX11_layFirst 91 M1) (fun (M2 : zM) => zlp (α := Int32 × Int32 × zM) (fun rec26 => (fun (u34 : Int32 × Int32 × zM) => match u34 with | (x23, x24, M25) => if (10 : Int32) ≤ x24 then (some (x23, M25)) else (grd (zix x24 10) (sq (α := Int32) (if (M25.1 91 (zn x24)) = (-4 : Int32) then (some (0 : Int32)) else (grd (zix x24 10) (some ((M25.1 91 (zn x24)) + (1 : Int32))))) (fun (x29 : Int32) => grd (zix ((190 : Int32) + x24) 660) (lt (zwI M25 84 (zn ((190 : Int32) + x24)) x29) (fun (M30 : zM) => grd (zix x24 10) (lt (if (M30.1 91 (zn x24)) = (-4 : Int32) then (false) else (true)) (fun (b31 : Bool) => lt ((x23 + (zb b31))) (fun (x32 : Int32) => rec26 (x32, (x24 + (1 : Int32)), M30))))))))))) zFu ((0 : Int32), (0 : Int32), M2)))
set_option maxHeartbeats 4000000 in
set_option maxRecDepth 100000 in
theorem tX11_adopt (E : zE)  (M : zM) : zFI E mX11_adopt [.ref 76] zY0 M (fX11_adopt M) := by
  refine zF_of (L := [some (.ref 76), none, none]) plX11 (Nat.le_of_ble_eq_true rfl) rfl (fun post => ?_)
  unfold fX11_adopt
  refine z_aload_n 0 dX11_adopt_0 rfl ?_
  refine z_cV (zat_V0 1 dX11_adopt_1 lk_X11_242 zy_76 rfl rfl ⟨Nat.le_of_ble_eq_true rfl, Nat.le_of_ble_eq_true rfl⟩ (Nat.le_of_ble_eq_true rfl)) (tX11_layAll E M) (fun M1 => ?_)
  refine z_aload_n 4 dX11_adopt_4 rfl ?_
  refine z_aload_n 5 dX11_adopt_5 rfl ?_
  refine z_getR 6 (r := 91) dX11_adopt_6 fl_X11_53 zy_76 rfl ?_
  refine z_cV (zat_V1 9 dX11_adopt_9 lk_X11_245 zy_76 rfl rfl ⟨Nat.le_of_ble_eq_true rfl, Nat.le_of_ble_eq_true rfl⟩ (Nat.le_of_ble_eq_true rfl)) (tX11_layFirst E 91 zy_91 M1) (fun M2 => ?_)
  refine z_iconst 12 dX11_adopt_12 zci_0 ?_
  refine z_istore_n 13 (L' := [some (.ref 76), some (.int (0 : Int32)), none]) dX11_adopt_13 (by decide) rfl ?_
  refine z_iconst 14 dX11_adopt_14 zci_0 ?_
  refine z_istore_n 15 (L' := [some (.ref 76), some (.int (0 : Int32)), some (.int (0 : Int32))]) dX11_adopt_15 (by decide) rfl ?_
  refine zk_weak (L' := [some (.ref 76), some (.int (0 : Int32)), some (.int (0 : Int32))]) (zLe_s (zLe_s (zLe_s zLe_nl))) (zk_lp (α := Int32 × Int32 × zM) 16 (fun (u27 : Int32 × Int32 × zM) => match u27 with | (x23, x24, M25) => [some (.ref 76), some (.int x23), some (.int x24)]) (fun (u28 : Int32 × Int32 × zM) => match u28 with | (x23, x24, M25) => (zY0, M25)) ?_ zFu ((0 : Int32), (0 : Int32), M2))
  intro rec26 hrec26
  intro u35
  obtain ⟨x23, x24, M25⟩ := u35
  try dsimp only
  refine z_iload_n 16 dX11_adopt_16 rfl ?_
  refine z_bipush 17 dX11_adopt_17 zbp_10 ?_
  refine z_icge 19 80 dX11_adopt_19 (by decide) (fun _ => ?_) (fun _ => ?_)
  · refine z_iload_n 80 dX11_adopt_80 rfl ?_
    exact z_ireturn 81 dX11_adopt_81 rfl rfl (fun h => h)
  · refine z_aload_n 22 dX11_adopt_22 rfl ?_
    refine z_getR 23 (r := 84) dX11_adopt_23 fl_X11_31 zy_76 rfl ?_
    refine z_sipush 26 dX11_adopt_26 zsp_190 ?_
    refine z_iload_n 29 dX11_adopt_29 rfl ?_
    refine z_iadd 30 dX11_adopt_30 ?_
    refine z_aload_n 31 dX11_adopt_31 rfl ?_
    refine z_getR 32 (r := 91) dX11_adopt_32 fl_X11_53 zy_76 rfl ?_
    refine z_iload_n 35 dX11_adopt_35 rfl ?_
    refine z_iaload 36 dX11_adopt_36 zy_91 ?_
    refine z_bipush 37 dX11_adopt_37 zbp_m4 ?_
    refine zk_sqj (α := Int32) 54 (fun (x29 : Int32) => [some (.ref 76), some (.int x23), some (.int x24)]) (fun (x29 : Int32) => [.int x29, .int ((190 : Int32) + x24), .ref 84]) (fun (x29 : Int32) => (zY0, M25)) ?_ ?_
    · intro x29
      refine z_iastore 54 dX11_adopt_54 zy_84 ?_
      refine zk_nmM (fun M30 => ?_)
      refine z_iload_n 55 dX11_adopt_55 rfl ?_
      refine z_aload_n 56 dX11_adopt_56 rfl ?_
      refine z_getR 57 (r := 91) dX11_adopt_57 fl_X11_53 zy_76 rfl ?_
      refine z_iload_n 60 dX11_adopt_60 rfl ?_
      refine z_iaload 61 dX11_adopt_61 zy_91 ?_
      refine z_bipush 62 dX11_adopt_62 zbp_m4 ?_
      refine zk_ltj (α := Bool) 72 (fun (b31 : Bool) => [some (.ref 76), none, some (.int x24)]) (fun (b31 : Bool) => [.int (zb b31), .int x23]) (fun (b31 : Bool) => (zY0, M30)) ?_ ?_
      · intro b31
        refine z_iadd 72 dX11_adopt_72 ?_
        refine zk_nmI (fun x32 => ?_)
        refine z_istore_n 73 (L' := [some (.ref 76), some (.int x32), some (.int x24)]) dX11_adopt_73 (by decide) rfl ?_
        refine z_iinc 74 (v := (x24 + (1 : Int32))) (L' := [some (.ref 76), some (.int x32), some (.int (x24 + (1 : Int32)))]) dX11_adopt_74 rfl (zinc zci_1 _) (by decide) rfl ?_
        refine z_goto 77 16 dX11_adopt_77 (by decide) ?_
        exact zk_weak (L' := [some (.ref 76), some (.int x32), some (.int (x24 + (1 : Int32)))]) (zLe_s (zLe_s (zLe_s zLe_nl))) (hrec26 (x32, (x24 + (1 : Int32)), M30))
      · intro k33 hk33
        refine z_icnev 64 71 dX11_adopt_64 (by decide) ?_ ?_
        · refine z_iconst 67 dX11_adopt_67 zci_0 ?_
          refine z_goto 68 72 dX11_adopt_68 (by decide) ?_
          exact zk_weak (L' := [some (.ref 76), none, some (.int x24)]) (zLe_s (zLe_n (zLe_s zLe_nl))) (hk33 false)
        · refine z_iconst 71 dX11_adopt_71 zci_1 ?_
          exact zk_weak (L' := [some (.ref 76), none, some (.int x24)]) (zLe_s (zLe_n (zLe_s zLe_nl))) (hk33 true)
    · refine z_icne 39 46 dX11_adopt_39 (by decide) (fun _ => ?_) (fun _ => ?_)
      · refine z_iconst 42 dX11_adopt_42 zci_0 ?_
        refine z_goto 43 54 dX11_adopt_43 (by decide) ?_
        exact zk_exitw (L' := [some (.ref 76), some (.int x23), some (.int x24)]) (zLe_s (zLe_s (zLe_s zLe_nl))) (fun h => h)
      · refine z_aload_n 46 dX11_adopt_46 rfl ?_
        refine z_getR 47 (r := 91) dX11_adopt_47 fl_X11_53 zy_76 rfl ?_
        refine z_iload_n 50 dX11_adopt_50 rfl ?_
        refine z_iaload 51 dX11_adopt_51 zy_91 ?_
        refine z_iconst 52 dX11_adopt_52 zci_1 ?_
        refine z_iadd 53 dX11_adopt_53 ?_
        exact zk_exitw (L' := [some (.ref 76), some (.int x23), some (.int x24)]) (zLe_s (zLe_s (zLe_s zLe_nl))) (fun h => h)
def fX11_whyWrong (p1 : Int32) (M : zM) : Option Int32 :=
  sq (fX11_toldOf p1 M) (fun (x1 : Int32) => if x1 = (-4 : Int32) then (some (0 : Int32)) else (sq (fX11_isLine (1 : Int32) x1 M) (fun (b2 : Bool) => if b2 = false then (some (1 : Int32)) else (zlp (α := Int32) (fun rec8 => (fun (x7 : Int32) => if p1 ≤ x7 then (sq (fX11_costOf p1 x1 (15 : Int32) M) (fun (x9 : Int32) => if x9 = (-4 : Int32) then (some (3 : Int32)) else (some (0 : Int32)))) else (sq (fX11_toldOf x7 M) (fun (x10 : Int32) => if x10 = x1 then (some (2 : Int32)) else (rec8 (x7 + (1 : Int32))))))) zFu (0 : Int32)))))
set_option maxHeartbeats 4000000 in
set_option maxRecDepth 100000 in
theorem tX11_whyWrong (E : zE) (p1 : Int32) (M : zM) : zFi E mX11_whyWrong [.ref 76, .int p1] zY0 M (fX11_whyWrong p1 M) := by
  refine zF_of (L := [some (.ref 76), some (.int p1), none, none]) plX11 (Nat.le_of_ble_eq_true rfl) rfl (fun post => ?_)
  unfold fX11_whyWrong
  refine z_aload_n 0 dX11_whyWrong_0 rfl ?_
  refine z_iload_n 1 dX11_whyWrong_1 rfl ?_
  refine z_ci (zat_V1 2 dX11_whyWrong_2 lk_X11_256 zy_76 rfl rfl ⟨Nat.le_of_ble_eq_true rfl, Nat.le_of_ble_eq_true rfl⟩ (Nat.le_of_ble_eq_true rfl)) (tX11_toldOf E p1 M) (fun x1 => ?_)
  refine z_istore_n 5 (L' := [some (.ref 76), some (.int p1), some (.int x1), none]) dX11_whyWrong_5 (by decide) rfl ?_
  refine z_iload_n 6 dX11_whyWrong_6 rfl ?_
  refine z_bipush 7 dX11_whyWrong_7 zbp_m4 ?_
  refine z_icne 9 14 dX11_whyWrong_9 (by decide) (fun _ => ?_) (fun _ => ?_)
  · refine z_iconst 12 dX11_whyWrong_12 zci_0 ?_
    exact z_ireturn 13 dX11_whyWrong_13 rfl rfl (fun h => h)
  · refine z_aload_n 14 dX11_whyWrong_14 rfl ?_
    refine z_iconst 15 dX11_whyWrong_15 zci_1 ?_
    refine z_iload_n 16 dX11_whyWrong_16 rfl ?_
    refine z_cb (zat_V2 17 dX11_whyWrong_17 lk_X11_177 zy_76 rfl rfl ⟨Nat.le_of_ble_eq_true rfl, Nat.le_of_ble_eq_true rfl⟩ (Nat.le_of_ble_eq_true rfl)) (tX11_isLine E (1 : Int32) x1 M) (fun b2 => ?_)
    refine z_ifneb 20 25 dX11_whyWrong_20 (by decide) (fun _ => ?_) (fun _ => ?_)
    · refine z_iconst 23 dX11_whyWrong_23 zci_1 ?_
      exact z_ireturn 24 dX11_whyWrong_24 rfl rfl (fun h => h)
    · refine z_iconst 25 dX11_whyWrong_25 zci_0 ?_
      refine z_istore_n 26 (L' := [some (.ref 76), some (.int p1), some (.int x1), some (.int (0 : Int32))]) dX11_whyWrong_26 (by decide) rfl ?_
      refine zk_weak (L' := [some (.ref 76), some (.int p1), some (.int x1), some (.int (0 : Int32))]) (zLe_s (zLe_s (zLe_s (zLe_s zLe_nl)))) (zk_lp (α := Int32) 27 (fun (x7 : Int32) => [some (.ref 76), some (.int p1), some (.int x1), some (.int x7)]) (fun (x7 : Int32) => (zY0, M)) ?_ zFu (0 : Int32))
      intro rec8 hrec8
      intro x7
      refine z_iload_n 27 dX11_whyWrong_27 rfl ?_
      refine z_iload_n 28 dX11_whyWrong_28 rfl ?_
      refine z_icge 29 49 dX11_whyWrong_29 (by decide) (fun _ => ?_) (fun _ => ?_)
      · refine z_aload_n 49 dX11_whyWrong_49 rfl ?_
        refine z_iload_n 50 dX11_whyWrong_50 rfl ?_
        refine z_iload_n 51 dX11_whyWrong_51 rfl ?_
        refine z_bipush 52 dX11_whyWrong_52 zbp_15 ?_
        refine z_ci (zat_V3 54 dX11_whyWrong_54 lk_X11_216 zy_76 rfl rfl ⟨Nat.le_of_ble_eq_true rfl, Nat.le_of_ble_eq_true rfl⟩ (Nat.le_of_ble_eq_true rfl)) (tX11_costOf E p1 x1 (15 : Int32) M) (fun x9 => ?_)
        refine z_bipush 57 dX11_whyWrong_57 zbp_m4 ?_
        refine z_icne 59 66 dX11_whyWrong_59 (by decide) (fun _ => ?_) (fun _ => ?_)
        · refine z_iconst 62 dX11_whyWrong_62 zci_3 ?_
          refine z_goto 63 67 dX11_whyWrong_63 (by decide) ?_
          exact z_ireturn 67 dX11_whyWrong_67 rfl rfl (fun h => h)
        · refine z_iconst 66 dX11_whyWrong_66 zci_0 ?_
          exact z_ireturn 67 dX11_whyWrong_67 rfl rfl (fun h => h)
      · refine z_aload_n 32 dX11_whyWrong_32 rfl ?_
        refine z_iload_n 33 dX11_whyWrong_33 rfl ?_
        refine z_ci (zat_V1 34 dX11_whyWrong_34 lk_X11_256 zy_76 rfl rfl ⟨Nat.le_of_ble_eq_true rfl, Nat.le_of_ble_eq_true rfl⟩ (Nat.le_of_ble_eq_true rfl)) (tX11_toldOf E x7 M) (fun x10 => ?_)
        refine z_iload_n 37 dX11_whyWrong_37 rfl ?_
        refine z_icne 38 43 dX11_whyWrong_38 (by decide) (fun _ => ?_) (fun _ => ?_)
        · refine z_iconst 41 dX11_whyWrong_41 zci_2 ?_
          exact z_ireturn 42 dX11_whyWrong_42 rfl rfl (fun h => h)
        · refine z_iinc 43 (v := (x7 + (1 : Int32))) (L' := [some (.ref 76), some (.int p1), some (.int x1), some (.int (x7 + (1 : Int32)))]) dX11_whyWrong_43 rfl (zinc zci_1 _) (by decide) rfl ?_
          refine z_goto 46 27 dX11_whyWrong_46 (by decide) ?_
          exact zk_weak (L' := [some (.ref 76), some (.int p1), some (.int x1), some (.int (x7 + (1 : Int32)))]) (zLe_s (zLe_s (zLe_s (zLe_s zLe_nl)))) (hrec8 (x7 + (1 : Int32)))
def fX11_judge (p1 : Int32) (M : zM) : Option (Int32 × zM) :=
  lt (fX11_in p1.toInt64 (0 : Int64) (3 : Int64)) (fun (b1 : Bool) => if b1 = false then (some ((-1 : Int32), M)) else (grd (zix (8 : Int32) 30) (sq (fX11_linesOf (1 : Int32) (0 : Int32) M) (fun (x2 : Int32) => lt (((M.1 81 (zn (8 : Int32))) * x2)) (fun (x3 : Int32) => zlp (α := Int32 × Int32) (fun rec18 => (fun (u29 : Int32 × Int32) => match u29 with | (x16, x17) => sq (fX11_linesOf (0 : Int32) (0 : Int32) M) (fun (x21 : Int32) => if x21 ≤ x17 then (if (2 : Int32) ≤ p1 then (sq (fX11_layAll M) (fun (M22 : zM) => if p1 = (2 : Int32) then (some (x16, M22)) else (grd (zix (0 : Int32) 11264) (some ((x16 - (M22.1 86 (zn (0 : Int32)))), M22))))) else (if p1 = 0 then (some ((-4 : Int32), M)) else (some ((0 : Int32), M)))) else (sq (fX11_whyWrong x17 M) (fun (x23 : Int32) => if x23 ≤ 0 then (sq (fX11_toldOf x17 M) (fun (x24 : Int32) => sq (α := Int32) (if x24 = (-4 : Int32) then (grd (zix (7 : Int32) 30) (some (M.1 81 (zn (7 : Int32))))) else (sq (fX11_costOf x17 x24 (15 : Int32) M) (fun (x28 : Int32) => grd (zix (8 : Int32) 30) (some (x28 - (M.1 81 (zn (8 : Int32)))))))) (fun (x26 : Int32) => lt ((x16 + x26)) (fun (x27 : Int32) => rec18 (x27, (x17 + (1 : Int32))))))) else (if p1 = 0 then (some (x17, M)) else (if p1 = (1 : Int32) then (some (x23, M)) else (some ((-4 : Int32), M))))))))) zFu (x3, (0 : Int32)))))))
set_option maxHeartbeats 4000000 in
set_option maxRecDepth 100000 in
theorem tX11_judge (E : zE) (p1 : Int32) (M : zM) : zFI E mX11_judge [.ref 76, .int p1] zY0 M (fX11_judge p1 M) := by
  refine zF_of (L := [some (.ref 76), some (.int p1), none, none, none, none]) plX11 (Nat.le_of_ble_eq_true rfl) rfl (fun post => ?_)
  unfold fX11_judge
  refine z_iload_n 0 dX11_judge_0 rfl ?_
  refine z_i2l 1 dX11_judge_1 ?_
  refine z_lconst 2 dX11_judge_2 zlc_0 ?_
  refine z_ldc2 3 dX11_judge_3 cw_X11_191 ?_
  refine z_ctb (zat_S3 6 dX11_judge_6 lk_X11_85 ⟨Nat.le_of_ble_eq_true rfl, Nat.le_of_ble_eq_true rfl⟩ (Nat.le_of_ble_eq_true rfl)) (tX11_in E zY0 p1.toInt64 (0 : Int64) (3 : Int64) M) (fun b1 => ?_)
  refine z_ifneb 9 14 dX11_judge_9 (by decide) (fun _ => ?_) (fun _ => ?_)
  · refine z_iconst 12 dX11_judge_12 zci_m1 ?_
    exact z_ireturn 13 dX11_judge_13 rfl rfl (fun h => h)
  · refine z_aload_n 14 dX11_judge_14 rfl ?_
    refine z_getR 15 (r := 81) dX11_judge_15 fl_X11_22 zy_76 rfl ?_
    refine z_bipush 18 dX11_judge_18 zbp_8 ?_
    refine z_iaload 20 dX11_judge_20 zy_81 ?_
    refine z_aload_n 21 dX11_judge_21 rfl ?_
    refine z_iconst 22 dX11_judge_22 zci_1 ?_
    refine z_iconst 23 dX11_judge_23 zci_0 ?_
    refine z_ci (zat_V2 24 dX11_judge_24 lk_X11_164 zy_76 rfl rfl ⟨Nat.le_of_ble_eq_true rfl, Nat.le_of_ble_eq_true rfl⟩ (Nat.le_of_ble_eq_true rfl)) (tX11_linesOf E (1 : Int32) (0 : Int32) M) (fun x2 => ?_)
    refine z_imul 27 dX11_judge_27 ?_
    refine zk_nmI (fun x3 => ?_)
    refine z_istore_n 28 (L' := [some (.ref 76), some (.int p1), some (.int x3), none, none, none]) dX11_judge_28 (by decide) rfl ?_
    refine z_iconst 29 dX11_judge_29 zci_0 ?_
    refine z_istore_n 30 (L' := [some (.ref 76), some (.int p1), some (.int x3), some (.int (0 : Int32)), none, none]) dX11_judge_30 (by decide) rfl ?_
    refine zk_weak (L' := [some (.ref 76), some (.int p1), some (.int x3), some (.int (0 : Int32)), none, none]) (zLe_s (zLe_s (zLe_s (zLe_s (zLe_n (zLe_n zLe_nl)))))) (zk_lp (α := Int32 × Int32) 31 (fun (u19 : Int32 × Int32) => match u19 with | (x16, x17) => [some (.ref 76), some (.int p1), some (.int x16), some (.int x17), none, none]) (fun (u20 : Int32 × Int32) => match u20 with | (x16, x17) => (zY0, M)) ?_ zFu (x3, (0 : Int32)))
    intro rec18 hrec18
    intro u30
    obtain ⟨x16, x17⟩ := u30
    try dsimp only
    refine z_iload_n 31 dX11_judge_31 rfl ?_
    refine z_aload_n 32 dX11_judge_32 rfl ?_
    refine z_iconst 33 dX11_judge_33 zci_0 ?_
    refine z_iconst 34 dX11_judge_34 zci_0 ?_
    refine z_ci (zat_V2 35 dX11_judge_35 lk_X11_164 zy_76 rfl rfl ⟨Nat.le_of_ble_eq_true rfl, Nat.le_of_ble_eq_true rfl⟩ (Nat.le_of_ble_eq_true rfl)) (tX11_linesOf E (0 : Int32) (0 : Int32) M) (fun x21 => ?_)
    refine z_icge 38 124 dX11_judge_38 (by decide) (fun _ => ?_) (fun _ => ?_)
    · refine z_iload_n 124 dX11_judge_124 rfl ?_
      refine z_iconst 125 dX11_judge_125 zci_2 ?_
      refine z_icge 126 140 dX11_judge_126 (by decide) (fun _ => ?_) (fun _ => ?_)
      · refine z_aload_n 140 dX11_judge_140 rfl ?_
        refine z_cV (zat_V0 141 dX11_judge_141 lk_X11_242 zy_76 rfl rfl ⟨Nat.le_of_ble_eq_true rfl, Nat.le_of_ble_eq_true rfl⟩ (Nat.le_of_ble_eq_true rfl)) (tX11_layAll E M) (fun M22 => ?_)
        refine z_iload_n 144 dX11_judge_144 rfl ?_
        refine z_iconst 145 dX11_judge_145 zci_2 ?_
        refine z_icne 146 153 dX11_judge_146 (by decide) (fun _ => ?_) (fun _ => ?_)
        · refine z_iload_n 149 dX11_judge_149 rfl ?_
          refine z_goto 150 161 dX11_judge_150 (by decide) ?_
          exact z_ireturn 161 dX11_judge_161 rfl rfl (fun h => h)
        · refine z_iload_n 153 dX11_judge_153 rfl ?_
          refine z_aload_n 154 dX11_judge_154 rfl ?_
          refine z_getR 155 (r := 86) dX11_judge_155 fl_X11_37 zy_76 rfl ?_
          refine z_iconst 158 dX11_judge_158 zci_0 ?_
          refine z_iaload 159 dX11_judge_159 zy_86 ?_
          refine z_isub 160 dX11_judge_160 ?_
          exact z_ireturn 161 dX11_judge_161 rfl rfl (fun h => h)
      · refine z_iload_n 129 dX11_judge_129 rfl ?_
        refine z_ifne 130 138 dX11_judge_130 (by decide) (fun _ => ?_) (fun _ => ?_)
        · refine z_bipush 133 dX11_judge_133 zbp_m4 ?_
          refine z_goto 135 139 dX11_judge_135 (by decide) ?_
          exact z_ireturn 139 dX11_judge_139 rfl rfl (fun h => h)
        · refine z_iconst 138 dX11_judge_138 zci_0 ?_
          exact z_ireturn 139 dX11_judge_139 rfl rfl (fun h => h)
    · refine z_aload_n 41 dX11_judge_41 rfl ?_
      refine z_iload_n 42 dX11_judge_42 rfl ?_
      refine z_ci (zat_V1 43 dX11_judge_43 lk_X11_259 zy_76 rfl rfl ⟨Nat.le_of_ble_eq_true rfl, Nat.le_of_ble_eq_true rfl⟩ (Nat.le_of_ble_eq_true rfl)) (tX11_whyWrong E x17 M) (fun x23 => ?_)
      refine z_istore 46 (L' := [some (.ref 76), some (.int p1), some (.int x16), some (.int x17), some (.int x23), none]) dX11_judge_46 (by decide) rfl ?_
      refine z_iload 48 dX11_judge_48 rfl ?_
      refine z_ifle 50 74 dX11_judge_50 (by decide) (fun _ => ?_) (fun _ => ?_)
      · refine z_aload_n 74 dX11_judge_74 rfl ?_
        refine z_iload_n 75 dX11_judge_75 rfl ?_
        refine z_ci (zat_V1 76 dX11_judge_76 lk_X11_256 zy_76 rfl rfl ⟨Nat.le_of_ble_eq_true rfl, Nat.le_of_ble_eq_true rfl⟩ (Nat.le_of_ble_eq_true rfl)) (tX11_toldOf E x17 M) (fun x24 => ?_)
        refine z_istore 79 (L' := [some (.ref 76), some (.int p1), some (.int x16), some (.int x17), some (.int x23), some (.int x24)]) dX11_judge_79 (by decide) rfl ?_
        refine z_iload_n 81 dX11_judge_81 rfl ?_
        refine z_iload 82 dX11_judge_82 rfl ?_
        refine z_bipush 84 dX11_judge_84 zbp_m4 ?_
        refine zk_sqj (α := Int32) 116 (fun (x26 : Int32) => [some (.ref 76), some (.int p1), none, some (.int x17), none, none]) (fun (x26 : Int32) => [.int x26, .int x16]) (fun (x26 : Int32) => (zY0, M)) ?_ ?_
        · intro x26
          refine z_iadd 116 dX11_judge_116 ?_
          refine zk_nmI (fun x27 => ?_)
          refine z_istore_n 117 (L' := [some (.ref 76), some (.int p1), some (.int x27), some (.int x17), none, none]) dX11_judge_117 (by decide) rfl ?_
          refine z_iinc 118 (v := (x17 + (1 : Int32))) (L' := [some (.ref 76), some (.int p1), some (.int x27), some (.int (x17 + (1 : Int32))), none, none]) dX11_judge_118 rfl (zinc zci_1 _) (by decide) rfl ?_
          refine z_goto 121 31 dX11_judge_121 (by decide) ?_
          exact zk_weak (L' := [some (.ref 76), some (.int p1), some (.int x27), some (.int (x17 + (1 : Int32))), none, none]) (zLe_s (zLe_s (zLe_s (zLe_s (zLe_n (zLe_n zLe_nl)))))) (hrec18 (x27, (x17 + (1 : Int32))))
        · refine z_icne 86 99 dX11_judge_86 (by decide) (fun _ => ?_) (fun _ => ?_)
          · refine z_aload_n 89 dX11_judge_89 rfl ?_
            refine z_getR 90 (r := 81) dX11_judge_90 fl_X11_22 zy_76 rfl ?_
            refine z_bipush 93 dX11_judge_93 zbp_7 ?_
            refine z_iaload 95 dX11_judge_95 zy_81 ?_
            refine z_goto 96 116 dX11_judge_96 (by decide) ?_
            exact zk_exitw (L' := [some (.ref 76), some (.int p1), none, some (.int x17), none, none]) (zLe_s (zLe_s (zLe_n (zLe_s (zLe_n (zLe_n zLe_nl)))))) (fun h => h)
          · refine z_aload_n 99 dX11_judge_99 rfl ?_
            refine z_iload_n 100 dX11_judge_100 rfl ?_
            refine z_iload 101 dX11_judge_101 rfl ?_
            refine z_bipush 103 dX11_judge_103 zbp_15 ?_
            refine z_ci (zat_V3 105 dX11_judge_105 lk_X11_216 zy_76 rfl rfl ⟨Nat.le_of_ble_eq_true rfl, Nat.le_of_ble_eq_true rfl⟩ (Nat.le_of_ble_eq_true rfl)) (tX11_costOf E x17 x24 (15 : Int32) M) (fun x28 => ?_)
            refine z_aload_n 108 dX11_judge_108 rfl ?_
            refine z_getR 109 (r := 81) dX11_judge_109 fl_X11_22 zy_76 rfl ?_
            refine z_bipush 112 dX11_judge_112 zbp_8 ?_
            refine z_iaload 114 dX11_judge_114 zy_81 ?_
            refine z_isub 115 dX11_judge_115 ?_
            exact zk_exitw (L' := [some (.ref 76), some (.int p1), none, some (.int x17), none, none]) (zLe_s (zLe_s (zLe_n (zLe_s (zLe_n (zLe_n zLe_nl)))))) (fun h => h)
      · refine z_iload_n 53 dX11_judge_53 rfl ?_
        refine z_ifne 54 61 dX11_judge_54 (by decide) (fun _ => ?_) (fun _ => ?_)
        · refine z_iload_n 57 dX11_judge_57 rfl ?_
          refine z_goto 58 73 dX11_judge_58 (by decide) ?_
          exact z_ireturn 73 dX11_judge_73 rfl rfl (fun h => h)
        · refine z_iload_n 61 dX11_judge_61 rfl ?_
          refine z_iconst 62 dX11_judge_62 zci_1 ?_
          refine z_icne 63 71 dX11_judge_63 (by decide) (fun _ => ?_) (fun _ => ?_)
          · refine z_iload 66 dX11_judge_66 rfl ?_
            refine z_goto 68 73 dX11_judge_68 (by decide) ?_
            exact z_ireturn 73 dX11_judge_73 rfl rfl (fun h => h)
          · refine z_bipush 71 dX11_judge_71 zbp_m4 ?_
            exact z_ireturn 73 dX11_judge_73 rfl rfl (fun h => h)
def fX11_prices (p1 : Int32) (p2 : Int32) (p3 : Int32) (p4 : Int32) (M : zM) : Option (Int32 × zM) :=
  lt (fX11_in p1.toInt64 (0 : Int64) (3 : Int64)) (fun (b1 : Bool) => jn (α := Unit) (fun (_ : Unit) => some ((-1000000 : Int32), M)) (fun k181 => if b1 = false then (k181 ()) else (lt (fX11_in p2.toInt64 (0 : Int64) (2 : Int64)) (fun (b182 : Bool) => if b182 = false then (k181 ()) else (lt (fX11_in p4.toInt64 (0 : Int64) (4 : Int64)) (fun (b183 : Bool) => if b183 = false then (k181 ()) else (grd (zix p1 4) (jn (α := Unit) (fun (_ : Unit) => grd (zix p1 4) (lt (if (M.1 97 (zn p1)) = (-4 : Int32) then ((1 : Int32)) else ((3 : Int32))) (fun (x232 : Int32) => some (((-1000010 : Int32) - x232), M)))) (fun k234 => if (M.1 97 (zn p1)) = (-4 : Int32) then (k234 ()) else (grd (zix p1 4) (if (M.1 97 (zn p1)) = p2 then (sq (fX11_linesOf (0 : Int32) (0 : Int32) M) (fun (x235 : Int32) => sq (fX11_linesOf (1 : Int32) (0 : Int32) M) (fun (x236 : Int32) => lt ((x235 + x236)) (fun (x237 : Int32) => zlp (α := Int32) (fun rec239 => (fun (x238 : Int32) => if x237 ≤ x238 then (sq (fX11_layAll M) (fun (M240 : zM) => lt ((((64 : Int32) * p1) + p3)) (fun (x241 : Int32) => lt ((x237 - (1 : Int32))) (fun (x242 : Int32) => sq (α := Int32 × Int32 × Int32) (zlp (α := Int32 × Int32 × Int32 × Int32) (β := Int32 × Int32 × Int32) (fun rec247 => (fun (u274 : Int32 × Int32 × Int32 × Int32) => match u274 with | (x243, x244, x245, x246) => if x246 < 0 then (some (x243, x244, x245)) else (grd (zix (x241 + x246) 256) (lt ((M240.1 99 (zn (x241 + x246)))) (fun (x253 : Int32) => lt ((x245 + x253)) (fun (x254 : Int32) => lt (if x235 ≤ x246 then ((8 : Int32)) else ((7 : Int32))) (fun (x255 : Int32) => grd (zix x255 30) (lt (if x253 ≤ (M240.1 81 (zn x255)) then (x244) else (x246)) (fun (x256 : Int32) => sq (α := Int32) (zlp (α := Int32 × Int32) (β := Int32) (fun rec259 => (fun (u267 : Int32 × Int32) => match u267 with | (x257, x258) => sq (fX11_linesOf (1 : Int32) (0 : Int32) M240) (fun (x263 : Int32) => if x263 ≤ x258 then (some x257) else (if x235 ≤ x246 then (some x257) else (grd (zix (((10 : Int32) * x246) + x258) 100) (sq (α := Int32) (jn (α := Unit) (fun (_ : Unit) => some x257) (fun k266 => if (M240.1 85 (zn (((10 : Int32) * x246) + x258))) = (-4 : Int32) then (k266 ()) else (grd (zix ((x241 + x235) + x258) 256) (grd (zix (((10 : Int32) * x246) + x258) 100) (if (x253 + (M240.1 99 (zn ((x241 + x235) + x258)))) ≤ (M240.1 85 (zn (((10 : Int32) * x246) + x258))) then (k266 ()) else (some x246)))))) (fun (x265 : Int32) => rec259 (x265, (x258 + (1 : Int32)))))))))) zFu (x243, (0 : Int32))) (fun (x262 : Int32) => rec247 (x262, x256, x254, (x246 + (-1 : Int32))))))))))))) zFu ((-4 : Int32), (-4 : Int32), (0 : Int32), x242)) (fun (u275 : Int32 × Int32 × Int32) => match u275 with | (x250, x251, x252) => lt (if x250 = (-4 : Int32) then (if x251 = (-4 : Int32) then (true) else (false)) else (false)) (fun (b272 : Bool) => if p4 = 0 then (if b272 = false then (some ((0 : Int32), M240)) else (some ((1 : Int32), M240))) else (if p4 = (1 : Int32) then (some (x250, M240)) else (if p4 = (2 : Int32) then (some (x251, M240)) else (if b272 = false then (some ((-4 : Int32), M240)) else (if p4 = (3 : Int32) then (some (x252, M240)) else (grd (zix (0 : Int32) 11264) (some (((M240.1 86 (zn (0 : Int32))) - x252), M240))))))))))))) else (grd (zix p1 4) (lt (fX11_in (p3.toInt64 + x238.toInt64) (0 : Int64) (((M.1 98 (zn p1)) - (1 : Int32))).toInt64) (fun (b281 : Bool) => if b281 = false then (some ((-1000012 : Int32), M)) else (grd (zix ((((64 : Int32) * p1) + p3) + x238) 256) (lt (fX11_in ((M.1 99 (zn ((((64 : Int32) * p1) + p3) + x238)))).toInt64 (-999 : Int64) (999 : Int64)) (fun (b282 : Bool) => if b282 = false then (some (((-1000020 : Int32) - x238), M)) else (rec239 (x238 + (1 : Int32))))))))))) zFu (0 : Int32))))) else (k234 ()))))))))))))
set_option maxHeartbeats 4000000 in
set_option maxRecDepth 100000 in
theorem tX11_prices (E : zE) (p1 : Int32) (p2 : Int32) (p3 : Int32) (p4 : Int32) (M : zM) : zFI E mX11_prices [.ref 76, .int p1, .int p2, .int p3, .int p4] zY0 M (fX11_prices p1 p2 p3 p4 M) := by
  refine zF_of (L := [some (.ref 76), some (.int p1), some (.int p2), some (.int p3), some (.int p4), none, none, none, none, none, none, none, none, none]) plX11 (Nat.le_of_ble_eq_true rfl) rfl (fun post => ?_)
  unfold fX11_prices
  refine z_iload_n 0 dX11_prices_0 rfl ?_
  refine z_i2l 1 dX11_prices_1 ?_
  refine z_lconst 2 dX11_prices_2 zlc_0 ?_
  refine z_ldc2 3 dX11_prices_3 cw_X11_191 ?_
  refine z_ctb (zat_S3 6 dX11_prices_6 lk_X11_85 ⟨Nat.le_of_ble_eq_true rfl, Nat.le_of_ble_eq_true rfl⟩ (Nat.le_of_ble_eq_true rfl)) (tX11_in E zY0 p1.toInt64 (0 : Int64) (3 : Int64) M) (fun b1 => ?_)
  refine zk_jn (α := Unit) 37 (fun (_ : Unit) => [none, none, none, none, none, none, none, none, none, none, none, none, none, none]) (fun (_ : Unit) => []) (fun (_ : Unit) => (zY0, M)) ?_ ?_
  · intro _
    refine z_ldcw 37 dX11_prices_37 cw_X11_264 ?_
    exact z_ireturn 40 dX11_prices_40 rfl rfl (fun h => h)
  · intro k181 hk181
    refine z_ifeqb 9 37 dX11_prices_9 (by decide) (fun _ => ?_) (fun _ => ?_)
    · exact zk_weak (L' := [none, none, none, none, none, none, none, none, none, none, none, none, none, none]) (zLe_n (zLe_n (zLe_n (zLe_n (zLe_n (zLe_n (zLe_n (zLe_n (zLe_n (zLe_n (zLe_n (zLe_n (zLe_n (zLe_n zLe_nl)))))))))))))) (hk181 ())
    · refine z_iload_n 12 dX11_prices_12 rfl ?_
      refine z_i2l 13 dX11_prices_13 ?_
      refine z_lconst 14 dX11_prices_14 zlc_0 ?_
      refine z_ldc2 15 dX11_prices_15 cw_X11_185 ?_
      refine z_ctb (zat_S3 18 dX11_prices_18 lk_X11_85 ⟨Nat.le_of_ble_eq_true rfl, Nat.le_of_ble_eq_true rfl⟩ (Nat.le_of_ble_eq_true rfl)) (tX11_in E zY0 p2.toInt64 (0 : Int64) (2 : Int64) M) (fun b182 => ?_)
      refine z_ifeqb 21 37 dX11_prices_21 (by decide) (fun _ => ?_) (fun _ => ?_)
      · exact zk_weak (L' := [none, none, none, none, none, none, none, none, none, none, none, none, none, none]) (zLe_n (zLe_n (zLe_n (zLe_n (zLe_n (zLe_n (zLe_n (zLe_n (zLe_n (zLe_n (zLe_n (zLe_n (zLe_n (zLe_n zLe_nl)))))))))))))) (hk181 ())
      · refine z_iload 24 dX11_prices_24 rfl ?_
        refine z_i2l 26 dX11_prices_26 ?_
        refine z_lconst 27 dX11_prices_27 zlc_0 ?_
        refine z_ldc2 28 dX11_prices_28 cw_X11_262 ?_
        refine z_ctb (zat_S3 31 dX11_prices_31 lk_X11_85 ⟨Nat.le_of_ble_eq_true rfl, Nat.le_of_ble_eq_true rfl⟩ (Nat.le_of_ble_eq_true rfl)) (tX11_in E zY0 p4.toInt64 (0 : Int64) (4 : Int64) M) (fun b183 => ?_)
        refine z_ifneb 34 41 dX11_prices_34 (by decide) (fun _ => ?_) (fun _ => ?_)
        · exact zk_weak (L' := [none, none, none, none, none, none, none, none, none, none, none, none, none, none]) (zLe_n (zLe_n (zLe_n (zLe_n (zLe_n (zLe_n (zLe_n (zLe_n (zLe_n (zLe_n (zLe_n (zLe_n (zLe_n (zLe_n zLe_nl)))))))))))))) (hk181 ())
        · refine z_aload_n 41 dX11_prices_41 rfl ?_
          refine z_getR 42 (r := 97) dX11_prices_42 fl_X11_72 zy_76 rfl ?_
          refine z_iload_n 45 dX11_prices_45 rfl ?_
          refine z_iaload 46 dX11_prices_46 zy_97 ?_
          refine z_bipush 47 dX11_prices_47 zbp_m4 ?_
          refine zk_jn (α := Unit) 62 (fun (_ : Unit) => [some (.ref 76), some (.int p1), none, none, none, none, none, none, none, none, none, none, none, none]) (fun (_ : Unit) => []) (fun (_ : Unit) => (zY0, M)) ?_ ?_
          · intro _
            refine z_ldcw 62 dX11_prices_62 cw_X11_265 ?_
            refine z_aload_n 65 dX11_prices_65 rfl ?_
            refine z_getR 66 (r := 97) dX11_prices_66 fl_X11_72 zy_76 rfl ?_
            refine z_iload_n 69 dX11_prices_69 rfl ?_
            refine z_iaload 70 dX11_prices_70 zy_97 ?_
            refine z_bipush 71 dX11_prices_71 zbp_m4 ?_
            refine zk_ltj (α := Int32) 81 (fun (x232 : Int32) => [none, none, none, none, none, none, none, none, none, none, none, none, none, none]) (fun (x232 : Int32) => [.int x232, .int (-1000010 : Int32)]) (fun (x232 : Int32) => (zY0, M)) ?_ ?_
            · intro x232
              refine z_isub 81 dX11_prices_81 ?_
              exact z_ireturn 82 dX11_prices_82 rfl rfl (fun h => h)
            · intro k233 hk233
              refine z_icnev 73 80 dX11_prices_73 (by decide) ?_ ?_
              · refine z_iconst 76 dX11_prices_76 zci_1 ?_
                refine z_goto 77 81 dX11_prices_77 (by decide) ?_
                exact zk_weak (L' := [none, none, none, none, none, none, none, none, none, none, none, none, none, none]) (zLe_n (zLe_n (zLe_n (zLe_n (zLe_n (zLe_n (zLe_n (zLe_n (zLe_n (zLe_n (zLe_n (zLe_n (zLe_n (zLe_n zLe_nl)))))))))))))) (hk233 (1 : Int32))
              · refine z_iconst 80 dX11_prices_80 zci_3 ?_
                exact zk_weak (L' := [none, none, none, none, none, none, none, none, none, none, none, none, none, none]) (zLe_n (zLe_n (zLe_n (zLe_n (zLe_n (zLe_n (zLe_n (zLe_n (zLe_n (zLe_n (zLe_n (zLe_n (zLe_n (zLe_n zLe_nl)))))))))))))) (hk233 (3 : Int32))
          · intro k234 hk234
            refine z_iceq 49 62 dX11_prices_49 (by decide) (fun _ => ?_) (fun _ => ?_)
            · exact zk_weak (L' := [some (.ref 76), some (.int p1), none, none, none, none, none, none, none, none, none, none, none, none]) (zLe_s (zLe_s (zLe_n (zLe_n (zLe_n (zLe_n (zLe_n (zLe_n (zLe_n (zLe_n (zLe_n (zLe_n (zLe_n (zLe_n zLe_nl)))))))))))))) (hk234 ())
            · refine z_aload_n 52 dX11_prices_52 rfl ?_
              refine z_getR 53 (r := 97) dX11_prices_53 fl_X11_72 zy_76 rfl ?_
              refine z_iload_n 56 dX11_prices_56 rfl ?_
              refine z_iaload 57 dX11_prices_57 zy_97 ?_
              refine z_iload_n 58 dX11_prices_58 rfl ?_
              refine z_iceq 59 83 dX11_prices_59 (by decide) (fun _ => ?_) (fun _ => ?_)
              · refine z_aload_n 83 dX11_prices_83 rfl ?_
                refine z_iconst 84 dX11_prices_84 zci_0 ?_
                refine z_iconst 85 dX11_prices_85 zci_0 ?_
                refine z_ci (zat_V2 86 dX11_prices_86 lk_X11_164 zy_76 rfl rfl ⟨Nat.le_of_ble_eq_true rfl, Nat.le_of_ble_eq_true rfl⟩ (Nat.le_of_ble_eq_true rfl)) (tX11_linesOf E (0 : Int32) (0 : Int32) M) (fun x235 => ?_)
                refine z_istore 89 (L' := [some (.ref 76), some (.int p1), some (.int p2), some (.int p3), some (.int p4), some (.int x235), none, none, none, none, none, none, none, none]) dX11_prices_89 (by decide) rfl ?_
                refine z_iload 91 dX11_prices_91 rfl ?_
                refine z_aload_n 93 dX11_prices_93 rfl ?_
                refine z_iconst 94 dX11_prices_94 zci_1 ?_
                refine z_iconst 95 dX11_prices_95 zci_0 ?_
                refine z_ci (zat_V2 96 dX11_prices_96 lk_X11_164 zy_76 rfl rfl ⟨Nat.le_of_ble_eq_true rfl, Nat.le_of_ble_eq_true rfl⟩ (Nat.le_of_ble_eq_true rfl)) (tX11_linesOf E (1 : Int32) (0 : Int32) M) (fun x236 => ?_)
                refine z_iadd 99 dX11_prices_99 ?_
                refine zk_nmI (fun x237 => ?_)
                refine z_istore 100 (L' := [some (.ref 76), some (.int p1), some (.int p2), some (.int p3), some (.int p4), some (.int x235), some (.int x237), none, none, none, none, none, none, none]) dX11_prices_100 (by decide) rfl ?_
                refine z_iconst 102 dX11_prices_102 zci_0 ?_
                refine z_istore 103 (L' := [some (.ref 76), some (.int p1), some (.int p2), some (.int p3), some (.int p4), some (.int x235), some (.int x237), some (.int (0 : Int32)), none, none, none, none, none, none]) dX11_prices_103 (by decide) rfl ?_
                refine zk_weak (L' := [some (.ref 76), some (.int p1), none, some (.int p3), some (.int p4), some (.int x235), some (.int x237), some (.int (0 : Int32)), none, none, none, none, none, none]) (zLe_s (zLe_s (zLe_n (zLe_s (zLe_s (zLe_s (zLe_s (zLe_s (zLe_n (zLe_n (zLe_n (zLe_n (zLe_n (zLe_n zLe_nl)))))))))))))) (zk_lp (α := Int32) 105 (fun (x238 : Int32) => [some (.ref 76), some (.int p1), none, some (.int p3), some (.int p4), some (.int x235), some (.int x237), some (.int x238), none, none, none, none, none, none]) (fun (x238 : Int32) => (zY0, M)) ?_ zFu (0 : Int32))
                intro rec239 hrec239
                intro x238
                refine z_iload 105 dX11_prices_105 rfl ?_
                refine z_iload 107 dX11_prices_107 rfl ?_
                refine z_icge 109 178 dX11_prices_109 (by decide) (fun _ => ?_) (fun _ => ?_)
                · refine z_aload_n 178 dX11_prices_178 rfl ?_
                  refine z_cV (zat_V0 179 dX11_prices_179 lk_X11_242 zy_76 rfl rfl ⟨Nat.le_of_ble_eq_true rfl, Nat.le_of_ble_eq_true rfl⟩ (Nat.le_of_ble_eq_true rfl)) (tX11_layAll E M) (fun M240 => ?_)
                  refine z_bipush 182 dX11_prices_182 zbp_64 ?_
                  refine z_iload_n 184 dX11_prices_184 rfl ?_
                  refine z_imul 185 dX11_prices_185 ?_
                  refine z_iload_n 186 dX11_prices_186 rfl ?_
                  refine z_iadd 187 dX11_prices_187 ?_
                  refine zk_nmI (fun x241 => ?_)
                  refine z_istore 188 (L' := [some (.ref 76), some (.int p1), none, some (.int p3), some (.int p4), some (.int x235), some (.int x237), some (.int x241), none, none, none, none, none, none]) dX11_prices_188 (by decide) rfl ?_
                  refine z_bipush 190 dX11_prices_190 zbp_m4 ?_
                  refine z_istore 192 (L' := [some (.ref 76), some (.int p1), none, some (.int p3), some (.int p4), some (.int x235), some (.int x237), some (.int x241), some (.int (-4 : Int32)), none, none, none, none, none]) dX11_prices_192 (by decide) rfl ?_
                  refine z_bipush 194 dX11_prices_194 zbp_m4 ?_
                  refine z_istore 196 (L' := [some (.ref 76), some (.int p1), none, some (.int p3), some (.int p4), some (.int x235), some (.int x237), some (.int x241), some (.int (-4 : Int32)), some (.int (-4 : Int32)), none, none, none, none]) dX11_prices_196 (by decide) rfl ?_
                  refine z_iconst 198 dX11_prices_198 zci_0 ?_
                  refine z_istore 199 (L' := [some (.ref 76), some (.int p1), none, some (.int p3), some (.int p4), some (.int x235), some (.int x237), some (.int x241), some (.int (-4 : Int32)), some (.int (-4 : Int32)), some (.int (0 : Int32)), none, none, none]) dX11_prices_199 (by decide) rfl ?_
                  refine z_iload 201 dX11_prices_201 rfl ?_
                  refine z_iconst 203 dX11_prices_203 zci_1 ?_
                  refine z_isub 204 dX11_prices_204 ?_
                  refine zk_nmI (fun x242 => ?_)
                  refine z_istore 205 (L' := [some (.ref 76), some (.int p1), none, some (.int p3), some (.int p4), some (.int x235), some (.int x237), some (.int x241), some (.int (-4 : Int32)), some (.int (-4 : Int32)), some (.int (0 : Int32)), some (.int x242), none, none]) dX11_prices_205 (by decide) rfl ?_
                  refine zk_sqj (α := Int32 × Int32 × Int32) 356 (fun (u276 : Int32 × Int32 × Int32) => match u276 with | (x250, x251, x252) => [some (.ref 76), none, none, none, some (.int p4), none, none, none, some (.int x250), some (.int x251), some (.int x252), none, none, none]) (fun (u277 : Int32 × Int32 × Int32) => match u277 with | (x250, x251, x252) => []) (fun (u278 : Int32 × Int32 × Int32) => match u278 with | (x250, x251, x252) => (zY0, M240)) ?_ ?_
                  · intro u279
                    obtain ⟨x250, x251, x252⟩ := u279
                    try dsimp only
                    refine z_iload 356 dX11_prices_356 rfl ?_
                    refine z_bipush 358 dX11_prices_358 zbp_m4 ?_
                    refine zk_ltj (α := Bool) 375 (fun (b272 : Bool) => [some (.ref 76), none, none, none, some (.int p4), none, none, none, some (.int x250), some (.int x251), some (.int x252), none, none, none]) (fun (b272 : Bool) => [.int (zb b272)]) (fun (b272 : Bool) => (zY0, M240)) ?_ ?_
                    · intro b272
                      refine z_istore 375 (L' := [some (.ref 76), none, none, none, some (.int p4), none, none, none, some (.int x250), some (.int x251), some (.int x252), some (.int (zb b272)), none, none]) dX11_prices_375 (by decide) rfl ?_
                      refine z_iload 377 dX11_prices_377 rfl ?_
                      refine z_ifne 379 395 dX11_prices_379 (by decide) (fun _ => ?_) (fun _ => ?_)
                      · refine z_iload 382 dX11_prices_382 rfl ?_
                        refine z_ifeqb 384 391 dX11_prices_384 (by decide) (fun _ => ?_) (fun _ => ?_)
                        · refine z_iconst 391 dX11_prices_391 zci_0 ?_
                          refine z_goto 392 447 dX11_prices_392 (by decide) ?_
                          exact z_ireturn 447 dX11_prices_447 rfl rfl (fun h => h)
                        · refine z_iconst 387 dX11_prices_387 zci_1 ?_
                          refine z_goto 388 447 dX11_prices_388 (by decide) ?_
                          exact z_ireturn 447 dX11_prices_447 rfl rfl (fun h => h)
                      · refine z_iload 395 dX11_prices_395 rfl ?_
                        refine z_iconst 397 dX11_prices_397 zci_1 ?_
                        refine z_icne 398 406 dX11_prices_398 (by decide) (fun _ => ?_) (fun _ => ?_)
                        · refine z_iload 401 dX11_prices_401 rfl ?_
                          refine z_goto 403 447 dX11_prices_403 (by decide) ?_
                          exact z_ireturn 447 dX11_prices_447 rfl rfl (fun h => h)
                        · refine z_iload 406 dX11_prices_406 rfl ?_
                          refine z_iconst 408 dX11_prices_408 zci_2 ?_
                          refine z_icne 409 417 dX11_prices_409 (by decide) (fun _ => ?_) (fun _ => ?_)
                          · refine z_iload 412 dX11_prices_412 rfl ?_
                            refine z_goto 414 447 dX11_prices_414 (by decide) ?_
                            exact z_ireturn 447 dX11_prices_447 rfl rfl (fun h => h)
                          · refine z_iload 417 dX11_prices_417 rfl ?_
                            refine z_ifneb 419 427 dX11_prices_419 (by decide) (fun _ => ?_) (fun _ => ?_)
                            · refine z_bipush 422 dX11_prices_422 zbp_m4 ?_
                              refine z_goto 424 447 dX11_prices_424 (by decide) ?_
                              exact z_ireturn 447 dX11_prices_447 rfl rfl (fun h => h)
                            · refine z_iload 427 dX11_prices_427 rfl ?_
                              refine z_iconst 429 dX11_prices_429 zci_3 ?_
                              refine z_icne 430 438 dX11_prices_430 (by decide) (fun _ => ?_) (fun _ => ?_)
                              · refine z_iload 433 dX11_prices_433 rfl ?_
                                refine z_goto 435 447 dX11_prices_435 (by decide) ?_
                                exact z_ireturn 447 dX11_prices_447 rfl rfl (fun h => h)
                              · refine z_aload_n 438 dX11_prices_438 rfl ?_
                                refine z_getR 439 (r := 86) dX11_prices_439 fl_X11_37 zy_76 rfl ?_
                                refine z_iconst 442 dX11_prices_442 zci_0 ?_
                                refine z_iaload 443 dX11_prices_443 zy_86 ?_
                                refine z_iload 444 dX11_prices_444 rfl ?_
                                refine z_isub 446 dX11_prices_446 ?_
                                exact z_ireturn 447 dX11_prices_447 rfl rfl (fun h => h)
                    · intro k273 hk273
                      refine z_icnev 360 374 dX11_prices_360 (by decide) ?_ ?_
                      · refine z_iload 363 dX11_prices_363 rfl ?_
                        refine z_bipush 365 dX11_prices_365 zbp_m4 ?_
                        refine z_icnev 367 374 dX11_prices_367 (by decide) ?_ ?_
                        · refine z_iconst 370 dX11_prices_370 zci_1 ?_
                          refine z_goto 371 375 dX11_prices_371 (by decide) ?_
                          exact zk_weak (L' := [some (.ref 76), none, none, none, some (.int p4), none, none, none, some (.int x250), some (.int x251), some (.int x252), none, none, none]) (zLe_s (zLe_n (zLe_n (zLe_n (zLe_s (zLe_n (zLe_n (zLe_n (zLe_s (zLe_s (zLe_s (zLe_n (zLe_n (zLe_n zLe_nl)))))))))))))) (hk273 true)
                        · refine z_iconst 374 dX11_prices_374 zci_0 ?_
                          exact zk_weak (L' := [some (.ref 76), none, none, none, some (.int p4), none, none, none, some (.int x250), some (.int x251), some (.int x252), none, none, none]) (zLe_s (zLe_n (zLe_n (zLe_n (zLe_s (zLe_n (zLe_n (zLe_n (zLe_s (zLe_s (zLe_s (zLe_n (zLe_n (zLe_n zLe_nl)))))))))))))) (hk273 false)
                      · refine z_iconst 374 dX11_prices_374 zci_0 ?_
                        exact zk_weak (L' := [some (.ref 76), none, none, none, some (.int p4), none, none, none, some (.int x250), some (.int x251), some (.int x252), none, none, none]) (zLe_s (zLe_n (zLe_n (zLe_n (zLe_s (zLe_n (zLe_n (zLe_n (zLe_s (zLe_s (zLe_s (zLe_n (zLe_n (zLe_n zLe_nl)))))))))))))) (hk273 false)
                  · refine zk_weak (L' := [some (.ref 76), none, none, none, some (.int p4), some (.int x235), none, some (.int x241), some (.int (-4 : Int32)), some (.int (-4 : Int32)), some (.int (0 : Int32)), some (.int x242), none, none]) (zLe_s (zLe_n (zLe_n (zLe_n (zLe_s (zLe_s (zLe_n (zLe_s (zLe_s (zLe_s (zLe_s (zLe_s (zLe_n (zLe_n zLe_nl)))))))))))))) (zk_lp (α := Int32 × Int32 × Int32 × Int32) 207 (fun (u248 : Int32 × Int32 × Int32 × Int32) => match u248 with | (x243, x244, x245, x246) => [some (.ref 76), none, none, none, some (.int p4), some (.int x235), none, some (.int x241), some (.int x243), some (.int x244), some (.int x245), some (.int x246), none, none]) (fun (u249 : Int32 × Int32 × Int32 × Int32) => match u249 with | (x243, x244, x245, x246) => (zY0, M240)) ?_ zFu ((-4 : Int32), (-4 : Int32), (0 : Int32), x242))
                    intro rec247 hrec247
                    intro u280
                    obtain ⟨x243, x244, x245, x246⟩ := u280
                    try dsimp only
                    refine z_iload 207 dX11_prices_207 rfl ?_
                    refine z_iflt 209 356 dX11_prices_209 (by decide) (fun _ => ?_) (fun _ => ?_)
                    · exact zk_exitw (L' := [some (.ref 76), none, none, none, some (.int p4), none, none, none, some (.int x243), some (.int x244), some (.int x245), none, none, none]) (zLe_s (zLe_n (zLe_n (zLe_n (zLe_s (zLe_n (zLe_n (zLe_n (zLe_s (zLe_s (zLe_s (zLe_n (zLe_n (zLe_n zLe_nl)))))))))))))) (fun h => h)
                    · refine z_aload_n 212 dX11_prices_212 rfl ?_
                      refine z_getR 213 (r := 99) dX11_prices_213 fl_X11_78 zy_76 rfl ?_
                      refine z_iload 216 dX11_prices_216 rfl ?_
                      refine z_iload 218 dX11_prices_218 rfl ?_
                      refine z_iadd 220 dX11_prices_220 ?_
                      refine z_iaload 221 dX11_prices_221 zy_99 ?_
                      refine zk_nmI (fun x253 => ?_)
                      refine z_istore 222 (L' := [some (.ref 76), none, none, none, some (.int p4), some (.int x235), none, some (.int x241), some (.int x243), some (.int x244), some (.int x245), some (.int x246), some (.int x253), none]) dX11_prices_222 (by decide) rfl ?_
                      refine z_iload 224 dX11_prices_224 rfl ?_
                      refine z_iload 226 dX11_prices_226 rfl ?_
                      refine z_iadd 228 dX11_prices_228 ?_
                      refine zk_nmI (fun x254 => ?_)
                      refine z_istore 229 (L' := [some (.ref 76), none, none, none, some (.int p4), some (.int x235), none, some (.int x241), some (.int x243), some (.int x244), some (.int x254), some (.int x246), some (.int x253), none]) dX11_prices_229 (by decide) rfl ?_
                      refine z_iload 231 dX11_prices_231 rfl ?_
                      refine z_aload_n 233 dX11_prices_233 rfl ?_
                      refine z_getR 234 (r := 81) dX11_prices_234 fl_X11_22 zy_76 rfl ?_
                      refine z_iload 237 dX11_prices_237 rfl ?_
                      refine z_iload 239 dX11_prices_239 rfl ?_
                      refine zk_ltj (α := Int32) 251 (fun (x255 : Int32) => [some (.ref 76), none, none, none, some (.int p4), some (.int x235), none, some (.int x241), some (.int x243), some (.int x244), some (.int x254), some (.int x246), some (.int x253), none]) (fun (x255 : Int32) => [.int x255, .ref 81, .int x253]) (fun (x255 : Int32) => (zY0, M240)) ?_ ?_
                      · intro x255
                        refine z_iaload 251 dX11_prices_251 zy_81 ?_
                        refine zk_ltj (α := Int32) 262 (fun (x256 : Int32) => [some (.ref 76), none, none, none, some (.int p4), some (.int x235), none, some (.int x241), some (.int x243), none, some (.int x254), some (.int x246), some (.int x253), none]) (fun (x256 : Int32) => [.int x256]) (fun (x256 : Int32) => (zY0, M240)) ?_ ?_
                        · intro x256
                          refine z_istore 262 (L' := [some (.ref 76), none, none, none, some (.int p4), some (.int x235), none, some (.int x241), some (.int x243), some (.int x256), some (.int x254), some (.int x246), some (.int x253), none]) dX11_prices_262 (by decide) rfl ?_
                          refine z_iconst 264 dX11_prices_264 zci_0 ?_
                          refine z_istore 265 (L' := [some (.ref 76), none, none, none, some (.int p4), some (.int x235), none, some (.int x241), some (.int x243), some (.int x256), some (.int x254), some (.int x246), some (.int x253), some (.int (0 : Int32))]) dX11_prices_265 (by decide) rfl ?_
                          refine zk_sqj (α := Int32) 350 (fun (x262 : Int32) => [some (.ref 76), none, none, none, some (.int p4), some (.int x235), none, some (.int x241), some (.int x262), some (.int x256), some (.int x254), some (.int x246), none, none]) (fun (x262 : Int32) => []) (fun (x262 : Int32) => (zY0, M240)) ?_ ?_
                          · intro x262
                            refine z_iinc 350 (v := (x246 + (-1 : Int32))) (L' := [some (.ref 76), none, none, none, some (.int p4), some (.int x235), none, some (.int x241), some (.int x262), some (.int x256), some (.int x254), some (.int (x246 + (-1 : Int32))), none, none]) dX11_prices_350 rfl (zinc zci_m1 _) (by decide) rfl ?_
                            refine z_goto 353 207 dX11_prices_353 (by decide) ?_
                            exact zk_weak (L' := [some (.ref 76), none, none, none, some (.int p4), some (.int x235), none, some (.int x241), some (.int x262), some (.int x256), some (.int x254), some (.int (x246 + (-1 : Int32))), none, none]) (zLe_s (zLe_n (zLe_n (zLe_n (zLe_s (zLe_s (zLe_n (zLe_s (zLe_s (zLe_s (zLe_s (zLe_s (zLe_n (zLe_n zLe_nl)))))))))))))) (hrec247 (x262, x256, x254, (x246 + (-1 : Int32))))
                          · refine zk_weak (L' := [some (.ref 76), none, none, none, some (.int p4), some (.int x235), none, some (.int x241), some (.int x243), some (.int x256), some (.int x254), some (.int x246), some (.int x253), some (.int (0 : Int32))]) (zLe_s (zLe_n (zLe_n (zLe_n (zLe_s (zLe_s (zLe_n (zLe_s (zLe_s (zLe_s (zLe_s (zLe_s (zLe_s (zLe_s zLe_nl)))))))))))))) (zk_lp (α := Int32 × Int32) 267 (fun (u260 : Int32 × Int32) => match u260 with | (x257, x258) => [some (.ref 76), none, none, none, some (.int p4), some (.int x235), none, some (.int x241), some (.int x257), some (.int x256), some (.int x254), some (.int x246), some (.int x253), some (.int x258)]) (fun (u261 : Int32 × Int32) => match u261 with | (x257, x258) => (zY0, M240)) ?_ zFu (x243, (0 : Int32)))
                            intro rec259 hrec259
                            intro u268
                            obtain ⟨x257, x258⟩ := u268
                            try dsimp only
                            refine z_iload 267 dX11_prices_267 rfl ?_
                            refine z_aload_n 269 dX11_prices_269 rfl ?_
                            refine z_iconst 270 dX11_prices_270 zci_1 ?_
                            refine z_iconst 271 dX11_prices_271 zci_0 ?_
                            refine z_ci (zat_V2 272 dX11_prices_272 lk_X11_164 zy_76 rfl rfl ⟨Nat.le_of_ble_eq_true rfl, Nat.le_of_ble_eq_true rfl⟩ (Nat.le_of_ble_eq_true rfl)) (tX11_linesOf E (1 : Int32) (0 : Int32) M240) (fun x263 => ?_)
                            refine z_icge 275 350 dX11_prices_275 (by decide) (fun _ => ?_) (fun _ => ?_)
                            · exact zk_exitw (L' := [some (.ref 76), none, none, none, some (.int p4), some (.int x235), none, some (.int x241), some (.int x257), some (.int x256), some (.int x254), some (.int x246), none, none]) (zLe_s (zLe_n (zLe_n (zLe_n (zLe_s (zLe_s (zLe_n (zLe_s (zLe_s (zLe_s (zLe_s (zLe_s (zLe_n (zLe_n zLe_nl)))))))))))))) (fun h => h)
                            · refine z_iload 278 dX11_prices_278 rfl ?_
                              refine z_iload 280 dX11_prices_280 rfl ?_
                              refine z_icge 282 350 dX11_prices_282 (by decide) (fun _ => ?_) (fun _ => ?_)
                              · exact zk_exitw (L' := [some (.ref 76), none, none, none, some (.int p4), some (.int x235), none, some (.int x241), some (.int x257), some (.int x256), some (.int x254), some (.int x246), none, none]) (zLe_s (zLe_n (zLe_n (zLe_n (zLe_s (zLe_s (zLe_n (zLe_s (zLe_s (zLe_s (zLe_s (zLe_s (zLe_n (zLe_n zLe_nl)))))))))))))) (fun h => h)
                              · refine z_aload_n 285 dX11_prices_285 rfl ?_
                                refine z_getR 286 (r := 85) dX11_prices_286 fl_X11_34 zy_76 rfl ?_
                                refine z_bipush 289 dX11_prices_289 zbp_10 ?_
                                refine z_iload 291 dX11_prices_291 rfl ?_
                                refine z_imul 293 dX11_prices_293 ?_
                                refine z_iload 294 dX11_prices_294 rfl ?_
                                refine z_iadd 296 dX11_prices_296 ?_
                                refine z_iaload 297 dX11_prices_297 zy_85 ?_
                                refine z_bipush 298 dX11_prices_298 zbp_m4 ?_
                                refine zk_sqj (α := Int32) 342 (fun (x265 : Int32) => [some (.ref 76), none, none, none, some (.int p4), some (.int x235), none, some (.int x241), none, some (.int x256), some (.int x254), some (.int x246), some (.int x253), some (.int x258)]) (fun (x265 : Int32) => [.int x265]) (fun (x265 : Int32) => (zY0, M240)) ?_ ?_
                                · intro x265
                                  refine z_istore 342 (L' := [some (.ref 76), none, none, none, some (.int p4), some (.int x235), none, some (.int x241), some (.int x265), some (.int x256), some (.int x254), some (.int x246), some (.int x253), some (.int x258)]) dX11_prices_342 (by decide) rfl ?_
                                  refine z_iinc 344 (v := (x258 + (1 : Int32))) (L' := [some (.ref 76), none, none, none, some (.int p4), some (.int x235), none, some (.int x241), some (.int x265), some (.int x256), some (.int x254), some (.int x246), some (.int x253), some (.int (x258 + (1 : Int32)))]) dX11_prices_344 rfl (zinc zci_1 _) (by decide) rfl ?_
                                  refine z_goto 347 267 dX11_prices_347 (by decide) ?_
                                  exact zk_weak (L' := [some (.ref 76), none, none, none, some (.int p4), some (.int x235), none, some (.int x241), some (.int x265), some (.int x256), some (.int x254), some (.int x246), some (.int x253), some (.int (x258 + (1 : Int32)))]) (zLe_s (zLe_n (zLe_n (zLe_n (zLe_s (zLe_s (zLe_n (zLe_s (zLe_s (zLe_s (zLe_s (zLe_s (zLe_s (zLe_s zLe_nl)))))))))))))) (hrec259 (x265, (x258 + (1 : Int32))))
                                · refine zk_jn (α := Unit) 340 (fun (_ : Unit) => [some (.ref 76), none, none, none, some (.int p4), some (.int x235), none, some (.int x241), some (.int x257), some (.int x256), some (.int x254), some (.int x246), some (.int x253), some (.int x258)]) (fun (_ : Unit) => []) (fun (_ : Unit) => (zY0, M240)) ?_ ?_
                                  · intro _
                                    refine z_iload 340 dX11_prices_340 rfl ?_
                                    exact zk_exitw (L' := [some (.ref 76), none, none, none, some (.int p4), some (.int x235), none, some (.int x241), none, some (.int x256), some (.int x254), some (.int x246), some (.int x253), some (.int x258)]) (zLe_s (zLe_n (zLe_n (zLe_n (zLe_s (zLe_s (zLe_n (zLe_s (zLe_n (zLe_s (zLe_s (zLe_s (zLe_s (zLe_s zLe_nl)))))))))))))) (fun h => h)
                                  · intro k266 hk266
                                    refine z_iceq 300 340 dX11_prices_300 (by decide) (fun _ => ?_) (fun _ => ?_)
                                    · exact zk_weak (L' := [some (.ref 76), none, none, none, some (.int p4), some (.int x235), none, some (.int x241), some (.int x257), some (.int x256), some (.int x254), some (.int x246), some (.int x253), some (.int x258)]) (zLe_s (zLe_n (zLe_n (zLe_n (zLe_s (zLe_s (zLe_n (zLe_s (zLe_s (zLe_s (zLe_s (zLe_s (zLe_s (zLe_s zLe_nl)))))))))))))) (hk266 ())
                                    · refine z_iload 303 dX11_prices_303 rfl ?_
                                      refine z_aload_n 305 dX11_prices_305 rfl ?_
                                      refine z_getR 306 (r := 99) dX11_prices_306 fl_X11_78 zy_76 rfl ?_
                                      refine z_iload 309 dX11_prices_309 rfl ?_
                                      refine z_iload 311 dX11_prices_311 rfl ?_
                                      refine z_iadd 313 dX11_prices_313 ?_
                                      refine z_iload 314 dX11_prices_314 rfl ?_
                                      refine z_iadd 316 dX11_prices_316 ?_
                                      refine z_iaload 317 dX11_prices_317 zy_99 ?_
                                      refine z_iadd 318 dX11_prices_318 ?_
                                      refine z_aload_n 319 dX11_prices_319 rfl ?_
                                      refine z_getR 320 (r := 85) dX11_prices_320 fl_X11_34 zy_76 rfl ?_
                                      refine z_bipush 323 dX11_prices_323 zbp_10 ?_
                                      refine z_iload 325 dX11_prices_325 rfl ?_
                                      refine z_imul 327 dX11_prices_327 ?_
                                      refine z_iload 328 dX11_prices_328 rfl ?_
                                      refine z_iadd 330 dX11_prices_330 ?_
                                      refine z_iaload 331 dX11_prices_331 zy_85 ?_
                                      refine z_icle 332 340 dX11_prices_332 (by decide) (fun _ => ?_) (fun _ => ?_)
                                      · exact zk_weak (L' := [some (.ref 76), none, none, none, some (.int p4), some (.int x235), none, some (.int x241), some (.int x257), some (.int x256), some (.int x254), some (.int x246), some (.int x253), some (.int x258)]) (zLe_s (zLe_n (zLe_n (zLe_n (zLe_s (zLe_s (zLe_n (zLe_s (zLe_s (zLe_s (zLe_s (zLe_s (zLe_s (zLe_s zLe_nl)))))))))))))) (hk266 ())
                                      · refine z_iload 335 dX11_prices_335 rfl ?_
                                        refine z_goto 337 342 dX11_prices_337 (by decide) ?_
                                        exact zk_exitw (L' := [some (.ref 76), none, none, none, some (.int p4), some (.int x235), none, some (.int x241), none, some (.int x256), some (.int x254), some (.int x246), some (.int x253), some (.int x258)]) (zLe_s (zLe_n (zLe_n (zLe_n (zLe_s (zLe_s (zLe_n (zLe_s (zLe_n (zLe_s (zLe_s (zLe_s (zLe_s (zLe_s zLe_nl)))))))))))))) (fun h => h)
                        · intro k269 hk269
                          refine z_iclev 252 260 dX11_prices_252 (by decide) ?_ ?_
                          · refine z_iload 260 dX11_prices_260 rfl ?_
                            exact zk_weak (L' := [some (.ref 76), none, none, none, some (.int p4), some (.int x235), none, some (.int x241), some (.int x243), none, some (.int x254), some (.int x246), some (.int x253), none]) (zLe_s (zLe_n (zLe_n (zLe_n (zLe_s (zLe_s (zLe_n (zLe_s (zLe_s (zLe_n (zLe_s (zLe_s (zLe_s (zLe_n zLe_nl)))))))))))))) (hk269 x244)
                          · refine z_iload 255 dX11_prices_255 rfl ?_
                            refine z_goto 257 262 dX11_prices_257 (by decide) ?_
                            exact zk_weak (L' := [some (.ref 76), none, none, none, some (.int p4), some (.int x235), none, some (.int x241), some (.int x243), none, some (.int x254), some (.int x246), some (.int x253), none]) (zLe_s (zLe_n (zLe_n (zLe_n (zLe_s (zLe_s (zLe_n (zLe_s (zLe_s (zLe_n (zLe_s (zLe_s (zLe_s (zLe_n zLe_nl)))))))))))))) (hk269 x246)
                      · intro k270 hk270
                        refine z_icgev 241 249 dX11_prices_241 (by decide) ?_ ?_
                        · refine z_bipush 249 dX11_prices_249 zbp_8 ?_
                          exact zk_weak (L' := [some (.ref 76), none, none, none, some (.int p4), some (.int x235), none, some (.int x241), some (.int x243), some (.int x244), some (.int x254), some (.int x246), some (.int x253), none]) (zLe_s (zLe_n (zLe_n (zLe_n (zLe_s (zLe_s (zLe_n (zLe_s (zLe_s (zLe_s (zLe_s (zLe_s (zLe_s (zLe_n zLe_nl)))))))))))))) (hk270 (8 : Int32))
                        · refine z_bipush 244 dX11_prices_244 zbp_7 ?_
                          refine z_goto 246 251 dX11_prices_246 (by decide) ?_
                          exact zk_weak (L' := [some (.ref 76), none, none, none, some (.int p4), some (.int x235), none, some (.int x241), some (.int x243), some (.int x244), some (.int x254), some (.int x246), some (.int x253), none]) (zLe_s (zLe_n (zLe_n (zLe_n (zLe_s (zLe_s (zLe_n (zLe_s (zLe_s (zLe_s (zLe_s (zLe_s (zLe_s (zLe_n zLe_nl)))))))))))))) (hk270 (7 : Int32))
                · refine z_iload_n 112 dX11_prices_112 rfl ?_
                  refine z_i2l 113 dX11_prices_113 ?_
                  refine z_iload 114 dX11_prices_114 rfl ?_
                  refine z_i2l 116 dX11_prices_116 ?_
                  refine z_ladd 117 dX11_prices_117 ?_
                  refine z_lconst 118 dX11_prices_118 zlc_0 ?_
                  refine z_aload_n 119 dX11_prices_119 rfl ?_
                  refine z_getR 120 (r := 98) dX11_prices_120 fl_X11_75 zy_76 rfl ?_
                  refine z_iload_n 123 dX11_prices_123 rfl ?_
                  refine z_iaload 124 dX11_prices_124 zy_98 ?_
                  refine z_iconst 125 dX11_prices_125 zci_1 ?_
                  refine z_isub 126 dX11_prices_126 ?_
                  refine z_i2l 127 dX11_prices_127 ?_
                  refine z_ctb (zat_S3 128 dX11_prices_128 lk_X11_85 ⟨Nat.le_of_ble_eq_true rfl, Nat.le_of_ble_eq_true rfl⟩ (Nat.le_of_ble_eq_true rfl)) (tX11_in E zY0 (p3.toInt64 + x238.toInt64) (0 : Int64) (((M.1 98 (zn p1)) - (1 : Int32))).toInt64 M) (fun b281 => ?_)
                  refine z_ifneb 131 138 dX11_prices_131 (by decide) (fun _ => ?_) (fun _ => ?_)
                  · refine z_ldcw 134 dX11_prices_134 cw_X11_266 ?_
                    exact z_ireturn 137 dX11_prices_137 rfl rfl (fun h => h)
                  · refine z_aload_n 138 dX11_prices_138 rfl ?_
                    refine z_getR 139 (r := 99) dX11_prices_139 fl_X11_78 zy_76 rfl ?_
                    refine z_bipush 142 dX11_prices_142 zbp_64 ?_
                    refine z_iload_n 144 dX11_prices_144 rfl ?_
                    refine z_imul 145 dX11_prices_145 ?_
                    refine z_iload_n 146 dX11_prices_146 rfl ?_
                    refine z_iadd 147 dX11_prices_147 ?_
                    refine z_iload 148 dX11_prices_148 rfl ?_
                    refine z_iadd 150 dX11_prices_150 ?_
                    refine z_iaload 151 dX11_prices_151 zy_99 ?_
                    refine z_i2l 152 dX11_prices_152 ?_
                    refine z_ldc2 153 dX11_prices_153 cw_X11_267 ?_
                    refine z_ldc2 156 dX11_prices_156 cw_X11_167 ?_
                    refine z_ctb (zat_S3 159 dX11_prices_159 lk_X11_85 ⟨Nat.le_of_ble_eq_true rfl, Nat.le_of_ble_eq_true rfl⟩ (Nat.le_of_ble_eq_true rfl)) (tX11_in E zY0 ((M.1 99 (zn ((((64 : Int32) * p1) + p3) + x238)))).toInt64 (-999 : Int64) (999 : Int64) M) (fun b282 => ?_)
                    refine z_ifneb 162 172 dX11_prices_162 (by decide) (fun _ => ?_) (fun _ => ?_)
                    · refine z_ldcw 165 dX11_prices_165 cw_X11_269 ?_
                      refine z_iload 168 dX11_prices_168 rfl ?_
                      refine z_isub 170 dX11_prices_170 ?_
                      exact z_ireturn 171 dX11_prices_171 rfl rfl (fun h => h)
                    · refine z_iinc 172 (v := (x238 + (1 : Int32))) (L' := [some (.ref 76), some (.int p1), none, some (.int p3), some (.int p4), some (.int x235), some (.int x237), some (.int (x238 + (1 : Int32))), none, none, none, none, none, none]) dX11_prices_172 rfl (zinc zci_1 _) (by decide) rfl ?_
                      refine z_goto 175 105 dX11_prices_175 (by decide) ?_
                      exact zk_weak (L' := [some (.ref 76), some (.int p1), none, some (.int p3), some (.int p4), some (.int x235), some (.int x237), some (.int (x238 + (1 : Int32))), none, none, none, none, none, none]) (zLe_s (zLe_s (zLe_n (zLe_s (zLe_s (zLe_s (zLe_s (zLe_s (zLe_n (zLe_n (zLe_n (zLe_n (zLe_n (zLe_n zLe_nl)))))))))))))) (hrec239 (x238 + (1 : Int32)))
              · exact zk_weak (L' := [some (.ref 76), some (.int p1), none, none, none, none, none, none, none, none, none, none, none, none]) (zLe_s (zLe_s (zLe_n (zLe_n (zLe_n (zLe_n (zLe_n (zLe_n (zLe_n (zLe_n (zLe_n (zLe_n (zLe_n (zLe_n zLe_nl)))))))))))))) (hk234 ())
def fX11_times (p1 : Int32) (M : zM) : Option (Int32 × zM) :=
  lt (fX11_in p1.toInt64 (0 : Int64) (6 : Int64)) (fun (b1 : Bool) => if b1 = false then (some ((-10000 : Int32), M)) else (sq (fX11_layAll M) (fun (M2 : zM) => sq (fX11_layFirst 91 M2) (fun (M3 : zM) => sq (α := Int32 × Int32 × Int32 × Int32 × zM) (zlp (α := Int32 × Int32 × Int32 × Int32 × Int32 × zM) (β := Int32 × Int32 × Int32 × Int32 × zM) (fun rec185 => (fun (u234 : Int32 × Int32 × Int32 × Int32 × Int32 × zM) => match u234 with | (x179, x180, x181, x182, x183, M184) => sq (fX11_linesOf (0 : Int32) (0 : Int32) M184) (fun (x193 : Int32) => if x193 ≤ x183 then (some (x179, x180, x181, x182, M184)) else (grd (zix x183 10) (lt ((M184.1 91 (zn x183))) (fun (x194 : Int32) => sq (α := Int32 × Int32 × Int32 × Int32 × zM) (if x194 = (-4 : Int32) then (some (x179, x180, x181, x182, M184)) else (jn (α := zM) (fun (M219 : zM) => sq (fX11_tookOf x183 x194 M219) (fun (x220 : Int32) => lt (if x179 = 0 then (x220) else (if x180 ≤ x220 then (x180) else (x220))) (fun (x222 : Int32) => lt (if x179 = 0 then (x220) else (if x220 ≤ x181 then (x181) else (x220))) (fun (x224 : Int32) => lt ((x182 + x220)) (fun (x225 : Int32) => some ((x179 + (1 : Int32)), x222, x224, x225, M219)))))) (fun k228 => if p1 < (5 : Int32) then (k228 M184) else (bi (fX11_sureOf x183 x194 M184) (fun (x230 : Int32) (M229 : zM) => if x230 = (2 : Int32) then (k228 M229) else (some (x179, x180, x181, x182, M229))))))) (fun (u231 : Int32 × Int32 × Int32 × Int32 × zM) => match u231 with | (x209, x210, x211, x212, M213) => rec185 (x209, x210, x211, x212, (x183 + (1 : Int32)), M213)))))))) zFu ((0 : Int32), (0 : Int32), (0 : Int32), (0 : Int32), (0 : Int32), M3)) (fun (u235 : Int32 × Int32 × Int32 × Int32 × zM) => match u235 with | (x188, x189, x190, x191, M192) => if p1 = 0 then (some (x188, M192)) else (if x188 = 0 then (some ((-10004 : Int32), M192)) else (if p1 = (1 : Int32) then (some (x189, M192)) else (if p1 = (2 : Int32) then (some (x190, M192)) else (sq (fX11_lowest x191.toInt64 x188.toInt64 (zrm_i (p1 + (1 : Int32)) (2 : Int32))) (fun (x233 : Int64) => some ((x233).toInt32, M192)))))))))))
set_option maxHeartbeats 4000000 in
set_option maxRecDepth 100000 in
theorem tX11_times (E : zE) (p1 : Int32) (M : zM) : zFI E mX11_times [.ref 76, .int p1] zY0 M (fX11_times p1 M) := by
  refine zF_of (L := [some (.ref 76), some (.int p1), none, none, none, none, none, none, none]) plX11 (Nat.le_of_ble_eq_true rfl) rfl (fun post => ?_)
  unfold fX11_times
  refine z_iload_n 0 dX11_times_0 rfl ?_
  refine z_i2l 1 dX11_times_1 ?_
  refine z_lconst 2 dX11_times_2 zlc_0 ?_
  refine z_ldc2 3 dX11_times_3 cw_X11_171 ?_
  refine z_ctb (zat_S3 6 dX11_times_6 lk_X11_85 ⟨Nat.le_of_ble_eq_true rfl, Nat.le_of_ble_eq_true rfl⟩ (Nat.le_of_ble_eq_true rfl)) (tX11_in E zY0 p1.toInt64 (0 : Int64) (6 : Int64) M) (fun b1 => ?_)
  refine z_ifneb 9 16 dX11_times_9 (by decide) (fun _ => ?_) (fun _ => ?_)
  · refine z_sipush 12 dX11_times_12 zsp_m10000 ?_
    exact z_ireturn 15 dX11_times_15 rfl rfl (fun h => h)
  · refine z_aload_n 16 dX11_times_16 rfl ?_
    refine z_cV (zat_V0 17 dX11_times_17 lk_X11_242 zy_76 rfl rfl ⟨Nat.le_of_ble_eq_true rfl, Nat.le_of_ble_eq_true rfl⟩ (Nat.le_of_ble_eq_true rfl)) (tX11_layAll E M) (fun M2 => ?_)
    refine z_aload_n 20 dX11_times_20 rfl ?_
    refine z_aload_n 21 dX11_times_21 rfl ?_
    refine z_getR 22 (r := 91) dX11_times_22 fl_X11_53 zy_76 rfl ?_
    refine z_cV (zat_V1 25 dX11_times_25 lk_X11_245 zy_76 rfl rfl ⟨Nat.le_of_ble_eq_true rfl, Nat.le_of_ble_eq_true rfl⟩ (Nat.le_of_ble_eq_true rfl)) (tX11_layFirst E 91 zy_91 M2) (fun M3 => ?_)
    refine z_iconst 28 dX11_times_28 zci_0 ?_
    refine z_istore_n 29 (L' := [some (.ref 76), some (.int p1), some (.int (0 : Int32)), none, none, none, none, none, none]) dX11_times_29 (by decide) rfl ?_
    refine z_iconst 30 dX11_times_30 zci_0 ?_
    refine z_istore_n 31 (L' := [some (.ref 76), some (.int p1), some (.int (0 : Int32)), some (.int (0 : Int32)), none, none, none, none, none]) dX11_times_31 (by decide) rfl ?_
    refine z_iconst 32 dX11_times_32 zci_0 ?_
    refine z_istore 33 (L' := [some (.ref 76), some (.int p1), some (.int (0 : Int32)), some (.int (0 : Int32)), some (.int (0 : Int32)), none, none, none, none]) dX11_times_33 (by decide) rfl ?_
    refine z_iconst 35 dX11_times_35 zci_0 ?_
    refine z_istore 36 (L' := [some (.ref 76), some (.int p1), some (.int (0 : Int32)), some (.int (0 : Int32)), some (.int (0 : Int32)), some (.int (0 : Int32)), none, none, none]) dX11_times_36 (by decide) rfl ?_
    refine z_iconst 38 dX11_times_38 zci_0 ?_
    refine z_istore 39 (L' := [some (.ref 76), some (.int p1), some (.int (0 : Int32)), some (.int (0 : Int32)), some (.int (0 : Int32)), some (.int (0 : Int32)), some (.int (0 : Int32)), none, none]) dX11_times_39 (by decide) rfl ?_
    refine zk_sqj (α := Int32 × Int32 × Int32 × Int32 × zM) 148 (fun (u236 : Int32 × Int32 × Int32 × Int32 × zM) => match u236 with | (x188, x189, x190, x191, M192) => [none, some (.int p1), some (.int x188), some (.int x189), some (.int x190), some (.int x191), none, none, none]) (fun (u237 : Int32 × Int32 × Int32 × Int32 × zM) => match u237 with | (x188, x189, x190, x191, M192) => []) (fun (u238 : Int32 × Int32 × Int32 × Int32 × zM) => match u238 with | (x188, x189, x190, x191, M192) => (zY0, M192)) ?_ ?_
    · intro u239
      obtain ⟨x188, x189, x190, x191, M192⟩ := u239
      try dsimp only
      refine z_iload_n 148 dX11_times_148 rfl ?_
      refine z_ifne 149 154 dX11_times_149 (by decide) (fun _ => ?_) (fun _ => ?_)
      · refine z_iload_n 152 dX11_times_152 rfl ?_
        exact z_ireturn 153 dX11_times_153 rfl rfl (fun h => h)
      · refine z_iload_n 154 dX11_times_154 rfl ?_
        refine z_ifne 155 164 dX11_times_155 (by decide) (fun _ => ?_) (fun _ => ?_)
        · refine z_sipush 158 dX11_times_158 zsp_m10004 ?_
          refine z_goto 161 197 dX11_times_161 (by decide) ?_
          exact z_ireturn 197 dX11_times_197 rfl rfl (fun h => h)
        · refine z_iload_n 164 dX11_times_164 rfl ?_
          refine z_iconst 165 dX11_times_165 zci_1 ?_
          refine z_icne 166 173 dX11_times_166 (by decide) (fun _ => ?_) (fun _ => ?_)
          · refine z_iload_n 169 dX11_times_169 rfl ?_
            refine z_goto 170 197 dX11_times_170 (by decide) ?_
            exact z_ireturn 197 dX11_times_197 rfl rfl (fun h => h)
          · refine z_iload_n 173 dX11_times_173 rfl ?_
            refine z_iconst 174 dX11_times_174 zci_2 ?_
            refine z_icne 175 183 dX11_times_175 (by decide) (fun _ => ?_) (fun _ => ?_)
            · refine z_iload 178 dX11_times_178 rfl ?_
              refine z_goto 180 197 dX11_times_180 (by decide) ?_
              exact z_ireturn 197 dX11_times_197 rfl rfl (fun h => h)
            · refine z_iload 183 dX11_times_183 rfl ?_
              refine z_i2l 185 dX11_times_185 ?_
              refine z_iload_n 186 dX11_times_186 rfl ?_
              refine z_i2l 187 dX11_times_187 ?_
              refine z_iload_n 188 dX11_times_188 rfl ?_
              refine z_iconst 189 dX11_times_189 zci_1 ?_
              refine z_iadd 190 dX11_times_190 ?_
              refine z_iconst 191 dX11_times_191 zci_2 ?_
              refine z_iremc 192 dX11_times_192 (by decide) ?_
              refine z_cj (zat_S3 193 dX11_times_193 lk_X11_252 ⟨Nat.le_of_ble_eq_true rfl, Nat.le_of_ble_eq_true rfl⟩ (Nat.le_of_ble_eq_true rfl)) (tX11_lowest E zY0 x191.toInt64 x188.toInt64 (zrm_i (p1 + (1 : Int32)) (2 : Int32)) M192) (fun x233 => ?_)
              refine z_l2i 196 dX11_times_196 ?_
              exact z_ireturn 197 dX11_times_197 rfl rfl (fun h => h)
    · refine zk_weak (L' := [some (.ref 76), some (.int p1), some (.int (0 : Int32)), some (.int (0 : Int32)), some (.int (0 : Int32)), some (.int (0 : Int32)), some (.int (0 : Int32)), none, none]) (zLe_s (zLe_s (zLe_s (zLe_s (zLe_s (zLe_s (zLe_s (zLe_n (zLe_n zLe_nl))))))))) (zk_lp (α := Int32 × Int32 × Int32 × Int32 × Int32 × zM) 41 (fun (u186 : Int32 × Int32 × Int32 × Int32 × Int32 × zM) => match u186 with | (x179, x180, x181, x182, x183, M184) => [some (.ref 76), some (.int p1), some (.int x179), some (.int x180), some (.int x181), some (.int x182), some (.int x183), none, none]) (fun (u187 : Int32 × Int32 × Int32 × Int32 × Int32 × zM) => match u187 with | (x179, x180, x181, x182, x183, M184) => (zY0, M184)) ?_ zFu ((0 : Int32), (0 : Int32), (0 : Int32), (0 : Int32), (0 : Int32), M3))
      intro rec185 hrec185
      intro u240
      obtain ⟨x179, x180, x181, x182, x183, M184⟩ := u240
      try dsimp only
      refine z_iload 41 dX11_times_41 rfl ?_
      refine z_aload_n 43 dX11_times_43 rfl ?_
      refine z_iconst 44 dX11_times_44 zci_0 ?_
      refine z_iconst 45 dX11_times_45 zci_0 ?_
      refine z_ci (zat_V2 46 dX11_times_46 lk_X11_164 zy_76 rfl rfl ⟨Nat.le_of_ble_eq_true rfl, Nat.le_of_ble_eq_true rfl⟩ (Nat.le_of_ble_eq_true rfl)) (tX11_linesOf E (0 : Int32) (0 : Int32) M184) (fun x193 => ?_)
      refine z_icge 49 148 dX11_times_49 (by decide) (fun _ => ?_) (fun _ => ?_)
      · exact zk_exitw (L' := [none, some (.int p1), some (.int x179), some (.int x180), some (.int x181), some (.int x182), none, none, none]) (zLe_n (zLe_s (zLe_s (zLe_s (zLe_s (zLe_s (zLe_n (zLe_n (zLe_n zLe_nl))))))))) (fun h => h)
      · refine z_aload_n 52 dX11_times_52 rfl ?_
        refine z_getR 53 (r := 91) dX11_times_53 fl_X11_53 zy_76 rfl ?_
        refine z_iload 56 dX11_times_56 rfl ?_
        refine z_iaload 58 dX11_times_58 zy_91 ?_
        refine zk_nmI (fun x194 => ?_)
        refine z_istore 59 (L' := [some (.ref 76), some (.int p1), some (.int x179), some (.int x180), some (.int x181), some (.int x182), some (.int x183), some (.int x194), none]) dX11_times_59 (by decide) rfl ?_
        refine z_iload 61 dX11_times_61 rfl ?_
        refine z_bipush 63 dX11_times_63 zbp_m4 ?_
        refine zk_sqj (α := Int32 × Int32 × Int32 × Int32 × zM) 142 (fun (u214 : Int32 × Int32 × Int32 × Int32 × zM) => match u214 with | (x209, x210, x211, x212, M213) => [some (.ref 76), some (.int p1), some (.int x209), some (.int x210), some (.int x211), some (.int x212), some (.int x183), none, none]) (fun (u215 : Int32 × Int32 × Int32 × Int32 × zM) => match u215 with | (x209, x210, x211, x212, M213) => []) (fun (u216 : Int32 × Int32 × Int32 × Int32 × zM) => match u216 with | (x209, x210, x211, x212, M213) => (zY0, M213)) ?_ ?_
        · intro u232
          obtain ⟨x209, x210, x211, x212, M213⟩ := u232
          try dsimp only
          refine z_iinc 142 (v := (x183 + (1 : Int32))) (L' := [some (.ref 76), some (.int p1), some (.int x209), some (.int x210), some (.int x211), some (.int x212), some (.int (x183 + (1 : Int32))), none, none]) dX11_times_142 rfl (zinc zci_1 _) (by decide) rfl ?_
          refine z_goto 145 41 dX11_times_145 (by decide) ?_
          exact zk_weak (L' := [some (.ref 76), some (.int p1), some (.int x209), some (.int x210), some (.int x211), some (.int x212), some (.int (x183 + (1 : Int32))), none, none]) (zLe_s (zLe_s (zLe_s (zLe_s (zLe_s (zLe_s (zLe_s (zLe_n (zLe_n zLe_nl))))))))) (hrec185 (x209, x210, x211, x212, (x183 + (1 : Int32)), M213))
        · refine z_iceq 65 142 dX11_times_65 (by decide) (fun _ => ?_) (fun _ => ?_)
          · exact zk_exitw (L' := [some (.ref 76), some (.int p1), some (.int x179), some (.int x180), some (.int x181), some (.int x182), some (.int x183), none, none]) (zLe_s (zLe_s (zLe_s (zLe_s (zLe_s (zLe_s (zLe_s (zLe_n (zLe_n zLe_nl))))))))) (fun h => h)
          · refine z_iload_n 68 dX11_times_68 rfl ?_
            refine z_iconst 69 dX11_times_69 zci_5 ?_
            refine zk_jn (α := zM) 85 (fun (M219 : zM) => [some (.ref 76), some (.int p1), some (.int x179), some (.int x180), some (.int x181), some (.int x182), some (.int x183), some (.int x194), none]) (fun (M219 : zM) => []) (fun (M219 : zM) => (zY0, M219)) ?_ ?_
            · intro M219
              refine z_aload_n 85 dX11_times_85 rfl ?_
              refine z_iload 86 dX11_times_86 rfl ?_
              refine z_iload 88 dX11_times_88 rfl ?_
              refine z_ci (zat_V2 90 dX11_times_90 lk_X11_198 zy_76 rfl rfl ⟨Nat.le_of_ble_eq_true rfl, Nat.le_of_ble_eq_true rfl⟩ (Nat.le_of_ble_eq_true rfl)) (tX11_tookOf E x183 x194 M219) (fun x220 => ?_)
              refine z_istore 93 (L' := [some (.ref 76), some (.int p1), some (.int x179), some (.int x180), some (.int x181), some (.int x182), some (.int x183), some (.int x194), some (.int x220)]) dX11_times_93 (by decide) rfl ?_
              refine z_iload_n 95 dX11_times_95 rfl ?_
              refine zk_ltj (α := Int32) 111 (fun (x222 : Int32) => [some (.ref 76), some (.int p1), some (.int x179), none, some (.int x181), some (.int x182), some (.int x183), none, some (.int x220)]) (fun (x222 : Int32) => [.int x222]) (fun (x222 : Int32) => (zY0, M219)) ?_ ?_
              · intro x222
                refine z_istore_n 111 (L' := [some (.ref 76), some (.int p1), some (.int x179), some (.int x222), some (.int x181), some (.int x182), some (.int x183), none, some (.int x220)]) dX11_times_111 (by decide) rfl ?_
                refine z_iload_n 112 dX11_times_112 rfl ?_
                refine zk_ltj (α := Int32) 130 (fun (x224 : Int32) => [some (.ref 76), some (.int p1), some (.int x179), some (.int x222), none, some (.int x182), some (.int x183), none, some (.int x220)]) (fun (x224 : Int32) => [.int x224]) (fun (x224 : Int32) => (zY0, M219)) ?_ ?_
                · intro x224
                  refine z_istore 130 (L' := [some (.ref 76), some (.int p1), some (.int x179), some (.int x222), some (.int x224), some (.int x182), some (.int x183), none, some (.int x220)]) dX11_times_130 (by decide) rfl ?_
                  refine z_iload 132 dX11_times_132 rfl ?_
                  refine z_iload 134 dX11_times_134 rfl ?_
                  refine z_iadd 136 dX11_times_136 ?_
                  refine zk_nmI (fun x225 => ?_)
                  refine z_istore 137 (L' := [some (.ref 76), some (.int p1), some (.int x179), some (.int x222), some (.int x224), some (.int x225), some (.int x183), none, some (.int x220)]) dX11_times_137 (by decide) rfl ?_
                  refine z_iinc 139 (v := (x179 + (1 : Int32))) (L' := [some (.ref 76), some (.int p1), some (.int (x179 + (1 : Int32))), some (.int x222), some (.int x224), some (.int x225), some (.int x183), none, some (.int x220)]) dX11_times_139 rfl (zinc zci_1 _) (by decide) rfl ?_
                  exact zk_exitw (L' := [some (.ref 76), some (.int p1), some (.int (x179 + (1 : Int32))), some (.int x222), some (.int x224), some (.int x225), some (.int x183), none, none]) (zLe_s (zLe_s (zLe_s (zLe_s (zLe_s (zLe_s (zLe_s (zLe_n (zLe_n zLe_nl))))))))) (fun h => h)
                · intro k226 hk226
                  refine z_ifeqv 113 123 dX11_times_113 (by decide) ?_ ?_
                  · refine z_iload 123 dX11_times_123 rfl ?_
                    refine z_goto 125 130 dX11_times_125 (by decide) ?_
                    exact zk_weak (L' := [some (.ref 76), some (.int p1), some (.int x179), some (.int x222), none, some (.int x182), some (.int x183), none, some (.int x220)]) (zLe_s (zLe_s (zLe_s (zLe_s (zLe_n (zLe_s (zLe_s (zLe_n (zLe_s zLe_nl))))))))) (hk226 x220)
                  · refine z_iload 116 dX11_times_116 rfl ?_
                    refine z_iload 118 dX11_times_118 rfl ?_
                    refine z_iclev 120 128 dX11_times_120 (by decide) ?_ ?_
                    · refine z_iload 128 dX11_times_128 rfl ?_
                      exact zk_weak (L' := [some (.ref 76), some (.int p1), some (.int x179), some (.int x222), none, some (.int x182), some (.int x183), none, some (.int x220)]) (zLe_s (zLe_s (zLe_s (zLe_s (zLe_n (zLe_s (zLe_s (zLe_n (zLe_s zLe_nl))))))))) (hk226 x181)
                    · refine z_iload 123 dX11_times_123 rfl ?_
                      refine z_goto 125 130 dX11_times_125 (by decide) ?_
                      exact zk_weak (L' := [some (.ref 76), some (.int p1), some (.int x179), some (.int x222), none, some (.int x182), some (.int x183), none, some (.int x220)]) (zLe_s (zLe_s (zLe_s (zLe_s (zLe_n (zLe_s (zLe_s (zLe_n (zLe_s zLe_nl))))))))) (hk226 x220)
              · intro k227 hk227
                refine z_ifeqv 96 105 dX11_times_96 (by decide) ?_ ?_
                · refine z_iload 105 dX11_times_105 rfl ?_
                  refine z_goto 107 111 dX11_times_107 (by decide) ?_
                  exact zk_weak (L' := [some (.ref 76), some (.int p1), some (.int x179), none, some (.int x181), some (.int x182), some (.int x183), none, some (.int x220)]) (zLe_s (zLe_s (zLe_s (zLe_n (zLe_s (zLe_s (zLe_s (zLe_n (zLe_s zLe_nl))))))))) (hk227 x220)
                · refine z_iload 99 dX11_times_99 rfl ?_
                  refine z_iload_n 101 dX11_times_101 rfl ?_
                  refine z_icgev 102 110 dX11_times_102 (by decide) ?_ ?_
                  · refine z_iload_n 110 dX11_times_110 rfl ?_
                    exact zk_weak (L' := [some (.ref 76), some (.int p1), some (.int x179), none, some (.int x181), some (.int x182), some (.int x183), none, some (.int x220)]) (zLe_s (zLe_s (zLe_s (zLe_n (zLe_s (zLe_s (zLe_s (zLe_n (zLe_s zLe_nl))))))))) (hk227 x180)
                  · refine z_iload 105 dX11_times_105 rfl ?_
                    refine z_goto 107 111 dX11_times_107 (by decide) ?_
                    exact zk_weak (L' := [some (.ref 76), some (.int p1), some (.int x179), none, some (.int x181), some (.int x182), some (.int x183), none, some (.int x220)]) (zLe_s (zLe_s (zLe_s (zLe_n (zLe_s (zLe_s (zLe_s (zLe_n (zLe_s zLe_nl))))))))) (hk227 x220)
            · intro k228 hk228
              refine z_iclt 70 85 dX11_times_70 (by decide) (fun _ => ?_) (fun _ => ?_)
              · exact zk_weak (L' := [some (.ref 76), some (.int p1), some (.int x179), some (.int x180), some (.int x181), some (.int x182), some (.int x183), some (.int x194), none]) (zLe_s (zLe_s (zLe_s (zLe_s (zLe_s (zLe_s (zLe_s (zLe_s (zLe_n zLe_nl))))))))) (hk228 M184)
              · refine z_aload_n 73 dX11_times_73 rfl ?_
                refine z_iload 74 dX11_times_74 rfl ?_
                refine z_iload 76 dX11_times_76 rfl ?_
                refine z_cI (zat_V2 78 dX11_times_78 lk_X11_249 zy_76 rfl rfl ⟨Nat.le_of_ble_eq_true rfl, Nat.le_of_ble_eq_true rfl⟩ (Nat.le_of_ble_eq_true rfl)) (tX11_sureOf E x183 x194 M184) (fun x230 M229 => ?_)
                refine z_iconst 81 dX11_times_81 zci_2 ?_
                refine z_icne 82 142 dX11_times_82 (by decide) (fun _ => ?_) (fun _ => ?_)
                · exact zk_weak (L' := [some (.ref 76), some (.int p1), some (.int x179), some (.int x180), some (.int x181), some (.int x182), some (.int x183), some (.int x194), none]) (zLe_s (zLe_s (zLe_s (zLe_s (zLe_s (zLe_s (zLe_s (zLe_s (zLe_n zLe_nl))))))))) (hk228 M229)
                · exact zk_exitw (L' := [some (.ref 76), some (.int p1), some (.int x179), some (.int x180), some (.int x181), some (.int x182), some (.int x183), none, none]) (zLe_s (zLe_s (zLe_s (zLe_s (zLe_s (zLe_s (zLe_s (zLe_n (zLe_n zLe_nl))))))))) (fun h => h)
def fX11_size (p1 : Int32) : Int32 :=
  if 0 ≤ p1 then (p1) else ((-p1))
set_option maxHeartbeats 4000000 in
set_option maxRecDepth 100000 in
theorem tX11_size (E : zE) (Y : zY) (p1 : Int32) (M : zM) : zFi E mX11_size [.int p1] Y M (some (fX11_size p1)) := by
  refine zF_of (L := [some (.int p1)]) plX11 (Nat.le_of_ble_eq_true rfl) rfl (fun post => ?_)
  show zK E _ post 0 _ _ _ (lt (fX11_size p1) some) _
  unfold fX11_size
  refine z_iload_n 0 dX11_size_0 rfl ?_
  refine z_ifgev 1 9 dX11_size_1 (by decide) ?_ ?_
  · refine z_iload_n 9 dX11_size_9 rfl ?_
    exact z_ireturn 10 dX11_size_10 rfl rfl (fun h => h)
  · refine z_iload_n 4 dX11_size_4 rfl ?_
    refine z_ineg 5 dX11_size_5 ?_
    refine z_goto 6 10 dX11_size_6 (by decide) ?_
    exact z_ireturn 10 dX11_size_10 rfl rfl (fun h => h)
def fX11_clock (p1 : Int32) (M : zM) : Option (Int32 × zM) :=
  lt (fX11_in p1.toInt64 (0 : Int64) (1 : Int64)) (fun (b1 : Bool) => if b1 = false then (some ((-1000 : Int32), M)) else (grd (zix (9 : Int32) 30) (lt ((M.1 81 (zn (9 : Int32)))) (fun (x2 : Int32) => sq (α := Int32 × Int32 × zM) (zlp (α := Int32 × Int32 × Int32 × zM) (β := Int32 × Int32 × zM) (fun rec33 => (fun (u68 : Int32 × Int32 × Int32 × zM) => match u68 with | (x29, x30, x31, M32) => if (31 : Int32) ≤ x31 then (some (x29, x30, M32)) else (grd (zix (9 : Int32) 30) (lt (zwI M32 81 (zn (9 : Int32)) x31) (fun (M39 : zM) => sq (fX11_layAll M39) (fun (M40 : zM) => grd (zix (0 : Int32) 11264) (sq (α := Bool) (jn (α := Unit) (fun (_ : Unit) => some true) (fun k61 => if (M40.1 86 (zn (0 : Int32))) < x30 then (k61 ()) else (grd (zix (0 : Int32) 11264) (jn (α := Unit) (fun (_ : Unit) => some false) (fun k64 => if (M40.1 86 (zn (0 : Int32))) = x30 then (lt (fX11_size (x31 - x2)) (fun (x65 : Int32) => lt (fX11_size (x29 - x2)) (fun (x66 : Int32) => if x66 ≤ x65 then (k64 ()) else (k61 ())))) else (k64 ())))))) (fun (b52 : Bool) => lt (if b52 = false then (x29) else (x31)) (fun (x53 : Int32) => sq (α := Int32) (if b52 = false then (some x30) else (grd (zix (0 : Int32) 11264) (some (M40.1 86 (zn (0 : Int32)))))) (fun (x54 : Int32) => rec33 (x53, x54, (x31 + (1 : Int32)), M40))))))))))) zFu ((0 : Int32), (1000000 : Int32), (-30 : Int32), M)) (fun (u69 : Int32 × Int32 × zM) => match u69 with | (x36, x37, M38) => grd (zix (9 : Int32) 30) (lt (zwI M38 81 (zn (9 : Int32)) x2) (fun (M67 : zM) => if p1 = 0 then (some (x36, M67)) else (some (x37, M67)))))))))
set_option maxHeartbeats 4000000 in
set_option maxRecDepth 100000 in
theorem tX11_clock (E : zE) (p1 : Int32) (M : zM) : zFI E mX11_clock [.ref 76, .int p1] zY0 M (fX11_clock p1 M) := by
  refine zF_of (L := [some (.ref 76), some (.int p1), none, none, none, none, none]) plX11 (Nat.le_of_ble_eq_true rfl) rfl (fun post => ?_)
  unfold fX11_clock
  refine z_iload_n 0 dX11_clock_0 rfl ?_
  refine z_i2l 1 dX11_clock_1 ?_
  refine z_lconst 2 dX11_clock_2 zlc_0 ?_
  refine z_lconst 3 dX11_clock_3 zlc_1 ?_
  refine z_ctb (zat_S3 4 dX11_clock_4 lk_X11_85 ⟨Nat.le_of_ble_eq_true rfl, Nat.le_of_ble_eq_true rfl⟩ (Nat.le_of_ble_eq_true rfl)) (tX11_in E zY0 p1.toInt64 (0 : Int64) (1 : Int64) M) (fun b1 => ?_)
  refine z_ifneb 7 14 dX11_clock_7 (by decide) (fun _ => ?_) (fun _ => ?_)
  · refine z_sipush 10 dX11_clock_10 zsp_m1000 ?_
    exact z_ireturn 13 dX11_clock_13 rfl rfl (fun h => h)
  · refine z_aload_n 14 dX11_clock_14 rfl ?_
    refine z_getR 15 (r := 81) dX11_clock_15 fl_X11_22 zy_76 rfl ?_
    refine z_bipush 18 dX11_clock_18 zbp_9 ?_
    refine z_iaload 20 dX11_clock_20 zy_81 ?_
    refine zk_nmI (fun x2 => ?_)
    refine z_istore_n 21 (L' := [some (.ref 76), some (.int p1), some (.int x2), none, none, none, none]) dX11_clock_21 (by decide) rfl ?_
    refine z_iconst 22 dX11_clock_22 zci_0 ?_
    refine z_istore_n 23 (L' := [some (.ref 76), some (.int p1), some (.int x2), some (.int (0 : Int32)), none, none, none]) dX11_clock_23 (by decide) rfl ?_
    refine z_ldc 24 dX11_clock_24 cw_X11_225 ?_
    refine z_istore 26 (L' := [some (.ref 76), some (.int p1), some (.int x2), some (.int (0 : Int32)), some (.int (1000000 : Int32)), none, none]) dX11_clock_26 (by decide) rfl ?_
    refine z_bipush 28 dX11_clock_28 zbp_m30 ?_
    refine z_istore 30 (L' := [some (.ref 76), some (.int p1), some (.int x2), some (.int (0 : Int32)), some (.int (1000000 : Int32)), some (.int (-30 : Int32)), none]) dX11_clock_30 (by decide) rfl ?_
    refine zk_sqj (α := Int32 × Int32 × zM) 133 (fun (u70 : Int32 × Int32 × zM) => match u70 with | (x36, x37, M38) => [some (.ref 76), some (.int p1), some (.int x2), some (.int x36), some (.int x37), none, none]) (fun (u71 : Int32 × Int32 × zM) => match u71 with | (x36, x37, M38) => []) (fun (u72 : Int32 × Int32 × zM) => match u72 with | (x36, x37, M38) => (zY0, M38)) ?_ ?_
    · intro u73
      obtain ⟨x36, x37, M38⟩ := u73
      try dsimp only
      refine z_aload_n 133 dX11_clock_133 rfl ?_
      refine z_getR 134 (r := 81) dX11_clock_134 fl_X11_22 zy_76 rfl ?_
      refine z_bipush 137 dX11_clock_137 zbp_9 ?_
      refine z_iload_n 139 dX11_clock_139 rfl ?_
      refine z_iastore 140 dX11_clock_140 zy_81 ?_
      refine zk_nmM (fun M67 => ?_)
      refine z_iload_n 141 dX11_clock_141 rfl ?_
      refine z_ifne 142 149 dX11_clock_142 (by decide) (fun _ => ?_) (fun _ => ?_)
      · refine z_iload_n 145 dX11_clock_145 rfl ?_
        refine z_goto 146 151 dX11_clock_146 (by decide) ?_
        exact z_ireturn 151 dX11_clock_151 rfl rfl (fun h => h)
      · refine z_iload 149 dX11_clock_149 rfl ?_
        exact z_ireturn 151 dX11_clock_151 rfl rfl (fun h => h)
    · refine zk_weak (L' := [some (.ref 76), some (.int p1), some (.int x2), some (.int (0 : Int32)), some (.int (1000000 : Int32)), some (.int (-30 : Int32)), none]) (zLe_s (zLe_s (zLe_s (zLe_s (zLe_s (zLe_s (zLe_n zLe_nl))))))) (zk_lp (α := Int32 × Int32 × Int32 × zM) 32 (fun (u34 : Int32 × Int32 × Int32 × zM) => match u34 with | (x29, x30, x31, M32) => [some (.ref 76), some (.int p1), some (.int x2), some (.int x29), some (.int x30), some (.int x31), none]) (fun (u35 : Int32 × Int32 × Int32 × zM) => match u35 with | (x29, x30, x31, M32) => (zY0, M32)) ?_ zFu ((0 : Int32), (1000000 : Int32), (-30 : Int32), M))
      intro rec33 hrec33
      intro u74
      obtain ⟨x29, x30, x31, M32⟩ := u74
      try dsimp only
      refine z_iload 32 dX11_clock_32 rfl ?_
      refine z_bipush 34 dX11_clock_34 zbp_31 ?_
      refine z_icge 36 133 dX11_clock_36 (by decide) (fun _ => ?_) (fun _ => ?_)
      · exact zk_exitw (L' := [some (.ref 76), some (.int p1), some (.int x2), some (.int x29), some (.int x30), none, none]) (zLe_s (zLe_s (zLe_s (zLe_s (zLe_s (zLe_n (zLe_n zLe_nl))))))) (fun h => h)
      · refine z_aload_n 39 dX11_clock_39 rfl ?_
        refine z_getR 40 (r := 81) dX11_clock_40 fl_X11_22 zy_76 rfl ?_
        refine z_bipush 43 dX11_clock_43 zbp_9 ?_
        refine z_iload 45 dX11_clock_45 rfl ?_
        refine z_iastore 47 dX11_clock_47 zy_81 ?_
        refine zk_nmM (fun M39 => ?_)
        refine z_aload_n 48 dX11_clock_48 rfl ?_
        refine z_cV (zat_V0 49 dX11_clock_49 lk_X11_242 zy_76 rfl rfl ⟨Nat.le_of_ble_eq_true rfl, Nat.le_of_ble_eq_true rfl⟩ (Nat.le_of_ble_eq_true rfl)) (tX11_layAll E M39) (fun M40 => ?_)
        refine z_aload_n 52 dX11_clock_52 rfl ?_
        refine z_getR 53 (r := 86) dX11_clock_53 fl_X11_37 zy_76 rfl ?_
        refine z_iconst 56 dX11_clock_56 zci_0 ?_
        refine z_iaload 57 dX11_clock_57 zy_86 ?_
        refine z_iload 58 dX11_clock_58 rfl ?_
        refine zk_sqj (α := Bool) 95 (fun (b52 : Bool) => [some (.ref 76), some (.int p1), some (.int x2), some (.int x29), some (.int x30), some (.int x31), none]) (fun (b52 : Bool) => [.int (zb b52)]) (fun (b52 : Bool) => (zY0, M40)) ?_ ?_
        · intro b52
          refine z_istore 95 (L' := [some (.ref 76), some (.int p1), some (.int x2), some (.int x29), some (.int x30), some (.int x31), some (.int (zb b52))]) dX11_clock_95 (by decide) rfl ?_
          refine z_iload 97 dX11_clock_97 rfl ?_
          refine zk_ltj (α := Int32) 108 (fun (x53 : Int32) => [some (.ref 76), some (.int p1), some (.int x2), none, some (.int x30), some (.int x31), some (.int (zb b52))]) (fun (x53 : Int32) => [.int x53]) (fun (x53 : Int32) => (zY0, M40)) ?_ ?_
          · intro x53
            refine z_istore_n 108 (L' := [some (.ref 76), some (.int p1), some (.int x2), some (.int x53), some (.int x30), some (.int x31), some (.int (zb b52))]) dX11_clock_108 (by decide) rfl ?_
            refine z_iload 109 dX11_clock_109 rfl ?_
            refine zk_sqj (α := Int32) 125 (fun (x54 : Int32) => [some (.ref 76), some (.int p1), some (.int x2), some (.int x53), none, some (.int x31), none]) (fun (x54 : Int32) => [.int x54]) (fun (x54 : Int32) => (zY0, M40)) ?_ ?_
            · intro x54
              refine z_istore 125 (L' := [some (.ref 76), some (.int p1), some (.int x2), some (.int x53), some (.int x54), some (.int x31), none]) dX11_clock_125 (by decide) rfl ?_
              refine z_iinc 127 (v := (x31 + (1 : Int32))) (L' := [some (.ref 76), some (.int p1), some (.int x2), some (.int x53), some (.int x54), some (.int (x31 + (1 : Int32))), none]) dX11_clock_127 rfl (zinc zci_1 _) (by decide) rfl ?_
              refine z_goto 130 32 dX11_clock_130 (by decide) ?_
              exact zk_weak (L' := [some (.ref 76), some (.int p1), some (.int x2), some (.int x53), some (.int x54), some (.int (x31 + (1 : Int32))), none]) (zLe_s (zLe_s (zLe_s (zLe_s (zLe_s (zLe_s (zLe_n zLe_nl))))))) (hrec33 (x53, x54, (x31 + (1 : Int32)), M40))
            · refine z_ifeqb 111 123 dX11_clock_111 (by decide) (fun _ => ?_) (fun _ => ?_)
              · refine z_iload 123 dX11_clock_123 rfl ?_
                exact zk_exitw (L' := [some (.ref 76), some (.int p1), some (.int x2), some (.int x53), none, some (.int x31), none]) (zLe_s (zLe_s (zLe_s (zLe_s (zLe_n (zLe_s (zLe_n zLe_nl))))))) (fun h => h)
              · refine z_aload_n 114 dX11_clock_114 rfl ?_
                refine z_getR 115 (r := 86) dX11_clock_115 fl_X11_37 zy_76 rfl ?_
                refine z_iconst 118 dX11_clock_118 zci_0 ?_
                refine z_iaload 119 dX11_clock_119 zy_86 ?_
                refine z_goto 120 125 dX11_clock_120 (by decide) ?_
                exact zk_exitw (L' := [some (.ref 76), some (.int p1), some (.int x2), some (.int x53), none, some (.int x31), none]) (zLe_s (zLe_s (zLe_s (zLe_s (zLe_n (zLe_s (zLe_n zLe_nl))))))) (fun h => h)
          · intro k55 hk55
            refine z_ifeqbv 99 107 dX11_clock_99 (by decide) ?_ ?_
            · refine z_iload_n 107 dX11_clock_107 rfl ?_
              exact zk_weak (L' := [some (.ref 76), some (.int p1), some (.int x2), none, some (.int x30), some (.int x31), some (.int (zb b52))]) (zLe_s (zLe_s (zLe_s (zLe_n (zLe_s (zLe_s (zLe_s zLe_nl))))))) (hk55 x29)
            · refine z_iload 102 dX11_clock_102 rfl ?_
              refine z_goto 104 108 dX11_clock_104 (by decide) ?_
              exact zk_weak (L' := [some (.ref 76), some (.int p1), some (.int x2), none, some (.int x30), some (.int x31), some (.int (zb b52))]) (zLe_s (zLe_s (zLe_s (zLe_n (zLe_s (zLe_s (zLe_s zLe_nl))))))) (hk55 x31)
        · refine zk_jn (α := Unit) 90 (fun (_ : Unit) => [some (.ref 76), some (.int p1), some (.int x2), some (.int x29), some (.int x30), some (.int x31), none]) (fun (_ : Unit) => []) (fun (_ : Unit) => (zY0, M40)) ?_ ?_
          · intro _
            refine z_iconst 90 dX11_clock_90 zci_1 ?_
            refine z_goto 91 95 dX11_clock_91 (by decide) ?_
            exact zk_exitw (L' := [some (.ref 76), some (.int p1), some (.int x2), some (.int x29), some (.int x30), some (.int x31), none]) (zLe_s (zLe_s (zLe_s (zLe_s (zLe_s (zLe_s (zLe_n zLe_nl))))))) (fun h => h)
          · intro k61 hk61
            refine z_iclt 60 90 dX11_clock_60 (by decide) (fun _ => ?_) (fun _ => ?_)
            · exact zk_weak (L' := [some (.ref 76), some (.int p1), some (.int x2), some (.int x29), some (.int x30), some (.int x31), none]) (zLe_s (zLe_s (zLe_s (zLe_s (zLe_s (zLe_s (zLe_n zLe_nl))))))) (hk61 ())
            · refine z_aload_n 63 dX11_clock_63 rfl ?_
              refine z_getR 64 (r := 86) dX11_clock_64 fl_X11_37 zy_76 rfl ?_
              refine z_iconst 67 dX11_clock_67 zci_0 ?_
              refine z_iaload 68 dX11_clock_68 zy_86 ?_
              refine z_iload 69 dX11_clock_69 rfl ?_
              refine zk_jn (α := Unit) 94 (fun (_ : Unit) => [some (.ref 76), some (.int p1), some (.int x2), some (.int x29), some (.int x30), some (.int x31), none]) (fun (_ : Unit) => []) (fun (_ : Unit) => (zY0, M40)) ?_ ?_
              · intro _
                refine z_iconst 94 dX11_clock_94 zci_0 ?_
                exact zk_exitw (L' := [some (.ref 76), some (.int p1), some (.int x2), some (.int x29), some (.int x30), some (.int x31), none]) (zLe_s (zLe_s (zLe_s (zLe_s (zLe_s (zLe_s (zLe_n zLe_nl))))))) (fun h => h)
              · intro k64 hk64
                refine z_icne 71 94 dX11_clock_71 (by decide) (fun _ => ?_) (fun _ => ?_)
                · refine z_iload 74 dX11_clock_74 rfl ?_
                  refine z_iload_n 76 dX11_clock_76 rfl ?_
                  refine z_isub 77 dX11_clock_77 ?_
                  refine z_cti (zat_S1 78 dX11_clock_78 lk_X11_270 ⟨Nat.le_of_ble_eq_true rfl, Nat.le_of_ble_eq_true rfl⟩ (Nat.le_of_ble_eq_true rfl)) (tX11_size E zY0 (x31 - x2) M40) (fun x65 => ?_)
                  refine z_iload_n 81 dX11_clock_81 rfl ?_
                  refine z_iload_n 82 dX11_clock_82 rfl ?_
                  refine z_isub 83 dX11_clock_83 ?_
                  refine z_cti (zat_S1 84 dX11_clock_84 lk_X11_270 ⟨Nat.le_of_ble_eq_true rfl, Nat.le_of_ble_eq_true rfl⟩ (Nat.le_of_ble_eq_true rfl)) (tX11_size E zY0 (x29 - x2) M40) (fun x66 => ?_)
                  refine z_icge 87 94 dX11_clock_87 (by decide) (fun _ => ?_) (fun _ => ?_)
                  · exact zk_weak (L' := [some (.ref 76), some (.int p1), some (.int x2), some (.int x29), some (.int x30), some (.int x31), none]) (zLe_s (zLe_s (zLe_s (zLe_s (zLe_s (zLe_s (zLe_n zLe_nl))))))) (hk64 ())
                  · exact zk_weak (L' := [some (.ref 76), some (.int p1), some (.int x2), some (.int x29), some (.int x30), some (.int x31), none]) (zLe_s (zLe_s (zLe_s (zLe_s (zLe_s (zLe_s (zLe_n zLe_nl))))))) (hk61 ())
                · exact zk_weak (L' := [some (.ref 76), some (.int p1), some (.int x2), some (.int x29), some (.int x30), some (.int x31), none]) (zLe_s (zLe_s (zLe_s (zLe_s (zLe_s (zLe_s (zLe_n zLe_nl))))))) (hk64 ())
def fX11_didPass (p1 : Int32) (p2 : Int32) (M : zM) : Option Bool :=
  grd (zix p1 10) (if (M.1 91 (zn p1)) = (-4 : Int32) then (some false) else (grd (zix p2 10) (if (M.1 91 (zn p2)) = (-4 : Int32) then (some false) else (sq (fX11_its (0 : Int32) p1 (0 : Int32) M) (fun (x1 : Int32) => sq (fX11_its (0 : Int32) p2 (0 : Int32) M) (fun (x2 : Int32) => if x1 ≤ x2 then (some false) else (grd (zix p1 10) (sq (fX11_its (1 : Int32) (M.1 91 (zn p1)) (0 : Int32) M) (fun (x3 : Int32) => grd (zix p2 10) (sq (fX11_its (1 : Int32) (M.1 91 (zn p2)) (0 : Int32) M) (fun (x4 : Int32) => if x4 ≤ x3 then (some false) else (some true))))))))))))
set_option maxHeartbeats 4000000 in
set_option maxRecDepth 100000 in
theorem tX11_didPass (E : zE) (p1 : Int32) (p2 : Int32) (M : zM) : zFb E mX11_didPass [.ref 76, .int p1, .int p2] zY0 M (fX11_didPass p1 p2 M) := by
  refine zF_of (L := [some (.ref 76), some (.int p1), some (.int p2)]) plX11 (Nat.le_of_ble_eq_true rfl) rfl (fun post => ?_)
  unfold fX11_didPass
  refine z_aload_n 0 dX11_didPass_0 rfl ?_
  refine z_getR 1 (r := 91) dX11_didPass_1 fl_X11_53 zy_76 rfl ?_
  refine z_iload_n 4 dX11_didPass_4 rfl ?_
  refine z_iaload 5 dX11_didPass_5 zy_91 ?_
  refine z_bipush 6 dX11_didPass_6 zbp_m4 ?_
  refine z_iceq 8 70 dX11_didPass_8 (by decide) (fun _ => ?_) (fun _ => ?_)
  · refine z_iconst 70 dX11_didPass_70 zci_0 ?_
    exact z_ireturn 71 (v := zb false) dX11_didPass_71 rfl (zput_b false).1 (fun h => h)
  · refine z_aload_n 11 dX11_didPass_11 rfl ?_
    refine z_getR 12 (r := 91) dX11_didPass_12 fl_X11_53 zy_76 rfl ?_
    refine z_iload_n 15 dX11_didPass_15 rfl ?_
    refine z_iaload 16 dX11_didPass_16 zy_91 ?_
    refine z_bipush 17 dX11_didPass_17 zbp_m4 ?_
    refine z_iceq 19 70 dX11_didPass_19 (by decide) (fun _ => ?_) (fun _ => ?_)
    · refine z_iconst 70 dX11_didPass_70 zci_0 ?_
      exact z_ireturn 71 (v := zb false) dX11_didPass_71 rfl (zput_b false).1 (fun h => h)
    · refine z_aload_n 22 dX11_didPass_22 rfl ?_
      refine z_iconst 23 dX11_didPass_23 zci_0 ?_
      refine z_iload_n 24 dX11_didPass_24 rfl ?_
      refine z_iconst 25 dX11_didPass_25 zci_0 ?_
      refine z_ci (zat_V3 26 dX11_didPass_26 lk_X11_181 zy_76 rfl rfl ⟨Nat.le_of_ble_eq_true rfl, Nat.le_of_ble_eq_true rfl⟩ (Nat.le_of_ble_eq_true rfl)) (tX11_its E (0 : Int32) p1 (0 : Int32) M) (fun x1 => ?_)
      refine z_aload_n 29 dX11_didPass_29 rfl ?_
      refine z_iconst 30 dX11_didPass_30 zci_0 ?_
      refine z_iload_n 31 dX11_didPass_31 rfl ?_
      refine z_iconst 32 dX11_didPass_32 zci_0 ?_
      refine z_ci (zat_V3 33 dX11_didPass_33 lk_X11_181 zy_76 rfl rfl ⟨Nat.le_of_ble_eq_true rfl, Nat.le_of_ble_eq_true rfl⟩ (Nat.le_of_ble_eq_true rfl)) (tX11_its E (0 : Int32) p2 (0 : Int32) M) (fun x2 => ?_)
      refine z_icle 36 70 dX11_didPass_36 (by decide) (fun _ => ?_) (fun _ => ?_)
      · refine z_iconst 70 dX11_didPass_70 zci_0 ?_
        exact z_ireturn 71 (v := zb false) dX11_didPass_71 rfl (zput_b false).1 (fun h => h)
      · refine z_aload_n 39 dX11_didPass_39 rfl ?_
        refine z_iconst 40 dX11_didPass_40 zci_1 ?_
        refine z_aload_n 41 dX11_didPass_41 rfl ?_
        refine z_getR 42 (r := 91) dX11_didPass_42 fl_X11_53 zy_76 rfl ?_
        refine z_iload_n 45 dX11_didPass_45 rfl ?_
        refine z_iaload 46 dX11_didPass_46 zy_91 ?_
        refine z_iconst 47 dX11_didPass_47 zci_0 ?_
        refine z_ci (zat_V3 48 dX11_didPass_48 lk_X11_181 zy_76 rfl rfl ⟨Nat.le_of_ble_eq_true rfl, Nat.le_of_ble_eq_true rfl⟩ (Nat.le_of_ble_eq_true rfl)) (tX11_its E (1 : Int32) (M.1 91 (zn p1)) (0 : Int32) M) (fun x3 => ?_)
        refine z_aload_n 51 dX11_didPass_51 rfl ?_
        refine z_iconst 52 dX11_didPass_52 zci_1 ?_
        refine z_aload_n 53 dX11_didPass_53 rfl ?_
        refine z_getR 54 (r := 91) dX11_didPass_54 fl_X11_53 zy_76 rfl ?_
        refine z_iload_n 57 dX11_didPass_57 rfl ?_
        refine z_iaload 58 dX11_didPass_58 zy_91 ?_
        refine z_iconst 59 dX11_didPass_59 zci_0 ?_
        refine z_ci (zat_V3 60 dX11_didPass_60 lk_X11_181 zy_76 rfl rfl ⟨Nat.le_of_ble_eq_true rfl, Nat.le_of_ble_eq_true rfl⟩ (Nat.le_of_ble_eq_true rfl)) (tX11_its E (1 : Int32) (M.1 91 (zn p2)) (0 : Int32) M) (fun x4 => ?_)
        refine z_icge 63 70 dX11_didPass_63 (by decide) (fun _ => ?_) (fun _ => ?_)
        · refine z_iconst 70 dX11_didPass_70 zci_0 ?_
          exact z_ireturn 71 (v := zb false) dX11_didPass_71 rfl (zput_b false).1 (fun h => h)
        · refine z_iconst 66 dX11_didPass_66 zci_1 ?_
          refine z_goto 67 71 dX11_didPass_67 (by decide) ?_
          exact z_ireturn 71 (v := zb true) dX11_didPass_71 rfl (zput_b true).1 (fun h => h)
def fX11_isCalm (p1 : Int32) (M : zM) : Option Bool :=
  zlp (α := Bool × Int32) (fun rec46 => (fun (u74 : Bool × Int32) => match u74 with | (b44, x45) => sq (fX11_linesOf (0 : Int32) (0 : Int32) M) (fun (x49 : Int32) => if x49 ≤ x45 then (some b44) else (sq (α := Bool) (zlp (α := Bool × Int32) (β := Bool) (fun rec52 => (fun (u72 : Bool × Int32) => match u72 with | (b50, x51) => sq (fX11_linesOf (0 : Int32) (0 : Int32) M) (fun (x56 : Int32) => if x56 ≤ x51 then (some b50) else (sq (α := Bool) (jn (α := Unit) (fun (_ : Unit) => some false) (fun k68 => if b50 = false then (k68 ()) else (jn (α := Unit) (fun (_ : Unit) => some true) (fun k70 => if ((p1 >>> (x45 &&& 31)) &&& (1 : Int32)) = (1 : Int32) then (k70 ()) else (if ((p1 >>> (x51 &&& 31)) &&& (1 : Int32)) = (1 : Int32) then (k70 ()) else (sq (fX11_didPass x45 x51 M) (fun (b71 : Bool) => if b71 = false then (k70 ()) else (k68 ())))))))) (fun (b64 : Bool) => rec52 (b64, (x51 + (1 : Int32)))))))) zFu (b44, (0 : Int32))) (fun (b55 : Bool) => rec46 (b55, (x45 + (1 : Int32)))))))) zFu (true, (0 : Int32))
set_option maxHeartbeats 4000000 in
set_option maxRecDepth 100000 in
theorem tX11_isCalm (E : zE) (p1 : Int32) (M : zM) : zFb E mX11_isCalm [.ref 76, .int p1] zY0 M (fX11_isCalm p1 M) := by
  refine zF_of (L := [some (.ref 76), some (.int p1), none, none, none]) plX11 (Nat.le_of_ble_eq_true rfl) rfl (fun post => ?_)
  unfold fX11_isCalm
  refine z_iconst 0 dX11_isCalm_0 zci_1 ?_
  refine z_istore_n 1 (L' := [some (.ref 76), some (.int p1), some (.int (1 : Int32)), none, none]) dX11_isCalm_1 (by decide) rfl ?_
  refine z_iconst 2 dX11_isCalm_2 zci_0 ?_
  refine z_istore_n 3 (L' := [some (.ref 76), some (.int p1), some (.int (1 : Int32)), some (.int (0 : Int32)), none]) dX11_isCalm_3 (by decide) rfl ?_
  refine zk_weak (L' := [some (.ref 76), some (.int p1), some (.int (1 : Int32)), some (.int (0 : Int32)), none]) (zLe_s (zLe_s (zLe_s (zLe_s (zLe_n zLe_nl))))) (zk_lp (α := Bool × Int32) 4 (fun (u47 : Bool × Int32) => match u47 with | (b44, x45) => [some (.ref 76), some (.int p1), some (.int (zb b44)), some (.int x45), none]) (fun (u48 : Bool × Int32) => match u48 with | (b44, x45) => (zY0, M)) ?_ zFu (true, (0 : Int32)))
  intro rec46 hrec46
  intro u75
  obtain ⟨b44, x45⟩ := u75
  try dsimp only
  refine z_iload_n 4 dX11_isCalm_4 rfl ?_
  refine z_aload_n 5 dX11_isCalm_5 rfl ?_
  refine z_iconst 6 dX11_isCalm_6 zci_0 ?_
  refine z_iconst 7 dX11_isCalm_7 zci_0 ?_
  refine z_ci (zat_V2 8 dX11_isCalm_8 lk_X11_164 zy_76 rfl rfl ⟨Nat.le_of_ble_eq_true rfl, Nat.le_of_ble_eq_true rfl⟩ (Nat.le_of_ble_eq_true rfl)) (tX11_linesOf E (0 : Int32) (0 : Int32) M) (fun x49 => ?_)
  refine z_icge 11 79 dX11_isCalm_11 (by decide) (fun _ => ?_) (fun _ => ?_)
  · refine z_iload_n 79 dX11_isCalm_79 rfl ?_
    exact z_ireturn 80 (v := zb b44) dX11_isCalm_80 rfl (zput_b b44).1 (fun h => h)
  · refine z_iconst 14 dX11_isCalm_14 zci_0 ?_
    refine z_istore 15 (L' := [some (.ref 76), some (.int p1), some (.int (zb b44)), some (.int x45), some (.int (0 : Int32))]) dX11_isCalm_15 (by decide) rfl ?_
    refine zk_sqj (α := Bool) 73 (fun (b55 : Bool) => [some (.ref 76), some (.int p1), some (.int (zb b55)), some (.int x45), none]) (fun (b55 : Bool) => []) (fun (b55 : Bool) => (zY0, M)) ?_ ?_
    · intro b55
      refine z_iinc 73 (v := (x45 + (1 : Int32))) (L' := [some (.ref 76), some (.int p1), some (.int (zb b55)), some (.int (x45 + (1 : Int32))), none]) dX11_isCalm_73 rfl (zinc zci_1 _) (by decide) rfl ?_
      refine z_goto 76 4 dX11_isCalm_76 (by decide) ?_
      exact zk_weak (L' := [some (.ref 76), some (.int p1), some (.int (zb b55)), some (.int (x45 + (1 : Int32))), none]) (zLe_s (zLe_s (zLe_s (zLe_s (zLe_n zLe_nl))))) (hrec46 (b55, (x45 + (1 : Int32))))
    · refine zk_weak (L' := [some (.ref 76), some (.int p1), some (.int (zb b44)), some (.int x45), some (.int (0 : Int32))]) (zLe_s (zLe_s (zLe_s (zLe_s (zLe_s zLe_nl))))) (zk_lp (α := Bool × Int32) 17 (fun (u53 : Bool × Int32) => match u53 with | (b50, x51) => [some (.ref 76), some (.int p1), some (.int (zb b50)), some (.int x45), some (.int x51)]) (fun (u54 : Bool × Int32) => match u54 with | (b50, x51) => (zY0, M)) ?_ zFu (b44, (0 : Int32)))
      intro rec52 hrec52
      intro u73
      obtain ⟨b50, x51⟩ := u73
      try dsimp only
      refine z_iload 17 dX11_isCalm_17 rfl ?_
      refine z_aload_n 19 dX11_isCalm_19 rfl ?_
      refine z_iconst 20 dX11_isCalm_20 zci_0 ?_
      refine z_iconst 21 dX11_isCalm_21 zci_0 ?_
      refine z_ci (zat_V2 22 dX11_isCalm_22 lk_X11_164 zy_76 rfl rfl ⟨Nat.le_of_ble_eq_true rfl, Nat.le_of_ble_eq_true rfl⟩ (Nat.le_of_ble_eq_true rfl)) (tX11_linesOf E (0 : Int32) (0 : Int32) M) (fun x56 => ?_)
      refine z_icge 25 73 dX11_isCalm_25 (by decide) (fun _ => ?_) (fun _ => ?_)
      · exact zk_exitw (L' := [some (.ref 76), some (.int p1), some (.int (zb b50)), some (.int x45), none]) (zLe_s (zLe_s (zLe_s (zLe_s (zLe_n zLe_nl))))) (fun h => h)
      · refine z_iload_n 28 dX11_isCalm_28 rfl ?_
        refine zk_sqj (α := Bool) 66 (fun (b64 : Bool) => [some (.ref 76), some (.int p1), none, some (.int x45), some (.int x51)]) (fun (b64 : Bool) => [.int (zb b64)]) (fun (b64 : Bool) => (zY0, M)) ?_ ?_
        · intro b64
          refine z_istore_n 66 (L' := [some (.ref 76), some (.int p1), some (.int (zb b64)), some (.int x45), some (.int x51)]) dX11_isCalm_66 (by decide) rfl ?_
          refine z_iinc 67 (v := (x51 + (1 : Int32))) (L' := [some (.ref 76), some (.int p1), some (.int (zb b64)), some (.int x45), some (.int (x51 + (1 : Int32)))]) dX11_isCalm_67 rfl (zinc zci_1 _) (by decide) rfl ?_
          refine z_goto 70 17 dX11_isCalm_70 (by decide) ?_
          exact zk_weak (L' := [some (.ref 76), some (.int p1), some (.int (zb b64)), some (.int x45), some (.int (x51 + (1 : Int32)))]) (zLe_s (zLe_s (zLe_s (zLe_s (zLe_s zLe_nl))))) (hrec52 (b64, (x51 + (1 : Int32))))
        · refine zk_jn (α := Unit) 65 (fun (_ : Unit) => [some (.ref 76), some (.int p1), none, some (.int x45), some (.int x51)]) (fun (_ : Unit) => []) (fun (_ : Unit) => (zY0, M)) ?_ ?_
          · intro _
            refine z_iconst 65 dX11_isCalm_65 zci_0 ?_
            exact zk_exitw (L' := [some (.ref 76), some (.int p1), none, some (.int x45), some (.int x51)]) (zLe_s (zLe_s (zLe_n (zLe_s (zLe_s zLe_nl))))) (fun h => h)
          · intro k68 hk68
            refine z_ifeqb 29 65 dX11_isCalm_29 (by decide) (fun _ => ?_) (fun _ => ?_)
            · exact zk_weak (L' := [some (.ref 76), some (.int p1), none, some (.int x45), some (.int x51)]) (zLe_s (zLe_s (zLe_n (zLe_s (zLe_s zLe_nl))))) (hk68 ())
            · refine z_iload_n 32 dX11_isCalm_32 rfl ?_
              refine z_iload_n 33 dX11_isCalm_33 rfl ?_
              refine z_ishr 34 dX11_isCalm_34 ?_
              refine z_iconst 35 dX11_isCalm_35 zci_1 ?_
              refine z_iand 36 dX11_isCalm_36 ?_
              refine z_iconst 37 dX11_isCalm_37 zci_1 ?_
              refine zk_jn (α := Unit) 61 (fun (_ : Unit) => [some (.ref 76), some (.int p1), none, some (.int x45), some (.int x51)]) (fun (_ : Unit) => []) (fun (_ : Unit) => (zY0, M)) ?_ ?_
              · intro _
                refine z_iconst 61 dX11_isCalm_61 zci_1 ?_
                refine z_goto 62 66 dX11_isCalm_62 (by decide) ?_
                exact zk_exitw (L' := [some (.ref 76), some (.int p1), none, some (.int x45), some (.int x51)]) (zLe_s (zLe_s (zLe_n (zLe_s (zLe_s zLe_nl))))) (fun h => h)
              · intro k70 hk70
                refine z_iceq 38 61 dX11_isCalm_38 (by decide) (fun _ => ?_) (fun _ => ?_)
                · exact zk_weak (L' := [some (.ref 76), some (.int p1), none, some (.int x45), some (.int x51)]) (zLe_s (zLe_s (zLe_n (zLe_s (zLe_s zLe_nl))))) (hk70 ())
                · refine z_iload_n 41 dX11_isCalm_41 rfl ?_
                  refine z_iload 42 dX11_isCalm_42 rfl ?_
                  refine z_ishr 44 dX11_isCalm_44 ?_
                  refine z_iconst 45 dX11_isCalm_45 zci_1 ?_
                  refine z_iand 46 dX11_isCalm_46 ?_
                  refine z_iconst 47 dX11_isCalm_47 zci_1 ?_
                  refine z_iceq 48 61 dX11_isCalm_48 (by decide) (fun _ => ?_) (fun _ => ?_)
                  · exact zk_weak (L' := [some (.ref 76), some (.int p1), none, some (.int x45), some (.int x51)]) (zLe_s (zLe_s (zLe_n (zLe_s (zLe_s zLe_nl))))) (hk70 ())
                  · refine z_aload_n 51 dX11_isCalm_51 rfl ?_
                    refine z_iload_n 52 dX11_isCalm_52 rfl ?_
                    refine z_iload 53 dX11_isCalm_53 rfl ?_
                    refine z_cb (zat_V2 55 dX11_isCalm_55 lk_X11_273 zy_76 rfl rfl ⟨Nat.le_of_ble_eq_true rfl, Nat.le_of_ble_eq_true rfl⟩ (Nat.le_of_ble_eq_true rfl)) (tX11_didPass E x45 x51 M) (fun b71 => ?_)
                    refine z_ifneb 58 65 dX11_isCalm_58 (by decide) (fun _ => ?_) (fun _ => ?_)
                    · exact zk_weak (L' := [some (.ref 76), some (.int p1), none, some (.int x45), some (.int x51)]) (zLe_s (zLe_s (zLe_n (zLe_s (zLe_s zLe_nl))))) (hk70 ())
                    · exact zk_weak (L' := [some (.ref 76), some (.int p1), none, some (.int x45), some (.int x51)]) (zLe_s (zLe_s (zLe_n (zLe_s (zLe_s zLe_nl))))) (hk68 ())
def fX11_passed (p1 : Int32) (M : zM) : Option (Int32 × zM) :=
  lt (fX11_in p1.toInt64 (0 : Int64) (2 : Int64)) (fun (b1 : Bool) => if b1 = false then (some ((-1 : Int32), M)) else (sq (fX11_layAll M) (fun (M2 : zM) => sq (fX11_layFirst 91 M2) (fun (M3 : zM) => sq (α := Int32 × Int32) (zlp (α := Int32 × Int32 × Int32 × Int32) (β := Int32 × Int32) (fun rec100 => (fun (u157 : Int32 × Int32 × Int32 × Int32) => match u157 with | (x96, x97, x98, x99) => sq (fX11_linesOf (0 : Int32) (0 : Int32) M3) (fun (x105 : Int32) => if x105 ≤ x99 then (some (x96, x97)) else (sq (α := Int32) (zlp (α := Int32 × Int32) (β := Int32) (fun rec108 => (fun (u122 : Int32 × Int32) => match u122 with | (x106, x107) => sq (fX11_linesOf (0 : Int32) (0 : Int32) M3) (fun (x112 : Int32) => if x112 ≤ x107 then (some x106) else (sq (fX11_didPass x99 x107 M3) (fun (b113 : Bool) => lt (if b113 = false then (false) else (true)) (fun (b114 : Bool) => lt ((x106 + (zb b114))) (fun (x115 : Int32) => rec108 (x115, (x107 + (1 : Int32)))))))))) zFu ((0 : Int32), (0 : Int32))) (fun (x111 : Int32) => lt ((x96 + x111)) (fun (x117 : Int32) => lt (if x111 ≤ x98 then (x97) else (x99)) (fun (x118 : Int32) => lt (if x111 ≤ x98 then (x98) else (x111)) (fun (x119 : Int32) => rec100 (x117, x118, x119, (x99 + (1 : Int32))))))))))) zFu ((0 : Int32), (-4 : Int32), (0 : Int32), (0 : Int32))) (fun (u158 : Int32 × Int32) => match u158 with | (x103, x104) => if p1 = (1 : Int32) then (zlp (α := Int32 × Int32) (fun rec139 => (fun (u155 : Int32 × Int32) => match u155 with | (x137, x138) => sq (fX11_linesOf (0 : Int32) (0 : Int32) M3) (fun (x142 : Int32) => if ((1 : Int32) <<< (x142 &&& 31)) ≤ x138 then (some (x137, M3)) else (sq (fX11_bitsOf x138) (fun (x143 : Int32) => sq (α := Int32) (jn (α := Unit) (fun (_ : Unit) => some x137) (fun k152 => if x137 ≤ x143 then (k152 ()) else (sq (fX11_isCalm x138 M3) (fun (b153 : Bool) => if b153 = false then (k152 ()) else (sq (fX11_bitsOf x138) (fun (x154 : Int32) => some x154)))))) (fun (x149 : Int32) => rec139 (x149, (x138 + (1 : Int32))))))))) zFu ((10 : Int32), (0 : Int32))) else (if p1 = 0 then (some (x103, M3)) else (some (x104, M3))))))))
set_option maxHeartbeats 4000000 in
set_option maxRecDepth 100000 in
theorem tX11_passed (E : zE) (p1 : Int32) (M : zM) : zFI E mX11_passed [.ref 76, .int p1] zY0 M (fX11_passed p1 M) := by
  refine zF_of (L := [some (.ref 76), some (.int p1), none, none, none, none, none, none]) plX11 (Nat.le_of_ble_eq_true rfl) rfl (fun post => ?_)
  unfold fX11_passed
  refine z_iload_n 0 dX11_passed_0 rfl ?_
  refine z_i2l 1 dX11_passed_1 ?_
  refine z_lconst 2 dX11_passed_2 zlc_0 ?_
  refine z_ldc2 3 dX11_passed_3 cw_X11_185 ?_
  refine z_ctb (zat_S3 6 dX11_passed_6 lk_X11_85 ⟨Nat.le_of_ble_eq_true rfl, Nat.le_of_ble_eq_true rfl⟩ (Nat.le_of_ble_eq_true rfl)) (tX11_in E zY0 p1.toInt64 (0 : Int64) (2 : Int64) M) (fun b1 => ?_)
  refine z_ifneb 9 14 dX11_passed_9 (by decide) (fun _ => ?_) (fun _ => ?_)
  · refine z_iconst 12 dX11_passed_12 zci_m1 ?_
    exact z_ireturn 13 dX11_passed_13 rfl rfl (fun h => h)
  · refine z_aload_n 14 dX11_passed_14 rfl ?_
    refine z_cV (zat_V0 15 dX11_passed_15 lk_X11_242 zy_76 rfl rfl ⟨Nat.le_of_ble_eq_true rfl, Nat.le_of_ble_eq_true rfl⟩ (Nat.le_of_ble_eq_true rfl)) (tX11_layAll E M) (fun M2 => ?_)
    refine z_aload_n 18 dX11_passed_18 rfl ?_
    refine z_aload_n 19 dX11_passed_19 rfl ?_
    refine z_getR 20 (r := 91) dX11_passed_20 fl_X11_53 zy_76 rfl ?_
    refine z_cV (zat_V1 23 dX11_passed_23 lk_X11_245 zy_76 rfl rfl ⟨Nat.le_of_ble_eq_true rfl, Nat.le_of_ble_eq_true rfl⟩ (Nat.le_of_ble_eq_true rfl)) (tX11_layFirst E 91 zy_91 M2) (fun M3 => ?_)
    refine z_iconst 26 dX11_passed_26 zci_0 ?_
    refine z_istore_n 27 (L' := [some (.ref 76), some (.int p1), some (.int (0 : Int32)), none, none, none, none, none]) dX11_passed_27 (by decide) rfl ?_
    refine z_bipush 28 dX11_passed_28 zbp_m4 ?_
    refine z_istore_n 30 (L' := [some (.ref 76), some (.int p1), some (.int (0 : Int32)), some (.int (-4 : Int32)), none, none, none, none]) dX11_passed_30 (by decide) rfl ?_
    refine z_iconst 31 dX11_passed_31 zci_0 ?_
    refine z_istore 32 (L' := [some (.ref 76), some (.int p1), some (.int (0 : Int32)), some (.int (-4 : Int32)), some (.int (0 : Int32)), none, none, none]) dX11_passed_32 (by decide) rfl ?_
    refine z_iconst 34 dX11_passed_34 zci_0 ?_
    refine z_istore 35 (L' := [some (.ref 76), some (.int p1), some (.int (0 : Int32)), some (.int (-4 : Int32)), some (.int (0 : Int32)), some (.int (0 : Int32)), none, none]) dX11_passed_35 (by decide) rfl ?_
    refine zk_sqj (α := Int32 × Int32) 133 (fun (u159 : Int32 × Int32) => match u159 with | (x103, x104) => [some (.ref 76), some (.int p1), some (.int x103), some (.int x104), none, none, none, none]) (fun (u160 : Int32 × Int32) => match u160 with | (x103, x104) => []) (fun (u161 : Int32 × Int32) => match u161 with | (x103, x104) => (zY0, M3)) ?_ ?_
    · intro u162
      obtain ⟨x103, x104⟩ := u162
      try dsimp only
      refine z_iload_n 133 dX11_passed_133 rfl ?_
      refine z_iconst 134 dX11_passed_134 zci_1 ?_
      refine z_iceq 135 148 dX11_passed_135 (by decide) (fun _ => ?_) (fun _ => ?_)
      · refine z_bipush 148 dX11_passed_148 zbp_10 ?_
        refine z_istore 150 (L' := [some (.ref 76), some (.int p1), some (.int x103), some (.int x104), none, some (.int (10 : Int32)), none, none]) dX11_passed_150 (by decide) rfl ?_
        refine z_iconst 152 dX11_passed_152 zci_0 ?_
        refine z_istore 153 (L' := [some (.ref 76), some (.int p1), some (.int x103), some (.int x104), none, some (.int (10 : Int32)), some (.int (0 : Int32)), none]) dX11_passed_153 (by decide) rfl ?_
        refine zk_weak (L' := [some (.ref 76), none, none, none, none, some (.int (10 : Int32)), some (.int (0 : Int32)), none]) (zLe_s (zLe_n (zLe_n (zLe_n (zLe_n (zLe_s (zLe_s (zLe_n zLe_nl)))))))) (zk_lp (α := Int32 × Int32) 155 (fun (u140 : Int32 × Int32) => match u140 with | (x137, x138) => [some (.ref 76), none, none, none, none, some (.int x137), some (.int x138), none]) (fun (u141 : Int32 × Int32) => match u141 with | (x137, x138) => (zY0, M3)) ?_ zFu ((10 : Int32), (0 : Int32)))
        intro rec139 hrec139
        intro u156
        obtain ⟨x137, x138⟩ := u156
        try dsimp only
        refine z_iload 155 dX11_passed_155 rfl ?_
        refine z_iconst 157 dX11_passed_157 zci_1 ?_
        refine z_aload_n 158 dX11_passed_158 rfl ?_
        refine z_iconst 159 dX11_passed_159 zci_0 ?_
        refine z_iconst 160 dX11_passed_160 zci_0 ?_
        refine z_ci (zat_V2 161 dX11_passed_161 lk_X11_164 zy_76 rfl rfl ⟨Nat.le_of_ble_eq_true rfl, Nat.le_of_ble_eq_true rfl⟩ (Nat.le_of_ble_eq_true rfl)) (tX11_linesOf E (0 : Int32) (0 : Int32) M3) (fun x142 => ?_)
        refine z_ishl 164 dX11_passed_164 ?_
        refine z_icge 165 205 dX11_passed_165 (by decide) (fun _ => ?_) (fun _ => ?_)
        · refine z_iload 205 dX11_passed_205 rfl ?_
          exact z_ireturn 207 dX11_passed_207 rfl rfl (fun h => h)
        · refine z_iload 168 dX11_passed_168 rfl ?_
          refine z_ci (zat_S1 170 dX11_passed_170 lk_X11_219 ⟨Nat.le_of_ble_eq_true rfl, Nat.le_of_ble_eq_true rfl⟩ (Nat.le_of_ble_eq_true rfl)) (tX11_bitsOf E zY0 x138 M3) (fun x143 => ?_)
          refine z_iload 173 dX11_passed_173 rfl ?_
          refine zk_sqj (α := Int32) 197 (fun (x149 : Int32) => [some (.ref 76), none, none, none, none, none, some (.int x138), none]) (fun (x149 : Int32) => [.int x149]) (fun (x149 : Int32) => (zY0, M3)) ?_ ?_
          · intro x149
            refine z_istore 197 (L' := [some (.ref 76), none, none, none, none, some (.int x149), some (.int x138), none]) dX11_passed_197 (by decide) rfl ?_
            refine z_iinc 199 (v := (x138 + (1 : Int32))) (L' := [some (.ref 76), none, none, none, none, some (.int x149), some (.int (x138 + (1 : Int32))), none]) dX11_passed_199 rfl (zinc zci_1 _) (by decide) rfl ?_
            refine z_goto 202 155 dX11_passed_202 (by decide) ?_
            exact zk_weak (L' := [some (.ref 76), none, none, none, none, some (.int x149), some (.int (x138 + (1 : Int32))), none]) (zLe_s (zLe_n (zLe_n (zLe_n (zLe_n (zLe_s (zLe_s (zLe_n zLe_nl)))))))) (hrec139 (x149, (x138 + (1 : Int32))))
          · refine zk_jn (α := Unit) 195 (fun (_ : Unit) => [some (.ref 76), none, none, none, none, some (.int x137), some (.int x138), none]) (fun (_ : Unit) => []) (fun (_ : Unit) => (zY0, M3)) ?_ ?_
            · intro _
              refine z_iload 195 dX11_passed_195 rfl ?_
              exact zk_exitw (L' := [some (.ref 76), none, none, none, none, none, some (.int x138), none]) (zLe_s (zLe_n (zLe_n (zLe_n (zLe_n (zLe_n (zLe_s (zLe_n zLe_nl)))))))) (fun h => h)
            · intro k152 hk152
              refine z_icge 175 195 dX11_passed_175 (by decide) (fun _ => ?_) (fun _ => ?_)
              · exact zk_weak (L' := [some (.ref 76), none, none, none, none, some (.int x137), some (.int x138), none]) (zLe_s (zLe_n (zLe_n (zLe_n (zLe_n (zLe_s (zLe_s (zLe_n zLe_nl)))))))) (hk152 ())
              · refine z_aload_n 178 dX11_passed_178 rfl ?_
                refine z_iload 179 dX11_passed_179 rfl ?_
                refine z_cb (zat_V1 181 dX11_passed_181 lk_X11_276 zy_76 rfl rfl ⟨Nat.le_of_ble_eq_true rfl, Nat.le_of_ble_eq_true rfl⟩ (Nat.le_of_ble_eq_true rfl)) (tX11_isCalm E x138 M3) (fun b153 => ?_)
                refine z_ifeqb 184 195 dX11_passed_184 (by decide) (fun _ => ?_) (fun _ => ?_)
                · exact zk_weak (L' := [some (.ref 76), none, none, none, none, some (.int x137), some (.int x138), none]) (zLe_s (zLe_n (zLe_n (zLe_n (zLe_n (zLe_s (zLe_s (zLe_n zLe_nl)))))))) (hk152 ())
                · refine z_iload 187 dX11_passed_187 rfl ?_
                  refine z_ci (zat_S1 189 dX11_passed_189 lk_X11_219 ⟨Nat.le_of_ble_eq_true rfl, Nat.le_of_ble_eq_true rfl⟩ (Nat.le_of_ble_eq_true rfl)) (tX11_bitsOf E zY0 x138 M3) (fun x154 => ?_)
                  refine z_goto 192 197 dX11_passed_192 (by decide) ?_
                  exact zk_exitw (L' := [some (.ref 76), none, none, none, none, none, some (.int x138), none]) (zLe_s (zLe_n (zLe_n (zLe_n (zLe_n (zLe_n (zLe_s (zLe_n zLe_nl)))))))) (fun h => h)
      · refine z_iload_n 138 dX11_passed_138 rfl ?_
        refine z_ifne 139 146 dX11_passed_139 (by decide) (fun _ => ?_) (fun _ => ?_)
        · refine z_iload_n 142 dX11_passed_142 rfl ?_
          refine z_goto 143 147 dX11_passed_143 (by decide) ?_
          exact z_ireturn 147 dX11_passed_147 rfl rfl (fun h => h)
        · refine z_iload_n 146 dX11_passed_146 rfl ?_
          exact z_ireturn 147 dX11_passed_147 rfl rfl (fun h => h)
    · refine zk_weak (L' := [some (.ref 76), some (.int p1), some (.int (0 : Int32)), some (.int (-4 : Int32)), some (.int (0 : Int32)), some (.int (0 : Int32)), none, none]) (zLe_s (zLe_s (zLe_s (zLe_s (zLe_s (zLe_s (zLe_n (zLe_n zLe_nl)))))))) (zk_lp (α := Int32 × Int32 × Int32 × Int32) 37 (fun (u101 : Int32 × Int32 × Int32 × Int32) => match u101 with | (x96, x97, x98, x99) => [some (.ref 76), some (.int p1), some (.int x96), some (.int x97), some (.int x98), some (.int x99), none, none]) (fun (u102 : Int32 × Int32 × Int32 × Int32) => match u102 with | (x96, x97, x98, x99) => (zY0, M3)) ?_ zFu ((0 : Int32), (-4 : Int32), (0 : Int32), (0 : Int32)))
      intro rec100 hrec100
      intro u163
      obtain ⟨x96, x97, x98, x99⟩ := u163
      try dsimp only
      refine z_iload 37 dX11_passed_37 rfl ?_
      refine z_aload_n 39 dX11_passed_39 rfl ?_
      refine z_iconst 40 dX11_passed_40 zci_0 ?_
      refine z_iconst 41 dX11_passed_41 zci_0 ?_
      refine z_ci (zat_V2 42 dX11_passed_42 lk_X11_164 zy_76 rfl rfl ⟨Nat.le_of_ble_eq_true rfl, Nat.le_of_ble_eq_true rfl⟩ (Nat.le_of_ble_eq_true rfl)) (tX11_linesOf E (0 : Int32) (0 : Int32) M3) (fun x105 => ?_)
      refine z_icge 45 133 dX11_passed_45 (by decide) (fun _ => ?_) (fun _ => ?_)
      · exact zk_exitw (L' := [some (.ref 76), some (.int p1), some (.int x96), some (.int x97), none, none, none, none]) (zLe_s (zLe_s (zLe_s (zLe_s (zLe_n (zLe_n (zLe_n (zLe_n zLe_nl)))))))) (fun h => h)
      · refine z_iconst 48 dX11_passed_48 zci_0 ?_
        refine z_istore 49 (L' := [some (.ref 76), some (.int p1), some (.int x96), some (.int x97), some (.int x98), some (.int x99), some (.int (0 : Int32)), none]) dX11_passed_49 (by decide) rfl ?_
        refine z_iconst 51 dX11_passed_51 zci_0 ?_
        refine z_istore 52 (L' := [some (.ref 76), some (.int p1), some (.int x96), some (.int x97), some (.int x98), some (.int x99), some (.int (0 : Int32)), some (.int (0 : Int32))]) dX11_passed_52 (by decide) rfl ?_
        refine zk_sqj (α := Int32) 92 (fun (x111 : Int32) => [some (.ref 76), some (.int p1), some (.int x96), some (.int x97), some (.int x98), some (.int x99), some (.int x111), none]) (fun (x111 : Int32) => []) (fun (x111 : Int32) => (zY0, M3)) ?_ ?_
        · intro x111
          refine z_iload_n 92 dX11_passed_92 rfl ?_
          refine z_iload 93 dX11_passed_93 rfl ?_
          refine z_iadd 95 dX11_passed_95 ?_
          refine zk_nmI (fun x117 => ?_)
          refine z_istore_n 96 (L' := [some (.ref 76), some (.int p1), some (.int x117), some (.int x97), some (.int x98), some (.int x99), some (.int x111), none]) dX11_passed_96 (by decide) rfl ?_
          refine z_iload 97 dX11_passed_97 rfl ?_
          refine z_iload 99 dX11_passed_99 rfl ?_
          refine zk_ltj (α := Int32) 110 (fun (x118 : Int32) => [some (.ref 76), some (.int p1), some (.int x117), none, some (.int x98), some (.int x99), some (.int x111), none]) (fun (x118 : Int32) => [.int x118]) (fun (x118 : Int32) => (zY0, M3)) ?_ ?_
          · intro x118
            refine z_istore_n 110 (L' := [some (.ref 76), some (.int p1), some (.int x117), some (.int x118), some (.int x98), some (.int x99), some (.int x111), none]) dX11_passed_110 (by decide) rfl ?_
            refine z_iload 111 dX11_passed_111 rfl ?_
            refine z_iload 113 dX11_passed_113 rfl ?_
            refine zk_ltj (α := Int32) 125 (fun (x119 : Int32) => [some (.ref 76), some (.int p1), some (.int x117), some (.int x118), none, some (.int x99), none, none]) (fun (x119 : Int32) => [.int x119]) (fun (x119 : Int32) => (zY0, M3)) ?_ ?_
            · intro x119
              refine z_istore 125 (L' := [some (.ref 76), some (.int p1), some (.int x117), some (.int x118), some (.int x119), some (.int x99), none, none]) dX11_passed_125 (by decide) rfl ?_
              refine z_iinc 127 (v := (x99 + (1 : Int32))) (L' := [some (.ref 76), some (.int p1), some (.int x117), some (.int x118), some (.int x119), some (.int (x99 + (1 : Int32))), none, none]) dX11_passed_127 rfl (zinc zci_1 _) (by decide) rfl ?_
              refine z_goto 130 37 dX11_passed_130 (by decide) ?_
              exact zk_weak (L' := [some (.ref 76), some (.int p1), some (.int x117), some (.int x118), some (.int x119), some (.int (x99 + (1 : Int32))), none, none]) (zLe_s (zLe_s (zLe_s (zLe_s (zLe_s (zLe_s (zLe_n (zLe_n zLe_nl)))))))) (hrec100 (x117, x118, x119, (x99 + (1 : Int32))))
            · intro k120 hk120
              refine z_iclev 115 123 dX11_passed_115 (by decide) ?_ ?_
              · refine z_iload 123 dX11_passed_123 rfl ?_
                exact zk_weak (L' := [some (.ref 76), some (.int p1), some (.int x117), some (.int x118), none, some (.int x99), none, none]) (zLe_s (zLe_s (zLe_s (zLe_s (zLe_n (zLe_s (zLe_n (zLe_n zLe_nl)))))))) (hk120 x98)
              · refine z_iload 118 dX11_passed_118 rfl ?_
                refine z_goto 120 125 dX11_passed_120 (by decide) ?_
                exact zk_weak (L' := [some (.ref 76), some (.int p1), some (.int x117), some (.int x118), none, some (.int x99), none, none]) (zLe_s (zLe_s (zLe_s (zLe_s (zLe_n (zLe_s (zLe_n (zLe_n zLe_nl)))))))) (hk120 x111)
          · intro k121 hk121
            refine z_iclev 101 109 dX11_passed_101 (by decide) ?_ ?_
            · refine z_iload_n 109 dX11_passed_109 rfl ?_
              exact zk_weak (L' := [some (.ref 76), some (.int p1), some (.int x117), none, some (.int x98), some (.int x99), some (.int x111), none]) (zLe_s (zLe_s (zLe_s (zLe_n (zLe_s (zLe_s (zLe_s (zLe_n zLe_nl)))))))) (hk121 x97)
            · refine z_iload 104 dX11_passed_104 rfl ?_
              refine z_goto 106 110 dX11_passed_106 (by decide) ?_
              exact zk_weak (L' := [some (.ref 76), some (.int p1), some (.int x117), none, some (.int x98), some (.int x99), some (.int x111), none]) (zLe_s (zLe_s (zLe_s (zLe_n (zLe_s (zLe_s (zLe_s (zLe_n zLe_nl)))))))) (hk121 x99)
        · refine zk_weak (L' := [some (.ref 76), some (.int p1), some (.int x96), some (.int x97), some (.int x98), some (.int x99), some (.int (0 : Int32)), some (.int (0 : Int32))]) (zLe_s (zLe_s (zLe_s (zLe_s (zLe_s (zLe_s (zLe_s (zLe_s zLe_nl)))))))) (zk_lp (α := Int32 × Int32) 54 (fun (u109 : Int32 × Int32) => match u109 with | (x106, x107) => [some (.ref 76), some (.int p1), some (.int x96), some (.int x97), some (.int x98), some (.int x99), some (.int x106), some (.int x107)]) (fun (u110 : Int32 × Int32) => match u110 with | (x106, x107) => (zY0, M3)) ?_ zFu ((0 : Int32), (0 : Int32)))
          intro rec108 hrec108
          intro u123
          obtain ⟨x106, x107⟩ := u123
          try dsimp only
          refine z_iload 54 dX11_passed_54 rfl ?_
          refine z_aload_n 56 dX11_passed_56 rfl ?_
          refine z_iconst 57 dX11_passed_57 zci_0 ?_
          refine z_iconst 58 dX11_passed_58 zci_0 ?_
          refine z_ci (zat_V2 59 dX11_passed_59 lk_X11_164 zy_76 rfl rfl ⟨Nat.le_of_ble_eq_true rfl, Nat.le_of_ble_eq_true rfl⟩ (Nat.le_of_ble_eq_true rfl)) (tX11_linesOf E (0 : Int32) (0 : Int32) M3) (fun x112 => ?_)
          refine z_icge 62 92 dX11_passed_62 (by decide) (fun _ => ?_) (fun _ => ?_)
          · exact zk_exitw (L' := [some (.ref 76), some (.int p1), some (.int x96), some (.int x97), some (.int x98), some (.int x99), some (.int x106), none]) (zLe_s (zLe_s (zLe_s (zLe_s (zLe_s (zLe_s (zLe_s (zLe_n zLe_nl)))))))) (fun h => h)
          · refine z_iload 65 dX11_passed_65 rfl ?_
            refine z_aload_n 67 dX11_passed_67 rfl ?_
            refine z_iload 68 dX11_passed_68 rfl ?_
            refine z_iload 70 dX11_passed_70 rfl ?_
            refine z_cb (zat_V2 72 dX11_passed_72 lk_X11_273 zy_76 rfl rfl ⟨Nat.le_of_ble_eq_true rfl, Nat.le_of_ble_eq_true rfl⟩ (Nat.le_of_ble_eq_true rfl)) (tX11_didPass E x99 x107 M3) (fun b113 => ?_)
            refine zk_ltj (α := Bool) 83 (fun (b114 : Bool) => [some (.ref 76), some (.int p1), some (.int x96), some (.int x97), some (.int x98), some (.int x99), none, some (.int x107)]) (fun (b114 : Bool) => [.int (zb b114), .int x106]) (fun (b114 : Bool) => (zY0, M3)) ?_ ?_
            · intro b114
              refine z_iadd 83 dX11_passed_83 ?_
              refine zk_nmI (fun x115 => ?_)
              refine z_istore 84 (L' := [some (.ref 76), some (.int p1), some (.int x96), some (.int x97), some (.int x98), some (.int x99), some (.int x115), some (.int x107)]) dX11_passed_84 (by decide) rfl ?_
              refine z_iinc 86 (v := (x107 + (1 : Int32))) (L' := [some (.ref 76), some (.int p1), some (.int x96), some (.int x97), some (.int x98), some (.int x99), some (.int x115), some (.int (x107 + (1 : Int32)))]) dX11_passed_86 rfl (zinc zci_1 _) (by decide) rfl ?_
              refine z_goto 89 54 dX11_passed_89 (by decide) ?_
              exact zk_weak (L' := [some (.ref 76), some (.int p1), some (.int x96), some (.int x97), some (.int x98), some (.int x99), some (.int x115), some (.int (x107 + (1 : Int32)))]) (zLe_s (zLe_s (zLe_s (zLe_s (zLe_s (zLe_s (zLe_s (zLe_s zLe_nl)))))))) (hrec108 (x115, (x107 + (1 : Int32))))
            · intro k116 hk116
              refine z_ifeqbv 75 82 dX11_passed_75 (by decide) ?_ ?_
              · refine z_iconst 82 dX11_passed_82 zci_0 ?_
                exact zk_weak (L' := [some (.ref 76), some (.int p1), some (.int x96), some (.int x97), some (.int x98), some (.int x99), none, some (.int x107)]) (zLe_s (zLe_s (zLe_s (zLe_s (zLe_s (zLe_s (zLe_n (zLe_s zLe_nl)))))))) (hk116 false)
              · refine z_iconst 78 dX11_passed_78 zci_1 ?_
                refine z_goto 79 83 dX11_passed_79 (by decide) ?_
                exact zk_weak (L' := [some (.ref 76), some (.int p1), some (.int x96), some (.int x97), some (.int x98), some (.int x99), none, some (.int x107)]) (zLe_s (zLe_s (zLe_s (zLe_s (zLe_s (zLe_s (zLe_n (zLe_s zLe_nl)))))))) (hk116 true)
def fX11_readAs (p1 : Int32) (p2 : Int32) (M : zM) : Option Int32 :=
  zlp (α := Int32 × Int32) (fun rec85 => (fun (u111 : Int32 × Int32) => match u111 with | (x83, x84) => sq (fX11_linesOf (0 : Int32) (0 : Int32) M) (fun (x88 : Int32) => if x88 ≤ x84 then (some x83) else (sq (α := Int32) (zlp (α := Int32 × Int32) (β := Int32) (fun rec91 => (fun (u109 : Int32 × Int32) => match u109 with | (x89, x90) => if (4 : Int32) < x90 then (some x89) else (grd (zix x84 10) (if (M.1 91 (zn x84)) = (-4 : Int32) then (some x89) else (sq (fX11_its (0 : Int32) x84 x90 M) (fun (x95 : Int32) => grd (zix x84 10) (sq (fX11_its (1 : Int32) (M.1 91 (zn x84)) x90 M) (fun (x96 : Int32) => sq (α := Bool) (jn (α := Unit) (fun (_ : Unit) => some false) (fun k106 => if x95 ≤ 0 then (k106 ()) else (if x96 ≤ 0 then (k106 ()) else (lt (fX11_letterOf x95) (fun (x107 : Int32) => if (x107 - (1 : Int32)) = p1 then (lt (fX11_letterOf x96) (fun (x108 : Int32) => if (x108 - (1 : Int32)) = p2 then (some true) else (k106 ()))) else (k106 ())))))) (fun (b102 : Bool) => lt ((x89 + (zb b102))) (fun (x103 : Int32) => rec91 (x103, (x90 + (1 : Int32))))))))))))) zFu (x83, (1 : Int32))) (fun (x94 : Int32) => rec85 (x94, (x84 + (1 : Int32)))))))) zFu ((0 : Int32), (0 : Int32))
set_option maxHeartbeats 4000000 in
set_option maxRecDepth 100000 in
theorem tX11_readAs (E : zE) (p1 : Int32) (p2 : Int32) (M : zM) : zFi E mX11_readAs [.ref 76, .int p1, .int p2] zY0 M (fX11_readAs p1 p2 M) := by
  refine zF_of (L := [some (.ref 76), some (.int p1), some (.int p2), none, none, none, none, none]) plX11 (Nat.le_of_ble_eq_true rfl) rfl (fun post => ?_)
  unfold fX11_readAs
  refine z_iconst 0 dX11_readAs_0 zci_0 ?_
  refine z_istore_n 1 (L' := [some (.ref 76), some (.int p1), some (.int p2), some (.int (0 : Int32)), none, none, none, none]) dX11_readAs_1 (by decide) rfl ?_
  refine z_iconst 2 dX11_readAs_2 zci_0 ?_
  refine z_istore 3 (L' := [some (.ref 76), some (.int p1), some (.int p2), some (.int (0 : Int32)), some (.int (0 : Int32)), none, none, none]) dX11_readAs_3 (by decide) rfl ?_
  refine zk_weak (L' := [some (.ref 76), some (.int p1), some (.int p2), some (.int (0 : Int32)), some (.int (0 : Int32)), none, none, none]) (zLe_s (zLe_s (zLe_s (zLe_s (zLe_s (zLe_n (zLe_n (zLe_n zLe_nl)))))))) (zk_lp (α := Int32 × Int32) 5 (fun (u86 : Int32 × Int32) => match u86 with | (x83, x84) => [some (.ref 76), some (.int p1), some (.int p2), some (.int x83), some (.int x84), none, none, none]) (fun (u87 : Int32 × Int32) => match u87 with | (x83, x84) => (zY0, M)) ?_ zFu ((0 : Int32), (0 : Int32)))
  intro rec85 hrec85
  intro u112
  obtain ⟨x83, x84⟩ := u112
  try dsimp only
  refine z_iload 5 dX11_readAs_5 rfl ?_
  refine z_aload_n 7 dX11_readAs_7 rfl ?_
  refine z_iconst 8 dX11_readAs_8 zci_0 ?_
  refine z_iconst 9 dX11_readAs_9 zci_0 ?_
  refine z_ci (zat_V2 10 dX11_readAs_10 lk_X11_164 zy_76 rfl rfl ⟨Nat.le_of_ble_eq_true rfl, Nat.le_of_ble_eq_true rfl⟩ (Nat.le_of_ble_eq_true rfl)) (tX11_linesOf E (0 : Int32) (0 : Int32) M) (fun x88 => ?_)
  refine z_icge 13 116 dX11_readAs_13 (by decide) (fun _ => ?_) (fun _ => ?_)
  · refine z_iload_n 116 dX11_readAs_116 rfl ?_
    exact z_ireturn 117 dX11_readAs_117 rfl rfl (fun h => h)
  · refine z_iconst 16 dX11_readAs_16 zci_1 ?_
    refine z_istore 17 (L' := [some (.ref 76), some (.int p1), some (.int p2), some (.int x83), some (.int x84), some (.int (1 : Int32)), none, none]) dX11_readAs_17 (by decide) rfl ?_
    refine zk_sqj (α := Int32) 110 (fun (x94 : Int32) => [some (.ref 76), some (.int p1), some (.int p2), some (.int x94), some (.int x84), none, none, none]) (fun (x94 : Int32) => []) (fun (x94 : Int32) => (zY0, M)) ?_ ?_
    · intro x94
      refine z_iinc 110 (v := (x84 + (1 : Int32))) (L' := [some (.ref 76), some (.int p1), some (.int p2), some (.int x94), some (.int (x84 + (1 : Int32))), none, none, none]) dX11_readAs_110 rfl (zinc zci_1 _) (by decide) rfl ?_
      refine z_goto 113 5 dX11_readAs_113 (by decide) ?_
      exact zk_weak (L' := [some (.ref 76), some (.int p1), some (.int p2), some (.int x94), some (.int (x84 + (1 : Int32))), none, none, none]) (zLe_s (zLe_s (zLe_s (zLe_s (zLe_s (zLe_n (zLe_n (zLe_n zLe_nl)))))))) (hrec85 (x94, (x84 + (1 : Int32))))
    · refine zk_weak (L' := [some (.ref 76), some (.int p1), some (.int p2), some (.int x83), some (.int x84), some (.int (1 : Int32)), none, none]) (zLe_s (zLe_s (zLe_s (zLe_s (zLe_s (zLe_s (zLe_n (zLe_n zLe_nl)))))))) (zk_lp (α := Int32 × Int32) 19 (fun (u92 : Int32 × Int32) => match u92 with | (x89, x90) => [some (.ref 76), some (.int p1), some (.int p2), some (.int x89), some (.int x84), some (.int x90), none, none]) (fun (u93 : Int32 × Int32) => match u93 with | (x89, x90) => (zY0, M)) ?_ zFu (x83, (1 : Int32)))
      intro rec91 hrec91
      intro u110
      obtain ⟨x89, x90⟩ := u110
      try dsimp only
      refine z_iload 19 dX11_readAs_19 rfl ?_
      refine z_iconst 21 dX11_readAs_21 zci_4 ?_
      refine z_icgt 22 110 dX11_readAs_22 (by decide) (fun _ => ?_) (fun _ => ?_)
      · exact zk_exitw (L' := [some (.ref 76), some (.int p1), some (.int p2), some (.int x89), some (.int x84), none, none, none]) (zLe_s (zLe_s (zLe_s (zLe_s (zLe_s (zLe_n (zLe_n (zLe_n zLe_nl)))))))) (fun h => h)
      · refine z_aload_n 25 dX11_readAs_25 rfl ?_
        refine z_getR 26 (r := 91) dX11_readAs_26 fl_X11_53 zy_76 rfl ?_
        refine z_iload 29 dX11_readAs_29 rfl ?_
        refine z_iaload 31 dX11_readAs_31 zy_91 ?_
        refine z_bipush 32 dX11_readAs_32 zbp_m4 ?_
        refine z_iceq 34 110 dX11_readAs_34 (by decide) (fun _ => ?_) (fun _ => ?_)
        · exact zk_exitw (L' := [some (.ref 76), some (.int p1), some (.int p2), some (.int x89), some (.int x84), none, none, none]) (zLe_s (zLe_s (zLe_s (zLe_s (zLe_s (zLe_n (zLe_n (zLe_n zLe_nl)))))))) (fun h => h)
        · refine z_aload_n 37 dX11_readAs_37 rfl ?_
          refine z_iconst 38 dX11_readAs_38 zci_0 ?_
          refine z_iload 39 dX11_readAs_39 rfl ?_
          refine z_iload 41 dX11_readAs_41 rfl ?_
          refine z_ci (zat_V3 43 dX11_readAs_43 lk_X11_181 zy_76 rfl rfl ⟨Nat.le_of_ble_eq_true rfl, Nat.le_of_ble_eq_true rfl⟩ (Nat.le_of_ble_eq_true rfl)) (tX11_its E (0 : Int32) x84 x90 M) (fun x95 => ?_)
          refine z_istore 46 (L' := [some (.ref 76), some (.int p1), some (.int p2), some (.int x89), some (.int x84), some (.int x90), some (.int x95), none]) dX11_readAs_46 (by decide) rfl ?_
          refine z_aload_n 48 dX11_readAs_48 rfl ?_
          refine z_iconst 49 dX11_readAs_49 zci_1 ?_
          refine z_aload_n 50 dX11_readAs_50 rfl ?_
          refine z_getR 51 (r := 91) dX11_readAs_51 fl_X11_53 zy_76 rfl ?_
          refine z_iload 54 dX11_readAs_54 rfl ?_
          refine z_iaload 56 dX11_readAs_56 zy_91 ?_
          refine z_iload 57 dX11_readAs_57 rfl ?_
          refine z_ci (zat_V3 59 dX11_readAs_59 lk_X11_181 zy_76 rfl rfl ⟨Nat.le_of_ble_eq_true rfl, Nat.le_of_ble_eq_true rfl⟩ (Nat.le_of_ble_eq_true rfl)) (tX11_its E (1 : Int32) (M.1 91 (zn x84)) x90 M) (fun x96 => ?_)
          refine z_istore 62 (L' := [some (.ref 76), some (.int p1), some (.int p2), some (.int x89), some (.int x84), some (.int x90), some (.int x95), some (.int x96)]) dX11_readAs_62 (by decide) rfl ?_
          refine z_iload_n 64 dX11_readAs_64 rfl ?_
          refine z_iload 65 dX11_readAs_65 rfl ?_
          refine zk_sqj (α := Bool) 102 (fun (b102 : Bool) => [some (.ref 76), some (.int p1), some (.int p2), none, some (.int x84), some (.int x90), none, none]) (fun (b102 : Bool) => [.int (zb b102), .int x89]) (fun (b102 : Bool) => (zY0, M)) ?_ ?_
          · intro b102
            refine z_iadd 102 dX11_readAs_102 ?_
            refine zk_nmI (fun x103 => ?_)
            refine z_istore_n 103 (L' := [some (.ref 76), some (.int p1), some (.int p2), some (.int x103), some (.int x84), some (.int x90), none, none]) dX11_readAs_103 (by decide) rfl ?_
            refine z_iinc 104 (v := (x90 + (1 : Int32))) (L' := [some (.ref 76), some (.int p1), some (.int p2), some (.int x103), some (.int x84), some (.int (x90 + (1 : Int32))), none, none]) dX11_readAs_104 rfl (zinc zci_1 _) (by decide) rfl ?_
            refine z_goto 107 19 dX11_readAs_107 (by decide) ?_
            exact zk_weak (L' := [some (.ref 76), some (.int p1), some (.int p2), some (.int x103), some (.int x84), some (.int (x90 + (1 : Int32))), none, none]) (zLe_s (zLe_s (zLe_s (zLe_s (zLe_s (zLe_s (zLe_n (zLe_n zLe_nl)))))))) (hrec91 (x103, (x90 + (1 : Int32))))
          · refine zk_jn (α := Unit) 101 (fun (_ : Unit) => [some (.ref 76), some (.int p1), some (.int p2), none, some (.int x84), some (.int x90), none, none]) (fun (_ : Unit) => [.int x89]) (fun (_ : Unit) => (zY0, M)) ?_ ?_
            · intro _
              refine z_iconst 101 dX11_readAs_101 zci_0 ?_
              exact zk_exitw (L' := [some (.ref 76), some (.int p1), some (.int p2), none, some (.int x84), some (.int x90), none, none]) (zLe_s (zLe_s (zLe_s (zLe_n (zLe_s (zLe_s (zLe_n (zLe_n zLe_nl)))))))) (fun h => h)
            · intro k106 hk106
              refine z_ifle 67 101 dX11_readAs_67 (by decide) (fun _ => ?_) (fun _ => ?_)
              · exact zk_weak (L' := [some (.ref 76), some (.int p1), some (.int p2), none, some (.int x84), some (.int x90), none, none]) (zLe_s (zLe_s (zLe_s (zLe_n (zLe_s (zLe_s (zLe_n (zLe_n zLe_nl)))))))) (hk106 ())
              · refine z_iload 70 dX11_readAs_70 rfl ?_
                refine z_ifle 72 101 dX11_readAs_72 (by decide) (fun _ => ?_) (fun _ => ?_)
                · exact zk_weak (L' := [some (.ref 76), some (.int p1), some (.int p2), none, some (.int x84), some (.int x90), none, none]) (zLe_s (zLe_s (zLe_s (zLe_n (zLe_s (zLe_s (zLe_n (zLe_n zLe_nl)))))))) (hk106 ())
                · refine z_iload 75 dX11_readAs_75 rfl ?_
                  refine z_cti (zat_S1 77 dX11_readAs_77 lk_X11_201 ⟨Nat.le_of_ble_eq_true rfl, Nat.le_of_ble_eq_true rfl⟩ (Nat.le_of_ble_eq_true rfl)) (tX11_letterOf E zY0 x95 M) (fun x107 => ?_)
                  refine z_iconst 80 dX11_readAs_80 zci_1 ?_
                  refine z_isub 81 dX11_readAs_81 ?_
                  refine z_iload_n 82 dX11_readAs_82 rfl ?_
                  refine z_icne 83 101 dX11_readAs_83 (by decide) (fun _ => ?_) (fun _ => ?_)
                  · refine z_iload 86 dX11_readAs_86 rfl ?_
                    refine z_cti (zat_S1 88 dX11_readAs_88 lk_X11_201 ⟨Nat.le_of_ble_eq_true rfl, Nat.le_of_ble_eq_true rfl⟩ (Nat.le_of_ble_eq_true rfl)) (tX11_letterOf E zY0 x96 M) (fun x108 => ?_)
                    refine z_iconst 91 dX11_readAs_91 zci_1 ?_
                    refine z_isub 92 dX11_readAs_92 ?_
                    refine z_iload_n 93 dX11_readAs_93 rfl ?_
                    refine z_icne 94 101 dX11_readAs_94 (by decide) (fun _ => ?_) (fun _ => ?_)
                    · refine z_iconst 97 dX11_readAs_97 zci_1 ?_
                      refine z_goto 98 102 dX11_readAs_98 (by decide) ?_
                      exact zk_exitw (L' := [some (.ref 76), some (.int p1), some (.int p2), none, some (.int x84), some (.int x90), none, none]) (zLe_s (zLe_s (zLe_s (zLe_n (zLe_s (zLe_s (zLe_n (zLe_n zLe_nl)))))))) (fun h => h)
                    · exact zk_weak (L' := [some (.ref 76), some (.int p1), some (.int p2), none, some (.int x84), some (.int x90), none, none]) (zLe_s (zLe_s (zLe_s (zLe_n (zLe_s (zLe_s (zLe_n (zLe_n zLe_nl)))))))) (hk106 ())
                  · exact zk_weak (L' := [some (.ref 76), some (.int p1), some (.int p2), none, some (.int x84), some (.int x90), none, none]) (zLe_s (zLe_s (zLe_s (zLe_n (zLe_s (zLe_s (zLe_n (zLe_n zLe_nl)))))))) (hk106 ())
def fX11_reads (p1 : Int32) (p2 : Int32) (M : zM) : Option (Int32 × zM) :=
  lt (fX11_isLetter p1) (fun (b1 : Bool) => if b1 = false then (some ((-1 : Int32), M)) else (lt (fX11_isLetter p2) (fun (b2 : Bool) => if b2 = false then (some ((-1 : Int32), M)) else (sq (fX11_layAll M) (fun (M3 : zM) => sq (fX11_layFirst 91 M3) (fun (M4 : zM) => sq (fX11_readAs p1 p2 M4) (fun (x5 : Int32) => some (x5, M4))))))))
set_option maxHeartbeats 4000000 in
set_option maxRecDepth 100000 in
theorem tX11_reads (E : zE) (p1 : Int32) (p2 : Int32) (M : zM) : zFI E mX11_reads [.ref 76, .int p1, .int p2] zY0 M (fX11_reads p1 p2 M) := by
  refine zF_of (L := [some (.ref 76), some (.int p1), some (.int p2)]) plX11 (Nat.le_of_ble_eq_true rfl) rfl (fun post => ?_)
  unfold fX11_reads
  refine z_iload_n 0 dX11_reads_0 rfl ?_
  refine z_ctb (zat_S1 1 dX11_reads_1 lk_X11_153 ⟨Nat.le_of_ble_eq_true rfl, Nat.le_of_ble_eq_true rfl⟩ (Nat.le_of_ble_eq_true rfl)) (tX11_isLetter E zY0 p1 M) (fun b1 => ?_)
  refine z_ifeqb 4 14 dX11_reads_4 (by decide) (fun _ => ?_) (fun _ => ?_)
  · refine z_iconst 14 dX11_reads_14 zci_m1 ?_
    exact z_ireturn 15 dX11_reads_15 rfl rfl (fun h => h)
  · refine z_iload_n 7 dX11_reads_7 rfl ?_
    refine z_ctb (zat_S1 8 dX11_reads_8 lk_X11_153 ⟨Nat.le_of_ble_eq_true rfl, Nat.le_of_ble_eq_true rfl⟩ (Nat.le_of_ble_eq_true rfl)) (tX11_isLetter E zY0 p2 M) (fun b2 => ?_)
    refine z_ifneb 11 16 dX11_reads_11 (by decide) (fun _ => ?_) (fun _ => ?_)
    · refine z_iconst 14 dX11_reads_14 zci_m1 ?_
      exact z_ireturn 15 dX11_reads_15 rfl rfl (fun h => h)
    · refine z_aload_n 16 dX11_reads_16 rfl ?_
      refine z_cV (zat_V0 17 dX11_reads_17 lk_X11_242 zy_76 rfl rfl ⟨Nat.le_of_ble_eq_true rfl, Nat.le_of_ble_eq_true rfl⟩ (Nat.le_of_ble_eq_true rfl)) (tX11_layAll E M) (fun M3 => ?_)
      refine z_aload_n 20 dX11_reads_20 rfl ?_
      refine z_aload_n 21 dX11_reads_21 rfl ?_
      refine z_getR 22 (r := 91) dX11_reads_22 fl_X11_53 zy_76 rfl ?_
      refine z_cV (zat_V1 25 dX11_reads_25 lk_X11_245 zy_76 rfl rfl ⟨Nat.le_of_ble_eq_true rfl, Nat.le_of_ble_eq_true rfl⟩ (Nat.le_of_ble_eq_true rfl)) (tX11_layFirst E 91 zy_91 M3) (fun M4 => ?_)
      refine z_aload_n 28 dX11_reads_28 rfl ?_
      refine z_iload_n 29 dX11_reads_29 rfl ?_
      refine z_iload_n 30 dX11_reads_30 rfl ?_
      refine z_ci (zat_V2 31 dX11_reads_31 lk_X11_279 zy_76 rfl rfl ⟨Nat.le_of_ble_eq_true rfl, Nat.le_of_ble_eq_true rfl⟩ (Nat.le_of_ble_eq_true rfl)) (tX11_readAs E p1 p2 M4) (fun x5 => ?_)
      exact z_ireturn 34 dX11_reads_34 rfl rfl (fun h => h)
