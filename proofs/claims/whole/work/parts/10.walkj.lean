def fX11_blamed (M : zM) : Option (Int32 × zM) :=
  sq (fX11_layAll M) (fun (M1 : zM) => sq (fX11_layFirst 91 M1) (fun (M2 : zM) => zlp (α := Int32 × Int32 × Int32) (fun rec26 => (fun (u36 : Int32 × Int32 × Int32) => match u36 with | (x23, x24, x25) => if (64 : Int32) ≤ x25 then (some (x23, M2)) else (sq (α := Int32) (if (x25 / (8 : Int32)) = (zrm_i x25 (8 : Int32)) then (some (0 : Int32)) else (sq (fX11_readAs (x25 / (8 : Int32)) (zrm_i x25 (8 : Int32)) M2) (fun (x35 : Int32) => some x35))) (fun (x30 : Int32) => lt (if x30 ≤ x24 then (x23) else (x25)) (fun (x31 : Int32) => lt (if x30 ≤ x24 then (x24) else (x30)) (fun (x32 : Int32) => rec26 (x31, x32, (x25 + (1 : Int32))))))))) zFu ((-4 : Int32), (0 : Int32), (0 : Int32))))
set_option maxHeartbeats 4000000 in
set_option maxRecDepth 100000 in
theorem tX11_blamed (E : zE)  (M : zM) : zFI E mX11_blamed [.ref 76] zY0 M (fX11_blamed M) := by
  refine zF_of (L := [some (.ref 76), none, none, none, none]) plX11 (Nat.le_of_ble_eq_true rfl) rfl (fun post => ?_)
  unfold fX11_blamed
  refine z_aload_n 0 dX11_blamed_0 rfl ?_
  refine z_cV (zat_V0 1 dX11_blamed_1 lk_X11_242 zy_76 rfl rfl ⟨Nat.le_of_ble_eq_true rfl, Nat.le_of_ble_eq_true rfl⟩ (Nat.le_of_ble_eq_true rfl)) (tX11_layAll E M) (fun M1 => ?_)
  refine z_aload_n 4 dX11_blamed_4 rfl ?_
  refine z_aload_n 5 dX11_blamed_5 rfl ?_
  refine z_getR 6 (r := 91) dX11_blamed_6 fl_X11_53 zy_76 rfl ?_
  refine z_cV (zat_V1 9 dX11_blamed_9 lk_X11_245 zy_76 rfl rfl ⟨Nat.le_of_ble_eq_true rfl, Nat.le_of_ble_eq_true rfl⟩ (Nat.le_of_ble_eq_true rfl)) (tX11_layFirst E 91 zy_91 M1) (fun M2 => ?_)
  refine z_bipush 12 dX11_blamed_12 zbp_m4 ?_
  refine z_istore_n 14 (L' := [some (.ref 76), some (.int (-4 : Int32)), none, none, none]) dX11_blamed_14 (by decide) rfl ?_
  refine z_iconst 15 dX11_blamed_15 zci_0 ?_
  refine z_istore_n 16 (L' := [some (.ref 76), some (.int (-4 : Int32)), some (.int (0 : Int32)), none, none]) dX11_blamed_16 (by decide) rfl ?_
  refine z_iconst 17 dX11_blamed_17 zci_0 ?_
  refine z_istore_n 18 (L' := [some (.ref 76), some (.int (-4 : Int32)), some (.int (0 : Int32)), some (.int (0 : Int32)), none]) dX11_blamed_18 (by decide) rfl ?_
  refine zk_weak (L' := [some (.ref 76), some (.int (-4 : Int32)), some (.int (0 : Int32)), some (.int (0 : Int32)), none]) (zLe_s (zLe_s (zLe_s (zLe_s (zLe_n zLe_nl))))) (zk_lp (α := Int32 × Int32 × Int32) 19 (fun (u27 : Int32 × Int32 × Int32) => match u27 with | (x23, x24, x25) => [some (.ref 76), some (.int x23), some (.int x24), some (.int x25), none]) (fun (u28 : Int32 × Int32 × Int32) => match u28 with | (x23, x24, x25) => (zY0, M2)) ?_ zFu ((-4 : Int32), (0 : Int32), (0 : Int32)))
  intro rec26 hrec26
  intro u37
  obtain ⟨x23, x24, x25⟩ := u37
  try dsimp only
  refine z_iload_n 19 dX11_blamed_19 rfl ?_
  refine z_bipush 20 dX11_blamed_20 zbp_64 ?_
  refine z_icge 22 85 dX11_blamed_22 (by decide) (fun _ => ?_) (fun _ => ?_)
  · refine z_iload_n 85 dX11_blamed_85 rfl ?_
    exact z_ireturn 86 dX11_blamed_86 rfl rfl (fun h => h)
  · refine z_iload_n 25 dX11_blamed_25 rfl ?_
    refine z_bipush 26 dX11_blamed_26 zbp_8 ?_
    refine z_idivc 28 dX11_blamed_28 (by decide) ?_
    refine z_iload_n 29 dX11_blamed_29 rfl ?_
    refine z_bipush 30 dX11_blamed_30 zbp_8 ?_
    refine z_iremc 32 dX11_blamed_32 (by decide) ?_
    refine zk_sqj (α := Int32) 52 (fun (x30 : Int32) => [some (.ref 76), some (.int x23), some (.int x24), some (.int x25), none]) (fun (x30 : Int32) => [.int x30]) (fun (x30 : Int32) => (zY0, M2)) ?_ ?_
    · intro x30
      refine z_istore 52 (L' := [some (.ref 76), some (.int x23), some (.int x24), some (.int x25), some (.int x30)]) dX11_blamed_52 (by decide) rfl ?_
      refine z_iload 54 dX11_blamed_54 rfl ?_
      refine z_iload_n 56 dX11_blamed_56 rfl ?_
      refine zk_ltj (α := Int32) 65 (fun (x31 : Int32) => [some (.ref 76), none, some (.int x24), some (.int x25), some (.int x30)]) (fun (x31 : Int32) => [.int x31]) (fun (x31 : Int32) => (zY0, M2)) ?_ ?_
      · intro x31
        refine z_istore_n 65 (L' := [some (.ref 76), some (.int x31), some (.int x24), some (.int x25), some (.int x30)]) dX11_blamed_65 (by decide) rfl ?_
        refine z_iload 66 dX11_blamed_66 rfl ?_
        refine z_iload_n 68 dX11_blamed_68 rfl ?_
        refine zk_ltj (α := Int32) 78 (fun (x32 : Int32) => [some (.ref 76), some (.int x31), none, some (.int x25), none]) (fun (x32 : Int32) => [.int x32]) (fun (x32 : Int32) => (zY0, M2)) ?_ ?_
        · intro x32
          refine z_istore_n 78 (L' := [some (.ref 76), some (.int x31), some (.int x32), some (.int x25), none]) dX11_blamed_78 (by decide) rfl ?_
          refine z_iinc 79 (v := (x25 + (1 : Int32))) (L' := [some (.ref 76), some (.int x31), some (.int x32), some (.int (x25 + (1 : Int32))), none]) dX11_blamed_79 rfl (zinc zci_1 _) (by decide) rfl ?_
          refine z_goto 82 19 dX11_blamed_82 (by decide) ?_
          exact zk_weak (L' := [some (.ref 76), some (.int x31), some (.int x32), some (.int (x25 + (1 : Int32))), none]) (zLe_s (zLe_s (zLe_s (zLe_s (zLe_n zLe_nl))))) (hrec26 (x31, x32, (x25 + (1 : Int32))))
        · intro k33 hk33
          refine z_iclev 69 77 dX11_blamed_69 (by decide) ?_ ?_
          · refine z_iload_n 77 dX11_blamed_77 rfl ?_
            exact zk_weak (L' := [some (.ref 76), some (.int x31), none, some (.int x25), none]) (zLe_s (zLe_s (zLe_n (zLe_s (zLe_n zLe_nl))))) (hk33 x24)
          · refine z_iload 72 dX11_blamed_72 rfl ?_
            refine z_goto 74 78 dX11_blamed_74 (by decide) ?_
            exact zk_weak (L' := [some (.ref 76), some (.int x31), none, some (.int x25), none]) (zLe_s (zLe_s (zLe_n (zLe_s (zLe_n zLe_nl))))) (hk33 x30)
      · intro k34 hk34
        refine z_iclev 57 64 dX11_blamed_57 (by decide) ?_ ?_
        · refine z_iload_n 64 dX11_blamed_64 rfl ?_
          exact zk_weak (L' := [some (.ref 76), none, some (.int x24), some (.int x25), some (.int x30)]) (zLe_s (zLe_n (zLe_s (zLe_s (zLe_s zLe_nl))))) (hk34 x23)
        · refine z_iload_n 60 dX11_blamed_60 rfl ?_
          refine z_goto 61 65 dX11_blamed_61 (by decide) ?_
          exact zk_weak (L' := [some (.ref 76), none, some (.int x24), some (.int x25), some (.int x30)]) (zLe_s (zLe_n (zLe_s (zLe_s (zLe_s zLe_nl))))) (hk34 x25)
    · refine z_icne 33 40 dX11_blamed_33 (by decide) (fun _ => ?_) (fun _ => ?_)
      · refine z_iconst 36 dX11_blamed_36 zci_0 ?_
        refine z_goto 37 52 dX11_blamed_37 (by decide) ?_
        exact zk_exitw (L' := [some (.ref 76), some (.int x23), some (.int x24), some (.int x25), none]) (zLe_s (zLe_s (zLe_s (zLe_s (zLe_n zLe_nl))))) (fun h => h)
      · refine z_aload_n 40 dX11_blamed_40 rfl ?_
        refine z_iload_n 41 dX11_blamed_41 rfl ?_
        refine z_bipush 42 dX11_blamed_42 zbp_8 ?_
        refine z_idivc 44 dX11_blamed_44 (by decide) ?_
        refine z_iload_n 45 dX11_blamed_45 rfl ?_
        refine z_bipush 46 dX11_blamed_46 zbp_8 ?_
        refine z_iremc 48 dX11_blamed_48 (by decide) ?_
        refine z_ci (zat_V2 49 dX11_blamed_49 lk_X11_279 zy_76 rfl rfl ⟨Nat.le_of_ble_eq_true rfl, Nat.le_of_ble_eq_true rfl⟩ (Nat.le_of_ble_eq_true rfl)) (tX11_readAs E (x25 / (8 : Int32)) (zrm_i x25 (8 : Int32)) M2) (fun x35 => ?_)
        exact zk_exitw (L' := [some (.ref 76), some (.int x23), some (.int x24), some (.int x25), none]) (zLe_s (zLe_s (zLe_s (zLe_s (zLe_n zLe_nl))))) (fun h => h)
def fX11_blame (p1 : Int32) (M : zM) : Option (Int32 × zM) :=
  lt (fX11_in p1.toInt64 (0 : Int64) (2 : Int64)) (fun (b1 : Bool) => if b1 = false then (some ((-1 : Int32), M)) else (bi (fX11_blamed M) (fun (x3 : Int32) (M2 : zM) => if x3 = (-4 : Int32) then (some ((-4 : Int32), M2)) else (if p1 = 0 then (some ((x3 / (8 : Int32)), M2)) else (if p1 = (1 : Int32) then (some ((zrm_i x3 (8 : Int32)), M2)) else (sq (fX11_readAs (x3 / (8 : Int32)) (zrm_i x3 (8 : Int32)) M2) (fun (x4 : Int32) => some (x4, M2))))))))
set_option maxHeartbeats 4000000 in
set_option maxRecDepth 100000 in
theorem tX11_blame (E : zE) (p1 : Int32) (M : zM) : zFI E mX11_blame [.ref 76, .int p1] zY0 M (fX11_blame p1 M) := by
  refine zF_of (L := [some (.ref 76), some (.int p1), none]) plX11 (Nat.le_of_ble_eq_true rfl) rfl (fun post => ?_)
  unfold fX11_blame
  refine z_iload_n 0 dX11_blame_0 rfl ?_
  refine z_i2l 1 dX11_blame_1 ?_
  refine z_lconst 2 dX11_blame_2 zlc_0 ?_
  refine z_ldc2 3 dX11_blame_3 cw_X11_185 ?_
  refine z_ctb (zat_S3 6 dX11_blame_6 lk_X11_85 ⟨Nat.le_of_ble_eq_true rfl, Nat.le_of_ble_eq_true rfl⟩ (Nat.le_of_ble_eq_true rfl)) (tX11_in E zY0 p1.toInt64 (0 : Int64) (2 : Int64) M) (fun b1 => ?_)
  refine z_ifneb 9 14 dX11_blame_9 (by decide) (fun _ => ?_) (fun _ => ?_)
  · refine z_iconst 12 dX11_blame_12 zci_m1 ?_
    exact z_ireturn 13 dX11_blame_13 rfl rfl (fun h => h)
  · refine z_aload_n 14 dX11_blame_14 rfl ?_
    refine z_cI (zat_V0 15 dX11_blame_15 lk_X11_282 zy_76 rfl rfl ⟨Nat.le_of_ble_eq_true rfl, Nat.le_of_ble_eq_true rfl⟩ (Nat.le_of_ble_eq_true rfl)) (tX11_blamed E M) (fun x3 M2 => ?_)
    refine z_istore_n 18 (L' := [some (.ref 76), some (.int p1), some (.int x3)]) dX11_blame_18 (by decide) rfl ?_
    refine z_iload_n 19 dX11_blame_19 rfl ?_
    refine z_bipush 20 dX11_blame_20 zbp_m4 ?_
    refine z_icne 22 30 dX11_blame_22 (by decide) (fun _ => ?_) (fun _ => ?_)
    · refine z_bipush 25 dX11_blame_25 zbp_m4 ?_
      refine z_goto 27 65 dX11_blame_27 (by decide) ?_
      exact z_ireturn 65 dX11_blame_65 rfl rfl (fun h => h)
    · refine z_iload_n 30 dX11_blame_30 rfl ?_
      refine z_ifne 31 41 dX11_blame_31 (by decide) (fun _ => ?_) (fun _ => ?_)
      · refine z_iload_n 34 dX11_blame_34 rfl ?_
        refine z_bipush 35 dX11_blame_35 zbp_8 ?_
        refine z_idivc 37 dX11_blame_37 (by decide) ?_
        refine z_goto 38 65 dX11_blame_38 (by decide) ?_
        exact z_ireturn 65 dX11_blame_65 rfl rfl (fun h => h)
      · refine z_iload_n 41 dX11_blame_41 rfl ?_
        refine z_iconst 42 dX11_blame_42 zci_1 ?_
        refine z_icne 43 53 dX11_blame_43 (by decide) (fun _ => ?_) (fun _ => ?_)
        · refine z_iload_n 46 dX11_blame_46 rfl ?_
          refine z_bipush 47 dX11_blame_47 zbp_8 ?_
          refine z_iremc 49 dX11_blame_49 (by decide) ?_
          refine z_goto 50 65 dX11_blame_50 (by decide) ?_
          exact z_ireturn 65 dX11_blame_65 rfl rfl (fun h => h)
        · refine z_aload_n 53 dX11_blame_53 rfl ?_
          refine z_iload_n 54 dX11_blame_54 rfl ?_
          refine z_bipush 55 dX11_blame_55 zbp_8 ?_
          refine z_idivc 57 dX11_blame_57 (by decide) ?_
          refine z_iload_n 58 dX11_blame_58 rfl ?_
          refine z_bipush 59 dX11_blame_59 zbp_8 ?_
          refine z_iremc 61 dX11_blame_61 (by decide) ?_
          refine z_ci (zat_V2 62 dX11_blame_62 lk_X11_279 zy_76 rfl rfl ⟨Nat.le_of_ble_eq_true rfl, Nat.le_of_ble_eq_true rfl⟩ (Nat.le_of_ble_eq_true rfl)) (tX11_readAs E (x3 / (8 : Int32)) (zrm_i x3 (8 : Int32)) M2) (fun x4 => ?_)
          exact z_ireturn 65 dX11_blame_65 rfl rfl (fun h => h)
def fX11_learn (p1 : Int32) (M : zM) : Option (Int32 × zM) :=
  lt (fX11_in p1.toInt64 (0 : Int64) (50 : Int64)) (fun (b1 : Bool) => if b1 = false then (some ((-1 : Int32), M)) else (bi (fX11_blamed M) (fun (x3 : Int32) (M2 : zM) => if x3 = (-4 : Int32) then (some ((-2 : Int32), M2)) else (grd (zix x3 660) (sq (α := Int32) (if (M2.1 84 (zn x3)) = 0 then (some (-4 : Int32)) else (grd (zix x3 660) (some ((M2.1 84 (zn x3)) - (1 : Int32))))) (fun (x4 : Int32) => grd (zix x3 660) (lt (zwI M2 84 (zn x3) (p1 + (1 : Int32))) (fun (M5 : zM) => some (x4, M5)))))))))
set_option maxHeartbeats 4000000 in
set_option maxRecDepth 100000 in
theorem tX11_learn (E : zE) (p1 : Int32) (M : zM) : zFI E mX11_learn [.ref 76, .int p1] zY0 M (fX11_learn p1 M) := by
  refine zF_of (L := [some (.ref 76), some (.int p1), none, none]) plX11 (Nat.le_of_ble_eq_true rfl) rfl (fun post => ?_)
  unfold fX11_learn
  refine z_iload_n 0 dX11_learn_0 rfl ?_
  refine z_i2l 1 dX11_learn_1 ?_
  refine z_lconst 2 dX11_learn_2 zlc_0 ?_
  refine z_ldc2 3 dX11_learn_3 cw_X11_285 ?_
  refine z_ctb (zat_S3 6 dX11_learn_6 lk_X11_85 ⟨Nat.le_of_ble_eq_true rfl, Nat.le_of_ble_eq_true rfl⟩ (Nat.le_of_ble_eq_true rfl)) (tX11_in E zY0 p1.toInt64 (0 : Int64) (50 : Int64) M) (fun b1 => ?_)
  refine z_ifneb 9 14 dX11_learn_9 (by decide) (fun _ => ?_) (fun _ => ?_)
  · refine z_iconst 12 dX11_learn_12 zci_m1 ?_
    exact z_ireturn 13 dX11_learn_13 rfl rfl (fun h => h)
  · refine z_aload_n 14 dX11_learn_14 rfl ?_
    refine z_cI (zat_V0 15 dX11_learn_15 lk_X11_282 zy_76 rfl rfl ⟨Nat.le_of_ble_eq_true rfl, Nat.le_of_ble_eq_true rfl⟩ (Nat.le_of_ble_eq_true rfl)) (tX11_blamed E M) (fun x3 M2 => ?_)
    refine z_istore_n 18 (L' := [some (.ref 76), some (.int p1), some (.int x3), none]) dX11_learn_18 (by decide) rfl ?_
    refine z_iload_n 19 dX11_learn_19 rfl ?_
    refine z_bipush 20 dX11_learn_20 zbp_m4 ?_
    refine z_icne 22 28 dX11_learn_22 (by decide) (fun _ => ?_) (fun _ => ?_)
    · refine z_bipush 25 dX11_learn_25 zbp_m2 ?_
      exact z_ireturn 27 dX11_learn_27 rfl rfl (fun h => h)
    · refine z_aload_n 28 dX11_learn_28 rfl ?_
      refine z_getR 29 (r := 84) dX11_learn_29 fl_X11_31 zy_76 rfl ?_
      refine z_iload_n 32 dX11_learn_32 rfl ?_
      refine z_iaload 33 dX11_learn_33 zy_84 ?_
      refine zk_sqj (α := Int32) 50 (fun (x4 : Int32) => [some (.ref 76), some (.int p1), some (.int x3), none]) (fun (x4 : Int32) => [.int x4]) (fun (x4 : Int32) => (zY0, M2)) ?_ ?_
      · intro x4
        refine z_istore_n 50 (L' := [some (.ref 76), some (.int p1), some (.int x3), some (.int x4)]) dX11_learn_50 (by decide) rfl ?_
        refine z_aload_n 51 dX11_learn_51 rfl ?_
        refine z_getR 52 (r := 84) dX11_learn_52 fl_X11_31 zy_76 rfl ?_
        refine z_iload_n 55 dX11_learn_55 rfl ?_
        refine z_iload_n 56 dX11_learn_56 rfl ?_
        refine z_iconst 57 dX11_learn_57 zci_1 ?_
        refine z_iadd 58 dX11_learn_58 ?_
        refine z_iastore 59 dX11_learn_59 zy_84 ?_
        refine zk_nmM (fun M5 => ?_)
        refine z_iload_n 60 dX11_learn_60 rfl ?_
        exact z_ireturn 61 dX11_learn_61 rfl rfl (fun h => h)
      · refine z_ifne 34 42 dX11_learn_34 (by decide) (fun _ => ?_) (fun _ => ?_)
        · refine z_bipush 37 dX11_learn_37 zbp_m4 ?_
          refine z_goto 39 50 dX11_learn_39 (by decide) ?_
          exact zk_exitw (L' := [some (.ref 76), some (.int p1), some (.int x3), none]) (zLe_s (zLe_s (zLe_s (zLe_n zLe_nl)))) (fun h => h)
        · refine z_aload_n 42 dX11_learn_42 rfl ?_
          refine z_getR 43 (r := 84) dX11_learn_43 fl_X11_31 zy_76 rfl ?_
          refine z_iload_n 46 dX11_learn_46 rfl ?_
          refine z_iaload 47 dX11_learn_47 zy_84 ?_
          refine z_iconst 48 dX11_learn_48 zci_1 ?_
          refine z_isub 49 dX11_learn_49 ?_
          exact zk_exitw (L' := [some (.ref 76), some (.int p1), some (.int x3), none]) (zLe_s (zLe_s (zLe_s (zLe_n zLe_nl)))) (fun h => h)
def fX11_enough (p1 : Int32) (M : zM) : Option (Int32 × zM) :=
  lt (fX11_in p1.toInt64 (0 : Int64) (1 : Int64)) (fun (b1 : Bool) => if b1 = false then (some ((-1 : Int32), M)) else (sq (fX11_layAll M) (fun (M2 : zM) => sq (fX11_layFirst 91 M2) (fun (M3 : zM) => sq (α := Int32 × zM) (zlp (α := Int32 × Int32 × zM) (β := Int32 × zM) (fun rec48 => (fun (u107 : Int32 × Int32 × zM) => match u107 with | (x45, x46, M47) => if (15 : Int32) < x46 then (some (x45, M47)) else (sq (α := Int32 × zM) (jn (α := Unit) (fun (_ : Unit) => sq (fX11_layCosts x46 M47) (fun (M83 : zM) => sq (fX11_layPairings (0 : Int32) (0 : Int32) (0 : Int32) M83) (fun (M84 : zM) => sq (fX11_layFirst 92 M84) (fun (M85 : zM) => grd (zix (0 : Int32) 11264) (lt (if (M85.2 88 (zn (0 : Int32))) = (1 : Int64) then (true) else (false)) (fun (b86 : Bool) => sq (α := Bool) (zlp (α := Bool × Int32) (β := Bool) (fun rec89 => (fun (u98 : Bool × Int32) => match u98 with | (b87, x88) => if (10 : Int32) ≤ x88 then (some b87) else (sq (α := Bool) (jn (α := Unit) (fun (_ : Unit) => some false) (fun k95 => if b87 = false then (k95 ()) else (grd (zix x88 10) (grd (zix x88 10) (if (M85.1 91 (zn x88)) = (M85.1 92 (zn x88)) then (some true) else (k95 ())))))) (fun (b94 : Bool) => rec89 (b94, (x88 + (1 : Int32))))))) zFu (b86, (0 : Int32))) (fun (b92 : Bool) => lt (if b92 = false then (x45) else (x46)) (fun (x96 : Int32) => some (x96, M85))))))))) (fun k101 => if x45 = (-4 : Int32) then (k101 ()) else (sq (fX11_bitsOf x46) (fun (x102 : Int32) => sq (fX11_bitsOf x45) (fun (x103 : Int32) => if x103 ≤ x102 then (some (x45, M47)) else (k101 ())))))) (fun (u104 : Int32 × zM) => match u104 with | (x76, M77) => rec48 (x76, (x46 + (1 : Int32)), M77))))) zFu ((-4 : Int32), (0 : Int32), M3)) (fun (u108 : Int32 × zM) => match u108 with | (x51, M52) => if x51 = (-4 : Int32) then (some ((-4 : Int32), M52)) else (if p1 = 0 then (sq (fX11_bitsOf x51) (fun (x106 : Int32) => some (x106, M52))) else (some (x51, M52))))))))
set_option maxHeartbeats 4000000 in
set_option maxRecDepth 100000 in
theorem tX11_enough (E : zE) (p1 : Int32) (M : zM) : zFI E mX11_enough [.ref 76, .int p1] zY0 M (fX11_enough p1 M) := by
  refine zF_of (L := [some (.ref 76), some (.int p1), none, none, none, none]) plX11 (Nat.le_of_ble_eq_true rfl) rfl (fun post => ?_)
  unfold fX11_enough
  refine z_iload_n 0 dX11_enough_0 rfl ?_
  refine z_i2l 1 dX11_enough_1 ?_
  refine z_lconst 2 dX11_enough_2 zlc_0 ?_
  refine z_lconst 3 dX11_enough_3 zlc_1 ?_
  refine z_ctb (zat_S3 4 dX11_enough_4 lk_X11_85 ⟨Nat.le_of_ble_eq_true rfl, Nat.le_of_ble_eq_true rfl⟩ (Nat.le_of_ble_eq_true rfl)) (tX11_in E zY0 p1.toInt64 (0 : Int64) (1 : Int64) M) (fun b1 => ?_)
  refine z_ifneb 7 12 dX11_enough_7 (by decide) (fun _ => ?_) (fun _ => ?_)
  · refine z_iconst 10 dX11_enough_10 zci_m1 ?_
    exact z_ireturn 11 dX11_enough_11 rfl rfl (fun h => h)
  · refine z_aload_n 12 dX11_enough_12 rfl ?_
    refine z_cV (zat_V0 13 dX11_enough_13 lk_X11_242 zy_76 rfl rfl ⟨Nat.le_of_ble_eq_true rfl, Nat.le_of_ble_eq_true rfl⟩ (Nat.le_of_ble_eq_true rfl)) (tX11_layAll E M) (fun M2 => ?_)
    refine z_aload_n 16 dX11_enough_16 rfl ?_
    refine z_aload_n 17 dX11_enough_17 rfl ?_
    refine z_getR 18 (r := 91) dX11_enough_18 fl_X11_53 zy_76 rfl ?_
    refine z_cV (zat_V1 21 dX11_enough_21 lk_X11_245 zy_76 rfl rfl ⟨Nat.le_of_ble_eq_true rfl, Nat.le_of_ble_eq_true rfl⟩ (Nat.le_of_ble_eq_true rfl)) (tX11_layFirst E 91 zy_91 M2) (fun M3 => ?_)
    refine z_bipush 24 dX11_enough_24 zbp_m4 ?_
    refine z_istore_n 26 (L' := [some (.ref 76), some (.int p1), some (.int (-4 : Int32)), none, none, none]) dX11_enough_26 (by decide) rfl ?_
    refine z_iconst 27 dX11_enough_27 zci_0 ?_
    refine z_istore_n 28 (L' := [some (.ref 76), some (.int p1), some (.int (-4 : Int32)), some (.int (0 : Int32)), none, none]) dX11_enough_28 (by decide) rfl ?_
    refine zk_sqj (α := Int32 × zM) 152 (fun (u109 : Int32 × zM) => match u109 with | (x51, M52) => [none, some (.int p1), some (.int x51), none, none, none]) (fun (u110 : Int32 × zM) => match u110 with | (x51, M52) => []) (fun (u111 : Int32 × zM) => match u111 with | (x51, M52) => (zY0, M52)) ?_ ?_
    · intro u112
      obtain ⟨x51, M52⟩ := u112
      try dsimp only
      refine z_iload_n 152 dX11_enough_152 rfl ?_
      refine z_bipush 153 dX11_enough_153 zbp_m4 ?_
      refine z_icne 155 163 dX11_enough_155 (by decide) (fun _ => ?_) (fun _ => ?_)
      · refine z_bipush 158 dX11_enough_158 zbp_m4 ?_
        refine z_goto 160 175 dX11_enough_160 (by decide) ?_
        exact z_ireturn 175 dX11_enough_175 rfl rfl (fun h => h)
      · refine z_iload_n 163 dX11_enough_163 rfl ?_
        refine z_ifne 164 174 dX11_enough_164 (by decide) (fun _ => ?_) (fun _ => ?_)
        · refine z_iload_n 167 dX11_enough_167 rfl ?_
          refine z_ci (zat_S1 168 dX11_enough_168 lk_X11_219 ⟨Nat.le_of_ble_eq_true rfl, Nat.le_of_ble_eq_true rfl⟩ (Nat.le_of_ble_eq_true rfl)) (tX11_bitsOf E zY0 x51 M52) (fun x106 => ?_)
          refine z_goto 171 175 dX11_enough_171 (by decide) ?_
          exact z_ireturn 175 dX11_enough_175 rfl rfl (fun h => h)
        · refine z_iload_n 174 dX11_enough_174 rfl ?_
          exact z_ireturn 175 dX11_enough_175 rfl rfl (fun h => h)
    · refine zk_weak (L' := [some (.ref 76), some (.int p1), some (.int (-4 : Int32)), some (.int (0 : Int32)), none, none]) (zLe_s (zLe_s (zLe_s (zLe_s (zLe_n (zLe_n zLe_nl)))))) (zk_lp (α := Int32 × Int32 × zM) 29 (fun (u49 : Int32 × Int32 × zM) => match u49 with | (x45, x46, M47) => [some (.ref 76), some (.int p1), some (.int x45), some (.int x46), none, none]) (fun (u50 : Int32 × Int32 × zM) => match u50 with | (x45, x46, M47) => (zY0, M47)) ?_ zFu ((-4 : Int32), (0 : Int32), M3))
      intro rec48 hrec48
      intro u113
      obtain ⟨x45, x46, M47⟩ := u113
      try dsimp only
      refine z_iload_n 29 dX11_enough_29 rfl ?_
      refine z_bipush 30 dX11_enough_30 zbp_15 ?_
      refine z_icgt 32 152 dX11_enough_32 (by decide) (fun _ => ?_) (fun _ => ?_)
      · exact zk_exitw (L' := [none, some (.int p1), some (.int x45), none, none, none]) (zLe_n (zLe_s (zLe_s (zLe_n (zLe_n (zLe_n zLe_nl)))))) (fun h => h)
      · refine z_iload_n 35 dX11_enough_35 rfl ?_
        refine z_bipush 36 dX11_enough_36 zbp_m4 ?_
        refine zk_sqj (α := Int32 × zM) 146 (fun (u78 : Int32 × zM) => match u78 with | (x76, M77) => [some (.ref 76), some (.int p1), some (.int x76), some (.int x46), none, none]) (fun (u79 : Int32 × zM) => match u79 with | (x76, M77) => []) (fun (u80 : Int32 × zM) => match u80 with | (x76, M77) => (zY0, M77)) ?_ ?_
        · intro u105
          obtain ⟨x76, M77⟩ := u105
          try dsimp only
          refine z_iinc 146 (v := (x46 + (1 : Int32))) (L' := [some (.ref 76), some (.int p1), some (.int x76), some (.int (x46 + (1 : Int32))), none, none]) dX11_enough_146 rfl (zinc zci_1 _) (by decide) rfl ?_
          refine z_goto 149 29 dX11_enough_149 (by decide) ?_
          exact zk_weak (L' := [some (.ref 76), some (.int p1), some (.int x76), some (.int (x46 + (1 : Int32))), none, none]) (zLe_s (zLe_s (zLe_s (zLe_s (zLe_n (zLe_n zLe_nl)))))) (hrec48 (x76, (x46 + (1 : Int32)), M77))
        · refine zk_jn (α := Unit) 52 (fun (_ : Unit) => [some (.ref 76), some (.int p1), some (.int x45), some (.int x46), none, none]) (fun (_ : Unit) => []) (fun (_ : Unit) => (zY0, M47)) ?_ ?_
          · intro _
            refine z_aload_n 52 dX11_enough_52 rfl ?_
            refine z_iload_n 53 dX11_enough_53 rfl ?_
            refine z_cV (zat_V1 54 dX11_enough_54 lk_X11_233 zy_76 rfl rfl ⟨Nat.le_of_ble_eq_true rfl, Nat.le_of_ble_eq_true rfl⟩ (Nat.le_of_ble_eq_true rfl)) (tX11_layCosts E x46 M47) (fun M83 => ?_)
            refine z_aload_n 57 dX11_enough_57 rfl ?_
            refine z_iconst 58 dX11_enough_58 zci_0 ?_
            refine z_iconst 59 dX11_enough_59 zci_0 ?_
            refine z_iconst 60 dX11_enough_60 zci_0 ?_
            refine z_cV (zat_V3 61 dX11_enough_61 lk_X11_236 zy_76 rfl rfl ⟨Nat.le_of_ble_eq_true rfl, Nat.le_of_ble_eq_true rfl⟩ (Nat.le_of_ble_eq_true rfl)) (tX11_layPairings E (0 : Int32) (0 : Int32) (0 : Int32) M83) (fun M84 => ?_)
            refine z_aload_n 64 dX11_enough_64 rfl ?_
            refine z_aload_n 65 dX11_enough_65 rfl ?_
            refine z_getR 66 (r := 92) dX11_enough_66 fl_X11_56 zy_76 rfl ?_
            refine z_cV (zat_V1 69 dX11_enough_69 lk_X11_245 zy_76 rfl rfl ⟨Nat.le_of_ble_eq_true rfl, Nat.le_of_ble_eq_true rfl⟩ (Nat.le_of_ble_eq_true rfl)) (tX11_layFirst E 92 zy_92 M84) (fun M85 => ?_)
            refine z_aload_n 72 dX11_enough_72 rfl ?_
            refine z_getR 73 (r := 88) dX11_enough_73 fl_X11_44 zy_76 rfl ?_
            refine z_iconst 76 dX11_enough_76 zci_0 ?_
            refine z_laload 77 dX11_enough_77 zy_88 ?_
            refine z_lconst 78 dX11_enough_78 zlc_1 ?_
            refine z_lcmp 79 dX11_enough_79 ?_
            refine zk_ltj (α := Bool) 88 (fun (b86 : Bool) => [some (.ref 76), some (.int p1), some (.int x45), some (.int x46), none, none]) (fun (b86 : Bool) => [.int (zb b86)]) (fun (b86 : Bool) => (zY0, M85)) ?_ ?_
            · intro b86
              refine z_istore 88 (L' := [some (.ref 76), some (.int p1), some (.int x45), some (.int x46), some (.int (zb b86)), none]) dX11_enough_88 (by decide) rfl ?_
              refine z_iconst 90 dX11_enough_90 zci_0 ?_
              refine z_istore 91 (L' := [some (.ref 76), some (.int p1), some (.int x45), some (.int x46), some (.int (zb b86)), some (.int (0 : Int32))]) dX11_enough_91 (by decide) rfl ?_
              refine zk_sqj (α := Bool) 135 (fun (b92 : Bool) => [some (.ref 76), some (.int p1), some (.int x45), some (.int x46), some (.int (zb b92)), none]) (fun (b92 : Bool) => []) (fun (b92 : Bool) => (zY0, M85)) ?_ ?_
              · intro b92
                refine z_iload 135 dX11_enough_135 rfl ?_
                refine zk_ltj (α := Int32) 145 (fun (x96 : Int32) => [some (.ref 76), some (.int p1), none, some (.int x46), none, none]) (fun (x96 : Int32) => [.int x96]) (fun (x96 : Int32) => (zY0, M85)) ?_ ?_
                · intro x96
                  refine z_istore_n 145 (L' := [some (.ref 76), some (.int p1), some (.int x96), some (.int x46), none, none]) dX11_enough_145 (by decide) rfl ?_
                  exact zk_exitw (L' := [some (.ref 76), some (.int p1), some (.int x96), some (.int x46), none, none]) (zLe_s (zLe_s (zLe_s (zLe_s (zLe_n (zLe_n zLe_nl)))))) (fun h => h)
                · intro k97 hk97
                  refine z_ifeqbv 137 144 dX11_enough_137 (by decide) ?_ ?_
                  · refine z_iload_n 144 dX11_enough_144 rfl ?_
                    exact zk_weak (L' := [some (.ref 76), some (.int p1), none, some (.int x46), none, none]) (zLe_s (zLe_s (zLe_n (zLe_s (zLe_n (zLe_n zLe_nl)))))) (hk97 x45)
                  · refine z_iload_n 140 dX11_enough_140 rfl ?_
                    refine z_goto 141 145 dX11_enough_141 (by decide) ?_
                    exact zk_weak (L' := [some (.ref 76), some (.int p1), none, some (.int x46), none, none]) (zLe_s (zLe_s (zLe_n (zLe_s (zLe_n (zLe_n zLe_nl)))))) (hk97 x46)
              · refine zk_weak (L' := [some (.ref 76), some (.int p1), some (.int x45), some (.int x46), some (.int (zb b86)), some (.int (0 : Int32))]) (zLe_s (zLe_s (zLe_s (zLe_s (zLe_s (zLe_s zLe_nl)))))) (zk_lp (α := Bool × Int32) 93 (fun (u90 : Bool × Int32) => match u90 with | (b87, x88) => [some (.ref 76), some (.int p1), some (.int x45), some (.int x46), some (.int (zb b87)), some (.int x88)]) (fun (u91 : Bool × Int32) => match u91 with | (b87, x88) => (zY0, M85)) ?_ zFu (b86, (0 : Int32)))
                intro rec89 hrec89
                intro u99
                obtain ⟨b87, x88⟩ := u99
                try dsimp only
                refine z_iload 93 dX11_enough_93 rfl ?_
                refine z_bipush 95 dX11_enough_95 zbp_10 ?_
                refine z_icge 97 135 dX11_enough_97 (by decide) (fun _ => ?_) (fun _ => ?_)
                · exact zk_exitw (L' := [some (.ref 76), some (.int p1), some (.int x45), some (.int x46), some (.int (zb b87)), none]) (zLe_s (zLe_s (zLe_s (zLe_s (zLe_s (zLe_n zLe_nl)))))) (fun h => h)
                · refine z_iload 100 dX11_enough_100 rfl ?_
                  refine zk_sqj (α := Bool) 127 (fun (b94 : Bool) => [some (.ref 76), some (.int p1), some (.int x45), some (.int x46), none, some (.int x88)]) (fun (b94 : Bool) => [.int (zb b94)]) (fun (b94 : Bool) => (zY0, M85)) ?_ ?_
                  · intro b94
                    refine z_istore 127 (L' := [some (.ref 76), some (.int p1), some (.int x45), some (.int x46), some (.int (zb b94)), some (.int x88)]) dX11_enough_127 (by decide) rfl ?_
                    refine z_iinc 129 (v := (x88 + (1 : Int32))) (L' := [some (.ref 76), some (.int p1), some (.int x45), some (.int x46), some (.int (zb b94)), some (.int (x88 + (1 : Int32)))]) dX11_enough_129 rfl (zinc zci_1 _) (by decide) rfl ?_
                    refine z_goto 132 93 dX11_enough_132 (by decide) ?_
                    exact zk_weak (L' := [some (.ref 76), some (.int p1), some (.int x45), some (.int x46), some (.int (zb b94)), some (.int (x88 + (1 : Int32)))]) (zLe_s (zLe_s (zLe_s (zLe_s (zLe_s (zLe_s zLe_nl)))))) (hrec89 (b94, (x88 + (1 : Int32))))
                  · refine zk_jn (α := Unit) 126 (fun (_ : Unit) => [some (.ref 76), some (.int p1), some (.int x45), some (.int x46), none, some (.int x88)]) (fun (_ : Unit) => []) (fun (_ : Unit) => (zY0, M85)) ?_ ?_
                    · intro _
                      refine z_iconst 126 dX11_enough_126 zci_0 ?_
                      exact zk_exitw (L' := [some (.ref 76), some (.int p1), some (.int x45), some (.int x46), none, some (.int x88)]) (zLe_s (zLe_s (zLe_s (zLe_s (zLe_n (zLe_s zLe_nl)))))) (fun h => h)
                    · intro k95 hk95
                      refine z_ifeqb 102 126 dX11_enough_102 (by decide) (fun _ => ?_) (fun _ => ?_)
                      · exact zk_weak (L' := [some (.ref 76), some (.int p1), some (.int x45), some (.int x46), none, some (.int x88)]) (zLe_s (zLe_s (zLe_s (zLe_s (zLe_n (zLe_s zLe_nl)))))) (hk95 ())
                      · refine z_aload_n 105 dX11_enough_105 rfl ?_
                        refine z_getR 106 (r := 91) dX11_enough_106 fl_X11_53 zy_76 rfl ?_
                        refine z_iload 109 dX11_enough_109 rfl ?_
                        refine z_iaload 111 dX11_enough_111 zy_91 ?_
                        refine z_aload_n 112 dX11_enough_112 rfl ?_
                        refine z_getR 113 (r := 92) dX11_enough_113 fl_X11_56 zy_76 rfl ?_
                        refine z_iload 116 dX11_enough_116 rfl ?_
                        refine z_iaload 118 dX11_enough_118 zy_92 ?_
                        refine z_icne 119 126 dX11_enough_119 (by decide) (fun _ => ?_) (fun _ => ?_)
                        · refine z_iconst 122 dX11_enough_122 zci_1 ?_
                          refine z_goto 123 127 dX11_enough_123 (by decide) ?_
                          exact zk_exitw (L' := [some (.ref 76), some (.int p1), some (.int x45), some (.int x46), none, some (.int x88)]) (zLe_s (zLe_s (zLe_s (zLe_s (zLe_n (zLe_s zLe_nl)))))) (fun h => h)
                        · exact zk_weak (L' := [some (.ref 76), some (.int p1), some (.int x45), some (.int x46), none, some (.int x88)]) (zLe_s (zLe_s (zLe_s (zLe_s (zLe_n (zLe_s zLe_nl)))))) (hk95 ())
            · intro k100 hk100
              refine z_lcnev 80 87 dX11_enough_80 (by decide) ?_ ?_
              · refine z_iconst 83 dX11_enough_83 zci_1 ?_
                refine z_goto 84 88 dX11_enough_84 (by decide) ?_
                exact zk_weak (L' := [some (.ref 76), some (.int p1), some (.int x45), some (.int x46), none, none]) (zLe_s (zLe_s (zLe_s (zLe_s (zLe_n (zLe_n zLe_nl)))))) (hk100 true)
              · refine z_iconst 87 dX11_enough_87 zci_0 ?_
                exact zk_weak (L' := [some (.ref 76), some (.int p1), some (.int x45), some (.int x46), none, none]) (zLe_s (zLe_s (zLe_s (zLe_s (zLe_n (zLe_n zLe_nl)))))) (hk100 false)
          · intro k101 hk101
            refine z_iceq 38 52 dX11_enough_38 (by decide) (fun _ => ?_) (fun _ => ?_)
            · exact zk_weak (L' := [some (.ref 76), some (.int p1), some (.int x45), some (.int x46), none, none]) (zLe_s (zLe_s (zLe_s (zLe_s (zLe_n (zLe_n zLe_nl)))))) (hk101 ())
            · refine z_iload_n 41 dX11_enough_41 rfl ?_
              refine z_ci (zat_S1 42 dX11_enough_42 lk_X11_219 ⟨Nat.le_of_ble_eq_true rfl, Nat.le_of_ble_eq_true rfl⟩ (Nat.le_of_ble_eq_true rfl)) (tX11_bitsOf E zY0 x46 M47) (fun x102 => ?_)
              refine z_iload_n 45 dX11_enough_45 rfl ?_
              refine z_ci (zat_S1 46 dX11_enough_46 lk_X11_219 ⟨Nat.le_of_ble_eq_true rfl, Nat.le_of_ble_eq_true rfl⟩ (Nat.le_of_ble_eq_true rfl)) (tX11_bitsOf E zY0 x45 M47) (fun x103 => ?_)
              refine z_icge 49 146 dX11_enough_49 (by decide) (fun _ => ?_) (fun _ => ?_)
              · exact zk_exitw (L' := [some (.ref 76), some (.int p1), some (.int x45), some (.int x46), none, none]) (zLe_s (zLe_s (zLe_s (zLe_s (zLe_n (zLe_n zLe_nl)))))) (fun h => h)
              · exact zk_weak (L' := [some (.ref 76), some (.int p1), some (.int x45), some (.int x46), none, none]) (zLe_s (zLe_s (zLe_s (zLe_s (zLe_n (zLe_n zLe_nl)))))) (hk101 ())
def fX11_areOne (p1 : Int32) (p2 : Int32) (p3 : Int32) (M : zM) : Option Bool :=
  sq (fX11_its p1 p2 (5 : Int32) M) (fun (x1 : Int32) => sq (fX11_its p1 p3 (5 : Int32) M) (fun (x2 : Int32) => lt (fX11_areUnlike x1 x2) (fun (b3 : Bool) => lt (if b3 = false then (true) else (false)) (fun (b4 : Bool) => zlp (α := Bool × Int32) (fun rec22 => (fun (u42 : Bool × Int32) => match u42 with | (b20, x21) => if (4 : Int32) < x21 then (some b20) else (sq (fX11_its p1 p2 x21 M) (fun (x25 : Int32) => sq (fX11_its p1 p3 x21 M) (fun (x26 : Int32) => sq (α := Bool) (jn (α := Unit) (fun (_ : Unit) => some false) (fun k38 => if b20 = false then (k38 ()) else (jn (α := Unit) (fun (_ : Unit) => some true) (fun k40 => if x25 = 0 then (k40 ()) else (if x26 = 0 then (k40 ()) else (lt (fX11_isDoubt x25 x26) (fun (b41 : Bool) => if b41 = false then (if x25 = x26 then (k40 ()) else (k38 ())) else (k40 ())))))))) (fun (b34 : Bool) => rec22 (b34, (x21 + (1 : Int32))))))))) zFu (b4, (1 : Int32))))))
set_option maxHeartbeats 4000000 in
set_option maxRecDepth 100000 in
theorem tX11_areOne (E : zE) (p1 : Int32) (p2 : Int32) (p3 : Int32) (M : zM) : zFb E mX11_areOne [.ref 76, .int p1, .int p2, .int p3] zY0 M (fX11_areOne p1 p2 p3 M) := by
  refine zF_of (L := [some (.ref 76), some (.int p1), some (.int p2), some (.int p3), none, none, none, none]) plX11 (Nat.le_of_ble_eq_true rfl) rfl (fun post => ?_)
  unfold fX11_areOne
  refine z_aload_n 0 dX11_areOne_0 rfl ?_
  refine z_iload_n 1 dX11_areOne_1 rfl ?_
  refine z_iload_n 2 dX11_areOne_2 rfl ?_
  refine z_iconst 3 dX11_areOne_3 zci_5 ?_
  refine z_ci (zat_V3 4 dX11_areOne_4 lk_X11_181 zy_76 rfl rfl ⟨Nat.le_of_ble_eq_true rfl, Nat.le_of_ble_eq_true rfl⟩ (Nat.le_of_ble_eq_true rfl)) (tX11_its E p1 p2 (5 : Int32) M) (fun x1 => ?_)
  refine z_aload_n 7 dX11_areOne_7 rfl ?_
  refine z_iload_n 8 dX11_areOne_8 rfl ?_
  refine z_iload_n 9 dX11_areOne_9 rfl ?_
  refine z_iconst 10 dX11_areOne_10 zci_5 ?_
  refine z_ci (zat_V3 11 dX11_areOne_11 lk_X11_181 zy_76 rfl rfl ⟨Nat.le_of_ble_eq_true rfl, Nat.le_of_ble_eq_true rfl⟩ (Nat.le_of_ble_eq_true rfl)) (tX11_its E p1 p3 (5 : Int32) M) (fun x2 => ?_)
  refine z_ctb (zat_S2 14 dX11_areOne_14 lk_X11_213 ⟨Nat.le_of_ble_eq_true rfl, Nat.le_of_ble_eq_true rfl⟩ (Nat.le_of_ble_eq_true rfl)) (tX11_areUnlike E zY0 x1 x2 M) (fun b3 => ?_)
  refine zk_ltj (α := Bool) 25 (fun (b4 : Bool) => [some (.ref 76), some (.int p1), some (.int p2), some (.int p3), none, none, none, none]) (fun (b4 : Bool) => [.int (zb b4)]) (fun (b4 : Bool) => (zY0, M)) ?_ ?_
  · intro b4
    refine z_istore 25 (L' := [some (.ref 76), some (.int p1), some (.int p2), some (.int p3), some (.int (zb b4)), none, none, none]) dX11_areOne_25 (by decide) rfl ?_
    refine z_iconst 27 dX11_areOne_27 zci_1 ?_
    refine z_istore 28 (L' := [some (.ref 76), some (.int p1), some (.int p2), some (.int p3), some (.int (zb b4)), some (.int (1 : Int32)), none, none]) dX11_areOne_28 (by decide) rfl ?_
    refine zk_weak (L' := [some (.ref 76), some (.int p1), some (.int p2), some (.int p3), some (.int (zb b4)), some (.int (1 : Int32)), none, none]) (zLe_s (zLe_s (zLe_s (zLe_s (zLe_s (zLe_s (zLe_n (zLe_n zLe_nl)))))))) (zk_lp (α := Bool × Int32) 30 (fun (u23 : Bool × Int32) => match u23 with | (b20, x21) => [some (.ref 76), some (.int p1), some (.int p2), some (.int p3), some (.int (zb b20)), some (.int x21), none, none]) (fun (u24 : Bool × Int32) => match u24 with | (b20, x21) => (zY0, M)) ?_ zFu (b4, (1 : Int32)))
    intro rec22 hrec22
    intro u43
    obtain ⟨b20, x21⟩ := u43
    try dsimp only
    refine z_iload 30 dX11_areOne_30 rfl ?_
    refine z_iconst 32 dX11_areOne_32 zci_4 ?_
    refine z_icgt 33 101 dX11_areOne_33 (by decide) (fun _ => ?_) (fun _ => ?_)
    · refine z_iload 101 dX11_areOne_101 rfl ?_
      exact z_ireturn 103 (v := zb b20) dX11_areOne_103 rfl (zput_b b20).1 (fun h => h)
    · refine z_aload_n 36 dX11_areOne_36 rfl ?_
      refine z_iload_n 37 dX11_areOne_37 rfl ?_
      refine z_iload_n 38 dX11_areOne_38 rfl ?_
      refine z_iload 39 dX11_areOne_39 rfl ?_
      refine z_ci (zat_V3 41 dX11_areOne_41 lk_X11_181 zy_76 rfl rfl ⟨Nat.le_of_ble_eq_true rfl, Nat.le_of_ble_eq_true rfl⟩ (Nat.le_of_ble_eq_true rfl)) (tX11_its E p1 p2 x21 M) (fun x25 => ?_)
      refine z_istore 44 (L' := [some (.ref 76), some (.int p1), some (.int p2), some (.int p3), some (.int (zb b20)), some (.int x21), some (.int x25), none]) dX11_areOne_44 (by decide) rfl ?_
      refine z_aload_n 46 dX11_areOne_46 rfl ?_
      refine z_iload_n 47 dX11_areOne_47 rfl ?_
      refine z_iload_n 48 dX11_areOne_48 rfl ?_
      refine z_iload 49 dX11_areOne_49 rfl ?_
      refine z_ci (zat_V3 51 dX11_areOne_51 lk_X11_181 zy_76 rfl rfl ⟨Nat.le_of_ble_eq_true rfl, Nat.le_of_ble_eq_true rfl⟩ (Nat.le_of_ble_eq_true rfl)) (tX11_its E p1 p3 x21 M) (fun x26 => ?_)
      refine z_istore 54 (L' := [some (.ref 76), some (.int p1), some (.int p2), some (.int p3), some (.int (zb b20)), some (.int x21), some (.int x25), some (.int x26)]) dX11_areOne_54 (by decide) rfl ?_
      refine z_iload 56 dX11_areOne_56 rfl ?_
      refine zk_sqj (α := Bool) 93 (fun (b34 : Bool) => [some (.ref 76), some (.int p1), some (.int p2), some (.int p3), none, some (.int x21), none, none]) (fun (b34 : Bool) => [.int (zb b34)]) (fun (b34 : Bool) => (zY0, M)) ?_ ?_
      · intro b34
        refine z_istore 93 (L' := [some (.ref 76), some (.int p1), some (.int p2), some (.int p3), some (.int (zb b34)), some (.int x21), none, none]) dX11_areOne_93 (by decide) rfl ?_
        refine z_iinc 95 (v := (x21 + (1 : Int32))) (L' := [some (.ref 76), some (.int p1), some (.int p2), some (.int p3), some (.int (zb b34)), some (.int (x21 + (1 : Int32))), none, none]) dX11_areOne_95 rfl (zinc zci_1 _) (by decide) rfl ?_
        refine z_goto 98 30 dX11_areOne_98 (by decide) ?_
        exact zk_weak (L' := [some (.ref 76), some (.int p1), some (.int p2), some (.int p3), some (.int (zb b34)), some (.int (x21 + (1 : Int32))), none, none]) (zLe_s (zLe_s (zLe_s (zLe_s (zLe_s (zLe_s (zLe_n (zLe_n zLe_nl)))))))) (hrec22 (b34, (x21 + (1 : Int32))))
      · refine zk_jn (α := Unit) 92 (fun (_ : Unit) => [some (.ref 76), some (.int p1), some (.int p2), some (.int p3), none, some (.int x21), none, none]) (fun (_ : Unit) => []) (fun (_ : Unit) => (zY0, M)) ?_ ?_
        · intro _
          refine z_iconst 92 dX11_areOne_92 zci_0 ?_
          exact zk_exitw (L' := [some (.ref 76), some (.int p1), some (.int p2), some (.int p3), none, some (.int x21), none, none]) (zLe_s (zLe_s (zLe_s (zLe_s (zLe_n (zLe_s (zLe_n (zLe_n zLe_nl)))))))) (fun h => h)
        · intro k38 hk38
          refine z_ifeqb 58 92 dX11_areOne_58 (by decide) (fun _ => ?_) (fun _ => ?_)
          · exact zk_weak (L' := [some (.ref 76), some (.int p1), some (.int p2), some (.int p3), none, some (.int x21), none, none]) (zLe_s (zLe_s (zLe_s (zLe_s (zLe_n (zLe_s (zLe_n (zLe_n zLe_nl)))))))) (hk38 ())
          · refine z_iload 61 dX11_areOne_61 rfl ?_
            refine zk_jn (α := Unit) 88 (fun (_ : Unit) => [some (.ref 76), some (.int p1), some (.int p2), some (.int p3), none, some (.int x21), none, none]) (fun (_ : Unit) => []) (fun (_ : Unit) => (zY0, M)) ?_ ?_
            · intro _
              refine z_iconst 88 dX11_areOne_88 zci_1 ?_
              refine z_goto 89 93 dX11_areOne_89 (by decide) ?_
              exact zk_exitw (L' := [some (.ref 76), some (.int p1), some (.int p2), some (.int p3), none, some (.int x21), none, none]) (zLe_s (zLe_s (zLe_s (zLe_s (zLe_n (zLe_s (zLe_n (zLe_n zLe_nl)))))))) (fun h => h)
            · intro k40 hk40
              refine z_ifeq 63 88 dX11_areOne_63 (by decide) (fun _ => ?_) (fun _ => ?_)
              · exact zk_weak (L' := [some (.ref 76), some (.int p1), some (.int p2), some (.int p3), none, some (.int x21), none, none]) (zLe_s (zLe_s (zLe_s (zLe_s (zLe_n (zLe_s (zLe_n (zLe_n zLe_nl)))))))) (hk40 ())
              · refine z_iload 66 dX11_areOne_66 rfl ?_
                refine z_ifeq 68 88 dX11_areOne_68 (by decide) (fun _ => ?_) (fun _ => ?_)
                · exact zk_weak (L' := [some (.ref 76), some (.int p1), some (.int p2), some (.int p3), none, some (.int x21), none, none]) (zLe_s (zLe_s (zLe_s (zLe_s (zLe_n (zLe_s (zLe_n (zLe_n zLe_nl)))))))) (hk40 ())
                · refine z_iload 71 dX11_areOne_71 rfl ?_
                  refine z_iload 73 dX11_areOne_73 rfl ?_
                  refine z_ctb (zat_S2 75 dX11_areOne_75 lk_X11_204 ⟨Nat.le_of_ble_eq_true rfl, Nat.le_of_ble_eq_true rfl⟩ (Nat.le_of_ble_eq_true rfl)) (tX11_isDoubt E zY0 x25 x26 M) (fun b41 => ?_)
                  refine z_ifneb 78 88 dX11_areOne_78 (by decide) (fun _ => ?_) (fun _ => ?_)
                  · refine z_iload 81 dX11_areOne_81 rfl ?_
                    refine z_iload 83 dX11_areOne_83 rfl ?_
                    refine z_icne 85 92 dX11_areOne_85 (by decide) (fun _ => ?_) (fun _ => ?_)
                    · exact zk_weak (L' := [some (.ref 76), some (.int p1), some (.int p2), some (.int p3), none, some (.int x21), none, none]) (zLe_s (zLe_s (zLe_s (zLe_s (zLe_n (zLe_s (zLe_n (zLe_n zLe_nl)))))))) (hk40 ())
                    · exact zk_weak (L' := [some (.ref 76), some (.int p1), some (.int p2), some (.int p3), none, some (.int x21), none, none]) (zLe_s (zLe_s (zLe_s (zLe_s (zLe_n (zLe_s (zLe_n (zLe_n zLe_nl)))))))) (hk38 ())
                  · exact zk_weak (L' := [some (.ref 76), some (.int p1), some (.int p2), some (.int p3), none, some (.int x21), none, none]) (zLe_s (zLe_s (zLe_s (zLe_s (zLe_n (zLe_s (zLe_n (zLe_n zLe_nl)))))))) (hk40 ())
  · intro k44 hk44
    refine z_ifnebv 17 24 dX11_areOne_17 (by decide) ?_ ?_
    · refine z_iconst 20 dX11_areOne_20 zci_1 ?_
      refine z_goto 21 25 dX11_areOne_21 (by decide) ?_
      exact zk_weak (L' := [some (.ref 76), some (.int p1), some (.int p2), some (.int p3), none, none, none, none]) (zLe_s (zLe_s (zLe_s (zLe_s (zLe_n (zLe_n (zLe_n (zLe_n zLe_nl)))))))) (hk44 true)
    · refine z_iconst 24 dX11_areOne_24 zci_0 ?_
      exact zk_weak (L' := [some (.ref 76), some (.int p1), some (.int p2), some (.int p3), none, none, none, none]) (zLe_s (zLe_s (zLe_s (zLe_s (zLe_n (zLe_n (zLe_n (zLe_n zLe_nl)))))))) (hk44 false)
def fX11_round (p1 : Int32) (p2 : Int32) (p3 : Int32) (M : zM) : Option Int32 :=
  sq (fX11_isLine p1 p2 M) (fun (b1 : Bool) => if b1 = false then (some (-1 : Int32)) else (sq (fX11_isLine p1 p3 M) (fun (b2 : Bool) => if b2 = false then (some (-1 : Int32)) else (if p2 = p3 then (some (-1 : Int32)) else (sq (fX11_areOne p1 p2 p3 M) (fun (b3 : Bool) => if b3 = false then (some (0 : Int32)) else (some (1 : Int32))))))))
set_option maxHeartbeats 4000000 in
set_option maxRecDepth 100000 in
theorem tX11_round (E : zE) (p1 : Int32) (p2 : Int32) (p3 : Int32) (M : zM) : zFi E mX11_round [.ref 76, .int p1, .int p2, .int p3] zY0 M (fX11_round p1 p2 p3 M) := by
  refine zF_of (L := [some (.ref 76), some (.int p1), some (.int p2), some (.int p3)]) plX11 (Nat.le_of_ble_eq_true rfl) rfl (fun post => ?_)
  unfold fX11_round
  refine z_aload_n 0 dX11_round_0 rfl ?_
  refine z_iload_n 1 dX11_round_1 rfl ?_
  refine z_iload_n 2 dX11_round_2 rfl ?_
  refine z_cb (zat_V2 3 dX11_round_3 lk_X11_177 zy_76 rfl rfl ⟨Nat.le_of_ble_eq_true rfl, Nat.le_of_ble_eq_true rfl⟩ (Nat.le_of_ble_eq_true rfl)) (tX11_isLine E p1 p2 M) (fun b1 => ?_)
  refine z_ifeqb 6 41 dX11_round_6 (by decide) (fun _ => ?_) (fun _ => ?_)
  · refine z_iconst 41 dX11_round_41 zci_m1 ?_
    exact z_ireturn 42 dX11_round_42 rfl rfl (fun h => h)
  · refine z_aload_n 9 dX11_round_9 rfl ?_
    refine z_iload_n 10 dX11_round_10 rfl ?_
    refine z_iload_n 11 dX11_round_11 rfl ?_
    refine z_cb (zat_V2 12 dX11_round_12 lk_X11_177 zy_76 rfl rfl ⟨Nat.le_of_ble_eq_true rfl, Nat.le_of_ble_eq_true rfl⟩ (Nat.le_of_ble_eq_true rfl)) (tX11_isLine E p1 p3 M) (fun b2 => ?_)
    refine z_ifeqb 15 41 dX11_round_15 (by decide) (fun _ => ?_) (fun _ => ?_)
    · refine z_iconst 41 dX11_round_41 zci_m1 ?_
      exact z_ireturn 42 dX11_round_42 rfl rfl (fun h => h)
    · refine z_iload_n 18 dX11_round_18 rfl ?_
      refine z_iload_n 19 dX11_round_19 rfl ?_
      refine z_iceq 20 41 dX11_round_20 (by decide) (fun _ => ?_) (fun _ => ?_)
      · refine z_iconst 41 dX11_round_41 zci_m1 ?_
        exact z_ireturn 42 dX11_round_42 rfl rfl (fun h => h)
      · refine z_aload_n 23 dX11_round_23 rfl ?_
        refine z_iload_n 24 dX11_round_24 rfl ?_
        refine z_iload_n 25 dX11_round_25 rfl ?_
        refine z_iload_n 26 dX11_round_26 rfl ?_
        refine z_cb (zat_V3 27 dX11_round_27 lk_X11_287 zy_76 rfl rfl ⟨Nat.le_of_ble_eq_true rfl, Nat.le_of_ble_eq_true rfl⟩ (Nat.le_of_ble_eq_true rfl)) (tX11_areOne E p1 p2 p3 M) (fun b3 => ?_)
        refine z_ifeqb 30 37 dX11_round_30 (by decide) (fun _ => ?_) (fun _ => ?_)
        · refine z_iconst 37 dX11_round_37 zci_0 ?_
          refine z_goto 38 42 dX11_round_38 (by decide) ?_
          exact z_ireturn 42 dX11_round_42 rfl rfl (fun h => h)
        · refine z_iconst 33 dX11_round_33 zci_1 ?_
          refine z_goto 34 42 dX11_round_34 (by decide) ?_
          exact z_ireturn 42 dX11_round_42 rfl rfl (fun h => h)
def fX11_isOneCar (p1 : Int32) (p2 : Int32) (M : zM) : Option Bool :=
  zlp (α := Bool × Int32) (fun rec22 => (fun (u41 : Bool × Int32) => match u41 with | (b20, x21) => if (10 : Int32) ≤ x21 then (some b20) else (lt ((x21 + (1 : Int32))) (fun (x25 : Int32) => sq (α := Bool) (zlp (α := Bool × Int32) (β := Bool) (fun rec28 => (fun (u39 : Bool × Int32) => match u39 with | (b26, x27) => if (10 : Int32) ≤ x27 then (some b26) else (if b26 = false then (some b26) else (sq (α := Bool) (jn (α := Unit) (fun (_ : Unit) => some true) (fun k37 => if ((p2 >>> (x21 &&& 31)) &&& (1 : Int32)) = 0 then (k37 ()) else (if ((p2 >>> (x27 &&& 31)) &&& (1 : Int32)) = 0 then (k37 ()) else (sq (fX11_areOne p1 x21 x27 M) (fun (b38 : Bool) => if b38 = false then (some false) else (k37 ())))))) (fun (b35 : Bool) => rec28 (b35, (x27 + (1 : Int32)))))))) zFu (b20, x25)) (fun (b31 : Bool) => rec22 (b31, (x21 + (1 : Int32)))))))) zFu (true, (0 : Int32))
set_option maxHeartbeats 4000000 in
set_option maxRecDepth 100000 in
theorem tX11_isOneCar (E : zE) (p1 : Int32) (p2 : Int32) (M : zM) : zFb E mX11_isOneCar [.ref 76, .int p1, .int p2] zY0 M (fX11_isOneCar p1 p2 M) := by
  refine zF_of (L := [some (.ref 76), some (.int p1), some (.int p2), none, none, none]) plX11 (Nat.le_of_ble_eq_true rfl) rfl (fun post => ?_)
  unfold fX11_isOneCar
  refine z_iconst 0 dX11_isOneCar_0 zci_1 ?_
  refine z_istore_n 1 (L' := [some (.ref 76), some (.int p1), some (.int p2), some (.int (1 : Int32)), none, none]) dX11_isOneCar_1 (by decide) rfl ?_
  refine z_iconst 2 dX11_isOneCar_2 zci_0 ?_
  refine z_istore 3 (L' := [some (.ref 76), some (.int p1), some (.int p2), some (.int (1 : Int32)), some (.int (0 : Int32)), none]) dX11_isOneCar_3 (by decide) rfl ?_
  refine zk_weak (L' := [some (.ref 76), some (.int p1), some (.int p2), some (.int (1 : Int32)), some (.int (0 : Int32)), none]) (zLe_s (zLe_s (zLe_s (zLe_s (zLe_s (zLe_n zLe_nl)))))) (zk_lp (α := Bool × Int32) 5 (fun (u23 : Bool × Int32) => match u23 with | (b20, x21) => [some (.ref 76), some (.int p1), some (.int p2), some (.int (zb b20)), some (.int x21), none]) (fun (u24 : Bool × Int32) => match u24 with | (b20, x21) => (zY0, M)) ?_ zFu (true, (0 : Int32)))
  intro rec22 hrec22
  intro u42
  obtain ⟨b20, x21⟩ := u42
  try dsimp only
  refine z_iload 5 dX11_isOneCar_5 rfl ?_
  refine z_bipush 7 dX11_isOneCar_7 zbp_10 ?_
  refine z_icge 9 77 dX11_isOneCar_9 (by decide) (fun _ => ?_) (fun _ => ?_)
  · refine z_iload_n 77 dX11_isOneCar_77 rfl ?_
    exact z_ireturn 78 (v := zb b20) dX11_isOneCar_78 rfl (zput_b b20).1 (fun h => h)
  · refine z_iload 12 dX11_isOneCar_12 rfl ?_
    refine z_iconst 14 dX11_isOneCar_14 zci_1 ?_
    refine z_iadd 15 dX11_isOneCar_15 ?_
    refine zk_nmI (fun x25 => ?_)
    refine z_istore 16 (L' := [some (.ref 76), some (.int p1), some (.int p2), some (.int (zb b20)), some (.int x21), some (.int x25)]) dX11_isOneCar_16 (by decide) rfl ?_
    refine zk_sqj (α := Bool) 71 (fun (b31 : Bool) => [some (.ref 76), some (.int p1), some (.int p2), some (.int (zb b31)), some (.int x21), none]) (fun (b31 : Bool) => []) (fun (b31 : Bool) => (zY0, M)) ?_ ?_
    · intro b31
      refine z_iinc 71 (v := (x21 + (1 : Int32))) (L' := [some (.ref 76), some (.int p1), some (.int p2), some (.int (zb b31)), some (.int (x21 + (1 : Int32))), none]) dX11_isOneCar_71 rfl (zinc zci_1 _) (by decide) rfl ?_
      refine z_goto 74 5 dX11_isOneCar_74 (by decide) ?_
      exact zk_weak (L' := [some (.ref 76), some (.int p1), some (.int p2), some (.int (zb b31)), some (.int (x21 + (1 : Int32))), none]) (zLe_s (zLe_s (zLe_s (zLe_s (zLe_s (zLe_n zLe_nl)))))) (hrec22 (b31, (x21 + (1 : Int32))))
    · refine zk_weak (L' := [some (.ref 76), some (.int p1), some (.int p2), some (.int (zb b20)), some (.int x21), some (.int x25)]) (zLe_s (zLe_s (zLe_s (zLe_s (zLe_s (zLe_s zLe_nl)))))) (zk_lp (α := Bool × Int32) 18 (fun (u29 : Bool × Int32) => match u29 with | (b26, x27) => [some (.ref 76), some (.int p1), some (.int p2), some (.int (zb b26)), some (.int x21), some (.int x27)]) (fun (u30 : Bool × Int32) => match u30 with | (b26, x27) => (zY0, M)) ?_ zFu (b20, x25))
      intro rec28 hrec28
      intro u40
      obtain ⟨b26, x27⟩ := u40
      try dsimp only
      refine z_iload 18 dX11_isOneCar_18 rfl ?_
      refine z_bipush 20 dX11_isOneCar_20 zbp_10 ?_
      refine z_icge 22 71 dX11_isOneCar_22 (by decide) (fun _ => ?_) (fun _ => ?_)
      · exact zk_exitw (L' := [some (.ref 76), some (.int p1), some (.int p2), some (.int (zb b26)), some (.int x21), none]) (zLe_s (zLe_s (zLe_s (zLe_s (zLe_s (zLe_n zLe_nl)))))) (fun h => h)
      · refine z_iload_n 25 dX11_isOneCar_25 rfl ?_
        refine z_ifeqb 26 71 dX11_isOneCar_26 (by decide) (fun _ => ?_) (fun _ => ?_)
        · exact zk_exitw (L' := [some (.ref 76), some (.int p1), some (.int p2), some (.int (zb b26)), some (.int x21), none]) (zLe_s (zLe_s (zLe_s (zLe_s (zLe_s (zLe_n zLe_nl)))))) (fun h => h)
        · refine z_iload_n 29 dX11_isOneCar_29 rfl ?_
          refine z_iload 30 dX11_isOneCar_30 rfl ?_
          refine z_ishr 32 dX11_isOneCar_32 ?_
          refine z_iconst 33 dX11_isOneCar_33 zci_1 ?_
          refine z_iand 34 dX11_isOneCar_34 ?_
          refine zk_sqj (α := Bool) 64 (fun (b35 : Bool) => [some (.ref 76), some (.int p1), some (.int p2), none, some (.int x21), some (.int x27)]) (fun (b35 : Bool) => [.int (zb b35)]) (fun (b35 : Bool) => (zY0, M)) ?_ ?_
          · intro b35
            refine z_istore_n 64 (L' := [some (.ref 76), some (.int p1), some (.int p2), some (.int (zb b35)), some (.int x21), some (.int x27)]) dX11_isOneCar_64 (by decide) rfl ?_
            refine z_iinc 65 (v := (x27 + (1 : Int32))) (L' := [some (.ref 76), some (.int p1), some (.int p2), some (.int (zb b35)), some (.int x21), some (.int (x27 + (1 : Int32)))]) dX11_isOneCar_65 rfl (zinc zci_1 _) (by decide) rfl ?_
            refine z_goto 68 18 dX11_isOneCar_68 (by decide) ?_
            exact zk_weak (L' := [some (.ref 76), some (.int p1), some (.int p2), some (.int (zb b35)), some (.int x21), some (.int (x27 + (1 : Int32)))]) (zLe_s (zLe_s (zLe_s (zLe_s (zLe_s (zLe_s zLe_nl)))))) (hrec28 (b35, (x27 + (1 : Int32))))
          · refine zk_jn (α := Unit) 59 (fun (_ : Unit) => [some (.ref 76), some (.int p1), some (.int p2), none, some (.int x21), some (.int x27)]) (fun (_ : Unit) => []) (fun (_ : Unit) => (zY0, M)) ?_ ?_
            · intro _
              refine z_iconst 59 dX11_isOneCar_59 zci_1 ?_
              refine z_goto 60 64 dX11_isOneCar_60 (by decide) ?_
              exact zk_exitw (L' := [some (.ref 76), some (.int p1), some (.int p2), none, some (.int x21), some (.int x27)]) (zLe_s (zLe_s (zLe_s (zLe_n (zLe_s (zLe_s zLe_nl)))))) (fun h => h)
            · intro k37 hk37
              refine z_ifeq 35 59 dX11_isOneCar_35 (by decide) (fun _ => ?_) (fun _ => ?_)
              · exact zk_weak (L' := [some (.ref 76), some (.int p1), some (.int p2), none, some (.int x21), some (.int x27)]) (zLe_s (zLe_s (zLe_s (zLe_n (zLe_s (zLe_s zLe_nl)))))) (hk37 ())
              · refine z_iload_n 38 dX11_isOneCar_38 rfl ?_
                refine z_iload 39 dX11_isOneCar_39 rfl ?_
                refine z_ishr 41 dX11_isOneCar_41 ?_
                refine z_iconst 42 dX11_isOneCar_42 zci_1 ?_
                refine z_iand 43 dX11_isOneCar_43 ?_
                refine z_ifeq 44 59 dX11_isOneCar_44 (by decide) (fun _ => ?_) (fun _ => ?_)
                · exact zk_weak (L' := [some (.ref 76), some (.int p1), some (.int p2), none, some (.int x21), some (.int x27)]) (zLe_s (zLe_s (zLe_s (zLe_n (zLe_s (zLe_s zLe_nl)))))) (hk37 ())
                · refine z_aload_n 47 dX11_isOneCar_47 rfl ?_
                  refine z_iload_n 48 dX11_isOneCar_48 rfl ?_
                  refine z_iload 49 dX11_isOneCar_49 rfl ?_
                  refine z_iload 51 dX11_isOneCar_51 rfl ?_
                  refine z_cb (zat_V3 53 dX11_isOneCar_53 lk_X11_287 zy_76 rfl rfl ⟨Nat.le_of_ble_eq_true rfl, Nat.le_of_ble_eq_true rfl⟩ (Nat.le_of_ble_eq_true rfl)) (tX11_areOne E p1 x21 x27 M) (fun b38 => ?_)
                  refine z_ifeqb 56 63 dX11_isOneCar_56 (by decide) (fun _ => ?_) (fun _ => ?_)
                  · refine z_iconst 63 dX11_isOneCar_63 zci_0 ?_
                    exact zk_exitw (L' := [some (.ref 76), some (.int p1), some (.int p2), none, some (.int x21), some (.int x27)]) (zLe_s (zLe_s (zLe_s (zLe_n (zLe_s (zLe_s zLe_nl)))))) (fun h => h)
                  · exact zk_weak (L' := [some (.ref 76), some (.int p1), some (.int p2), none, some (.int x21), some (.int x27)]) (zLe_s (zLe_s (zLe_s (zLe_n (zLe_s (zLe_s zLe_nl)))))) (hk37 ())
def fX11_cars (p1 : Int32) (p2 : Int32) (M : zM) : Option (Int32 × zM) :=
  lt (fX11_isEnd p1) (fun (b1 : Bool) => if b1 = false then (some ((-1 : Int32), M)) else (lt (fX11_in p2.toInt64 (0 : Int64) (1 : Int64)) (fun (b2 : Bool) => if b2 = false then (some ((-1 : Int32), M)) else (sq (fX11_linesOf p1 (0 : Int32) M) (fun (x3 : Int32) => if p2 = 0 then (some (x3, M)) else (sq (α := zM) (zlp (α := Int32 × zM) (β := zM) (fun rec14 => (fun (u75 : Int32 × zM) => match u75 with | (x12, M13) => if ((1 : Int32) <<< (x3 &&& 31)) ≤ x12 then (some M13) else (sq (fX11_isOneCar p1 x12 M13) (fun (b18 : Bool) => grd (zix x12 1024) (lt (zwI M13 95 (zn x12) (zb b18)) (fun (M19 : zM) => rec14 ((x12 + (1 : Int32)), M19))))))) zFu ((0 : Int32), M)) (fun (M17 : zM) => sq (α := zM) (zlp (α := Int32 × zM) (β := zM) (fun rec53 => (fun (u73 : Int32 × zM) => match u73 with | (x51, M52) => if ((1 : Int32) <<< (x3 &&& 31)) ≤ x51 then (some M52) else (lt ((x51 &&& (-x51))) (fun (x57 : Int32) => grd (zix x51 1024) (lt (zwI M52 94 (zn x51) (11 : Int32)) (fun (M58 : zM) => sq (α := zM) (zlp (α := Int32 × zM) (β := zM) (fun rec61 => (fun (u71 : Int32 × zM) => match u71 with | (x59, M60) => if x59 ≤ 0 then (some M60) else (sq (α := Int32) (jn (α := Unit) (fun (_ : Unit) => some (11 : Int32)) (fun k70 => if (x59 &&& x57) = 0 then (k70 ()) else (grd (zix x59 1024) (if (M60.1 95 (zn x59)) = 0 then (k70 ()) else (grd (zix (x51 &&& (x59 ^^^ (-1 : Int32))) 1024) (some ((1 : Int32) + (M60.1 94 (zn (x51 &&& (x59 ^^^ (-1 : Int32)))))))))))) (fun (x66 : Int32) => grd (zix x51 1024) (sq (α := Int32) (if (M60.1 94 (zn x51)) ≤ x66 then (grd (zix x51 1024) (some (M60.1 94 (zn x51)))) else (some x66)) (fun (x67 : Int32) => grd (zix x51 1024) (lt (zwI M60 94 (zn x51) x67) (fun (M68 : zM) => lt (((x59 - (1 : Int32)) &&& x51)) (fun (x69 : Int32) => rec61 (x69, M68)))))))))) zFu (x51, M58)) (fun (M64 : zM) => rec53 ((x51 + (1 : Int32)), M64)))))))) zFu ((1 : Int32), M17)) (fun (M56 : zM) => if x3 = 0 then (some ((0 : Int32), M56)) else (grd (zix (((1 : Int32) <<< (x3 &&& 31)) - (1 : Int32)) 1024) (some ((M56.1 94 (zn (((1 : Int32) <<< (x3 &&& 31)) - (1 : Int32)))), M56)))))))))))
set_option maxHeartbeats 4000000 in
set_option maxRecDepth 100000 in
theorem tX11_cars (E : zE) (p1 : Int32) (p2 : Int32) (M : zM) : zFI E mX11_cars [.ref 76, .int p1, .int p2] zY0 M (fX11_cars p1 p2 M) := by
  refine zF_of (L := [some (.ref 76), some (.int p1), some (.int p2), none, none, none, none, none]) plX11 (Nat.le_of_ble_eq_true rfl) rfl (fun post => ?_)
  unfold fX11_cars
  refine z_iload_n 0 dX11_cars_0 rfl ?_
  refine z_ctb (zat_S1 1 dX11_cars_1 lk_X11_161 ⟨Nat.le_of_ble_eq_true rfl, Nat.le_of_ble_eq_true rfl⟩ (Nat.le_of_ble_eq_true rfl)) (tX11_isEnd E zY0 p1 M) (fun b1 => ?_)
  refine z_ifeqb 4 17 dX11_cars_4 (by decide) (fun _ => ?_) (fun _ => ?_)
  · refine z_iconst 17 dX11_cars_17 zci_m1 ?_
    exact z_ireturn 18 dX11_cars_18 rfl rfl (fun h => h)
  · refine z_iload_n 7 dX11_cars_7 rfl ?_
    refine z_i2l 8 dX11_cars_8 ?_
    refine z_lconst 9 dX11_cars_9 zlc_0 ?_
    refine z_lconst 10 dX11_cars_10 zlc_1 ?_
    refine z_ctb (zat_S3 11 dX11_cars_11 lk_X11_85 ⟨Nat.le_of_ble_eq_true rfl, Nat.le_of_ble_eq_true rfl⟩ (Nat.le_of_ble_eq_true rfl)) (tX11_in E zY0 p2.toInt64 (0 : Int64) (1 : Int64) M) (fun b2 => ?_)
    refine z_ifneb 14 19 dX11_cars_14 (by decide) (fun _ => ?_) (fun _ => ?_)
    · refine z_iconst 17 dX11_cars_17 zci_m1 ?_
      exact z_ireturn 18 dX11_cars_18 rfl rfl (fun h => h)
    · refine z_aload_n 19 dX11_cars_19 rfl ?_
      refine z_iload_n 20 dX11_cars_20 rfl ?_
      refine z_iconst 21 dX11_cars_21 zci_0 ?_
      refine z_ci (zat_V2 22 dX11_cars_22 lk_X11_164 zy_76 rfl rfl ⟨Nat.le_of_ble_eq_true rfl, Nat.le_of_ble_eq_true rfl⟩ (Nat.le_of_ble_eq_true rfl)) (tX11_linesOf E p1 (0 : Int32) M) (fun x3 => ?_)
      refine z_istore_n 25 (L' := [some (.ref 76), some (.int p1), some (.int p2), some (.int x3), none, none, none, none]) dX11_cars_25 (by decide) rfl ?_
      refine z_iload_n 26 dX11_cars_26 rfl ?_
      refine z_ifne 27 32 dX11_cars_27 (by decide) (fun _ => ?_) (fun _ => ?_)
      · refine z_iload_n 30 dX11_cars_30 rfl ?_
        exact z_ireturn 31 dX11_cars_31 rfl rfl (fun h => h)
      · refine z_iconst 32 dX11_cars_32 zci_0 ?_
        refine z_istore 33 (L' := [some (.ref 76), some (.int p1), some (.int p2), some (.int x3), some (.int (0 : Int32)), none, none, none]) dX11_cars_33 (by decide) rfl ?_
        refine zk_sqj (α := zM) 63 (fun (M17 : zM) => [some (.ref 76), none, none, some (.int x3), none, none, none, none]) (fun (M17 : zM) => []) (fun (M17 : zM) => (zY0, M17)) ?_ ?_
        · intro M17
          refine z_iconst 63 dX11_cars_63 zci_1 ?_
          refine z_istore 64 (L' := [some (.ref 76), none, none, some (.int x3), some (.int (1 : Int32)), none, none, none]) dX11_cars_64 (by decide) rfl ?_
          refine zk_sqj (α := zM) 188 (fun (M56 : zM) => [some (.ref 76), none, none, some (.int x3), none, none, none, none]) (fun (M56 : zM) => []) (fun (M56 : zM) => (zY0, M56)) ?_ ?_
          · intro M56
            refine z_iload_n 188 dX11_cars_188 rfl ?_
            refine z_ifne 189 196 dX11_cars_189 (by decide) (fun _ => ?_) (fun _ => ?_)
            · refine z_iconst 192 dX11_cars_192 zci_0 ?_
              refine z_goto 193 206 dX11_cars_193 (by decide) ?_
              exact z_ireturn 206 dX11_cars_206 rfl rfl (fun h => h)
            · refine z_aload_n 196 dX11_cars_196 rfl ?_
              refine z_getR 197 (r := 94) dX11_cars_197 fl_X11_62 zy_76 rfl ?_
              refine z_iconst 200 dX11_cars_200 zci_1 ?_
              refine z_iload_n 201 dX11_cars_201 rfl ?_
              refine z_ishl 202 dX11_cars_202 ?_
              refine z_iconst 203 dX11_cars_203 zci_1 ?_
              refine z_isub 204 dX11_cars_204 ?_
              refine z_iaload 205 dX11_cars_205 zy_94 ?_
              exact z_ireturn 206 dX11_cars_206 rfl rfl (fun h => h)
          · refine zk_weak (L' := [some (.ref 76), none, none, some (.int x3), some (.int (1 : Int32)), none, none, none]) (zLe_s (zLe_n (zLe_n (zLe_s (zLe_s (zLe_n (zLe_n (zLe_n zLe_nl)))))))) (zk_lp (α := Int32 × zM) 66 (fun (u54 : Int32 × zM) => match u54 with | (x51, M52) => [some (.ref 76), none, none, some (.int x3), some (.int x51), none, none, none]) (fun (u55 : Int32 × zM) => match u55 with | (x51, M52) => (zY0, M52)) ?_ zFu ((1 : Int32), M17))
            intro rec53 hrec53
            intro u74
            obtain ⟨x51, M52⟩ := u74
            try dsimp only
            refine z_iload 66 dX11_cars_66 rfl ?_
            refine z_iconst 68 dX11_cars_68 zci_1 ?_
            refine z_iload_n 69 dX11_cars_69 rfl ?_
            refine z_ishl 70 dX11_cars_70 ?_
            refine z_icge 71 188 dX11_cars_71 (by decide) (fun _ => ?_) (fun _ => ?_)
            · exact zk_exitw (L' := [some (.ref 76), none, none, some (.int x3), none, none, none, none]) (zLe_s (zLe_n (zLe_n (zLe_s (zLe_n (zLe_n (zLe_n (zLe_n zLe_nl)))))))) (fun h => h)
            · refine z_iload 74 dX11_cars_74 rfl ?_
              refine z_iload 76 dX11_cars_76 rfl ?_
              refine z_ineg 78 dX11_cars_78 ?_
              refine z_iand 79 dX11_cars_79 ?_
              refine zk_nmI (fun x57 => ?_)
              refine z_istore 80 (L' := [some (.ref 76), none, none, some (.int x3), some (.int x51), some (.int x57), none, none]) dX11_cars_80 (by decide) rfl ?_
              refine z_aload_n 82 dX11_cars_82 rfl ?_
              refine z_getR 83 (r := 94) dX11_cars_83 fl_X11_62 zy_76 rfl ?_
              refine z_iload 86 dX11_cars_86 rfl ?_
              refine z_bipush 88 dX11_cars_88 zbp_11 ?_
              refine z_iastore 90 dX11_cars_90 zy_94 ?_
              refine zk_nmM (fun M58 => ?_)
              refine z_iload 91 dX11_cars_91 rfl ?_
              refine z_istore 93 (L' := [some (.ref 76), none, none, some (.int x3), some (.int x51), some (.int x57), some (.int x51), none]) dX11_cars_93 (by decide) rfl ?_
              refine zk_sqj (α := zM) 182 (fun (M64 : zM) => [some (.ref 76), none, none, some (.int x3), some (.int x51), none, none, none]) (fun (M64 : zM) => []) (fun (M64 : zM) => (zY0, M64)) ?_ ?_
              · intro M64
                refine z_iinc 182 (v := (x51 + (1 : Int32))) (L' := [some (.ref 76), none, none, some (.int x3), some (.int (x51 + (1 : Int32))), none, none, none]) dX11_cars_182 rfl (zinc zci_1 _) (by decide) rfl ?_
                refine z_goto 185 66 dX11_cars_185 (by decide) ?_
                exact zk_weak (L' := [some (.ref 76), none, none, some (.int x3), some (.int (x51 + (1 : Int32))), none, none, none]) (zLe_s (zLe_n (zLe_n (zLe_s (zLe_s (zLe_n (zLe_n (zLe_n zLe_nl)))))))) (hrec53 ((x51 + (1 : Int32)), M64))
              · refine zk_weak (L' := [some (.ref 76), none, none, some (.int x3), some (.int x51), some (.int x57), some (.int x51), none]) (zLe_s (zLe_n (zLe_n (zLe_s (zLe_s (zLe_s (zLe_s (zLe_n zLe_nl)))))))) (zk_lp (α := Int32 × zM) 95 (fun (u62 : Int32 × zM) => match u62 with | (x59, M60) => [some (.ref 76), none, none, some (.int x3), some (.int x51), some (.int x57), some (.int x59), none]) (fun (u63 : Int32 × zM) => match u63 with | (x59, M60) => (zY0, M60)) ?_ zFu (x51, M58))
                intro rec61 hrec61
                intro u72
                obtain ⟨x59, M60⟩ := u72
                try dsimp only
                refine z_iload 95 dX11_cars_95 rfl ?_
                refine z_ifle 97 182 dX11_cars_97 (by decide) (fun _ => ?_) (fun _ => ?_)
                · exact zk_exitw (L' := [some (.ref 76), none, none, some (.int x3), some (.int x51), none, none, none]) (zLe_s (zLe_n (zLe_n (zLe_s (zLe_s (zLe_n (zLe_n (zLe_n zLe_nl)))))))) (fun h => h)
                · refine z_iload 100 dX11_cars_100 rfl ?_
                  refine z_iload 102 dX11_cars_102 rfl ?_
                  refine z_iand 104 dX11_cars_104 ?_
                  refine zk_sqj (α := Int32) 137 (fun (x66 : Int32) => [some (.ref 76), none, none, some (.int x3), some (.int x51), some (.int x57), some (.int x59), none]) (fun (x66 : Int32) => [.int x66]) (fun (x66 : Int32) => (zY0, M60)) ?_ ?_
                  · intro x66
                    refine z_istore 137 (L' := [some (.ref 76), none, none, some (.int x3), some (.int x51), some (.int x57), some (.int x59), some (.int x66)]) dX11_cars_137 (by decide) rfl ?_
                    refine z_aload_n 139 dX11_cars_139 rfl ?_
                    refine z_getR 140 (r := 94) dX11_cars_140 fl_X11_62 zy_76 rfl ?_
                    refine z_iload 143 dX11_cars_143 rfl ?_
                    refine z_iload 145 dX11_cars_145 rfl ?_
                    refine z_aload_n 147 dX11_cars_147 rfl ?_
                    refine z_getR 148 (r := 94) dX11_cars_148 fl_X11_62 zy_76 rfl ?_
                    refine z_iload 151 dX11_cars_151 rfl ?_
                    refine z_iaload 153 dX11_cars_153 zy_94 ?_
                    refine zk_sqj (α := Int32) 169 (fun (x67 : Int32) => [some (.ref 76), none, none, some (.int x3), some (.int x51), some (.int x57), some (.int x59), none]) (fun (x67 : Int32) => [.int x67, .int x51, .ref 94]) (fun (x67 : Int32) => (zY0, M60)) ?_ ?_
                    · intro x67
                      refine z_iastore 169 dX11_cars_169 zy_94 ?_
                      refine zk_nmM (fun M68 => ?_)
                      refine z_iload 170 dX11_cars_170 rfl ?_
                      refine z_iconst 172 dX11_cars_172 zci_1 ?_
                      refine z_isub 173 dX11_cars_173 ?_
                      refine z_iload 174 dX11_cars_174 rfl ?_
                      refine z_iand 176 dX11_cars_176 ?_
                      refine zk_nmI (fun x69 => ?_)
                      refine z_istore 177 (L' := [some (.ref 76), none, none, some (.int x3), some (.int x51), some (.int x57), some (.int x69), none]) dX11_cars_177 (by decide) rfl ?_
                      refine z_goto 179 95 dX11_cars_179 (by decide) ?_
                      exact zk_weak (L' := [some (.ref 76), none, none, some (.int x3), some (.int x51), some (.int x57), some (.int x69), none]) (zLe_s (zLe_n (zLe_n (zLe_s (zLe_s (zLe_s (zLe_s (zLe_n zLe_nl)))))))) (hrec61 (x69, M68))
                    · refine z_icge 154 162 dX11_cars_154 (by decide) (fun _ => ?_) (fun _ => ?_)
                      · refine z_aload_n 162 dX11_cars_162 rfl ?_
                        refine z_getR 163 (r := 94) dX11_cars_163 fl_X11_62 zy_76 rfl ?_
                        refine z_iload 166 dX11_cars_166 rfl ?_
                        refine z_iaload 168 dX11_cars_168 zy_94 ?_
                        exact zk_exitw (L' := [some (.ref 76), none, none, some (.int x3), some (.int x51), some (.int x57), some (.int x59), none]) (zLe_s (zLe_n (zLe_n (zLe_s (zLe_s (zLe_s (zLe_s (zLe_n zLe_nl)))))))) (fun h => h)
                      · refine z_iload 157 dX11_cars_157 rfl ?_
                        refine z_goto 159 169 dX11_cars_159 (by decide) ?_
                        exact zk_exitw (L' := [some (.ref 76), none, none, some (.int x3), some (.int x51), some (.int x57), some (.int x59), none]) (zLe_s (zLe_n (zLe_n (zLe_s (zLe_s (zLe_s (zLe_s (zLe_n zLe_nl)))))))) (fun h => h)
                  · refine zk_jn (α := Unit) 135 (fun (_ : Unit) => [some (.ref 76), none, none, some (.int x3), some (.int x51), some (.int x57), some (.int x59), none]) (fun (_ : Unit) => []) (fun (_ : Unit) => (zY0, M60)) ?_ ?_
                    · intro _
                      refine z_bipush 135 dX11_cars_135 zbp_11 ?_
                      exact zk_exitw (L' := [some (.ref 76), none, none, some (.int x3), some (.int x51), some (.int x57), some (.int x59), none]) (zLe_s (zLe_n (zLe_n (zLe_s (zLe_s (zLe_s (zLe_s (zLe_n zLe_nl)))))))) (fun h => h)
                    · intro k70 hk70
                      refine z_ifeq 105 135 dX11_cars_105 (by decide) (fun _ => ?_) (fun _ => ?_)
                      · exact zk_weak (L' := [some (.ref 76), none, none, some (.int x3), some (.int x51), some (.int x57), some (.int x59), none]) (zLe_s (zLe_n (zLe_n (zLe_s (zLe_s (zLe_s (zLe_s (zLe_n zLe_nl)))))))) (hk70 ())
                      · refine z_aload_n 108 dX11_cars_108 rfl ?_
                        refine z_getR 109 (r := 95) dX11_cars_109 fl_X11_65 zy_76 rfl ?_
                        refine z_iload 112 dX11_cars_112 rfl ?_
                        refine z_zaload 114 dX11_cars_114 zy_95 ?_
                        refine z_ifeq 115 135 dX11_cars_115 (by decide) (fun _ => ?_) (fun _ => ?_)
                        · exact zk_weak (L' := [some (.ref 76), none, none, some (.int x3), some (.int x51), some (.int x57), some (.int x59), none]) (zLe_s (zLe_n (zLe_n (zLe_s (zLe_s (zLe_s (zLe_s (zLe_n zLe_nl)))))))) (hk70 ())
                        · refine z_iconst 118 dX11_cars_118 zci_1 ?_
                          refine z_aload_n 119 dX11_cars_119 rfl ?_
                          refine z_getR 120 (r := 94) dX11_cars_120 fl_X11_62 zy_76 rfl ?_
                          refine z_iload 123 dX11_cars_123 rfl ?_
                          refine z_iload 125 dX11_cars_125 rfl ?_
                          refine z_iconst 127 dX11_cars_127 zci_m1 ?_
                          refine z_ixor 128 dX11_cars_128 ?_
                          refine z_iand 129 dX11_cars_129 ?_
                          refine z_iaload 130 dX11_cars_130 zy_94 ?_
                          refine z_iadd 131 dX11_cars_131 ?_
                          refine z_goto 132 137 dX11_cars_132 (by decide) ?_
                          exact zk_exitw (L' := [some (.ref 76), none, none, some (.int x3), some (.int x51), some (.int x57), some (.int x59), none]) (zLe_s (zLe_n (zLe_n (zLe_s (zLe_s (zLe_s (zLe_s (zLe_n zLe_nl)))))))) (fun h => h)
        · refine zk_weak (L' := [some (.ref 76), some (.int p1), none, some (.int x3), some (.int (0 : Int32)), none, none, none]) (zLe_s (zLe_s (zLe_n (zLe_s (zLe_s (zLe_n (zLe_n (zLe_n zLe_nl)))))))) (zk_lp (α := Int32 × zM) 35 (fun (u15 : Int32 × zM) => match u15 with | (x12, M13) => [some (.ref 76), some (.int p1), none, some (.int x3), some (.int x12), none, none, none]) (fun (u16 : Int32 × zM) => match u16 with | (x12, M13) => (zY0, M13)) ?_ zFu ((0 : Int32), M))
          intro rec14 hrec14
          intro u76
          obtain ⟨x12, M13⟩ := u76
          try dsimp only
          refine z_iload 35 dX11_cars_35 rfl ?_
          refine z_iconst 37 dX11_cars_37 zci_1 ?_
          refine z_iload_n 38 dX11_cars_38 rfl ?_
          refine z_ishl 39 dX11_cars_39 ?_
          refine z_icge 40 63 dX11_cars_40 (by decide) (fun _ => ?_) (fun _ => ?_)
          · exact zk_exitw (L' := [some (.ref 76), none, none, some (.int x3), none, none, none, none]) (zLe_s (zLe_n (zLe_n (zLe_s (zLe_n (zLe_n (zLe_n (zLe_n zLe_nl)))))))) (fun h => h)
          · refine z_aload_n 43 dX11_cars_43 rfl ?_
            refine z_getR 44 (r := 95) dX11_cars_44 fl_X11_65 zy_76 rfl ?_
            refine z_iload 47 dX11_cars_47 rfl ?_
            refine z_aload_n 49 dX11_cars_49 rfl ?_
            refine z_iload_n 50 dX11_cars_50 rfl ?_
            refine z_iload 51 dX11_cars_51 rfl ?_
            refine z_cb (zat_V2 53 dX11_cars_53 lk_X11_291 zy_76 rfl rfl ⟨Nat.le_of_ble_eq_true rfl, Nat.le_of_ble_eq_true rfl⟩ (Nat.le_of_ble_eq_true rfl)) (tX11_isOneCar E p1 x12 M13) (fun b18 => ?_)
            refine z_zastore 56 (b := b18) dX11_cars_56 zy_95 ?_
            refine zk_nmM (fun M19 => ?_)
            refine z_iinc 57 (v := (x12 + (1 : Int32))) (L' := [some (.ref 76), some (.int p1), none, some (.int x3), some (.int (x12 + (1 : Int32))), none, none, none]) dX11_cars_57 rfl (zinc zci_1 _) (by decide) rfl ?_
            refine z_goto 60 35 dX11_cars_60 (by decide) ?_
            exact zk_weak (L' := [some (.ref 76), some (.int p1), none, some (.int x3), some (.int (x12 + (1 : Int32))), none, none, none]) (zLe_s (zLe_s (zLe_n (zLe_s (zLe_s (zLe_n (zLe_n (zLe_n zLe_nl)))))))) (hrec14 ((x12 + (1 : Int32)), M19))
def fX11_keep (p1 : Int32) (M : zM) : Option (Int32 × zM) :=
  lt (fX11_in p1.toInt64 (0 : Int64) (1 : Int64)) (fun (b1 : Bool) => if b1 = false then (some ((-1 : Int32), M)) else (sq (α := zM) (zlp (α := Int32 × zM) (β := zM) (fun rec11 => (fun (u35 : Int32 × zM) => match u35 with | (x9, M10) => if (220 : Int32) ≤ x9 then (some M10) else (grd (zix x9 660) (grd (zix (((220 : Int32) * (p1 + (1 : Int32))) + x9) 660) (lt (zwI M10 84 (zn (((220 : Int32) * (p1 + (1 : Int32))) + x9)) (M10.1 84 (zn x9))) (fun (M15 : zM) => rec11 ((x9 + (1 : Int32)), M15))))))) zFu ((0 : Int32), M)) (fun (M14 : zM) => sq (α := zM) (zlp (α := Int32 × zM) (β := zM) (fun rec25 => (fun (u33 : Int32 × zM) => match u33 with | (x23, M24) => if (10 : Int32) ≤ x23 then (some M24) else (grd (zix x23 30) (grd (zix (((10 : Int32) * (p1 + (1 : Int32))) + x23) 30) (lt (zwI M24 81 (zn (((10 : Int32) * (p1 + (1 : Int32))) + x23)) (M24.1 81 (zn x23))) (fun (M29 : zM) => rec25 ((x23 + (1 : Int32)), M29))))))) zFu ((0 : Int32), M14)) (fun (M28 : zM) => grd (zix p1 2) (lt (if (M28.1 96 (zn p1)) = 0 then (false) else (true)) (fun (b30 : Bool) => grd (zix p1 2) (lt (zwI M28 96 (zn p1) (zb true)) (fun (M31 : zM) => some ((zb b30), M31)))))))))
set_option maxHeartbeats 4000000 in
set_option maxRecDepth 100000 in
theorem tX11_keep (E : zE) (p1 : Int32) (M : zM) : zFI E mX11_keep [.ref 76, .int p1] zY0 M (fX11_keep p1 M) := by
  refine zF_of (L := [some (.ref 76), some (.int p1), none]) plX11 (Nat.le_of_ble_eq_true rfl) rfl (fun post => ?_)
  unfold fX11_keep
  refine z_iload_n 0 dX11_keep_0 rfl ?_
  refine z_i2l 1 dX11_keep_1 ?_
  refine z_lconst 2 dX11_keep_2 zlc_0 ?_
  refine z_lconst 3 dX11_keep_3 zlc_1 ?_
  refine z_ctb (zat_S3 4 dX11_keep_4 lk_X11_85 ⟨Nat.le_of_ble_eq_true rfl, Nat.le_of_ble_eq_true rfl⟩ (Nat.le_of_ble_eq_true rfl)) (tX11_in E zY0 p1.toInt64 (0 : Int64) (1 : Int64) M) (fun b1 => ?_)
  refine z_ifneb 7 12 dX11_keep_7 (by decide) (fun _ => ?_) (fun _ => ?_)
  · refine z_iconst 10 dX11_keep_10 zci_m1 ?_
    exact z_ireturn 11 dX11_keep_11 rfl rfl (fun h => h)
  · refine z_iconst 12 dX11_keep_12 zci_0 ?_
    refine z_istore_n 13 (L' := [some (.ref 76), some (.int p1), some (.int (0 : Int32))]) dX11_keep_13 (by decide) rfl ?_
    refine zk_sqj (α := zM) 47 (fun (M14 : zM) => [some (.ref 76), some (.int p1), none]) (fun (M14 : zM) => []) (fun (M14 : zM) => (zY0, M14)) ?_ ?_
    · intro M14
      refine z_iconst 47 dX11_keep_47 zci_0 ?_
      refine z_istore_n 48 (L' := [some (.ref 76), some (.int p1), some (.int (0 : Int32))]) dX11_keep_48 (by decide) rfl ?_
      refine zk_sqj (α := zM) 80 (fun (M28 : zM) => [some (.ref 76), some (.int p1), none]) (fun (M28 : zM) => []) (fun (M28 : zM) => (zY0, M28)) ?_ ?_
      · intro M28
        refine z_aload_n 80 dX11_keep_80 rfl ?_
        refine z_getR 81 (r := 96) dX11_keep_81 fl_X11_69 zy_76 rfl ?_
        refine z_iload_n 84 dX11_keep_84 rfl ?_
        refine z_zaload 85 dX11_keep_85 zy_96 ?_
        refine zk_ltj (α := Bool) 94 (fun (b30 : Bool) => [some (.ref 76), some (.int p1), none]) (fun (b30 : Bool) => [.int (zb b30)]) (fun (b30 : Bool) => (zY0, M28)) ?_ ?_
        · intro b30
          refine z_istore_n 94 (L' := [some (.ref 76), some (.int p1), some (.int (zb b30))]) dX11_keep_94 (by decide) rfl ?_
          refine z_aload_n 95 dX11_keep_95 rfl ?_
          refine z_getR 96 (r := 96) dX11_keep_96 fl_X11_69 zy_76 rfl ?_
          refine z_iload_n 99 dX11_keep_99 rfl ?_
          refine z_iconst 100 dX11_keep_100 zci_1 ?_
          refine z_zastore 101 (b := true) dX11_keep_101 zy_96 ?_
          refine zk_nmM (fun M31 => ?_)
          refine z_iload_n 102 dX11_keep_102 rfl ?_
          exact z_ireturn 103 dX11_keep_103 rfl rfl (fun h => h)
        · intro k32 hk32
          refine z_ifeqv 86 93 dX11_keep_86 (by decide) ?_ ?_
          · refine z_iconst 93 dX11_keep_93 zci_0 ?_
            exact zk_weak (L' := [some (.ref 76), some (.int p1), none]) (zLe_s (zLe_s (zLe_n zLe_nl))) (hk32 false)
          · refine z_iconst 89 dX11_keep_89 zci_1 ?_
            refine z_goto 90 94 dX11_keep_90 (by decide) ?_
            exact zk_weak (L' := [some (.ref 76), some (.int p1), none]) (zLe_s (zLe_s (zLe_n zLe_nl))) (hk32 true)
      · refine zk_weak (L' := [some (.ref 76), some (.int p1), some (.int (0 : Int32))]) (zLe_s (zLe_s (zLe_s zLe_nl))) (zk_lp (α := Int32 × zM) 49 (fun (u26 : Int32 × zM) => match u26 with | (x23, M24) => [some (.ref 76), some (.int p1), some (.int x23)]) (fun (u27 : Int32 × zM) => match u27 with | (x23, M24) => (zY0, M24)) ?_ zFu ((0 : Int32), M14))
        intro rec25 hrec25
        intro u34
        obtain ⟨x23, M24⟩ := u34
        try dsimp only
        refine z_iload_n 49 dX11_keep_49 rfl ?_
        refine z_bipush 50 dX11_keep_50 zbp_10 ?_
        refine z_icge 52 80 dX11_keep_52 (by decide) (fun _ => ?_) (fun _ => ?_)
        · exact zk_exitw (L' := [some (.ref 76), some (.int p1), none]) (zLe_s (zLe_s (zLe_n zLe_nl))) (fun h => h)
        · refine z_aload_n 55 dX11_keep_55 rfl ?_
          refine z_getR 56 (r := 81) dX11_keep_56 fl_X11_22 zy_76 rfl ?_
          refine z_bipush 59 dX11_keep_59 zbp_10 ?_
          refine z_iload_n 61 dX11_keep_61 rfl ?_
          refine z_iconst 62 dX11_keep_62 zci_1 ?_
          refine z_iadd 63 dX11_keep_63 ?_
          refine z_imul 64 dX11_keep_64 ?_
          refine z_iload_n 65 dX11_keep_65 rfl ?_
          refine z_iadd 66 dX11_keep_66 ?_
          refine z_aload_n 67 dX11_keep_67 rfl ?_
          refine z_getR 68 (r := 81) dX11_keep_68 fl_X11_22 zy_76 rfl ?_
          refine z_iload_n 71 dX11_keep_71 rfl ?_
          refine z_iaload 72 dX11_keep_72 zy_81 ?_
          refine z_iastore 73 dX11_keep_73 zy_81 ?_
          refine zk_nmM (fun M29 => ?_)
          refine z_iinc 74 (v := (x23 + (1 : Int32))) (L' := [some (.ref 76), some (.int p1), some (.int (x23 + (1 : Int32)))]) dX11_keep_74 rfl (zinc zci_1 _) (by decide) rfl ?_
          refine z_goto 77 49 dX11_keep_77 (by decide) ?_
          exact zk_weak (L' := [some (.ref 76), some (.int p1), some (.int (x23 + (1 : Int32)))]) (zLe_s (zLe_s (zLe_s zLe_nl))) (hrec25 ((x23 + (1 : Int32)), M29))
    · refine zk_weak (L' := [some (.ref 76), some (.int p1), some (.int (0 : Int32))]) (zLe_s (zLe_s (zLe_s zLe_nl))) (zk_lp (α := Int32 × zM) 14 (fun (u12 : Int32 × zM) => match u12 with | (x9, M10) => [some (.ref 76), some (.int p1), some (.int x9)]) (fun (u13 : Int32 × zM) => match u13 with | (x9, M10) => (zY0, M10)) ?_ zFu ((0 : Int32), M))
      intro rec11 hrec11
      intro u36
      obtain ⟨x9, M10⟩ := u36
      try dsimp only
      refine z_iload_n 14 dX11_keep_14 rfl ?_
      refine z_sipush 15 dX11_keep_15 zsp_220 ?_
      refine z_icge 18 47 dX11_keep_18 (by decide) (fun _ => ?_) (fun _ => ?_)
      · exact zk_exitw (L' := [some (.ref 76), some (.int p1), none]) (zLe_s (zLe_s (zLe_n zLe_nl))) (fun h => h)
      · refine z_aload_n 21 dX11_keep_21 rfl ?_
        refine z_getR 22 (r := 84) dX11_keep_22 fl_X11_31 zy_76 rfl ?_
        refine z_sipush 25 dX11_keep_25 zsp_220 ?_
        refine z_iload_n 28 dX11_keep_28 rfl ?_
        refine z_iconst 29 dX11_keep_29 zci_1 ?_
        refine z_iadd 30 dX11_keep_30 ?_
        refine z_imul 31 dX11_keep_31 ?_
        refine z_iload_n 32 dX11_keep_32 rfl ?_
        refine z_iadd 33 dX11_keep_33 ?_
        refine z_aload_n 34 dX11_keep_34 rfl ?_
        refine z_getR 35 (r := 84) dX11_keep_35 fl_X11_31 zy_76 rfl ?_
        refine z_iload_n 38 dX11_keep_38 rfl ?_
        refine z_iaload 39 dX11_keep_39 zy_84 ?_
        refine z_iastore 40 dX11_keep_40 zy_84 ?_
        refine zk_nmM (fun M15 => ?_)
        refine z_iinc 41 (v := (x9 + (1 : Int32))) (L' := [some (.ref 76), some (.int p1), some (.int (x9 + (1 : Int32)))]) dX11_keep_41 rfl (zinc zci_1 _) (by decide) rfl ?_
        refine z_goto 44 14 dX11_keep_44 (by decide) ?_
        exact zk_weak (L' := [some (.ref 76), some (.int p1), some (.int (x9 + (1 : Int32)))]) (zLe_s (zLe_s (zLe_s zLe_nl))) (hrec11 ((x9 + (1 : Int32)), M15))
def fX11_back (p1 : Int32) (M : zM) : Option (Int32 × zM) :=
  lt (fX11_in p1.toInt64 (0 : Int64) (1 : Int64)) (fun (b1 : Bool) => if b1 = false then (some ((-1 : Int32), M)) else (grd (zix p1 2) (if (M.1 96 (zn p1)) = 0 then (some ((-2 : Int32), M)) else (sq (α := zM) (zlp (α := Int32 × zM) (β := zM) (fun rec11 => (fun (u34 : Int32 × zM) => match u34 with | (x9, M10) => if (220 : Int32) ≤ x9 then (some M10) else (grd (zix (((220 : Int32) * (p1 + (1 : Int32))) + x9) 660) (grd (zix x9 660) (lt (zwI M10 84 (zn x9) (M10.1 84 (zn (((220 : Int32) * (p1 + (1 : Int32))) + x9)))) (fun (M15 : zM) => rec11 ((x9 + (1 : Int32)), M15))))))) zFu ((0 : Int32), M)) (fun (M14 : zM) => sq (α := zM) (zlp (α := Int32 × zM) (β := zM) (fun rec25 => (fun (u32 : Int32 × zM) => match u32 with | (x23, M24) => if (10 : Int32) ≤ x23 then (some M24) else (grd (zix (((10 : Int32) * (p1 + (1 : Int32))) + x23) 30) (grd (zix x23 30) (lt (zwI M24 81 (zn x23) (M24.1 81 (zn (((10 : Int32) * (p1 + (1 : Int32))) + x23)))) (fun (M29 : zM) => rec25 ((x23 + (1 : Int32)), M29))))))) zFu ((0 : Int32), M14)) (fun (M28 : zM) => sq (fX11_linesOf (0 : Int32) (0 : Int32) M28) (fun (x30 : Int32) => sq (fX11_linesOf (1 : Int32) (0 : Int32) M28) (fun (x31 : Int32) => some ((x30 + x31), M28)))))))))
set_option maxHeartbeats 4000000 in
set_option maxRecDepth 100000 in
theorem tX11_back (E : zE) (p1 : Int32) (M : zM) : zFI E mX11_back [.ref 76, .int p1] zY0 M (fX11_back p1 M) := by
  refine zF_of (L := [some (.ref 76), some (.int p1), none]) plX11 (Nat.le_of_ble_eq_true rfl) rfl (fun post => ?_)
  unfold fX11_back
  refine z_iload_n 0 dX11_back_0 rfl ?_
  refine z_i2l 1 dX11_back_1 ?_
  refine z_lconst 2 dX11_back_2 zlc_0 ?_
  refine z_lconst 3 dX11_back_3 zlc_1 ?_
  refine z_ctb (zat_S3 4 dX11_back_4 lk_X11_85 ⟨Nat.le_of_ble_eq_true rfl, Nat.le_of_ble_eq_true rfl⟩ (Nat.le_of_ble_eq_true rfl)) (tX11_in E zY0 p1.toInt64 (0 : Int64) (1 : Int64) M) (fun b1 => ?_)
  refine z_ifneb 7 12 dX11_back_7 (by decide) (fun _ => ?_) (fun _ => ?_)
  · refine z_iconst 10 dX11_back_10 zci_m1 ?_
    exact z_ireturn 11 dX11_back_11 rfl rfl (fun h => h)
  · refine z_aload_n 12 dX11_back_12 rfl ?_
    refine z_getR 13 (r := 96) dX11_back_13 fl_X11_69 zy_76 rfl ?_
    refine z_iload_n 16 dX11_back_16 rfl ?_
    refine z_zaload 17 dX11_back_17 zy_96 ?_
    refine z_ifne 18 24 dX11_back_18 (by decide) (fun _ => ?_) (fun _ => ?_)
    · refine z_bipush 21 dX11_back_21 zbp_m2 ?_
      exact z_ireturn 23 dX11_back_23 rfl rfl (fun h => h)
    · refine z_iconst 24 dX11_back_24 zci_0 ?_
      refine z_istore_n 25 (L' := [some (.ref 76), some (.int p1), some (.int (0 : Int32))]) dX11_back_25 (by decide) rfl ?_
      refine zk_sqj (α := zM) 59 (fun (M14 : zM) => [some (.ref 76), some (.int p1), none]) (fun (M14 : zM) => []) (fun (M14 : zM) => (zY0, M14)) ?_ ?_
      · intro M14
        refine z_iconst 59 dX11_back_59 zci_0 ?_
        refine z_istore_n 60 (L' := [some (.ref 76), some (.int p1), some (.int (0 : Int32))]) dX11_back_60 (by decide) rfl ?_
        refine zk_sqj (α := zM) 92 (fun (M28 : zM) => [some (.ref 76), none, none]) (fun (M28 : zM) => []) (fun (M28 : zM) => (zY0, M28)) ?_ ?_
        · intro M28
          refine z_aload_n 92 dX11_back_92 rfl ?_
          refine z_iconst 93 dX11_back_93 zci_0 ?_
          refine z_iconst 94 dX11_back_94 zci_0 ?_
          refine z_ci (zat_V2 95 dX11_back_95 lk_X11_164 zy_76 rfl rfl ⟨Nat.le_of_ble_eq_true rfl, Nat.le_of_ble_eq_true rfl⟩ (Nat.le_of_ble_eq_true rfl)) (tX11_linesOf E (0 : Int32) (0 : Int32) M28) (fun x30 => ?_)
          refine z_aload_n 98 dX11_back_98 rfl ?_
          refine z_iconst 99 dX11_back_99 zci_1 ?_
          refine z_iconst 100 dX11_back_100 zci_0 ?_
          refine z_ci (zat_V2 101 dX11_back_101 lk_X11_164 zy_76 rfl rfl ⟨Nat.le_of_ble_eq_true rfl, Nat.le_of_ble_eq_true rfl⟩ (Nat.le_of_ble_eq_true rfl)) (tX11_linesOf E (1 : Int32) (0 : Int32) M28) (fun x31 => ?_)
          refine z_iadd 104 dX11_back_104 ?_
          exact z_ireturn 105 dX11_back_105 rfl rfl (fun h => h)
        · refine zk_weak (L' := [some (.ref 76), some (.int p1), some (.int (0 : Int32))]) (zLe_s (zLe_s (zLe_s zLe_nl))) (zk_lp (α := Int32 × zM) 61 (fun (u26 : Int32 × zM) => match u26 with | (x23, M24) => [some (.ref 76), some (.int p1), some (.int x23)]) (fun (u27 : Int32 × zM) => match u27 with | (x23, M24) => (zY0, M24)) ?_ zFu ((0 : Int32), M14))
          intro rec25 hrec25
          intro u33
          obtain ⟨x23, M24⟩ := u33
          try dsimp only
          refine z_iload_n 61 dX11_back_61 rfl ?_
          refine z_bipush 62 dX11_back_62 zbp_10 ?_
          refine z_icge 64 92 dX11_back_64 (by decide) (fun _ => ?_) (fun _ => ?_)
          · exact zk_exitw (L' := [some (.ref 76), none, none]) (zLe_s (zLe_n (zLe_n zLe_nl))) (fun h => h)
          · refine z_aload_n 67 dX11_back_67 rfl ?_
            refine z_getR 68 (r := 81) dX11_back_68 fl_X11_22 zy_76 rfl ?_
            refine z_iload_n 71 dX11_back_71 rfl ?_
            refine z_aload_n 72 dX11_back_72 rfl ?_
            refine z_getR 73 (r := 81) dX11_back_73 fl_X11_22 zy_76 rfl ?_
            refine z_bipush 76 dX11_back_76 zbp_10 ?_
            refine z_iload_n 78 dX11_back_78 rfl ?_
            refine z_iconst 79 dX11_back_79 zci_1 ?_
            refine z_iadd 80 dX11_back_80 ?_
            refine z_imul 81 dX11_back_81 ?_
            refine z_iload_n 82 dX11_back_82 rfl ?_
            refine z_iadd 83 dX11_back_83 ?_
            refine z_iaload 84 dX11_back_84 zy_81 ?_
            refine z_iastore 85 dX11_back_85 zy_81 ?_
            refine zk_nmM (fun M29 => ?_)
            refine z_iinc 86 (v := (x23 + (1 : Int32))) (L' := [some (.ref 76), some (.int p1), some (.int (x23 + (1 : Int32)))]) dX11_back_86 rfl (zinc zci_1 _) (by decide) rfl ?_
            refine z_goto 89 61 dX11_back_89 (by decide) ?_
            exact zk_weak (L' := [some (.ref 76), some (.int p1), some (.int (x23 + (1 : Int32)))]) (zLe_s (zLe_s (zLe_s zLe_nl))) (hrec25 ((x23 + (1 : Int32)), M29))
      · refine zk_weak (L' := [some (.ref 76), some (.int p1), some (.int (0 : Int32))]) (zLe_s (zLe_s (zLe_s zLe_nl))) (zk_lp (α := Int32 × zM) 26 (fun (u12 : Int32 × zM) => match u12 with | (x9, M10) => [some (.ref 76), some (.int p1), some (.int x9)]) (fun (u13 : Int32 × zM) => match u13 with | (x9, M10) => (zY0, M10)) ?_ zFu ((0 : Int32), M))
        intro rec11 hrec11
        intro u35
        obtain ⟨x9, M10⟩ := u35
        try dsimp only
        refine z_iload_n 26 dX11_back_26 rfl ?_
        refine z_sipush 27 dX11_back_27 zsp_220 ?_
        refine z_icge 30 59 dX11_back_30 (by decide) (fun _ => ?_) (fun _ => ?_)
        · exact zk_exitw (L' := [some (.ref 76), some (.int p1), none]) (zLe_s (zLe_s (zLe_n zLe_nl))) (fun h => h)
        · refine z_aload_n 33 dX11_back_33 rfl ?_
          refine z_getR 34 (r := 84) dX11_back_34 fl_X11_31 zy_76 rfl ?_
          refine z_iload_n 37 dX11_back_37 rfl ?_
          refine z_aload_n 38 dX11_back_38 rfl ?_
          refine z_getR 39 (r := 84) dX11_back_39 fl_X11_31 zy_76 rfl ?_
          refine z_sipush 42 dX11_back_42 zsp_220 ?_
          refine z_iload_n 45 dX11_back_45 rfl ?_
          refine z_iconst 46 dX11_back_46 zci_1 ?_
          refine z_iadd 47 dX11_back_47 ?_
          refine z_imul 48 dX11_back_48 ?_
          refine z_iload_n 49 dX11_back_49 rfl ?_
          refine z_iadd 50 dX11_back_50 ?_
          refine z_iaload 51 dX11_back_51 zy_84 ?_
          refine z_iastore 52 dX11_back_52 zy_84 ?_
          refine zk_nmM (fun M15 => ?_)
          refine z_iinc 53 (v := (x9 + (1 : Int32))) (L' := [some (.ref 76), some (.int p1), some (.int (x9 + (1 : Int32)))]) dX11_back_53 rfl (zinc zci_1 _) (by decide) rfl ?_
          refine z_goto 56 26 dX11_back_56 (by decide) ?_
          exact zk_weak (L' := [some (.ref 76), some (.int p1), some (.int (x9 + (1 : Int32)))]) (zLe_s (zLe_s (zLe_s zLe_nl))) (hrec11 ((x9 + (1 : Int32)), M15))
def fX11_sheet (p1 : Int32) (p2 : Int32) (p3 : Int32) (M : zM) : Option (Int32 × zM) :=
  lt (fX11_in p1.toInt64 (0 : Int64) (3 : Int64)) (fun (b1 : Bool) => if b1 = false then (some ((-1 : Int32), M)) else (lt (fX11_in p2.toInt64 (0 : Int64) (2 : Int64)) (fun (b2 : Bool) => if b2 = false then (some ((-1 : Int32), M)) else (if p3 ≤ (64 : Int32) then (if 0 ≤ p3 then (grd (zix p1 4) (lt (zwI M 97 (zn p1) p2) (fun (M3 : zM) => grd (zix p1 4) (lt (zwI M3 98 (zn p1) p3) (fun (M4 : zM) => zlp (α := Int32 × zM) (fun rec13 => (fun (u17 : Int32 × zM) => match u17 with | (x11, M12) => if (64 : Int32) ≤ x11 then (some ((1 : Int32), M12)) else (grd (zix (((64 : Int32) * p1) + x11) 256) (lt (zwI M12 99 (zn (((64 : Int32) * p1) + x11)) (0 : Int32)) (fun (M16 : zM) => rec13 ((x11 + (1 : Int32)), M16)))))) zFu ((0 : Int32), M4)))))) else (some ((-14 : Int32), M))) else (some ((-1 : Int32), M))))))
set_option maxHeartbeats 4000000 in
set_option maxRecDepth 100000 in
theorem tX11_sheet (E : zE) (p1 : Int32) (p2 : Int32) (p3 : Int32) (M : zM) : zFI E mX11_sheet [.ref 76, .int p1, .int p2, .int p3] zY0 M (fX11_sheet p1 p2 p3 M) := by
  refine zF_of (L := [some (.ref 76), some (.int p1), some (.int p2), some (.int p3), none]) plX11 (Nat.le_of_ble_eq_true rfl) rfl (fun post => ?_)
  unfold fX11_sheet
  refine z_iload_n 0 dX11_sheet_0 rfl ?_
  refine z_i2l 1 dX11_sheet_1 ?_
  refine z_lconst 2 dX11_sheet_2 zlc_0 ?_
  refine z_ldc2 3 dX11_sheet_3 cw_X11_191 ?_
  refine z_ctb (zat_S3 6 dX11_sheet_6 lk_X11_85 ⟨Nat.le_of_ble_eq_true rfl, Nat.le_of_ble_eq_true rfl⟩ (Nat.le_of_ble_eq_true rfl)) (tX11_in E zY0 p1.toInt64 (0 : Int64) (3 : Int64) M) (fun b1 => ?_)
  refine z_ifeqb 9 30 dX11_sheet_9 (by decide) (fun _ => ?_) (fun _ => ?_)
  · refine z_iconst 30 dX11_sheet_30 zci_m1 ?_
    exact z_ireturn 31 dX11_sheet_31 rfl rfl (fun h => h)
  · refine z_iload_n 12 dX11_sheet_12 rfl ?_
    refine z_i2l 13 dX11_sheet_13 ?_
    refine z_lconst 14 dX11_sheet_14 zlc_0 ?_
    refine z_ldc2 15 dX11_sheet_15 cw_X11_185 ?_
    refine z_ctb (zat_S3 18 dX11_sheet_18 lk_X11_85 ⟨Nat.le_of_ble_eq_true rfl, Nat.le_of_ble_eq_true rfl⟩ (Nat.le_of_ble_eq_true rfl)) (tX11_in E zY0 p2.toInt64 (0 : Int64) (2 : Int64) M) (fun b2 => ?_)
    refine z_ifeqb 21 30 dX11_sheet_21 (by decide) (fun _ => ?_) (fun _ => ?_)
    · refine z_iconst 30 dX11_sheet_30 zci_m1 ?_
      exact z_ireturn 31 dX11_sheet_31 rfl rfl (fun h => h)
    · refine z_iload_n 24 dX11_sheet_24 rfl ?_
      refine z_bipush 25 dX11_sheet_25 zbp_64 ?_
      refine z_icle 27 32 dX11_sheet_27 (by decide) (fun _ => ?_) (fun _ => ?_)
      · refine z_iload_n 32 dX11_sheet_32 rfl ?_
        refine z_ifge 33 39 dX11_sheet_33 (by decide) (fun _ => ?_) (fun _ => ?_)
        · refine z_aload_n 39 dX11_sheet_39 rfl ?_
          refine z_getR 40 (r := 97) dX11_sheet_40 fl_X11_72 zy_76 rfl ?_
          refine z_iload_n 43 dX11_sheet_43 rfl ?_
          refine z_iload_n 44 dX11_sheet_44 rfl ?_
          refine z_iastore 45 dX11_sheet_45 zy_97 ?_
          refine zk_nmM (fun M3 => ?_)
          refine z_aload_n 46 dX11_sheet_46 rfl ?_
          refine z_getR 47 (r := 98) dX11_sheet_47 fl_X11_75 zy_76 rfl ?_
          refine z_iload_n 50 dX11_sheet_50 rfl ?_
          refine z_iload_n 51 dX11_sheet_51 rfl ?_
          refine z_iastore 52 dX11_sheet_52 zy_98 ?_
          refine zk_nmM (fun M4 => ?_)
          refine z_iconst 53 dX11_sheet_53 zci_0 ?_
          refine z_istore 54 (L' := [some (.ref 76), some (.int p1), some (.int p2), some (.int p3), some (.int (0 : Int32))]) dX11_sheet_54 (by decide) rfl ?_
          refine zk_weak (L' := [some (.ref 76), some (.int p1), none, none, some (.int (0 : Int32))]) (zLe_s (zLe_s (zLe_n (zLe_n (zLe_s zLe_nl))))) (zk_lp (α := Int32 × zM) 56 (fun (u14 : Int32 × zM) => match u14 with | (x11, M12) => [some (.ref 76), some (.int p1), none, none, some (.int x11)]) (fun (u15 : Int32 × zM) => match u15 with | (x11, M12) => (zY0, M12)) ?_ zFu ((0 : Int32), M4))
          intro rec13 hrec13
          intro u18
          obtain ⟨x11, M12⟩ := u18
          try dsimp only
          refine z_iload 56 dX11_sheet_56 rfl ?_
          refine z_bipush 58 dX11_sheet_58 zbp_64 ?_
          refine z_icge 60 82 dX11_sheet_60 (by decide) (fun _ => ?_) (fun _ => ?_)
          · refine z_iconst 82 dX11_sheet_82 zci_1 ?_
            exact z_ireturn 83 dX11_sheet_83 rfl rfl (fun h => h)
          · refine z_aload_n 63 dX11_sheet_63 rfl ?_
            refine z_getR 64 (r := 99) dX11_sheet_64 fl_X11_78 zy_76 rfl ?_
            refine z_bipush 67 dX11_sheet_67 zbp_64 ?_
            refine z_iload_n 69 dX11_sheet_69 rfl ?_
            refine z_imul 70 dX11_sheet_70 ?_
            refine z_iload 71 dX11_sheet_71 rfl ?_
            refine z_iadd 73 dX11_sheet_73 ?_
            refine z_iconst 74 dX11_sheet_74 zci_0 ?_
            refine z_iastore 75 dX11_sheet_75 zy_99 ?_
            refine zk_nmM (fun M16 => ?_)
            refine z_iinc 76 (v := (x11 + (1 : Int32))) (L' := [some (.ref 76), some (.int p1), none, none, some (.int (x11 + (1 : Int32)))]) dX11_sheet_76 rfl (zinc zci_1 _) (by decide) rfl ?_
            refine z_goto 79 56 dX11_sheet_79 (by decide) ?_
            exact zk_weak (L' := [some (.ref 76), some (.int p1), none, none, some (.int (x11 + (1 : Int32)))]) (zLe_s (zLe_s (zLe_n (zLe_n (zLe_s zLe_nl))))) (hrec13 ((x11 + (1 : Int32)), M16))
        · refine z_bipush 36 dX11_sheet_36 zbp_m14 ?_
          exact z_ireturn 38 dX11_sheet_38 rfl rfl (fun h => h)
      · refine z_iconst 30 dX11_sheet_30 zci_m1 ?_
        exact z_ireturn 31 dX11_sheet_31 rfl rfl (fun h => h)
def fX11_lay (p1 : Int32) (p2 : Int32) (p3 : Int32) (M : zM) : Option (Int32 × zM) :=
  lt (fX11_in p1.toInt64 (0 : Int64) (3 : Int64)) (fun (b1 : Bool) => if b1 = false then (some ((-1 : Int32), M)) else (grd (zix p1 4) (if (M.1 97 (zn p1)) = (-4 : Int32) then (some ((-11 : Int32), M)) else (grd (zix p1 4) (lt (fX11_in p2.toInt64 (0 : Int64) (((M.1 98 (zn p1)) - (1 : Int32))).toInt64) (fun (b2 : Bool) => if b2 = false then (some ((-12 : Int32), M)) else (grd (zix p1 4) (sq (α := Int32) (if (M.1 97 (zn p1)) = 0 then (some ((p3 <<< ((24 : Int32) &&& 31)) >>> ((24 : Int32) &&& 31))) else (grd (zix p1 4) (if (M.1 97 (zn p1)) = (1 : Int32) then (some ((p3 <<< ((16 : Int32) &&& 31)) >>> ((16 : Int32) &&& 31))) else (some p3)))) (fun (x3 : Int32) => grd (zix (((64 : Int32) * p1) + p2) 256) (lt (zwI M 99 (zn (((64 : Int32) * p1) + p2)) x3) (fun (M4 : zM) => some ((1 : Int32), M4))))))))))))
set_option maxHeartbeats 4000000 in
set_option maxRecDepth 100000 in
theorem tX11_lay (E : zE) (p1 : Int32) (p2 : Int32) (p3 : Int32) (M : zM) : zFI E mX11_lay [.ref 76, .int p1, .int p2, .int p3] zY0 M (fX11_lay p1 p2 p3 M) := by
  refine zF_of (L := [some (.ref 76), some (.int p1), some (.int p2), some (.int p3)]) plX11 (Nat.le_of_ble_eq_true rfl) rfl (fun post => ?_)
  unfold fX11_lay
  refine z_iload_n 0 dX11_lay_0 rfl ?_
  refine z_i2l 1 dX11_lay_1 ?_
  refine z_lconst 2 dX11_lay_2 zlc_0 ?_
  refine z_ldc2 3 dX11_lay_3 cw_X11_191 ?_
  refine z_ctb (zat_S3 6 dX11_lay_6 lk_X11_85 ⟨Nat.le_of_ble_eq_true rfl, Nat.le_of_ble_eq_true rfl⟩ (Nat.le_of_ble_eq_true rfl)) (tX11_in E zY0 p1.toInt64 (0 : Int64) (3 : Int64) M) (fun b1 => ?_)
  refine z_ifneb 9 14 dX11_lay_9 (by decide) (fun _ => ?_) (fun _ => ?_)
  · refine z_iconst 12 dX11_lay_12 zci_m1 ?_
    exact z_ireturn 13 dX11_lay_13 rfl rfl (fun h => h)
  · refine z_aload_n 14 dX11_lay_14 rfl ?_
    refine z_getR 15 (r := 97) dX11_lay_15 fl_X11_72 zy_76 rfl ?_
    refine z_iload_n 18 dX11_lay_18 rfl ?_
    refine z_iaload 19 dX11_lay_19 zy_97 ?_
    refine z_bipush 20 dX11_lay_20 zbp_m4 ?_
    refine z_icne 22 28 dX11_lay_22 (by decide) (fun _ => ?_) (fun _ => ?_)
    · refine z_bipush 25 dX11_lay_25 zbp_m11 ?_
      exact z_ireturn 27 dX11_lay_27 rfl rfl (fun h => h)
    · refine z_iload_n 28 dX11_lay_28 rfl ?_
      refine z_i2l 29 dX11_lay_29 ?_
      refine z_lconst 30 dX11_lay_30 zlc_0 ?_
      refine z_aload_n 31 dX11_lay_31 rfl ?_
      refine z_getR 32 (r := 98) dX11_lay_32 fl_X11_75 zy_76 rfl ?_
      refine z_iload_n 35 dX11_lay_35 rfl ?_
      refine z_iaload 36 dX11_lay_36 zy_98 ?_
      refine z_iconst 37 dX11_lay_37 zci_1 ?_
      refine z_isub 38 dX11_lay_38 ?_
      refine z_i2l 39 dX11_lay_39 ?_
      refine z_ctb (zat_S3 40 dX11_lay_40 lk_X11_85 ⟨Nat.le_of_ble_eq_true rfl, Nat.le_of_ble_eq_true rfl⟩ (Nat.le_of_ble_eq_true rfl)) (tX11_in E zY0 p2.toInt64 (0 : Int64) (((M.1 98 (zn p1)) - (1 : Int32))).toInt64 M) (fun b2 => ?_)
      refine z_ifneb 43 49 dX11_lay_43 (by decide) (fun _ => ?_) (fun _ => ?_)
      · refine z_bipush 46 dX11_lay_46 zbp_m12 ?_
        exact z_ireturn 48 dX11_lay_48 rfl rfl (fun h => h)
      · refine z_aload_n 49 dX11_lay_49 rfl ?_
        refine z_getR 50 (r := 99) dX11_lay_50 fl_X11_78 zy_76 rfl ?_
        refine z_bipush 53 dX11_lay_53 zbp_64 ?_
        refine z_iload_n 55 dX11_lay_55 rfl ?_
        refine z_imul 56 dX11_lay_56 ?_
        refine z_iload_n 57 dX11_lay_57 rfl ?_
        refine z_iadd 58 dX11_lay_58 ?_
        refine z_aload_n 59 dX11_lay_59 rfl ?_
        refine z_getR 60 (r := 97) dX11_lay_60 fl_X11_72 zy_76 rfl ?_
        refine z_iload_n 63 dX11_lay_63 rfl ?_
        refine z_iaload 64 dX11_lay_64 zy_97 ?_
        refine zk_sqj (α := Int32) 99 (fun (x3 : Int32) => [none, none, none, none]) (fun (x3 : Int32) => [.int x3, .int (((64 : Int32) * p1) + p2), .ref 99]) (fun (x3 : Int32) => (zY0, M)) ?_ ?_
        · intro x3
          refine z_iastore 99 dX11_lay_99 zy_99 ?_
          refine zk_nmM (fun M4 => ?_)
          refine z_iconst 100 dX11_lay_100 zci_1 ?_
          exact z_ireturn 101 dX11_lay_101 rfl rfl (fun h => h)
        · refine z_ifne 65 78 dX11_lay_65 (by decide) (fun _ => ?_) (fun _ => ?_)
          · refine z_iload_n 68 dX11_lay_68 rfl ?_
            refine z_bipush 69 dX11_lay_69 zbp_24 ?_
            refine z_ishl 71 dX11_lay_71 ?_
            refine z_bipush 72 dX11_lay_72 zbp_24 ?_
            refine z_ishr 74 dX11_lay_74 ?_
            refine z_goto 75 99 dX11_lay_75 (by decide) ?_
            exact zk_exitw (L' := [none, none, none, none]) (zLe_n (zLe_n (zLe_n (zLe_n zLe_nl)))) (fun h => h)
          · refine z_aload_n 78 dX11_lay_78 rfl ?_
            refine z_getR 79 (r := 97) dX11_lay_79 fl_X11_72 zy_76 rfl ?_
            refine z_iload_n 82 dX11_lay_82 rfl ?_
            refine z_iaload 83 dX11_lay_83 zy_97 ?_
            refine z_iconst 84 dX11_lay_84 zci_1 ?_
            refine z_icne 85 98 dX11_lay_85 (by decide) (fun _ => ?_) (fun _ => ?_)
            · refine z_iload_n 88 dX11_lay_88 rfl ?_
              refine z_bipush 89 dX11_lay_89 zbp_16 ?_
              refine z_ishl 91 dX11_lay_91 ?_
              refine z_bipush 92 dX11_lay_92 zbp_16 ?_
              refine z_ishr 94 dX11_lay_94 ?_
              refine z_goto 95 99 dX11_lay_95 (by decide) ?_
              exact zk_exitw (L' := [none, none, none, none]) (zLe_n (zLe_n (zLe_n (zLe_n zLe_nl)))) (fun h => h)
            · refine z_iload_n 98 dX11_lay_98 rfl ?_
              exact zk_exitw (L' := [none, none, none, none]) (zLe_n (zLe_n (zLe_n (zLe_n zLe_nl)))) (fun h => h)
def fX11_isAsTold (p1 : Int32) (M : zM) : Option Bool :=
  grd (zix p1 256) (lt (fX11_in ((M.1 99 (zn p1))).toInt64 (0 : Int64) (999 : Int64)) (fun (b1 : Bool) => sq (α := Bool) (jn (α := Unit) (fun (_ : Unit) => some false) (fun k30 => if b1 = false then (k30 ()) else (grd (zix (p1 + (5 : Int32)) 256) (lt (fX11_in ((M.1 99 (zn (p1 + (5 : Int32))))).toInt64 (0 : Int64) (6 : Int64)) (fun (b31 : Bool) => if b31 = false then (k30 ()) else (some true)))))) (fun (b5 : Bool) => zlp (α := Bool × Int32) (fun rec17 => (fun (u27 : Bool × Int32) => match u27 with | (b15, x16) => if (4 : Int32) < x16 then (some b15) else (sq (α := Bool) (jn (α := Unit) (fun (_ : Unit) => some false) (fun k25 => if b15 = false then (k25 ()) else (grd (zix (p1 + x16) 256) (lt (fX11_in ((M.1 99 (zn (p1 + x16)))).toInt64 (0 : Int64) (16 : Int64)) (fun (b26 : Bool) => if b26 = false then (k25 ()) else (some true)))))) (fun (b23 : Bool) => rec17 (b23, (x16 + (1 : Int32))))))) zFu (b5, (1 : Int32)))))
set_option maxHeartbeats 4000000 in
set_option maxRecDepth 100000 in
theorem tX11_isAsTold (E : zE) (p1 : Int32) (M : zM) : zFb E mX11_isAsTold [.ref 76, .int p1] zY0 M (fX11_isAsTold p1 M) := by
  refine zF_of (L := [some (.ref 76), some (.int p1), none, none]) plX11 (Nat.le_of_ble_eq_true rfl) rfl (fun post => ?_)
  unfold fX11_isAsTold
  refine z_aload_n 0 dX11_isAsTold_0 rfl ?_
  refine z_getR 1 (r := 99) dX11_isAsTold_1 fl_X11_78 zy_76 rfl ?_
  refine z_iload_n 4 dX11_isAsTold_4 rfl ?_
  refine z_iaload 5 dX11_isAsTold_5 zy_99 ?_
  refine z_i2l 6 dX11_isAsTold_6 ?_
  refine z_lconst 7 dX11_isAsTold_7 zlc_0 ?_
  refine z_ldc2 8 dX11_isAsTold_8 cw_X11_167 ?_
  refine z_ctb (zat_S3 11 dX11_isAsTold_11 lk_X11_85 ⟨Nat.le_of_ble_eq_true rfl, Nat.le_of_ble_eq_true rfl⟩ (Nat.le_of_ble_eq_true rfl)) (tX11_in E zY0 ((M.1 99 (zn p1))).toInt64 (0 : Int64) (999 : Int64) M) (fun b1 => ?_)
  refine zk_sqj (α := Bool) 41 (fun (b5 : Bool) => [some (.ref 76), some (.int p1), none, none]) (fun (b5 : Bool) => [.int (zb b5)]) (fun (b5 : Bool) => (zY0, M)) ?_ ?_
  · intro b5
    refine z_istore_n 41 (L' := [some (.ref 76), some (.int p1), some (.int (zb b5)), none]) dX11_isAsTold_41 (by decide) rfl ?_
    refine z_iconst 42 dX11_isAsTold_42 zci_1 ?_
    refine z_istore_n 43 (L' := [some (.ref 76), some (.int p1), some (.int (zb b5)), some (.int (1 : Int32))]) dX11_isAsTold_43 (by decide) rfl ?_
    refine zk_weak (L' := [some (.ref 76), some (.int p1), some (.int (zb b5)), some (.int (1 : Int32))]) (zLe_s (zLe_s (zLe_s (zLe_s zLe_nl)))) (zk_lp (α := Bool × Int32) 44 (fun (u18 : Bool × Int32) => match u18 with | (b15, x16) => [some (.ref 76), some (.int p1), some (.int (zb b15)), some (.int x16)]) (fun (u19 : Bool × Int32) => match u19 with | (b15, x16) => (zY0, M)) ?_ zFu (b5, (1 : Int32)))
    intro rec17 hrec17
    intro u28
    obtain ⟨b15, x16⟩ := u28
    try dsimp only
    refine z_iload_n 44 dX11_isAsTold_44 rfl ?_
    refine z_iconst 45 dX11_isAsTold_45 zci_4 ?_
    refine z_icgt 46 84 dX11_isAsTold_46 (by decide) (fun _ => ?_) (fun _ => ?_)
    · refine z_iload_n 84 dX11_isAsTold_84 rfl ?_
      exact z_ireturn 85 (v := zb b15) dX11_isAsTold_85 rfl (zput_b b15).1 (fun h => h)
    · refine z_iload_n 49 dX11_isAsTold_49 rfl ?_
      refine zk_sqj (α := Bool) 77 (fun (b23 : Bool) => [some (.ref 76), some (.int p1), none, some (.int x16)]) (fun (b23 : Bool) => [.int (zb b23)]) (fun (b23 : Bool) => (zY0, M)) ?_ ?_
      · intro b23
        refine z_istore_n 77 (L' := [some (.ref 76), some (.int p1), some (.int (zb b23)), some (.int x16)]) dX11_isAsTold_77 (by decide) rfl ?_
        refine z_iinc 78 (v := (x16 + (1 : Int32))) (L' := [some (.ref 76), some (.int p1), some (.int (zb b23)), some (.int (x16 + (1 : Int32)))]) dX11_isAsTold_78 rfl (zinc zci_1 _) (by decide) rfl ?_
        refine z_goto 81 44 dX11_isAsTold_81 (by decide) ?_
        exact zk_weak (L' := [some (.ref 76), some (.int p1), some (.int (zb b23)), some (.int (x16 + (1 : Int32)))]) (zLe_s (zLe_s (zLe_s (zLe_s zLe_nl)))) (hrec17 (b23, (x16 + (1 : Int32))))
      · refine zk_jn (α := Unit) 76 (fun (_ : Unit) => [some (.ref 76), some (.int p1), none, some (.int x16)]) (fun (_ : Unit) => []) (fun (_ : Unit) => (zY0, M)) ?_ ?_
        · intro _
          refine z_iconst 76 dX11_isAsTold_76 zci_0 ?_
          exact zk_exitw (L' := [some (.ref 76), some (.int p1), none, some (.int x16)]) (zLe_s (zLe_s (zLe_n (zLe_s zLe_nl)))) (fun h => h)
        · intro k25 hk25
          refine z_ifeqb 50 76 dX11_isAsTold_50 (by decide) (fun _ => ?_) (fun _ => ?_)
          · exact zk_weak (L' := [some (.ref 76), some (.int p1), none, some (.int x16)]) (zLe_s (zLe_s (zLe_n (zLe_s zLe_nl)))) (hk25 ())
          · refine z_aload_n 53 dX11_isAsTold_53 rfl ?_
            refine z_getR 54 (r := 99) dX11_isAsTold_54 fl_X11_78 zy_76 rfl ?_
            refine z_iload_n 57 dX11_isAsTold_57 rfl ?_
            refine z_iload_n 58 dX11_isAsTold_58 rfl ?_
            refine z_iadd 59 dX11_isAsTold_59 ?_
            refine z_iaload 60 dX11_isAsTold_60 zy_99 ?_
            refine z_i2l 61 dX11_isAsTold_61 ?_
            refine z_lconst 62 dX11_isAsTold_62 zlc_0 ?_
            refine z_ldc2 63 dX11_isAsTold_63 cw_X11_193 ?_
            refine z_ctb (zat_S3 66 dX11_isAsTold_66 lk_X11_85 ⟨Nat.le_of_ble_eq_true rfl, Nat.le_of_ble_eq_true rfl⟩ (Nat.le_of_ble_eq_true rfl)) (tX11_in E zY0 ((M.1 99 (zn (p1 + x16)))).toInt64 (0 : Int64) (16 : Int64) M) (fun b26 => ?_)
            refine z_ifeqb 69 76 dX11_isAsTold_69 (by decide) (fun _ => ?_) (fun _ => ?_)
            · exact zk_weak (L' := [some (.ref 76), some (.int p1), none, some (.int x16)]) (zLe_s (zLe_s (zLe_n (zLe_s zLe_nl)))) (hk25 ())
            · refine z_iconst 72 dX11_isAsTold_72 zci_1 ?_
              refine z_goto 73 77 dX11_isAsTold_73 (by decide) ?_
              exact zk_exitw (L' := [some (.ref 76), some (.int p1), none, some (.int x16)]) (zLe_s (zLe_s (zLe_n (zLe_s zLe_nl)))) (fun h => h)
  · refine zk_jn (α := Unit) 40 (fun (_ : Unit) => [some (.ref 76), some (.int p1), none, none]) (fun (_ : Unit) => []) (fun (_ : Unit) => (zY0, M)) ?_ ?_
    · intro _
      refine z_iconst 40 dX11_isAsTold_40 zci_0 ?_
      exact zk_exitw (L' := [some (.ref 76), some (.int p1), none, none]) (zLe_s (zLe_s (zLe_n (zLe_n zLe_nl)))) (fun h => h)
    · intro k30 hk30
      refine z_ifeqb 14 40 dX11_isAsTold_14 (by decide) (fun _ => ?_) (fun _ => ?_)
      · exact zk_weak (L' := [some (.ref 76), some (.int p1), none, none]) (zLe_s (zLe_s (zLe_n (zLe_n zLe_nl)))) (hk30 ())
      · refine z_aload_n 17 dX11_isAsTold_17 rfl ?_
        refine z_getR 18 (r := 99) dX11_isAsTold_18 fl_X11_78 zy_76 rfl ?_
        refine z_iload_n 21 dX11_isAsTold_21 rfl ?_
        refine z_iconst 22 dX11_isAsTold_22 zci_5 ?_
        refine z_iadd 23 dX11_isAsTold_23 ?_
        refine z_iaload 24 dX11_isAsTold_24 zy_99 ?_
        refine z_i2l 25 dX11_isAsTold_25 ?_
        refine z_lconst 26 dX11_isAsTold_26 zlc_0 ?_
        refine z_ldc2 27 dX11_isAsTold_27 cw_X11_171 ?_
        refine z_ctb (zat_S3 30 dX11_isAsTold_30 lk_X11_85 ⟨Nat.le_of_ble_eq_true rfl, Nat.le_of_ble_eq_true rfl⟩ (Nat.le_of_ble_eq_true rfl)) (tX11_in E zY0 ((M.1 99 (zn (p1 + (5 : Int32))))).toInt64 (0 : Int64) (6 : Int64) M) (fun b31 => ?_)
        refine z_ifeqb 33 40 dX11_isAsTold_33 (by decide) (fun _ => ?_) (fun _ => ?_)
        · exact zk_weak (L' := [some (.ref 76), some (.int p1), none, none]) (zLe_s (zLe_s (zLe_n (zLe_n zLe_nl)))) (hk30 ())
        · refine z_iconst 36 dX11_isAsTold_36 zci_1 ?_
          refine z_goto 37 41 dX11_isAsTold_37 (by decide) ?_
          exact zk_exitw (L' := [some (.ref 76), some (.int p1), none, none]) (zLe_s (zLe_s (zLe_n (zLe_n zLe_nl)))) (fun h => h)
def fX11_read (p1 : Int32) (p2 : Int32) (p3 : Int32) (p4 : Int32) (p5 : Int32) (M : zM) : Option (Int32 × zM) :=
  lt (fX11_in p1.toInt64 (0 : Int64) (3 : Int64)) (fun (b1 : Bool) => if b1 = false then (some ((-1 : Int32), M)) else (lt (fX11_in p2.toInt64 (0 : Int64) (2 : Int64)) (fun (b2 : Bool) => if b2 = false then (some ((-1 : Int32), M)) else (lt (fX11_in p4.toInt64 (0 : Int64) (10 : Int64)) (fun (b3 : Bool) => if b3 = false then (some ((-1 : Int32), M)) else (lt (fX11_isEnd p5) (fun (b4 : Bool) => if b4 = false then (some ((-1 : Int32), M)) else (zlp (α := Int32 × Int32 × Int32) (fun rec41 => (fun (u108 : Int32 × Int32 × Int32) => match u108 with | (x38, x39, x40) => jn (α := Unit) (fun (_ : Unit) => sq (α := zM) (zlp (α := Int32 × zM) (β := zM) (fun rec79 => (fun (u96 : Int32 × zM) => match u96 with | (x77, M78) => if x39 ≤ x77 then (some M78) else (sq (α := zM) (zlp (α := Int32 × zM) (β := zM) (fun rec85 => (fun (u93 : Int32 × zM) => match u93 with | (x83, M84) => if (6 : Int32) ≤ x83 then (some M84) else (sq (fX11_linesOf p5 (0 : Int32) M84) (fun (x89 : Int32) => grd (zix (((((64 : Int32) * p1) + p3) + ((6 : Int32) * x77)) + x83) 256) (sq (fX11_setIts p5 x89 x83 (M84.1 99 (zn (((((64 : Int32) * p1) + p3) + ((6 : Int32) * x77)) + x83))) M84) (fun (M90 : zM) => rec85 ((x83 + (1 : Int32)), M90))))))) zFu ((0 : Int32), M78)) (fun (M88 : zM) => lt (((64 : Int32) + p5)) (fun (x91 : Int32) => grd (zix x91 660) (grd (zix x91 660) (lt (zwI M88 84 (zn x91) ((M88.1 84 (zn x91)) + (1 : Int32))) (fun (M92 : zM) => rec79 ((x77 + (1 : Int32)), M92))))))))) zFu ((0 : Int32), M)) (fun (M82 : zM) => lt (zwI M82 76 32 x38) (fun (M95 : zM) => some (x39, M95)))) (fun k98 => if ((6 : Int32) * p4) ≤ x40 then (k98 ()) else (if x38 = 0 then (grd (zix p1 4) (sq (α := Int32) (if (M.1 97 (zn p1)) = (-4 : Int32) then (some (1 : Int32)) else (grd (zix p1 4) (if (M.1 97 (zn p1)) = p2 then (grd (zix p1 4) (lt (fX11_in (p3.toInt64 + x40.toInt64) (0 : Int64) (((M.1 98 (zn p1)) - (1 : Int32))).toInt64) (fun (b107 : Bool) => if b107 = false then (some (2 : Int32)) else (some (0 : Int32))))) else (some (3 : Int32))))) (fun (x100 : Int32) => jn (α := Int32) (fun (x103 : Int32) => rec41 (x100, x103, (x40 + (1 : Int32)))) (fun k104 => if x100 = 0 then (if (zrm_i x40 (6 : Int32)) = (5 : Int32) then (sq (fX11_isAsTold (((((64 : Int32) * p1) + p3) + x40) - (5 : Int32)) M) (fun (b105 : Bool) => if b105 = false then (some (((-20 : Int32) - x39), M)) else (sq (fX11_linesOf p5 x39 M) (fun (x106 : Int32) => if x106 = (10 : Int32) then (some ((-3 : Int32), M)) else (k104 (x39 + (1 : Int32))))))) else (k104 x39)) else (k104 x39))))) else (k98 ()))))) zFu ((0 : Int32), (0 : Int32), (0 : Int32))))))))))
set_option maxHeartbeats 4000000 in
set_option maxRecDepth 100000 in
theorem tX11_read (E : zE) (p1 : Int32) (p2 : Int32) (p3 : Int32) (p4 : Int32) (p5 : Int32) (M : zM) : zFI E mX11_read [.ref 76, .int p1, .int p2, .int p3, .int p4, .int p5] zY0 M (fX11_read p1 p2 p3 p4 p5 M) := by
  refine zF_of (L := [some (.ref 76), some (.int p1), some (.int p2), some (.int p3), some (.int p4), some (.int p5), none, none, none, none]) plX11 (Nat.le_of_ble_eq_true rfl) rfl (fun post => ?_)
  unfold fX11_read
  refine z_iload_n 0 dX11_read_0 rfl ?_
  refine z_i2l 1 dX11_read_1 ?_
  refine z_lconst 2 dX11_read_2 zlc_0 ?_
  refine z_ldc2 3 dX11_read_3 cw_X11_191 ?_
  refine z_ctb (zat_S3 6 dX11_read_6 lk_X11_85 ⟨Nat.le_of_ble_eq_true rfl, Nat.le_of_ble_eq_true rfl⟩ (Nat.le_of_ble_eq_true rfl)) (tX11_in E zY0 p1.toInt64 (0 : Int64) (3 : Int64) M) (fun b1 => ?_)
  refine z_ifeqb 9 45 dX11_read_9 (by decide) (fun _ => ?_) (fun _ => ?_)
  · refine z_iconst 45 dX11_read_45 zci_m1 ?_
    exact z_ireturn 46 dX11_read_46 rfl rfl (fun h => h)
  · refine z_iload_n 12 dX11_read_12 rfl ?_
    refine z_i2l 13 dX11_read_13 ?_
    refine z_lconst 14 dX11_read_14 zlc_0 ?_
    refine z_ldc2 15 dX11_read_15 cw_X11_185 ?_
    refine z_ctb (zat_S3 18 dX11_read_18 lk_X11_85 ⟨Nat.le_of_ble_eq_true rfl, Nat.le_of_ble_eq_true rfl⟩ (Nat.le_of_ble_eq_true rfl)) (tX11_in E zY0 p2.toInt64 (0 : Int64) (2 : Int64) M) (fun b2 => ?_)
    refine z_ifeqb 21 45 dX11_read_21 (by decide) (fun _ => ?_) (fun _ => ?_)
    · refine z_iconst 45 dX11_read_45 zci_m1 ?_
      exact z_ireturn 46 dX11_read_46 rfl rfl (fun h => h)
    · refine z_iload 24 dX11_read_24 rfl ?_
      refine z_i2l 26 dX11_read_26 ?_
      refine z_lconst 27 dX11_read_27 zlc_0 ?_
      refine z_ldc2 28 dX11_read_28 cw_X11_187 ?_
      refine z_ctb (zat_S3 31 dX11_read_31 lk_X11_85 ⟨Nat.le_of_ble_eq_true rfl, Nat.le_of_ble_eq_true rfl⟩ (Nat.le_of_ble_eq_true rfl)) (tX11_in E zY0 p4.toInt64 (0 : Int64) (10 : Int64) M) (fun b3 => ?_)
      refine z_ifeqb 34 45 dX11_read_34 (by decide) (fun _ => ?_) (fun _ => ?_)
      · refine z_iconst 45 dX11_read_45 zci_m1 ?_
        exact z_ireturn 46 dX11_read_46 rfl rfl (fun h => h)
      · refine z_iload 37 dX11_read_37 rfl ?_
        refine z_ctb (zat_S1 39 dX11_read_39 lk_X11_161 ⟨Nat.le_of_ble_eq_true rfl, Nat.le_of_ble_eq_true rfl⟩ (Nat.le_of_ble_eq_true rfl)) (tX11_isEnd E zY0 p5 M) (fun b4 => ?_)
        refine z_ifneb 42 47 dX11_read_42 (by decide) (fun _ => ?_) (fun _ => ?_)
        · refine z_iconst 45 dX11_read_45 zci_m1 ?_
          exact z_ireturn 46 dX11_read_46 rfl rfl (fun h => h)
        · refine z_iconst 47 dX11_read_47 zci_0 ?_
          refine z_istore 48 (L' := [some (.ref 76), some (.int p1), some (.int p2), some (.int p3), some (.int p4), some (.int p5), some (.int (0 : Int32)), none, none, none]) dX11_read_48 (by decide) rfl ?_
          refine z_iconst 50 dX11_read_50 zci_0 ?_
          refine z_istore 51 (L' := [some (.ref 76), some (.int p1), some (.int p2), some (.int p3), some (.int p4), some (.int p5), some (.int (0 : Int32)), some (.int (0 : Int32)), none, none]) dX11_read_51 (by decide) rfl ?_
          refine z_iconst 53 dX11_read_53 zci_0 ?_
          refine z_istore 54 (L' := [some (.ref 76), some (.int p1), some (.int p2), some (.int p3), some (.int p4), some (.int p5), some (.int (0 : Int32)), some (.int (0 : Int32)), some (.int (0 : Int32)), none]) dX11_read_54 (by decide) rfl ?_
          refine zk_weak (L' := [some (.ref 76), some (.int p1), some (.int p2), some (.int p3), some (.int p4), some (.int p5), some (.int (0 : Int32)), some (.int (0 : Int32)), some (.int (0 : Int32)), none]) (zLe_s (zLe_s (zLe_s (zLe_s (zLe_s (zLe_s (zLe_s (zLe_s (zLe_s (zLe_n zLe_nl)))))))))) (zk_lp (α := Int32 × Int32 × Int32) 56 (fun (u42 : Int32 × Int32 × Int32) => match u42 with | (x38, x39, x40) => [some (.ref 76), some (.int p1), some (.int p2), some (.int p3), some (.int p4), some (.int p5), some (.int x38), some (.int x39), some (.int x40), none]) (fun (u43 : Int32 × Int32 × Int32) => match u43 with | (x38, x39, x40) => (zY0, M)) ?_ zFu ((0 : Int32), (0 : Int32), (0 : Int32)))
          intro rec41 hrec41
          intro u109
          obtain ⟨x38, x39, x40⟩ := u109
          try dsimp only
          refine z_iload 56 dX11_read_56 rfl ?_
          refine z_bipush 58 dX11_read_58 zbp_6 ?_
          refine z_iload 60 dX11_read_60 rfl ?_
          refine z_imul 62 dX11_read_62 ?_
          refine zk_jn (α := Unit) 192 (fun (_ : Unit) => [some (.ref 76), some (.int p1), none, some (.int p3), none, some (.int p5), some (.int x38), some (.int x39), none, none]) (fun (_ : Unit) => []) (fun (_ : Unit) => (zY0, M)) ?_ ?_
          · intro _
            refine z_iconst 192 dX11_read_192 zci_0 ?_
            refine z_istore 193 (L' := [some (.ref 76), some (.int p1), none, some (.int p3), none, some (.int p5), some (.int x38), some (.int x39), some (.int (0 : Int32)), none]) dX11_read_193 (by decide) rfl ?_
            refine zk_sqj (α := zM) 273 (fun (M82 : zM) => [some (.ref 76), none, none, none, none, none, some (.int x38), some (.int x39), none, none]) (fun (M82 : zM) => []) (fun (M82 : zM) => (zY0, M82)) ?_ ?_
            · intro M82
              refine z_aload_n 273 dX11_read_273 rfl ?_
              refine z_iload 274 dX11_read_274 rfl ?_
              refine z_put 276 dX11_read_276 fp_X11_297 zy_76 rfl (zput_i _) ?_
              refine zk_nmM (fun M95 => ?_)
              refine z_iload 279 dX11_read_279 rfl ?_
              exact z_ireturn 281 dX11_read_281 rfl rfl (fun h => h)
            · refine zk_weak (L' := [some (.ref 76), some (.int p1), none, some (.int p3), none, some (.int p5), some (.int x38), some (.int x39), some (.int (0 : Int32)), none]) (zLe_s (zLe_s (zLe_n (zLe_s (zLe_n (zLe_s (zLe_s (zLe_s (zLe_s (zLe_n zLe_nl)))))))))) (zk_lp (α := Int32 × zM) 195 (fun (u80 : Int32 × zM) => match u80 with | (x77, M78) => [some (.ref 76), some (.int p1), none, some (.int p3), none, some (.int p5), some (.int x38), some (.int x39), some (.int x77), none]) (fun (u81 : Int32 × zM) => match u81 with | (x77, M78) => (zY0, M78)) ?_ zFu ((0 : Int32), M))
              intro rec79 hrec79
              intro u97
              obtain ⟨x77, M78⟩ := u97
              try dsimp only
              refine z_iload 195 dX11_read_195 rfl ?_
              refine z_iload 197 dX11_read_197 rfl ?_
              refine z_icge 199 273 dX11_read_199 (by decide) (fun _ => ?_) (fun _ => ?_)
              · exact zk_exitw (L' := [some (.ref 76), none, none, none, none, none, some (.int x38), some (.int x39), none, none]) (zLe_s (zLe_n (zLe_n (zLe_n (zLe_n (zLe_n (zLe_s (zLe_s (zLe_n (zLe_n zLe_nl)))))))))) (fun h => h)
              · refine z_iconst 202 dX11_read_202 zci_0 ?_
                refine z_istore 203 (L' := [some (.ref 76), some (.int p1), none, some (.int p3), none, some (.int p5), some (.int x38), some (.int x39), some (.int x77), some (.int (0 : Int32))]) dX11_read_203 (by decide) rfl ?_
                refine zk_sqj (α := zM) 253 (fun (M88 : zM) => [some (.ref 76), some (.int p1), none, some (.int p3), none, some (.int p5), some (.int x38), some (.int x39), some (.int x77), none]) (fun (M88 : zM) => []) (fun (M88 : zM) => (zY0, M88)) ?_ ?_
                · intro M88
                  refine z_aload_n 253 dX11_read_253 rfl ?_
                  refine z_getR 254 (r := 84) dX11_read_254 fl_X11_31 zy_76 rfl ?_
                  refine z_bipush 257 dX11_read_257 zbp_64 ?_
                  refine z_iload 259 dX11_read_259 rfl ?_
                  refine z_iadd 261 dX11_read_261 ?_
                  refine zk_nmI (fun x91 => ?_)
                  refine z_dup2 262 dX11_read_262 rfl rfl ?_
                  refine z_iaload 263 dX11_read_263 zy_84 ?_
                  refine z_iconst 264 dX11_read_264 zci_1 ?_
                  refine z_iadd 265 dX11_read_265 ?_
                  refine z_iastore 266 dX11_read_266 zy_84 ?_
                  refine zk_nmM (fun M92 => ?_)
                  refine z_iinc 267 (v := (x77 + (1 : Int32))) (L' := [some (.ref 76), some (.int p1), none, some (.int p3), none, some (.int p5), some (.int x38), some (.int x39), some (.int (x77 + (1 : Int32))), none]) dX11_read_267 rfl (zinc zci_1 _) (by decide) rfl ?_
                  refine z_goto 270 195 dX11_read_270 (by decide) ?_
                  exact zk_weak (L' := [some (.ref 76), some (.int p1), none, some (.int p3), none, some (.int p5), some (.int x38), some (.int x39), some (.int (x77 + (1 : Int32))), none]) (zLe_s (zLe_s (zLe_n (zLe_s (zLe_n (zLe_s (zLe_s (zLe_s (zLe_s (zLe_n zLe_nl)))))))))) (hrec79 ((x77 + (1 : Int32)), M92))
                · refine zk_weak (L' := [some (.ref 76), some (.int p1), none, some (.int p3), none, some (.int p5), some (.int x38), some (.int x39), some (.int x77), some (.int (0 : Int32))]) (zLe_s (zLe_s (zLe_n (zLe_s (zLe_n (zLe_s (zLe_s (zLe_s (zLe_s (zLe_s zLe_nl)))))))))) (zk_lp (α := Int32 × zM) 205 (fun (u86 : Int32 × zM) => match u86 with | (x83, M84) => [some (.ref 76), some (.int p1), none, some (.int p3), none, some (.int p5), some (.int x38), some (.int x39), some (.int x77), some (.int x83)]) (fun (u87 : Int32 × zM) => match u87 with | (x83, M84) => (zY0, M84)) ?_ zFu ((0 : Int32), M78))
                  intro rec85 hrec85
                  intro u94
                  obtain ⟨x83, M84⟩ := u94
                  try dsimp only
                  refine z_iload 205 dX11_read_205 rfl ?_
                  refine z_bipush 207 dX11_read_207 zbp_6 ?_
                  refine z_icge 209 253 dX11_read_209 (by decide) (fun _ => ?_) (fun _ => ?_)
                  · exact zk_exitw (L' := [some (.ref 76), some (.int p1), none, some (.int p3), none, some (.int p5), some (.int x38), some (.int x39), some (.int x77), none]) (zLe_s (zLe_s (zLe_n (zLe_s (zLe_n (zLe_s (zLe_s (zLe_s (zLe_s (zLe_n zLe_nl)))))))))) (fun h => h)
                  · refine z_aload_n 212 dX11_read_212 rfl ?_
                    refine z_iload 213 dX11_read_213 rfl ?_
                    refine z_aload_n 215 dX11_read_215 rfl ?_
                    refine z_iload 216 dX11_read_216 rfl ?_
                    refine z_iconst 218 dX11_read_218 zci_0 ?_
                    refine z_ci (zat_V2 219 dX11_read_219 lk_X11_164 zy_76 rfl rfl ⟨Nat.le_of_ble_eq_true rfl, Nat.le_of_ble_eq_true rfl⟩ (Nat.le_of_ble_eq_true rfl)) (tX11_linesOf E p5 (0 : Int32) M84) (fun x89 => ?_)
                    refine z_iload 222 dX11_read_222 rfl ?_
                    refine z_aload_n 224 dX11_read_224 rfl ?_
                    refine z_getR 225 (r := 99) dX11_read_225 fl_X11_78 zy_76 rfl ?_
                    refine z_bipush 228 dX11_read_228 zbp_64 ?_
                    refine z_iload_n 230 dX11_read_230 rfl ?_
                    refine z_imul 231 dX11_read_231 ?_
                    refine z_iload_n 232 dX11_read_232 rfl ?_
                    refine z_iadd 233 dX11_read_233 ?_
                    refine z_bipush 234 dX11_read_234 zbp_6 ?_
                    refine z_iload 236 dX11_read_236 rfl ?_
                    refine z_imul 238 dX11_read_238 ?_
                    refine z_iadd 239 dX11_read_239 ?_
                    refine z_iload 240 dX11_read_240 rfl ?_
                    refine z_iadd 242 dX11_read_242 ?_
                    refine z_iaload 243 dX11_read_243 zy_99 ?_
                    refine z_cV (zat_V4 244 dX11_read_244 lk_X11_173 zy_76 rfl rfl ⟨Nat.le_of_ble_eq_true rfl, Nat.le_of_ble_eq_true rfl⟩ (Nat.le_of_ble_eq_true rfl)) (tX11_setIts E p5 x89 x83 (M84.1 99 (zn (((((64 : Int32) * p1) + p3) + ((6 : Int32) * x77)) + x83))) M84) (fun M90 => ?_)
                    refine z_iinc 247 (v := (x83 + (1 : Int32))) (L' := [some (.ref 76), some (.int p1), none, some (.int p3), none, some (.int p5), some (.int x38), some (.int x39), some (.int x77), some (.int (x83 + (1 : Int32)))]) dX11_read_247 rfl (zinc zci_1 _) (by decide) rfl ?_
                    refine z_goto 250 205 dX11_read_250 (by decide) ?_
                    exact zk_weak (L' := [some (.ref 76), some (.int p1), none, some (.int p3), none, some (.int p5), some (.int x38), some (.int x39), some (.int x77), some (.int (x83 + (1 : Int32)))]) (zLe_s (zLe_s (zLe_n (zLe_s (zLe_n (zLe_s (zLe_s (zLe_s (zLe_s (zLe_s zLe_nl)))))))))) (hrec85 ((x83 + (1 : Int32)), M90))
          · intro k98 hk98
            refine z_icge 63 192 dX11_read_63 (by decide) (fun _ => ?_) (fun _ => ?_)
            · exact zk_weak (L' := [some (.ref 76), some (.int p1), none, some (.int p3), none, some (.int p5), some (.int x38), some (.int x39), none, none]) (zLe_s (zLe_s (zLe_n (zLe_s (zLe_n (zLe_s (zLe_s (zLe_s (zLe_n (zLe_n zLe_nl)))))))))) (hk98 ())
            · refine z_iload 66 dX11_read_66 rfl ?_
              refine z_ifne 68 192 dX11_read_68 (by decide) (fun _ => ?_) (fun _ => ?_)
              · refine z_aload_n 71 dX11_read_71 rfl ?_
                refine z_getR 72 (r := 97) dX11_read_72 fl_X11_72 zy_76 rfl ?_
                refine z_iload_n 75 dX11_read_75 rfl ?_
                refine z_iaload 76 dX11_read_76 zy_97 ?_
                refine z_bipush 77 dX11_read_77 zbp_m4 ?_
                refine zk_sqj (α := Int32) 127 (fun (x100 : Int32) => [some (.ref 76), some (.int p1), some (.int p2), some (.int p3), some (.int p4), some (.int p5), none, some (.int x39), some (.int x40), none]) (fun (x100 : Int32) => [.int x100]) (fun (x100 : Int32) => (zY0, M)) ?_ ?_
                · intro x100
                  refine z_istore 127 (L' := [some (.ref 76), some (.int p1), some (.int p2), some (.int p3), some (.int p4), some (.int p5), some (.int x100), some (.int x39), some (.int x40), none]) dX11_read_127 (by decide) rfl ?_
                  refine z_iload 129 dX11_read_129 rfl ?_
                  refine zk_jn (α := Int32) 186 (fun (x103 : Int32) => [some (.ref 76), some (.int p1), some (.int p2), some (.int p3), some (.int p4), some (.int p5), some (.int x100), some (.int x103), some (.int x40), none]) (fun (x103 : Int32) => []) (fun (x103 : Int32) => (zY0, M)) ?_ ?_
                  · intro x103
                    refine z_iinc 186 (v := (x40 + (1 : Int32))) (L' := [some (.ref 76), some (.int p1), some (.int p2), some (.int p3), some (.int p4), some (.int p5), some (.int x100), some (.int x103), some (.int (x40 + (1 : Int32))), none]) dX11_read_186 rfl (zinc zci_1 _) (by decide) rfl ?_
                    refine z_goto 189 56 dX11_read_189 (by decide) ?_
                    exact zk_weak (L' := [some (.ref 76), some (.int p1), some (.int p2), some (.int p3), some (.int p4), some (.int p5), some (.int x100), some (.int x103), some (.int (x40 + (1 : Int32))), none]) (zLe_s (zLe_s (zLe_s (zLe_s (zLe_s (zLe_s (zLe_s (zLe_s (zLe_s (zLe_n zLe_nl)))))))))) (hrec41 (x100, x103, (x40 + (1 : Int32))))
                  · intro k104 hk104
                    refine z_ifne 131 186 dX11_read_131 (by decide) (fun _ => ?_) (fun _ => ?_)
                    · refine z_iload 134 dX11_read_134 rfl ?_
                      refine z_bipush 136 dX11_read_136 zbp_6 ?_
                      refine z_iremc 138 dX11_read_138 (by decide) ?_
                      refine z_iconst 139 dX11_read_139 zci_5 ?_
                      refine z_icne 140 186 dX11_read_140 (by decide) (fun _ => ?_) (fun _ => ?_)
                      · refine z_aload_n 143 dX11_read_143 rfl ?_
                        refine z_bipush 144 dX11_read_144 zbp_64 ?_
                        refine z_iload_n 146 dX11_read_146 rfl ?_
                        refine z_imul 147 dX11_read_147 ?_
                        refine z_iload_n 148 dX11_read_148 rfl ?_
                        refine z_iadd 149 dX11_read_149 ?_
                        refine z_iload 150 dX11_read_150 rfl ?_
                        refine z_iadd 152 dX11_read_152 ?_
                        refine z_iconst 153 dX11_read_153 zci_5 ?_
                        refine z_isub 154 dX11_read_154 ?_
                        refine z_cb (zat_V1 155 dX11_read_155 lk_X11_294 zy_76 rfl rfl ⟨Nat.le_of_ble_eq_true rfl, Nat.le_of_ble_eq_true rfl⟩ (Nat.le_of_ble_eq_true rfl)) (tX11_isAsTold E (((((64 : Int32) * p1) + p3) + x40) - (5 : Int32)) M) (fun b105 => ?_)
                        refine z_ifneb 158 167 dX11_read_158 (by decide) (fun _ => ?_) (fun _ => ?_)
                        · refine z_bipush 161 dX11_read_161 zbp_m20 ?_
                          refine z_iload 163 dX11_read_163 rfl ?_
                          refine z_isub 165 dX11_read_165 ?_
                          exact z_ireturn 166 dX11_read_166 rfl rfl (fun h => h)
                        · refine z_aload_n 167 dX11_read_167 rfl ?_
                          refine z_iload 168 dX11_read_168 rfl ?_
                          refine z_iload 170 dX11_read_170 rfl ?_
                          refine z_ci (zat_V2 172 dX11_read_172 lk_X11_164 zy_76 rfl rfl ⟨Nat.le_of_ble_eq_true rfl, Nat.le_of_ble_eq_true rfl⟩ (Nat.le_of_ble_eq_true rfl)) (tX11_linesOf E p5 x39 M) (fun x106 => ?_)
                          refine z_bipush 175 dX11_read_175 zbp_10 ?_
                          refine z_icne 177 183 dX11_read_177 (by decide) (fun _ => ?_) (fun _ => ?_)
                          · refine z_bipush 180 dX11_read_180 zbp_m3 ?_
                            exact z_ireturn 182 dX11_read_182 rfl rfl (fun h => h)
                          · refine z_iinc 183 (v := (x39 + (1 : Int32))) (L' := [some (.ref 76), some (.int p1), some (.int p2), some (.int p3), some (.int p4), some (.int p5), some (.int x100), some (.int (x39 + (1 : Int32))), some (.int x40), none]) dX11_read_183 rfl (zinc zci_1 _) (by decide) rfl ?_
                            exact zk_weak (L' := [some (.ref 76), some (.int p1), some (.int p2), some (.int p3), some (.int p4), some (.int p5), some (.int x100), some (.int (x39 + (1 : Int32))), some (.int x40), none]) (zLe_s (zLe_s (zLe_s (zLe_s (zLe_s (zLe_s (zLe_s (zLe_s (zLe_s (zLe_n zLe_nl)))))))))) (hk104 (x39 + (1 : Int32)))
                      · exact zk_weak (L' := [some (.ref 76), some (.int p1), some (.int p2), some (.int p3), some (.int p4), some (.int p5), some (.int x100), some (.int x39), some (.int x40), none]) (zLe_s (zLe_s (zLe_s (zLe_s (zLe_s (zLe_s (zLe_s (zLe_s (zLe_s (zLe_n zLe_nl)))))))))) (hk104 x39)
                    · exact zk_weak (L' := [some (.ref 76), some (.int p1), some (.int p2), some (.int p3), some (.int p4), some (.int p5), some (.int x100), some (.int x39), some (.int x40), none]) (zLe_s (zLe_s (zLe_s (zLe_s (zLe_s (zLe_s (zLe_s (zLe_s (zLe_s (zLe_n zLe_nl)))))))))) (hk104 x39)
                · refine z_icne 79 86 dX11_read_79 (by decide) (fun _ => ?_) (fun _ => ?_)
                  · refine z_iconst 82 dX11_read_82 zci_1 ?_
                    refine z_goto 83 127 dX11_read_83 (by decide) ?_
                    exact zk_exitw (L' := [some (.ref 76), some (.int p1), some (.int p2), some (.int p3), some (.int p4), some (.int p5), none, some (.int x39), some (.int x40), none]) (zLe_s (zLe_s (zLe_s (zLe_s (zLe_s (zLe_s (zLe_n (zLe_s (zLe_s (zLe_n zLe_nl)))))))))) (fun h => h)
                  · refine z_aload_n 86 dX11_read_86 rfl ?_
                    refine z_getR 87 (r := 97) dX11_read_87 fl_X11_72 zy_76 rfl ?_
                    refine z_iload_n 90 dX11_read_90 rfl ?_
                    refine z_iaload 91 dX11_read_91 zy_97 ?_
                    refine z_iload_n 92 dX11_read_92 rfl ?_
                    refine z_iceq 93 100 dX11_read_93 (by decide) (fun _ => ?_) (fun _ => ?_)
                    · refine z_iload_n 100 dX11_read_100 rfl ?_
                      refine z_i2l 101 dX11_read_101 ?_
                      refine z_iload 102 dX11_read_102 rfl ?_
                      refine z_i2l 104 dX11_read_104 ?_
                      refine z_ladd 105 dX11_read_105 ?_
                      refine z_lconst 106 dX11_read_106 zlc_0 ?_
                      refine z_aload_n 107 dX11_read_107 rfl ?_
                      refine z_getR 108 (r := 98) dX11_read_108 fl_X11_75 zy_76 rfl ?_
                      refine z_iload_n 111 dX11_read_111 rfl ?_
                      refine z_iaload 112 dX11_read_112 zy_98 ?_
                      refine z_iconst 113 dX11_read_113 zci_1 ?_
                      refine z_isub 114 dX11_read_114 ?_
                      refine z_i2l 115 dX11_read_115 ?_
                      refine z_ctb (zat_S3 116 dX11_read_116 lk_X11_85 ⟨Nat.le_of_ble_eq_true rfl, Nat.le_of_ble_eq_true rfl⟩ (Nat.le_of_ble_eq_true rfl)) (tX11_in E zY0 (p3.toInt64 + x40.toInt64) (0 : Int64) (((M.1 98 (zn p1)) - (1 : Int32))).toInt64 M) (fun b107 => ?_)
                      refine z_ifneb 119 126 dX11_read_119 (by decide) (fun _ => ?_) (fun _ => ?_)
                      · refine z_iconst 122 dX11_read_122 zci_2 ?_
                        refine z_goto 123 127 dX11_read_123 (by decide) ?_
                        exact zk_exitw (L' := [some (.ref 76), some (.int p1), some (.int p2), some (.int p3), some (.int p4), some (.int p5), none, some (.int x39), some (.int x40), none]) (zLe_s (zLe_s (zLe_s (zLe_s (zLe_s (zLe_s (zLe_n (zLe_s (zLe_s (zLe_n zLe_nl)))))))))) (fun h => h)
                      · refine z_iconst 126 dX11_read_126 zci_0 ?_
                        exact zk_exitw (L' := [some (.ref 76), some (.int p1), some (.int p2), some (.int p3), some (.int p4), some (.int p5), none, some (.int x39), some (.int x40), none]) (zLe_s (zLe_s (zLe_s (zLe_s (zLe_s (zLe_s (zLe_n (zLe_s (zLe_s (zLe_n zLe_nl)))))))))) (fun h => h)
                    · refine z_iconst 96 dX11_read_96 zci_3 ?_
                      refine z_goto 97 127 dX11_read_97 (by decide) ?_
                      exact zk_exitw (L' := [some (.ref 76), some (.int p1), some (.int p2), some (.int p3), some (.int p4), some (.int p5), none, some (.int x39), some (.int x40), none]) (zLe_s (zLe_s (zLe_s (zLe_s (zLe_s (zLe_s (zLe_n (zLe_s (zLe_s (zLe_n zLe_nl)))))))))) (fun h => h)
              · exact zk_weak (L' := [some (.ref 76), some (.int p1), none, some (.int p3), none, some (.int p5), some (.int x38), some (.int x39), none, none]) (zLe_s (zLe_s (zLe_n (zLe_s (zLe_n (zLe_s (zLe_s (zLe_s (zLe_n (zLe_n zLe_nl)))))))))) (hk98 ())
