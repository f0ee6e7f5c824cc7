def fX11_road (M : zM) : Option (Int32 × zM) :=
  lt (zwI M 76 3 (0 : Int32)) (fun (M1 : zM) => lt (zwI M1 76 5 (0 : Int32)) (fun (M2 : zM) => lt (zwI M2 76 15 (0 : Int32)) (fun (M3 : zM) => sq (α := zM) (zlp (α := Int32 × zM) (β := zM) (fun rec13 => (fun (u90 : Int32 × zM) => match u90 with | (x11, M12) => if (10 : Int32) ≤ x11 then (some M12) else (grd (zix x11 10) (grd (zix x11 10) (lt (zwI M12 82 (zn x11) (M12.1 80 (zn x11))) (fun (M17 : zM) => rec13 ((x11 + (1 : Int32)), M17))))))) zFu ((0 : Int32), M3)) (fun (M16 : zM) => sq (α := zM) (zlp (α := Int32 × zM) (β := zM) (fun rec27 => (fun (u88 : Int32 × zM) => match u88 with | (x25, M26) => if (64 : Int32) ≤ x25 then (some M26) else (grd (zix x25 64) (lt (zwI M26 83 (zn x25) (0 : Int32)) (fun (M31 : zM) => rec27 ((x25 + (1 : Int32)), M31)))))) zFu ((0 : Int32), M16)) (fun (M30 : zM) => sq (fX11_next M30) (fun (M32 : zM) => sq (α := Int32 × zM) (zlp (α := Int32 × zM) (β := Int32 × zM) (fun rec43 => (fun (u81 : Int32 × zM) => match u81 with | (x41, M42) => if (M42.1 76 3) = 0 then (if (M42.1 76 7) = 0 then (some (x41, M42)) else (sq (fX11_readItem M42) (fun (M48 : zM) => rec43 ((x41 + (1 : Int32)), M48)))) else (some (x41, M42)))) zFu ((0 : Int32), M32)) (fun (u82 : Int32 × zM) => match u82 with | (x46, M47) => lt (zwI M47 76 1 (0 : Int32)) (fun (M49 : zM) => lt (zwI M49 76 2 (M49.1 76 3)) (fun (M50 : zM) => if (M50.1 76 3) ≤ 0 then (sq (α := zM) (zlp (α := Int32 × zM) (β := zM) (fun rec60 => (fun (u79 : Int32 × zM) => match u79 with | (x58, M59) => if (10 : Int32) ≤ x58 then (some M59) else (grd (zix x58 10) (grd (zix x58 30) (lt (zwI M59 81 (zn x58) (M59.1 82 (zn x58))) (fun (M64 : zM) => rec60 ((x58 + (1 : Int32)), M64))))))) zFu ((0 : Int32), M50)) (fun (M63 : zM) => zlp (α := Int32 × zM) (fun rec73 => (fun (u77 : Int32 × zM) => match u77 with | (x71, M72) => if (64 : Int32) ≤ x71 then (some (x46, M72)) else (grd (zix x71 64) (grd (zix x71 660) (lt (zwI M72 84 (zn x71) (M72.1 83 (zn x71))) (fun (M76 : zM) => rec73 ((x71 + (1 : Int32)), M76))))))) zFu ((0 : Int32), M63))) else (some (((-10 : Int32) - (M50.1 76 4)), M50)))))))))))
set_option maxHeartbeats 4000000 in
set_option maxRecDepth 100000 in
theorem tX11_road (E : zE)  (M : zM) : zFI E mX11_road [.ref 76] zY0 M (fX11_road M) := by
  refine zF_of (L := [some (.ref 76), none, none]) plX11 (Nat.le_of_ble_eq_true rfl) rfl (fun post => ?_)
  unfold fX11_road
  refine z_aload_n 0 dX11_road_0 rfl ?_
  refine z_iconst 1 dX11_road_1 zci_0 ?_
  refine z_put 2 dX11_road_2 fp_X11_89 zy_76 rfl (zput_i _) ?_
  refine zk_nmM (fun M1 => ?_)
  refine z_aload_n 5 dX11_road_5 rfl ?_
  refine z_iconst 6 dX11_road_6 zci_0 ?_
  refine z_put 7 dX11_road_7 fp_X11_98 zy_76 rfl (zput_i _) ?_
  refine zk_nmM (fun M2 => ?_)
  refine z_aload_n 10 dX11_road_10 rfl ?_
  refine z_iconst 11 dX11_road_11 zci_0 ?_
  refine z_put 12 dX11_road_12 fp_X11_139 zy_76 rfl (zput_i _) ?_
  refine zk_nmM (fun M3 => ?_)
  refine z_iconst 15 dX11_road_15 zci_0 ?_
  refine z_istore_n 16 (L' := [some (.ref 76), some (.int (0 : Int32)), none]) dX11_road_16 (by decide) rfl ?_
  refine z_iconst 17 dX11_road_17 zci_0 ?_
  refine z_istore_n 18 (L' := [some (.ref 76), some (.int (0 : Int32)), some (.int (0 : Int32))]) dX11_road_18 (by decide) rfl ?_
  refine zk_sqj (α := zM) 43 (fun (M16 : zM) => [some (.ref 76), some (.int (0 : Int32)), none]) (fun (M16 : zM) => []) (fun (M16 : zM) => (zY0, M16)) ?_ ?_
  · intro M16
    refine z_iconst 43 dX11_road_43 zci_0 ?_
    refine z_istore_n 44 (L' := [some (.ref 76), some (.int (0 : Int32)), some (.int (0 : Int32))]) dX11_road_44 (by decide) rfl ?_
    refine zk_sqj (α := zM) 64 (fun (M30 : zM) => [some (.ref 76), some (.int (0 : Int32)), none]) (fun (M30 : zM) => []) (fun (M30 : zM) => (zY0, M30)) ?_ ?_
    · intro M30
      refine z_aload_n 64 dX11_road_64 rfl ?_
      refine z_cV (zat_V0 65 dX11_road_65 lk_X11_123 zy_76 rfl rfl ⟨Nat.le_of_ble_eq_true rfl, Nat.le_of_ble_eq_true rfl⟩ (Nat.le_of_ble_eq_true rfl)) (tX11_next E M30) (fun M32 => ?_)
      refine zk_sqj (α := Int32 × zM) 92 (fun (u83 : Int32 × zM) => match u83 with | (x46, M47) => [some (.ref 76), some (.int x46), none]) (fun (u84 : Int32 × zM) => match u84 with | (x46, M47) => []) (fun (u85 : Int32 × zM) => match u85 with | (x46, M47) => (zY0, M47)) ?_ ?_
      · intro u86
        obtain ⟨x46, M47⟩ := u86
        try dsimp only
        refine z_aload_n 92 dX11_road_92 rfl ?_
        refine z_iconst 93 dX11_road_93 zci_0 ?_
        refine z_put 94 dX11_road_94 fp_X11_81 zy_76 rfl (zput_i _) ?_
        refine zk_nmM (fun M49 => ?_)
        refine z_aload_n 97 dX11_road_97 rfl ?_
        refine z_aload_n 98 dX11_road_98 rfl ?_
        refine z_getI 99 dX11_road_99 fl_X11_89 zy_76 rfl ?_
        refine z_put 102 dX11_road_102 fp_X11_148 zy_76 rfl (zput_i _) ?_
        refine zk_nmM (fun M50 => ?_)
        refine z_aload_n 105 dX11_road_105 rfl ?_
        refine z_getI 106 dX11_road_106 fl_X11_89 zy_76 rfl ?_
        refine z_ifle 109 120 dX11_road_109 (by decide) (fun _ => ?_) (fun _ => ?_)
        · refine z_iconst 120 dX11_road_120 zci_0 ?_
          refine z_istore_n 121 (L' := [some (.ref 76), some (.int x46), some (.int (0 : Int32))]) dX11_road_121 (by decide) rfl ?_
          refine zk_sqj (α := zM) 146 (fun (M63 : zM) => [some (.ref 76), some (.int x46), none]) (fun (M63 : zM) => []) (fun (M63 : zM) => (zY0, M63)) ?_ ?_
          · intro M63
            refine z_iconst 146 dX11_road_146 zci_0 ?_
            refine z_istore_n 147 (L' := [some (.ref 76), some (.int x46), some (.int (0 : Int32))]) dX11_road_147 (by decide) rfl ?_
            refine zk_weak (L' := [some (.ref 76), some (.int x46), some (.int (0 : Int32))]) (zLe_s (zLe_s (zLe_s zLe_nl))) (zk_lp (α := Int32 × zM) 148 (fun (u74 : Int32 × zM) => match u74 with | (x71, M72) => [some (.ref 76), some (.int x46), some (.int x71)]) (fun (u75 : Int32 × zM) => match u75 with | (x71, M72) => (zY0, M72)) ?_ zFu ((0 : Int32), M63))
            intro rec73 hrec73
            intro u78
            obtain ⟨x71, M72⟩ := u78
            try dsimp only
            refine z_iload_n 148 dX11_road_148 rfl ?_
            refine z_bipush 149 dX11_road_149 zbp_64 ?_
            refine z_icge 151 172 dX11_road_151 (by decide) (fun _ => ?_) (fun _ => ?_)
            · refine z_iload_n 172 dX11_road_172 rfl ?_
              exact z_ireturn 173 dX11_road_173 rfl rfl (fun h => h)
            · refine z_aload_n 154 dX11_road_154 rfl ?_
              refine z_getR 155 (r := 84) dX11_road_155 fl_X11_31 zy_76 rfl ?_
              refine z_iload_n 158 dX11_road_158 rfl ?_
              refine z_aload_n 159 dX11_road_159 rfl ?_
              refine z_getR 160 (r := 83) dX11_road_160 fl_X11_28 zy_76 rfl ?_
              refine z_iload_n 163 dX11_road_163 rfl ?_
              refine z_iaload 164 dX11_road_164 zy_83 ?_
              refine z_iastore 165 dX11_road_165 zy_84 ?_
              refine zk_nmM (fun M76 => ?_)
              refine z_iinc 166 (v := (x71 + (1 : Int32))) (L' := [some (.ref 76), some (.int x46), some (.int (x71 + (1 : Int32)))]) dX11_road_166 rfl (zinc zci_1 _) (by decide) rfl ?_
              refine z_goto 169 148 dX11_road_169 (by decide) ?_
              exact zk_weak (L' := [some (.ref 76), some (.int x46), some (.int (x71 + (1 : Int32)))]) (zLe_s (zLe_s (zLe_s zLe_nl))) (hrec73 ((x71 + (1 : Int32)), M76))
          · refine zk_weak (L' := [some (.ref 76), some (.int x46), some (.int (0 : Int32))]) (zLe_s (zLe_s (zLe_s zLe_nl))) (zk_lp (α := Int32 × zM) 122 (fun (u61 : Int32 × zM) => match u61 with | (x58, M59) => [some (.ref 76), some (.int x46), some (.int x58)]) (fun (u62 : Int32 × zM) => match u62 with | (x58, M59) => (zY0, M59)) ?_ zFu ((0 : Int32), M50))
            intro rec60 hrec60
            intro u80
            obtain ⟨x58, M59⟩ := u80
            try dsimp only
            refine z_iload_n 122 dX11_road_122 rfl ?_
            refine z_bipush 123 dX11_road_123 zbp_10 ?_
            refine z_icge 125 146 dX11_road_125 (by decide) (fun _ => ?_) (fun _ => ?_)
            · exact zk_exitw (L' := [some (.ref 76), some (.int x46), none]) (zLe_s (zLe_s (zLe_n zLe_nl))) (fun h => h)
            · refine z_aload_n 128 dX11_road_128 rfl ?_
              refine z_getR 129 (r := 81) dX11_road_129 fl_X11_22 zy_76 rfl ?_
              refine z_iload_n 132 dX11_road_132 rfl ?_
              refine z_aload_n 133 dX11_road_133 rfl ?_
              refine z_getR 134 (r := 82) dX11_road_134 fl_X11_25 zy_76 rfl ?_
              refine z_iload_n 137 dX11_road_137 rfl ?_
              refine z_iaload 138 dX11_road_138 zy_82 ?_
              refine z_iastore 139 dX11_road_139 zy_81 ?_
              refine zk_nmM (fun M64 => ?_)
              refine z_iinc 140 (v := (x58 + (1 : Int32))) (L' := [some (.ref 76), some (.int x46), some (.int (x58 + (1 : Int32)))]) dX11_road_140 rfl (zinc zci_1 _) (by decide) rfl ?_
              refine z_goto 143 122 dX11_road_143 (by decide) ?_
              exact zk_weak (L' := [some (.ref 76), some (.int x46), some (.int (x58 + (1 : Int32)))]) (zLe_s (zLe_s (zLe_s zLe_nl))) (hrec60 ((x58 + (1 : Int32)), M64))
        · refine z_bipush 112 dX11_road_112 zbp_m10 ?_
          refine z_aload_n 114 dX11_road_114 rfl ?_
          refine z_getI 115 dX11_road_115 fl_X11_95 zy_76 rfl ?_
          refine z_isub 118 dX11_road_118 ?_
          exact z_ireturn 119 dX11_road_119 rfl rfl (fun h => h)
      · refine zk_weak (L' := [some (.ref 76), some (.int (0 : Int32)), none]) (zLe_s (zLe_s (zLe_n zLe_nl))) (zk_lp (α := Int32 × zM) 68 (fun (u44 : Int32 × zM) => match u44 with | (x41, M42) => [some (.ref 76), some (.int x41), none]) (fun (u45 : Int32 × zM) => match u45 with | (x41, M42) => (zY0, M42)) ?_ zFu ((0 : Int32), M32))
        intro rec43 hrec43
        intro u87
        obtain ⟨x41, M42⟩ := u87
        try dsimp only
        refine z_aload_n 68 dX11_road_68 rfl ?_
        refine z_getI 69 dX11_road_69 fl_X11_89 zy_76 rfl ?_
        refine z_ifne 72 92 dX11_road_72 (by decide) (fun _ => ?_) (fun _ => ?_)
        · refine z_aload_n 75 dX11_road_75 rfl ?_
          refine z_getI 76 dX11_road_76 fl_X11_108 zy_76 rfl ?_
          refine z_ifeq 79 92 dX11_road_79 (by decide) (fun _ => ?_) (fun _ => ?_)
          · exact zk_exitw (L' := [some (.ref 76), some (.int x41), none]) (zLe_s (zLe_s (zLe_n zLe_nl))) (fun h => h)
          · refine z_aload_n 82 dX11_road_82 rfl ?_
            refine z_cV (zat_V0 83 dX11_road_83 lk_X11_145 zy_76 rfl rfl ⟨Nat.le_of_ble_eq_true rfl, Nat.le_of_ble_eq_true rfl⟩ (Nat.le_of_ble_eq_true rfl)) (tX11_readItem E M42) (fun M48 => ?_)
            refine z_iinc 86 (v := (x41 + (1 : Int32))) (L' := [some (.ref 76), some (.int (x41 + (1 : Int32))), none]) dX11_road_86 rfl (zinc zci_1 _) (by decide) rfl ?_
            refine z_goto 89 68 dX11_road_89 (by decide) ?_
            exact zk_weak (L' := [some (.ref 76), some (.int (x41 + (1 : Int32))), none]) (zLe_s (zLe_s (zLe_n zLe_nl))) (hrec43 ((x41 + (1 : Int32)), M48))
        · exact zk_exitw (L' := [some (.ref 76), some (.int x41), none]) (zLe_s (zLe_s (zLe_n zLe_nl))) (fun h => h)
    · refine zk_weak (L' := [some (.ref 76), some (.int (0 : Int32)), some (.int (0 : Int32))]) (zLe_s (zLe_s (zLe_s zLe_nl))) (zk_lp (α := Int32 × zM) 45 (fun (u28 : Int32 × zM) => match u28 with | (x25, M26) => [some (.ref 76), some (.int (0 : Int32)), some (.int x25)]) (fun (u29 : Int32 × zM) => match u29 with | (x25, M26) => (zY0, M26)) ?_ zFu ((0 : Int32), M16))
      intro rec27 hrec27
      intro u89
      obtain ⟨x25, M26⟩ := u89
      try dsimp only
      refine z_iload_n 45 dX11_road_45 rfl ?_
      refine z_bipush 46 dX11_road_46 zbp_64 ?_
      refine z_icge 48 64 dX11_road_48 (by decide) (fun _ => ?_) (fun _ => ?_)
      · exact zk_exitw (L' := [some (.ref 76), some (.int (0 : Int32)), none]) (zLe_s (zLe_s (zLe_n zLe_nl))) (fun h => h)
      · refine z_aload_n 51 dX11_road_51 rfl ?_
        refine z_getR 52 (r := 83) dX11_road_52 fl_X11_28 zy_76 rfl ?_
        refine z_iload_n 55 dX11_road_55 rfl ?_
        refine z_iconst 56 dX11_road_56 zci_0 ?_
        refine z_iastore 57 dX11_road_57 zy_83 ?_
        refine zk_nmM (fun M31 => ?_)
        refine z_iinc 58 (v := (x25 + (1 : Int32))) (L' := [some (.ref 76), some (.int (0 : Int32)), some (.int (x25 + (1 : Int32)))]) dX11_road_58 rfl (zinc zci_1 _) (by decide) rfl ?_
        refine z_goto 61 45 dX11_road_61 (by decide) ?_
        exact zk_weak (L' := [some (.ref 76), some (.int (0 : Int32)), some (.int (x25 + (1 : Int32)))]) (zLe_s (zLe_s (zLe_s zLe_nl))) (hrec27 ((x25 + (1 : Int32)), M31))
  · refine zk_weak (L' := [some (.ref 76), some (.int (0 : Int32)), some (.int (0 : Int32))]) (zLe_s (zLe_s (zLe_s zLe_nl))) (zk_lp (α := Int32 × zM) 19 (fun (u14 : Int32 × zM) => match u14 with | (x11, M12) => [some (.ref 76), some (.int (0 : Int32)), some (.int x11)]) (fun (u15 : Int32 × zM) => match u15 with | (x11, M12) => (zY0, M12)) ?_ zFu ((0 : Int32), M3))
    intro rec13 hrec13
    intro u91
    obtain ⟨x11, M12⟩ := u91
    try dsimp only
    refine z_iload_n 19 dX11_road_19 rfl ?_
    refine z_bipush 20 dX11_road_20 zbp_10 ?_
    refine z_icge 22 43 dX11_road_22 (by decide) (fun _ => ?_) (fun _ => ?_)
    · exact zk_exitw (L' := [some (.ref 76), some (.int (0 : Int32)), none]) (zLe_s (zLe_s (zLe_n zLe_nl))) (fun h => h)
    · refine z_aload_n 25 dX11_road_25 rfl ?_
      refine z_getR 26 (r := 82) dX11_road_26 fl_X11_25 zy_76 rfl ?_
      refine z_iload_n 29 dX11_road_29 rfl ?_
      refine z_aload_n 30 dX11_road_30 rfl ?_
      refine z_getR 31 (r := 80) dX11_road_31 fl_X11_19 zy_76 rfl ?_
      refine z_iload_n 34 dX11_road_34 rfl ?_
      refine z_iaload 35 dX11_road_35 zy_80 ?_
      refine z_iastore 36 dX11_road_36 zy_82 ?_
      refine zk_nmM (fun M17 => ?_)
      refine z_iinc 37 (v := (x11 + (1 : Int32))) (L' := [some (.ref 76), some (.int (0 : Int32)), some (.int (x11 + (1 : Int32)))]) dX11_road_37 rfl (zinc zci_1 _) (by decide) rfl ?_
      refine z_goto 40 19 dX11_road_40 (by decide) ?_
      exact zk_weak (L' := [some (.ref 76), some (.int (0 : Int32)), some (.int (x11 + (1 : Int32)))]) (zLe_s (zLe_s (zLe_s zLe_nl))) (hrec13 ((x11 + (1 : Int32)), M17))
def fX11_fault (M : zM) : Int32 :=
  (M.1 76 2)
set_option maxHeartbeats 4000000 in
set_option maxRecDepth 100000 in
theorem tX11_fault (E : zE)  (M : zM) : zFi E mX11_fault [.ref 76] zY0 M (some (fX11_fault M)) := by
  refine zF_of (L := [some (.ref 76)]) plX11 (Nat.le_of_ble_eq_true rfl) rfl (fun post => ?_)
  show zK E _ post 0 _ _ _ (lt (fX11_fault M) some) _
  unfold fX11_fault
  refine z_aload_n 0 dX11_fault_0 rfl ?_
  refine z_getI 1 dX11_fault_1 fl_X11_148 zy_76 rfl ?_
  exact z_ireturn 4 dX11_fault_4 rfl rfl (fun h => h)
def fX11_rule (p1 : Int32) (M : zM) : Option Int32 :=
  lt (fX11_in p1.toInt64 (0 : Int64) (9 : Int64)) (fun (b1 : Bool) => if b1 = false then (some (-1000 : Int32)) else (grd (zix p1 30) (some (M.1 81 (zn p1)))))
set_option maxHeartbeats 4000000 in
set_option maxRecDepth 100000 in
theorem tX11_rule (E : zE) (p1 : Int32) (M : zM) : zFi E mX11_rule [.ref 76, .int p1] zY0 M (fX11_rule p1 M) := by
  refine zF_of (L := [some (.ref 76), some (.int p1)]) plX11 (Nat.le_of_ble_eq_true rfl) rfl (fun post => ?_)
  unfold fX11_rule
  refine z_iload_n 0 dX11_rule_0 rfl ?_
  refine z_i2l 1 dX11_rule_1 ?_
  refine z_lconst 2 dX11_rule_2 zlc_0 ?_
  refine z_ldc2 3 dX11_rule_3 cw_X11_151 ?_
  refine z_ctb (zat_S3 6 dX11_rule_6 lk_X11_85 ⟨Nat.le_of_ble_eq_true rfl, Nat.le_of_ble_eq_true rfl⟩ (Nat.le_of_ble_eq_true rfl)) (tX11_in E zY0 p1.toInt64 (0 : Int64) (9 : Int64) M) (fun b1 => ?_)
  refine z_ifeqb 9 21 dX11_rule_9 (by decide) (fun _ => ?_) (fun _ => ?_)
  · refine z_sipush 21 dX11_rule_21 zsp_m1000 ?_
    exact z_ireturn 24 dX11_rule_24 rfl rfl (fun h => h)
  · refine z_aload_n 12 dX11_rule_12 rfl ?_
    refine z_getR 13 (r := 81) dX11_rule_13 fl_X11_22 zy_76 rfl ?_
    refine z_iload_n 16 dX11_rule_16 rfl ?_
    refine z_iaload 17 dX11_rule_17 zy_81 ?_
    refine z_goto 18 24 dX11_rule_18 (by decide) ?_
    exact z_ireturn 24 dX11_rule_24 rfl rfl (fun h => h)
def fX11_isLetter (p1 : Int32) : Bool :=
  (fX11_in p1.toInt64 (0 : Int64) (7 : Int64))
set_option maxHeartbeats 4000000 in
set_option maxRecDepth 100000 in
theorem tX11_isLetter (E : zE) (Y : zY) (p1 : Int32) (M : zM) : zFb E mX11_isLetter [.int p1] Y M (some (fX11_isLetter p1)) := by
  refine zF_of (L := [some (.int p1)]) plX11 (Nat.le_of_ble_eq_true rfl) rfl (fun post => ?_)
  show zK E _ post 0 _ _ _ (lt (fX11_isLetter p1) some) _
  unfold fX11_isLetter
  refine z_iload_n 0 dX11_isLetter_0 rfl ?_
  refine z_i2l 1 dX11_isLetter_1 ?_
  refine z_lconst 2 dX11_isLetter_2 zlc_0 ?_
  refine z_ldc2 3 dX11_isLetter_3 cw_X11_126 ?_
  refine z_ctb0 (zat_S3 6 dX11_isLetter_6 lk_X11_85 ⟨Nat.le_of_ble_eq_true rfl, Nat.le_of_ble_eq_true rfl⟩ (Nat.le_of_ble_eq_true rfl)) (tX11_in E Y p1.toInt64 (0 : Int64) (7 : Int64) M) ?_
  exact z_ireturn 9 (v := zb (fX11_in p1.toInt64 (0 : Int64) (7 : Int64))) dX11_isLetter_9 rfl (zput_b (fX11_in p1.toInt64 (0 : Int64) (7 : Int64))).1 (fun h => h)
def fX11_mixed (p1 : Int32) (p2 : Int32) (M : zM) : Option Int32 :=
  lt (fX11_isLetter p1) (fun (b1 : Bool) => if b1 = false then (some (-1 : Int32)) else (lt (fX11_isLetter p2) (fun (b2 : Bool) => if b2 = false then (some (-1 : Int32)) else (if p1 = p2 then (some (-1 : Int32)) else (grd (zix (((8 : Int32) * p1) + p2) 660) (lt ((M.1 84 (zn (((8 : Int32) * p1) + p2)))) (fun (x3 : Int32) => if x3 = 0 then (some (-4 : Int32)) else (some (x3 - (1 : Int32))))))))))
set_option maxHeartbeats 4000000 in
set_option maxRecDepth 100000 in
theorem tX11_mixed (E : zE) (p1 : Int32) (p2 : Int32) (M : zM) : zFi E mX11_mixed [.ref 76, .int p1, .int p2] zY0 M (fX11_mixed p1 p2 M) := by
  refine zF_of (L := [some (.ref 76), some (.int p1), some (.int p2), none]) plX11 (Nat.le_of_ble_eq_true rfl) rfl (fun post => ?_)
  unfold fX11_mixed
  refine z_iload_n 0 dX11_mixed_0 rfl ?_
  refine z_ctb (zat_S1 1 dX11_mixed_1 lk_X11_153 ⟨Nat.le_of_ble_eq_true rfl, Nat.le_of_ble_eq_true rfl⟩ (Nat.le_of_ble_eq_true rfl)) (tX11_isLetter E zY0 p1 M) (fun b1 => ?_)
  refine z_ifeqb 4 19 dX11_mixed_4 (by decide) (fun _ => ?_) (fun _ => ?_)
  · refine z_iconst 19 dX11_mixed_19 zci_m1 ?_
    exact z_ireturn 20 dX11_mixed_20 rfl rfl (fun h => h)
  · refine z_iload_n 7 dX11_mixed_7 rfl ?_
    refine z_ctb (zat_S1 8 dX11_mixed_8 lk_X11_153 ⟨Nat.le_of_ble_eq_true rfl, Nat.le_of_ble_eq_true rfl⟩ (Nat.le_of_ble_eq_true rfl)) (tX11_isLetter E zY0 p2 M) (fun b2 => ?_)
    refine z_ifeqb 11 19 dX11_mixed_11 (by decide) (fun _ => ?_) (fun _ => ?_)
    · refine z_iconst 19 dX11_mixed_19 zci_m1 ?_
      exact z_ireturn 20 dX11_mixed_20 rfl rfl (fun h => h)
    · refine z_iload_n 14 dX11_mixed_14 rfl ?_
      refine z_iload_n 15 dX11_mixed_15 rfl ?_
      refine z_icne 16 21 dX11_mixed_16 (by decide) (fun _ => ?_) (fun _ => ?_)
      · refine z_iconst 19 dX11_mixed_19 zci_m1 ?_
        exact z_ireturn 20 dX11_mixed_20 rfl rfl (fun h => h)
      · refine z_aload_n 21 dX11_mixed_21 rfl ?_
        refine z_getR 22 (r := 84) dX11_mixed_22 fl_X11_31 zy_76 rfl ?_
        refine z_bipush 25 dX11_mixed_25 zbp_8 ?_
        refine z_iload_n 27 dX11_mixed_27 rfl ?_
        refine z_imul 28 dX11_mixed_28 ?_
        refine z_iload_n 29 dX11_mixed_29 rfl ?_
        refine z_iadd 30 dX11_mixed_30 ?_
        refine z_iaload 31 dX11_mixed_31 zy_84 ?_
        refine zk_nmI (fun x3 => ?_)
        refine z_istore_n 32 (L' := [some (.ref 76), some (.int p1), some (.int p2), some (.int x3)]) dX11_mixed_32 (by decide) rfl ?_
        refine z_iload_n 33 dX11_mixed_33 rfl ?_
        refine z_ifne 34 42 dX11_mixed_34 (by decide) (fun _ => ?_) (fun _ => ?_)
        · refine z_bipush 37 dX11_mixed_37 zbp_m4 ?_
          refine z_goto 39 45 dX11_mixed_39 (by decide) ?_
          exact z_ireturn 45 dX11_mixed_45 rfl rfl (fun h => h)
        · refine z_iload_n 42 dX11_mixed_42 rfl ?_
          refine z_iconst 43 dX11_mixed_43 zci_1 ?_
          refine z_isub 44 dX11_mixed_44 ?_
          exact z_ireturn 45 dX11_mixed_45 rfl rfl (fun h => h)
def fX11_setClock (p1 : Int32) (M : zM) : Option (Int32 × zM) :=
  lt (fX11_in p1.toInt64 (-99 : Int64) (99 : Int64)) (fun (b1 : Bool) => if b1 = false then (some ((-1000 : Int32), M)) else (grd (zix (9 : Int32) 30) (lt ((M.1 81 (zn (9 : Int32)))) (fun (x2 : Int32) => grd (zix (9 : Int32) 30) (lt (zwI M 81 (zn (9 : Int32)) p1) (fun (M3 : zM) => some (x2, M3)))))))
set_option maxHeartbeats 4000000 in
set_option maxRecDepth 100000 in
theorem tX11_setClock (E : zE) (p1 : Int32) (M : zM) : zFI E mX11_setClock [.ref 76, .int p1] zY0 M (fX11_setClock p1 M) := by
  refine zF_of (L := [some (.ref 76), some (.int p1), none]) plX11 (Nat.le_of_ble_eq_true rfl) rfl (fun post => ?_)
  unfold fX11_setClock
  refine z_iload_n 0 dX11_setClock_0 rfl ?_
  refine z_i2l 1 dX11_setClock_1 ?_
  refine z_ldc2 2 dX11_setClock_2 cw_X11_157 ?_
  refine z_ldc2 5 dX11_setClock_5 cw_X11_159 ?_
  refine z_ctb (zat_S3 8 dX11_setClock_8 lk_X11_85 ⟨Nat.le_of_ble_eq_true rfl, Nat.le_of_ble_eq_true rfl⟩ (Nat.le_of_ble_eq_true rfl)) (tX11_in E zY0 p1.toInt64 (-99 : Int64) (99 : Int64) M) (fun b1 => ?_)
  refine z_ifneb 11 18 dX11_setClock_11 (by decide) (fun _ => ?_) (fun _ => ?_)
  · refine z_sipush 14 dX11_setClock_14 zsp_m1000 ?_
    exact z_ireturn 17 dX11_setClock_17 rfl rfl (fun h => h)
  · refine z_aload_n 18 dX11_setClock_18 rfl ?_
    refine z_getR 19 (r := 81) dX11_setClock_19 fl_X11_22 zy_76 rfl ?_
    refine z_bipush 22 dX11_setClock_22 zbp_9 ?_
    refine z_iaload 24 dX11_setClock_24 zy_81 ?_
    refine zk_nmI (fun x2 => ?_)
    refine z_istore_n 25 (L' := [some (.ref 76), some (.int p1), some (.int x2)]) dX11_setClock_25 (by decide) rfl ?_
    refine z_aload_n 26 dX11_setClock_26 rfl ?_
    refine z_getR 27 (r := 81) dX11_setClock_27 fl_X11_22 zy_76 rfl ?_
    refine z_bipush 30 dX11_setClock_30 zbp_9 ?_
    refine z_iload_n 32 dX11_setClock_32 rfl ?_
    refine z_iastore 33 dX11_setClock_33 zy_81 ?_
    refine zk_nmM (fun M3 => ?_)
    refine z_iload_n 34 dX11_setClock_34 rfl ?_
    exact z_ireturn 35 dX11_setClock_35 rfl rfl (fun h => h)
def fX11_isEnd (p1 : Int32) : Bool :=
  (fX11_in p1.toInt64 (0 : Int64) (1 : Int64))
set_option maxHeartbeats 4000000 in
set_option maxRecDepth 100000 in
theorem tX11_isEnd (E : zE) (Y : zY) (p1 : Int32) (M : zM) : zFb E mX11_isEnd [.int p1] Y M (some (fX11_isEnd p1)) := by
  refine zF_of (L := [some (.int p1)]) plX11 (Nat.le_of_ble_eq_true rfl) rfl (fun post => ?_)
  show zK E _ post 0 _ _ _ (lt (fX11_isEnd p1) some) _
  unfold fX11_isEnd
  refine z_iload_n 0 dX11_isEnd_0 rfl ?_
  refine z_i2l 1 dX11_isEnd_1 ?_
  refine z_lconst 2 dX11_isEnd_2 zlc_0 ?_
  refine z_lconst 3 dX11_isEnd_3 zlc_1 ?_
  refine z_ctb0 (zat_S3 4 dX11_isEnd_4 lk_X11_85 ⟨Nat.le_of_ble_eq_true rfl, Nat.le_of_ble_eq_true rfl⟩ (Nat.le_of_ble_eq_true rfl)) (tX11_in E Y p1.toInt64 (0 : Int64) (1 : Int64) M) ?_
  exact z_ireturn 7 (v := zb (fX11_in p1.toInt64 (0 : Int64) (1 : Int64))) dX11_isEnd_7 rfl (zput_b (fX11_in p1.toInt64 (0 : Int64) (1 : Int64))).1 (fun h => h)
def fX11_linesOf (p1 : Int32) (p2 : Int32) (M : zM) : Option Int32 :=
  grd (zix ((64 : Int32) + p1) 660) (some ((M.1 84 (zn ((64 : Int32) + p1))) + p2))
set_option maxHeartbeats 4000000 in
set_option maxRecDepth 100000 in
theorem tX11_linesOf (E : zE) (p1 : Int32) (p2 : Int32) (M : zM) : zFi E mX11_linesOf [.ref 76, .int p1, .int p2] zY0 M (fX11_linesOf p1 p2 M) := by
  refine zF_of (L := [some (.ref 76), some (.int p1), some (.int p2)]) plX11 (Nat.le_of_ble_eq_true rfl) rfl (fun post => ?_)
  unfold fX11_linesOf
  refine z_aload_n 0 dX11_linesOf_0 rfl ?_
  refine z_getR 1 (r := 84) dX11_linesOf_1 fl_X11_31 zy_76 rfl ?_
  refine z_bipush 4 dX11_linesOf_4 zbp_64 ?_
  refine z_iload_n 6 dX11_linesOf_6 rfl ?_
  refine z_iadd 7 dX11_linesOf_7 ?_
  refine z_iaload 8 dX11_linesOf_8 zy_84 ?_
  refine z_iload_n 9 dX11_linesOf_9 rfl ?_
  refine z_iadd 10 dX11_linesOf_10 ?_
  exact z_ireturn 11 dX11_linesOf_11 rfl rfl (fun h => h)
def fX11_isLine (p1 : Int32) (p2 : Int32) (M : zM) : Option Bool :=
  lt (fX11_isEnd p1) (fun (b1 : Bool) => if b1 = false then (some false) else (sq (fX11_linesOf p1 (-1 : Int32) M) (fun (x2 : Int32) => lt (fX11_in p2.toInt64 (0 : Int64) x2.toInt64) (fun (b3 : Bool) => if b3 = false then (some false) else (some true)))))
set_option maxHeartbeats 4000000 in
set_option maxRecDepth 100000 in
theorem tX11_isLine (E : zE) (p1 : Int32) (p2 : Int32) (M : zM) : zFb E mX11_isLine [.ref 76, .int p1, .int p2] zY0 M (fX11_isLine p1 p2 M) := by
  refine zF_of (L := [some (.ref 76), some (.int p1), some (.int p2)]) plX11 (Nat.le_of_ble_eq_true rfl) rfl (fun post => ?_)
  unfold fX11_isLine
  refine z_iload_n 0 dX11_isLine_0 rfl ?_
  refine z_ctb (zat_S1 1 dX11_isLine_1 lk_X11_161 ⟨Nat.le_of_ble_eq_true rfl, Nat.le_of_ble_eq_true rfl⟩ (Nat.le_of_ble_eq_true rfl)) (tX11_isEnd E zY0 p1 M) (fun b1 => ?_)
  refine z_ifeqb 4 27 dX11_isLine_4 (by decide) (fun _ => ?_) (fun _ => ?_)
  · refine z_iconst 27 dX11_isLine_27 zci_0 ?_
    exact z_ireturn 28 (v := zb false) dX11_isLine_28 rfl (zput_b false).1 (fun h => h)
  · refine z_iload_n 7 dX11_isLine_7 rfl ?_
    refine z_i2l 8 dX11_isLine_8 ?_
    refine z_lconst 9 dX11_isLine_9 zlc_0 ?_
    refine z_aload_n 10 dX11_isLine_10 rfl ?_
    refine z_iload_n 11 dX11_isLine_11 rfl ?_
    refine z_iconst 12 dX11_isLine_12 zci_m1 ?_
    refine z_ci (zat_V2 13 dX11_isLine_13 lk_X11_164 zy_76 rfl rfl ⟨Nat.le_of_ble_eq_true rfl, Nat.le_of_ble_eq_true rfl⟩ (Nat.le_of_ble_eq_true rfl)) (tX11_linesOf E p1 (-1 : Int32) M) (fun x2 => ?_)
    refine z_i2l 16 dX11_isLine_16 ?_
    refine z_ctb (zat_S3 17 dX11_isLine_17 lk_X11_85 ⟨Nat.le_of_ble_eq_true rfl, Nat.le_of_ble_eq_true rfl⟩ (Nat.le_of_ble_eq_true rfl)) (tX11_in E zY0 p2.toInt64 (0 : Int64) x2.toInt64 M) (fun b3 => ?_)
    refine z_ifeqb 20 27 dX11_isLine_20 (by decide) (fun _ => ?_) (fun _ => ?_)
    · refine z_iconst 27 dX11_isLine_27 zci_0 ?_
      exact z_ireturn 28 (v := zb false) dX11_isLine_28 rfl (zput_b false).1 (fun h => h)
    · refine z_iconst 23 dX11_isLine_23 zci_1 ?_
      refine z_goto 24 28 dX11_isLine_24 (by decide) ?_
      exact z_ireturn 28 (v := zb true) dX11_isLine_28 rfl (zput_b true).1 (fun h => h)
def fX11_its (p1 : Int32) (p2 : Int32) (p3 : Int32) (M : zM) : Option Int32 :=
  grd (zix ((((70 : Int32) + ((60 : Int32) * p1)) + ((6 : Int32) * p2)) + p3) 660) (some (M.1 84 (zn ((((70 : Int32) + ((60 : Int32) * p1)) + ((6 : Int32) * p2)) + p3))))
set_option maxHeartbeats 4000000 in
set_option maxRecDepth 100000 in
theorem tX11_its (E : zE) (p1 : Int32) (p2 : Int32) (p3 : Int32) (M : zM) : zFi E mX11_its [.ref 76, .int p1, .int p2, .int p3] zY0 M (fX11_its p1 p2 p3 M) := by
  refine zF_of (L := [some (.ref 76), some (.int p1), some (.int p2), some (.int p3)]) plX11 (Nat.le_of_ble_eq_true rfl) rfl (fun post => ?_)
  unfold fX11_its
  refine z_aload_n 0 dX11_its_0 rfl ?_
  refine z_getR 1 (r := 84) dX11_its_1 fl_X11_31 zy_76 rfl ?_
  refine z_bipush 4 dX11_its_4 zbp_70 ?_
  refine z_bipush 6 dX11_its_6 zbp_60 ?_
  refine z_iload_n 8 dX11_its_8 rfl ?_
  refine z_imul 9 dX11_its_9 ?_
  refine z_iadd 10 dX11_its_10 ?_
  refine z_bipush 11 dX11_its_11 zbp_6 ?_
  refine z_iload_n 13 dX11_its_13 rfl ?_
  refine z_imul 14 dX11_its_14 ?_
  refine z_iadd 15 dX11_its_15 ?_
  refine z_iload_n 16 dX11_its_16 rfl ?_
  refine z_iadd 17 dX11_its_17 ?_
  refine z_iaload 18 dX11_its_18 zy_84 ?_
  exact z_ireturn 19 dX11_its_19 rfl rfl (fun h => h)
def fX11_setIts (p1 : Int32) (p2 : Int32) (p3 : Int32) (p4 : Int32) (M : zM) : Option zM :=
  grd (zix ((((70 : Int32) + ((60 : Int32) * p1)) + ((6 : Int32) * p2)) + p3) 660) (lt (zwI M 84 (zn ((((70 : Int32) + ((60 : Int32) * p1)) + ((6 : Int32) * p2)) + p3)) p4) (fun (M1 : zM) => some M1))
set_option maxHeartbeats 4000000 in
set_option maxRecDepth 100000 in
theorem tX11_setIts (E : zE) (p1 : Int32) (p2 : Int32) (p3 : Int32) (p4 : Int32) (M : zM) : zFV E mX11_setIts [.ref 76, .int p1, .int p2, .int p3, .int p4] zY0 M (fX11_setIts p1 p2 p3 p4 M) := by
  refine zF_of (L := [some (.ref 76), some (.int p1), some (.int p2), some (.int p3), some (.int p4)]) plX11 (Nat.le_of_ble_eq_true rfl) rfl (fun post => ?_)
  unfold fX11_setIts
  refine z_aload_n 0 dX11_setIts_0 rfl ?_
  refine z_getR 1 (r := 84) dX11_setIts_1 fl_X11_31 zy_76 rfl ?_
  refine z_bipush 4 dX11_setIts_4 zbp_70 ?_
  refine z_bipush 6 dX11_setIts_6 zbp_60 ?_
  refine z_iload_n 8 dX11_setIts_8 rfl ?_
  refine z_imul 9 dX11_setIts_9 ?_
  refine z_iadd 10 dX11_setIts_10 ?_
  refine z_bipush 11 dX11_setIts_11 zbp_6 ?_
  refine z_iload_n 13 dX11_setIts_13 rfl ?_
  refine z_imul 14 dX11_setIts_14 ?_
  refine z_iadd 15 dX11_setIts_15 ?_
  refine z_iload_n 16 dX11_setIts_16 rfl ?_
  refine z_iadd 17 dX11_setIts_17 ?_
  refine z_iload 18 dX11_setIts_18 rfl ?_
  refine z_iastore 20 dX11_setIts_20 zy_84 ?_
  refine zk_nmM (fun M1 => ?_)
  exact z_return 21 dX11_setIts_21 rfl (fun h => h)
def fX11_line (p1 : Int32) (p2 : Int32) (p3 : Int32) (p4 : Int32) (M : zM) : Option (Int32 × zM) :=
  lt (fX11_isEnd p1) (fun (b1 : Bool) => if b1 = false then (some ((-1 : Int32), M)) else (lt (fX11_in p2.toInt64 (0 : Int64) (999 : Int64)) (fun (b2 : Bool) => if b2 = false then (some ((-1 : Int32), M)) else (lt (fX11_in p3.toInt64 (0 : Int64) (83520 : Int64)) (fun (b3 : Bool) => if b3 = false then (some ((-1 : Int32), M)) else (lt (fX11_in p4.toInt64 (0 : Int64) (6 : Int64)) (fun (b4 : Bool) => if b4 = false then (some ((-1 : Int32), M)) else (sq (fX11_linesOf p1 (0 : Int32) M) (fun (x5 : Int32) => if x5 = (10 : Int32) then (some ((-3 : Int32), M)) else (sq (fX11_setIts p1 x5 (0 : Int32) p2 M) (fun (M6 : zM) => sq (α := zM) (zlp (α := Int32 × Int32 × zM) (β := zM) (fun rec10 => (fun (u19 : Int32 × Int32 × zM) => match u19 with | (x7, x8, M9) => if x8 ≤ 0 then (some M9) else (sq (fX11_setIts p1 x5 x8 (zrm_i x7 (17 : Int32)) M9) (fun (M14 : zM) => lt ((x7 / (17 : Int32))) (fun (x15 : Int32) => rec10 (x15, (x8 + (-1 : Int32)), M14)))))) zFu (p3, (4 : Int32), M6)) (fun (M13 : zM) => sq (fX11_setIts p1 x5 (5 : Int32) p4 M13) (fun (M16 : zM) => lt (((64 : Int32) + p1)) (fun (x17 : Int32) => grd (zix x17 660) (grd (zix x17 660) (lt (zwI M16 84 (zn x17) ((M16.1 84 (zn x17)) + (1 : Int32))) (fun (M18 : zM) => some (x5, M18))))))))))))))))))
set_option maxHeartbeats 4000000 in
set_option maxRecDepth 100000 in
theorem tX11_line (E : zE) (p1 : Int32) (p2 : Int32) (p3 : Int32) (p4 : Int32) (M : zM) : zFI E mX11_line [.ref 76, .int p1, .int p2, .int p3, .int p4] zY0 M (fX11_line p1 p2 p3 p4 M) := by
  refine zF_of (L := [some (.ref 76), some (.int p1), some (.int p2), some (.int p3), some (.int p4), none, none, none]) plX11 (Nat.le_of_ble_eq_true rfl) rfl (fun post => ?_)
  unfold fX11_line
  refine z_iload_n 0 dX11_line_0 rfl ?_
  refine z_ctb (zat_S1 1 dX11_line_1 lk_X11_161 ⟨Nat.le_of_ble_eq_true rfl, Nat.le_of_ble_eq_true rfl⟩ (Nat.le_of_ble_eq_true rfl)) (tX11_isEnd E zY0 p1 M) (fun b1 => ?_)
  refine z_ifeqb 4 44 dX11_line_4 (by decide) (fun _ => ?_) (fun _ => ?_)
  · refine z_iconst 44 dX11_line_44 zci_m1 ?_
    exact z_ireturn 45 dX11_line_45 rfl rfl (fun h => h)
  · refine z_iload_n 7 dX11_line_7 rfl ?_
    refine z_i2l 8 dX11_line_8 ?_
    refine z_lconst 9 dX11_line_9 zlc_0 ?_
    refine z_ldc2 10 dX11_line_10 cw_X11_167 ?_
    refine z_ctb (zat_S3 13 dX11_line_13 lk_X11_85 ⟨Nat.le_of_ble_eq_true rfl, Nat.le_of_ble_eq_true rfl⟩ (Nat.le_of_ble_eq_true rfl)) (tX11_in E zY0 p2.toInt64 (0 : Int64) (999 : Int64) M) (fun b2 => ?_)
    refine z_ifeqb 16 44 dX11_line_16 (by decide) (fun _ => ?_) (fun _ => ?_)
    · refine z_iconst 44 dX11_line_44 zci_m1 ?_
      exact z_ireturn 45 dX11_line_45 rfl rfl (fun h => h)
    · refine z_iload_n 19 dX11_line_19 rfl ?_
      refine z_i2l 20 dX11_line_20 ?_
      refine z_lconst 21 dX11_line_21 zlc_0 ?_
      refine z_ldc2 22 dX11_line_22 cw_X11_169 ?_
      refine z_ctb (zat_S3 25 dX11_line_25 lk_X11_85 ⟨Nat.le_of_ble_eq_true rfl, Nat.le_of_ble_eq_true rfl⟩ (Nat.le_of_ble_eq_true rfl)) (tX11_in E zY0 p3.toInt64 (0 : Int64) (83520 : Int64) M) (fun b3 => ?_)
      refine z_ifeqb 28 44 dX11_line_28 (by decide) (fun _ => ?_) (fun _ => ?_)
      · refine z_iconst 44 dX11_line_44 zci_m1 ?_
        exact z_ireturn 45 dX11_line_45 rfl rfl (fun h => h)
      · refine z_iload 31 dX11_line_31 rfl ?_
        refine z_i2l 33 dX11_line_33 ?_
        refine z_lconst 34 dX11_line_34 zlc_0 ?_
        refine z_ldc2 35 dX11_line_35 cw_X11_171 ?_
        refine z_ctb (zat_S3 38 dX11_line_38 lk_X11_85 ⟨Nat.le_of_ble_eq_true rfl, Nat.le_of_ble_eq_true rfl⟩ (Nat.le_of_ble_eq_true rfl)) (tX11_in E zY0 p4.toInt64 (0 : Int64) (6 : Int64) M) (fun b4 => ?_)
        refine z_ifneb 41 46 dX11_line_41 (by decide) (fun _ => ?_) (fun _ => ?_)
        · refine z_iconst 44 dX11_line_44 zci_m1 ?_
          exact z_ireturn 45 dX11_line_45 rfl rfl (fun h => h)
        · refine z_aload_n 46 dX11_line_46 rfl ?_
          refine z_iload_n 47 dX11_line_47 rfl ?_
          refine z_iconst 48 dX11_line_48 zci_0 ?_
          refine z_ci (zat_V2 49 dX11_line_49 lk_X11_164 zy_76 rfl rfl ⟨Nat.le_of_ble_eq_true rfl, Nat.le_of_ble_eq_true rfl⟩ (Nat.le_of_ble_eq_true rfl)) (tX11_linesOf E p1 (0 : Int32) M) (fun x5 => ?_)
          refine z_istore 52 (L' := [some (.ref 76), some (.int p1), some (.int p2), some (.int p3), some (.int p4), some (.int x5), none, none]) dX11_line_52 (by decide) rfl ?_
          refine z_iload 54 dX11_line_54 rfl ?_
          refine z_bipush 56 dX11_line_56 zbp_10 ?_
          refine z_icne 58 64 dX11_line_58 (by decide) (fun _ => ?_) (fun _ => ?_)
          · refine z_bipush 61 dX11_line_61 zbp_m3 ?_
            exact z_ireturn 63 dX11_line_63 rfl rfl (fun h => h)
          · refine z_iload_n 64 dX11_line_64 rfl ?_
            refine z_istore 65 (L' := [some (.ref 76), some (.int p1), some (.int p2), some (.int p3), some (.int p4), some (.int x5), some (.int p3), none]) dX11_line_65 (by decide) rfl ?_
            refine z_aload_n 67 dX11_line_67 rfl ?_
            refine z_iload_n 68 dX11_line_68 rfl ?_
            refine z_iload 69 dX11_line_69 rfl ?_
            refine z_iconst 71 dX11_line_71 zci_0 ?_
            refine z_iload_n 72 dX11_line_72 rfl ?_
            refine z_cV (zat_V4 73 dX11_line_73 lk_X11_173 zy_76 rfl rfl ⟨Nat.le_of_ble_eq_true rfl, Nat.le_of_ble_eq_true rfl⟩ (Nat.le_of_ble_eq_true rfl)) (tX11_setIts E p1 x5 (0 : Int32) p2 M) (fun M6 => ?_)
            refine z_iconst 76 dX11_line_76 zci_4 ?_
            refine z_istore 77 (L' := [some (.ref 76), some (.int p1), some (.int p2), some (.int p3), some (.int p4), some (.int x5), some (.int p3), some (.int (4 : Int32))]) dX11_line_77 (by decide) rfl ?_
            refine zk_sqj (α := zM) 111 (fun (M13 : zM) => [some (.ref 76), some (.int p1), none, none, some (.int p4), some (.int x5), none, none]) (fun (M13 : zM) => []) (fun (M13 : zM) => (zY0, M13)) ?_ ?_
            · intro M13
              refine z_aload_n 111 dX11_line_111 rfl ?_
              refine z_iload_n 112 dX11_line_112 rfl ?_
              refine z_iload 113 dX11_line_113 rfl ?_
              refine z_iconst 115 dX11_line_115 zci_5 ?_
              refine z_iload 116 dX11_line_116 rfl ?_
              refine z_cV (zat_V4 118 dX11_line_118 lk_X11_173 zy_76 rfl rfl ⟨Nat.le_of_ble_eq_true rfl, Nat.le_of_ble_eq_true rfl⟩ (Nat.le_of_ble_eq_true rfl)) (tX11_setIts E p1 x5 (5 : Int32) p4 M13) (fun M16 => ?_)
              refine z_aload_n 121 dX11_line_121 rfl ?_
              refine z_getR 122 (r := 84) dX11_line_122 fl_X11_31 zy_76 rfl ?_
              refine z_bipush 125 dX11_line_125 zbp_64 ?_
              refine z_iload_n 127 dX11_line_127 rfl ?_
              refine z_iadd 128 dX11_line_128 ?_
              refine zk_nmI (fun x17 => ?_)
              refine z_dup2 129 dX11_line_129 rfl rfl ?_
              refine z_iaload 130 dX11_line_130 zy_84 ?_
              refine z_iconst 131 dX11_line_131 zci_1 ?_
              refine z_iadd 132 dX11_line_132 ?_
              refine z_iastore 133 dX11_line_133 zy_84 ?_
              refine zk_nmM (fun M18 => ?_)
              refine z_iload 134 dX11_line_134 rfl ?_
              exact z_ireturn 136 dX11_line_136 rfl rfl (fun h => h)
            · refine zk_weak (L' := [some (.ref 76), some (.int p1), none, none, some (.int p4), some (.int x5), some (.int p3), some (.int (4 : Int32))]) (zLe_s (zLe_s (zLe_n (zLe_n (zLe_s (zLe_s (zLe_s (zLe_s zLe_nl)))))))) (zk_lp (α := Int32 × Int32 × zM) 79 (fun (u11 : Int32 × Int32 × zM) => match u11 with | (x7, x8, M9) => [some (.ref 76), some (.int p1), none, none, some (.int p4), some (.int x5), some (.int x7), some (.int x8)]) (fun (u12 : Int32 × Int32 × zM) => match u12 with | (x7, x8, M9) => (zY0, M9)) ?_ zFu (p3, (4 : Int32), M6))
              intro rec10 hrec10
              intro u20
              obtain ⟨x7, x8, M9⟩ := u20
              try dsimp only
              refine z_iload 79 dX11_line_79 rfl ?_
              refine z_ifle 81 111 dX11_line_81 (by decide) (fun _ => ?_) (fun _ => ?_)
              · exact zk_exitw (L' := [some (.ref 76), some (.int p1), none, none, some (.int p4), some (.int x5), none, none]) (zLe_s (zLe_s (zLe_n (zLe_n (zLe_s (zLe_s (zLe_n (zLe_n zLe_nl)))))))) (fun h => h)
              · refine z_aload_n 84 dX11_line_84 rfl ?_
                refine z_iload_n 85 dX11_line_85 rfl ?_
                refine z_iload 86 dX11_line_86 rfl ?_
                refine z_iload 88 dX11_line_88 rfl ?_
                refine z_iload 90 dX11_line_90 rfl ?_
                refine z_bipush 92 dX11_line_92 zbp_17 ?_
                refine z_iremc 94 dX11_line_94 (by decide) ?_
                refine z_cV (zat_V4 95 dX11_line_95 lk_X11_173 zy_76 rfl rfl ⟨Nat.le_of_ble_eq_true rfl, Nat.le_of_ble_eq_true rfl⟩ (Nat.le_of_ble_eq_true rfl)) (tX11_setIts E p1 x5 x8 (zrm_i x7 (17 : Int32)) M9) (fun M14 => ?_)
                refine z_iload 98 dX11_line_98 rfl ?_
                refine z_bipush 100 dX11_line_100 zbp_17 ?_
                refine z_idivc 102 dX11_line_102 (by decide) ?_
                refine zk_nmI (fun x15 => ?_)
                refine z_istore 103 (L' := [some (.ref 76), some (.int p1), none, none, some (.int p4), some (.int x5), some (.int x15), some (.int x8)]) dX11_line_103 (by decide) rfl ?_
                refine z_iinc 105 (v := (x8 + (-1 : Int32))) (L' := [some (.ref 76), some (.int p1), none, none, some (.int p4), some (.int x5), some (.int x15), some (.int (x8 + (-1 : Int32)))]) dX11_line_105 rfl (zinc zci_m1 _) (by decide) rfl ?_
                refine z_goto 108 79 dX11_line_108 (by decide) ?_
                exact zk_weak (L' := [some (.ref 76), some (.int p1), none, none, some (.int p4), some (.int x5), some (.int x15), some (.int (x8 + (-1 : Int32)))]) (zLe_s (zLe_s (zLe_n (zLe_n (zLe_s (zLe_s (zLe_s (zLe_s zLe_nl)))))))) (hrec10 (x15, (x8 + (-1 : Int32)), M14))
def fX11_drop (p1 : Int32) (p2 : Int32) (M : zM) : Option (Int32 × zM) :=
  sq (fX11_isLine p1 p2 M) (fun (b1 : Bool) => if b1 = false then (some ((-1 : Int32), M)) else (lt (((64 : Int32) + p1)) (fun (x2 : Int32) => grd (zix x2 660) (grd (zix x2 660) (lt (zwI M 84 (zn x2) ((M.1 84 (zn x2)) - (1 : Int32))) (fun (M3 : zM) => sq (α := zM) (zlp (α := Int32 × zM) (β := zM) (fun rec6 => (fun (u30 : Int32 × zM) => match u30 with | (x4, M5) => sq (fX11_linesOf p1 (0 : Int32) M5) (fun (x10 : Int32) => if x10 ≤ x4 then (some M5) else (sq (α := zM) (zlp (α := Int32 × zM) (β := zM) (fun rec21 => (fun (u27 : Int32 × zM) => match u27 with | (x19, M20) => if (6 : Int32) ≤ x19 then (some M20) else (sq (fX11_its p1 (x4 + (1 : Int32)) x19 M20) (fun (x25 : Int32) => sq (fX11_setIts p1 x4 x19 x25 M20) (fun (M26 : zM) => rec21 ((x19 + (1 : Int32)), M26)))))) zFu ((0 : Int32), M5)) (fun (M24 : zM) => rec6 ((x4 + (1 : Int32)), M24)))))) zFu (p2, M3)) (fun (M9 : zM) => sq (fX11_linesOf p1 (0 : Int32) M9) (fun (x29 : Int32) => some (x29, M9)))))))))
set_option maxHeartbeats 4000000 in
set_option maxRecDepth 100000 in
theorem tX11_drop (E : zE) (p1 : Int32) (p2 : Int32) (M : zM) : zFI E mX11_drop [.ref 76, .int p1, .int p2] zY0 M (fX11_drop p1 p2 M) := by
  refine zF_of (L := [some (.ref 76), some (.int p1), some (.int p2), none, none]) plX11 (Nat.le_of_ble_eq_true rfl) rfl (fun post => ?_)
  unfold fX11_drop
  refine z_aload_n 0 dX11_drop_0 rfl ?_
  refine z_iload_n 1 dX11_drop_1 rfl ?_
  refine z_iload_n 2 dX11_drop_2 rfl ?_
  refine z_cb (zat_V2 3 dX11_drop_3 lk_X11_177 zy_76 rfl rfl ⟨Nat.le_of_ble_eq_true rfl, Nat.le_of_ble_eq_true rfl⟩ (Nat.le_of_ble_eq_true rfl)) (tX11_isLine E p1 p2 M) (fun b1 => ?_)
  refine z_ifneb 6 11 dX11_drop_6 (by decide) (fun _ => ?_) (fun _ => ?_)
  · refine z_iconst 9 dX11_drop_9 zci_m1 ?_
    exact z_ireturn 10 dX11_drop_10 rfl rfl (fun h => h)
  · refine z_aload_n 11 dX11_drop_11 rfl ?_
    refine z_getR 12 (r := 84) dX11_drop_12 fl_X11_31 zy_76 rfl ?_
    refine z_bipush 15 dX11_drop_15 zbp_64 ?_
    refine z_iload_n 17 dX11_drop_17 rfl ?_
    refine z_iadd 18 dX11_drop_18 ?_
    refine zk_nmI (fun x2 => ?_)
    refine z_dup2 19 dX11_drop_19 rfl rfl ?_
    refine z_iaload 20 dX11_drop_20 zy_84 ?_
    refine z_iconst 21 dX11_drop_21 zci_1 ?_
    refine z_isub 22 dX11_drop_22 ?_
    refine z_iastore 23 dX11_drop_23 zy_84 ?_
    refine zk_nmM (fun M3 => ?_)
    refine z_iload_n 24 dX11_drop_24 rfl ?_
    refine z_istore_n 25 (L' := [some (.ref 76), some (.int p1), some (.int p2), some (.int p2), none]) dX11_drop_25 (by decide) rfl ?_
    refine zk_sqj (α := zM) 76 (fun (M9 : zM) => [some (.ref 76), some (.int p1), none, none, none]) (fun (M9 : zM) => []) (fun (M9 : zM) => (zY0, M9)) ?_ ?_
    · intro M9
      refine z_aload_n 76 dX11_drop_76 rfl ?_
      refine z_iload_n 77 dX11_drop_77 rfl ?_
      refine z_iconst 78 dX11_drop_78 zci_0 ?_
      refine z_ci (zat_V2 79 dX11_drop_79 lk_X11_164 zy_76 rfl rfl ⟨Nat.le_of_ble_eq_true rfl, Nat.le_of_ble_eq_true rfl⟩ (Nat.le_of_ble_eq_true rfl)) (tX11_linesOf E p1 (0 : Int32) M9) (fun x29 => ?_)
      exact z_ireturn 82 dX11_drop_82 rfl rfl (fun h => h)
    · refine zk_weak (L' := [some (.ref 76), some (.int p1), none, some (.int p2), none]) (zLe_s (zLe_s (zLe_n (zLe_s (zLe_n zLe_nl))))) (zk_lp (α := Int32 × zM) 26 (fun (u7 : Int32 × zM) => match u7 with | (x4, M5) => [some (.ref 76), some (.int p1), none, some (.int x4), none]) (fun (u8 : Int32 × zM) => match u8 with | (x4, M5) => (zY0, M5)) ?_ zFu (p2, M3))
      intro rec6 hrec6
      intro u31
      obtain ⟨x4, M5⟩ := u31
      try dsimp only
      refine z_iload_n 26 dX11_drop_26 rfl ?_
      refine z_aload_n 27 dX11_drop_27 rfl ?_
      refine z_iload_n 28 dX11_drop_28 rfl ?_
      refine z_iconst 29 dX11_drop_29 zci_0 ?_
      refine z_ci (zat_V2 30 dX11_drop_30 lk_X11_164 zy_76 rfl rfl ⟨Nat.le_of_ble_eq_true rfl, Nat.le_of_ble_eq_true rfl⟩ (Nat.le_of_ble_eq_true rfl)) (tX11_linesOf E p1 (0 : Int32) M5) (fun x10 => ?_)
      refine z_icge 33 76 dX11_drop_33 (by decide) (fun _ => ?_) (fun _ => ?_)
      · exact zk_exitw (L' := [some (.ref 76), some (.int p1), none, none, none]) (zLe_s (zLe_s (zLe_n (zLe_n (zLe_n zLe_nl))))) (fun h => h)
      · refine z_iconst 36 dX11_drop_36 zci_0 ?_
        refine z_istore 37 (L' := [some (.ref 76), some (.int p1), none, some (.int x4), some (.int (0 : Int32))]) dX11_drop_37 (by decide) rfl ?_
        refine zk_sqj (α := zM) 70 (fun (M24 : zM) => [some (.ref 76), some (.int p1), none, some (.int x4), none]) (fun (M24 : zM) => []) (fun (M24 : zM) => (zY0, M24)) ?_ ?_
        · intro M24
          refine z_iinc 70 (v := (x4 + (1 : Int32))) (L' := [some (.ref 76), some (.int p1), none, some (.int (x4 + (1 : Int32))), none]) dX11_drop_70 rfl (zinc zci_1 _) (by decide) rfl ?_
          refine z_goto 73 26 dX11_drop_73 (by decide) ?_
          exact zk_weak (L' := [some (.ref 76), some (.int p1), none, some (.int (x4 + (1 : Int32))), none]) (zLe_s (zLe_s (zLe_n (zLe_s (zLe_n zLe_nl))))) (hrec6 ((x4 + (1 : Int32)), M24))
        · refine zk_weak (L' := [some (.ref 76), some (.int p1), none, some (.int x4), some (.int (0 : Int32))]) (zLe_s (zLe_s (zLe_n (zLe_s (zLe_s zLe_nl))))) (zk_lp (α := Int32 × zM) 39 (fun (u22 : Int32 × zM) => match u22 with | (x19, M20) => [some (.ref 76), some (.int p1), none, some (.int x4), some (.int x19)]) (fun (u23 : Int32 × zM) => match u23 with | (x19, M20) => (zY0, M20)) ?_ zFu ((0 : Int32), M5))
          intro rec21 hrec21
          intro u28
          obtain ⟨x19, M20⟩ := u28
          try dsimp only
          refine z_iload 39 dX11_drop_39 rfl ?_
          refine z_bipush 41 dX11_drop_41 zbp_6 ?_
          refine z_icge 43 70 dX11_drop_43 (by decide) (fun _ => ?_) (fun _ => ?_)
          · exact zk_exitw (L' := [some (.ref 76), some (.int p1), none, some (.int x4), none]) (zLe_s (zLe_s (zLe_n (zLe_s (zLe_n zLe_nl))))) (fun h => h)
          · refine z_aload_n 46 dX11_drop_46 rfl ?_
            refine z_iload_n 47 dX11_drop_47 rfl ?_
            refine z_iload_n 48 dX11_drop_48 rfl ?_
            refine z_iload 49 dX11_drop_49 rfl ?_
            refine z_aload_n 51 dX11_drop_51 rfl ?_
            refine z_iload_n 52 dX11_drop_52 rfl ?_
            refine z_iload_n 53 dX11_drop_53 rfl ?_
            refine z_iconst 54 dX11_drop_54 zci_1 ?_
            refine z_iadd 55 dX11_drop_55 ?_
            refine z_iload 56 dX11_drop_56 rfl ?_
            refine z_ci (zat_V3 58 dX11_drop_58 lk_X11_181 zy_76 rfl rfl ⟨Nat.le_of_ble_eq_true rfl, Nat.le_of_ble_eq_true rfl⟩ (Nat.le_of_ble_eq_true rfl)) (tX11_its E p1 (x4 + (1 : Int32)) x19 M20) (fun x25 => ?_)
            refine z_cV (zat_V4 61 dX11_drop_61 lk_X11_173 zy_76 rfl rfl ⟨Nat.le_of_ble_eq_true rfl, Nat.le_of_ble_eq_true rfl⟩ (Nat.le_of_ble_eq_true rfl)) (tX11_setIts E p1 x4 x19 x25 M20) (fun M26 => ?_)
            refine z_iinc 64 (v := (x19 + (1 : Int32))) (L' := [some (.ref 76), some (.int p1), none, some (.int x4), some (.int (x19 + (1 : Int32)))]) dX11_drop_64 rfl (zinc zci_1 _) (by decide) rfl ?_
            refine z_goto 67 39 dX11_drop_67 (by decide) ?_
            exact zk_weak (L' := [some (.ref 76), some (.int p1), none, some (.int x4), some (.int (x19 + (1 : Int32)))]) (zLe_s (zLe_s (zLe_n (zLe_s (zLe_s zLe_nl))))) (hrec21 ((x19 + (1 : Int32)), M26))
def fX11_of (p1 : Int32) (p2 : Int32) (p3 : Int32) (M : zM) : Option Int32 :=
  sq (fX11_isLine p1 p2 M) (fun (b1 : Bool) => if b1 = false then (some (-1 : Int32)) else (lt (fX11_in p3.toInt64 (0 : Int64) (2 : Int64)) (fun (b2 : Bool) => jn (α := Unit) (fun (_ : Unit) => sq (α := Int32) (zlp (α := Int32 × Int32) (β := Int32) (fun rec22 => (fun (u31 : Int32 × Int32) => match u31 with | (x20, x21) => if (4 : Int32) < x21 then (some x20) else (sq (fX11_its p1 p2 x21 M) (fun (x26 : Int32) => lt ((((17 : Int32) * x20) + x26)) (fun (x27 : Int32) => rec22 (x27, (x21 + (1 : Int32)))))))) zFu ((0 : Int32), (1 : Int32))) (fun (x25 : Int32) => if p3 = 0 then (sq (fX11_its p1 p2 (0 : Int32) M) (fun (x28 : Int32) => some x28)) else (if p3 = (1 : Int32) then (some x25) else (if p3 = (2 : Int32) then (sq (fX11_its p1 p2 (5 : Int32) M) (fun (x29 : Int32) => some x29)) else (sq (fX11_its p1 p2 (p3 - (9 : Int32)) M) (fun (x30 : Int32) => some x30)))))) (fun k33 => if b2 = false then (lt (fX11_in p3.toInt64 (10 : Int64) (13 : Int64)) (fun (b34 : Bool) => if b34 = false then (some (-1 : Int32)) else (k33 ()))) else (k33 ())))))
set_option maxHeartbeats 4000000 in
set_option maxRecDepth 100000 in
theorem tX11_of (E : zE) (p1 : Int32) (p2 : Int32) (p3 : Int32) (M : zM) : zFi E mX11_of [.ref 76, .int p1, .int p2, .int p3] zY0 M (fX11_of p1 p2 p3 M) := by
  refine zF_of (L := [some (.ref 76), some (.int p1), some (.int p2), some (.int p3), none, none]) plX11 (Nat.le_of_ble_eq_true rfl) rfl (fun post => ?_)
  unfold fX11_of
  refine z_aload_n 0 dX11_of_0 rfl ?_
  refine z_iload_n 1 dX11_of_1 rfl ?_
  refine z_iload_n 2 dX11_of_2 rfl ?_
  refine z_cb (zat_V2 3 dX11_of_3 lk_X11_177 zy_76 rfl rfl ⟨Nat.le_of_ble_eq_true rfl, Nat.le_of_ble_eq_true rfl⟩ (Nat.le_of_ble_eq_true rfl)) (tX11_isLine E p1 p2 M) (fun b1 => ?_)
  refine z_ifeqb 6 35 dX11_of_6 (by decide) (fun _ => ?_) (fun _ => ?_)
  · refine z_iconst 35 dX11_of_35 zci_m1 ?_
    exact z_ireturn 36 dX11_of_36 rfl rfl (fun h => h)
  · refine z_iload_n 9 dX11_of_9 rfl ?_
    refine z_i2l 10 dX11_of_10 ?_
    refine z_lconst 11 dX11_of_11 zlc_0 ?_
    refine z_ldc2 12 dX11_of_12 cw_X11_185 ?_
    refine z_ctb (zat_S3 15 dX11_of_15 lk_X11_85 ⟨Nat.le_of_ble_eq_true rfl, Nat.le_of_ble_eq_true rfl⟩ (Nat.le_of_ble_eq_true rfl)) (tX11_in E zY0 p3.toInt64 (0 : Int64) (2 : Int64) M) (fun b2 => ?_)
    refine zk_jn (α := Unit) 37 (fun (_ : Unit) => [some (.ref 76), some (.int p1), some (.int p2), some (.int p3), none, none]) (fun (_ : Unit) => []) (fun (_ : Unit) => (zY0, M)) ?_ ?_
    · intro _
      refine z_iconst 37 dX11_of_37 zci_0 ?_
      refine z_istore 38 (L' := [some (.ref 76), some (.int p1), some (.int p2), some (.int p3), some (.int (0 : Int32)), none]) dX11_of_38 (by decide) rfl ?_
      refine z_iconst 40 dX11_of_40 zci_1 ?_
      refine z_istore 41 (L' := [some (.ref 76), some (.int p1), some (.int p2), some (.int p3), some (.int (0 : Int32)), some (.int (1 : Int32))]) dX11_of_41 (by decide) rfl ?_
      refine zk_sqj (α := Int32) 71 (fun (x25 : Int32) => [some (.ref 76), some (.int p1), some (.int p2), some (.int p3), some (.int x25), none]) (fun (x25 : Int32) => []) (fun (x25 : Int32) => (zY0, M)) ?_ ?_
      · intro x25
        refine z_iload_n 71 dX11_of_71 rfl ?_
        refine z_ifne 72 85 dX11_of_72 (by decide) (fun _ => ?_) (fun _ => ?_)
        · refine z_aload_n 75 dX11_of_75 rfl ?_
          refine z_iload_n 76 dX11_of_76 rfl ?_
          refine z_iload_n 77 dX11_of_77 rfl ?_
          refine z_iconst 78 dX11_of_78 zci_0 ?_
          refine z_ci (zat_V3 79 dX11_of_79 lk_X11_181 zy_76 rfl rfl ⟨Nat.le_of_ble_eq_true rfl, Nat.le_of_ble_eq_true rfl⟩ (Nat.le_of_ble_eq_true rfl)) (tX11_its E p1 p2 (0 : Int32) M) (fun x28 => ?_)
          refine z_goto 82 120 dX11_of_82 (by decide) ?_
          exact z_ireturn 120 dX11_of_120 rfl rfl (fun h => h)
        · refine z_iload_n 85 dX11_of_85 rfl ?_
          refine z_iconst 86 dX11_of_86 zci_1 ?_
          refine z_icne 87 95 dX11_of_87 (by decide) (fun _ => ?_) (fun _ => ?_)
          · refine z_iload 90 dX11_of_90 rfl ?_
            refine z_goto 92 120 dX11_of_92 (by decide) ?_
            exact z_ireturn 120 dX11_of_120 rfl rfl (fun h => h)
          · refine z_iload_n 95 dX11_of_95 rfl ?_
            refine z_iconst 96 dX11_of_96 zci_2 ?_
            refine z_icne 97 110 dX11_of_97 (by decide) (fun _ => ?_) (fun _ => ?_)
            · refine z_aload_n 100 dX11_of_100 rfl ?_
              refine z_iload_n 101 dX11_of_101 rfl ?_
              refine z_iload_n 102 dX11_of_102 rfl ?_
              refine z_iconst 103 dX11_of_103 zci_5 ?_
              refine z_ci (zat_V3 104 dX11_of_104 lk_X11_181 zy_76 rfl rfl ⟨Nat.le_of_ble_eq_true rfl, Nat.le_of_ble_eq_true rfl⟩ (Nat.le_of_ble_eq_true rfl)) (tX11_its E p1 p2 (5 : Int32) M) (fun x29 => ?_)
              refine z_goto 107 120 dX11_of_107 (by decide) ?_
              exact z_ireturn 120 dX11_of_120 rfl rfl (fun h => h)
            · refine z_aload_n 110 dX11_of_110 rfl ?_
              refine z_iload_n 111 dX11_of_111 rfl ?_
              refine z_iload_n 112 dX11_of_112 rfl ?_
              refine z_iload_n 113 dX11_of_113 rfl ?_
              refine z_bipush 114 dX11_of_114 zbp_9 ?_
              refine z_isub 116 dX11_of_116 ?_
              refine z_ci (zat_V3 117 dX11_of_117 lk_X11_181 zy_76 rfl rfl ⟨Nat.le_of_ble_eq_true rfl, Nat.le_of_ble_eq_true rfl⟩ (Nat.le_of_ble_eq_true rfl)) (tX11_its E p1 p2 (p3 - (9 : Int32)) M) (fun x30 => ?_)
              exact z_ireturn 120 dX11_of_120 rfl rfl (fun h => h)
      · refine zk_weak (L' := [some (.ref 76), some (.int p1), some (.int p2), some (.int p3), some (.int (0 : Int32)), some (.int (1 : Int32))]) (zLe_s (zLe_s (zLe_s (zLe_s (zLe_s (zLe_s zLe_nl)))))) (zk_lp (α := Int32 × Int32) 43 (fun (u23 : Int32 × Int32) => match u23 with | (x20, x21) => [some (.ref 76), some (.int p1), some (.int p2), some (.int p3), some (.int x20), some (.int x21)]) (fun (u24 : Int32 × Int32) => match u24 with | (x20, x21) => (zY0, M)) ?_ zFu ((0 : Int32), (1 : Int32)))
        intro rec22 hrec22
        intro u32
        obtain ⟨x20, x21⟩ := u32
        try dsimp only
        refine z_iload 43 dX11_of_43 rfl ?_
        refine z_iconst 45 dX11_of_45 zci_4 ?_
        refine z_icgt 46 71 dX11_of_46 (by decide) (fun _ => ?_) (fun _ => ?_)
        · exact zk_exitw (L' := [some (.ref 76), some (.int p1), some (.int p2), some (.int p3), some (.int x20), none]) (zLe_s (zLe_s (zLe_s (zLe_s (zLe_s (zLe_n zLe_nl)))))) (fun h => h)
        · refine z_bipush 49 dX11_of_49 zbp_17 ?_
          refine z_iload 51 dX11_of_51 rfl ?_
          refine z_imul 53 dX11_of_53 ?_
          refine z_aload_n 54 dX11_of_54 rfl ?_
          refine z_iload_n 55 dX11_of_55 rfl ?_
          refine z_iload_n 56 dX11_of_56 rfl ?_
          refine z_iload 57 dX11_of_57 rfl ?_
          refine z_ci (zat_V3 59 dX11_of_59 lk_X11_181 zy_76 rfl rfl ⟨Nat.le_of_ble_eq_true rfl, Nat.le_of_ble_eq_true rfl⟩ (Nat.le_of_ble_eq_true rfl)) (tX11_its E p1 p2 x21 M) (fun x26 => ?_)
          refine z_iadd 62 dX11_of_62 ?_
          refine zk_nmI (fun x27 => ?_)
          refine z_istore 63 (L' := [some (.ref 76), some (.int p1), some (.int p2), some (.int p3), some (.int x27), some (.int x21)]) dX11_of_63 (by decide) rfl ?_
          refine z_iinc 65 (v := (x21 + (1 : Int32))) (L' := [some (.ref 76), some (.int p1), some (.int p2), some (.int p3), some (.int x27), some (.int (x21 + (1 : Int32)))]) dX11_of_65 rfl (zinc zci_1 _) (by decide) rfl ?_
          refine z_goto 68 43 dX11_of_68 (by decide) ?_
          exact zk_weak (L' := [some (.ref 76), some (.int p1), some (.int p2), some (.int p3), some (.int x27), some (.int (x21 + (1 : Int32)))]) (zLe_s (zLe_s (zLe_s (zLe_s (zLe_s (zLe_s zLe_nl)))))) (hrec22 (x27, (x21 + (1 : Int32))))
    · intro k33 hk33
      refine z_ifneb 18 37 dX11_of_18 (by decide) (fun _ => ?_) (fun _ => ?_)
      · refine z_iload_n 21 dX11_of_21 rfl ?_
        refine z_i2l 22 dX11_of_22 ?_
        refine z_ldc2 23 dX11_of_23 cw_X11_187 ?_
        refine z_ldc2 26 dX11_of_26 cw_X11_189 ?_
        refine z_ctb (zat_S3 29 dX11_of_29 lk_X11_85 ⟨Nat.le_of_ble_eq_true rfl, Nat.le_of_ble_eq_true rfl⟩ (Nat.le_of_ble_eq_true rfl)) (tX11_in E zY0 p3.toInt64 (10 : Int64) (13 : Int64) M) (fun b34 => ?_)
        refine z_ifneb 32 37 dX11_of_32 (by decide) (fun _ => ?_) (fun _ => ?_)
        · refine z_iconst 35 dX11_of_35 zci_m1 ?_
          exact z_ireturn 36 dX11_of_36 rfl rfl (fun h => h)
        · exact zk_weak (L' := [some (.ref 76), some (.int p1), some (.int p2), some (.int p3), none, none]) (zLe_s (zLe_s (zLe_s (zLe_s (zLe_n (zLe_n zLe_nl)))))) (hk33 ())
      · exact zk_weak (L' := [some (.ref 76), some (.int p1), some (.int p2), some (.int p3), none, none]) (zLe_s (zLe_s (zLe_s (zLe_s (zLe_n (zLe_n zLe_nl)))))) (hk33 ())
def fX11_sign (p1 : Int32) (p2 : Int32) (p3 : Int32) (p4 : Int32) (M : zM) : Option (Int32 × zM) :=
  sq (fX11_isLine p1 p2 M) (fun (b1 : Bool) => if b1 = false then (some ((-1 : Int32), M)) else (lt (fX11_in p3.toInt64 (0 : Int64) (3 : Int64)) (fun (b2 : Bool) => if b2 = false then (some ((-1 : Int32), M)) else (lt (fX11_in p4.toInt64 (0 : Int64) (16 : Int64)) (fun (b3 : Bool) => if b3 = false then (some ((-1 : Int32), M)) else (sq (fX11_its p1 p2 (p3 + (1 : Int32)) M) (fun (x4 : Int32) => sq (fX11_setIts p1 p2 (p3 + (1 : Int32)) p4 M) (fun (M5 : zM) => some (x4, M5)))))))))
set_option maxHeartbeats 4000000 in
set_option maxRecDepth 100000 in
theorem tX11_sign (E : zE) (p1 : Int32) (p2 : Int32) (p3 : Int32) (p4 : Int32) (M : zM) : zFI E mX11_sign [.ref 76, .int p1, .int p2, .int p3, .int p4] zY0 M (fX11_sign p1 p2 p3 p4 M) := by
  refine zF_of (L := [some (.ref 76), some (.int p1), some (.int p2), some (.int p3), some (.int p4), none]) plX11 (Nat.le_of_ble_eq_true rfl) rfl (fun post => ?_)
  unfold fX11_sign
  refine z_aload_n 0 dX11_sign_0 rfl ?_
  refine z_iload_n 1 dX11_sign_1 rfl ?_
  refine z_iload_n 2 dX11_sign_2 rfl ?_
  refine z_cb (zat_V2 3 dX11_sign_3 lk_X11_177 zy_76 rfl rfl ⟨Nat.le_of_ble_eq_true rfl, Nat.le_of_ble_eq_true rfl⟩ (Nat.le_of_ble_eq_true rfl)) (tX11_isLine E p1 p2 M) (fun b1 => ?_)
  refine z_ifeqb 6 34 dX11_sign_6 (by decide) (fun _ => ?_) (fun _ => ?_)
  · refine z_iconst 34 dX11_sign_34 zci_m1 ?_
    exact z_ireturn 35 dX11_sign_35 rfl rfl (fun h => h)
  · refine z_iload_n 9 dX11_sign_9 rfl ?_
    refine z_i2l 10 dX11_sign_10 ?_
    refine z_lconst 11 dX11_sign_11 zlc_0 ?_
    refine z_ldc2 12 dX11_sign_12 cw_X11_191 ?_
    refine z_ctb (zat_S3 15 dX11_sign_15 lk_X11_85 ⟨Nat.le_of_ble_eq_true rfl, Nat.le_of_ble_eq_true rfl⟩ (Nat.le_of_ble_eq_true rfl)) (tX11_in E zY0 p3.toInt64 (0 : Int64) (3 : Int64) M) (fun b2 => ?_)
    refine z_ifeqb 18 34 dX11_sign_18 (by decide) (fun _ => ?_) (fun _ => ?_)
    · refine z_iconst 34 dX11_sign_34 zci_m1 ?_
      exact z_ireturn 35 dX11_sign_35 rfl rfl (fun h => h)
    · refine z_iload 21 dX11_sign_21 rfl ?_
      refine z_i2l 23 dX11_sign_23 ?_
      refine z_lconst 24 dX11_sign_24 zlc_0 ?_
      refine z_ldc2 25 dX11_sign_25 cw_X11_193 ?_
      refine z_ctb (zat_S3 28 dX11_sign_28 lk_X11_85 ⟨Nat.le_of_ble_eq_true rfl, Nat.le_of_ble_eq_true rfl⟩ (Nat.le_of_ble_eq_true rfl)) (tX11_in E zY0 p4.toInt64 (0 : Int64) (16 : Int64) M) (fun b3 => ?_)
      refine z_ifneb 31 36 dX11_sign_31 (by decide) (fun _ => ?_) (fun _ => ?_)
      · refine z_iconst 34 dX11_sign_34 zci_m1 ?_
        exact z_ireturn 35 dX11_sign_35 rfl rfl (fun h => h)
      · refine z_aload_n 36 dX11_sign_36 rfl ?_
        refine z_iload_n 37 dX11_sign_37 rfl ?_
        refine z_iload_n 38 dX11_sign_38 rfl ?_
        refine z_iload_n 39 dX11_sign_39 rfl ?_
        refine z_iconst 40 dX11_sign_40 zci_1 ?_
        refine z_iadd 41 dX11_sign_41 ?_
        refine z_ci (zat_V3 42 dX11_sign_42 lk_X11_181 zy_76 rfl rfl ⟨Nat.le_of_ble_eq_true rfl, Nat.le_of_ble_eq_true rfl⟩ (Nat.le_of_ble_eq_true rfl)) (tX11_its E p1 p2 (p3 + (1 : Int32)) M) (fun x4 => ?_)
        refine z_istore 45 (L' := [some (.ref 76), some (.int p1), some (.int p2), some (.int p3), some (.int p4), some (.int x4)]) dX11_sign_45 (by decide) rfl ?_
        refine z_aload_n 47 dX11_sign_47 rfl ?_
        refine z_iload_n 48 dX11_sign_48 rfl ?_
        refine z_iload_n 49 dX11_sign_49 rfl ?_
        refine z_iload_n 50 dX11_sign_50 rfl ?_
        refine z_iconst 51 dX11_sign_51 zci_1 ?_
        refine z_iadd 52 dX11_sign_52 ?_
        refine z_iload 53 dX11_sign_53 rfl ?_
        refine z_cV (zat_V4 55 dX11_sign_55 lk_X11_173 zy_76 rfl rfl ⟨Nat.le_of_ble_eq_true rfl, Nat.le_of_ble_eq_true rfl⟩ (Nat.le_of_ble_eq_true rfl)) (tX11_setIts E p1 p2 (p3 + (1 : Int32)) p4 M) (fun M5 => ?_)
        refine z_iload 58 dX11_sign_58 rfl ?_
        exact z_ireturn 60 dX11_sign_60 rfl rfl (fun h => h)
def fX11_arePair (p1 : Int32) (p2 : Int32) (M : zM) : Option Bool :=
  sq (fX11_isLine (0 : Int32) p1 M) (fun (b1 : Bool) => if b1 = false then (some false) else (sq (fX11_isLine (1 : Int32) p2 M) (fun (b2 : Bool) => if b2 = false then (some false) else (some true))))
set_option maxHeartbeats 4000000 in
set_option maxRecDepth 100000 in
theorem tX11_arePair (E : zE) (p1 : Int32) (p2 : Int32) (M : zM) : zFb E mX11_arePair [.ref 76, .int p1, .int p2] zY0 M (fX11_arePair p1 p2 M) := by
  refine zF_of (L := [some (.ref 76), some (.int p1), some (.int p2)]) plX11 (Nat.le_of_ble_eq_true rfl) rfl (fun post => ?_)
  unfold fX11_arePair
  refine z_aload_n 0 dX11_arePair_0 rfl ?_
  refine z_iconst 1 dX11_arePair_1 zci_0 ?_
  refine z_iload_n 2 dX11_arePair_2 rfl ?_
  refine z_cb (zat_V2 3 dX11_arePair_3 lk_X11_177 zy_76 rfl rfl ⟨Nat.le_of_ble_eq_true rfl, Nat.le_of_ble_eq_true rfl⟩ (Nat.le_of_ble_eq_true rfl)) (tX11_isLine E (0 : Int32) p1 M) (fun b1 => ?_)
  refine z_ifeqb 6 22 dX11_arePair_6 (by decide) (fun _ => ?_) (fun _ => ?_)
  · refine z_iconst 22 dX11_arePair_22 zci_0 ?_
    exact z_ireturn 23 (v := zb false) dX11_arePair_23 rfl (zput_b false).1 (fun h => h)
  · refine z_aload_n 9 dX11_arePair_9 rfl ?_
    refine z_iconst 10 dX11_arePair_10 zci_1 ?_
    refine z_iload_n 11 dX11_arePair_11 rfl ?_
    refine z_cb (zat_V2 12 dX11_arePair_12 lk_X11_177 zy_76 rfl rfl ⟨Nat.le_of_ble_eq_true rfl, Nat.le_of_ble_eq_true rfl⟩ (Nat.le_of_ble_eq_true rfl)) (tX11_isLine E (1 : Int32) p2 M) (fun b2 => ?_)
    refine z_ifeqb 15 22 dX11_arePair_15 (by decide) (fun _ => ?_) (fun _ => ?_)
    · refine z_iconst 22 dX11_arePair_22 zci_0 ?_
      exact z_ireturn 23 (v := zb false) dX11_arePair_23 rfl (zput_b false).1 (fun h => h)
    · refine z_iconst 18 dX11_arePair_18 zci_1 ?_
      refine z_goto 19 23 dX11_arePair_19 (by decide) ?_
      exact z_ireturn 23 (v := zb true) dX11_arePair_23 rfl (zput_b true).1 (fun h => h)
def fX11_tookOf (p1 : Int32) (p2 : Int32) (M : zM) : Option Int32 :=
  sq (fX11_its (1 : Int32) p2 (0 : Int32) M) (fun (x1 : Int32) => sq (fX11_its (0 : Int32) p1 (0 : Int32) M) (fun (x2 : Int32) => grd (zix (9 : Int32) 30) (some ((x1 - x2) - (M.1 81 (zn (9 : Int32)))))))
set_option maxHeartbeats 4000000 in
set_option maxRecDepth 100000 in
theorem tX11_tookOf (E : zE) (p1 : Int32) (p2 : Int32) (M : zM) : zFi E mX11_tookOf [.ref 76, .int p1, .int p2] zY0 M (fX11_tookOf p1 p2 M) := by
  refine zF_of (L := [some (.ref 76), some (.int p1), some (.int p2)]) plX11 (Nat.le_of_ble_eq_true rfl) rfl (fun post => ?_)
  unfold fX11_tookOf
  refine z_aload_n 0 dX11_tookOf_0 rfl ?_
  refine z_iconst 1 dX11_tookOf_1 zci_1 ?_
  refine z_iload_n 2 dX11_tookOf_2 rfl ?_
  refine z_iconst 3 dX11_tookOf_3 zci_0 ?_
  refine z_ci (zat_V3 4 dX11_tookOf_4 lk_X11_181 zy_76 rfl rfl ⟨Nat.le_of_ble_eq_true rfl, Nat.le_of_ble_eq_true rfl⟩ (Nat.le_of_ble_eq_true rfl)) (tX11_its E (1 : Int32) p2 (0 : Int32) M) (fun x1 => ?_)
  refine z_aload_n 7 dX11_tookOf_7 rfl ?_
  refine z_iconst 8 dX11_tookOf_8 zci_0 ?_
  refine z_iload_n 9 dX11_tookOf_9 rfl ?_
  refine z_iconst 10 dX11_tookOf_10 zci_0 ?_
  refine z_ci (zat_V3 11 dX11_tookOf_11 lk_X11_181 zy_76 rfl rfl ⟨Nat.le_of_ble_eq_true rfl, Nat.le_of_ble_eq_true rfl⟩ (Nat.le_of_ble_eq_true rfl)) (tX11_its E (0 : Int32) p1 (0 : Int32) M) (fun x2 => ?_)
  refine z_isub 14 dX11_tookOf_14 ?_
  refine z_aload_n 15 dX11_tookOf_15 rfl ?_
  refine z_getR 16 (r := 81) dX11_tookOf_16 fl_X11_22 zy_76 rfl ?_
  refine z_bipush 19 dX11_tookOf_19 zbp_9 ?_
  refine z_iaload 21 dX11_tookOf_21 zy_81 ?_
  refine z_isub 22 dX11_tookOf_22 ?_
  exact z_ireturn 23 dX11_tookOf_23 rfl rfl (fun h => h)
def fX11_took (p1 : Int32) (p2 : Int32) (M : zM) : Option Int32 :=
  sq (fX11_arePair p1 p2 M) (fun (b1 : Bool) => if b1 = false then (some (-10000 : Int32)) else (sq (fX11_tookOf p1 p2 M) (fun (x2 : Int32) => some x2)))
set_option maxHeartbeats 4000000 in
set_option maxRecDepth 100000 in
theorem tX11_took (E : zE) (p1 : Int32) (p2 : Int32) (M : zM) : zFi E mX11_took [.ref 76, .int p1, .int p2] zY0 M (fX11_took p1 p2 M) := by
  refine zF_of (L := [some (.ref 76), some (.int p1), some (.int p2)]) plX11 (Nat.le_of_ble_eq_true rfl) rfl (fun post => ?_)
  unfold fX11_took
  refine z_aload_n 0 dX11_took_0 rfl ?_
  refine z_iload_n 1 dX11_took_1 rfl ?_
  refine z_iload_n 2 dX11_took_2 rfl ?_
  refine z_cb (zat_V2 3 dX11_took_3 lk_X11_195 zy_76 rfl rfl ⟨Nat.le_of_ble_eq_true rfl, Nat.le_of_ble_eq_true rfl⟩ (Nat.le_of_ble_eq_true rfl)) (tX11_arePair E p1 p2 M) (fun b1 => ?_)
  refine z_ifeqb 6 18 dX11_took_6 (by decide) (fun _ => ?_) (fun _ => ?_)
  · refine z_sipush 18 dX11_took_18 zsp_m10000 ?_
    exact z_ireturn 21 dX11_took_21 rfl rfl (fun h => h)
  · refine z_aload_n 9 dX11_took_9 rfl ?_
    refine z_iload_n 10 dX11_took_10 rfl ?_
    refine z_iload_n 11 dX11_took_11 rfl ?_
    refine z_ci (zat_V2 12 dX11_took_12 lk_X11_198 zy_76 rfl rfl ⟨Nat.le_of_ble_eq_true rfl, Nat.le_of_ble_eq_true rfl⟩ (Nat.le_of_ble_eq_true rfl)) (tX11_tookOf E p1 p2 M) (fun x2 => ?_)
    refine z_goto 15 21 dX11_took_15 (by decide) ?_
    exact z_ireturn 21 dX11_took_21 rfl rfl (fun h => h)
def fX11_letterOf (p1 : Int32) : Int32 :=
  if p1 ≤ (8 : Int32) then (p1) else ((p1 - (8 : Int32)))
set_option maxHeartbeats 4000000 in
set_option maxRecDepth 100000 in
theorem tX11_letterOf (E : zE) (Y : zY) (p1 : Int32) (M : zM) : zFi E mX11_letterOf [.int p1] Y M (some (fX11_letterOf p1)) := by
  refine zF_of (L := [some (.int p1)]) plX11 (Nat.le_of_ble_eq_true rfl) rfl (fun post => ?_)
  show zK E _ post 0 _ _ _ (lt (fX11_letterOf p1) some) _
  unfold fX11_letterOf
  refine z_iload_n 0 dX11_letterOf_0 rfl ?_
  refine z_bipush 1 dX11_letterOf_1 zbp_8 ?_
  refine z_iclev 3 13 dX11_letterOf_3 (by decide) ?_ ?_
  · refine z_iload_n 13 dX11_letterOf_13 rfl ?_
    exact z_ireturn 14 dX11_letterOf_14 rfl rfl (fun h => h)
  · refine z_iload_n 6 dX11_letterOf_6 rfl ?_
    refine z_bipush 7 dX11_letterOf_7 zbp_8 ?_
    refine z_isub 9 dX11_letterOf_9 ?_
    refine z_goto 10 14 dX11_letterOf_10 (by decide) ?_
    exact z_ireturn 14 dX11_letterOf_14 rfl rfl (fun h => h)
def fX11_isDoubt (p1 : Int32) (p2 : Int32) : Bool :=
  if (8 : Int32) < p1 then (true) else (if p2 ≤ (8 : Int32) then (false) else (true))
set_option maxHeartbeats 4000000 in
set_option maxRecDepth 100000 in
theorem tX11_isDoubt (E : zE) (Y : zY) (p1 : Int32) (p2 : Int32) (M : zM) : zFb E mX11_isDoubt [.int p1, .int p2] Y M (some (fX11_isDoubt p1 p2)) := by
  refine zF_of (L := [some (.int p1), some (.int p2)]) plX11 (Nat.le_of_ble_eq_true rfl) rfl (fun post => ?_)
  show zK E _ post 0 _ _ _ (lt (fX11_isDoubt p1 p2) some) _
  unfold fX11_isDoubt
  refine z_iload_n 0 dX11_isDoubt_0 rfl ?_
  refine z_bipush 1 dX11_isDoubt_1 zbp_8 ?_
  refine z_icgtv 3 12 dX11_isDoubt_3 (by decide) ?_ ?_
  · refine z_iconst 12 dX11_isDoubt_12 zci_1 ?_
    refine z_goto 13 17 dX11_isDoubt_13 (by decide) ?_
    exact z_ireturn 17 (v := zb true) dX11_isDoubt_17 rfl (zput_b true).1 (fun h => h)
  · refine z_iload_n 6 dX11_isDoubt_6 rfl ?_
    refine z_bipush 7 dX11_isDoubt_7 zbp_8 ?_
    refine z_iclev 9 16 dX11_isDoubt_9 (by decide) ?_ ?_
    · refine z_iconst 16 dX11_isDoubt_16 zci_0 ?_
      exact z_ireturn 17 (v := zb false) dX11_isDoubt_17 rfl (zput_b false).1 (fun h => h)
    · refine z_iconst 12 dX11_isDoubt_12 zci_1 ?_
      refine z_goto 13 17 dX11_isDoubt_13 (by decide) ?_
      exact z_ireturn 17 (v := zb true) dX11_isDoubt_17 rfl (zput_b true).1 (fun h => h)
def fX11_pointsAt (p1 : Int32) (p2 : Int32) (p3 : Int32) (M : zM) : Option Int32 :=
  sq (fX11_its (0 : Int32) p1 (p3 + (1 : Int32)) M) (fun (x1 : Int32) => sq (fX11_its (1 : Int32) p2 (p3 + (1 : Int32)) M) (fun (x2 : Int32) => jn (α := Unit) (fun (_ : Unit) => grd (zix (5 : Int32) 30) (some (M.1 81 (zn (5 : Int32))))) (fun k12 => if x1 = 0 then (k12 ()) else (if x2 = 0 then (k12 ()) else (lt (fX11_letterOf x1) (fun (x13 : Int32) => lt ((x13 - (1 : Int32))) (fun (x14 : Int32) => lt (fX11_letterOf x2) (fun (x15 : Int32) => lt ((x15 - (1 : Int32))) (fun (x16 : Int32) => if x14 = x16 then (lt (fX11_isDoubt x1 x2) (fun (b17 : Bool) => if b17 = false then (some (0 : Int32)) else (some (1 : Int32)))) else (grd (zix (((8 : Int32) * x14) + x16) 660) (lt (((M.1 84 (zn (((8 : Int32) * x14) + x16))) - (1 : Int32))) (fun (x18 : Int32) => lt (fX11_isDoubt x1 x2) (fun (b19 : Bool) => sq (α := Int32) (if b19 = false then (some (-4 : Int32)) else (grd (zix (4 : Int32) 30) (some (M.1 81 (zn (4 : Int32)))))) (fun (x20 : Int32) => if 0 ≤ x18 then (jn (α := Unit) (fun (_ : Unit) => some x18) (fun k21 => if x20 = (-4 : Int32) then (k21 ()) else (if x20 ≤ x18 then (some x20) else (k21 ())))) else (some x20)))))))))))))))
set_option maxHeartbeats 4000000 in
set_option maxRecDepth 100000 in
theorem tX11_pointsAt (E : zE) (p1 : Int32) (p2 : Int32) (p3 : Int32) (M : zM) : zFi E mX11_pointsAt [.ref 76, .int p1, .int p2, .int p3] zY0 M (fX11_pointsAt p1 p2 p3 M) := by
  refine zF_of (L := [some (.ref 76), some (.int p1), some (.int p2), some (.int p3), none, none, none, none, none, none]) plX11 (Nat.le_of_ble_eq_true rfl) rfl (fun post => ?_)
  unfold fX11_pointsAt
  refine z_aload_n 0 dX11_pointsAt_0 rfl ?_
  refine z_iconst 1 dX11_pointsAt_1 zci_0 ?_
  refine z_iload_n 2 dX11_pointsAt_2 rfl ?_
  refine z_iload_n 3 dX11_pointsAt_3 rfl ?_
  refine z_iconst 4 dX11_pointsAt_4 zci_1 ?_
  refine z_iadd 5 dX11_pointsAt_5 ?_
  refine z_ci (zat_V3 6 dX11_pointsAt_6 lk_X11_181 zy_76 rfl rfl ⟨Nat.le_of_ble_eq_true rfl, Nat.le_of_ble_eq_true rfl⟩ (Nat.le_of_ble_eq_true rfl)) (tX11_its E (0 : Int32) p1 (p3 + (1 : Int32)) M) (fun x1 => ?_)
  refine z_istore 9 (L' := [some (.ref 76), some (.int p1), some (.int p2), some (.int p3), some (.int x1), none, none, none, none, none]) dX11_pointsAt_9 (by decide) rfl ?_
  refine z_aload_n 11 dX11_pointsAt_11 rfl ?_
  refine z_iconst 12 dX11_pointsAt_12 zci_1 ?_
  refine z_iload_n 13 dX11_pointsAt_13 rfl ?_
  refine z_iload_n 14 dX11_pointsAt_14 rfl ?_
  refine z_iconst 15 dX11_pointsAt_15 zci_1 ?_
  refine z_iadd 16 dX11_pointsAt_16 ?_
  refine z_ci (zat_V3 17 dX11_pointsAt_17 lk_X11_181 zy_76 rfl rfl ⟨Nat.le_of_ble_eq_true rfl, Nat.le_of_ble_eq_true rfl⟩ (Nat.le_of_ble_eq_true rfl)) (tX11_its E (1 : Int32) p2 (p3 + (1 : Int32)) M) (fun x2 => ?_)
  refine z_istore 20 (L' := [some (.ref 76), some (.int p1), some (.int p2), some (.int p3), some (.int x1), some (.int x2), none, none, none, none]) dX11_pointsAt_20 (by decide) rfl ?_
  refine z_iload 22 dX11_pointsAt_22 rfl ?_
  refine zk_jn (α := Unit) 32 (fun (_ : Unit) => [some (.ref 76), none, none, none, none, none, none, none, none, none]) (fun (_ : Unit) => []) (fun (_ : Unit) => (zY0, M)) ?_ ?_
  · intro _
    refine z_aload_n 32 dX11_pointsAt_32 rfl ?_
    refine z_getR 33 (r := 81) dX11_pointsAt_33 fl_X11_22 zy_76 rfl ?_
    refine z_iconst 36 dX11_pointsAt_36 zci_5 ?_
    refine z_iaload 37 dX11_pointsAt_37 zy_81 ?_
    exact z_ireturn 38 dX11_pointsAt_38 rfl rfl (fun h => h)
  · intro k12 hk12
    refine z_ifeq 24 32 dX11_pointsAt_24 (by decide) (fun _ => ?_) (fun _ => ?_)
    · exact zk_weak (L' := [some (.ref 76), none, none, none, none, none, none, none, none, none]) (zLe_s (zLe_n (zLe_n (zLe_n (zLe_n (zLe_n (zLe_n (zLe_n (zLe_n (zLe_n zLe_nl)))))))))) (hk12 ())
    · refine z_iload 27 dX11_pointsAt_27 rfl ?_
      refine z_ifne 29 39 dX11_pointsAt_29 (by decide) (fun _ => ?_) (fun _ => ?_)
      · exact zk_weak (L' := [some (.ref 76), none, none, none, none, none, none, none, none, none]) (zLe_s (zLe_n (zLe_n (zLe_n (zLe_n (zLe_n (zLe_n (zLe_n (zLe_n (zLe_n zLe_nl)))))))))) (hk12 ())
      · refine z_iload 39 dX11_pointsAt_39 rfl ?_
        refine z_cti (zat_S1 41 dX11_pointsAt_41 lk_X11_201 ⟨Nat.le_of_ble_eq_true rfl, Nat.le_of_ble_eq_true rfl⟩ (Nat.le_of_ble_eq_true rfl)) (tX11_letterOf E zY0 x1 M) (fun x13 => ?_)
        refine z_iconst 44 dX11_pointsAt_44 zci_1 ?_
        refine z_isub 45 dX11_pointsAt_45 ?_
        refine zk_nmI (fun x14 => ?_)
        refine z_istore 46 (L' := [some (.ref 76), some (.int p1), some (.int p2), some (.int p3), some (.int x1), some (.int x2), some (.int x14), none, none, none]) dX11_pointsAt_46 (by decide) rfl ?_
        refine z_iload 48 dX11_pointsAt_48 rfl ?_
        refine z_cti (zat_S1 50 dX11_pointsAt_50 lk_X11_201 ⟨Nat.le_of_ble_eq_true rfl, Nat.le_of_ble_eq_true rfl⟩ (Nat.le_of_ble_eq_true rfl)) (tX11_letterOf E zY0 x2 M) (fun x15 => ?_)
        refine z_iconst 53 dX11_pointsAt_53 zci_1 ?_
        refine z_isub 54 dX11_pointsAt_54 ?_
        refine zk_nmI (fun x16 => ?_)
        refine z_istore 55 (L' := [some (.ref 76), some (.int p1), some (.int p2), some (.int p3), some (.int x1), some (.int x2), some (.int x14), some (.int x16), none, none]) dX11_pointsAt_55 (by decide) rfl ?_
        refine z_iload 57 dX11_pointsAt_57 rfl ?_
        refine z_iload 59 dX11_pointsAt_59 rfl ?_
        refine z_icne 61 80 dX11_pointsAt_61 (by decide) (fun _ => ?_) (fun _ => ?_)
        · refine z_iload 64 dX11_pointsAt_64 rfl ?_
          refine z_iload 66 dX11_pointsAt_66 rfl ?_
          refine z_ctb (zat_S2 68 dX11_pointsAt_68 lk_X11_204 ⟨Nat.le_of_ble_eq_true rfl, Nat.le_of_ble_eq_true rfl⟩ (Nat.le_of_ble_eq_true rfl)) (tX11_isDoubt E zY0 x1 x2 M) (fun b17 => ?_)
          refine z_ifeqb 71 78 dX11_pointsAt_71 (by decide) (fun _ => ?_) (fun _ => ?_)
          · refine z_iconst 78 dX11_pointsAt_78 zci_0 ?_
            exact z_ireturn 79 dX11_pointsAt_79 rfl rfl (fun h => h)
          · refine z_iconst 74 dX11_pointsAt_74 zci_1 ?_
            refine z_goto 75 79 dX11_pointsAt_75 (by decide) ?_
            exact z_ireturn 79 dX11_pointsAt_79 rfl rfl (fun h => h)
        · refine z_aload_n 80 dX11_pointsAt_80 rfl ?_
          refine z_getR 81 (r := 84) dX11_pointsAt_81 fl_X11_31 zy_76 rfl ?_
          refine z_bipush 84 dX11_pointsAt_84 zbp_8 ?_
          refine z_iload 86 dX11_pointsAt_86 rfl ?_
          refine z_imul 88 dX11_pointsAt_88 ?_
          refine z_iload 89 dX11_pointsAt_89 rfl ?_
          refine z_iadd 91 dX11_pointsAt_91 ?_
          refine z_iaload 92 dX11_pointsAt_92 zy_84 ?_
          refine z_iconst 93 dX11_pointsAt_93 zci_1 ?_
          refine z_isub 94 dX11_pointsAt_94 ?_
          refine zk_nmI (fun x18 => ?_)
          refine z_istore 95 (L' := [some (.ref 76), some (.int p1), some (.int p2), some (.int p3), some (.int x1), some (.int x2), some (.int x14), some (.int x16), some (.int x18), none]) dX11_pointsAt_95 (by decide) rfl ?_
          refine z_iload 97 dX11_pointsAt_97 rfl ?_
          refine z_iload 99 dX11_pointsAt_99 rfl ?_
          refine z_ctb (zat_S2 101 dX11_pointsAt_101 lk_X11_204 ⟨Nat.le_of_ble_eq_true rfl, Nat.le_of_ble_eq_true rfl⟩ (Nat.le_of_ble_eq_true rfl)) (tX11_isDoubt E zY0 x1 x2 M) (fun b19 => ?_)
          refine zk_sqj (α := Int32) 118 (fun (x20 : Int32) => [none, none, none, none, none, none, none, none, some (.int x18), none]) (fun (x20 : Int32) => [.int x20]) (fun (x20 : Int32) => (zY0, M)) ?_ ?_
          · intro x20
            refine z_istore 118 (L' := [none, none, none, none, none, none, none, none, some (.int x18), some (.int x20)]) dX11_pointsAt_118 (by decide) rfl ?_
            refine z_iload 120 dX11_pointsAt_120 rfl ?_
            refine z_ifge 122 130 dX11_pointsAt_122 (by decide) (fun _ => ?_) (fun _ => ?_)
            · refine z_iload 130 dX11_pointsAt_130 rfl ?_
              refine z_bipush 132 dX11_pointsAt_132 zbp_m4 ?_
              refine zk_jn (α := Unit) 144 (fun (_ : Unit) => [none, none, none, none, none, none, none, none, some (.int x18), none]) (fun (_ : Unit) => []) (fun (_ : Unit) => (zY0, M)) ?_ ?_
              · intro _
                refine z_iload 144 dX11_pointsAt_144 rfl ?_
                refine z_goto 146 151 dX11_pointsAt_146 (by decide) ?_
                exact z_ireturn 151 dX11_pointsAt_151 rfl rfl (fun h => h)
              · intro k21 hk21
                refine z_iceq 134 144 dX11_pointsAt_134 (by decide) (fun _ => ?_) (fun _ => ?_)
                · exact zk_weak (L' := [none, none, none, none, none, none, none, none, some (.int x18), none]) (zLe_n (zLe_n (zLe_n (zLe_n (zLe_n (zLe_n (zLe_n (zLe_n (zLe_s (zLe_n zLe_nl)))))))))) (hk21 ())
                · refine z_iload 137 dX11_pointsAt_137 rfl ?_
                  refine z_iload 139 dX11_pointsAt_139 rfl ?_
                  refine z_icge 141 149 dX11_pointsAt_141 (by decide) (fun _ => ?_) (fun _ => ?_)
                  · refine z_iload 149 dX11_pointsAt_149 rfl ?_
                    exact z_ireturn 151 dX11_pointsAt_151 rfl rfl (fun h => h)
                  · exact zk_weak (L' := [none, none, none, none, none, none, none, none, some (.int x18), none]) (zLe_n (zLe_n (zLe_n (zLe_n (zLe_n (zLe_n (zLe_n (zLe_n (zLe_s (zLe_n zLe_nl)))))))))) (hk21 ())
            · refine z_iload 125 dX11_pointsAt_125 rfl ?_
              refine z_goto 127 151 dX11_pointsAt_127 (by decide) ?_
              exact z_ireturn 151 dX11_pointsAt_151 rfl rfl (fun h => h)
          · refine z_ifeqb 104 116 dX11_pointsAt_104 (by decide) (fun _ => ?_) (fun _ => ?_)
            · refine z_bipush 116 dX11_pointsAt_116 zbp_m4 ?_
              exact zk_exitw (L' := [none, none, none, none, none, none, none, none, some (.int x18), none]) (zLe_n (zLe_n (zLe_n (zLe_n (zLe_n (zLe_n (zLe_n (zLe_n (zLe_s (zLe_n zLe_nl)))))))))) (fun h => h)
            · refine z_aload_n 107 dX11_pointsAt_107 rfl ?_
              refine z_getR 108 (r := 81) dX11_pointsAt_108 fl_X11_22 zy_76 rfl ?_
              refine z_iconst 111 dX11_pointsAt_111 zci_4 ?_
              refine z_iaload 112 dX11_pointsAt_112 zy_81 ?_
              refine z_goto 113 118 dX11_pointsAt_113 (by decide) ?_
              exact zk_exitw (L' := [none, none, none, none, none, none, none, none, some (.int x18), none]) (zLe_n (zLe_n (zLe_n (zLe_n (zLe_n (zLe_n (zLe_n (zLe_n (zLe_s (zLe_n zLe_nl)))))))))) (fun h => h)
def fX11_isInTime (p1 : Int32) (p2 : Int32) (M : zM) : Option Bool :=
  sq (fX11_tookOf p1 p2 M) (fun (x1 : Int32) => grd (zix (0 : Int32) 30) (grd (zix (1 : Int32) 30) (lt (fX11_in x1.toInt64 ((M.1 81 (zn (0 : Int32)))).toInt64 ((M.1 81 (zn (1 : Int32)))).toInt64) (fun (b2 : Bool) => some b2))))
set_option maxHeartbeats 4000000 in
set_option maxRecDepth 100000 in
theorem tX11_isInTime (E : zE) (p1 : Int32) (p2 : Int32) (M : zM) : zFb E mX11_isInTime [.ref 76, .int p1, .int p2] zY0 M (fX11_isInTime p1 p2 M) := by
  refine zF_of (L := [some (.ref 76), some (.int p1), some (.int p2)]) plX11 (Nat.le_of_ble_eq_true rfl) rfl (fun post => ?_)
  unfold fX11_isInTime
  refine z_aload_n 0 dX11_isInTime_0 rfl ?_
  refine z_iload_n 1 dX11_isInTime_1 rfl ?_
  refine z_iload_n 2 dX11_isInTime_2 rfl ?_
  refine z_ci (zat_V2 3 dX11_isInTime_3 lk_X11_198 zy_76 rfl rfl ⟨Nat.le_of_ble_eq_true rfl, Nat.le_of_ble_eq_true rfl⟩ (Nat.le_of_ble_eq_true rfl)) (tX11_tookOf E p1 p2 M) (fun x1 => ?_)
  refine z_i2l 6 dX11_isInTime_6 ?_
  refine z_aload_n 7 dX11_isInTime_7 rfl ?_
  refine z_getR 8 (r := 81) dX11_isInTime_8 fl_X11_22 zy_76 rfl ?_
  refine z_iconst 11 dX11_isInTime_11 zci_0 ?_
  refine z_iaload 12 dX11_isInTime_12 zy_81 ?_
  refine z_i2l 13 dX11_isInTime_13 ?_
  refine z_aload_n 14 dX11_isInTime_14 rfl ?_
  refine z_getR 15 (r := 81) dX11_isInTime_15 fl_X11_22 zy_76 rfl ?_
  refine z_iconst 18 dX11_isInTime_18 zci_1 ?_
  refine z_iaload 19 dX11_isInTime_19 zy_81 ?_
  refine z_i2l 20 dX11_isInTime_20 ?_
  refine z_ctb (zat_S3 21 dX11_isInTime_21 lk_X11_85 ⟨Nat.le_of_ble_eq_true rfl, Nat.le_of_ble_eq_true rfl⟩ (Nat.le_of_ble_eq_true rfl)) (tX11_in E zY0 x1.toInt64 ((M.1 81 (zn (0 : Int32)))).toInt64 ((M.1 81 (zn (1 : Int32)))).toInt64 M) (fun b2 => ?_)
  exact z_ireturn 24 (v := zb b2) dX11_isInTime_24 rfl (zput_b b2).1 (fun h => h)
def fX11_areUnlike (p1 : Int32) (p2 : Int32) : Bool :=
  if p1 ≤ 0 then (false) else (if p2 ≤ 0 then (false) else (if p1 = p2 then (false) else (true)))
set_option maxHeartbeats 4000000 in
set_option maxRecDepth 100000 in
theorem tX11_areUnlike (E : zE) (Y : zY) (p1 : Int32) (p2 : Int32) (M : zM) : zFb E mX11_areUnlike [.int p1, .int p2] Y M (some (fX11_areUnlike p1 p2)) := by
  refine zF_of (L := [some (.int p1), some (.int p2)]) plX11 (Nat.le_of_ble_eq_true rfl) rfl (fun post => ?_)
  show zK E _ post 0 _ _ _ (lt (fX11_areUnlike p1 p2) some) _
  unfold fX11_areUnlike
  refine z_iload_n 0 dX11_areUnlike_0 rfl ?_
  refine z_iflev 1 17 dX11_areUnlike_1 (by decide) ?_ ?_
  · refine z_iconst 17 dX11_areUnlike_17 zci_0 ?_
    exact z_ireturn 18 (v := zb false) dX11_areUnlike_18 rfl (zput_b false).1 (fun h => h)
  · refine z_iload_n 4 dX11_areUnlike_4 rfl ?_
    refine z_iflev 5 17 dX11_areUnlike_5 (by decide) ?_ ?_
    · refine z_iconst 17 dX11_areUnlike_17 zci_0 ?_
      exact z_ireturn 18 (v := zb false) dX11_areUnlike_18 rfl (zput_b false).1 (fun h => h)
    · refine z_iload_n 8 dX11_areUnlike_8 rfl ?_
      refine z_iload_n 9 dX11_areUnlike_9 rfl ?_
      refine z_iceqv 10 17 dX11_areUnlike_10 (by decide) ?_ ?_
      · refine z_iconst 17 dX11_areUnlike_17 zci_0 ?_
        exact z_ireturn 18 (v := zb false) dX11_areUnlike_18 rfl (zput_b false).1 (fun h => h)
      · refine z_iconst 13 dX11_areUnlike_13 zci_1 ?_
        refine z_goto 14 18 dX11_areUnlike_14 (by decide) ?_
        exact z_ireturn 18 (v := zb true) dX11_areUnlike_18 rfl (zput_b true).1 (fun h => h)
def fX11_costOf (p1 : Int32) (p2 : Int32) (p3 : Int32) (M : zM) : Option Int32 :=
  sq (fX11_isInTime p1 p2 M) (fun (b1 : Bool) => if b1 = false then (some (-4 : Int32)) else (sq (fX11_tookOf p1 p2 M) (fun (x2 : Int32) => grd (zix (2 : Int32) 30) (lt ((x2 - (M.1 81 (zn (2 : Int32))))) (fun (x3 : Int32) => grd (zix (3 : Int32) 30) (lt (if 0 ≤ x3 then (x3) else ((-x3))) (fun (x4 : Int32) => lt (((M.1 81 (zn (3 : Int32))) * x4)) (fun (x5 : Int32) => zlp (α := Int32 × Int32) (fun rec19 => (fun (u29 : Int32 × Int32) => match u29 with | (x17, x18) => if (4 : Int32) ≤ x18 then (sq (fX11_its (0 : Int32) p1 (5 : Int32) M) (fun (x22 : Int32) => sq (fX11_its (1 : Int32) p2 (5 : Int32) M) (fun (x23 : Int32) => lt (fX11_areUnlike x22 x23) (fun (b24 : Bool) => if b24 = false then (some x17) else (grd (zix (6 : Int32) 30) (some (x17 + (M.1 81 (zn (6 : Int32)))))))))) else (sq (α := Int32) (if ((p3 >>> (x18 &&& 31)) &&& (1 : Int32)) = (1 : Int32) then (sq (fX11_pointsAt p1 p2 x18 M) (fun (x28 : Int32) => some x28)) else (some (0 : Int32))) (fun (x26 : Int32) => if x26 = (-4 : Int32) then (some (-4 : Int32)) else (lt ((x17 + x26)) (fun (x27 : Int32) => rec19 (x27, (x18 + (1 : Int32))))))))) zFu (x5, (0 : Int32))))))))))
set_option maxHeartbeats 4000000 in
set_option maxRecDepth 100000 in
theorem tX11_costOf (E : zE) (p1 : Int32) (p2 : Int32) (p3 : Int32) (M : zM) : zFi E mX11_costOf [.ref 76, .int p1, .int p2, .int p3] zY0 M (fX11_costOf p1 p2 p3 M) := by
  refine zF_of (L := [some (.ref 76), some (.int p1), some (.int p2), some (.int p3), none, none, none, none]) plX11 (Nat.le_of_ble_eq_true rfl) rfl (fun post => ?_)
  unfold fX11_costOf
  refine z_aload_n 0 dX11_costOf_0 rfl ?_
  refine z_iload_n 1 dX11_costOf_1 rfl ?_
  refine z_iload_n 2 dX11_costOf_2 rfl ?_
  refine z_cb (zat_V2 3 dX11_costOf_3 lk_X11_207 zy_76 rfl rfl ⟨Nat.le_of_ble_eq_true rfl, Nat.le_of_ble_eq_true rfl⟩ (Nat.le_of_ble_eq_true rfl)) (tX11_isInTime E p1 p2 M) (fun b1 => ?_)
  refine z_ifneb 6 12 dX11_costOf_6 (by decide) (fun _ => ?_) (fun _ => ?_)
  · refine z_bipush 9 dX11_costOf_9 zbp_m4 ?_
    exact z_ireturn 11 dX11_costOf_11 rfl rfl (fun h => h)
  · refine z_aload_n 12 dX11_costOf_12 rfl ?_
    refine z_iload_n 13 dX11_costOf_13 rfl ?_
    refine z_iload_n 14 dX11_costOf_14 rfl ?_
    refine z_ci (zat_V2 15 dX11_costOf_15 lk_X11_198 zy_76 rfl rfl ⟨Nat.le_of_ble_eq_true rfl, Nat.le_of_ble_eq_true rfl⟩ (Nat.le_of_ble_eq_true rfl)) (tX11_tookOf E p1 p2 M) (fun x2 => ?_)
    refine z_aload_n 18 dX11_costOf_18 rfl ?_
    refine z_getR 19 (r := 81) dX11_costOf_19 fl_X11_22 zy_76 rfl ?_
    refine z_iconst 22 dX11_costOf_22 zci_2 ?_
    refine z_iaload 23 dX11_costOf_23 zy_81 ?_
    refine z_isub 24 dX11_costOf_24 ?_
    refine zk_nmI (fun x3 => ?_)
    refine z_istore 25 (L' := [some (.ref 76), some (.int p1), some (.int p2), some (.int p3), some (.int x3), none, none, none]) dX11_costOf_25 (by decide) rfl ?_
    refine z_aload_n 27 dX11_costOf_27 rfl ?_
    refine z_getR 28 (r := 81) dX11_costOf_28 fl_X11_22 zy_76 rfl ?_
    refine z_iconst 31 dX11_costOf_31 zci_3 ?_
    refine z_iaload 32 dX11_costOf_32 zy_81 ?_
    refine z_iload 33 dX11_costOf_33 rfl ?_
    refine zk_ltj (α := Int32) 46 (fun (x4 : Int32) => [some (.ref 76), some (.int p1), some (.int p2), some (.int p3), none, none, none, none]) (fun (x4 : Int32) => [.int x4, .int (M.1 81 (zn (3 : Int32)))]) (fun (x4 : Int32) => (zY0, M)) ?_ ?_
    · intro x4
      refine z_imul 46 dX11_costOf_46 ?_
      refine zk_nmI (fun x5 => ?_)
      refine z_istore 47 (L' := [some (.ref 76), some (.int p1), some (.int p2), some (.int p3), none, some (.int x5), none, none]) dX11_costOf_47 (by decide) rfl ?_
      refine z_iconst 49 dX11_costOf_49 zci_0 ?_
      refine z_istore 50 (L' := [some (.ref 76), some (.int p1), some (.int p2), some (.int p3), none, some (.int x5), some (.int (0 : Int32)), none]) dX11_costOf_50 (by decide) rfl ?_
      refine zk_weak (L' := [some (.ref 76), some (.int p1), some (.int p2), some (.int p3), none, some (.int x5), some (.int (0 : Int32)), none]) (zLe_s (zLe_s (zLe_s (zLe_s (zLe_n (zLe_s (zLe_s (zLe_n zLe_nl)))))))) (zk_lp (α := Int32 × Int32) 52 (fun (u20 : Int32 × Int32) => match u20 with | (x17, x18) => [some (.ref 76), some (.int p1), some (.int p2), some (.int p3), none, some (.int x17), some (.int x18), none]) (fun (u21 : Int32 × Int32) => match u21 with | (x17, x18) => (zY0, M)) ?_ zFu (x5, (0 : Int32)))
      intro rec19 hrec19
      intro u30
      obtain ⟨x17, x18⟩ := u30
      try dsimp only
      refine z_iload 52 dX11_costOf_52 rfl ?_
      refine z_iconst 54 dX11_costOf_54 zci_4 ?_
      refine z_icge 55 105 dX11_costOf_55 (by decide) (fun _ => ?_) (fun _ => ?_)
      · refine z_aload_n 105 dX11_costOf_105 rfl ?_
        refine z_iconst 106 dX11_costOf_106 zci_0 ?_
        refine z_iload_n 107 dX11_costOf_107 rfl ?_
        refine z_iconst 108 dX11_costOf_108 zci_5 ?_
        refine z_ci (zat_V3 109 dX11_costOf_109 lk_X11_181 zy_76 rfl rfl ⟨Nat.le_of_ble_eq_true rfl, Nat.le_of_ble_eq_true rfl⟩ (Nat.le_of_ble_eq_true rfl)) (tX11_its E (0 : Int32) p1 (5 : Int32) M) (fun x22 => ?_)
        refine z_aload_n 112 dX11_costOf_112 rfl ?_
        refine z_iconst 113 dX11_costOf_113 zci_1 ?_
        refine z_iload_n 114 dX11_costOf_114 rfl ?_
        refine z_iconst 115 dX11_costOf_115 zci_5 ?_
        refine z_ci (zat_V3 116 dX11_costOf_116 lk_X11_181 zy_76 rfl rfl ⟨Nat.le_of_ble_eq_true rfl, Nat.le_of_ble_eq_true rfl⟩ (Nat.le_of_ble_eq_true rfl)) (tX11_its E (1 : Int32) p2 (5 : Int32) M) (fun x23 => ?_)
        refine z_ctb (zat_S2 119 dX11_costOf_119 lk_X11_213 ⟨Nat.le_of_ble_eq_true rfl, Nat.le_of_ble_eq_true rfl⟩ (Nat.le_of_ble_eq_true rfl)) (tX11_areUnlike E zY0 x22 x23 M) (fun b24 => ?_)
        refine z_ifeqb 122 138 dX11_costOf_122 (by decide) (fun _ => ?_) (fun _ => ?_)
        · refine z_iload 138 dX11_costOf_138 rfl ?_
          exact z_ireturn 140 dX11_costOf_140 rfl rfl (fun h => h)
        · refine z_iload 125 dX11_costOf_125 rfl ?_
          refine z_aload_n 127 dX11_costOf_127 rfl ?_
          refine z_getR 128 (r := 81) dX11_costOf_128 fl_X11_22 zy_76 rfl ?_
          refine z_bipush 131 dX11_costOf_131 zbp_6 ?_
          refine z_iaload 133 dX11_costOf_133 zy_81 ?_
          refine z_iadd 134 dX11_costOf_134 ?_
          refine z_goto 135 140 dX11_costOf_135 (by decide) ?_
          exact z_ireturn 140 dX11_costOf_140 rfl rfl (fun h => h)
      · refine z_iload_n 58 dX11_costOf_58 rfl ?_
        refine z_iload 59 dX11_costOf_59 rfl ?_
        refine z_ishr 61 dX11_costOf_61 ?_
        refine z_iconst 62 dX11_costOf_62 zci_1 ?_
        refine z_iand 63 dX11_costOf_63 ?_
        refine z_iconst 64 dX11_costOf_64 zci_1 ?_
        refine zk_sqj (α := Int32) 80 (fun (x26 : Int32) => [some (.ref 76), some (.int p1), some (.int p2), some (.int p3), none, some (.int x17), some (.int x18), none]) (fun (x26 : Int32) => [.int x26]) (fun (x26 : Int32) => (zY0, M)) ?_ ?_
        · intro x26
          refine z_istore 80 (L' := [some (.ref 76), some (.int p1), some (.int p2), some (.int p3), none, some (.int x17), some (.int x18), some (.int x26)]) dX11_costOf_80 (by decide) rfl ?_
          refine z_iload 82 dX11_costOf_82 rfl ?_
          refine z_bipush 84 dX11_costOf_84 zbp_m4 ?_
          refine z_icne 86 92 dX11_costOf_86 (by decide) (fun _ => ?_) (fun _ => ?_)
          · refine z_bipush 89 dX11_costOf_89 zbp_m4 ?_
            exact z_ireturn 91 dX11_costOf_91 rfl rfl (fun h => h)
          · refine z_iload 92 dX11_costOf_92 rfl ?_
            refine z_iload 94 dX11_costOf_94 rfl ?_
            refine z_iadd 96 dX11_costOf_96 ?_
            refine zk_nmI (fun x27 => ?_)
            refine z_istore 97 (L' := [some (.ref 76), some (.int p1), some (.int p2), some (.int p3), none, some (.int x27), some (.int x18), some (.int x26)]) dX11_costOf_97 (by decide) rfl ?_
            refine z_iinc 99 (v := (x18 + (1 : Int32))) (L' := [some (.ref 76), some (.int p1), some (.int p2), some (.int p3), none, some (.int x27), some (.int (x18 + (1 : Int32))), some (.int x26)]) dX11_costOf_99 rfl (zinc zci_1 _) (by decide) rfl ?_
            refine z_goto 102 52 dX11_costOf_102 (by decide) ?_
            exact zk_weak (L' := [some (.ref 76), some (.int p1), some (.int p2), some (.int p3), none, some (.int x27), some (.int (x18 + (1 : Int32))), none]) (zLe_s (zLe_s (zLe_s (zLe_s (zLe_n (zLe_s (zLe_s (zLe_n zLe_nl)))))))) (hrec19 (x27, (x18 + (1 : Int32))))
        · refine z_icne 65 79 dX11_costOf_65 (by decide) (fun _ => ?_) (fun _ => ?_)
          · refine z_aload_n 68 dX11_costOf_68 rfl ?_
            refine z_iload_n 69 dX11_costOf_69 rfl ?_
            refine z_iload_n 70 dX11_costOf_70 rfl ?_
            refine z_iload 71 dX11_costOf_71 rfl ?_
            refine z_ci (zat_V3 73 dX11_costOf_73 lk_X11_210 zy_76 rfl rfl ⟨Nat.le_of_ble_eq_true rfl, Nat.le_of_ble_eq_true rfl⟩ (Nat.le_of_ble_eq_true rfl)) (tX11_pointsAt E p1 p2 x18 M) (fun x28 => ?_)
            refine z_goto 76 80 dX11_costOf_76 (by decide) ?_
            exact zk_exitw (L' := [some (.ref 76), some (.int p1), some (.int p2), some (.int p3), none, some (.int x17), some (.int x18), none]) (zLe_s (zLe_s (zLe_s (zLe_s (zLe_n (zLe_s (zLe_s (zLe_n zLe_nl)))))))) (fun h => h)
          · refine z_iconst 79 dX11_costOf_79 zci_0 ?_
            exact zk_exitw (L' := [some (.ref 76), some (.int p1), some (.int p2), some (.int p3), none, some (.int x17), some (.int x18), none]) (zLe_s (zLe_s (zLe_s (zLe_s (zLe_n (zLe_s (zLe_s (zLe_n zLe_nl)))))))) (fun h => h)
    · intro k31 hk31
      refine z_ifgev 35 44 dX11_costOf_35 (by decide) ?_ ?_
      · refine z_iload 44 dX11_costOf_44 rfl ?_
        exact zk_weak (L' := [some (.ref 76), some (.int p1), some (.int p2), some (.int p3), none, none, none, none]) (zLe_s (zLe_s (zLe_s (zLe_s (zLe_n (zLe_n (zLe_n (zLe_n zLe_nl)))))))) (hk31 x3)
      · refine z_iload 38 dX11_costOf_38 rfl ?_
        refine z_ineg 40 dX11_costOf_40 ?_
        refine z_goto 41 46 dX11_costOf_41 (by decide) ?_
        exact zk_weak (L' := [some (.ref 76), some (.int p1), some (.int p2), some (.int p3), none, none, none, none]) (zLe_s (zLe_s (zLe_s (zLe_s (zLe_n (zLe_n (zLe_n (zLe_n zLe_nl)))))))) (hk31 (-x3))
def fX11_cost (p1 : Int32) (p2 : Int32) (M : zM) : Option Int32 :=
  sq (fX11_arePair p1 p2 M) (fun (b1 : Bool) => if b1 = false then (some (-1 : Int32)) else (sq (fX11_costOf p1 p2 (15 : Int32) M) (fun (x2 : Int32) => some x2)))
set_option maxHeartbeats 4000000 in
set_option maxRecDepth 100000 in
theorem tX11_cost (E : zE) (p1 : Int32) (p2 : Int32) (M : zM) : zFi E mX11_cost [.ref 76, .int p1, .int p2] zY0 M (fX11_cost p1 p2 M) := by
  refine zF_of (L := [some (.ref 76), some (.int p1), some (.int p2)]) plX11 (Nat.le_of_ble_eq_true rfl) rfl (fun post => ?_)
  unfold fX11_cost
  refine z_aload_n 0 dX11_cost_0 rfl ?_
  refine z_iload_n 1 dX11_cost_1 rfl ?_
  refine z_iload_n 2 dX11_cost_2 rfl ?_
  refine z_cb (zat_V2 3 dX11_cost_3 lk_X11_195 zy_76 rfl rfl ⟨Nat.le_of_ble_eq_true rfl, Nat.le_of_ble_eq_true rfl⟩ (Nat.le_of_ble_eq_true rfl)) (tX11_arePair E p1 p2 M) (fun b1 => ?_)
  refine z_ifeqb 6 20 dX11_cost_6 (by decide) (fun _ => ?_) (fun _ => ?_)
  · refine z_iconst 20 dX11_cost_20 zci_m1 ?_
    exact z_ireturn 21 dX11_cost_21 rfl rfl (fun h => h)
  · refine z_aload_n 9 dX11_cost_9 rfl ?_
    refine z_iload_n 10 dX11_cost_10 rfl ?_
    refine z_iload_n 11 dX11_cost_11 rfl ?_
    refine z_bipush 12 dX11_cost_12 zbp_15 ?_
    refine z_ci (zat_V3 14 dX11_cost_14 lk_X11_216 zy_76 rfl rfl ⟨Nat.le_of_ble_eq_true rfl, Nat.le_of_ble_eq_true rfl⟩ (Nat.le_of_ble_eq_true rfl)) (tX11_costOf E p1 p2 (15 : Int32) M) (fun x2 => ?_)
    refine z_goto 17 21 dX11_cost_17 (by decide) ?_
    exact z_ireturn 21 dX11_cost_21 rfl rfl (fun h => h)
def fX11_why (p1 : Int32) (p2 : Int32) (M : zM) : Option Int32 :=
  sq (fX11_arePair p1 p2 M) (fun (b1 : Bool) => if b1 = false then (some (-1 : Int32)) else (sq (fX11_isInTime p1 p2 M) (fun (b2 : Bool) => lt (if b2 = false then ((16 : Int32)) else ((0 : Int32))) (fun (x3 : Int32) => zlp (α := Int32 × Int32) (fun rec14 => (fun (u21 : Int32 × Int32) => match u21 with | (x12, x13) => if (4 : Int32) ≤ x13 then (some x12) else (sq (fX11_pointsAt p1 p2 x13 M) (fun (x17 : Int32) => lt (if x17 = (-4 : Int32) then (((1 : Int32) <<< (x13 &&& 31))) else ((0 : Int32))) (fun (x18 : Int32) => lt ((x12 ||| x18)) (fun (x19 : Int32) => rec14 (x19, (x13 + (1 : Int32))))))))) zFu (x3, (0 : Int32))))))
set_option maxHeartbeats 4000000 in
set_option maxRecDepth 100000 in
theorem tX11_why (E : zE) (p1 : Int32) (p2 : Int32) (M : zM) : zFi E mX11_why [.ref 76, .int p1, .int p2] zY0 M (fX11_why p1 p2 M) := by
  refine zF_of (L := [some (.ref 76), some (.int p1), some (.int p2), none, none]) plX11 (Nat.le_of_ble_eq_true rfl) rfl (fun post => ?_)
  unfold fX11_why
  refine z_aload_n 0 dX11_why_0 rfl ?_
  refine z_iload_n 1 dX11_why_1 rfl ?_
  refine z_iload_n 2 dX11_why_2 rfl ?_
  refine z_cb (zat_V2 3 dX11_why_3 lk_X11_195 zy_76 rfl rfl ⟨Nat.le_of_ble_eq_true rfl, Nat.le_of_ble_eq_true rfl⟩ (Nat.le_of_ble_eq_true rfl)) (tX11_arePair E p1 p2 M) (fun b1 => ?_)
  refine z_ifneb 6 11 dX11_why_6 (by decide) (fun _ => ?_) (fun _ => ?_)
  · refine z_iconst 9 dX11_why_9 zci_m1 ?_
    exact z_ireturn 10 dX11_why_10 rfl rfl (fun h => h)
  · refine z_aload_n 11 dX11_why_11 rfl ?_
    refine z_iload_n 12 dX11_why_12 rfl ?_
    refine z_iload_n 13 dX11_why_13 rfl ?_
    refine z_cb (zat_V2 14 dX11_why_14 lk_X11_207 zy_76 rfl rfl ⟨Nat.le_of_ble_eq_true rfl, Nat.le_of_ble_eq_true rfl⟩ (Nat.le_of_ble_eq_true rfl)) (tX11_isInTime E p1 p2 M) (fun b2 => ?_)
    refine zk_ltj (α := Int32) 26 (fun (x3 : Int32) => [some (.ref 76), some (.int p1), some (.int p2), none, none]) (fun (x3 : Int32) => [.int x3]) (fun (x3 : Int32) => (zY0, M)) ?_ ?_
    · intro x3
      refine z_istore_n 26 (L' := [some (.ref 76), some (.int p1), some (.int p2), some (.int x3), none]) dX11_why_26 (by decide) rfl ?_
      refine z_iconst 27 dX11_why_27 zci_0 ?_
      refine z_istore 28 (L' := [some (.ref 76), some (.int p1), some (.int p2), some (.int x3), some (.int (0 : Int32))]) dX11_why_28 (by decide) rfl ?_
      refine zk_weak (L' := [some (.ref 76), some (.int p1), some (.int p2), some (.int x3), some (.int (0 : Int32))]) (zLe_s (zLe_s (zLe_s (zLe_s (zLe_s zLe_nl))))) (zk_lp (α := Int32 × Int32) 30 (fun (u15 : Int32 × Int32) => match u15 with | (x12, x13) => [some (.ref 76), some (.int p1), some (.int p2), some (.int x12), some (.int x13)]) (fun (u16 : Int32 × Int32) => match u16 with | (x12, x13) => (zY0, M)) ?_ zFu (x3, (0 : Int32)))
      intro rec14 hrec14
      intro u22
      obtain ⟨x12, x13⟩ := u22
      try dsimp only
      refine z_iload 30 dX11_why_30 rfl ?_
      refine z_iconst 32 dX11_why_32 zci_4 ?_
      refine z_icge 33 66 dX11_why_33 (by decide) (fun _ => ?_) (fun _ => ?_)
      · refine z_iload_n 66 dX11_why_66 rfl ?_
        exact z_ireturn 67 dX11_why_67 rfl rfl (fun h => h)
      · refine z_iload_n 36 dX11_why_36 rfl ?_
        refine z_aload_n 37 dX11_why_37 rfl ?_
        refine z_iload_n 38 dX11_why_38 rfl ?_
        refine z_iload_n 39 dX11_why_39 rfl ?_
        refine z_iload 40 dX11_why_40 rfl ?_
        refine z_ci (zat_V3 42 dX11_why_42 lk_X11_210 zy_76 rfl rfl ⟨Nat.le_of_ble_eq_true rfl, Nat.le_of_ble_eq_true rfl⟩ (Nat.le_of_ble_eq_true rfl)) (tX11_pointsAt E p1 p2 x13 M) (fun x17 => ?_)
        refine z_bipush 45 dX11_why_45 zbp_m4 ?_
        refine zk_ltj (α := Int32) 58 (fun (x18 : Int32) => [some (.ref 76), some (.int p1), some (.int p2), none, some (.int x13)]) (fun (x18 : Int32) => [.int x18, .int x12]) (fun (x18 : Int32) => (zY0, M)) ?_ ?_
        · intro x18
          refine z_ior 58 dX11_why_58 ?_
          refine zk_nmI (fun x19 => ?_)
          refine z_istore_n 59 (L' := [some (.ref 76), some (.int p1), some (.int p2), some (.int x19), some (.int x13)]) dX11_why_59 (by decide) rfl ?_
          refine z_iinc 60 (v := (x13 + (1 : Int32))) (L' := [some (.ref 76), some (.int p1), some (.int p2), some (.int x19), some (.int (x13 + (1 : Int32)))]) dX11_why_60 rfl (zinc zci_1 _) (by decide) rfl ?_
          refine z_goto 63 30 dX11_why_63 (by decide) ?_
          exact zk_weak (L' := [some (.ref 76), some (.int p1), some (.int p2), some (.int x19), some (.int (x13 + (1 : Int32)))]) (zLe_s (zLe_s (zLe_s (zLe_s (zLe_s zLe_nl))))) (hrec14 (x19, (x13 + (1 : Int32))))
        · intro k20 hk20
          refine z_icnev 47 57 dX11_why_47 (by decide) ?_ ?_
          · refine z_iconst 50 dX11_why_50 zci_1 ?_
            refine z_iload 51 dX11_why_51 rfl ?_
            refine z_ishl 53 dX11_why_53 ?_
            refine z_goto 54 58 dX11_why_54 (by decide) ?_
            exact zk_weak (L' := [some (.ref 76), some (.int p1), some (.int p2), none, some (.int x13)]) (zLe_s (zLe_s (zLe_s (zLe_n (zLe_s zLe_nl))))) (hk20 ((1 : Int32) <<< (x13 &&& 31)))
          · refine z_iconst 57 dX11_why_57 zci_0 ?_
            exact zk_weak (L' := [some (.ref 76), some (.int p1), some (.int p2), none, some (.int x13)]) (zLe_s (zLe_s (zLe_s (zLe_n (zLe_s zLe_nl))))) (hk20 (0 : Int32))
    · intro k23 hk23
      refine z_ifeqbv 17 24 dX11_why_17 (by decide) ?_ ?_
      · refine z_bipush 24 dX11_why_24 zbp_16 ?_
        exact zk_weak (L' := [some (.ref 76), some (.int p1), some (.int p2), none, none]) (zLe_s (zLe_s (zLe_s (zLe_n (zLe_n zLe_nl))))) (hk23 (16 : Int32))
      · refine z_iconst 20 dX11_why_20 zci_0 ?_
        refine z_goto 21 26 dX11_why_21 (by decide) ?_
        exact zk_weak (L' := [some (.ref 76), some (.int p1), some (.int p2), none, none]) (zLe_s (zLe_s (zLe_s (zLe_n (zLe_n zLe_nl))))) (hk23 (0 : Int32))
def fX11_layCosts (p1 : Int32) (M : zM) : Option zM :=
  zlp (α := Int32 × zM) (fun rec27 => (fun (u42 : Int32 × zM) => match u42 with | (x25, M26) => sq (fX11_linesOf (0 : Int32) (0 : Int32) M26) (fun (x30 : Int32) => if x30 ≤ x25 then (some M26) else (sq (α := zM) (zlp (α := Int32 × zM) (β := zM) (fun rec33 => (fun (u40 : Int32 × zM) => match u40 with | (x31, M32) => sq (fX11_linesOf (1 : Int32) (0 : Int32) M32) (fun (x37 : Int32) => if x37 ≤ x31 then (some M32) else (sq (fX11_costOf x25 x31 p1 M32) (fun (x38 : Int32) => grd (zix (((10 : Int32) * x25) + x31) 100) (lt (zwI M32 85 (zn (((10 : Int32) * x25) + x31)) x38) (fun (M39 : zM) => rec33 ((x31 + (1 : Int32)), M39)))))))) zFu ((0 : Int32), M26)) (fun (M36 : zM) => rec27 ((x25 + (1 : Int32)), M36)))))) zFu ((0 : Int32), M)
set_option maxHeartbeats 4000000 in
set_option maxRecDepth 100000 in
theorem tX11_layCosts (E : zE) (p1 : Int32) (M : zM) : zFV E mX11_layCosts [.ref 76, .int p1] zY0 M (fX11_layCosts p1 M) := by
  refine zF_of (L := [some (.ref 76), some (.int p1), none, none]) plX11 (Nat.le_of_ble_eq_true rfl) rfl (fun post => ?_)
  unfold fX11_layCosts
  refine z_iconst 0 dX11_layCosts_0 zci_0 ?_
  refine z_istore_n 1 (L' := [some (.ref 76), some (.int p1), some (.int (0 : Int32)), none]) dX11_layCosts_1 (by decide) rfl ?_
  refine zk_weak (L' := [some (.ref 76), some (.int p1), some (.int (0 : Int32)), none]) (zLe_s (zLe_s (zLe_s (zLe_n zLe_nl)))) (zk_lp (α := Int32 × zM) 2 (fun (u28 : Int32 × zM) => match u28 with | (x25, M26) => [some (.ref 76), some (.int p1), some (.int x25), none]) (fun (u29 : Int32 × zM) => match u29 with | (x25, M26) => (zY0, M26)) ?_ zFu ((0 : Int32), M))
  intro rec27 hrec27
  intro u43
  obtain ⟨x25, M26⟩ := u43
  try dsimp only
  refine z_iload_n 2 dX11_layCosts_2 rfl ?_
  refine z_aload_n 3 dX11_layCosts_3 rfl ?_
  refine z_iconst 4 dX11_layCosts_4 zci_0 ?_
  refine z_iconst 5 dX11_layCosts_5 zci_0 ?_
  refine z_ci (zat_V2 6 dX11_layCosts_6 lk_X11_164 zy_76 rfl rfl ⟨Nat.le_of_ble_eq_true rfl, Nat.le_of_ble_eq_true rfl⟩ (Nat.le_of_ble_eq_true rfl)) (tX11_linesOf E (0 : Int32) (0 : Int32) M26) (fun x30 => ?_)
  refine z_icge 9 54 dX11_layCosts_9 (by decide) (fun _ => ?_) (fun _ => ?_)
  · exact z_return 54 dX11_layCosts_54 rfl (fun h => h)
  · refine z_iconst 12 dX11_layCosts_12 zci_0 ?_
    refine z_istore_n 13 (L' := [some (.ref 76), some (.int p1), some (.int x25), some (.int (0 : Int32))]) dX11_layCosts_13 (by decide) rfl ?_
    refine zk_sqj (α := zM) 48 (fun (M36 : zM) => [some (.ref 76), some (.int p1), some (.int x25), none]) (fun (M36 : zM) => []) (fun (M36 : zM) => (zY0, M36)) ?_ ?_
    · intro M36
      refine z_iinc 48 (v := (x25 + (1 : Int32))) (L' := [some (.ref 76), some (.int p1), some (.int (x25 + (1 : Int32))), none]) dX11_layCosts_48 rfl (zinc zci_1 _) (by decide) rfl ?_
      refine z_goto 51 2 dX11_layCosts_51 (by decide) ?_
      exact zk_weak (L' := [some (.ref 76), some (.int p1), some (.int (x25 + (1 : Int32))), none]) (zLe_s (zLe_s (zLe_s (zLe_n zLe_nl)))) (hrec27 ((x25 + (1 : Int32)), M36))
    · refine zk_weak (L' := [some (.ref 76), some (.int p1), some (.int x25), some (.int (0 : Int32))]) (zLe_s (zLe_s (zLe_s (zLe_s zLe_nl)))) (zk_lp (α := Int32 × zM) 14 (fun (u34 : Int32 × zM) => match u34 with | (x31, M32) => [some (.ref 76), some (.int p1), some (.int x25), some (.int x31)]) (fun (u35 : Int32 × zM) => match u35 with | (x31, M32) => (zY0, M32)) ?_ zFu ((0 : Int32), M26))
      intro rec33 hrec33
      intro u41
      obtain ⟨x31, M32⟩ := u41
      try dsimp only
      refine z_iload_n 14 dX11_layCosts_14 rfl ?_
      refine z_aload_n 15 dX11_layCosts_15 rfl ?_
      refine z_iconst 16 dX11_layCosts_16 zci_1 ?_
      refine z_iconst 17 dX11_layCosts_17 zci_0 ?_
      refine z_ci (zat_V2 18 dX11_layCosts_18 lk_X11_164 zy_76 rfl rfl ⟨Nat.le_of_ble_eq_true rfl, Nat.le_of_ble_eq_true rfl⟩ (Nat.le_of_ble_eq_true rfl)) (tX11_linesOf E (1 : Int32) (0 : Int32) M32) (fun x37 => ?_)
      refine z_icge 21 48 dX11_layCosts_21 (by decide) (fun _ => ?_) (fun _ => ?_)
      · exact zk_exitw (L' := [some (.ref 76), some (.int p1), some (.int x25), none]) (zLe_s (zLe_s (zLe_s (zLe_n zLe_nl)))) (fun h => h)
      · refine z_aload_n 24 dX11_layCosts_24 rfl ?_
        refine z_getR 25 (r := 85) dX11_layCosts_25 fl_X11_34 zy_76 rfl ?_
        refine z_bipush 28 dX11_layCosts_28 zbp_10 ?_
        refine z_iload_n 30 dX11_layCosts_30 rfl ?_
        refine z_imul 31 dX11_layCosts_31 ?_
        refine z_iload_n 32 dX11_layCosts_32 rfl ?_
        refine z_iadd 33 dX11_layCosts_33 ?_
        refine z_aload_n 34 dX11_layCosts_34 rfl ?_
        refine z_iload_n 35 dX11_layCosts_35 rfl ?_
        refine z_iload_n 36 dX11_layCosts_36 rfl ?_
        refine z_iload_n 37 dX11_layCosts_37 rfl ?_
        refine z_ci (zat_V3 38 dX11_layCosts_38 lk_X11_216 zy_76 rfl rfl ⟨Nat.le_of_ble_eq_true rfl, Nat.le_of_ble_eq_true rfl⟩ (Nat.le_of_ble_eq_true rfl)) (tX11_costOf E x25 x31 p1 M32) (fun x38 => ?_)
        refine z_iastore 41 dX11_layCosts_41 zy_85 ?_
        refine zk_nmM (fun M39 => ?_)
        refine z_iinc 42 (v := (x31 + (1 : Int32))) (L' := [some (.ref 76), some (.int p1), some (.int x25), some (.int (x31 + (1 : Int32)))]) dX11_layCosts_42 rfl (zinc zci_1 _) (by decide) rfl ?_
        refine z_goto 45 14 dX11_layCosts_45 (by decide) ?_
        exact zk_weak (L' := [some (.ref 76), some (.int p1), some (.int x25), some (.int (x31 + (1 : Int32)))]) (zLe_s (zLe_s (zLe_s (zLe_s zLe_nl)))) (hrec33 ((x31 + (1 : Int32)), M39))
def fX11_bitsOf (p1 : Int32) : Option Int32 :=
  zlp (α := Int32 × Int32) (fun rec15 => (fun (u19 : Int32 × Int32) => match u19 with | (x13, x14) => if (10 : Int32) ≤ x14 then (some x13) else (lt ((x13 + ((p1 >>> (x14 &&& 31)) &&& (1 : Int32)))) (fun (x18 : Int32) => rec15 (x18, (x14 + (1 : Int32))))))) zFu ((0 : Int32), (0 : Int32))
set_option maxHeartbeats 4000000 in
set_option maxRecDepth 100000 in
theorem tX11_bitsOf (E : zE) (Y : zY) (p1 : Int32) (M : zM) : zFi E mX11_bitsOf [.int p1] Y M (fX11_bitsOf p1) := by
  refine zF_of (L := [some (.int p1), none, none]) plX11 (Nat.le_of_ble_eq_true rfl) rfl (fun post => ?_)
  unfold fX11_bitsOf
  refine z_iconst 0 dX11_bitsOf_0 zci_0 ?_
  refine z_istore_n 1 (L' := [some (.int p1), some (.int (0 : Int32)), none]) dX11_bitsOf_1 (by decide) rfl ?_
  refine z_iconst 2 dX11_bitsOf_2 zci_0 ?_
  refine z_istore_n 3 (L' := [some (.int p1), some (.int (0 : Int32)), some (.int (0 : Int32))]) dX11_bitsOf_3 (by decide) rfl ?_
  refine zk_weak (L' := [some (.int p1), some (.int (0 : Int32)), some (.int (0 : Int32))]) (zLe_s (zLe_s (zLe_s zLe_nl))) (zk_lp (α := Int32 × Int32) 4 (fun (u16 : Int32 × Int32) => match u16 with | (x13, x14) => [some (.int p1), some (.int x13), some (.int x14)]) (fun (u17 : Int32 × Int32) => match u17 with | (x13, x14) => (Y, M)) ?_ zFu ((0 : Int32), (0 : Int32)))
  intro rec15 hrec15
  intro u20
  obtain ⟨x13, x14⟩ := u20
  try dsimp only
  refine z_iload_n 4 dX11_bitsOf_4 rfl ?_
  refine z_bipush 5 dX11_bitsOf_5 zbp_10 ?_
  refine z_icge 7 24 dX11_bitsOf_7 (by decide) (fun _ => ?_) (fun _ => ?_)
  · refine z_iload_n 24 dX11_bitsOf_24 rfl ?_
    exact z_ireturn 25 dX11_bitsOf_25 rfl rfl (fun h => h)
  · refine z_iload_n 10 dX11_bitsOf_10 rfl ?_
    refine z_iload_n 11 dX11_bitsOf_11 rfl ?_
    refine z_iload_n 12 dX11_bitsOf_12 rfl ?_
    refine z_ishr 13 dX11_bitsOf_13 ?_
    refine z_iconst 14 dX11_bitsOf_14 zci_1 ?_
    refine z_iand 15 dX11_bitsOf_15 ?_
    refine z_iadd 16 dX11_bitsOf_16 ?_
    refine zk_nmI (fun x18 => ?_)
    refine z_istore_n 17 (L' := [some (.int p1), some (.int x18), some (.int x14)]) dX11_bitsOf_17 (by decide) rfl ?_
    refine z_iinc 18 (v := (x14 + (1 : Int32))) (L' := [some (.int p1), some (.int x18), some (.int (x14 + (1 : Int32)))]) dX11_bitsOf_18 rfl (zinc zci_1 _) (by decide) rfl ?_
    refine z_goto 21 4 dX11_bitsOf_21 (by decide) ?_
    exact zk_weak (L' := [some (.int p1), some (.int x18), some (.int (x14 + (1 : Int32)))]) (zLe_s (zLe_s (zLe_s zLe_nl))) (hrec15 (x18, (x14 + (1 : Int32))))
def fX11_may (p1 : Int32) (p2 : Int32) (p3 : Int32) (p4 : Int32) (p5 : Int32) (M : zM) : Option Bool :=
  if 0 ≤ p2 then (lt (if p1 = p3 then (if p2 = p4 then (true) else (false)) else (false)) (fun (b2 : Bool) => grd (zix (((10 : Int32) * p1) + p2) 100) (if (M.1 85 (zn (((10 : Int32) * p1) + p2))) = (-4 : Int32) then (some false) else (jn (α := Unit) (fun (_ : Unit) => jn (α := Unit) (fun (_ : Unit) => jn (α := Unit) (fun (_ : Unit) => jn (α := Unit) (fun (_ : Unit) => some true) (fun k3 => if p5 = (4 : Int32) then (if p2 = p4 then (some false) else (k3 ())) else (k3 ()))) (fun k4 => if p5 = (3 : Int32) then (if p1 = p3 then (some false) else (k4 ())) else (k4 ()))) (fun k5 => if p5 = (2 : Int32) then (if b2 = false then (k5 ()) else (some false)) else (k5 ()))) (fun k6 => if p5 = (1 : Int32) then (if b2 = false then (if p1 = p3 then (some false) else (if p2 = p4 then (some false) else (k6 ()))) else (k6 ())) else (k6 ())))))) else (jn (α := Unit) (fun (_ : Unit) => some true) (fun k8 => if p5 = (1 : Int32) then (if p1 = p3 then (some false) else (k8 ())) else (k8 ())))
set_option maxHeartbeats 4000000 in
set_option maxRecDepth 100000 in
theorem tX11_may (E : zE) (p1 : Int32) (p2 : Int32) (p3 : Int32) (p4 : Int32) (p5 : Int32) (M : zM) : zFb E mX11_may [.ref 76, .int p1, .int p2, .int p3, .int p4, .int p5] zY0 M (fX11_may p1 p2 p3 p4 p5 M) := by
  refine zF_of (L := [some (.ref 76), some (.int p1), some (.int p2), some (.int p3), some (.int p4), some (.int p5), none]) plX11 (Nat.le_of_ble_eq_true rfl) rfl (fun post => ?_)
  unfold fX11_may
  refine z_iload_n 0 dX11_may_0 rfl ?_
  refine z_ifge 1 21 dX11_may_1 (by decide) (fun _ => ?_) (fun _ => ?_)
  · refine z_iload_n 21 dX11_may_21 rfl ?_
    refine z_iload_n 22 dX11_may_22 rfl ?_
    refine zk_ltj (α := Bool) 37 (fun (b2 : Bool) => [some (.ref 76), some (.int p1), some (.int p2), some (.int p3), some (.int p4), some (.int p5), none]) (fun (b2 : Bool) => [.int (zb b2)]) (fun (b2 : Bool) => (zY0, M)) ?_ ?_
    · intro b2
      refine z_istore 37 (L' := [some (.ref 76), some (.int p1), some (.int p2), some (.int p3), some (.int p4), some (.int p5), some (.int (zb b2))]) dX11_may_37 (by decide) rfl ?_
      refine z_aload_n 39 dX11_may_39 rfl ?_
      refine z_getR 40 (r := 85) dX11_may_40 fl_X11_34 zy_76 rfl ?_
      refine z_bipush 43 dX11_may_43 zbp_10 ?_
      refine z_iload_n 45 dX11_may_45 rfl ?_
      refine z_imul 46 dX11_may_46 ?_
      refine z_iload_n 47 dX11_may_47 rfl ?_
      refine z_iadd 48 dX11_may_48 ?_
      refine z_iaload 49 dX11_may_49 zy_85 ?_
      refine z_bipush 50 dX11_may_50 zbp_m4 ?_
      refine z_iceq 52 115 dX11_may_52 (by decide) (fun _ => ?_) (fun _ => ?_)
      · refine z_iconst 115 dX11_may_115 zci_0 ?_
        exact z_ireturn 116 (v := zb false) dX11_may_116 rfl (zput_b false).1 (fun h => h)
      · refine z_iload 55 dX11_may_55 rfl ?_
        refine z_iconst 57 dX11_may_57 zci_1 ?_
        refine zk_jn (α := Unit) 77 (fun (_ : Unit) => [none, some (.int p1), some (.int p2), some (.int p3), some (.int p4), some (.int p5), some (.int (zb b2))]) (fun (_ : Unit) => []) (fun (_ : Unit) => (zY0, M)) ?_ ?_
        · intro _
          refine z_iload 77 dX11_may_77 rfl ?_
          refine z_iconst 79 dX11_may_79 zci_2 ?_
          refine zk_jn (α := Unit) 88 (fun (_ : Unit) => [none, some (.int p1), some (.int p2), some (.int p3), some (.int p4), some (.int p5), none]) (fun (_ : Unit) => []) (fun (_ : Unit) => (zY0, M)) ?_ ?_
          · intro _
            refine z_iload 88 dX11_may_88 rfl ?_
            refine z_iconst 90 dX11_may_90 zci_3 ?_
            refine zk_jn (α := Unit) 99 (fun (_ : Unit) => [none, none, some (.int p2), none, some (.int p4), some (.int p5), none]) (fun (_ : Unit) => []) (fun (_ : Unit) => (zY0, M)) ?_ ?_
            · intro _
              refine z_iload 99 dX11_may_99 rfl ?_
              refine z_iconst 101 dX11_may_101 zci_4 ?_
              refine zk_jn (α := Unit) 111 (fun (_ : Unit) => [none, none, none, none, none, none, none]) (fun (_ : Unit) => []) (fun (_ : Unit) => (zY0, M)) ?_ ?_
              · intro _
                refine z_iconst 111 dX11_may_111 zci_1 ?_
                refine z_goto 112 116 dX11_may_112 (by decide) ?_
                exact z_ireturn 116 (v := zb true) dX11_may_116 rfl (zput_b true).1 (fun h => h)
              · intro k3 hk3
                refine z_icne 102 111 dX11_may_102 (by decide) (fun _ => ?_) (fun _ => ?_)
                · refine z_iload_n 105 dX11_may_105 rfl ?_
                  refine z_iload 106 dX11_may_106 rfl ?_
                  refine z_iceq 108 115 dX11_may_108 (by decide) (fun _ => ?_) (fun _ => ?_)
                  · refine z_iconst 115 dX11_may_115 zci_0 ?_
                    exact z_ireturn 116 (v := zb false) dX11_may_116 rfl (zput_b false).1 (fun h => h)
                  · exact zk_weak (L' := [none, none, none, none, none, none, none]) (zLe_n (zLe_n (zLe_n (zLe_n (zLe_n (zLe_n (zLe_n zLe_nl))))))) (hk3 ())
                · exact zk_weak (L' := [none, none, none, none, none, none, none]) (zLe_n (zLe_n (zLe_n (zLe_n (zLe_n (zLe_n (zLe_n zLe_nl))))))) (hk3 ())
            · intro k4 hk4
              refine z_icne 91 99 dX11_may_91 (by decide) (fun _ => ?_) (fun _ => ?_)
              · refine z_iload_n 94 dX11_may_94 rfl ?_
                refine z_iload_n 95 dX11_may_95 rfl ?_
                refine z_iceq 96 115 dX11_may_96 (by decide) (fun _ => ?_) (fun _ => ?_)
                · refine z_iconst 115 dX11_may_115 zci_0 ?_
                  exact z_ireturn 116 (v := zb false) dX11_may_116 rfl (zput_b false).1 (fun h => h)
                · exact zk_weak (L' := [none, none, some (.int p2), none, some (.int p4), some (.int p5), none]) (zLe_n (zLe_n (zLe_s (zLe_n (zLe_s (zLe_s (zLe_n zLe_nl))))))) (hk4 ())
              · exact zk_weak (L' := [none, none, some (.int p2), none, some (.int p4), some (.int p5), none]) (zLe_n (zLe_n (zLe_s (zLe_n (zLe_s (zLe_s (zLe_n zLe_nl))))))) (hk4 ())
          · intro k5 hk5
            refine z_icne 80 88 dX11_may_80 (by decide) (fun _ => ?_) (fun _ => ?_)
            · refine z_iload 83 dX11_may_83 rfl ?_
              refine z_ifneb 85 115 dX11_may_85 (by decide) (fun _ => ?_) (fun _ => ?_)
              · exact zk_weak (L' := [none, some (.int p1), some (.int p2), some (.int p3), some (.int p4), some (.int p5), none]) (zLe_n (zLe_s (zLe_s (zLe_s (zLe_s (zLe_s (zLe_n zLe_nl))))))) (hk5 ())
              · refine z_iconst 115 dX11_may_115 zci_0 ?_
                exact z_ireturn 116 (v := zb false) dX11_may_116 rfl (zput_b false).1 (fun h => h)
            · exact zk_weak (L' := [none, some (.int p1), some (.int p2), some (.int p3), some (.int p4), some (.int p5), none]) (zLe_n (zLe_s (zLe_s (zLe_s (zLe_s (zLe_s (zLe_n zLe_nl))))))) (hk5 ())
        · intro k6 hk6
          refine z_icne 58 77 dX11_may_58 (by decide) (fun _ => ?_) (fun _ => ?_)
          · refine z_iload 61 dX11_may_61 rfl ?_
            refine z_ifneb 63 77 dX11_may_63 (by decide) (fun _ => ?_) (fun _ => ?_)
            · refine z_iload_n 66 dX11_may_66 rfl ?_
              refine z_iload_n 67 dX11_may_67 rfl ?_
              refine z_iceq 68 115 dX11_may_68 (by decide) (fun _ => ?_) (fun _ => ?_)
              · refine z_iconst 115 dX11_may_115 zci_0 ?_
                exact z_ireturn 116 (v := zb false) dX11_may_116 rfl (zput_b false).1 (fun h => h)
              · refine z_iload_n 71 dX11_may_71 rfl ?_
                refine z_iload 72 dX11_may_72 rfl ?_
                refine z_iceq 74 115 dX11_may_74 (by decide) (fun _ => ?_) (fun _ => ?_)
                · refine z_iconst 115 dX11_may_115 zci_0 ?_
                  exact z_ireturn 116 (v := zb false) dX11_may_116 rfl (zput_b false).1 (fun h => h)
                · exact zk_weak (L' := [none, some (.int p1), some (.int p2), some (.int p3), some (.int p4), some (.int p5), some (.int (zb b2))]) (zLe_n (zLe_s (zLe_s (zLe_s (zLe_s (zLe_s (zLe_s zLe_nl))))))) (hk6 ())
            · exact zk_weak (L' := [none, some (.int p1), some (.int p2), some (.int p3), some (.int p4), some (.int p5), some (.int (zb b2))]) (zLe_n (zLe_s (zLe_s (zLe_s (zLe_s (zLe_s (zLe_s zLe_nl))))))) (hk6 ())
          · exact zk_weak (L' := [none, some (.int p1), some (.int p2), some (.int p3), some (.int p4), some (.int p5), some (.int (zb b2))]) (zLe_n (zLe_s (zLe_s (zLe_s (zLe_s (zLe_s (zLe_s zLe_nl))))))) (hk6 ())
    · intro k7 hk7
      refine z_icnev 23 36 dX11_may_23 (by decide) ?_ ?_
      · refine z_iload_n 26 dX11_may_26 rfl ?_
        refine z_iload 27 dX11_may_27 rfl ?_
        refine z_icnev 29 36 dX11_may_29 (by decide) ?_ ?_
        · refine z_iconst 32 dX11_may_32 zci_1 ?_
          refine z_goto 33 37 dX11_may_33 (by decide) ?_
          exact zk_weak (L' := [some (.ref 76), some (.int p1), some (.int p2), some (.int p3), some (.int p4), some (.int p5), none]) (zLe_s (zLe_s (zLe_s (zLe_s (zLe_s (zLe_s (zLe_n zLe_nl))))))) (hk7 true)
        · refine z_iconst 36 dX11_may_36 zci_0 ?_
          exact zk_weak (L' := [some (.ref 76), some (.int p1), some (.int p2), some (.int p3), some (.int p4), some (.int p5), none]) (zLe_s (zLe_s (zLe_s (zLe_s (zLe_s (zLe_s (zLe_n zLe_nl))))))) (hk7 false)
      · refine z_iconst 36 dX11_may_36 zci_0 ?_
        exact zk_weak (L' := [some (.ref 76), some (.int p1), some (.int p2), some (.int p3), some (.int p4), some (.int p5), none]) (zLe_s (zLe_s (zLe_s (zLe_s (zLe_s (zLe_s (zLe_n zLe_nl))))))) (hk7 false)
  · refine z_iload 4 dX11_may_4 rfl ?_
    refine z_iconst 6 dX11_may_6 zci_1 ?_
    refine zk_jn (α := Unit) 15 (fun (_ : Unit) => [none, none, none, none, none, none, none]) (fun (_ : Unit) => []) (fun (_ : Unit) => (zY0, M)) ?_ ?_
    · intro _
      refine z_iconst 15 dX11_may_15 zci_1 ?_
      refine z_goto 16 20 dX11_may_16 (by decide) ?_
      exact z_ireturn 20 (v := zb true) dX11_may_20 rfl (zput_b true).1 (fun h => h)
    · intro k8 hk8
      refine z_icne 7 15 dX11_may_7 (by decide) (fun _ => ?_) (fun _ => ?_)
      · refine z_iload_n 10 dX11_may_10 rfl ?_
        refine z_iload_n 11 dX11_may_11 rfl ?_
        refine z_iceq 12 19 dX11_may_12 (by decide) (fun _ => ?_) (fun _ => ?_)
        · refine z_iconst 19 dX11_may_19 zci_0 ?_
          exact z_ireturn 20 (v := zb false) dX11_may_20 rfl (zput_b false).1 (fun h => h)
        · exact zk_weak (L' := [none, none, none, none, none, none, none]) (zLe_n (zLe_n (zLe_n (zLe_n (zLe_n (zLe_n (zLe_n zLe_nl))))))) (hk8 ())
      · exact zk_weak (L' := [none, none, none, none, none, none, none]) (zLe_n (zLe_n (zLe_n (zLe_n (zLe_n (zLe_n (zLe_n zLe_nl))))))) (hk8 ())
def fX11_layEnd (M : zM) : Option zM :=
  sq (fX11_linesOf (0 : Int32) (0 : Int32) M) (fun (x1 : Int32) => sq (fX11_linesOf (1 : Int32) (0 : Int32) M) (fun (x2 : Int32) => zlp (α := Int32 × zM) (fun rec17 => (fun (u27 : Int32 × zM) => match u27 with | (x15, M16) => if ((1 : Int32) <<< (x2 &&& 31)) ≤ x15 then (some M16) else (lt ((((1024 : Int32) * x1) + x15)) (fun (x20 : Int32) => grd (zix (8 : Int32) 30) (sq (fX11_bitsOf x15) (fun (x21 : Int32) => grd (zix x20 11264) (lt (zwI M16 86 (zn x20) ((M16.1 81 (zn (8 : Int32))) * (x2 - x21))) (fun (M22 : zM) => grd (zix x20 11264) (lt (zwL M22 87 (zn x20) (1 : Int64)) (fun (M23 : zM) => grd (zix x20 11264) (lt (zwL M23 88 (zn x20) (1 : Int64)) (fun (M24 : zM) => grd (zix x20 11264) (lt (zwI M24 89 (zn x20) (0 : Int32)) (fun (M25 : zM) => grd (zix x20 11264) (lt (zwI M25 90 (zn x20) (0 : Int32)) (fun (M26 : zM) => rec17 ((x15 + (1 : Int32)), M26))))))))))))))))) zFu ((0 : Int32), M)))
set_option maxHeartbeats 4000000 in
set_option maxRecDepth 100000 in
theorem tX11_layEnd (E : zE)  (M : zM) : zFV E mX11_layEnd [.ref 76] zY0 M (fX11_layEnd M) := by
  refine zF_of (L := [some (.ref 76), none, none, none, none]) plX11 (Nat.le_of_ble_eq_true rfl) rfl (fun post => ?_)
  unfold fX11_layEnd
  refine z_aload_n 0 dX11_layEnd_0 rfl ?_
  refine z_iconst 1 dX11_layEnd_1 zci_0 ?_
  refine z_iconst 2 dX11_layEnd_2 zci_0 ?_
  refine z_ci (zat_V2 3 dX11_layEnd_3 lk_X11_164 zy_76 rfl rfl ⟨Nat.le_of_ble_eq_true rfl, Nat.le_of_ble_eq_true rfl⟩ (Nat.le_of_ble_eq_true rfl)) (tX11_linesOf E (0 : Int32) (0 : Int32) M) (fun x1 => ?_)
  refine z_istore_n 6 (L' := [some (.ref 76), some (.int x1), none, none, none]) dX11_layEnd_6 (by decide) rfl ?_
  refine z_aload_n 7 dX11_layEnd_7 rfl ?_
  refine z_iconst 8 dX11_layEnd_8 zci_1 ?_
  refine z_iconst 9 dX11_layEnd_9 zci_0 ?_
  refine z_ci (zat_V2 10 dX11_layEnd_10 lk_X11_164 zy_76 rfl rfl ⟨Nat.le_of_ble_eq_true rfl, Nat.le_of_ble_eq_true rfl⟩ (Nat.le_of_ble_eq_true rfl)) (tX11_linesOf E (1 : Int32) (0 : Int32) M) (fun x2 => ?_)
  refine z_istore_n 13 (L' := [some (.ref 76), some (.int x1), some (.int x2), none, none]) dX11_layEnd_13 (by decide) rfl ?_
  refine z_iconst 14 dX11_layEnd_14 zci_0 ?_
  refine z_istore_n 15 (L' := [some (.ref 76), some (.int x1), some (.int x2), some (.int (0 : Int32)), none]) dX11_layEnd_15 (by decide) rfl ?_
  refine zk_weak (L' := [some (.ref 76), some (.int x1), some (.int x2), some (.int (0 : Int32)), none]) (zLe_s (zLe_s (zLe_s (zLe_s (zLe_n zLe_nl))))) (zk_lp (α := Int32 × zM) 16 (fun (u18 : Int32 × zM) => match u18 with | (x15, M16) => [some (.ref 76), some (.int x1), some (.int x2), some (.int x15), none]) (fun (u19 : Int32 × zM) => match u19 with | (x15, M16) => (zY0, M16)) ?_ zFu ((0 : Int32), M))
  intro rec17 hrec17
  intro u28
  obtain ⟨x15, M16⟩ := u28
  try dsimp only
  refine z_iload_n 16 dX11_layEnd_16 rfl ?_
  refine z_iconst 17 dX11_layEnd_17 zci_1 ?_
  refine z_iload_n 18 dX11_layEnd_18 rfl ?_
  refine z_ishl 19 dX11_layEnd_19 ?_
  refine z_icge 20 91 dX11_layEnd_20 (by decide) (fun _ => ?_) (fun _ => ?_)
  · exact z_return 91 dX11_layEnd_91 rfl (fun h => h)
  · refine z_sipush 23 dX11_layEnd_23 zsp_1024 ?_
    refine z_iload_n 26 dX11_layEnd_26 rfl ?_
    refine z_imul 27 dX11_layEnd_27 ?_
    refine z_iload_n 28 dX11_layEnd_28 rfl ?_
    refine z_iadd 29 dX11_layEnd_29 ?_
    refine zk_nmI (fun x20 => ?_)
    refine z_istore 30 (L' := [some (.ref 76), some (.int x1), some (.int x2), some (.int x15), some (.int x20)]) dX11_layEnd_30 (by decide) rfl ?_
    refine z_aload_n 32 dX11_layEnd_32 rfl ?_
    refine z_getR 33 (r := 86) dX11_layEnd_33 fl_X11_37 zy_76 rfl ?_
    refine z_iload 36 dX11_layEnd_36 rfl ?_
    refine z_aload_n 38 dX11_layEnd_38 rfl ?_
    refine z_getR 39 (r := 81) dX11_layEnd_39 fl_X11_22 zy_76 rfl ?_
    refine z_bipush 42 dX11_layEnd_42 zbp_8 ?_
    refine z_iaload 44 dX11_layEnd_44 zy_81 ?_
    refine z_iload_n 45 dX11_layEnd_45 rfl ?_
    refine z_iload_n 46 dX11_layEnd_46 rfl ?_
    refine z_ci (zat_S1 47 dX11_layEnd_47 lk_X11_219 ⟨Nat.le_of_ble_eq_true rfl, Nat.le_of_ble_eq_true rfl⟩ (Nat.le_of_ble_eq_true rfl)) (tX11_bitsOf E zY0 x15 M16) (fun x21 => ?_)
    refine z_isub 50 dX11_layEnd_50 ?_
    refine z_imul 51 dX11_layEnd_51 ?_
    refine z_iastore 52 dX11_layEnd_52 zy_86 ?_
    refine zk_nmM (fun M22 => ?_)
    refine z_aload_n 53 dX11_layEnd_53 rfl ?_
    refine z_getR 54 (r := 87) dX11_layEnd_54 fl_X11_40 zy_76 rfl ?_
    refine z_iload 57 dX11_layEnd_57 rfl ?_
    refine z_lconst 59 dX11_layEnd_59 zlc_1 ?_
    refine z_lastore 60 dX11_layEnd_60 zy_87 ?_
    refine zk_nmM (fun M23 => ?_)
    refine z_aload_n 61 dX11_layEnd_61 rfl ?_
    refine z_getR 62 (r := 88) dX11_layEnd_62 fl_X11_44 zy_76 rfl ?_
    refine z_iload 65 dX11_layEnd_65 rfl ?_
    refine z_lconst 67 dX11_layEnd_67 zlc_1 ?_
    refine z_lastore 68 dX11_layEnd_68 zy_88 ?_
    refine zk_nmM (fun M24 => ?_)
    refine z_aload_n 69 dX11_layEnd_69 rfl ?_
    refine z_getR 70 (r := 89) dX11_layEnd_70 fl_X11_47 zy_76 rfl ?_
    refine z_iload 73 dX11_layEnd_73 rfl ?_
    refine z_iconst 75 dX11_layEnd_75 zci_0 ?_
    refine z_iastore 76 dX11_layEnd_76 zy_89 ?_
    refine zk_nmM (fun M25 => ?_)
    refine z_aload_n 77 dX11_layEnd_77 rfl ?_
    refine z_getR 78 (r := 90) dX11_layEnd_78 fl_X11_50 zy_76 rfl ?_
    refine z_iload 81 dX11_layEnd_81 rfl ?_
    refine z_iconst 83 dX11_layEnd_83 zci_0 ?_
    refine z_iastore 84 dX11_layEnd_84 zy_90 ?_
    refine zk_nmM (fun M26 => ?_)
    refine z_iinc 85 (v := (x15 + (1 : Int32))) (L' := [some (.ref 76), some (.int x1), some (.int x2), some (.int (x15 + (1 : Int32))), some (.int x20)]) dX11_layEnd_85 rfl (zinc zci_1 _) (by decide) rfl ?_
    refine z_goto 88 16 dX11_layEnd_88 (by decide) ?_
    exact zk_weak (L' := [some (.ref 76), some (.int x1), some (.int x2), some (.int (x15 + (1 : Int32))), none]) (zLe_s (zLe_s (zLe_s (zLe_s (zLe_n zLe_nl))))) (hrec17 ((x15 + (1 : Int32)), M26))
