def fX11_torn (M : zM) : Int32 :=
  (M.1 76 32)
set_option maxHeartbeats 4000000 in
set_option maxRecDepth 100000 in
theorem tX11_torn (E : zE)  (M : zM) : zFi E mX11_torn [.ref 76] zY0 M (some (fX11_torn M)) := by
  refine zF_of (L := [some (.ref 76)]) plX11 (Nat.le_of_ble_eq_true rfl) rfl (fun post => ?_)
  show zK E _ post 0 _ _ _ (lt (fX11_torn M) some) _
  unfold fX11_torn
  refine z_aload_n 0 dX11_torn_0 rfl ?_
  refine z_getI 1 dX11_torn_1 fl_X11_297 zy_76 rfl ?_
  exact z_ireturn 4 dX11_torn_4 rfl rfl (fun h => h)
def fX11_count (p1 : Int32) (M : zM) : Option Int32 :=
  sq (α := Int32) (zlp (α := Int32 × Int32) (β := Int32) (fun rec59 => (fun (u83 : Int32 × Int32) => match u83 with | (x57, x58) => sq (fX11_linesOf (0 : Int32) (0 : Int32) M) (fun (x63 : Int32) => if x63 ≤ x58 then (some x57) else (sq (α := Int32) (zlp (α := Int32 × Int32) (β := Int32) (fun rec66 => (fun (u75 : Int32 × Int32) => match u75 with | (x64, x65) => sq (fX11_linesOf (1 : Int32) (0 : Int32) M) (fun (x70 : Int32) => if x70 ≤ x65 then (some x64) else (sq (fX11_costOf x58 x65 (15 : Int32) M) (fun (x71 : Int32) => lt (if x71 = (-4 : Int32) then (false) else (true)) (fun (b72 : Bool) => lt ((x64 + (zb b72))) (fun (x73 : Int32) => rec66 (x73, (x65 + (1 : Int32)))))))))) zFu (x57, (0 : Int32))) (fun (x69 : Int32) => rec59 (x69, (x58 + (1 : Int32)))))))) zFu ((0 : Int32), (0 : Int32))) (fun (x62 : Int32) => if p1 = (0 : Int32) then (sq (fX11_linesOf p1 (0 : Int32) M) (fun (x77 : Int32) => some x77)) else (if p1 = (1 : Int32) then (sq (fX11_linesOf p1 (0 : Int32) M) (fun (x78 : Int32) => some x78)) else (if p1 = (2 : Int32) then (some x62) else (if p1 = (3 : Int32) then (grd (zix (0 : Int32) 2) (lt (if (M.1 96 (zn (0 : Int32))) = 0 then (false) else (true)) (fun (b79 : Bool) => grd (zix (1 : Int32) 2) (lt (if (M.1 96 (zn (1 : Int32))) = 0 then (false) else (true)) (fun (b80 : Bool) => some ((zb b79) + (zb b80))))))) else (if p1 = (4 : Int32) then (some (M.1 76 1)) else (if p1 = (5 : Int32) then (grd (zix (0 : Int32) 4) (if (M.1 97 (zn (0 : Int32))) = (-4 : Int32) then (some (-4 : Int32)) else (grd (zix (0 : Int32) 4) (some (M.1 98 (zn (0 : Int32))))))) else (some (-1 : Int32))))))))
set_option maxHeartbeats 4000000 in
set_option maxRecDepth 100000 in
theorem tX11_count (E : zE) (p1 : Int32) (M : zM) : zFi E mX11_count [.ref 76, .int p1] zY0 M (fX11_count p1 M) := by
  refine zF_of (L := [some (.ref 76), some (.int p1), none, none, none]) plX11 (Nat.le_of_ble_eq_true rfl) rfl (fun post => ?_)
  unfold fX11_count
  refine z_iconst 0 dX11_count_0 zci_0 ?_
  refine z_istore_n 1 (L' := [some (.ref 76), some (.int p1), some (.int (0 : Int32)), none, none]) dX11_count_1 (by decide) rfl ?_
  refine z_iconst 2 dX11_count_2 zci_0 ?_
  refine z_istore_n 3 (L' := [some (.ref 76), some (.int p1), some (.int (0 : Int32)), some (.int (0 : Int32)), none]) dX11_count_3 (by decide) rfl ?_
  refine zk_sqj (α := Int32) 62 (fun (x62 : Int32) => [some (.ref 76), some (.int p1), some (.int x62), none, none]) (fun (x62 : Int32) => []) (fun (x62 : Int32) => (zY0, M)) ?_ ?_
  · intro x62
    refine z_iload_n 62 dX11_count_62 rfl ?_
    refine z_tsc 63 100 (k := 0) (off := 37) dX11_count_63 (by decide) (by decide) (by decide) (by decide) ?_ (fun n1 => ?_)
    · refine z_aload_n 100 dX11_count_100 rfl ?_
      refine z_iload_n 101 dX11_count_101 rfl ?_
      refine z_iconst 102 dX11_count_102 zci_0 ?_
      refine z_ci (zat_V2 103 dX11_count_103 lk_X11_164 zy_76 rfl rfl ⟨Nat.le_of_ble_eq_true rfl, Nat.le_of_ble_eq_true rfl⟩ (Nat.le_of_ble_eq_true rfl)) (tX11_linesOf E p1 (0 : Int32) M) (fun x77 => ?_)
      exact z_ireturn 106 dX11_count_106 rfl rfl (fun h => h)
    · refine z_tsc 63 100 (k := 1) (off := 37) dX11_count_63 (by decide) (by decide) (by decide) (by decide) ?_ (fun n2 => ?_)
      · refine z_aload_n 100 dX11_count_100 rfl ?_
        refine z_iload_n 101 dX11_count_101 rfl ?_
        refine z_iconst 102 dX11_count_102 zci_0 ?_
        refine z_ci (zat_V2 103 dX11_count_103 lk_X11_164 zy_76 rfl rfl ⟨Nat.le_of_ble_eq_true rfl, Nat.le_of_ble_eq_true rfl⟩ (Nat.le_of_ble_eq_true rfl)) (tX11_linesOf E p1 (0 : Int32) M) (fun x78 => ?_)
        exact z_ireturn 106 dX11_count_106 rfl rfl (fun h => h)
      · refine z_tsc 63 107 (k := 2) (off := 44) dX11_count_63 (by decide) (by decide) (by decide) (by decide) ?_ (fun n3 => ?_)
        · refine z_iload_n 107 dX11_count_107 rfl ?_
          exact z_ireturn 108 dX11_count_108 rfl rfl (fun h => h)
        · refine z_tsc 63 109 (k := 3) (off := 46) dX11_count_63 (by decide) (by decide) (by decide) (by decide) ?_ (fun n4 => ?_)
          · refine z_aload_n 109 dX11_count_109 rfl ?_
            refine z_getR 110 (r := 96) dX11_count_110 fl_X11_69 zy_76 rfl ?_
            refine z_iconst 113 dX11_count_113 zci_0 ?_
            refine z_zaload 114 dX11_count_114 zy_96 ?_
            refine zk_ltj (α := Bool) 123 (fun (b79 : Bool) => [some (.ref 76), none, none, none, none]) (fun (b79 : Bool) => [.int (zb b79)]) (fun (b79 : Bool) => (zY0, M)) ?_ ?_
            · intro b79
              refine z_aload_n 123 dX11_count_123 rfl ?_
              refine z_getR 124 (r := 96) dX11_count_124 fl_X11_69 zy_76 rfl ?_
              refine z_iconst 127 dX11_count_127 zci_1 ?_
              refine z_zaload 128 dX11_count_128 zy_96 ?_
              refine zk_ltj (α := Bool) 137 (fun (b80 : Bool) => [none, none, none, none, none]) (fun (b80 : Bool) => [.int (zb b80), .int (zb b79)]) (fun (b80 : Bool) => (zY0, M)) ?_ ?_
              · intro b80
                refine z_iadd 137 dX11_count_137 ?_
                exact z_ireturn 138 dX11_count_138 rfl rfl (fun h => h)
              · intro k81 hk81
                refine z_ifeqv 129 136 dX11_count_129 (by decide) ?_ ?_
                · refine z_iconst 136 dX11_count_136 zci_0 ?_
                  exact zk_weak (L' := [none, none, none, none, none]) (zLe_n (zLe_n (zLe_n (zLe_n (zLe_n zLe_nl))))) (hk81 false)
                · refine z_iconst 132 dX11_count_132 zci_1 ?_
                  refine z_goto 133 137 dX11_count_133 (by decide) ?_
                  exact zk_weak (L' := [none, none, none, none, none]) (zLe_n (zLe_n (zLe_n (zLe_n (zLe_n zLe_nl))))) (hk81 true)
            · intro k82 hk82
              refine z_ifeqv 115 122 dX11_count_115 (by decide) ?_ ?_
              · refine z_iconst 122 dX11_count_122 zci_0 ?_
                exact zk_weak (L' := [some (.ref 76), none, none, none, none]) (zLe_s (zLe_n (zLe_n (zLe_n (zLe_n zLe_nl))))) (hk82 false)
              · refine z_iconst 118 dX11_count_118 zci_1 ?_
                refine z_goto 119 123 dX11_count_119 (by decide) ?_
                exact zk_weak (L' := [some (.ref 76), none, none, none, none]) (zLe_s (zLe_n (zLe_n (zLe_n (zLe_n zLe_nl))))) (hk82 true)
          · refine z_tsc 63 139 (k := 4) (off := 76) dX11_count_63 (by decide) (by decide) (by decide) (by decide) ?_ (fun n5 => ?_)
            · refine z_aload_n 139 dX11_count_139 rfl ?_
              refine z_getI 140 dX11_count_140 fl_X11_81 zy_76 rfl ?_
              exact z_ireturn 143 dX11_count_143 rfl rfl (fun h => h)
            · refine z_tsc 63 144 (k := 5) (off := 81) dX11_count_63 (by decide) (by decide) (by decide) (by decide) ?_ (fun n6 => ?_)
              · refine z_aload_n 144 dX11_count_144 rfl ?_
                refine z_getR 145 (r := 97) dX11_count_145 fl_X11_72 zy_76 rfl ?_
                refine z_iconst 148 dX11_count_148 zci_0 ?_
                refine z_iaload 149 dX11_count_149 zy_97 ?_
                refine z_bipush 150 dX11_count_150 zbp_m4 ?_
                refine z_icne 152 160 dX11_count_152 (by decide) (fun _ => ?_) (fun _ => ?_)
                · refine z_bipush 155 dX11_count_155 zbp_m4 ?_
                  refine z_goto 157 166 dX11_count_157 (by decide) ?_
                  exact z_ireturn 166 dX11_count_166 rfl rfl (fun h => h)
                · refine z_aload_n 160 dX11_count_160 rfl ?_
                  refine z_getR 161 (r := 98) dX11_count_161 fl_X11_75 zy_76 rfl ?_
                  refine z_iconst 164 dX11_count_164 zci_0 ?_
                  refine z_iaload 165 dX11_count_165 zy_98 ?_
                  exact z_ireturn 166 dX11_count_166 rfl rfl (fun h => h)
              · refine z_tsd 63 167 dX11_count_63 (by have e1 := zne n1 (a := 0) (by decide); have e2 := zne n2 (a := 1) (by decide); have e3 := zne n3 (a := 2) (by decide); have e4 := zne n4 (a := 3) (by decide); have e5 := zne n5 (a := 4) (by decide); have e6 := zne n6 (a := 5) (by decide); omega) (by decide) ?_
                refine z_iconst 167 dX11_count_167 zci_m1 ?_
                exact z_ireturn 168 dX11_count_168 rfl rfl (fun h => h)
  · refine zk_weak (L' := [some (.ref 76), some (.int p1), some (.int (0 : Int32)), some (.int (0 : Int32)), none]) (zLe_s (zLe_s (zLe_s (zLe_s (zLe_n zLe_nl))))) (zk_lp (α := Int32 × Int32) 4 (fun (u60 : Int32 × Int32) => match u60 with | (x57, x58) => [some (.ref 76), some (.int p1), some (.int x57), some (.int x58), none]) (fun (u61 : Int32 × Int32) => match u61 with | (x57, x58) => (zY0, M)) ?_ zFu ((0 : Int32), (0 : Int32)))
    intro rec59 hrec59
    intro u84
    obtain ⟨x57, x58⟩ := u84
    try dsimp only
    refine z_iload_n 4 dX11_count_4 rfl ?_
    refine z_aload_n 5 dX11_count_5 rfl ?_
    refine z_iconst 6 dX11_count_6 zci_0 ?_
    refine z_iconst 7 dX11_count_7 zci_0 ?_
    refine z_ci (zat_V2 8 dX11_count_8 lk_X11_164 zy_76 rfl rfl ⟨Nat.le_of_ble_eq_true rfl, Nat.le_of_ble_eq_true rfl⟩ (Nat.le_of_ble_eq_true rfl)) (tX11_linesOf E (0 : Int32) (0 : Int32) M) (fun x63 => ?_)
    refine z_icge 11 62 dX11_count_11 (by decide) (fun _ => ?_) (fun _ => ?_)
    · exact zk_exitw (L' := [some (.ref 76), some (.int p1), some (.int x57), none, none]) (zLe_s (zLe_s (zLe_s (zLe_n (zLe_n zLe_nl))))) (fun h => h)
    · refine z_iconst 14 dX11_count_14 zci_0 ?_
      refine z_istore 15 (L' := [some (.ref 76), some (.int p1), some (.int x57), some (.int x58), some (.int (0 : Int32))]) dX11_count_15 (by decide) rfl ?_
      refine zk_sqj (α := Int32) 56 (fun (x69 : Int32) => [some (.ref 76), some (.int p1), some (.int x69), some (.int x58), none]) (fun (x69 : Int32) => []) (fun (x69 : Int32) => (zY0, M)) ?_ ?_
      · intro x69
        refine z_iinc 56 (v := (x58 + (1 : Int32))) (L' := [some (.ref 76), some (.int p1), some (.int x69), some (.int (x58 + (1 : Int32))), none]) dX11_count_56 rfl (zinc zci_1 _) (by decide) rfl ?_
        refine z_goto 59 4 dX11_count_59 (by decide) ?_
        exact zk_weak (L' := [some (.ref 76), some (.int p1), some (.int x69), some (.int (x58 + (1 : Int32))), none]) (zLe_s (zLe_s (zLe_s (zLe_s (zLe_n zLe_nl))))) (hrec59 (x69, (x58 + (1 : Int32))))
      · refine zk_weak (L' := [some (.ref 76), some (.int p1), some (.int x57), some (.int x58), some (.int (0 : Int32))]) (zLe_s (zLe_s (zLe_s (zLe_s (zLe_s zLe_nl))))) (zk_lp (α := Int32 × Int32) 17 (fun (u67 : Int32 × Int32) => match u67 with | (x64, x65) => [some (.ref 76), some (.int p1), some (.int x64), some (.int x58), some (.int x65)]) (fun (u68 : Int32 × Int32) => match u68 with | (x64, x65) => (zY0, M)) ?_ zFu (x57, (0 : Int32)))
        intro rec66 hrec66
        intro u76
        obtain ⟨x64, x65⟩ := u76
        try dsimp only
        refine z_iload 17 dX11_count_17 rfl ?_
        refine z_aload_n 19 dX11_count_19 rfl ?_
        refine z_iconst 20 dX11_count_20 zci_1 ?_
        refine z_iconst 21 dX11_count_21 zci_0 ?_
        refine z_ci (zat_V2 22 dX11_count_22 lk_X11_164 zy_76 rfl rfl ⟨Nat.le_of_ble_eq_true rfl, Nat.le_of_ble_eq_true rfl⟩ (Nat.le_of_ble_eq_true rfl)) (tX11_linesOf E (1 : Int32) (0 : Int32) M) (fun x70 => ?_)
        refine z_icge 25 56 dX11_count_25 (by decide) (fun _ => ?_) (fun _ => ?_)
        · exact zk_exitw (L' := [some (.ref 76), some (.int p1), some (.int x64), some (.int x58), none]) (zLe_s (zLe_s (zLe_s (zLe_s (zLe_n zLe_nl))))) (fun h => h)
        · refine z_iload_n 28 dX11_count_28 rfl ?_
          refine z_aload_n 29 dX11_count_29 rfl ?_
          refine z_iload_n 30 dX11_count_30 rfl ?_
          refine z_iload 31 dX11_count_31 rfl ?_
          refine z_bipush 33 dX11_count_33 zbp_15 ?_
          refine z_ci (zat_V3 35 dX11_count_35 lk_X11_216 zy_76 rfl rfl ⟨Nat.le_of_ble_eq_true rfl, Nat.le_of_ble_eq_true rfl⟩ (Nat.le_of_ble_eq_true rfl)) (tX11_costOf E x58 x65 (15 : Int32) M) (fun x71 => ?_)
          refine z_bipush 38 dX11_count_38 zbp_m4 ?_
          refine zk_ltj (α := Bool) 48 (fun (b72 : Bool) => [some (.ref 76), some (.int p1), none, some (.int x58), some (.int x65)]) (fun (b72 : Bool) => [.int (zb b72), .int x64]) (fun (b72 : Bool) => (zY0, M)) ?_ ?_
          · intro b72
            refine z_iadd 48 dX11_count_48 ?_
            refine zk_nmI (fun x73 => ?_)
            refine z_istore_n 49 (L' := [some (.ref 76), some (.int p1), some (.int x73), some (.int x58), some (.int x65)]) dX11_count_49 (by decide) rfl ?_
            refine z_iinc 50 (v := (x65 + (1 : Int32))) (L' := [some (.ref 76), some (.int p1), some (.int x73), some (.int x58), some (.int (x65 + (1 : Int32)))]) dX11_count_50 rfl (zinc zci_1 _) (by decide) rfl ?_
            refine z_goto 53 17 dX11_count_53 (by decide) ?_
            exact zk_weak (L' := [some (.ref 76), some (.int p1), some (.int x73), some (.int x58), some (.int (x65 + (1 : Int32)))]) (zLe_s (zLe_s (zLe_s (zLe_s (zLe_s zLe_nl))))) (hrec66 (x73, (x65 + (1 : Int32))))
          · intro k74 hk74
            refine z_icnev 40 47 dX11_count_40 (by decide) ?_ ?_
            · refine z_iconst 43 dX11_count_43 zci_0 ?_
              refine z_goto 44 48 dX11_count_44 (by decide) ?_
              exact zk_weak (L' := [some (.ref 76), some (.int p1), none, some (.int x58), some (.int x65)]) (zLe_s (zLe_s (zLe_n (zLe_s (zLe_s zLe_nl))))) (hk74 false)
            · refine z_iconst 47 dX11_count_47 zci_1 ?_
              exact zk_weak (L' := [some (.ref 76), some (.int p1), none, some (.int x58), some (.int x65)]) (zLe_s (zLe_s (zLe_n (zLe_s (zLe_s zLe_nl))))) (hk74 true)
