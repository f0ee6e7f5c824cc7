def fX11_takeIn (p1 : Int32) (p2 : Int32) (p3 : Int32) (p4 : Int32) (M : zM) : Option zM :=
  grd (zix p2 11264) (lt ((p3 + (M.1 86 (zn p2)))) (fun (x1 : Int32) => grd (zix p1 11264) (grd (zix p2 11264) (grd (zix p1 11264) (lt (zwL M 87 (zn p1) ((M.2 87 (zn p1)) + (M.2 87 (zn p2)))) (fun (M2 : zM) => grd (zix p2 11264) (jn (α := Unit) (fun (_ : Unit) => grd (zix p2 11264) (if (M2.2 87 (zn p2)) ≤ (0 : Int64) then (some M2) else (grd (zix p1 11264) (if x1 = (M2.1 86 (zn p1)) then (grd (zix p1 11264) (grd (zix p2 11264) (grd (zix p1 11264) (lt (zwL M2 88 (zn p1) ((M2.2 88 (zn p1)) + (M2.2 88 (zn p2)))) (fun (M7 : zM) => grd (zix p2 11264) (lt (((M7.1 89 (zn p2)) + p4)) (fun (x8 : Int32) => grd (zix p2 11264) (lt (((M7.1 90 (zn p2)) + p4)) (fun (x9 : Int32) => grd (zix p1 11264) (sq (α := Int32) (if (M7.1 89 (zn p1)) ≤ x8 then (grd (zix p1 11264) (some (M7.1 89 (zn p1)))) else (some x8)) (fun (x10 : Int32) => grd (zix p1 11264) (lt (zwI M7 89 (zn p1) x10) (fun (M11 : zM) => grd (zix p1 11264) (sq (α := Int32) (if x9 ≤ (M11.1 90 (zn p1)) then (grd (zix p1 11264) (some (M11.1 90 (zn p1)))) else (some x9)) (fun (x12 : Int32) => grd (zix p1 11264) (lt (zwI M11 90 (zn p1) x12) (fun (M13 : zM) => some M13))))))))))))))))) else (some M2))))) (fun k14 => if (M2.2 87 (zn p2)) ≤ (0 : Int64) then (k14 ()) else (grd (zix p1 11264) (if (M2.1 86 (zn p1)) ≤ x1 then (k14 ()) else (grd (zix p1 11264) (lt (zwI M2 86 (zn p1) x1) (fun (M15 : zM) => grd (zix p2 11264) (grd (zix p1 11264) (lt (zwL M15 88 (zn p1) (M15.2 88 (zn p2))) (fun (M16 : zM) => grd (zix p2 11264) (grd (zix p1 11264) (lt (zwI M16 89 (zn p1) ((M16.1 89 (zn p2)) + p4)) (fun (M17 : zM) => grd (zix p2 11264) (grd (zix p1 11264) (lt (zwI M17 90 (zn p1) ((M17.1 90 (zn p2)) + p4)) (fun (M18 : zM) => some M18))))))))))))))))))))))
set_option maxHeartbeats 4000000 in
set_option maxRecDepth 100000 in
theorem tX11_takeIn (E : zE) (p1 : Int32) (p2 : Int32) (p3 : Int32) (p4 : Int32) (M : zM) : zFV E mX11_takeIn [.ref 76, .int p1, .int p2, .int p3, .int p4] zY0 M (fX11_takeIn p1 p2 p3 p4 M) := by
  refine zF_of (L := [some (.ref 76), some (.int p1), some (.int p2), some (.int p3), some (.int p4), none, none, none]) plX11 (Nat.le_of_ble_eq_true rfl) rfl (fun post => ?_)
  unfold fX11_takeIn
  refine z_iload_n 0 dX11_takeIn_0 rfl ?_
  refine z_aload_n 1 dX11_takeIn_1 rfl ?_
  refine z_getR 2 (r := 86) dX11_takeIn_2 fl_X11_37 zy_76 rfl ?_
  refine z_iload_n 5 dX11_takeIn_5 rfl ?_
  refine z_iaload 6 dX11_takeIn_6 zy_86 ?_
  refine z_iadd 7 dX11_takeIn_7 ?_
  refine zk_nmI (fun x1 => ?_)
  refine z_istore 8 (L' := [some (.ref 76), some (.int p1), some (.int p2), some (.int p3), some (.int p4), some (.int x1), none, none]) dX11_takeIn_8 (by decide) rfl ?_
  refine z_aload_n 10 dX11_takeIn_10 rfl ?_
  refine z_getR 11 (r := 87) dX11_takeIn_11 fl_X11_40 zy_76 rfl ?_
  refine z_iload_n 14 dX11_takeIn_14 rfl ?_
  refine z_dup2 15 dX11_takeIn_15 rfl rfl ?_
  refine z_laload 16 dX11_takeIn_16 zy_87 ?_
  refine z_aload_n 17 dX11_takeIn_17 rfl ?_
  refine z_getR 18 (r := 87) dX11_takeIn_18 fl_X11_40 zy_76 rfl ?_
  refine z_iload_n 21 dX11_takeIn_21 rfl ?_
  refine z_laload 22 dX11_takeIn_22 zy_87 ?_
  refine z_ladd 23 dX11_takeIn_23 ?_
  refine z_lastore 24 dX11_takeIn_24 zy_87 ?_
  refine zk_nmM (fun M2 => ?_)
  refine z_aload_n 25 dX11_takeIn_25 rfl ?_
  refine z_getR 26 (r := 87) dX11_takeIn_26 fl_X11_40 zy_76 rfl ?_
  refine z_iload_n 29 dX11_takeIn_29 rfl ?_
  refine z_laload 30 dX11_takeIn_30 zy_87 ?_
  refine z_lconst 31 dX11_takeIn_31 zlc_0 ?_
  refine z_lcmp 32 dX11_takeIn_32 ?_
  refine zk_jn (α := Unit) 100 (fun (_ : Unit) => [some (.ref 76), some (.int p1), some (.int p2), none, some (.int p4), some (.int x1), none, none]) (fun (_ : Unit) => []) (fun (_ : Unit) => (zY0, M2)) ?_ ?_
  · intro _
    refine z_aload_n 100 dX11_takeIn_100 rfl ?_
    refine z_getR 101 (r := 87) dX11_takeIn_101 fl_X11_40 zy_76 rfl ?_
    refine z_iload_n 104 dX11_takeIn_104 rfl ?_
    refine z_laload 105 dX11_takeIn_105 zy_87 ?_
    refine z_lconst 106 dX11_takeIn_106 zlc_0 ?_
    refine z_lcmp 107 dX11_takeIn_107 ?_
    refine z_lcle 108 215 dX11_takeIn_108 (by decide) (fun _ => ?_) (fun _ => ?_)
    · exact z_return 215 dX11_takeIn_215 rfl (fun h => h)
    · refine z_iload 111 dX11_takeIn_111 rfl ?_
      refine z_aload_n 113 dX11_takeIn_113 rfl ?_
      refine z_getR 114 (r := 86) dX11_takeIn_114 fl_X11_37 zy_76 rfl ?_
      refine z_iload_n 117 dX11_takeIn_117 rfl ?_
      refine z_iaload 118 dX11_takeIn_118 zy_86 ?_
      refine z_icne 119 215 dX11_takeIn_119 (by decide) (fun _ => ?_) (fun _ => ?_)
      · refine z_aload_n 122 dX11_takeIn_122 rfl ?_
        refine z_getR 123 (r := 88) dX11_takeIn_123 fl_X11_44 zy_76 rfl ?_
        refine z_iload_n 126 dX11_takeIn_126 rfl ?_
        refine z_dup2 127 dX11_takeIn_127 rfl rfl ?_
        refine z_laload 128 dX11_takeIn_128 zy_88 ?_
        refine z_aload_n 129 dX11_takeIn_129 rfl ?_
        refine z_getR 130 (r := 88) dX11_takeIn_130 fl_X11_44 zy_76 rfl ?_
        refine z_iload_n 133 dX11_takeIn_133 rfl ?_
        refine z_laload 134 dX11_takeIn_134 zy_88 ?_
        refine z_ladd 135 dX11_takeIn_135 ?_
        refine z_lastore 136 dX11_takeIn_136 zy_88 ?_
        refine zk_nmM (fun M7 => ?_)
        refine z_aload_n 137 dX11_takeIn_137 rfl ?_
        refine z_getR 138 (r := 89) dX11_takeIn_138 fl_X11_47 zy_76 rfl ?_
        refine z_iload_n 141 dX11_takeIn_141 rfl ?_
        refine z_iaload 142 dX11_takeIn_142 zy_89 ?_
        refine z_iload 143 dX11_takeIn_143 rfl ?_
        refine z_iadd 145 dX11_takeIn_145 ?_
        refine zk_nmI (fun x8 => ?_)
        refine z_istore 146 (L' := [some (.ref 76), some (.int p1), some (.int p2), none, some (.int p4), some (.int x1), some (.int x8), none]) dX11_takeIn_146 (by decide) rfl ?_
        refine z_aload_n 148 dX11_takeIn_148 rfl ?_
        refine z_getR 149 (r := 90) dX11_takeIn_149 fl_X11_50 zy_76 rfl ?_
        refine z_iload_n 152 dX11_takeIn_152 rfl ?_
        refine z_iaload 153 dX11_takeIn_153 zy_90 ?_
        refine z_iload 154 dX11_takeIn_154 rfl ?_
        refine z_iadd 156 dX11_takeIn_156 ?_
        refine zk_nmI (fun x9 => ?_)
        refine z_istore 157 (L' := [some (.ref 76), some (.int p1), some (.int p2), none, some (.int p4), some (.int x1), some (.int x8), some (.int x9)]) dX11_takeIn_157 (by decide) rfl ?_
        refine z_aload_n 159 dX11_takeIn_159 rfl ?_
        refine z_getR 160 (r := 89) dX11_takeIn_160 fl_X11_47 zy_76 rfl ?_
        refine z_iload_n 163 dX11_takeIn_163 rfl ?_
        refine z_iload 164 dX11_takeIn_164 rfl ?_
        refine z_aload_n 166 dX11_takeIn_166 rfl ?_
        refine z_getR 167 (r := 89) dX11_takeIn_167 fl_X11_47 zy_76 rfl ?_
        refine z_iload_n 170 dX11_takeIn_170 rfl ?_
        refine z_iaload 171 dX11_takeIn_171 zy_89 ?_
        refine zk_sqj (α := Int32) 186 (fun (x10 : Int32) => [some (.ref 76), some (.int p1), none, none, none, none, none, some (.int x9)]) (fun (x10 : Int32) => [.int x10, .int p1, .ref 89]) (fun (x10 : Int32) => (zY0, M7)) ?_ ?_
        · intro x10
          refine z_iastore 186 dX11_takeIn_186 zy_89 ?_
          refine zk_nmM (fun M11 => ?_)
          refine z_aload_n 187 dX11_takeIn_187 rfl ?_
          refine z_getR 188 (r := 90) dX11_takeIn_188 fl_X11_50 zy_76 rfl ?_
          refine z_iload_n 191 dX11_takeIn_191 rfl ?_
          refine z_iload 192 dX11_takeIn_192 rfl ?_
          refine z_aload_n 194 dX11_takeIn_194 rfl ?_
          refine z_getR 195 (r := 90) dX11_takeIn_195 fl_X11_50 zy_76 rfl ?_
          refine z_iload_n 198 dX11_takeIn_198 rfl ?_
          refine z_iaload 199 dX11_takeIn_199 zy_90 ?_
          refine zk_sqj (α := Int32) 214 (fun (x12 : Int32) => [none, none, none, none, none, none, none, none]) (fun (x12 : Int32) => [.int x12, .int p1, .ref 90]) (fun (x12 : Int32) => (zY0, M11)) ?_ ?_
          · intro x12
            refine z_iastore 214 dX11_takeIn_214 zy_90 ?_
            refine zk_nmM (fun M13 => ?_)
            exact z_return 215 dX11_takeIn_215 rfl (fun h => h)
          · refine z_icle 200 208 dX11_takeIn_200 (by decide) (fun _ => ?_) (fun _ => ?_)
            · refine z_aload_n 208 dX11_takeIn_208 rfl ?_
              refine z_getR 209 (r := 90) dX11_takeIn_209 fl_X11_50 zy_76 rfl ?_
              refine z_iload_n 212 dX11_takeIn_212 rfl ?_
              refine z_iaload 213 dX11_takeIn_213 zy_90 ?_
              exact zk_exitw (L' := [none, none, none, none, none, none, none, none]) (zLe_n (zLe_n (zLe_n (zLe_n (zLe_n (zLe_n (zLe_n (zLe_n zLe_nl)))))))) (fun h => h)
            · refine z_iload 203 dX11_takeIn_203 rfl ?_
              refine z_goto 205 214 dX11_takeIn_205 (by decide) ?_
              exact zk_exitw (L' := [none, none, none, none, none, none, none, none]) (zLe_n (zLe_n (zLe_n (zLe_n (zLe_n (zLe_n (zLe_n (zLe_n zLe_nl)))))))) (fun h => h)
        · refine z_icge 172 180 dX11_takeIn_172 (by decide) (fun _ => ?_) (fun _ => ?_)
          · refine z_aload_n 180 dX11_takeIn_180 rfl ?_
            refine z_getR 181 (r := 89) dX11_takeIn_181 fl_X11_47 zy_76 rfl ?_
            refine z_iload_n 184 dX11_takeIn_184 rfl ?_
            refine z_iaload 185 dX11_takeIn_185 zy_89 ?_
            exact zk_exitw (L' := [some (.ref 76), some (.int p1), none, none, none, none, none, some (.int x9)]) (zLe_s (zLe_s (zLe_n (zLe_n (zLe_n (zLe_n (zLe_n (zLe_s zLe_nl)))))))) (fun h => h)
          · refine z_iload 175 dX11_takeIn_175 rfl ?_
            refine z_goto 177 186 dX11_takeIn_177 (by decide) ?_
            exact zk_exitw (L' := [some (.ref 76), some (.int p1), none, none, none, none, none, some (.int x9)]) (zLe_s (zLe_s (zLe_n (zLe_n (zLe_n (zLe_n (zLe_n (zLe_s zLe_nl)))))))) (fun h => h)
      · exact z_return 215 dX11_takeIn_215 rfl (fun h => h)
  · intro k14 hk14
    refine z_lcle 33 100 dX11_takeIn_33 (by decide) (fun _ => ?_) (fun _ => ?_)
    · exact zk_weak (L' := [some (.ref 76), some (.int p1), some (.int p2), none, some (.int p4), some (.int x1), none, none]) (zLe_s (zLe_s (zLe_s (zLe_n (zLe_s (zLe_s (zLe_n (zLe_n zLe_nl)))))))) (hk14 ())
    · refine z_iload 36 dX11_takeIn_36 rfl ?_
      refine z_aload_n 38 dX11_takeIn_38 rfl ?_
      refine z_getR 39 (r := 86) dX11_takeIn_39 fl_X11_37 zy_76 rfl ?_
      refine z_iload_n 42 dX11_takeIn_42 rfl ?_
      refine z_iaload 43 dX11_takeIn_43 zy_86 ?_
      refine z_icge 44 100 dX11_takeIn_44 (by decide) (fun _ => ?_) (fun _ => ?_)
      · exact zk_weak (L' := [some (.ref 76), some (.int p1), some (.int p2), none, some (.int p4), some (.int x1), none, none]) (zLe_s (zLe_s (zLe_s (zLe_n (zLe_s (zLe_s (zLe_n (zLe_n zLe_nl)))))))) (hk14 ())
      · refine z_aload_n 47 dX11_takeIn_47 rfl ?_
        refine z_getR 48 (r := 86) dX11_takeIn_48 fl_X11_37 zy_76 rfl ?_
        refine z_iload_n 51 dX11_takeIn_51 rfl ?_
        refine z_iload 52 dX11_takeIn_52 rfl ?_
        refine z_iastore 54 dX11_takeIn_54 zy_86 ?_
        refine zk_nmM (fun M15 => ?_)
        refine z_aload_n 55 dX11_takeIn_55 rfl ?_
        refine z_getR 56 (r := 88) dX11_takeIn_56 fl_X11_44 zy_76 rfl ?_
        refine z_iload_n 59 dX11_takeIn_59 rfl ?_
        refine z_aload_n 60 dX11_takeIn_60 rfl ?_
        refine z_getR 61 (r := 88) dX11_takeIn_61 fl_X11_44 zy_76 rfl ?_
        refine z_iload_n 64 dX11_takeIn_64 rfl ?_
        refine z_laload 65 dX11_takeIn_65 zy_88 ?_
        refine z_lastore 66 dX11_takeIn_66 zy_88 ?_
        refine zk_nmM (fun M16 => ?_)
        refine z_aload_n 67 dX11_takeIn_67 rfl ?_
        refine z_getR 68 (r := 89) dX11_takeIn_68 fl_X11_47 zy_76 rfl ?_
        refine z_iload_n 71 dX11_takeIn_71 rfl ?_
        refine z_aload_n 72 dX11_takeIn_72 rfl ?_
        refine z_getR 73 (r := 89) dX11_takeIn_73 fl_X11_47 zy_76 rfl ?_
        refine z_iload_n 76 dX11_takeIn_76 rfl ?_
        refine z_iaload 77 dX11_takeIn_77 zy_89 ?_
        refine z_iload 78 dX11_takeIn_78 rfl ?_
        refine z_iadd 80 dX11_takeIn_80 ?_
        refine z_iastore 81 dX11_takeIn_81 zy_89 ?_
        refine zk_nmM (fun M17 => ?_)
        refine z_aload_n 82 dX11_takeIn_82 rfl ?_
        refine z_getR 83 (r := 90) dX11_takeIn_83 fl_X11_50 zy_76 rfl ?_
        refine z_iload_n 86 dX11_takeIn_86 rfl ?_
        refine z_aload_n 87 dX11_takeIn_87 rfl ?_
        refine z_getR 88 (r := 90) dX11_takeIn_88 fl_X11_50 zy_76 rfl ?_
        refine z_iload_n 91 dX11_takeIn_91 rfl ?_
        refine z_iaload 92 dX11_takeIn_92 zy_90 ?_
        refine z_iload 93 dX11_takeIn_93 rfl ?_
        refine z_iadd 95 dX11_takeIn_95 ?_
        refine z_iastore 96 dX11_takeIn_96 zy_90 ?_
        refine zk_nmM (fun M18 => ?_)
        refine z_goto 97 215 dX11_takeIn_97 (by decide) ?_
        exact z_return 215 dX11_takeIn_215 rfl (fun h => h)
def fX11_layPairings (p1 : Int32) (p2 : Int32) (p3 : Int32) (M : zM) : Option zM :=
  sq (fX11_layEnd M) (fun (M1 : zM) => sq (fX11_linesOf (1 : Int32) (0 : Int32) M1) (fun (x2 : Int32) => sq (fX11_linesOf (0 : Int32) (-1 : Int32) M1) (fun (x3 : Int32) => zlp (α := Int32 × zM) (fun rec6 => (fun (u71 : Int32 × zM) => match u71 with | (x4, M5) => if x4 < 0 then (some M5) else (sq (α := zM) (zlp (α := Int32 × zM) (β := zM) (fun rec44 => (fun (u69 : Int32 × zM) => match u69 with | (x42, M43) => if ((1 : Int32) <<< (x2 &&& 31)) ≤ x42 then (some M43) else (lt ((((1024 : Int32) * x4) + x42)) (fun (x48 : Int32) => grd (zix x48 11264) (lt (zwI M43 86 (zn x48) (1000000 : Int32)) (fun (M49 : zM) => grd (zix x48 11264) (lt (zwL M49 87 (zn x48) (0 : Int64)) (fun (M50 : zM) => grd (zix x48 11264) (lt (zwL M50 88 (zn x48) (0 : Int64)) (fun (M51 : zM) => sq (fX11_may x4 (-1 : Int32) p1 p2 p3 M51) (fun (b52 : Bool) => sq (α := zM) (if b52 = false then (some M51) else (grd (zix (7 : Int32) 30) (sq (fX11_takeIn x48 (((1024 : Int32) * (x4 + (1 : Int32))) + x42) (M51.1 81 (zn (7 : Int32))) (0 : Int32) M51) (fun (M68 : zM) => some M68)))) (fun (M54 : zM) => sq (α := zM) (zlp (α := Int32 × zM) (β := zM) (fun rec57 => (fun (u66 : Int32 × zM) => match u66 with | (x55, M56) => if x2 ≤ x55 then (some M56) else (sq (α := zM) (if ((x42 >>> (x55 &&& 31)) &&& (1 : Int32)) = 0 then (sq (fX11_may x4 x55 p1 p2 p3 M56) (fun (b64 : Bool) => if b64 = false then (some M56) else (grd (zix (((10 : Int32) * x4) + x55) 100) (sq (fX11_takeIn x48 (((1024 : Int32) * (x4 + (1 : Int32))) + (x42 ||| ((1 : Int32) <<< (x55 &&& 31)))) (M56.1 85 (zn (((10 : Int32) * x4) + x55))) (1 : Int32) M56) (fun (M65 : zM) => some M65))))) else (some M56)) (fun (M63 : zM) => rec57 ((x55 + (1 : Int32)), M63))))) zFu ((0 : Int32), M54)) (fun (M60 : zM) => rec44 ((x42 + (1 : Int32)), M60)))))))))))))) zFu ((0 : Int32), M5)) (fun (M47 : zM) => rec6 ((x4 + (-1 : Int32)), M47))))) zFu (x3, M1))))
set_option maxHeartbeats 4000000 in
set_option maxRecDepth 100000 in
theorem tX11_layPairings (E : zE) (p1 : Int32) (p2 : Int32) (p3 : Int32) (M : zM) : zFV E mX11_layPairings [.ref 76, .int p1, .int p2, .int p3] zY0 M (fX11_layPairings p1 p2 p3 M) := by
  refine zF_of (L := [some (.ref 76), some (.int p1), some (.int p2), some (.int p3), none, none, none, none, none]) plX11 (Nat.le_of_ble_eq_true rfl) rfl (fun post => ?_)
  unfold fX11_layPairings
  refine z_aload_n 0 dX11_layPairings_0 rfl ?_
  refine z_cV (zat_V0 1 dX11_layPairings_1 lk_X11_222 zy_76 rfl rfl ⟨Nat.le_of_ble_eq_true rfl, Nat.le_of_ble_eq_true rfl⟩ (Nat.le_of_ble_eq_true rfl)) (tX11_layEnd E M) (fun M1 => ?_)
  refine z_aload_n 4 dX11_layPairings_4 rfl ?_
  refine z_iconst 5 dX11_layPairings_5 zci_1 ?_
  refine z_iconst 6 dX11_layPairings_6 zci_0 ?_
  refine z_ci (zat_V2 7 dX11_layPairings_7 lk_X11_164 zy_76 rfl rfl ⟨Nat.le_of_ble_eq_true rfl, Nat.le_of_ble_eq_true rfl⟩ (Nat.le_of_ble_eq_true rfl)) (tX11_linesOf E (1 : Int32) (0 : Int32) M1) (fun x2 => ?_)
  refine z_istore 10 (L' := [some (.ref 76), some (.int p1), some (.int p2), some (.int p3), some (.int x2), none, none, none, none]) dX11_layPairings_10 (by decide) rfl ?_
  refine z_aload_n 12 dX11_layPairings_12 rfl ?_
  refine z_iconst 13 dX11_layPairings_13 zci_0 ?_
  refine z_iconst 14 dX11_layPairings_14 zci_m1 ?_
  refine z_ci (zat_V2 15 dX11_layPairings_15 lk_X11_164 zy_76 rfl rfl ⟨Nat.le_of_ble_eq_true rfl, Nat.le_of_ble_eq_true rfl⟩ (Nat.le_of_ble_eq_true rfl)) (tX11_linesOf E (0 : Int32) (-1 : Int32) M1) (fun x3 => ?_)
  refine z_istore 18 (L' := [some (.ref 76), some (.int p1), some (.int p2), some (.int p3), some (.int x2), some (.int x3), none, none, none]) dX11_layPairings_18 (by decide) rfl ?_
  refine zk_weak (L' := [some (.ref 76), some (.int p1), some (.int p2), some (.int p3), some (.int x2), some (.int x3), none, none, none]) (zLe_s (zLe_s (zLe_s (zLe_s (zLe_s (zLe_s (zLe_n (zLe_n (zLe_n zLe_nl))))))))) (zk_lp (α := Int32 × zM) 20 (fun (u7 : Int32 × zM) => match u7 with | (x4, M5) => [some (.ref 76), some (.int p1), some (.int p2), some (.int p3), some (.int x2), some (.int x4), none, none, none]) (fun (u8 : Int32 × zM) => match u8 with | (x4, M5) => (zY0, M5)) ?_ zFu (x3, M1))
  intro rec6 hrec6
  intro u72
  obtain ⟨x4, M5⟩ := u72
  try dsimp only
  refine z_iload 20 dX11_layPairings_20 rfl ?_
  refine z_iflt 22 199 dX11_layPairings_22 (by decide) (fun _ => ?_) (fun _ => ?_)
  · exact z_return 199 dX11_layPairings_199 rfl (fun h => h)
  · refine z_iconst 25 dX11_layPairings_25 zci_0 ?_
    refine z_istore 26 (L' := [some (.ref 76), some (.int p1), some (.int p2), some (.int p3), some (.int x2), some (.int x4), some (.int (0 : Int32)), none, none]) dX11_layPairings_26 (by decide) rfl ?_
    refine zk_sqj (α := zM) 193 (fun (M47 : zM) => [some (.ref 76), some (.int p1), some (.int p2), some (.int p3), some (.int x2), some (.int x4), none, none, none]) (fun (M47 : zM) => []) (fun (M47 : zM) => (zY0, M47)) ?_ ?_
    · intro M47
      refine z_iinc 193 (v := (x4 + (-1 : Int32))) (L' := [some (.ref 76), some (.int p1), some (.int p2), some (.int p3), some (.int x2), some (.int (x4 + (-1 : Int32))), none, none, none]) dX11_layPairings_193 rfl (zinc zci_m1 _) (by decide) rfl ?_
      refine z_goto 196 20 dX11_layPairings_196 (by decide) ?_
      exact zk_weak (L' := [some (.ref 76), some (.int p1), some (.int p2), some (.int p3), some (.int x2), some (.int (x4 + (-1 : Int32))), none, none, none]) (zLe_s (zLe_s (zLe_s (zLe_s (zLe_s (zLe_s (zLe_n (zLe_n (zLe_n zLe_nl))))))))) (hrec6 ((x4 + (-1 : Int32)), M47))
    · refine zk_weak (L' := [some (.ref 76), some (.int p1), some (.int p2), some (.int p3), some (.int x2), some (.int x4), some (.int (0 : Int32)), none, none]) (zLe_s (zLe_s (zLe_s (zLe_s (zLe_s (zLe_s (zLe_s (zLe_n (zLe_n zLe_nl))))))))) (zk_lp (α := Int32 × zM) 28 (fun (u45 : Int32 × zM) => match u45 with | (x42, M43) => [some (.ref 76), some (.int p1), some (.int p2), some (.int p3), some (.int x2), some (.int x4), some (.int x42), none, none]) (fun (u46 : Int32 × zM) => match u46 with | (x42, M43) => (zY0, M43)) ?_ zFu ((0 : Int32), M5))
      intro rec44 hrec44
      intro u70
      obtain ⟨x42, M43⟩ := u70
      try dsimp only
      refine z_iload 28 dX11_layPairings_28 rfl ?_
      refine z_iconst 30 dX11_layPairings_30 zci_1 ?_
      refine z_iload 31 dX11_layPairings_31 rfl ?_
      refine z_ishl 33 dX11_layPairings_33 ?_
      refine z_icge 34 193 dX11_layPairings_34 (by decide) (fun _ => ?_) (fun _ => ?_)
      · exact zk_exitw (L' := [some (.ref 76), some (.int p1), some (.int p2), some (.int p3), some (.int x2), some (.int x4), none, none, none]) (zLe_s (zLe_s (zLe_s (zLe_s (zLe_s (zLe_s (zLe_n (zLe_n (zLe_n zLe_nl))))))))) (fun h => h)
      · refine z_sipush 37 dX11_layPairings_37 zsp_1024 ?_
        refine z_iload 40 dX11_layPairings_40 rfl ?_
        refine z_imul 42 dX11_layPairings_42 ?_
        refine z_iload 43 dX11_layPairings_43 rfl ?_
        refine z_iadd 45 dX11_layPairings_45 ?_
        refine zk_nmI (fun x48 => ?_)
        refine z_istore 46 (L' := [some (.ref 76), some (.int p1), some (.int p2), some (.int p3), some (.int x2), some (.int x4), some (.int x42), some (.int x48), none]) dX11_layPairings_46 (by decide) rfl ?_
        refine z_aload_n 48 dX11_layPairings_48 rfl ?_
        refine z_getR 49 (r := 86) dX11_layPairings_49 fl_X11_37 zy_76 rfl ?_
        refine z_iload 52 dX11_layPairings_52 rfl ?_
        refine z_ldc 54 dX11_layPairings_54 cw_X11_225 ?_
        refine z_iastore 56 dX11_layPairings_56 zy_86 ?_
        refine zk_nmM (fun M49 => ?_)
        refine z_aload_n 57 dX11_layPairings_57 rfl ?_
        refine z_getR 58 (r := 87) dX11_layPairings_58 fl_X11_40 zy_76 rfl ?_
        refine z_iload 61 dX11_layPairings_61 rfl ?_
        refine z_lconst 63 dX11_layPairings_63 zlc_0 ?_
        refine z_lastore 64 dX11_layPairings_64 zy_87 ?_
        refine zk_nmM (fun M50 => ?_)
        refine z_aload_n 65 dX11_layPairings_65 rfl ?_
        refine z_getR 66 (r := 88) dX11_layPairings_66 fl_X11_44 zy_76 rfl ?_
        refine z_iload 69 dX11_layPairings_69 rfl ?_
        refine z_lconst 71 dX11_layPairings_71 zlc_0 ?_
        refine z_lastore 72 dX11_layPairings_72 zy_88 ?_
        refine zk_nmM (fun M51 => ?_)
        refine z_aload_n 73 dX11_layPairings_73 rfl ?_
        refine z_iload 74 dX11_layPairings_74 rfl ?_
        refine z_iconst 76 dX11_layPairings_76 zci_m1 ?_
        refine z_iload_n 77 dX11_layPairings_77 rfl ?_
        refine z_iload_n 78 dX11_layPairings_78 rfl ?_
        refine z_iload_n 79 dX11_layPairings_79 rfl ?_
        refine z_cb (zat_V5 80 dX11_layPairings_80 lk_X11_226 zy_76 rfl rfl ⟨Nat.le_of_ble_eq_true rfl, Nat.le_of_ble_eq_true rfl⟩ (Nat.le_of_ble_eq_true rfl)) (tX11_may E x4 (-1 : Int32) p1 p2 p3 M51) (fun b52 => ?_)
        refine zk_sqj (α := zM) 111 (fun (M54 : zM) => [some (.ref 76), some (.int p1), some (.int p2), some (.int p3), some (.int x2), some (.int x4), some (.int x42), some (.int x48), none]) (fun (M54 : zM) => []) (fun (M54 : zM) => (zY0, M54)) ?_ ?_
        · intro M54
          refine z_iconst 111 dX11_layPairings_111 zci_0 ?_
          refine z_istore 112 (L' := [some (.ref 76), some (.int p1), some (.int p2), some (.int p3), some (.int x2), some (.int x4), some (.int x42), some (.int x48), some (.int (0 : Int32))]) dX11_layPairings_112 (by decide) rfl ?_
          refine zk_sqj (α := zM) 187 (fun (M60 : zM) => [some (.ref 76), some (.int p1), some (.int p2), some (.int p3), some (.int x2), some (.int x4), some (.int x42), none, none]) (fun (M60 : zM) => []) (fun (M60 : zM) => (zY0, M60)) ?_ ?_
          · intro M60
            refine z_iinc 187 (v := (x42 + (1 : Int32))) (L' := [some (.ref 76), some (.int p1), some (.int p2), some (.int p3), some (.int x2), some (.int x4), some (.int (x42 + (1 : Int32))), none, none]) dX11_layPairings_187 rfl (zinc zci_1 _) (by decide) rfl ?_
            refine z_goto 190 28 dX11_layPairings_190 (by decide) ?_
            exact zk_weak (L' := [some (.ref 76), some (.int p1), some (.int p2), some (.int p3), some (.int x2), some (.int x4), some (.int (x42 + (1 : Int32))), none, none]) (zLe_s (zLe_s (zLe_s (zLe_s (zLe_s (zLe_s (zLe_s (zLe_n (zLe_n zLe_nl))))))))) (hrec44 ((x42 + (1 : Int32)), M60))
          · refine zk_weak (L' := [some (.ref 76), some (.int p1), some (.int p2), some (.int p3), some (.int x2), some (.int x4), some (.int x42), some (.int x48), some (.int (0 : Int32))]) (zLe_s (zLe_s (zLe_s (zLe_s (zLe_s (zLe_s (zLe_s (zLe_s (zLe_s zLe_nl))))))))) (zk_lp (α := Int32 × zM) 114 (fun (u58 : Int32 × zM) => match u58 with | (x55, M56) => [some (.ref 76), some (.int p1), some (.int p2), some (.int p3), some (.int x2), some (.int x4), some (.int x42), some (.int x48), some (.int x55)]) (fun (u59 : Int32 × zM) => match u59 with | (x55, M56) => (zY0, M56)) ?_ zFu ((0 : Int32), M54))
            intro rec57 hrec57
            intro u67
            obtain ⟨x55, M56⟩ := u67
            try dsimp only
            refine z_iload 114 dX11_layPairings_114 rfl ?_
            refine z_iload 116 dX11_layPairings_116 rfl ?_
            refine z_icge 118 187 dX11_layPairings_118 (by decide) (fun _ => ?_) (fun _ => ?_)
            · exact zk_exitw (L' := [some (.ref 76), some (.int p1), some (.int p2), some (.int p3), some (.int x2), some (.int x4), some (.int x42), none, none]) (zLe_s (zLe_s (zLe_s (zLe_s (zLe_s (zLe_s (zLe_s (zLe_n (zLe_n zLe_nl))))))))) (fun h => h)
            · refine z_iload 121 dX11_layPairings_121 rfl ?_
              refine z_iload 123 dX11_layPairings_123 rfl ?_
              refine z_ishr 125 dX11_layPairings_125 ?_
              refine z_iconst 126 dX11_layPairings_126 zci_1 ?_
              refine z_iand 127 dX11_layPairings_127 ?_
              refine zk_sqj (α := zM) 181 (fun (M63 : zM) => [some (.ref 76), some (.int p1), some (.int p2), some (.int p3), some (.int x2), some (.int x4), some (.int x42), some (.int x48), some (.int x55)]) (fun (M63 : zM) => []) (fun (M63 : zM) => (zY0, M63)) ?_ ?_
              · intro M63
                refine z_iinc 181 (v := (x55 + (1 : Int32))) (L' := [some (.ref 76), some (.int p1), some (.int p2), some (.int p3), some (.int x2), some (.int x4), some (.int x42), some (.int x48), some (.int (x55 + (1 : Int32)))]) dX11_layPairings_181 rfl (zinc zci_1 _) (by decide) rfl ?_
                refine z_goto 184 114 dX11_layPairings_184 (by decide) ?_
                exact zk_weak (L' := [some (.ref 76), some (.int p1), some (.int p2), some (.int p3), some (.int x2), some (.int x4), some (.int x42), some (.int x48), some (.int (x55 + (1 : Int32)))]) (zLe_s (zLe_s (zLe_s (zLe_s (zLe_s (zLe_s (zLe_s (zLe_s (zLe_s zLe_nl))))))))) (hrec57 ((x55 + (1 : Int32)), M63))
              · refine z_ifne 128 181 dX11_layPairings_128 (by decide) (fun _ => ?_) (fun _ => ?_)
                · refine z_aload_n 131 dX11_layPairings_131 rfl ?_
                  refine z_iload 132 dX11_layPairings_132 rfl ?_
                  refine z_iload 134 dX11_layPairings_134 rfl ?_
                  refine z_iload_n 136 dX11_layPairings_136 rfl ?_
                  refine z_iload_n 137 dX11_layPairings_137 rfl ?_
                  refine z_iload_n 138 dX11_layPairings_138 rfl ?_
                  refine z_cb (zat_V5 139 dX11_layPairings_139 lk_X11_226 zy_76 rfl rfl ⟨Nat.le_of_ble_eq_true rfl, Nat.le_of_ble_eq_true rfl⟩ (Nat.le_of_ble_eq_true rfl)) (tX11_may E x4 x55 p1 p2 p3 M56) (fun b64 => ?_)
                  refine z_ifeqb 142 181 dX11_layPairings_142 (by decide) (fun _ => ?_) (fun _ => ?_)
                  · exact zk_exitw (L' := [some (.ref 76), some (.int p1), some (.int p2), some (.int p3), some (.int x2), some (.int x4), some (.int x42), some (.int x48), some (.int x55)]) (zLe_s (zLe_s (zLe_s (zLe_s (zLe_s (zLe_s (zLe_s (zLe_s (zLe_s zLe_nl))))))))) (fun h => h)
                  · refine z_aload_n 145 dX11_layPairings_145 rfl ?_
                    refine z_iload 146 dX11_layPairings_146 rfl ?_
                    refine z_sipush 148 dX11_layPairings_148 zsp_1024 ?_
                    refine z_iload 151 dX11_layPairings_151 rfl ?_
                    refine z_iconst 153 dX11_layPairings_153 zci_1 ?_
                    refine z_iadd 154 dX11_layPairings_154 ?_
                    refine z_imul 155 dX11_layPairings_155 ?_
                    refine z_iload 156 dX11_layPairings_156 rfl ?_
                    refine z_iconst 158 dX11_layPairings_158 zci_1 ?_
                    refine z_iload 159 dX11_layPairings_159 rfl ?_
                    refine z_ishl 161 dX11_layPairings_161 ?_
                    refine z_ior 162 dX11_layPairings_162 ?_
                    refine z_iadd 163 dX11_layPairings_163 ?_
                    refine z_aload_n 164 dX11_layPairings_164 rfl ?_
                    refine z_getR 165 (r := 85) dX11_layPairings_165 fl_X11_34 zy_76 rfl ?_
                    refine z_bipush 168 dX11_layPairings_168 zbp_10 ?_
                    refine z_iload 170 dX11_layPairings_170 rfl ?_
                    refine z_imul 172 dX11_layPairings_172 ?_
                    refine z_iload 173 dX11_layPairings_173 rfl ?_
                    refine z_iadd 175 dX11_layPairings_175 ?_
                    refine z_iaload 176 dX11_layPairings_176 zy_85 ?_
                    refine z_iconst 177 dX11_layPairings_177 zci_1 ?_
                    refine z_cV (zat_V4 178 dX11_layPairings_178 lk_X11_230 zy_76 rfl rfl ⟨Nat.le_of_ble_eq_true rfl, Nat.le_of_ble_eq_true rfl⟩ (Nat.le_of_ble_eq_true rfl)) (tX11_takeIn E x48 (((1024 : Int32) * (x4 + (1 : Int32))) + (x42 ||| ((1 : Int32) <<< (x55 &&& 31)))) (M56.1 85 (zn (((10 : Int32) * x4) + x55))) (1 : Int32) M56) (fun M65 => ?_)
                    exact zk_exitw (L' := [some (.ref 76), some (.int p1), some (.int p2), some (.int p3), some (.int x2), some (.int x4), some (.int x42), some (.int x48), some (.int x55)]) (zLe_s (zLe_s (zLe_s (zLe_s (zLe_s (zLe_s (zLe_s (zLe_s (zLe_s zLe_nl))))))))) (fun h => h)
                · exact zk_exitw (L' := [some (.ref 76), some (.int p1), some (.int p2), some (.int p3), some (.int x2), some (.int x4), some (.int x42), some (.int x48), some (.int x55)]) (zLe_s (zLe_s (zLe_s (zLe_s (zLe_s (zLe_s (zLe_s (zLe_s (zLe_s zLe_nl))))))))) (fun h => h)
        · refine z_ifeqb 83 111 dX11_layPairings_83 (by decide) (fun _ => ?_) (fun _ => ?_)
          · exact zk_exitw (L' := [some (.ref 76), some (.int p1), some (.int p2), some (.int p3), some (.int x2), some (.int x4), some (.int x42), some (.int x48), none]) (zLe_s (zLe_s (zLe_s (zLe_s (zLe_s (zLe_s (zLe_s (zLe_s (zLe_n zLe_nl))))))))) (fun h => h)
          · refine z_aload_n 86 dX11_layPairings_86 rfl ?_
            refine z_iload 87 dX11_layPairings_87 rfl ?_
            refine z_sipush 89 dX11_layPairings_89 zsp_1024 ?_
            refine z_iload 92 dX11_layPairings_92 rfl ?_
            refine z_iconst 94 dX11_layPairings_94 zci_1 ?_
            refine z_iadd 95 dX11_layPairings_95 ?_
            refine z_imul 96 dX11_layPairings_96 ?_
            refine z_iload 97 dX11_layPairings_97 rfl ?_
            refine z_iadd 99 dX11_layPairings_99 ?_
            refine z_aload_n 100 dX11_layPairings_100 rfl ?_
            refine z_getR 101 (r := 81) dX11_layPairings_101 fl_X11_22 zy_76 rfl ?_
            refine z_bipush 104 dX11_layPairings_104 zbp_7 ?_
            refine z_iaload 106 dX11_layPairings_106 zy_81 ?_
            refine z_iconst 107 dX11_layPairings_107 zci_0 ?_
            refine z_cV (zat_V4 108 dX11_layPairings_108 lk_X11_230 zy_76 rfl rfl ⟨Nat.le_of_ble_eq_true rfl, Nat.le_of_ble_eq_true rfl⟩ (Nat.le_of_ble_eq_true rfl)) (tX11_takeIn E x48 (((1024 : Int32) * (x4 + (1 : Int32))) + x42) (M51.1 81 (zn (7 : Int32))) (0 : Int32) M51) (fun M68 => ?_)
            exact zk_exitw (L' := [some (.ref 76), some (.int p1), some (.int p2), some (.int p3), some (.int x2), some (.int x4), some (.int x42), some (.int x48), none]) (zLe_s (zLe_s (zLe_s (zLe_s (zLe_s (zLe_s (zLe_s (zLe_s (zLe_n zLe_nl))))))))) (fun h => h)
def fX11_layAll (M : zM) : Option zM :=
  sq (fX11_layCosts (15 : Int32) M) (fun (M1 : zM) => sq (fX11_layPairings (0 : Int32) (0 : Int32) (0 : Int32) M1) (fun (M2 : zM) => some M2))
set_option maxHeartbeats 4000000 in
set_option maxRecDepth 100000 in
theorem tX11_layAll (E : zE)  (M : zM) : zFV E mX11_layAll [.ref 76] zY0 M (fX11_layAll M) := by
  refine zF_of (L := [some (.ref 76)]) plX11 (Nat.le_of_ble_eq_true rfl) rfl (fun post => ?_)
  unfold fX11_layAll
  refine z_aload_n 0 dX11_layAll_0 rfl ?_
  refine z_bipush 1 dX11_layAll_1 zbp_15 ?_
  refine z_cV (zat_V1 3 dX11_layAll_3 lk_X11_233 zy_76 rfl rfl ⟨Nat.le_of_ble_eq_true rfl, Nat.le_of_ble_eq_true rfl⟩ (Nat.le_of_ble_eq_true rfl)) (tX11_layCosts E (15 : Int32) M) (fun M1 => ?_)
  refine z_aload_n 6 dX11_layAll_6 rfl ?_
  refine z_iconst 7 dX11_layAll_7 zci_0 ?_
  refine z_iconst 8 dX11_layAll_8 zci_0 ?_
  refine z_iconst 9 dX11_layAll_9 zci_0 ?_
  refine z_cV (zat_V3 10 dX11_layAll_10 lk_X11_236 zy_76 rfl rfl ⟨Nat.le_of_ble_eq_true rfl, Nat.le_of_ble_eq_true rfl⟩ (Nat.le_of_ble_eq_true rfl)) (tX11_layPairings E (0 : Int32) (0 : Int32) (0 : Int32) M1) (fun M2 => ?_)
  exact z_return 13 dX11_layAll_13 rfl (fun h => h)
def fX11_best (p1 : Int32) (M : zM) : Option (Int64 × zM) :=
  lt (fX11_in p1.toInt64 (0 : Int64) (3 : Int64)) (fun (b1 : Bool) => if b1 = false then (some ((-1 : Int64), M)) else (sq (fX11_layAll M) (fun (M2 : zM) => if p1 = 0 then (grd (zix (0 : Int32) 11264) (some (((M2.1 86 (zn (0 : Int32)))).toInt64, M2))) else (if p1 = (1 : Int32) then (grd (zix (0 : Int32) 11264) (some ((M2.2 88 (zn (0 : Int32))), M2))) else (if p1 = (2 : Int32) then (grd (zix (0 : Int32) 11264) (some ((M2.2 87 (zn (0 : Int32))), M2))) else (grd (zix (7 : Int32) 30) (sq (fX11_linesOf (0 : Int32) (0 : Int32) M2) (fun (x3 : Int32) => grd (zix (8 : Int32) 30) (sq (fX11_linesOf (1 : Int32) (0 : Int32) M2) (fun (x4 : Int32) => some (((((M2.1 81 (zn (7 : Int32))) * x3) + ((M2.1 81 (zn (8 : Int32))) * x4))).toInt64, M2)))))))))))
set_option maxHeartbeats 4000000 in
set_option maxRecDepth 100000 in
theorem tX11_best (E : zE) (p1 : Int32) (M : zM) : zFJ E mX11_best [.ref 76, .int p1] zY0 M (fX11_best p1 M) := by
  refine zF_of (L := [some (.ref 76), some (.int p1)]) plX11 (Nat.le_of_ble_eq_true rfl) rfl (fun post => ?_)
  unfold fX11_best
  refine z_iload_n 0 dX11_best_0 rfl ?_
  refine z_i2l 1 dX11_best_1 ?_
  refine z_lconst 2 dX11_best_2 zlc_0 ?_
  refine z_ldc2 3 dX11_best_3 cw_X11_191 ?_
  refine z_ctb (zat_S3 6 dX11_best_6 lk_X11_85 ⟨Nat.le_of_ble_eq_true rfl, Nat.le_of_ble_eq_true rfl⟩ (Nat.le_of_ble_eq_true rfl)) (tX11_in E zY0 p1.toInt64 (0 : Int64) (3 : Int64) M) (fun b1 => ?_)
  refine z_ifneb 9 16 dX11_best_9 (by decide) (fun _ => ?_) (fun _ => ?_)
  · refine z_ldc2 12 dX11_best_12 cw_X11_240 ?_
    exact z_lreturn 15 dX11_best_15 rfl (fun h => h)
  · refine z_aload_n 16 dX11_best_16 rfl ?_
    refine z_cV (zat_V0 17 dX11_best_17 lk_X11_242 zy_76 rfl rfl ⟨Nat.le_of_ble_eq_true rfl, Nat.le_of_ble_eq_true rfl⟩ (Nat.le_of_ble_eq_true rfl)) (tX11_layAll E M) (fun M2 => ?_)
    refine z_iload_n 20 dX11_best_20 rfl ?_
    refine z_ifne 21 34 dX11_best_21 (by decide) (fun _ => ?_) (fun _ => ?_)
    · refine z_aload_n 24 dX11_best_24 rfl ?_
      refine z_getR 25 (r := 86) dX11_best_25 fl_X11_37 zy_76 rfl ?_
      refine z_iconst 28 dX11_best_28 zci_0 ?_
      refine z_iaload 29 dX11_best_29 zy_86 ?_
      refine z_i2l 30 dX11_best_30 ?_
      refine z_goto 31 92 dX11_best_31 (by decide) ?_
      exact z_lreturn 92 dX11_best_92 rfl (fun h => h)
    · refine z_iload_n 34 dX11_best_34 rfl ?_
      refine z_iconst 35 dX11_best_35 zci_1 ?_
      refine z_icne 36 48 dX11_best_36 (by decide) (fun _ => ?_) (fun _ => ?_)
      · refine z_aload_n 39 dX11_best_39 rfl ?_
        refine z_getR 40 (r := 88) dX11_best_40 fl_X11_44 zy_76 rfl ?_
        refine z_iconst 43 dX11_best_43 zci_0 ?_
        refine z_laload 44 dX11_best_44 zy_88 ?_
        refine z_goto 45 92 dX11_best_45 (by decide) ?_
        exact z_lreturn 92 dX11_best_92 rfl (fun h => h)
      · refine z_iload_n 48 dX11_best_48 rfl ?_
        refine z_iconst 49 dX11_best_49 zci_2 ?_
        refine z_icne 50 62 dX11_best_50 (by decide) (fun _ => ?_) (fun _ => ?_)
        · refine z_aload_n 53 dX11_best_53 rfl ?_
          refine z_getR 54 (r := 87) dX11_best_54 fl_X11_40 zy_76 rfl ?_
          refine z_iconst 57 dX11_best_57 zci_0 ?_
          refine z_laload 58 dX11_best_58 zy_87 ?_
          refine z_goto 59 92 dX11_best_59 (by decide) ?_
          exact z_lreturn 92 dX11_best_92 rfl (fun h => h)
        · refine z_aload_n 62 dX11_best_62 rfl ?_
          refine z_getR 63 (r := 81) dX11_best_63 fl_X11_22 zy_76 rfl ?_
          refine z_bipush 66 dX11_best_66 zbp_7 ?_
          refine z_iaload 68 dX11_best_68 zy_81 ?_
          refine z_aload_n 69 dX11_best_69 rfl ?_
          refine z_iconst 70 dX11_best_70 zci_0 ?_
          refine z_iconst 71 dX11_best_71 zci_0 ?_
          refine z_ci (zat_V2 72 dX11_best_72 lk_X11_164 zy_76 rfl rfl ⟨Nat.le_of_ble_eq_true rfl, Nat.le_of_ble_eq_true rfl⟩ (Nat.le_of_ble_eq_true rfl)) (tX11_linesOf E (0 : Int32) (0 : Int32) M2) (fun x3 => ?_)
          refine z_imul 75 dX11_best_75 ?_
          refine z_aload_n 76 dX11_best_76 rfl ?_
          refine z_getR 77 (r := 81) dX11_best_77 fl_X11_22 zy_76 rfl ?_
          refine z_bipush 80 dX11_best_80 zbp_8 ?_
          refine z_iaload 82 dX11_best_82 zy_81 ?_
          refine z_aload_n 83 dX11_best_83 rfl ?_
          refine z_iconst 84 dX11_best_84 zci_1 ?_
          refine z_iconst 85 dX11_best_85 zci_0 ?_
          refine z_ci (zat_V2 86 dX11_best_86 lk_X11_164 zy_76 rfl rfl ⟨Nat.le_of_ble_eq_true rfl, Nat.le_of_ble_eq_true rfl⟩ (Nat.le_of_ble_eq_true rfl)) (tX11_linesOf E (1 : Int32) (0 : Int32) M2) (fun x4 => ?_)
          refine z_imul 89 dX11_best_89 ?_
          refine z_iadd 90 dX11_best_90 ?_
          refine z_i2l 91 dX11_best_91 ?_
          exact z_lreturn 92 dX11_best_92 rfl (fun h => h)
def fX11_layFirst (a1 : Nat) (M : zM) : Option zM :=
  zlp (α := Int32 × Int32 × zM) (fun rec65 => (fun (u88 : Int32 × Int32 × zM) => match u88 with | (x62, x63, M64) => if (10 : Int32) ≤ x63 then (some M64) else (grd (zix x63 10) (lt (zwI M64 a1 (zn x63) (-4 : Int32)) (fun (M68 : zM) => sq (α := zM) (zlp (α := Int32 × zM) (β := zM) (fun rec71 => (fun (u86 : Int32 × zM) => match u86 with | (x69, M70) => sq (fX11_linesOf (1 : Int32) (0 : Int32) M70) (fun (x75 : Int32) => if x75 ≤ x69 then (some M70) else (sq (fX11_linesOf (0 : Int32) (0 : Int32) M70) (fun (x76 : Int32) => if x76 ≤ x63 then (some M70) else (grd (zix x63 10) (if (M70.1 a1 (zn x63)) = (-4 : Int32) then (sq (α := Bool) (jn (α := Unit) (fun (_ : Unit) => some false) (fun k83 => if ((x62 >>> (x69 &&& 31)) &&& (1 : Int32)) = 0 then (grd (zix (((10 : Int32) * x63) + x69) 100) (if (M70.1 85 (zn (((10 : Int32) * x63) + x69))) = (-4 : Int32) then (k83 ()) else (some true))) else (k83 ()))) (fun (b78 : Bool) => sq (α := Int32) (jn (α := Unit) (fun (_ : Unit) => some (-4 : Int32)) (fun k82 => if b78 = false then (k82 ()) else (grd (zix (((10 : Int32) * x63) + x69) 100) (grd (zix (((1024 : Int32) * (x63 + (1 : Int32))) + (x62 ||| ((1 : Int32) <<< (x69 &&& 31)))) 11264) (grd (zix (((1024 : Int32) * x63) + x62) 11264) (if ((M70.1 85 (zn (((10 : Int32) * x63) + x69))) + (M70.1 86 (zn (((1024 : Int32) * (x63 + (1 : Int32))) + (x62 ||| ((1 : Int32) <<< (x69 &&& 31))))))) = (M70.1 86 (zn (((1024 : Int32) * x63) + x62))) then (some x69) else (k82 ()))))))) (fun (x80 : Int32) => grd (zix x63 10) (lt (zwI M70 a1 (zn x63) x80) (fun (M81 : zM) => rec71 ((x69 + (1 : Int32)), M81)))))) else (some M70)))))))) zFu ((0 : Int32), M68)) (fun (M74 : zM) => grd (zix x63 10) (sq (α := Int32) (if (M74.1 a1 (zn x63)) = (-4 : Int32) then (some (0 : Int32)) else (grd (zix x63 10) (some ((1 : Int32) <<< ((M74.1 a1 (zn x63)) &&& 31))))) (fun (x84 : Int32) => lt ((x62 ||| x84)) (fun (x85 : Int32) => rec65 (x85, (x63 + (1 : Int32)), M74)))))))))) zFu ((0 : Int32), (0 : Int32), M)
set_option maxHeartbeats 4000000 in
set_option maxRecDepth 100000 in
theorem tX11_layFirst (E : zE) (a1 : Nat) (ha1 : zY0[a1]? = some (.inr (0, 10, []))) (M : zM) : zFV E mX11_layFirst [.ref 76, .ref a1] zY0 M (fX11_layFirst a1 M) := by
  refine zF_of (L := [some (.ref 76), some (.ref a1), none, none, none, none]) plX11 (Nat.le_of_ble_eq_true rfl) rfl (fun post => ?_)
  unfold fX11_layFirst
  refine z_iconst 0 dX11_layFirst_0 zci_0 ?_
  refine z_istore_n 1 (L' := [some (.ref 76), some (.ref a1), some (.int (0 : Int32)), none, none, none]) dX11_layFirst_1 (by decide) rfl ?_
  refine z_iconst 2 dX11_layFirst_2 zci_0 ?_
  refine z_istore_n 3 (L' := [some (.ref 76), some (.ref a1), some (.int (0 : Int32)), some (.int (0 : Int32)), none, none]) dX11_layFirst_3 (by decide) rfl ?_
  refine zk_weak (L' := [some (.ref 76), some (.ref a1), some (.int (0 : Int32)), some (.int (0 : Int32)), none, none]) (zLe_s (zLe_s (zLe_s (zLe_s (zLe_n (zLe_n zLe_nl)))))) (zk_lp (α := Int32 × Int32 × zM) 4 (fun (u66 : Int32 × Int32 × zM) => match u66 with | (x62, x63, M64) => [some (.ref 76), some (.ref a1), some (.int x62), some (.int x63), none, none]) (fun (u67 : Int32 × Int32 × zM) => match u67 with | (x62, x63, M64) => (zY0, M64)) ?_ zFu ((0 : Int32), (0 : Int32), M))
  intro rec65 hrec65
  intro u89
  obtain ⟨x62, x63, M64⟩ := u89
  try dsimp only
  refine z_iload_n 4 dX11_layFirst_4 rfl ?_
  refine z_bipush 5 dX11_layFirst_5 zbp_10 ?_
  refine z_icge 7 174 dX11_layFirst_7 (by decide) (fun _ => ?_) (fun _ => ?_)
  · exact z_return 174 dX11_layFirst_174 rfl (fun h => h)
  · refine z_aload_n 10 dX11_layFirst_10 rfl ?_
    refine z_iload_n 11 dX11_layFirst_11 rfl ?_
    refine z_bipush 12 dX11_layFirst_12 zbp_m4 ?_
    refine z_iastore 14 dX11_layFirst_14 ha1 ?_
    refine zk_nmM (fun M68 => ?_)
    refine z_iconst 15 dX11_layFirst_15 zci_0 ?_
    refine z_istore 16 (L' := [some (.ref 76), some (.ref a1), some (.int x62), some (.int x63), some (.int (0 : Int32)), none]) dX11_layFirst_16 (by decide) rfl ?_
    refine zk_sqj (α := zM) 148 (fun (M74 : zM) => [some (.ref 76), some (.ref a1), some (.int x62), some (.int x63), none, none]) (fun (M74 : zM) => []) (fun (M74 : zM) => (zY0, M74)) ?_ ?_
    · intro M74
      refine z_iload_n 148 dX11_layFirst_148 rfl ?_
      refine z_aload_n 149 dX11_layFirst_149 rfl ?_
      refine z_iload_n 150 dX11_layFirst_150 rfl ?_
      refine z_iaload 151 dX11_layFirst_151 ha1 ?_
      refine z_bipush 152 dX11_layFirst_152 zbp_m4 ?_
      refine zk_sqj (α := Int32) 166 (fun (x84 : Int32) => [some (.ref 76), some (.ref a1), none, some (.int x63), none, none]) (fun (x84 : Int32) => [.int x84, .int x62]) (fun (x84 : Int32) => (zY0, M74)) ?_ ?_
      · intro x84
        refine z_ior 166 dX11_layFirst_166 ?_
        refine zk_nmI (fun x85 => ?_)
        refine z_istore_n 167 (L' := [some (.ref 76), some (.ref a1), some (.int x85), some (.int x63), none, none]) dX11_layFirst_167 (by decide) rfl ?_
        refine z_iinc 168 (v := (x63 + (1 : Int32))) (L' := [some (.ref 76), some (.ref a1), some (.int x85), some (.int (x63 + (1 : Int32))), none, none]) dX11_layFirst_168 rfl (zinc zci_1 _) (by decide) rfl ?_
        refine z_goto 171 4 dX11_layFirst_171 (by decide) ?_
        exact zk_weak (L' := [some (.ref 76), some (.ref a1), some (.int x85), some (.int (x63 + (1 : Int32))), none, none]) (zLe_s (zLe_s (zLe_s (zLe_s (zLe_n (zLe_n zLe_nl)))))) (hrec65 (x85, (x63 + (1 : Int32)), M74))
      · refine z_icne 154 161 dX11_layFirst_154 (by decide) (fun _ => ?_) (fun _ => ?_)
        · refine z_iconst 157 dX11_layFirst_157 zci_0 ?_
          refine z_goto 158 166 dX11_layFirst_158 (by decide) ?_
          exact zk_exitw (L' := [some (.ref 76), some (.ref a1), none, some (.int x63), none, none]) (zLe_s (zLe_s (zLe_n (zLe_s (zLe_n (zLe_n zLe_nl)))))) (fun h => h)
        · refine z_iconst 161 dX11_layFirst_161 zci_1 ?_
          refine z_aload_n 162 dX11_layFirst_162 rfl ?_
          refine z_iload_n 163 dX11_layFirst_163 rfl ?_
          refine z_iaload 164 dX11_layFirst_164 ha1 ?_
          refine z_ishl 165 dX11_layFirst_165 ?_
          exact zk_exitw (L' := [some (.ref 76), some (.ref a1), none, some (.int x63), none, none]) (zLe_s (zLe_s (zLe_n (zLe_s (zLe_n (zLe_n zLe_nl)))))) (fun h => h)
    · refine zk_weak (L' := [some (.ref 76), some (.ref a1), some (.int x62), some (.int x63), some (.int (0 : Int32)), none]) (zLe_s (zLe_s (zLe_s (zLe_s (zLe_s (zLe_n zLe_nl)))))) (zk_lp (α := Int32 × zM) 18 (fun (u72 : Int32 × zM) => match u72 with | (x69, M70) => [some (.ref 76), some (.ref a1), some (.int x62), some (.int x63), some (.int x69), none]) (fun (u73 : Int32 × zM) => match u73 with | (x69, M70) => (zY0, M70)) ?_ zFu ((0 : Int32), M68))
      intro rec71 hrec71
      intro u87
      obtain ⟨x69, M70⟩ := u87
      try dsimp only
      refine z_iload 18 dX11_layFirst_18 rfl ?_
      refine z_aload_n 20 dX11_layFirst_20 rfl ?_
      refine z_iconst 21 dX11_layFirst_21 zci_1 ?_
      refine z_iconst 22 dX11_layFirst_22 zci_0 ?_
      refine z_ci (zat_V2 23 dX11_layFirst_23 lk_X11_164 zy_76 rfl rfl ⟨Nat.le_of_ble_eq_true rfl, Nat.le_of_ble_eq_true rfl⟩ (Nat.le_of_ble_eq_true rfl)) (tX11_linesOf E (1 : Int32) (0 : Int32) M70) (fun x75 => ?_)
      refine z_icge 26 148 dX11_layFirst_26 (by decide) (fun _ => ?_) (fun _ => ?_)
      · exact zk_exitw (L' := [some (.ref 76), some (.ref a1), some (.int x62), some (.int x63), none, none]) (zLe_s (zLe_s (zLe_s (zLe_s (zLe_n (zLe_n zLe_nl)))))) (fun h => h)
      · refine z_iload_n 29 dX11_layFirst_29 rfl ?_
        refine z_aload_n 30 dX11_layFirst_30 rfl ?_
        refine z_iconst 31 dX11_layFirst_31 zci_0 ?_
        refine z_iconst 32 dX11_layFirst_32 zci_0 ?_
        refine z_ci (zat_V2 33 dX11_layFirst_33 lk_X11_164 zy_76 rfl rfl ⟨Nat.le_of_ble_eq_true rfl, Nat.le_of_ble_eq_true rfl⟩ (Nat.le_of_ble_eq_true rfl)) (tX11_linesOf E (0 : Int32) (0 : Int32) M70) (fun x76 => ?_)
        refine z_icge 36 148 dX11_layFirst_36 (by decide) (fun _ => ?_) (fun _ => ?_)
        · exact zk_exitw (L' := [some (.ref 76), some (.ref a1), some (.int x62), some (.int x63), none, none]) (zLe_s (zLe_s (zLe_s (zLe_s (zLe_n (zLe_n zLe_nl)))))) (fun h => h)
        · refine z_aload_n 39 dX11_layFirst_39 rfl ?_
          refine z_iload_n 40 dX11_layFirst_40 rfl ?_
          refine z_iaload 41 dX11_layFirst_41 ha1 ?_
          refine z_bipush 42 dX11_layFirst_42 zbp_m4 ?_
          refine z_icne 44 148 dX11_layFirst_44 (by decide) (fun _ => ?_) (fun _ => ?_)
          · refine z_iload_n 47 dX11_layFirst_47 rfl ?_
            refine z_iload 48 dX11_layFirst_48 rfl ?_
            refine z_ishr 50 dX11_layFirst_50 ?_
            refine z_iconst 51 dX11_layFirst_51 zci_1 ?_
            refine z_iand 52 dX11_layFirst_52 ?_
            refine zk_sqj (α := Bool) 78 (fun (b78 : Bool) => [some (.ref 76), some (.ref a1), some (.int x62), some (.int x63), some (.int x69), none]) (fun (b78 : Bool) => [.int (zb b78)]) (fun (b78 : Bool) => (zY0, M70)) ?_ ?_
            · intro b78
              refine z_istore 78 (L' := [some (.ref 76), some (.ref a1), some (.int x62), some (.int x63), some (.int x69), some (.int (zb b78))]) dX11_layFirst_78 (by decide) rfl ?_
              refine z_aload_n 80 dX11_layFirst_80 rfl ?_
              refine z_iload_n 81 dX11_layFirst_81 rfl ?_
              refine z_iload 82 dX11_layFirst_82 rfl ?_
              refine zk_sqj (α := Int32) 141 (fun (x80 : Int32) => [some (.ref 76), some (.ref a1), some (.int x62), some (.int x63), some (.int x69), none]) (fun (x80 : Int32) => [.int x80, .int x63, .ref a1]) (fun (x80 : Int32) => (zY0, M70)) ?_ ?_
              · intro x80
                refine z_iastore 141 dX11_layFirst_141 ha1 ?_
                refine zk_nmM (fun M81 => ?_)
                refine z_iinc 142 (v := (x69 + (1 : Int32))) (L' := [some (.ref 76), some (.ref a1), some (.int x62), some (.int x63), some (.int (x69 + (1 : Int32))), none]) dX11_layFirst_142 rfl (zinc zci_1 _) (by decide) rfl ?_
                refine z_goto 145 18 dX11_layFirst_145 (by decide) ?_
                exact zk_weak (L' := [some (.ref 76), some (.ref a1), some (.int x62), some (.int x63), some (.int (x69 + (1 : Int32))), none]) (zLe_s (zLe_s (zLe_s (zLe_s (zLe_s (zLe_n zLe_nl)))))) (hrec71 ((x69 + (1 : Int32)), M81))
              · refine zk_jn (α := Unit) 139 (fun (_ : Unit) => [some (.ref 76), some (.ref a1), some (.int x62), some (.int x63), some (.int x69), none]) (fun (_ : Unit) => [.int x63, .ref a1]) (fun (_ : Unit) => (zY0, M70)) ?_ ?_
                · intro _
                  refine z_bipush 139 dX11_layFirst_139 zbp_m4 ?_
                  exact zk_exitw (L' := [some (.ref 76), some (.ref a1), some (.int x62), some (.int x63), some (.int x69), none]) (zLe_s (zLe_s (zLe_s (zLe_s (zLe_s (zLe_n zLe_nl)))))) (fun h => h)
                · intro k82 hk82
                  refine z_ifeqb 84 139 dX11_layFirst_84 (by decide) (fun _ => ?_) (fun _ => ?_)
                  · exact zk_weak (L' := [some (.ref 76), some (.ref a1), some (.int x62), some (.int x63), some (.int x69), none]) (zLe_s (zLe_s (zLe_s (zLe_s (zLe_s (zLe_n zLe_nl)))))) (hk82 ())
                  · refine z_aload_n 87 dX11_layFirst_87 rfl ?_
                    refine z_getR 88 (r := 85) dX11_layFirst_88 fl_X11_34 zy_76 rfl ?_
                    refine z_bipush 91 dX11_layFirst_91 zbp_10 ?_
                    refine z_iload_n 93 dX11_layFirst_93 rfl ?_
                    refine z_imul 94 dX11_layFirst_94 ?_
                    refine z_iload 95 dX11_layFirst_95 rfl ?_
                    refine z_iadd 97 dX11_layFirst_97 ?_
                    refine z_iaload 98 dX11_layFirst_98 zy_85 ?_
                    refine z_aload_n 99 dX11_layFirst_99 rfl ?_
                    refine z_getR 100 (r := 86) dX11_layFirst_100 fl_X11_37 zy_76 rfl ?_
                    refine z_sipush 103 dX11_layFirst_103 zsp_1024 ?_
                    refine z_iload_n 106 dX11_layFirst_106 rfl ?_
                    refine z_iconst 107 dX11_layFirst_107 zci_1 ?_
                    refine z_iadd 108 dX11_layFirst_108 ?_
                    refine z_imul 109 dX11_layFirst_109 ?_
                    refine z_iload_n 110 dX11_layFirst_110 rfl ?_
                    refine z_iconst 111 dX11_layFirst_111 zci_1 ?_
                    refine z_iload 112 dX11_layFirst_112 rfl ?_
                    refine z_ishl 114 dX11_layFirst_114 ?_
                    refine z_ior 115 dX11_layFirst_115 ?_
                    refine z_iadd 116 dX11_layFirst_116 ?_
                    refine z_iaload 117 dX11_layFirst_117 zy_86 ?_
                    refine z_iadd 118 dX11_layFirst_118 ?_
                    refine z_aload_n 119 dX11_layFirst_119 rfl ?_
                    refine z_getR 120 (r := 86) dX11_layFirst_120 fl_X11_37 zy_76 rfl ?_
                    refine z_sipush 123 dX11_layFirst_123 zsp_1024 ?_
                    refine z_iload_n 126 dX11_layFirst_126 rfl ?_
                    refine z_imul 127 dX11_layFirst_127 ?_
                    refine z_iload_n 128 dX11_layFirst_128 rfl ?_
                    refine z_iadd 129 dX11_layFirst_129 ?_
                    refine z_iaload 130 dX11_layFirst_130 zy_86 ?_
                    refine z_icne 131 139 dX11_layFirst_131 (by decide) (fun _ => ?_) (fun _ => ?_)
                    · refine z_iload 134 dX11_layFirst_134 rfl ?_
                      refine z_goto 136 141 dX11_layFirst_136 (by decide) ?_
                      exact zk_exitw (L' := [some (.ref 76), some (.ref a1), some (.int x62), some (.int x63), some (.int x69), none]) (zLe_s (zLe_s (zLe_s (zLe_s (zLe_s (zLe_n zLe_nl)))))) (fun h => h)
                    · exact zk_weak (L' := [some (.ref 76), some (.ref a1), some (.int x62), some (.int x63), some (.int x69), none]) (zLe_s (zLe_s (zLe_s (zLe_s (zLe_s (zLe_n zLe_nl)))))) (hk82 ())
            · refine zk_jn (α := Unit) 77 (fun (_ : Unit) => [some (.ref 76), some (.ref a1), some (.int x62), some (.int x63), some (.int x69), none]) (fun (_ : Unit) => []) (fun (_ : Unit) => (zY0, M70)) ?_ ?_
              · intro _
                refine z_iconst 77 dX11_layFirst_77 zci_0 ?_
                exact zk_exitw (L' := [some (.ref 76), some (.ref a1), some (.int x62), some (.int x63), some (.int x69), none]) (zLe_s (zLe_s (zLe_s (zLe_s (zLe_s (zLe_n zLe_nl)))))) (fun h => h)
              · intro k83 hk83
                refine z_ifne 53 77 dX11_layFirst_53 (by decide) (fun _ => ?_) (fun _ => ?_)
                · refine z_aload_n 56 dX11_layFirst_56 rfl ?_
                  refine z_getR 57 (r := 85) dX11_layFirst_57 fl_X11_34 zy_76 rfl ?_
                  refine z_bipush 60 dX11_layFirst_60 zbp_10 ?_
                  refine z_iload_n 62 dX11_layFirst_62 rfl ?_
                  refine z_imul 63 dX11_layFirst_63 ?_
                  refine z_iload 64 dX11_layFirst_64 rfl ?_
                  refine z_iadd 66 dX11_layFirst_66 ?_
                  refine z_iaload 67 dX11_layFirst_67 zy_85 ?_
                  refine z_bipush 68 dX11_layFirst_68 zbp_m4 ?_
                  refine z_iceq 70 77 dX11_layFirst_70 (by decide) (fun _ => ?_) (fun _ => ?_)
                  · exact zk_weak (L' := [some (.ref 76), some (.ref a1), some (.int x62), some (.int x63), some (.int x69), none]) (zLe_s (zLe_s (zLe_s (zLe_s (zLe_s (zLe_n zLe_nl)))))) (hk83 ())
                  · refine z_iconst 73 dX11_layFirst_73 zci_1 ?_
                    refine z_goto 74 78 dX11_layFirst_74 (by decide) ?_
                    exact zk_exitw (L' := [some (.ref 76), some (.ref a1), some (.int x62), some (.int x63), some (.int x69), none]) (zLe_s (zLe_s (zLe_s (zLe_s (zLe_s (zLe_n zLe_nl)))))) (fun h => h)
                · exact zk_weak (L' := [some (.ref 76), some (.ref a1), some (.int x62), some (.int x63), some (.int x69), none]) (zLe_s (zLe_s (zLe_s (zLe_s (zLe_s (zLe_n zLe_nl)))))) (hk83 ())
          · exact zk_exitw (L' := [some (.ref 76), some (.ref a1), some (.int x62), some (.int x63), none, none]) (zLe_s (zLe_s (zLe_s (zLe_s (zLe_n (zLe_n zLe_nl)))))) (fun h => h)
def fX11_first (p1 : Int32) (M : zM) : Option (Int32 × zM) :=
  sq (fX11_isLine (0 : Int32) p1 M) (fun (b1 : Bool) => if b1 = false then (some ((-1 : Int32), M)) else (sq (fX11_layAll M) (fun (M2 : zM) => sq (fX11_layFirst 91 M2) (fun (M3 : zM) => grd (zix p1 10) (some ((M3.1 91 (zn p1)), M3))))))
set_option maxHeartbeats 4000000 in
set_option maxRecDepth 100000 in
theorem tX11_first (E : zE) (p1 : Int32) (M : zM) : zFI E mX11_first [.ref 76, .int p1] zY0 M (fX11_first p1 M) := by
  refine zF_of (L := [some (.ref 76), some (.int p1)]) plX11 (Nat.le_of_ble_eq_true rfl) rfl (fun post => ?_)
  unfold fX11_first
  refine z_aload_n 0 dX11_first_0 rfl ?_
  refine z_iconst 1 dX11_first_1 zci_0 ?_
  refine z_iload_n 2 dX11_first_2 rfl ?_
  refine z_cb (zat_V2 3 dX11_first_3 lk_X11_177 zy_76 rfl rfl ⟨Nat.le_of_ble_eq_true rfl, Nat.le_of_ble_eq_true rfl⟩ (Nat.le_of_ble_eq_true rfl)) (tX11_isLine E (0 : Int32) p1 M) (fun b1 => ?_)
  refine z_ifneb 6 11 dX11_first_6 (by decide) (fun _ => ?_) (fun _ => ?_)
  · refine z_iconst 9 dX11_first_9 zci_m1 ?_
    exact z_ireturn 10 dX11_first_10 rfl rfl (fun h => h)
  · refine z_aload_n 11 dX11_first_11 rfl ?_
    refine z_cV (zat_V0 12 dX11_first_12 lk_X11_242 zy_76 rfl rfl ⟨Nat.le_of_ble_eq_true rfl, Nat.le_of_ble_eq_true rfl⟩ (Nat.le_of_ble_eq_true rfl)) (tX11_layAll E M) (fun M2 => ?_)
    refine z_aload_n 15 dX11_first_15 rfl ?_
    refine z_aload_n 16 dX11_first_16 rfl ?_
    refine z_getR 17 (r := 91) dX11_first_17 fl_X11_53 zy_76 rfl ?_
    refine z_cV (zat_V1 20 dX11_first_20 lk_X11_245 zy_76 rfl rfl ⟨Nat.le_of_ble_eq_true rfl, Nat.le_of_ble_eq_true rfl⟩ (Nat.le_of_ble_eq_true rfl)) (tX11_layFirst E 91 zy_91 M2) (fun M3 => ?_)
    refine z_aload_n 23 dX11_first_23 rfl ?_
    refine z_getR 24 (r := 91) dX11_first_24 fl_X11_53 zy_76 rfl ?_
    refine z_iload_n 27 dX11_first_27 rfl ?_
    refine z_iaload 28 dX11_first_28 zy_91 ?_
    exact z_ireturn 29 dX11_first_29 rfl rfl (fun h => h)
def fX11_sureOf (p1 : Int32) (p2 : Int32) (M : zM) : Option (Int32 × zM) :=
  sq (fX11_layPairings (0 : Int32) (0 : Int32) (0 : Int32) M) (fun (M1 : zM) => grd (zix (0 : Int32) 11264) (lt ((M1.1 86 (zn (0 : Int32)))) (fun (x2 : Int32) => sq (fX11_layPairings p1 p2 (1 : Int32) M1) (fun (M3 : zM) => grd (zix (((10 : Int32) * p1) + p2) 100) (if (M3.1 85 (zn (((10 : Int32) * p1) + p2))) = (-4 : Int32) then (some ((0 : Int32), M3)) else (grd (zix (0 : Int32) 11264) (if (M3.1 86 (zn (0 : Int32))) = x2 then (sq (fX11_layPairings p1 p2 (2 : Int32) M3) (fun (M4 : zM) => grd (zix (0 : Int32) 11264) (if (M4.1 86 (zn (0 : Int32))) ≤ x2 then (some ((1 : Int32), M4)) else (some ((2 : Int32), M4))))) else (some ((0 : Int32), M3)))))))))
set_option maxHeartbeats 4000000 in
set_option maxRecDepth 100000 in
theorem tX11_sureOf (E : zE) (p1 : Int32) (p2 : Int32) (M : zM) : zFI E mX11_sureOf [.ref 76, .int p1, .int p2] zY0 M (fX11_sureOf p1 p2 M) := by
  refine zF_of (L := [some (.ref 76), some (.int p1), some (.int p2), none]) plX11 (Nat.le_of_ble_eq_true rfl) rfl (fun post => ?_)
  unfold fX11_sureOf
  refine z_aload_n 0 dX11_sureOf_0 rfl ?_
  refine z_iconst 1 dX11_sureOf_1 zci_0 ?_
  refine z_iconst 2 dX11_sureOf_2 zci_0 ?_
  refine z_iconst 3 dX11_sureOf_3 zci_0 ?_
  refine z_cV (zat_V3 4 dX11_sureOf_4 lk_X11_236 zy_76 rfl rfl ⟨Nat.le_of_ble_eq_true rfl, Nat.le_of_ble_eq_true rfl⟩ (Nat.le_of_ble_eq_true rfl)) (tX11_layPairings E (0 : Int32) (0 : Int32) (0 : Int32) M) (fun M1 => ?_)
  refine z_aload_n 7 dX11_sureOf_7 rfl ?_
  refine z_getR 8 (r := 86) dX11_sureOf_8 fl_X11_37 zy_76 rfl ?_
  refine z_iconst 11 dX11_sureOf_11 zci_0 ?_
  refine z_iaload 12 dX11_sureOf_12 zy_86 ?_
  refine zk_nmI (fun x2 => ?_)
  refine z_istore_n 13 (L' := [some (.ref 76), some (.int p1), some (.int p2), some (.int x2)]) dX11_sureOf_13 (by decide) rfl ?_
  refine z_aload_n 14 dX11_sureOf_14 rfl ?_
  refine z_iload_n 15 dX11_sureOf_15 rfl ?_
  refine z_iload_n 16 dX11_sureOf_16 rfl ?_
  refine z_iconst 17 dX11_sureOf_17 zci_1 ?_
  refine z_cV (zat_V3 18 dX11_sureOf_18 lk_X11_236 zy_76 rfl rfl ⟨Nat.le_of_ble_eq_true rfl, Nat.le_of_ble_eq_true rfl⟩ (Nat.le_of_ble_eq_true rfl)) (tX11_layPairings E p1 p2 (1 : Int32) M1) (fun M3 => ?_)
  refine z_aload_n 21 dX11_sureOf_21 rfl ?_
  refine z_getR 22 (r := 85) dX11_sureOf_22 fl_X11_34 zy_76 rfl ?_
  refine z_bipush 25 dX11_sureOf_25 zbp_10 ?_
  refine z_iload_n 27 dX11_sureOf_27 rfl ?_
  refine z_imul 28 dX11_sureOf_28 ?_
  refine z_iload_n 29 dX11_sureOf_29 rfl ?_
  refine z_iadd 30 dX11_sureOf_30 ?_
  refine z_iaload 31 dX11_sureOf_31 zy_85 ?_
  refine z_bipush 32 dX11_sureOf_32 zbp_m4 ?_
  refine z_iceq 34 47 dX11_sureOf_34 (by decide) (fun _ => ?_) (fun _ => ?_)
  · refine z_iconst 47 dX11_sureOf_47 zci_0 ?_
    exact z_ireturn 48 dX11_sureOf_48 rfl rfl (fun h => h)
  · refine z_aload_n 37 dX11_sureOf_37 rfl ?_
    refine z_getR 38 (r := 86) dX11_sureOf_38 fl_X11_37 zy_76 rfl ?_
    refine z_iconst 41 dX11_sureOf_41 zci_0 ?_
    refine z_iaload 42 dX11_sureOf_42 zy_86 ?_
    refine z_iload_n 43 dX11_sureOf_43 rfl ?_
    refine z_iceq 44 49 dX11_sureOf_44 (by decide) (fun _ => ?_) (fun _ => ?_)
    · refine z_aload_n 49 dX11_sureOf_49 rfl ?_
      refine z_iload_n 50 dX11_sureOf_50 rfl ?_
      refine z_iload_n 51 dX11_sureOf_51 rfl ?_
      refine z_iconst 52 dX11_sureOf_52 zci_2 ?_
      refine z_cV (zat_V3 53 dX11_sureOf_53 lk_X11_236 zy_76 rfl rfl ⟨Nat.le_of_ble_eq_true rfl, Nat.le_of_ble_eq_true rfl⟩ (Nat.le_of_ble_eq_true rfl)) (tX11_layPairings E p1 p2 (2 : Int32) M3) (fun M4 => ?_)
      refine z_aload_n 56 dX11_sureOf_56 rfl ?_
      refine z_getR 57 (r := 86) dX11_sureOf_57 fl_X11_37 zy_76 rfl ?_
      refine z_iconst 60 dX11_sureOf_60 zci_0 ?_
      refine z_iaload 61 dX11_sureOf_61 zy_86 ?_
      refine z_iload_n 62 dX11_sureOf_62 rfl ?_
      refine z_icle 63 70 dX11_sureOf_63 (by decide) (fun _ => ?_) (fun _ => ?_)
      · refine z_iconst 70 dX11_sureOf_70 zci_1 ?_
        exact z_ireturn 71 dX11_sureOf_71 rfl rfl (fun h => h)
      · refine z_iconst 66 dX11_sureOf_66 zci_2 ?_
        refine z_goto 67 71 dX11_sureOf_67 (by decide) ?_
        exact z_ireturn 71 dX11_sureOf_71 rfl rfl (fun h => h)
    · refine z_iconst 47 dX11_sureOf_47 zci_0 ?_
      exact z_ireturn 48 dX11_sureOf_48 rfl rfl (fun h => h)
def fX11_sure (p1 : Int32) (p2 : Int32) (M : zM) : Option (Int32 × zM) :=
  sq (fX11_arePair p1 p2 M) (fun (b1 : Bool) => if b1 = false then (some ((-1 : Int32), M)) else (sq (fX11_layCosts (15 : Int32) M) (fun (M2 : zM) => bi (fX11_sureOf p1 p2 M2) (fun (x4 : Int32) (M3 : zM) => some (x4, M3)))))
set_option maxHeartbeats 4000000 in
set_option maxRecDepth 100000 in
theorem tX11_sure (E : zE) (p1 : Int32) (p2 : Int32) (M : zM) : zFI E mX11_sure [.ref 76, .int p1, .int p2] zY0 M (fX11_sure p1 p2 M) := by
  refine zF_of (L := [some (.ref 76), some (.int p1), some (.int p2)]) plX11 (Nat.le_of_ble_eq_true rfl) rfl (fun post => ?_)
  unfold fX11_sure
  refine z_aload_n 0 dX11_sure_0 rfl ?_
  refine z_iload_n 1 dX11_sure_1 rfl ?_
  refine z_iload_n 2 dX11_sure_2 rfl ?_
  refine z_cb (zat_V2 3 dX11_sure_3 lk_X11_195 zy_76 rfl rfl ⟨Nat.le_of_ble_eq_true rfl, Nat.le_of_ble_eq_true rfl⟩ (Nat.le_of_ble_eq_true rfl)) (tX11_arePair E p1 p2 M) (fun b1 => ?_)
  refine z_ifneb 6 11 dX11_sure_6 (by decide) (fun _ => ?_) (fun _ => ?_)
  · refine z_iconst 9 dX11_sure_9 zci_m1 ?_
    exact z_ireturn 10 dX11_sure_10 rfl rfl (fun h => h)
  · refine z_aload_n 11 dX11_sure_11 rfl ?_
    refine z_bipush 12 dX11_sure_12 zbp_15 ?_
    refine z_cV (zat_V1 14 dX11_sure_14 lk_X11_233 zy_76 rfl rfl ⟨Nat.le_of_ble_eq_true rfl, Nat.le_of_ble_eq_true rfl⟩ (Nat.le_of_ble_eq_true rfl)) (tX11_layCosts E (15 : Int32) M) (fun M2 => ?_)
    refine z_aload_n 17 dX11_sure_17 rfl ?_
    refine z_iload_n 18 dX11_sure_18 rfl ?_
    refine z_iload_n 19 dX11_sure_19 rfl ?_
    refine z_cI (zat_V2 20 dX11_sure_20 lk_X11_249 zy_76 rfl rfl ⟨Nat.le_of_ble_eq_true rfl, Nat.le_of_ble_eq_true rfl⟩ (Nat.le_of_ble_eq_true rfl)) (tX11_sureOf E p1 p2 M2) (fun x4 M3 => ?_)
    exact z_ireturn 23 dX11_sure_23 rfl rfl (fun h => h)
def fX11_lowest (p1 : Int64) (p2 : Int64) (p3 : Int32) : Option Int64 :=
  sq (α := Int64) (zlp (α := Int64 × Int64) (β := Int64) (fun rec3 => (fun (u10 : Int64 × Int64) => match u10 with | (x1, x2) => if x2 = (0 : Int64) then (some x1) else (grd (¬ x2 = 0) (lt ((zrm_l x1 x2)) (fun (x7 : Int64) => rec3 (x2, x7)))))) zFu (p1, p2)) (fun (x6 : Int64) => lt (if p3 = 0 then (p1) else (p2)) (fun (x8 : Int64) => grd (¬ x6 = 0) (some (x8 / x6))))
set_option maxHeartbeats 4000000 in
set_option maxRecDepth 100000 in
theorem tX11_lowest (E : zE) (Y : zY) (p1 : Int64) (p2 : Int64) (p3 : Int32) (M : zM) : zFj E mX11_lowest [.long p1, .long p2, .int p3] Y M (fX11_lowest p1 p2 p3) := by
  refine zF_of (L := [some (.long p1), none, some (.long p2), none, some (.int p3), none, none, none, none, none, none]) plX11 (Nat.le_of_ble_eq_true rfl) rfl (fun post => ?_)
  unfold fX11_lowest
  refine z_lload_n 0 dX11_lowest_0 rfl ?_
  refine z_lstore 1 (L' := [some (.long p1), none, some (.long p2), none, some (.int p3), some (.long p1), none, none, none, none, none]) dX11_lowest_1 (by decide) rfl ?_
  refine z_lload_n 3 dX11_lowest_3 rfl ?_
  refine z_lstore 4 (L' := [some (.long p1), none, some (.long p2), none, some (.int p3), some (.long p1), none, some (.long p2), none, none, none]) dX11_lowest_4 (by decide) rfl ?_
  refine zk_sqj (α := Int64) 31 (fun (x6 : Int64) => [some (.long p1), none, some (.long p2), none, some (.int p3), some (.long x6), none, none, none, none, none]) (fun (x6 : Int64) => []) (fun (x6 : Int64) => (Y, M)) ?_ ?_
  · intro x6
    refine z_iload 31 dX11_lowest_31 rfl ?_
    refine zk_ltj (α := Int64) 41 (fun (x8 : Int64) => [none, none, none, none, none, some (.long x6), none, none, none, none, none]) (fun (x8 : Int64) => [.long x8]) (fun (x8 : Int64) => (Y, M)) ?_ ?_
    · intro x8
      refine z_lload 41 dX11_lowest_41 rfl ?_
      refine z_ldiv 43 dX11_lowest_43 ?_
      exact z_lreturn 44 dX11_lowest_44 rfl (fun h => h)
    · intro k9 hk9
      refine z_ifnev 33 40 dX11_lowest_33 (by decide) ?_ ?_
      · refine z_lload_n 36 dX11_lowest_36 rfl ?_
        refine z_goto 37 41 dX11_lowest_37 (by decide) ?_
        exact zk_weak (L' := [none, none, none, none, none, some (.long x6), none, none, none, none, none]) (zLe_n (zLe_n (zLe_n (zLe_n (zLe_n (zLe_s (zLe_n (zLe_n (zLe_n (zLe_n (zLe_n zLe_nl))))))))))) (hk9 p1)
      · refine z_lload_n 40 dX11_lowest_40 rfl ?_
        exact zk_weak (L' := [none, none, none, none, none, some (.long x6), none, none, none, none, none]) (zLe_n (zLe_n (zLe_n (zLe_n (zLe_n (zLe_s (zLe_n (zLe_n (zLe_n (zLe_n (zLe_n zLe_nl))))))))))) (hk9 p2)
  · refine zk_weak (L' := [some (.long p1), none, some (.long p2), none, some (.int p3), some (.long p1), none, some (.long p2), none, none, none]) (zLe_s (zLe_n (zLe_s (zLe_n (zLe_s (zLe_s (zLe_n (zLe_s (zLe_n (zLe_n (zLe_n zLe_nl))))))))))) (zk_lp (α := Int64 × Int64) 6 (fun (u4 : Int64 × Int64) => match u4 with | (x1, x2) => [some (.long p1), none, some (.long p2), none, some (.int p3), some (.long x1), none, some (.long x2), none, none, none]) (fun (u5 : Int64 × Int64) => match u5 with | (x1, x2) => (Y, M)) ?_ zFu (p1, p2))
    intro rec3 hrec3
    intro u11
    obtain ⟨x1, x2⟩ := u11
    try dsimp only
    refine z_lload 6 dX11_lowest_6 rfl ?_
    refine z_lconst 8 dX11_lowest_8 zlc_0 ?_
    refine z_lcmp 9 dX11_lowest_9 ?_
    refine z_lceq 10 31 dX11_lowest_10 (by decide) (fun _ => ?_) (fun _ => ?_)
    · exact zk_exitw (L' := [some (.long p1), none, some (.long p2), none, some (.int p3), some (.long x1), none, none, none, none, none]) (zLe_s (zLe_n (zLe_s (zLe_n (zLe_s (zLe_s (zLe_n (zLe_n (zLe_n (zLe_n (zLe_n zLe_nl))))))))))) (fun h => h)
    · refine z_lload 13 dX11_lowest_13 rfl ?_
      refine z_lload 15 dX11_lowest_15 rfl ?_
      refine z_lrem 17 dX11_lowest_17 ?_
      refine zk_nmL (fun x7 => ?_)
      refine z_lstore 18 (L' := [some (.long p1), none, some (.long p2), none, some (.int p3), some (.long x1), none, some (.long x2), none, some (.long x7), none]) dX11_lowest_18 (by decide) rfl ?_
      refine z_lload 20 dX11_lowest_20 rfl ?_
      refine z_lstore 22 (L' := [some (.long p1), none, some (.long p2), none, some (.int p3), some (.long x2), none, some (.long x2), none, some (.long x7), none]) dX11_lowest_22 (by decide) rfl ?_
      refine z_lload 24 dX11_lowest_24 rfl ?_
      refine z_lstore 26 (L' := [some (.long p1), none, some (.long p2), none, some (.int p3), some (.long x2), none, some (.long x7), none, some (.long x7), none]) dX11_lowest_26 (by decide) rfl ?_
      refine z_goto 28 6 dX11_lowest_28 (by decide) ?_
      exact zk_weak (L' := [some (.long p1), none, some (.long p2), none, some (.int p3), some (.long x2), none, some (.long x7), none, none, none]) (zLe_s (zLe_n (zLe_s (zLe_n (zLe_s (zLe_s (zLe_n (zLe_s (zLe_n (zLe_n (zLe_n zLe_nl))))))))))) (hrec3 (x2, x7))
def fX11_share (p1 : Int32) (p2 : Int32) (p3 : Int32) (M : zM) : Option (Int64 × zM) :=
  sq (fX11_arePair p1 p2 M) (fun (b1 : Bool) => if b1 = false then (some ((-1 : Int64), M)) else (lt (fX11_in p3.toInt64 (0 : Int64) (1 : Int64)) (fun (b2 : Bool) => if b2 = false then (some ((-1 : Int64), M)) else (sq (fX11_layAll M) (fun (M3 : zM) => grd (zix (0 : Int32) 11264) (lt ((M3.2 87 (zn (0 : Int32)))) (fun (x4 : Int64) => sq (fX11_layPairings p1 p2 (1 : Int32) M3) (fun (M5 : zM) => grd (zix (((10 : Int32) * p1) + p2) 100) (sq (α := Int64) (if (M5.1 85 (zn (((10 : Int32) * p1) + p2))) = (-4 : Int32) then (some (0 : Int64)) else (grd (zix (0 : Int32) 11264) (some (M5.2 87 (zn (0 : Int32)))))) (fun (x6 : Int64) => sq (fX11_lowest x6 x4 p3) (fun (x7 : Int64) => some (x7, M5))))))))))))
set_option maxHeartbeats 4000000 in
set_option maxRecDepth 100000 in
theorem tX11_share (E : zE) (p1 : Int32) (p2 : Int32) (p3 : Int32) (M : zM) : zFJ E mX11_share [.ref 76, .int p1, .int p2, .int p3] zY0 M (fX11_share p1 p2 p3 M) := by
  refine zF_of (L := [some (.ref 76), some (.int p1), some (.int p2), some (.int p3), none, none]) plX11 (Nat.le_of_ble_eq_true rfl) rfl (fun post => ?_)
  unfold fX11_share
  refine z_aload_n 0 dX11_share_0 rfl ?_
  refine z_iload_n 1 dX11_share_1 rfl ?_
  refine z_iload_n 2 dX11_share_2 rfl ?_
  refine z_cb (zat_V2 3 dX11_share_3 lk_X11_195 zy_76 rfl rfl ⟨Nat.le_of_ble_eq_true rfl, Nat.le_of_ble_eq_true rfl⟩ (Nat.le_of_ble_eq_true rfl)) (tX11_arePair E p1 p2 M) (fun b1 => ?_)
  refine z_ifeqb 6 19 dX11_share_6 (by decide) (fun _ => ?_) (fun _ => ?_)
  · refine z_ldc2 19 dX11_share_19 cw_X11_240 ?_
    exact z_lreturn 22 dX11_share_22 rfl (fun h => h)
  · refine z_iload_n 9 dX11_share_9 rfl ?_
    refine z_i2l 10 dX11_share_10 ?_
    refine z_lconst 11 dX11_share_11 zlc_0 ?_
    refine z_lconst 12 dX11_share_12 zlc_1 ?_
    refine z_ctb (zat_S3 13 dX11_share_13 lk_X11_85 ⟨Nat.le_of_ble_eq_true rfl, Nat.le_of_ble_eq_true rfl⟩ (Nat.le_of_ble_eq_true rfl)) (tX11_in E zY0 p3.toInt64 (0 : Int64) (1 : Int64) M) (fun b2 => ?_)
    refine z_ifneb 16 23 dX11_share_16 (by decide) (fun _ => ?_) (fun _ => ?_)
    · refine z_ldc2 19 dX11_share_19 cw_X11_240 ?_
      exact z_lreturn 22 dX11_share_22 rfl (fun h => h)
    · refine z_aload_n 23 dX11_share_23 rfl ?_
      refine z_cV (zat_V0 24 dX11_share_24 lk_X11_242 zy_76 rfl rfl ⟨Nat.le_of_ble_eq_true rfl, Nat.le_of_ble_eq_true rfl⟩ (Nat.le_of_ble_eq_true rfl)) (tX11_layAll E M) (fun M3 => ?_)
      refine z_aload_n 27 dX11_share_27 rfl ?_
      refine z_getR 28 (r := 87) dX11_share_28 fl_X11_40 zy_76 rfl ?_
      refine z_iconst 31 dX11_share_31 zci_0 ?_
      refine z_laload 32 dX11_share_32 zy_87 ?_
      refine zk_nmL (fun x4 => ?_)
      refine z_lstore 33 (L' := [some (.ref 76), some (.int p1), some (.int p2), some (.int p3), some (.long x4), none]) dX11_share_33 (by decide) rfl ?_
      refine z_aload_n 35 dX11_share_35 rfl ?_
      refine z_iload_n 36 dX11_share_36 rfl ?_
      refine z_iload_n 37 dX11_share_37 rfl ?_
      refine z_iconst 38 dX11_share_38 zci_1 ?_
      refine z_cV (zat_V3 39 dX11_share_39 lk_X11_236 zy_76 rfl rfl ⟨Nat.le_of_ble_eq_true rfl, Nat.le_of_ble_eq_true rfl⟩ (Nat.le_of_ble_eq_true rfl)) (tX11_layPairings E p1 p2 (1 : Int32) M3) (fun M5 => ?_)
      refine z_aload_n 42 dX11_share_42 rfl ?_
      refine z_getR 43 (r := 85) dX11_share_43 fl_X11_34 zy_76 rfl ?_
      refine z_bipush 46 dX11_share_46 zbp_10 ?_
      refine z_iload_n 48 dX11_share_48 rfl ?_
      refine z_imul 49 dX11_share_49 ?_
      refine z_iload_n 50 dX11_share_50 rfl ?_
      refine z_iadd 51 dX11_share_51 ?_
      refine z_iaload 52 dX11_share_52 zy_85 ?_
      refine z_bipush 53 dX11_share_53 zbp_m4 ?_
      refine zk_sqj (α := Int64) 68 (fun (x6 : Int64) => [none, none, none, some (.int p3), some (.long x4), none]) (fun (x6 : Int64) => [.long x6]) (fun (x6 : Int64) => (zY0, M5)) ?_ ?_
      · intro x6
        refine z_lload 68 dX11_share_68 rfl ?_
        refine z_iload_n 70 dX11_share_70 rfl ?_
        refine z_cj (zat_S3 71 dX11_share_71 lk_X11_252 ⟨Nat.le_of_ble_eq_true rfl, Nat.le_of_ble_eq_true rfl⟩ (Nat.le_of_ble_eq_true rfl)) (tX11_lowest E zY0 x6 x4 p3 M5) (fun x7 => ?_)
        exact z_lreturn 74 dX11_share_74 rfl (fun h => h)
      · refine z_icne 55 62 dX11_share_55 (by decide) (fun _ => ?_) (fun _ => ?_)
        · refine z_lconst 58 dX11_share_58 zlc_0 ?_
          refine z_goto 59 68 dX11_share_59 (by decide) ?_
          exact zk_exitw (L' := [none, none, none, some (.int p3), some (.long x4), none]) (zLe_n (zLe_n (zLe_n (zLe_s (zLe_s (zLe_n zLe_nl)))))) (fun h => h)
        · refine z_aload_n 62 dX11_share_62 rfl ?_
          refine z_getR 63 (r := 87) dX11_share_63 fl_X11_40 zy_76 rfl ?_
          refine z_iconst 66 dX11_share_66 zci_0 ?_
          refine z_laload 67 dX11_share_67 zy_87 ?_
          exact zk_exitw (L' := [none, none, none, some (.int p3), some (.long x4), none]) (zLe_n (zLe_n (zLe_n (zLe_s (zLe_s (zLe_n zLe_nl)))))) (fun h => h)
def fX11_ifMust (p1 : Int32) (p2 : Int32) (p3 : Int32) (M : zM) : Option (Int32 × zM) :=
  sq (fX11_arePair p1 p2 M) (fun (b1 : Bool) => if b1 = false then (some ((-1 : Int32), M)) else (sq (fX11_layAll M) (fun (M2 : zM) => grd (zix (0 : Int32) 11264) (lt ((M2.1 86 (zn (0 : Int32)))) (fun (x3 : Int32) => jn (α := Unit) (fun (_ : Unit) => lt (if p3 = 0 then ((2 : Int32)) else ((1 : Int32))) (fun (x4 : Int32) => sq (fX11_layPairings p1 p2 x4 M2) (fun (M5 : zM) => grd (zix (0 : Int32) 11264) (some (((M5.1 86 (zn (0 : Int32))) - x3), M5))))) (fun k7 => if p3 = 0 then (k7 ()) else (grd (zix (((10 : Int32) * p1) + p2) 100) (if (M2.1 85 (zn (((10 : Int32) * p1) + p2))) = (-4 : Int32) then (some ((-4 : Int32), M2)) else (k7 ())))))))))
set_option maxHeartbeats 4000000 in
set_option maxRecDepth 100000 in
theorem tX11_ifMust (E : zE) (p1 : Int32) (p2 : Int32) (p3 : Int32) (M : zM) : zFI E mX11_ifMust [.ref 76, .int p1, .int p2, .int p3] zY0 M (fX11_ifMust p1 p2 p3 M) := by
  refine zF_of (L := [some (.ref 76), some (.int p1), some (.int p2), some (.int p3), none]) plX11 (Nat.le_of_ble_eq_true rfl) rfl (fun post => ?_)
  unfold fX11_ifMust
  refine z_aload_n 0 dX11_ifMust_0 rfl ?_
  refine z_iload_n 1 dX11_ifMust_1 rfl ?_
  refine z_iload_n 2 dX11_ifMust_2 rfl ?_
  refine z_cb (zat_V2 3 dX11_ifMust_3 lk_X11_195 zy_76 rfl rfl ⟨Nat.le_of_ble_eq_true rfl, Nat.le_of_ble_eq_true rfl⟩ (Nat.le_of_ble_eq_true rfl)) (tX11_arePair E p1 p2 M) (fun b1 => ?_)
  refine z_ifneb 6 11 dX11_ifMust_6 (by decide) (fun _ => ?_) (fun _ => ?_)
  · refine z_iconst 9 dX11_ifMust_9 zci_m1 ?_
    exact z_ireturn 10 dX11_ifMust_10 rfl rfl (fun h => h)
  · refine z_aload_n 11 dX11_ifMust_11 rfl ?_
    refine z_cV (zat_V0 12 dX11_ifMust_12 lk_X11_242 zy_76 rfl rfl ⟨Nat.le_of_ble_eq_true rfl, Nat.le_of_ble_eq_true rfl⟩ (Nat.le_of_ble_eq_true rfl)) (tX11_layAll E M) (fun M2 => ?_)
    refine z_aload_n 15 dX11_ifMust_15 rfl ?_
    refine z_getR 16 (r := 86) dX11_ifMust_16 fl_X11_37 zy_76 rfl ?_
    refine z_iconst 19 dX11_ifMust_19 zci_0 ?_
    refine z_iaload 20 dX11_ifMust_20 zy_86 ?_
    refine zk_nmI (fun x3 => ?_)
    refine z_istore 21 (L' := [some (.ref 76), some (.int p1), some (.int p2), some (.int p3), some (.int x3)]) dX11_ifMust_21 (by decide) rfl ?_
    refine z_iload_n 23 dX11_ifMust_23 rfl ?_
    refine zk_jn (α := Unit) 46 (fun (_ : Unit) => [some (.ref 76), some (.int p1), some (.int p2), some (.int p3), some (.int x3)]) (fun (_ : Unit) => []) (fun (_ : Unit) => (zY0, M2)) ?_ ?_
    · intro _
      refine z_aload_n 46 dX11_ifMust_46 rfl ?_
      refine z_iload_n 47 dX11_ifMust_47 rfl ?_
      refine z_iload_n 48 dX11_ifMust_48 rfl ?_
      refine z_iload_n 49 dX11_ifMust_49 rfl ?_
      refine zk_ltj (α := Int32) 58 (fun (x4 : Int32) => [some (.ref 76), none, none, none, some (.int x3)]) (fun (x4 : Int32) => [.int x4, .int p2, .int p1, .ref 76]) (fun (x4 : Int32) => (zY0, M2)) ?_ ?_
      · intro x4
        refine z_cV (zat_V3 58 dX11_ifMust_58 lk_X11_236 zy_76 rfl rfl ⟨Nat.le_of_ble_eq_true rfl, Nat.le_of_ble_eq_true rfl⟩ (Nat.le_of_ble_eq_true rfl)) (tX11_layPairings E p1 p2 x4 M2) (fun M5 => ?_)
        refine z_aload_n 61 dX11_ifMust_61 rfl ?_
        refine z_getR 62 (r := 86) dX11_ifMust_62 fl_X11_37 zy_76 rfl ?_
        refine z_iconst 65 dX11_ifMust_65 zci_0 ?_
        refine z_iaload 66 dX11_ifMust_66 zy_86 ?_
        refine z_iload 67 dX11_ifMust_67 rfl ?_
        refine z_isub 69 dX11_ifMust_69 ?_
        exact z_ireturn 70 dX11_ifMust_70 rfl rfl (fun h => h)
      · intro k6 hk6
        refine z_ifeqv 50 57 dX11_ifMust_50 (by decide) ?_ ?_
        · refine z_iconst 57 dX11_ifMust_57 zci_2 ?_
          exact zk_weak (L' := [some (.ref 76), none, none, none, some (.int x3)]) (zLe_s (zLe_n (zLe_n (zLe_n (zLe_s zLe_nl))))) (hk6 (2 : Int32))
        · refine z_iconst 53 dX11_ifMust_53 zci_1 ?_
          refine z_goto 54 58 dX11_ifMust_54 (by decide) ?_
          exact zk_weak (L' := [some (.ref 76), none, none, none, some (.int x3)]) (zLe_s (zLe_n (zLe_n (zLe_n (zLe_s zLe_nl))))) (hk6 (1 : Int32))
    · intro k7 hk7
      refine z_ifeq 24 46 dX11_ifMust_24 (by decide) (fun _ => ?_) (fun _ => ?_)
      · exact zk_weak (L' := [some (.ref 76), some (.int p1), some (.int p2), some (.int p3), some (.int x3)]) (zLe_s (zLe_s (zLe_s (zLe_s (zLe_s zLe_nl))))) (hk7 ())
      · refine z_aload_n 27 dX11_ifMust_27 rfl ?_
        refine z_getR 28 (r := 85) dX11_ifMust_28 fl_X11_34 zy_76 rfl ?_
        refine z_bipush 31 dX11_ifMust_31 zbp_10 ?_
        refine z_iload_n 33 dX11_ifMust_33 rfl ?_
        refine z_imul 34 dX11_ifMust_34 ?_
        refine z_iload_n 35 dX11_ifMust_35 rfl ?_
        refine z_iadd 36 dX11_ifMust_36 ?_
        refine z_iaload 37 dX11_ifMust_37 zy_85 ?_
        refine z_bipush 38 dX11_ifMust_38 zbp_m4 ?_
        refine z_icne 40 46 dX11_ifMust_40 (by decide) (fun _ => ?_) (fun _ => ?_)
        · refine z_bipush 43 dX11_ifMust_43 zbp_m4 ?_
          exact z_ireturn 45 dX11_ifMust_45 rfl rfl (fun h => h)
        · exact zk_weak (L' := [some (.ref 76), some (.int p1), some (.int p2), some (.int p3), some (.int x3)]) (zLe_s (zLe_s (zLe_s (zLe_s (zLe_s zLe_nl))))) (hk7 ())
def fX11_alone (p1 : Int32) (p2 : Int32) (M : zM) : Option (Int32 × zM) :=
  lt (fX11_isEnd p1) (fun (b1 : Bool) => if b1 = false then (some ((-1 : Int32), M)) else (lt (fX11_in p2.toInt64 (0 : Int64) (2 : Int64)) (fun (b2 : Bool) => if b2 = false then (some ((-1 : Int32), M)) else (sq (fX11_layAll M) (fun (M3 : zM) => grd (zix (0 : Int32) 11264) (lt ((M3.1 86 (zn (0 : Int32)))) (fun (x4 : Int32) => grd (zix (0 : Int32) 11264) (lt ((M3.2 88 (zn (0 : Int32)))) (fun (x5 : Int64) => grd (zix (0 : Int32) 11264) (lt ((M3.2 87 (zn (0 : Int32)))) (fun (x6 : Int64) => zlp (α := Int32 × Int32 × zM) (fun rec40 => (fun (u57 : Int32 × Int32 × zM) => match u57 with | (x37, x38, M39) => sq (fX11_linesOf p1 (0 : Int32) M39) (fun (x43 : Int32) => if x43 ≤ x38 then (some (x37, M39)) else (lt (if p1 = 0 then ((3 : Int32)) else ((4 : Int32))) (fun (x44 : Int32) => sq (fX11_layPairings x38 x38 x44 M39) (fun (M45 : zM) => sq (α := Bool) (if p2 = (2 : Int32) then (grd (zix (0 : Int32) 11264) (if (M45.2 87 (zn (0 : Int32))) = x6 then (some true) else (some false))) else (grd (zix (0 : Int32) 11264) (jn (α := Unit) (fun (_ : Unit) => some false) (fun k54 => if (M45.1 86 (zn (0 : Int32))) = x4 then (jn (α := Unit) (fun (_ : Unit) => some true) (fun k55 => if p2 = (1 : Int32) then (k55 ()) else (grd (zix (0 : Int32) 11264) (if (M45.2 88 (zn (0 : Int32))) = x5 then (k55 ()) else (k54 ()))))) else (k54 ()))))) (fun (b49 : Bool) => lt (if b49 = false then ((0 : Int32)) else (((1 : Int32) <<< (x38 &&& 31)))) (fun (x50 : Int32) => lt ((x37 ||| x50)) (fun (x51 : Int32) => rec40 (x51, (x38 + (1 : Int32)), M45)))))))))) zFu ((0 : Int32), (0 : Int32), M3))))))))))))
set_option maxHeartbeats 4000000 in
set_option maxRecDepth 100000 in
theorem tX11_alone (E : zE) (p1 : Int32) (p2 : Int32) (M : zM) : zFI E mX11_alone [.ref 76, .int p1, .int p2] zY0 M (fX11_alone p1 p2 M) := by
  refine zF_of (L := [some (.ref 76), some (.int p1), some (.int p2), none, none, none, none, none, none, none, none]) plX11 (Nat.le_of_ble_eq_true rfl) rfl (fun post => ?_)
  unfold fX11_alone
  refine z_iload_n 0 dX11_alone_0 rfl ?_
  refine z_ctb (zat_S1 1 dX11_alone_1 lk_X11_161 ⟨Nat.le_of_ble_eq_true rfl, Nat.le_of_ble_eq_true rfl⟩ (Nat.le_of_ble_eq_true rfl)) (tX11_isEnd E zY0 p1 M) (fun b1 => ?_)
  refine z_ifeqb 4 19 dX11_alone_4 (by decide) (fun _ => ?_) (fun _ => ?_)
  · refine z_iconst 19 dX11_alone_19 zci_m1 ?_
    exact z_ireturn 20 dX11_alone_20 rfl rfl (fun h => h)
  · refine z_iload_n 7 dX11_alone_7 rfl ?_
    refine z_i2l 8 dX11_alone_8 ?_
    refine z_lconst 9 dX11_alone_9 zlc_0 ?_
    refine z_ldc2 10 dX11_alone_10 cw_X11_185 ?_
    refine z_ctb (zat_S3 13 dX11_alone_13 lk_X11_85 ⟨Nat.le_of_ble_eq_true rfl, Nat.le_of_ble_eq_true rfl⟩ (Nat.le_of_ble_eq_true rfl)) (tX11_in E zY0 p2.toInt64 (0 : Int64) (2 : Int64) M) (fun b2 => ?_)
    refine z_ifneb 16 21 dX11_alone_16 (by decide) (fun _ => ?_) (fun _ => ?_)
    · refine z_iconst 19 dX11_alone_19 zci_m1 ?_
      exact z_ireturn 20 dX11_alone_20 rfl rfl (fun h => h)
    · refine z_aload_n 21 dX11_alone_21 rfl ?_
      refine z_cV (zat_V0 22 dX11_alone_22 lk_X11_242 zy_76 rfl rfl ⟨Nat.le_of_ble_eq_true rfl, Nat.le_of_ble_eq_true rfl⟩ (Nat.le_of_ble_eq_true rfl)) (tX11_layAll E M) (fun M3 => ?_)
      refine z_aload_n 25 dX11_alone_25 rfl ?_
      refine z_getR 26 (r := 86) dX11_alone_26 fl_X11_37 zy_76 rfl ?_
      refine z_iconst 29 dX11_alone_29 zci_0 ?_
      refine z_iaload 30 dX11_alone_30 zy_86 ?_
      refine zk_nmI (fun x4 => ?_)
      refine z_istore_n 31 (L' := [some (.ref 76), some (.int p1), some (.int p2), some (.int x4), none, none, none, none, none, none, none]) dX11_alone_31 (by decide) rfl ?_
      refine z_aload_n 32 dX11_alone_32 rfl ?_
      refine z_getR 33 (r := 88) dX11_alone_33 fl_X11_44 zy_76 rfl ?_
      refine z_iconst 36 dX11_alone_36 zci_0 ?_
      refine z_laload 37 dX11_alone_37 zy_88 ?_
      refine zk_nmL (fun x5 => ?_)
      refine z_lstore 38 (L' := [some (.ref 76), some (.int p1), some (.int p2), some (.int x4), some (.long x5), none, none, none, none, none, none]) dX11_alone_38 (by decide) rfl ?_
      refine z_aload_n 40 dX11_alone_40 rfl ?_
      refine z_getR 41 (r := 87) dX11_alone_41 fl_X11_40 zy_76 rfl ?_
      refine z_iconst 44 dX11_alone_44 zci_0 ?_
      refine z_laload 45 dX11_alone_45 zy_87 ?_
      refine zk_nmL (fun x6 => ?_)
      refine z_lstore 46 (L' := [some (.ref 76), some (.int p1), some (.int p2), some (.int x4), some (.long x5), none, some (.long x6), none, none, none, none]) dX11_alone_46 (by decide) rfl ?_
      refine z_iconst 48 dX11_alone_48 zci_0 ?_
      refine z_istore 49 (L' := [some (.ref 76), some (.int p1), some (.int p2), some (.int x4), some (.long x5), none, some (.long x6), none, some (.int (0 : Int32)), none, none]) dX11_alone_49 (by decide) rfl ?_
      refine z_iconst 51 dX11_alone_51 zci_0 ?_
      refine z_istore 52 (L' := [some (.ref 76), some (.int p1), some (.int p2), some (.int x4), some (.long x5), none, some (.long x6), none, some (.int (0 : Int32)), some (.int (0 : Int32)), none]) dX11_alone_52 (by decide) rfl ?_
      refine zk_weak (L' := [some (.ref 76), some (.int p1), some (.int p2), some (.int x4), some (.long x5), none, some (.long x6), none, some (.int (0 : Int32)), some (.int (0 : Int32)), none]) (zLe_s (zLe_s (zLe_s (zLe_s (zLe_s (zLe_n (zLe_s (zLe_n (zLe_s (zLe_s (zLe_n zLe_nl))))))))))) (zk_lp (α := Int32 × Int32 × zM) 54 (fun (u41 : Int32 × Int32 × zM) => match u41 with | (x37, x38, M39) => [some (.ref 76), some (.int p1), some (.int p2), some (.int x4), some (.long x5), none, some (.long x6), none, some (.int x37), some (.int x38), none]) (fun (u42 : Int32 × Int32 × zM) => match u42 with | (x37, x38, M39) => (zY0, M39)) ?_ zFu ((0 : Int32), (0 : Int32), M3))
      intro rec40 hrec40
      intro u58
      obtain ⟨x37, x38, M39⟩ := u58
      try dsimp only
      refine z_iload 54 dX11_alone_54 rfl ?_
      refine z_aload_n 56 dX11_alone_56 rfl ?_
      refine z_iload_n 57 dX11_alone_57 rfl ?_
      refine z_iconst 58 dX11_alone_58 zci_0 ?_
      refine z_ci (zat_V2 59 dX11_alone_59 lk_X11_164 zy_76 rfl rfl ⟨Nat.le_of_ble_eq_true rfl, Nat.le_of_ble_eq_true rfl⟩ (Nat.le_of_ble_eq_true rfl)) (tX11_linesOf E p1 (0 : Int32) M39) (fun x43 => ?_)
      refine z_icge 62 165 dX11_alone_62 (by decide) (fun _ => ?_) (fun _ => ?_)
      · refine z_iload 165 dX11_alone_165 rfl ?_
        exact z_ireturn 167 dX11_alone_167 rfl rfl (fun h => h)
      · refine z_aload_n 65 dX11_alone_65 rfl ?_
        refine z_iload 66 dX11_alone_66 rfl ?_
        refine z_iload 68 dX11_alone_68 rfl ?_
        refine z_iload_n 70 dX11_alone_70 rfl ?_
        refine zk_ltj (α := Int32) 79 (fun (x44 : Int32) => [some (.ref 76), some (.int p1), some (.int p2), some (.int x4), some (.long x5), none, some (.long x6), none, some (.int x37), some (.int x38), none]) (fun (x44 : Int32) => [.int x44, .int x38, .int x38, .ref 76]) (fun (x44 : Int32) => (zY0, M39)) ?_ ?_
        · intro x44
          refine z_cV (zat_V3 79 dX11_alone_79 lk_X11_236 zy_76 rfl rfl ⟨Nat.le_of_ble_eq_true rfl, Nat.le_of_ble_eq_true rfl⟩ (Nat.le_of_ble_eq_true rfl)) (tX11_layPairings E x38 x38 x44 M39) (fun M45 => ?_)
          refine z_iload_n 82 dX11_alone_82 rfl ?_
          refine z_iconst 83 dX11_alone_83 zci_2 ?_
          refine zk_sqj (α := Bool) 139 (fun (b49 : Bool) => [some (.ref 76), some (.int p1), some (.int p2), some (.int x4), some (.long x5), none, some (.long x6), none, some (.int x37), some (.int x38), none]) (fun (b49 : Bool) => [.int (zb b49)]) (fun (b49 : Bool) => (zY0, M45)) ?_ ?_
          · intro b49
            refine z_istore 139 (L' := [some (.ref 76), some (.int p1), some (.int p2), some (.int x4), some (.long x5), none, some (.long x6), none, some (.int x37), some (.int x38), some (.int (zb b49))]) dX11_alone_139 (by decide) rfl ?_
            refine z_iload 141 dX11_alone_141 rfl ?_
            refine z_iload 143 dX11_alone_143 rfl ?_
            refine zk_ltj (α := Int32) 156 (fun (x50 : Int32) => [some (.ref 76), some (.int p1), some (.int p2), some (.int x4), some (.long x5), none, some (.long x6), none, none, some (.int x38), none]) (fun (x50 : Int32) => [.int x50, .int x37]) (fun (x50 : Int32) => (zY0, M45)) ?_ ?_
            · intro x50
              refine z_ior 156 dX11_alone_156 ?_
              refine zk_nmI (fun x51 => ?_)
              refine z_istore 157 (L' := [some (.ref 76), some (.int p1), some (.int p2), some (.int x4), some (.long x5), none, some (.long x6), none, some (.int x51), some (.int x38), none]) dX11_alone_157 (by decide) rfl ?_
              refine z_iinc 159 (v := (x38 + (1 : Int32))) (L' := [some (.ref 76), some (.int p1), some (.int p2), some (.int x4), some (.long x5), none, some (.long x6), none, some (.int x51), some (.int (x38 + (1 : Int32))), none]) dX11_alone_159 rfl (zinc zci_1 _) (by decide) rfl ?_
              refine z_goto 162 54 dX11_alone_162 (by decide) ?_
              exact zk_weak (L' := [some (.ref 76), some (.int p1), some (.int p2), some (.int x4), some (.long x5), none, some (.long x6), none, some (.int x51), some (.int (x38 + (1 : Int32))), none]) (zLe_s (zLe_s (zLe_s (zLe_s (zLe_s (zLe_n (zLe_s (zLe_n (zLe_s (zLe_s (zLe_n zLe_nl))))))))))) (hrec40 (x51, (x38 + (1 : Int32)), M45))
            · intro k52 hk52
              refine z_ifeqbv 145 155 dX11_alone_145 (by decide) ?_ ?_
              · refine z_iconst 155 dX11_alone_155 zci_0 ?_
                exact zk_weak (L' := [some (.ref 76), some (.int p1), some (.int p2), some (.int x4), some (.long x5), none, some (.long x6), none, none, some (.int x38), none]) (zLe_s (zLe_s (zLe_s (zLe_s (zLe_s (zLe_n (zLe_s (zLe_n (zLe_n (zLe_s (zLe_n zLe_nl))))))))))) (hk52 (0 : Int32))
              · refine z_iconst 148 dX11_alone_148 zci_1 ?_
                refine z_iload 149 dX11_alone_149 rfl ?_
                refine z_ishl 151 dX11_alone_151 ?_
                refine z_goto 152 156 dX11_alone_152 (by decide) ?_
                exact zk_weak (L' := [some (.ref 76), some (.int p1), some (.int p2), some (.int x4), some (.long x5), none, some (.long x6), none, none, some (.int x38), none]) (zLe_s (zLe_s (zLe_s (zLe_s (zLe_s (zLe_n (zLe_s (zLe_n (zLe_n (zLe_s (zLe_n zLe_nl))))))))))) (hk52 ((1 : Int32) <<< (x38 &&& 31)))
          · refine z_icne 84 107 dX11_alone_84 (by decide) (fun _ => ?_) (fun _ => ?_)
            · refine z_aload_n 87 dX11_alone_87 rfl ?_
              refine z_getR 88 (r := 87) dX11_alone_88 fl_X11_40 zy_76 rfl ?_
              refine z_iconst 91 dX11_alone_91 zci_0 ?_
              refine z_laload 92 dX11_alone_92 zy_87 ?_
              refine z_lload 93 dX11_alone_93 rfl ?_
              refine z_lcmp 95 dX11_alone_95 ?_
              refine z_lcne 96 103 dX11_alone_96 (by decide) (fun _ => ?_) (fun _ => ?_)
              · refine z_iconst 99 dX11_alone_99 zci_1 ?_
                refine z_goto 100 139 dX11_alone_100 (by decide) ?_
                exact zk_exitw (L' := [some (.ref 76), some (.int p1), some (.int p2), some (.int x4), some (.long x5), none, some (.long x6), none, some (.int x37), some (.int x38), none]) (zLe_s (zLe_s (zLe_s (zLe_s (zLe_s (zLe_n (zLe_s (zLe_n (zLe_s (zLe_s (zLe_n zLe_nl))))))))))) (fun h => h)
              · refine z_iconst 103 dX11_alone_103 zci_0 ?_
                refine z_goto 104 139 dX11_alone_104 (by decide) ?_
                exact zk_exitw (L' := [some (.ref 76), some (.int p1), some (.int p2), some (.int x4), some (.long x5), none, some (.long x6), none, some (.int x37), some (.int x38), none]) (zLe_s (zLe_s (zLe_s (zLe_s (zLe_s (zLe_n (zLe_s (zLe_n (zLe_s (zLe_s (zLe_n zLe_nl))))))))))) (fun h => h)
            · refine z_aload_n 107 dX11_alone_107 rfl ?_
              refine z_getR 108 (r := 86) dX11_alone_108 fl_X11_37 zy_76 rfl ?_
              refine z_iconst 111 dX11_alone_111 zci_0 ?_
              refine z_iaload 112 dX11_alone_112 zy_86 ?_
              refine z_iload_n 113 dX11_alone_113 rfl ?_
              refine zk_jn (α := Unit) 138 (fun (_ : Unit) => [some (.ref 76), some (.int p1), some (.int p2), some (.int x4), some (.long x5), none, some (.long x6), none, some (.int x37), some (.int x38), none]) (fun (_ : Unit) => []) (fun (_ : Unit) => (zY0, M45)) ?_ ?_
              · intro _
                refine z_iconst 138 dX11_alone_138 zci_0 ?_
                exact zk_exitw (L' := [some (.ref 76), some (.int p1), some (.int p2), some (.int x4), some (.long x5), none, some (.long x6), none, some (.int x37), some (.int x38), none]) (zLe_s (zLe_s (zLe_s (zLe_s (zLe_s (zLe_n (zLe_s (zLe_n (zLe_s (zLe_s (zLe_n zLe_nl))))))))))) (fun h => h)
              · intro k54 hk54
                refine z_icne 114 138 dX11_alone_114 (by decide) (fun _ => ?_) (fun _ => ?_)
                · refine z_iload_n 117 dX11_alone_117 rfl ?_
                  refine z_iconst 118 dX11_alone_118 zci_1 ?_
                  refine zk_jn (α := Unit) 134 (fun (_ : Unit) => [some (.ref 76), some (.int p1), some (.int p2), some (.int x4), some (.long x5), none, some (.long x6), none, some (.int x37), some (.int x38), none]) (fun (_ : Unit) => []) (fun (_ : Unit) => (zY0, M45)) ?_ ?_
                  · intro _
                    refine z_iconst 134 dX11_alone_134 zci_1 ?_
                    refine z_goto 135 139 dX11_alone_135 (by decide) ?_
                    exact zk_exitw (L' := [some (.ref 76), some (.int p1), some (.int p2), some (.int x4), some (.long x5), none, some (.long x6), none, some (.int x37), some (.int x38), none]) (zLe_s (zLe_s (zLe_s (zLe_s (zLe_s (zLe_n (zLe_s (zLe_n (zLe_s (zLe_s (zLe_n zLe_nl))))))))))) (fun h => h)
                  · intro k55 hk55
                    refine z_iceq 119 134 dX11_alone_119 (by decide) (fun _ => ?_) (fun _ => ?_)
                    · exact zk_weak (L' := [some (.ref 76), some (.int p1), some (.int p2), some (.int x4), some (.long x5), none, some (.long x6), none, some (.int x37), some (.int x38), none]) (zLe_s (zLe_s (zLe_s (zLe_s (zLe_s (zLe_n (zLe_s (zLe_n (zLe_s (zLe_s (zLe_n zLe_nl))))))))))) (hk55 ())
                    · refine z_aload_n 122 dX11_alone_122 rfl ?_
                      refine z_getR 123 (r := 88) dX11_alone_123 fl_X11_44 zy_76 rfl ?_
                      refine z_iconst 126 dX11_alone_126 zci_0 ?_
                      refine z_laload 127 dX11_alone_127 zy_88 ?_
                      refine z_lload 128 dX11_alone_128 rfl ?_
                      refine z_lcmp 130 dX11_alone_130 ?_
                      refine z_lcne 131 138 dX11_alone_131 (by decide) (fun _ => ?_) (fun _ => ?_)
                      · exact zk_weak (L' := [some (.ref 76), some (.int p1), some (.int p2), some (.int x4), some (.long x5), none, some (.long x6), none, some (.int x37), some (.int x38), none]) (zLe_s (zLe_s (zLe_s (zLe_s (zLe_s (zLe_n (zLe_s (zLe_n (zLe_s (zLe_s (zLe_n zLe_nl))))))))))) (hk55 ())
                      · exact zk_weak (L' := [some (.ref 76), some (.int p1), some (.int p2), some (.int x4), some (.long x5), none, some (.long x6), none, some (.int x37), some (.int x38), none]) (zLe_s (zLe_s (zLe_s (zLe_s (zLe_s (zLe_n (zLe_s (zLe_n (zLe_s (zLe_s (zLe_n zLe_nl))))))))))) (hk54 ())
                · exact zk_weak (L' := [some (.ref 76), some (.int p1), some (.int p2), some (.int x4), some (.long x5), none, some (.long x6), none, some (.int x37), some (.int x38), none]) (zLe_s (zLe_s (zLe_s (zLe_s (zLe_s (zLe_n (zLe_s (zLe_n (zLe_s (zLe_s (zLe_n zLe_nl))))))))))) (hk54 ())
        · intro k56 hk56
          refine z_ifnev 71 78 dX11_alone_71 (by decide) ?_ ?_
          · refine z_iconst 74 dX11_alone_74 zci_3 ?_
            refine z_goto 75 79 dX11_alone_75 (by decide) ?_
            exact zk_weak (L' := [some (.ref 76), some (.int p1), some (.int p2), some (.int x4), some (.long x5), none, some (.long x6), none, some (.int x37), some (.int x38), none]) (zLe_s (zLe_s (zLe_s (zLe_s (zLe_s (zLe_n (zLe_s (zLe_n (zLe_s (zLe_s (zLe_n zLe_nl))))))))))) (hk56 (3 : Int32))
          · refine z_iconst 78 dX11_alone_78 zci_4 ?_
            exact zk_weak (L' := [some (.ref 76), some (.int p1), some (.int p2), some (.int x4), some (.long x5), none, some (.long x6), none, some (.int x37), some (.int x38), none]) (zLe_s (zLe_s (zLe_s (zLe_s (zLe_s (zLe_n (zLe_s (zLe_n (zLe_s (zLe_s (zLe_n zLe_nl))))))))))) (hk56 (4 : Int32))
def fX11_many (p1 : Int32) (M : zM) : Option (Int32 × zM) :=
  lt (fX11_in p1.toInt64 (0 : Int64) (1 : Int64)) (fun (b1 : Bool) => if b1 = false then (some ((-1 : Int32), M)) else (sq (fX11_layAll M) (fun (M2 : zM) => if p1 = 0 then (grd (zix (0 : Int32) 11264) (some ((M2.1 89 (zn (0 : Int32))), M2))) else (grd (zix (0 : Int32) 11264) (some ((M2.1 90 (zn (0 : Int32))), M2))))))
set_option maxHeartbeats 4000000 in
set_option maxRecDepth 100000 in
theorem tX11_many (E : zE) (p1 : Int32) (M : zM) : zFI E mX11_many [.ref 76, .int p1] zY0 M (fX11_many p1 M) := by
  refine zF_of (L := [some (.ref 76), some (.int p1)]) plX11 (Nat.le_of_ble_eq_true rfl) rfl (fun post => ?_)
  unfold fX11_many
  refine z_iload_n 0 dX11_many_0 rfl ?_
  refine z_i2l 1 dX11_many_1 ?_
  refine z_lconst 2 dX11_many_2 zlc_0 ?_
  refine z_lconst 3 dX11_many_3 zlc_1 ?_
  refine z_ctb (zat_S3 4 dX11_many_4 lk_X11_85 ⟨Nat.le_of_ble_eq_true rfl, Nat.le_of_ble_eq_true rfl⟩ (Nat.le_of_ble_eq_true rfl)) (tX11_in E zY0 p1.toInt64 (0 : Int64) (1 : Int64) M) (fun b1 => ?_)
  refine z_ifneb 7 12 dX11_many_7 (by decide) (fun _ => ?_) (fun _ => ?_)
  · refine z_iconst 10 dX11_many_10 zci_m1 ?_
    exact z_ireturn 11 dX11_many_11 rfl rfl (fun h => h)
  · refine z_aload_n 12 dX11_many_12 rfl ?_
    refine z_cV (zat_V0 13 dX11_many_13 lk_X11_242 zy_76 rfl rfl ⟨Nat.le_of_ble_eq_true rfl, Nat.le_of_ble_eq_true rfl⟩ (Nat.le_of_ble_eq_true rfl)) (tX11_layAll E M) (fun M2 => ?_)
    refine z_iload_n 16 dX11_many_16 rfl ?_
    refine z_ifne 17 29 dX11_many_17 (by decide) (fun _ => ?_) (fun _ => ?_)
    · refine z_aload_n 20 dX11_many_20 rfl ?_
      refine z_getR 21 (r := 89) dX11_many_21 fl_X11_47 zy_76 rfl ?_
      refine z_iconst 24 dX11_many_24 zci_0 ?_
      refine z_iaload 25 dX11_many_25 zy_89 ?_
      refine z_goto 26 35 dX11_many_26 (by decide) ?_
      exact z_ireturn 35 dX11_many_35 rfl rfl (fun h => h)
    · refine z_aload_n 29 dX11_many_29 rfl ?_
      refine z_getR 30 (r := 90) dX11_many_30 fl_X11_50 zy_76 rfl ?_
      refine z_iconst 33 dX11_many_33 zci_0 ?_
      refine z_iaload 34 dX11_many_34 zy_90 ?_
      exact z_ireturn 35 dX11_many_35 rfl rfl (fun h => h)
def fX11_ways (p1 : Int32) (M : zM) : Option (Int64 × zM) :=
  lt (fX11_in p1.toInt64 (0 : Int64) (10 : Int64)) (fun (b1 : Bool) => if b1 = false then (some ((-1 : Int64), M)) else (sq (fX11_layCosts (15 : Int32) M) (fun (M2 : zM) => sq (fX11_linesOf (1 : Int32) (0 : Int32) M2) (fun (x3 : Int32) => sq (α := zM) (zlp (α := Int32 × zM) (β := zM) (fun rec14 => (fun (u107 : Int32 × zM) => match u107 with | (x12, M13) => if ((1 : Int32) <<< (x3 &&& 31)) ≤ x12 then (some M13) else (lt (if x12 = 0 then ((1 : Int64)) else ((0 : Int64))) (fun (x18 : Int64) => grd (zix x12 1024) (lt (zwL M13 93 (zn x12) x18) (fun (M19 : zM) => rec14 ((x12 + (1 : Int32)), M19))))))) zFu ((0 : Int32), M2)) (fun (M17 : zM) => sq (α := zM) (zlp (α := Int32 × zM) (β := zM) (fun rec60 => (fun (u105 : Int32 × zM) => match u105 with | (x58, M59) => sq (fX11_linesOf (0 : Int32) (0 : Int32) M59) (fun (x64 : Int32) => if x64 ≤ x58 then (some M59) else (lt ((((1 : Int32) <<< (x3 &&& 31)) - (1 : Int32))) (fun (x65 : Int32) => sq (α := zM) (zlp (α := Int32 × zM) (β := zM) (fun rec68 => (fun (u85 : Int32 × zM) => match u85 with | (x66, M67) => if x66 < 0 then (some M67) else (sq (α := zM) (zlp (α := Int32 × zM) (β := zM) (fun rec74 => (fun (u83 : Int32 × zM) => match u83 with | (x72, M73) => if x3 ≤ x72 then (some M73) else (sq (α := Bool) (jn (α := Unit) (fun (_ : Unit) => some false) (fun k82 => if ((x66 >>> (x72 &&& 31)) &&& (1 : Int32)) = (1 : Int32) then (grd (zix (((10 : Int32) * x58) + x72) 100) (if (M73.1 85 (zn (((10 : Int32) * x58) + x72))) = (-4 : Int32) then (k82 ()) else (some true))) else (k82 ()))) (fun (b79 : Bool) => grd (zix x66 1024) (sq (α := Int64) (if b79 = false then (some (0 : Int64)) else (grd (zix (x66 &&& (((1 : Int32) <<< (x72 &&& 31)) ^^^ (-1 : Int32))) 1024) (some (M73.2 93 (zn (x66 &&& (((1 : Int32) <<< (x72 &&& 31)) ^^^ (-1 : Int32)))))))) (fun (x80 : Int64) => grd (zix x66 1024) (lt (zwL M73 93 (zn x66) ((M73.2 93 (zn x66)) + x80)) (fun (M81 : zM) => rec74 ((x72 + (1 : Int32)), M81))))))))) zFu ((0 : Int32), M67)) (fun (M77 : zM) => rec68 ((x66 + (-1 : Int32)), M77))))) zFu (x65, M59)) (fun (M71 : zM) => rec60 ((x58 + (1 : Int32)), M71))))))) zFu ((0 : Int32), M17)) (fun (M63 : zM) => zlp (α := Int64 × Int32) (fun rec97 => (fun (u103 : Int64 × Int32) => match u103 with | (x95, x96) => if ((1 : Int32) <<< (x3 &&& 31)) ≤ x96 then (some (x95, M63)) else (sq (fX11_bitsOf x96) (fun (x100 : Int32) => sq (α := Int64) (if x100 = p1 then (grd (zix x96 1024) (some (M63.2 93 (zn x96)))) else (some (0 : Int64))) (fun (x101 : Int64) => lt ((x95 + x101)) (fun (x102 : Int64) => rec97 (x102, (x96 + (1 : Int32))))))))) zFu ((0 : Int64), (0 : Int32))))))))
set_option maxHeartbeats 4000000 in
set_option maxRecDepth 100000 in
theorem tX11_ways (E : zE) (p1 : Int32) (M : zM) : zFJ E mX11_ways [.ref 76, .int p1] zY0 M (fX11_ways p1 M) := by
  refine zF_of (L := [some (.ref 76), some (.int p1), none, none, none, none, none]) plX11 (Nat.le_of_ble_eq_true rfl) rfl (fun post => ?_)
  unfold fX11_ways
  refine z_iload_n 0 dX11_ways_0 rfl ?_
  refine z_i2l 1 dX11_ways_1 ?_
  refine z_lconst 2 dX11_ways_2 zlc_0 ?_
  refine z_ldc2 3 dX11_ways_3 cw_X11_187 ?_
  refine z_ctb (zat_S3 6 dX11_ways_6 lk_X11_85 ⟨Nat.le_of_ble_eq_true rfl, Nat.le_of_ble_eq_true rfl⟩ (Nat.le_of_ble_eq_true rfl)) (tX11_in E zY0 p1.toInt64 (0 : Int64) (10 : Int64) M) (fun b1 => ?_)
  refine z_ifneb 9 16 dX11_ways_9 (by decide) (fun _ => ?_) (fun _ => ?_)
  · refine z_ldc2 12 dX11_ways_12 cw_X11_240 ?_
    exact z_lreturn 15 dX11_ways_15 rfl (fun h => h)
  · refine z_aload_n 16 dX11_ways_16 rfl ?_
    refine z_bipush 17 dX11_ways_17 zbp_15 ?_
    refine z_cV (zat_V1 19 dX11_ways_19 lk_X11_233 zy_76 rfl rfl ⟨Nat.le_of_ble_eq_true rfl, Nat.le_of_ble_eq_true rfl⟩ (Nat.le_of_ble_eq_true rfl)) (tX11_layCosts E (15 : Int32) M) (fun M2 => ?_)
    refine z_aload_n 22 dX11_ways_22 rfl ?_
    refine z_iconst 23 dX11_ways_23 zci_1 ?_
    refine z_iconst 24 dX11_ways_24 zci_0 ?_
    refine z_ci (zat_V2 25 dX11_ways_25 lk_X11_164 zy_76 rfl rfl ⟨Nat.le_of_ble_eq_true rfl, Nat.le_of_ble_eq_true rfl⟩ (Nat.le_of_ble_eq_true rfl)) (tX11_linesOf E (1 : Int32) (0 : Int32) M2) (fun x3 => ?_)
    refine z_istore_n 28 (L' := [some (.ref 76), some (.int p1), some (.int x3), none, none, none, none]) dX11_ways_28 (by decide) rfl ?_
    refine z_iconst 29 dX11_ways_29 zci_0 ?_
    refine z_istore_n 30 (L' := [some (.ref 76), some (.int p1), some (.int x3), some (.int (0 : Int32)), none, none, none]) dX11_ways_30 (by decide) rfl ?_
    refine zk_sqj (α := zM) 59 (fun (M17 : zM) => [some (.ref 76), some (.int p1), some (.int x3), none, none, none, none]) (fun (M17 : zM) => []) (fun (M17 : zM) => (zY0, M17)) ?_ ?_
    · intro M17
      refine z_iconst 59 dX11_ways_59 zci_0 ?_
      refine z_istore_n 60 (L' := [some (.ref 76), some (.int p1), some (.int x3), some (.int (0 : Int32)), none, none, none]) dX11_ways_60 (by decide) rfl ?_
      refine zk_sqj (α := zM) 178 (fun (M63 : zM) => [some (.ref 76), some (.int p1), some (.int x3), none, none, none, none]) (fun (M63 : zM) => []) (fun (M63 : zM) => (zY0, M63)) ?_ ?_
      · intro M63
        refine z_lconst 178 dX11_ways_178 zlc_0 ?_
        refine z_lstore_n 179 (L' := [some (.ref 76), some (.int p1), some (.int x3), some (.long (0 : Int64)), none, none, none]) dX11_ways_179 (by decide) rfl ?_
        refine z_iconst 180 dX11_ways_180 zci_0 ?_
        refine z_istore 181 (L' := [some (.ref 76), some (.int p1), some (.int x3), some (.long (0 : Int64)), none, some (.int (0 : Int32)), none]) dX11_ways_181 (by decide) rfl ?_
        refine zk_weak (L' := [some (.ref 76), some (.int p1), some (.int x3), some (.long (0 : Int64)), none, some (.int (0 : Int32)), none]) (zLe_s (zLe_s (zLe_s (zLe_s (zLe_n (zLe_s (zLe_n zLe_nl))))))) (zk_lp (α := Int64 × Int32) 183 (fun (u98 : Int64 × Int32) => match u98 with | (x95, x96) => [some (.ref 76), some (.int p1), some (.int x3), some (.long x95), none, some (.int x96), none]) (fun (u99 : Int64 × Int32) => match u99 with | (x95, x96) => (zY0, M63)) ?_ zFu ((0 : Int64), (0 : Int32)))
        intro rec97 hrec97
        intro u104
        obtain ⟨x95, x96⟩ := u104
        try dsimp only
        refine z_iload 183 dX11_ways_183 rfl ?_
        refine z_iconst 185 dX11_ways_185 zci_1 ?_
        refine z_iload_n 186 dX11_ways_186 rfl ?_
        refine z_ishl 187 dX11_ways_187 ?_
        refine z_icge 188 220 dX11_ways_188 (by decide) (fun _ => ?_) (fun _ => ?_)
        · refine z_lload_n 220 dX11_ways_220 rfl ?_
          exact z_lreturn 221 dX11_ways_221 rfl (fun h => h)
        · refine z_lload_n 191 dX11_ways_191 rfl ?_
          refine z_iload 192 dX11_ways_192 rfl ?_
          refine z_ci (zat_S1 194 dX11_ways_194 lk_X11_219 ⟨Nat.le_of_ble_eq_true rfl, Nat.le_of_ble_eq_true rfl⟩ (Nat.le_of_ble_eq_true rfl)) (tX11_bitsOf E zY0 x96 M63) (fun x100 => ?_)
          refine z_iload_n 197 dX11_ways_197 rfl ?_
          refine zk_sqj (α := Int64) 212 (fun (x101 : Int64) => [some (.ref 76), some (.int p1), some (.int x3), none, none, some (.int x96), none]) (fun (x101 : Int64) => [.long x101, .long x95]) (fun (x101 : Int64) => (zY0, M63)) ?_ ?_
          · intro x101
            refine z_ladd 212 dX11_ways_212 ?_
            refine zk_nmL (fun x102 => ?_)
            refine z_lstore_n 213 (L' := [some (.ref 76), some (.int p1), some (.int x3), some (.long x102), none, some (.int x96), none]) dX11_ways_213 (by decide) rfl ?_
            refine z_iinc 214 (v := (x96 + (1 : Int32))) (L' := [some (.ref 76), some (.int p1), some (.int x3), some (.long x102), none, some (.int (x96 + (1 : Int32))), none]) dX11_ways_214 rfl (zinc zci_1 _) (by decide) rfl ?_
            refine z_goto 217 183 dX11_ways_217 (by decide) ?_
            exact zk_weak (L' := [some (.ref 76), some (.int p1), some (.int x3), some (.long x102), none, some (.int (x96 + (1 : Int32))), none]) (zLe_s (zLe_s (zLe_s (zLe_s (zLe_n (zLe_s (zLe_n zLe_nl))))))) (hrec97 (x102, (x96 + (1 : Int32))))
          · refine z_icne 198 211 dX11_ways_198 (by decide) (fun _ => ?_) (fun _ => ?_)
            · refine z_aload_n 201 dX11_ways_201 rfl ?_
              refine z_getR 202 (r := 93) dX11_ways_202 fl_X11_59 zy_76 rfl ?_
              refine z_iload 205 dX11_ways_205 rfl ?_
              refine z_laload 207 dX11_ways_207 zy_93 ?_
              refine z_goto 208 212 dX11_ways_208 (by decide) ?_
              exact zk_exitw (L' := [some (.ref 76), some (.int p1), some (.int x3), none, none, some (.int x96), none]) (zLe_s (zLe_s (zLe_s (zLe_n (zLe_n (zLe_s (zLe_n zLe_nl))))))) (fun h => h)
            · refine z_lconst 211 dX11_ways_211 zlc_0 ?_
              exact zk_exitw (L' := [some (.ref 76), some (.int p1), some (.int x3), none, none, some (.int x96), none]) (zLe_s (zLe_s (zLe_s (zLe_n (zLe_n (zLe_s (zLe_n zLe_nl))))))) (fun h => h)
      · refine zk_weak (L' := [some (.ref 76), some (.int p1), some (.int x3), some (.int (0 : Int32)), none, none, none]) (zLe_s (zLe_s (zLe_s (zLe_s (zLe_n (zLe_n (zLe_n zLe_nl))))))) (zk_lp (α := Int32 × zM) 61 (fun (u61 : Int32 × zM) => match u61 with | (x58, M59) => [some (.ref 76), some (.int p1), some (.int x3), some (.int x58), none, none, none]) (fun (u62 : Int32 × zM) => match u62 with | (x58, M59) => (zY0, M59)) ?_ zFu ((0 : Int32), M17))
        intro rec60 hrec60
        intro u106
        obtain ⟨x58, M59⟩ := u106
        try dsimp only
        refine z_iload_n 61 dX11_ways_61 rfl ?_
        refine z_aload_n 62 dX11_ways_62 rfl ?_
        refine z_iconst 63 dX11_ways_63 zci_0 ?_
        refine z_iconst 64 dX11_ways_64 zci_0 ?_
        refine z_ci (zat_V2 65 dX11_ways_65 lk_X11_164 zy_76 rfl rfl ⟨Nat.le_of_ble_eq_true rfl, Nat.le_of_ble_eq_true rfl⟩ (Nat.le_of_ble_eq_true rfl)) (tX11_linesOf E (0 : Int32) (0 : Int32) M59) (fun x64 => ?_)
        refine z_icge 68 178 dX11_ways_68 (by decide) (fun _ => ?_) (fun _ => ?_)
        · exact zk_exitw (L' := [some (.ref 76), some (.int p1), some (.int x3), none, none, none, none]) (zLe_s (zLe_s (zLe_s (zLe_n (zLe_n (zLe_n (zLe_n zLe_nl))))))) (fun h => h)
        · refine z_iconst 71 dX11_ways_71 zci_1 ?_
          refine z_iload_n 72 dX11_ways_72 rfl ?_
          refine z_ishl 73 dX11_ways_73 ?_
          refine z_iconst 74 dX11_ways_74 zci_1 ?_
          refine z_isub 75 dX11_ways_75 ?_
          refine zk_nmI (fun x65 => ?_)
          refine z_istore 76 (L' := [some (.ref 76), some (.int p1), some (.int x3), some (.int x58), some (.int x65), none, none]) dX11_ways_76 (by decide) rfl ?_
          refine zk_sqj (α := zM) 172 (fun (M71 : zM) => [some (.ref 76), some (.int p1), some (.int x3), some (.int x58), none, none, none]) (fun (M71 : zM) => []) (fun (M71 : zM) => (zY0, M71)) ?_ ?_
          · intro M71
            refine z_iinc 172 (v := (x58 + (1 : Int32))) (L' := [some (.ref 76), some (.int p1), some (.int x3), some (.int (x58 + (1 : Int32))), none, none, none]) dX11_ways_172 rfl (zinc zci_1 _) (by decide) rfl ?_
            refine z_goto 175 61 dX11_ways_175 (by decide) ?_
            exact zk_weak (L' := [some (.ref 76), some (.int p1), some (.int x3), some (.int (x58 + (1 : Int32))), none, none, none]) (zLe_s (zLe_s (zLe_s (zLe_s (zLe_n (zLe_n (zLe_n zLe_nl))))))) (hrec60 ((x58 + (1 : Int32)), M71))
          · refine zk_weak (L' := [some (.ref 76), some (.int p1), some (.int x3), some (.int x58), some (.int x65), none, none]) (zLe_s (zLe_s (zLe_s (zLe_s (zLe_s (zLe_n (zLe_n zLe_nl))))))) (zk_lp (α := Int32 × zM) 78 (fun (u69 : Int32 × zM) => match u69 with | (x66, M67) => [some (.ref 76), some (.int p1), some (.int x3), some (.int x58), some (.int x66), none, none]) (fun (u70 : Int32 × zM) => match u70 with | (x66, M67) => (zY0, M67)) ?_ zFu (x65, M59))
            intro rec68 hrec68
            intro u86
            obtain ⟨x66, M67⟩ := u86
            try dsimp only
            refine z_iload 78 dX11_ways_78 rfl ?_
            refine z_iflt 80 172 dX11_ways_80 (by decide) (fun _ => ?_) (fun _ => ?_)
            · exact zk_exitw (L' := [some (.ref 76), some (.int p1), some (.int x3), some (.int x58), none, none, none]) (zLe_s (zLe_s (zLe_s (zLe_s (zLe_n (zLe_n (zLe_n zLe_nl))))))) (fun h => h)
            · refine z_iconst 83 dX11_ways_83 zci_0 ?_
              refine z_istore 84 (L' := [some (.ref 76), some (.int p1), some (.int x3), some (.int x58), some (.int x66), some (.int (0 : Int32)), none]) dX11_ways_84 (by decide) rfl ?_
              refine zk_sqj (α := zM) 166 (fun (M77 : zM) => [some (.ref 76), some (.int p1), some (.int x3), some (.int x58), some (.int x66), none, none]) (fun (M77 : zM) => []) (fun (M77 : zM) => (zY0, M77)) ?_ ?_
              · intro M77
                refine z_iinc 166 (v := (x66 + (-1 : Int32))) (L' := [some (.ref 76), some (.int p1), some (.int x3), some (.int x58), some (.int (x66 + (-1 : Int32))), none, none]) dX11_ways_166 rfl (zinc zci_m1 _) (by decide) rfl ?_
                refine z_goto 169 78 dX11_ways_169 (by decide) ?_
                exact zk_weak (L' := [some (.ref 76), some (.int p1), some (.int x3), some (.int x58), some (.int (x66 + (-1 : Int32))), none, none]) (zLe_s (zLe_s (zLe_s (zLe_s (zLe_s (zLe_n (zLe_n zLe_nl))))))) (hrec68 ((x66 + (-1 : Int32)), M77))
              · refine zk_weak (L' := [some (.ref 76), some (.int p1), some (.int x3), some (.int x58), some (.int x66), some (.int (0 : Int32)), none]) (zLe_s (zLe_s (zLe_s (zLe_s (zLe_s (zLe_s (zLe_n zLe_nl))))))) (zk_lp (α := Int32 × zM) 86 (fun (u75 : Int32 × zM) => match u75 with | (x72, M73) => [some (.ref 76), some (.int p1), some (.int x3), some (.int x58), some (.int x66), some (.int x72), none]) (fun (u76 : Int32 × zM) => match u76 with | (x72, M73) => (zY0, M73)) ?_ zFu ((0 : Int32), M67))
                intro rec74 hrec74
                intro u84
                obtain ⟨x72, M73⟩ := u84
                try dsimp only
                refine z_iload 86 dX11_ways_86 rfl ?_
                refine z_iload_n 88 dX11_ways_88 rfl ?_
                refine z_icge 89 166 dX11_ways_89 (by decide) (fun _ => ?_) (fun _ => ?_)
                · exact zk_exitw (L' := [some (.ref 76), some (.int p1), some (.int x3), some (.int x58), some (.int x66), none, none]) (zLe_s (zLe_s (zLe_s (zLe_s (zLe_s (zLe_n (zLe_n zLe_nl))))))) (fun h => h)
                · refine z_iload 92 dX11_ways_92 rfl ?_
                  refine z_iload 94 dX11_ways_94 rfl ?_
                  refine z_ishr 96 dX11_ways_96 ?_
                  refine z_iconst 97 dX11_ways_97 zci_1 ?_
                  refine z_iand 98 dX11_ways_98 ?_
                  refine z_iconst 99 dX11_ways_99 zci_1 ?_
                  refine zk_sqj (α := Bool) 125 (fun (b79 : Bool) => [some (.ref 76), some (.int p1), some (.int x3), some (.int x58), some (.int x66), some (.int x72), none]) (fun (b79 : Bool) => [.int (zb b79)]) (fun (b79 : Bool) => (zY0, M73)) ?_ ?_
                  · intro b79
                    refine z_istore 125 (L' := [some (.ref 76), some (.int p1), some (.int x3), some (.int x58), some (.int x66), some (.int x72), some (.int (zb b79))]) dX11_ways_125 (by decide) rfl ?_
                    refine z_aload_n 127 dX11_ways_127 rfl ?_
                    refine z_getR 128 (r := 93) dX11_ways_128 fl_X11_59 zy_76 rfl ?_
                    refine z_iload 131 dX11_ways_131 rfl ?_
                    refine z_dup2 133 dX11_ways_133 rfl rfl ?_
                    refine z_laload 134 dX11_ways_134 zy_93 ?_
                    refine z_iload 135 dX11_ways_135 rfl ?_
                    refine zk_sqj (α := Int64) 158 (fun (x80 : Int64) => [some (.ref 76), some (.int p1), some (.int x3), some (.int x58), some (.int x66), some (.int x72), none]) (fun (x80 : Int64) => [.long x80, .long (M73.2 93 (zn x66)), .int x66, .ref 93]) (fun (x80 : Int64) => (zY0, M73)) ?_ ?_
                    · intro x80
                      refine z_ladd 158 dX11_ways_158 ?_
                      refine z_lastore 159 dX11_ways_159 zy_93 ?_
                      refine zk_nmM (fun M81 => ?_)
                      refine z_iinc 160 (v := (x72 + (1 : Int32))) (L' := [some (.ref 76), some (.int p1), some (.int x3), some (.int x58), some (.int x66), some (.int (x72 + (1 : Int32))), none]) dX11_ways_160 rfl (zinc zci_1 _) (by decide) rfl ?_
                      refine z_goto 163 86 dX11_ways_163 (by decide) ?_
                      exact zk_weak (L' := [some (.ref 76), some (.int p1), some (.int x3), some (.int x58), some (.int x66), some (.int (x72 + (1 : Int32))), none]) (zLe_s (zLe_s (zLe_s (zLe_s (zLe_s (zLe_s (zLe_n zLe_nl))))))) (hrec74 ((x72 + (1 : Int32)), M81))
                    · refine z_ifeqb 137 157 dX11_ways_137 (by decide) (fun _ => ?_) (fun _ => ?_)
                      · refine z_lconst 157 dX11_ways_157 zlc_0 ?_
                        exact zk_exitw (L' := [some (.ref 76), some (.int p1), some (.int x3), some (.int x58), some (.int x66), some (.int x72), none]) (zLe_s (zLe_s (zLe_s (zLe_s (zLe_s (zLe_s (zLe_n zLe_nl))))))) (fun h => h)
                      · refine z_aload_n 140 dX11_ways_140 rfl ?_
                        refine z_getR 141 (r := 93) dX11_ways_141 fl_X11_59 zy_76 rfl ?_
                        refine z_iload 144 dX11_ways_144 rfl ?_
                        refine z_iconst 146 dX11_ways_146 zci_1 ?_
                        refine z_iload 147 dX11_ways_147 rfl ?_
                        refine z_ishl 149 dX11_ways_149 ?_
                        refine z_iconst 150 dX11_ways_150 zci_m1 ?_
                        refine z_ixor 151 dX11_ways_151 ?_
                        refine z_iand 152 dX11_ways_152 ?_
                        refine z_laload 153 dX11_ways_153 zy_93 ?_
                        refine z_goto 154 158 dX11_ways_154 (by decide) ?_
                        exact zk_exitw (L' := [some (.ref 76), some (.int p1), some (.int x3), some (.int x58), some (.int x66), some (.int x72), none]) (zLe_s (zLe_s (zLe_s (zLe_s (zLe_s (zLe_s (zLe_n zLe_nl))))))) (fun h => h)
                  · refine zk_jn (α := Unit) 124 (fun (_ : Unit) => [some (.ref 76), some (.int p1), some (.int x3), some (.int x58), some (.int x66), some (.int x72), none]) (fun (_ : Unit) => []) (fun (_ : Unit) => (zY0, M73)) ?_ ?_
                    · intro _
                      refine z_iconst 124 dX11_ways_124 zci_0 ?_
                      exact zk_exitw (L' := [some (.ref 76), some (.int p1), some (.int x3), some (.int x58), some (.int x66), some (.int x72), none]) (zLe_s (zLe_s (zLe_s (zLe_s (zLe_s (zLe_s (zLe_n zLe_nl))))))) (fun h => h)
                    · intro k82 hk82
                      refine z_icne 100 124 dX11_ways_100 (by decide) (fun _ => ?_) (fun _ => ?_)
                      · refine z_aload_n 103 dX11_ways_103 rfl ?_
                        refine z_getR 104 (r := 85) dX11_ways_104 fl_X11_34 zy_76 rfl ?_
                        refine z_bipush 107 dX11_ways_107 zbp_10 ?_
                        refine z_iload_n 109 dX11_ways_109 rfl ?_
                        refine z_imul 110 dX11_ways_110 ?_
                        refine z_iload 111 dX11_ways_111 rfl ?_
                        refine z_iadd 113 dX11_ways_113 ?_
                        refine z_iaload 114 dX11_ways_114 zy_85 ?_
                        refine z_bipush 115 dX11_ways_115 zbp_m4 ?_
                        refine z_iceq 117 124 dX11_ways_117 (by decide) (fun _ => ?_) (fun _ => ?_)
                        · exact zk_weak (L' := [some (.ref 76), some (.int p1), some (.int x3), some (.int x58), some (.int x66), some (.int x72), none]) (zLe_s (zLe_s (zLe_s (zLe_s (zLe_s (zLe_s (zLe_n zLe_nl))))))) (hk82 ())
                        · refine z_iconst 120 dX11_ways_120 zci_1 ?_
                          refine z_goto 121 125 dX11_ways_121 (by decide) ?_
                          exact zk_exitw (L' := [some (.ref 76), some (.int p1), some (.int x3), some (.int x58), some (.int x66), some (.int x72), none]) (zLe_s (zLe_s (zLe_s (zLe_s (zLe_s (zLe_s (zLe_n zLe_nl))))))) (fun h => h)
                      · exact zk_weak (L' := [some (.ref 76), some (.int p1), some (.int x3), some (.int x58), some (.int x66), some (.int x72), none]) (zLe_s (zLe_s (zLe_s (zLe_s (zLe_s (zLe_s (zLe_n zLe_nl))))))) (hk82 ())
    · refine zk_weak (L' := [some (.ref 76), some (.int p1), some (.int x3), some (.int (0 : Int32)), none, none, none]) (zLe_s (zLe_s (zLe_s (zLe_s (zLe_n (zLe_n (zLe_n zLe_nl))))))) (zk_lp (α := Int32 × zM) 31 (fun (u15 : Int32 × zM) => match u15 with | (x12, M13) => [some (.ref 76), some (.int p1), some (.int x3), some (.int x12), none, none, none]) (fun (u16 : Int32 × zM) => match u16 with | (x12, M13) => (zY0, M13)) ?_ zFu ((0 : Int32), M2))
      intro rec14 hrec14
      intro u108
      obtain ⟨x12, M13⟩ := u108
      try dsimp only
      refine z_iload_n 31 dX11_ways_31 rfl ?_
      refine z_iconst 32 dX11_ways_32 zci_1 ?_
      refine z_iload_n 33 dX11_ways_33 rfl ?_
      refine z_ishl 34 dX11_ways_34 ?_
      refine z_icge 35 59 dX11_ways_35 (by decide) (fun _ => ?_) (fun _ => ?_)
      · exact zk_exitw (L' := [some (.ref 76), some (.int p1), some (.int x3), none, none, none, none]) (zLe_s (zLe_s (zLe_s (zLe_n (zLe_n (zLe_n (zLe_n zLe_nl))))))) (fun h => h)
      · refine z_aload_n 38 dX11_ways_38 rfl ?_
        refine z_getR 39 (r := 93) dX11_ways_39 fl_X11_59 zy_76 rfl ?_
        refine z_iload_n 42 dX11_ways_42 rfl ?_
        refine z_iload_n 43 dX11_ways_43 rfl ?_
        refine zk_ltj (α := Int64) 52 (fun (x18 : Int64) => [some (.ref 76), some (.int p1), some (.int x3), some (.int x12), none, none, none]) (fun (x18 : Int64) => [.long x18, .int x12, .ref 93]) (fun (x18 : Int64) => (zY0, M13)) ?_ ?_
        · intro x18
          refine z_lastore 52 dX11_ways_52 zy_93 ?_
          refine zk_nmM (fun M19 => ?_)
          refine z_iinc 53 (v := (x12 + (1 : Int32))) (L' := [some (.ref 76), some (.int p1), some (.int x3), some (.int (x12 + (1 : Int32))), none, none, none]) dX11_ways_53 rfl (zinc zci_1 _) (by decide) rfl ?_
          refine z_goto 56 31 dX11_ways_56 (by decide) ?_
          exact zk_weak (L' := [some (.ref 76), some (.int p1), some (.int x3), some (.int (x12 + (1 : Int32))), none, none, none]) (zLe_s (zLe_s (zLe_s (zLe_s (zLe_n (zLe_n (zLe_n zLe_nl))))))) (hrec14 ((x12 + (1 : Int32)), M19))
        · intro k20 hk20
          refine z_ifnev 44 51 dX11_ways_44 (by decide) ?_ ?_
          · refine z_lconst 47 dX11_ways_47 zlc_1 ?_
            refine z_goto 48 52 dX11_ways_48 (by decide) ?_
            exact zk_weak (L' := [some (.ref 76), some (.int p1), some (.int x3), some (.int x12), none, none, none]) (zLe_s (zLe_s (zLe_s (zLe_s (zLe_n (zLe_n (zLe_n zLe_nl))))))) (hk20 (1 : Int64))
          · refine z_lconst 51 dX11_ways_51 zlc_0 ?_
            exact zk_weak (L' := [some (.ref 76), some (.int p1), some (.int x3), some (.int x12), none, none, none]) (zLe_s (zLe_s (zLe_s (zLe_s (zLe_n (zLe_n (zLe_n zLe_nl))))))) (hk20 (0 : Int64))
def fX11_toldOf (p1 : Int32) (M : zM) : Option Int32 :=
  grd (zix ((190 : Int32) + p1) 660) (if (M.1 84 (zn ((190 : Int32) + p1))) = 0 then (some (-4 : Int32)) else (grd (zix ((190 : Int32) + p1) 660) (some ((M.1 84 (zn ((190 : Int32) + p1))) - (1 : Int32)))))
set_option maxHeartbeats 4000000 in
set_option maxRecDepth 100000 in
theorem tX11_toldOf (E : zE) (p1 : Int32) (M : zM) : zFi E mX11_toldOf [.ref 76, .int p1] zY0 M (fX11_toldOf p1 M) := by
  refine zF_of (L := [some (.ref 76), some (.int p1)]) plX11 (Nat.le_of_ble_eq_true rfl) rfl (fun post => ?_)
  unfold fX11_toldOf
  refine z_aload_n 0 dX11_toldOf_0 rfl ?_
  refine z_getR 1 (r := 84) dX11_toldOf_1 fl_X11_31 zy_76 rfl ?_
  refine z_sipush 4 dX11_toldOf_4 zsp_190 ?_
  refine z_iload_n 7 dX11_toldOf_7 rfl ?_
  refine z_iadd 8 dX11_toldOf_8 ?_
  refine z_iaload 9 dX11_toldOf_9 zy_84 ?_
  refine z_ifne 10 18 dX11_toldOf_10 (by decide) (fun _ => ?_) (fun _ => ?_)
  · refine z_bipush 13 dX11_toldOf_13 zbp_m4 ?_
    refine z_goto 15 30 dX11_toldOf_15 (by decide) ?_
    exact z_ireturn 30 dX11_toldOf_30 rfl rfl (fun h => h)
  · refine z_aload_n 18 dX11_toldOf_18 rfl ?_
    refine z_getR 19 (r := 84) dX11_toldOf_19 fl_X11_31 zy_76 rfl ?_
    refine z_sipush 22 dX11_toldOf_22 zsp_190 ?_
    refine z_iload_n 25 dX11_toldOf_25 rfl ?_
    refine z_iadd 26 dX11_toldOf_26 ?_
    refine z_iaload 27 dX11_toldOf_27 zy_84 ?_
    refine z_iconst 28 dX11_toldOf_28 zci_1 ?_
    refine z_isub 29 dX11_toldOf_29 ?_
    exact z_ireturn 30 dX11_toldOf_30 rfl rfl (fun h => h)
def fX11_tell (p1 : Int32) (p2 : Int32) (M : zM) : Option (Int32 × zM) :=
  lt (fX11_in p1.toInt64 (0 : Int64) (9 : Int64)) (fun (b1 : Bool) => if b1 = false then (some ((-1 : Int32), M)) else (lt (fX11_in p2.toInt64 (0 : Int64) (9 : Int64)) (fun (b2 : Bool) => jn (α := Unit) (fun (_ : Unit) => sq (fX11_toldOf p1 M) (fun (x3 : Int32) => lt (if p2 = (-4 : Int32) then ((0 : Int32)) else ((p2 + (1 : Int32)))) (fun (x4 : Int32) => grd (zix ((190 : Int32) + p1) 660) (lt (zwI M 84 (zn ((190 : Int32) + p1)) x4) (fun (M5 : zM) => some (x3, M5)))))) (fun k7 => if b2 = false then (if p2 = (-4 : Int32) then (k7 ()) else (some ((-1 : Int32), M))) else (k7 ())))))
set_option maxHeartbeats 4000000 in
set_option maxRecDepth 100000 in
theorem tX11_tell (E : zE) (p1 : Int32) (p2 : Int32) (M : zM) : zFI E mX11_tell [.ref 76, .int p1, .int p2] zY0 M (fX11_tell p1 p2 M) := by
  refine zF_of (L := [some (.ref 76), some (.int p1), some (.int p2), none]) plX11 (Nat.le_of_ble_eq_true rfl) rfl (fun post => ?_)
  unfold fX11_tell
  refine z_iload_n 0 dX11_tell_0 rfl ?_
  refine z_i2l 1 dX11_tell_1 ?_
  refine z_lconst 2 dX11_tell_2 zlc_0 ?_
  refine z_ldc2 3 dX11_tell_3 cw_X11_151 ?_
  refine z_ctb (zat_S3 6 dX11_tell_6 lk_X11_85 ⟨Nat.le_of_ble_eq_true rfl, Nat.le_of_ble_eq_true rfl⟩ (Nat.le_of_ble_eq_true rfl)) (tX11_in E zY0 p1.toInt64 (0 : Int64) (9 : Int64) M) (fun b1 => ?_)
  refine z_ifeqb 9 30 dX11_tell_9 (by decide) (fun _ => ?_) (fun _ => ?_)
  · refine z_iconst 30 dX11_tell_30 zci_m1 ?_
    exact z_ireturn 31 dX11_tell_31 rfl rfl (fun h => h)
  · refine z_iload_n 12 dX11_tell_12 rfl ?_
    refine z_i2l 13 dX11_tell_13 ?_
    refine z_lconst 14 dX11_tell_14 zlc_0 ?_
    refine z_ldc2 15 dX11_tell_15 cw_X11_151 ?_
    refine z_ctb (zat_S3 18 dX11_tell_18 lk_X11_85 ⟨Nat.le_of_ble_eq_true rfl, Nat.le_of_ble_eq_true rfl⟩ (Nat.le_of_ble_eq_true rfl)) (tX11_in E zY0 p2.toInt64 (0 : Int64) (9 : Int64) M) (fun b2 => ?_)
    refine zk_jn (α := Unit) 32 (fun (_ : Unit) => [some (.ref 76), some (.int p1), some (.int p2), none]) (fun (_ : Unit) => []) (fun (_ : Unit) => (zY0, M)) ?_ ?_
    · intro _
      refine z_aload_n 32 dX11_tell_32 rfl ?_
      refine z_iload_n 33 dX11_tell_33 rfl ?_
      refine z_ci (zat_V1 34 dX11_tell_34 lk_X11_256 zy_76 rfl rfl ⟨Nat.le_of_ble_eq_true rfl, Nat.le_of_ble_eq_true rfl⟩ (Nat.le_of_ble_eq_true rfl)) (tX11_toldOf E p1 M) (fun x3 => ?_)
      refine z_istore_n 37 (L' := [some (.ref 76), some (.int p1), some (.int p2), some (.int x3)]) dX11_tell_37 (by decide) rfl ?_
      refine z_aload_n 38 dX11_tell_38 rfl ?_
      refine z_getR 39 (r := 84) dX11_tell_39 fl_X11_31 zy_76 rfl ?_
      refine z_sipush 42 dX11_tell_42 zsp_190 ?_
      refine z_iload_n 45 dX11_tell_45 rfl ?_
      refine z_iadd 46 dX11_tell_46 ?_
      refine z_iload_n 47 dX11_tell_47 rfl ?_
      refine z_bipush 48 dX11_tell_48 zbp_m4 ?_
      refine zk_ltj (α := Int32) 60 (fun (x4 : Int32) => [none, none, none, some (.int x3)]) (fun (x4 : Int32) => [.int x4, .int ((190 : Int32) + p1), .ref 84]) (fun (x4 : Int32) => (zY0, M)) ?_ ?_
      · intro x4
        refine z_iastore 60 dX11_tell_60 zy_84 ?_
        refine zk_nmM (fun M5 => ?_)
        refine z_iload_n 61 dX11_tell_61 rfl ?_
        exact z_ireturn 62 dX11_tell_62 rfl rfl (fun h => h)
      · intro k6 hk6
        refine z_icnev 50 57 dX11_tell_50 (by decide) ?_ ?_
        · refine z_iconst 53 dX11_tell_53 zci_0 ?_
          refine z_goto 54 60 dX11_tell_54 (by decide) ?_
          exact zk_weak (L' := [none, none, none, some (.int x3)]) (zLe_n (zLe_n (zLe_n (zLe_s zLe_nl)))) (hk6 (0 : Int32))
        · refine z_iload_n 57 dX11_tell_57 rfl ?_
          refine z_iconst 58 dX11_tell_58 zci_1 ?_
          refine z_iadd 59 dX11_tell_59 ?_
          exact zk_weak (L' := [none, none, none, some (.int x3)]) (zLe_n (zLe_n (zLe_n (zLe_s zLe_nl)))) (hk6 (p2 + (1 : Int32)))
    · intro k7 hk7
      refine z_ifneb 21 32 dX11_tell_21 (by decide) (fun _ => ?_) (fun _ => ?_)
      · refine z_iload_n 24 dX11_tell_24 rfl ?_
        refine z_bipush 25 dX11_tell_25 zbp_m4 ?_
        refine z_iceq 27 32 dX11_tell_27 (by decide) (fun _ => ?_) (fun _ => ?_)
        · exact zk_weak (L' := [some (.ref 76), some (.int p1), some (.int p2), none]) (zLe_s (zLe_s (zLe_s (zLe_n zLe_nl)))) (hk7 ())
        · refine z_iconst 30 dX11_tell_30 zci_m1 ?_
          exact z_ireturn 31 dX11_tell_31 rfl rfl (fun h => h)
      · exact zk_weak (L' := [some (.ref 76), some (.int p1), some (.int p2), none]) (zLe_s (zLe_s (zLe_s (zLe_n zLe_nl)))) (hk7 ())
