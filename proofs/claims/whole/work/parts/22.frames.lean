set_option maxHeartbeats 4000000 in
theorem frJ7_fill_53178 (a1 : Nat) (n1 : Nat) (p2 : Int32) (M : zM) : zof (fJ7_fill_53178 a1 n1 p2 M) (fun y => y) [a1] M := by
  have hM := zfr_rf [a1] M
  unfold fJ7_fill_53178
  refine f_lt (fun x1 => ?_)
  refine f_zlp (ρ := fun y => y.2) ?_ _ _ hM
  intro rec10 hrec10 u hu
  obtain ⟨x8, M9⟩ := u
  try dsimp only at hu ⊢
  have hM9 := hu
  refine f_ite ?_ ?_
  · exact f_some hM9
  · refine f_grd ?_
    refine f_ltM (zfr_I hM9 (by simp)) (fun M13 hM13 => ?_)
    exact hrec10 _ hM13
set_option maxHeartbeats 4000000 in
theorem frX0_spreadLine (p1 : Int32) (p2 : Int32) (M : zM) : zof (fX0_spreadLine p1 p2 M) (fun y => y) [68] M := by
  have hM := zfr_rf [68] M
  unfold fX0_spreadLine
  refine f_lt (fun x1 => ?_)
  refine f_zlp (ρ := fun y => y.2) ?_ _ _ hM
  intro rec4 hrec4 u hu
  obtain ⟨x2, M3⟩ := u
  try dsimp only at hu ⊢
  have hM3 := hu
  refine f_ite ?_ ?_
  · exact f_some hM3
  · refine f_grd ?_
    refine f_lt (fun x7 => ?_)
    refine f_sqM (ρ := (fun y => y)) ?_ ?_
    · refine f_zlp (ρ := fun y => y.2) ?_ _ _ hM3
      intro rec19 hrec19 u hu
      obtain ⟨x17, M18⟩ := u
      try dsimp only at hu ⊢
      have hM18 := hu
      refine f_ite ?_ ?_
      · exact f_some hM18
      · refine f_ite ?_ ?_
        · exact f_some hM18
        · refine f_sqM (ρ := (fun y => y)) ?_ ?_
          · refine f_ite ?_ ?_
            · refine f_lt (fun x26 => ?_)
              refine f_grd ?_
              refine f_grd ?_
              refine f_grd ?_
              refine f_ltM (zfr_I hM18 (by decide)) (fun M27 hM27 => ?_)
              exact f_some hM27
            · exact f_some hM18
          · intro M25 hM25
            exact hrec19 _ hM25
    · intro M22 hM22
      exact hrec4 _ hM22
set_option maxHeartbeats 4000000 in
theorem frX0_spreadAll (p2 : Int32) (p3 : Int32) (M : zM) : zof (fX0_spreadAll p2 p3 M) (fun y => y) [68] M := by
  have hM := zfr_rf [68] M
  unfold fX0_spreadAll
  refine f_lt (fun x1 => ?_)
  refine f_sqM (ρ := fun y => y) (f_call hM (frJ7_fill_53178 68 1024 (0 : Int32) M) (by decide)) (fun M2 hM2 => ?_)
  refine f_grd ?_
  refine f_ltM (zfr_I hM2 (by decide)) (fun M3 hM3 => ?_)
  refine f_zlp (ρ := fun y => y.2) ?_ _ _ hM3
  intro rec14 hrec14 u hu
  obtain ⟨x12, M13⟩ := u
  try dsimp only at hu ⊢
  have hM13 := hu
  refine f_ite ?_ ?_
  · exact f_some hM13
  · refine f_sqM (ρ := (fun y => y)) ?_ ?_
    · refine f_ite ?_ ?_
      · exact f_some hM13
      · refine f_sq (fun x20 => ?_)
        refine f_sqM (ρ := fun y => y) (f_call hM13 (frX0_spreadLine (x20 &&& (x1 ^^^ (-1 : Int32))) (M13.1 55 1) M13) (by decide)) (fun M21 hM21 => ?_)
        exact f_some hM21
    · intro M19 hM19
      exact hrec14 _ hM19
set_option maxHeartbeats 4000000 in
theorem frX0_countAll (p2 : Int32) (p3 : Int32) (M : zM) : zof (fX0_countAll p2 p3 M) (fun y => y.2) [68] M := by
  have hM := zfr_rf [68] M
  unfold fX0_countAll
  refine f_sqM (ρ := fun y => y) (f_call hM (frX0_spreadAll p2 p3 M) (by decide)) (fun M1 hM1 => ?_)
  refine f_zlp0 ?_ _ _
  intro rec10 hrec10 u
  obtain ⟨x8, x9⟩ := u
  try dsimp only
  refine f_ite ?_ ?_
  · exact f_some hM1
  · refine f_grd ?_
    refine f_lt (fun x13 => ?_)
    exact hrec10 _
set_option maxHeartbeats 4000000 in
theorem frX0_addBest (p1 : Int32) (p2 : Int32) (p3 : Int32) (M : zM) : zof (fX0_addBest p1 p2 p3 M) (fun y => y) [68, 69] M := by
  have hM := zfr_rf [68, 69] M
  unfold fX0_addBest
  refine f_grd ?_
  refine f_sqM (ρ := (fun y => y)) ?_ ?_
  · refine f_jn0 ?_ ?_
    · intro _
      refine f_grd ?_
      refine f_ltM (zfr_I hM (by decide)) (fun M8 hM8 => ?_)
      refine f_grd ?_
      refine f_ltM (zfr_I hM8 (by decide)) (fun M9 hM9 => ?_)
      exact f_some hM9
    · intro k10 hk10
      refine f_ite ?_ ?_
      · exact hk10 _
      · refine f_grd ?_
        refine f_ite ?_ ?_
        · exact f_some hM
        · exact hk10 _
  · intro M4 hM4
    refine f_grd ?_
    refine f_grd ?_
    refine f_lt (fun x5 => ?_)
    refine f_grd ?_
    refine f_ltM (zfr_I hM4 (by decide)) (fun M6 hM6 => ?_)
    exact f_some hM6
set_option maxHeartbeats 4000000 in
theorem frX0_spreadBest (p2 : Int32) (M : zM) : zof (fX0_spreadBest p2 M) (fun y => y) [68, 69] M := by
  have hM := zfr_rf [68, 69] M
  unfold fX0_spreadBest
  refine f_sq (fun x1 => ?_)
  refine f_lt (fun x2 => ?_)
  refine f_zlp (ρ := fun y => y.2) ?_ _ _ hM
  intro rec5 hrec5 u hu
  obtain ⟨x3, M4⟩ := u
  try dsimp only at hu ⊢
  have hM4 := hu
  refine f_ite ?_ ?_
  · exact f_some hM4
  · refine f_grd ?_
    refine f_lt (fun x8 => ?_)
    refine f_sqM (ρ := (fun y => y)) ?_ ?_
    · refine f_zlp (ρ := fun y => y.2) ?_ _ _ hM4
      intro rec20 hrec20 u hu
      obtain ⟨x18, M19⟩ := u
      try dsimp only at hu ⊢
      have hM19 := hu
      refine f_ite ?_ ?_
      · exact f_some hM19
      · refine f_ite ?_ ?_
        · exact f_some hM19
        · refine f_sqM (ρ := (fun y => y)) ?_ ?_
          · refine f_ite ?_ ?_
            · refine f_grd ?_
              refine f_sq (fun x27 => ?_)
              refine f_grd ?_
              refine f_sqM (ρ := fun y => y) (f_call hM19 (frX0_addBest (x3 ||| ((1 : Int32) <<< (x18 &&& 31))) ((M19.1 69 (zn x3)) + x27) (M19.1 68 (zn x3)) M19) (by decide)) (fun M28 hM28 => ?_)
              exact f_some hM28
            · exact f_some hM19
          · intro M26 hM26
            exact hrec20 _ hM26
    · intro M23 hM23
      exact hrec5 _ hM23
set_option maxHeartbeats 4000000 in
theorem frX0_countBest (M : zM) : zof (fX0_countBest M) (fun y => y.2) [68, 69] M := by
  have hM := zfr_rf [68, 69] M
  unfold fX0_countBest
  refine f_sqM (ρ := fun y => y) (f_call hM (frJ7_fill_53178 68 1024 (0 : Int32) M) (by decide)) (fun M1 hM1 => ?_)
  refine f_grd ?_
  refine f_ltM (zfr_I hM1 (by decide)) (fun M2 hM2 => ?_)
  refine f_grd ?_
  refine f_ltM (zfr_I hM2 (by decide)) (fun M3 hM3 => ?_)
  refine f_sqM (ρ := (fun y => y)) ?_ ?_
  · refine f_zlp (ρ := fun y => y.2) ?_ _ _ hM3
    intro rec13 hrec13 u hu
    obtain ⟨x11, M12⟩ := u
    try dsimp only at hu ⊢
    have hM12 := hu
    refine f_ite ?_ ?_
    · exact f_some hM12
    · refine f_sqM (ρ := fun y => y) (f_call hM12 (frX0_spreadBest x11 M12) (by decide)) (fun M17 hM17 => ?_)
      exact hrec13 _ hM17
  · intro M16 hM16
    refine f_zlp0 ?_ _ _
    intro rec45 hrec45 u
    obtain ⟨x42, x43, x44⟩ := u
    try dsimp only
    refine f_ite ?_ ?_
    · exact f_some hM16
    · refine f_grd ?_
      refine f_sq ?_
      intro u
      obtain ⟨x49, x50⟩ := u
      try dsimp only
      refine f_grd ?_
      refine f_sq ?_
      intro x52
      refine f_lt (fun x53 => ?_)
      exact hrec45 _
set_option maxHeartbeats 4000000 in
theorem frX1_begin (p1 : Int32) (M : zM) : zof (fX1_begin p1 M) (fun y => y) [70, 71] M := by
  have hM := zfr_rf [70, 71] M
  unfold fX1_begin
  refine f_ltM (zfr_I hM (by decide)) (fun M1 hM1 => ?_)
  refine f_sqM (ρ := fun y => y) (f_call hM1 (frJ7_fill_53178 71 10 (0 : Int32) M1) (by decide)) (fun M2 hM2 => ?_)
  exact f_some hM2
set_option maxHeartbeats 4000000 in
theorem frX1_join (p1 : Int32) (p2 : Int32) (M : zM) : zof (fX1_join p1 p2 M) (fun y => y) [71] M := by
  have hM := zfr_rf [71] M
  unfold fX1_join
  refine f_grd ?_
  refine f_grd ?_
  refine f_ltM (zfr_I hM (by decide)) (fun M1 hM1 => ?_)
  exact f_some hM1
set_option maxHeartbeats 4000000 in
theorem frX1_markTogether (M : zM) : zof (fX1_markTogether M) (fun y => y) [72] M := by
  have hM := zfr_rf [72] M
  unfold fX1_markTogether
  refine f_grd ?_
  refine f_ltM (zfr_I hM (by decide)) (fun M1 hM1 => ?_)
  refine f_zlp (ρ := fun y => y.2) ?_ _ _ hM1
  intro rec28 hrec28 u hu
  obtain ⟨x26, M27⟩ := u
  try dsimp only at hu ⊢
  have hM27 := hu
  refine f_ite ?_ ?_
  · exact f_some hM27
  · refine f_sqM (ρ := (fun y => y)) ?_ ?_
    · refine f_zlp (ρ := fun y => y.2) ?_ _ _ hM27
      intro rec33 hrec33 u hu
      obtain ⟨x31, M32⟩ := u
      try dsimp only at hu ⊢
      have hM32 := hu
      refine f_ite ?_ ?_
      · exact f_some hM32
      · refine f_grd ?_
        refine f_sq ?_
        intro b38
        refine f_grd ?_
        refine f_ltM (zfr_I hM32 (by decide)) (fun M39 hM39 => ?_)
        exact hrec33 _ hM39
    · intro M36 hM36
      exact hrec28 _ hM36
set_option maxHeartbeats 4000000 in
theorem frX1_largest (M : zM) : zof (fX1_largest M) (fun y => y.2) [72] M := by
  have hM := zfr_rf [72] M
  unfold fX1_largest
  refine f_sqM (ρ := fun y => y) (f_call hM (frX1_markTogether M) (by decide)) (fun M1 hM1 => ?_)
  refine f_zlp0 ?_ _ _
  intro rec20 hrec20 u
  obtain ⟨x18, x19⟩ := u
  try dsimp only
  refine f_ite ?_ ?_
  · exact f_some hM1
  · refine f_grd ?_
    refine f_sq ?_
    intro x25
    exact hrec20 _
set_option maxHeartbeats 4000000 in
theorem frX1_fewest (M : zM) : zof (fX1_fewest M) (fun y => y.2) [72, 73] M := by
  have hM := zfr_rf [72, 73] M
  unfold fX1_fewest
  refine f_sqM (ρ := fun y => y) (f_call hM (frX1_markTogether M) (by decide)) (fun M1 hM1 => ?_)
  refine f_grd ?_
  refine f_ltM (zfr_I hM1 (by decide)) (fun M2 hM2 => ?_)
  refine f_sqM (ρ := (fun y => y)) ?_ ?_
  · refine f_zlp (ρ := fun y => y.2) ?_ _ _ hM2
    intro rec27 hrec27 u hu
    obtain ⟨x25, M26⟩ := u
    try dsimp only at hu ⊢
    have hM26 := hu
    refine f_ite ?_ ?_
    · exact f_some hM26
    · refine f_sqM (ρ := (fun y => y)) ?_ ?_
      · refine f_zlp (ρ := fun y => y.2) ?_ _ _ hM26
        intro rec33 hrec33 u hu
        obtain ⟨x31, M32⟩ := u
        try dsimp only at hu ⊢
        have hM32 := hu
        refine f_ite ?_ ?_
        · exact f_some hM32
        · refine f_sq (fun x37 => ?_)
          refine f_grd ?_
          refine f_ltM (zfr_I hM32 (by decide)) (fun M38 hM38 => ?_)
          exact hrec33 _ hM38
      · intro M36 hM36
        exact hrec27 _ hM36
  · intro M30 hM30
    refine f_grd ?_
    exact f_some hM30
set_option maxHeartbeats 4000000 in
theorem frX2_append (a0 : Nat) (p1 : Int32) (p2 : Int32) (M : zM) : zof (fX2_append a0 p1 p2 M) (fun y => y.2) [a0, a0 + 1, a0 + 2] M := by
  have hM := zfr_rf [a0, a0 + 1, a0 + 2] M
  unfold fX2_append
  refine f_lt (fun x1 => ?_)
  refine f_grd ?_
  refine f_ltM (zfr_I hM (by simp)) (fun M2 hM2 => ?_)
  refine f_grd ?_
  refine f_ltM (zfr_I hM2 (by simp)) (fun M3 hM3 => ?_)
  refine f_ltM (zfr_I hM3 (by simp)) (fun M4 hM4 => ?_)
  exact f_some hM4
set_option maxHeartbeats 4000000 in
theorem frX2_setPlate (a0 : Nat) (p1 : Int32) (p2 : Int32) (M : zM) : zof (fX2_setPlate a0 p1 p2 M) (fun y => y) [a0 + 3] M := by
  have hM := zfr_rf [a0 + 3] M
  unfold fX2_setPlate
  refine f_zlp (ρ := fun y => y.2.2) ?_ _ _ hM
  intro rec4 hrec4 u hu
  obtain ⟨x1, x2, M3⟩ := u
  try dsimp only at hu ⊢
  have hM3 := hu
  refine f_ite ?_ ?_
  · exact f_some hM3
  · refine f_grd ?_
    refine f_ltM (zfr_I hM3 (by simp)) (fun M7 hM7 => ?_)
    refine f_lt (fun x8 => ?_)
    exact hrec4 _ hM7
set_option maxHeartbeats 4000000 in
theorem frX2_remove (a0 : Nat) (p1 : Int32) (M : zM) : zof (fX2_remove a0 p1 M) (fun y => y) [a0, a0 + 1, a0 + 2, a0 + 3] M := by
  have hM := zfr_rf [a0, a0 + 1, a0 + 2, a0 + 3] M
  unfold fX2_remove
  refine f_lt (fun x1 => ?_)
  refine f_grd ?_
  refine f_ltM (zfr_A hM (by simp)) (fun M2 hM2 => ?_)
  refine f_grd ?_
  refine f_ltM (zfr_A hM2 (by simp)) (fun M3 hM3 => ?_)
  refine f_grd ?_
  refine f_ltM (zfr_A hM3 (by simp)) (fun M4 hM4 => ?_)
  refine f_ltM (zfr_I hM4 (by simp)) (fun M5 hM5 => ?_)
  exact f_some hM5
set_option maxHeartbeats 4000000 in
theorem frX2_copyFrom (a0 : Nat) (a1 : Nat) (M : zM) : zof (fX2_copyFrom a0 a1 M) (fun y => y) [a0, a0 + 1, a0 + 2, a0 + 3] M := by
  have hM := zfr_rf [a0, a0 + 1, a0 + 2, a0 + 3] M
  unfold fX2_copyFrom
  refine f_ltM (zfr_I hM (by simp)) (fun M1 hM1 => ?_)
  refine f_grd ?_
  refine f_ltM (zfr_A hM1 (by simp)) (fun M2 hM2 => ?_)
  refine f_grd ?_
  refine f_ltM (zfr_A hM2 (by simp)) (fun M3 hM3 => ?_)
  refine f_grd ?_
  refine f_ltM (zfr_A hM3 (by simp)) (fun M4 hM4 => ?_)
  exact f_some hM4
set_option maxHeartbeats 4000000 in
theorem frJ7_fill_d0a16 (a1 : Nat) (n1 : Nat) (p2 : Int64) (M : zM) : zof (fJ7_fill_d0a16 a1 n1 p2 M) (fun y => y) [a1] M := by
  have hM := zfr_rf [a1] M
  unfold fJ7_fill_d0a16
  refine f_lt (fun x1 => ?_)
  refine f_zlp (ρ := fun y => y.2) ?_ _ _ hM
  intro rec10 hrec10 u hu
  obtain ⟨x8, M9⟩ := u
  try dsimp only at hu ⊢
  have hM9 := hu
  refine f_ite ?_ ?_
  · exact f_some hM9
  · refine f_grd ?_
    refine f_ltM (zfr_L hM9 (by simp)) (fun M13 hM13 => ?_)
    exact hrec10 _ hM13
set_option maxHeartbeats 4000000 in
theorem frX3_clear (M : zM) : zof (fX3_clear M) (fun y => y) [60] M := by
  have hM := zfr_rf [60] M
  unfold fX3_clear
  refine f_sqM (ρ := fun y => y) (f_call hM (frJ7_fill_d0a16 60 100 (0 : Int64) M) (by decide)) (fun M1 hM1 => ?_)
  exact f_some hM1
set_option maxHeartbeats 4000000 in
theorem frX3_setWeight (p1 : Int32) (p2 : Int32) (p3 : Int64) (M : zM) : zof (fX3_setWeight p1 p2 p3 M) (fun y => y) [60] M := by
  have hM := zfr_rf [60] M
  unfold fX3_setWeight
  refine f_grd ?_
  refine f_ltM (zfr_L hM (by decide)) (fun M1 hM1 => ?_)
  exact f_some hM1
set_option maxHeartbeats 4000000 in
theorem frX3_reachFrom (p1 : Int32) (M : zM) : zof (fX3_reachFrom p1 M) (fun y => y) [63, 65] M := by
  have hM := zfr_rf [63, 65] M
  unfold fX3_reachFrom
  refine f_grd ?_
  refine f_lt (fun x1 => ?_)
  refine f_zlp (ρ := fun y => y.2) ?_ _ _ hM
  intro rec14 hrec14 u hu
  obtain ⟨x12, M13⟩ := u
  try dsimp only at hu ⊢
  have hM13 := hu
  refine f_ite ?_ ?_
  · exact f_some hM13
  · refine f_grd ?_
    refine f_lt (fun x17 => ?_)
    refine f_grd ?_
    refine f_grd ?_
    refine f_lt (fun x18 => ?_)
    refine f_sqM (ρ := (fun y => y)) ?_ ?_
    · refine f_ite ?_ ?_
      · refine f_grd ?_
        refine f_ite ?_ ?_
        · exact f_some hM13
        · refine f_grd ?_
          refine f_ltM (zfr_L hM13 (by decide)) (fun M22 hM22 => ?_)
          refine f_grd ?_
          refine f_ltM (zfr_I hM22 (by decide)) (fun M23 hM23 => ?_)
          exact f_some hM23
      · exact f_some hM13
    · intro M21 hM21
      exact hrec14 _ hM21
set_option maxHeartbeats 4000000 in
theorem frX3_shiftPrices (p1 : Int64) (M : zM) : zof (fX3_shiftPrices p1 M) (fun y => y) [61, 62, 63] M := by
  have hM := zfr_rf [61, 62, 63] M
  unfold fX3_shiftPrices
  refine f_zlp (ρ := fun y => y.2) ?_ _ _ hM
  intro rec13 hrec13 u hu
  obtain ⟨x11, M12⟩ := u
  try dsimp only at hu ⊢
  have hM12 := hu
  refine f_ite ?_ ?_
  · exact f_some hM12
  · refine f_sqM (ρ := (fun y => y)) ?_ ?_
    · refine f_ite ?_ ?_
      · refine f_grd ?_
        refine f_lt (fun x21 => ?_)
        refine f_grd ?_
        refine f_grd ?_
        refine f_ltM (zfr_L hM12 (by decide)) (fun M22 hM22 => ?_)
        refine f_grd ?_
        refine f_grd ?_
        refine f_ltM (zfr_L hM22 (by decide)) (fun M23 hM23 => ?_)
        exact f_some hM23
      · refine f_grd ?_
        refine f_grd ?_
        refine f_ltM (zfr_L hM12 (by decide)) (fun M24 hM24 => ?_)
        exact f_some hM24
    · intro M20 hM20
      exact hrec13 _ hM20
set_option maxHeartbeats 4000000 in
theorem frX3_seat (p1 : Int32) (M : zM) : zof (fX3_seat p1 M) (fun y => y) [59, 61, 62, 63, 64, 65] M := by
  have hM := zfr_rf [59, 61, 62, 63, 64, 65] M
  unfold fX3_seat
  refine f_sqM (ρ := fun y => y) (f_call hM (frJ7_fill_d0a16 63 11 (1152921504606846976 : Int64) M) (by decide)) (fun M1 hM1 => ?_)
  refine f_ltM (zfr_I hM1 (by decide)) (fun M2 hM2 => ?_)
  refine f_grd ?_
  refine f_ltM (zfr_I hM2 (by decide)) (fun M3 hM3 => ?_)
  refine f_sqM (ρ := (fun y => y.2)) ?_ ?_
  · refine f_zlp (ρ := fun y => y.2.2) ?_ _ _ hM3
    intro rec31 hrec31 u hu
    obtain ⟨x28, x29, M30⟩ := u
    try dsimp only at hu ⊢
    have hM30 := hu
    refine f_ite ?_ ?_
    · exact f_some hM30
    · refine f_grd ?_
      refine f_ite ?_ ?_
      · exact f_some hM30
      · refine f_ltM (zfr_I hM30 (by decide)) (fun M36 hM36 => ?_)
        refine f_sqM (ρ := fun y => y) (f_call hM36 (frX3_reachFrom x28 M36) (by decide)) (fun M37 hM37 => ?_)
        refine f_sq (fun x38 => ?_)
        refine f_grd ?_
        refine f_sqM (ρ := fun y => y) (f_call hM37 (frX3_shiftPrices (M37.2 63 (zn x38)) M37) (by decide)) (fun M39 hM39 => ?_)
        exact hrec31 _ hM39
  · intro u hu
    obtain ⟨x34, M35⟩ := u
    try dsimp only at hu ⊢
    have hM35 := hu
    refine f_zlp (ρ := fun y => y.2.2) ?_ _ _ hM35
    intro rec51 hrec51 u hu
    obtain ⟨x48, x49, M50⟩ := u
    try dsimp only at hu ⊢
    have hM50 := hu
    refine f_ite ?_ ?_
    · exact f_some hM50
    · refine f_ite ?_ ?_
      · exact f_some hM50
      · refine f_grd ?_
        refine f_grd ?_
        refine f_grd ?_
        refine f_ltM (zfr_I hM50 (by decide)) (fun M54 hM54 => ?_)
        refine f_grd ?_
        refine f_lt (fun x55 => ?_)
        exact hrec51 _ hM54
set_option maxHeartbeats 4000000 in
theorem frX3_settle (p1 : Int32) (p2 : Int32) (M : zM) : zof (fX3_settle p1 p2 M) (fun y => y.2) [59, 61, 62, 63, 64, 65] M := by
  have hM := zfr_rf [59, 61, 62, 63, 64, 65] M
  unfold fX3_settle
  refine f_ltM (zfr_I hM (by decide)) (fun M1 hM1 => ?_)
  refine f_sqM (ρ := fun y => y) (f_call hM1 (frJ7_fill_d0a16 61 11 (0 : Int64) M1) (by decide)) (fun M2 hM2 => ?_)
  refine f_sqM (ρ := fun y => y) (f_call hM2 (frJ7_fill_d0a16 62 11 (0 : Int64) M2) (by decide)) (fun M3 hM3 => ?_)
  refine f_sqM (ρ := fun y => y) (f_call hM3 (frJ7_fill_53178 64 11 (0 : Int32) M3) (by decide)) (fun M4 hM4 => ?_)
  refine f_sqM (ρ := (fun y => y)) ?_ ?_
  · refine f_zlp (ρ := fun y => y.2) ?_ _ _ hM4
    intro rec14 hrec14 u hu
    obtain ⟨x12, M13⟩ := u
    try dsimp only at hu ⊢
    have hM13 := hu
    refine f_ite ?_ ?_
    · exact f_some hM13
    · refine f_sqM (ρ := fun y => y) (f_call hM13 (frX3_seat x12 M13) (by decide)) (fun M18 hM18 => ?_)
      exact hrec14 _ hM18
  · intro M17 hM17
    refine f_zlp0 ?_ _ _
    intro rec29 hrec29 u
    obtain ⟨x27, x28⟩ := u
    try dsimp only
    refine f_ite ?_ ?_
    · exact f_some hM17
    · refine f_grd ?_
      refine f_lt (fun x32 => ?_)
      refine f_sq ?_
      intro x33
      refine f_lt (fun x34 => ?_)
      exact hrec29 _
set_option maxHeartbeats 4000000 in
theorem frX4_weighPair (p1 : Int32) (p2 : Int32) (p3 : Int32) (p4 : Int32) (M : zM) : zof (fX4_weighPair p1 p2 p3 p4 M) (fun y => y) [60] M := by
  have hM := zfr_rf [60] M
  unfold fX4_weighPair
  refine f_sq (fun b1 => ?_)
  refine f_ite ?_ ?_
  · exact f_some hM
  · refine f_sq (fun x2 => ?_)
    refine f_sqM (ρ := fun y => y) (f_call hM (frX3_setWeight p1 p2 ((p3.toInt64 * x2.toInt64) + p4.toInt64) M) (by decide)) (fun M3 hM3 => ?_)
    exact f_some hM3
set_option maxHeartbeats 4000000 in
theorem frX4_weighAll (p1 : Int32) (p2 : Int32) (M : zM) : zof (fX4_weighAll p1 p2 M) (fun y => y) [60] M := by
  have hM := zfr_rf [60] M
  unfold fX4_weighAll
  refine f_sqM (ρ := fun y => y) (f_call hM (frX3_clear M) (by decide)) (fun M1 hM1 => ?_)
  refine f_zlp (ρ := fun y => y.2) ?_ _ _ hM1
  intro rec23 hrec23 u hu
  obtain ⟨x21, M22⟩ := u
  try dsimp only at hu ⊢
  have hM22 := hu
  refine f_ite ?_ ?_
  · exact f_some hM22
  · refine f_sqM (ρ := (fun y => y)) ?_ ?_
    · refine f_zlp (ρ := fun y => y.2) ?_ _ _ hM22
      intro rec28 hrec28 u hu
      obtain ⟨x26, M27⟩ := u
      try dsimp only at hu ⊢
      have hM27 := hu
      refine f_ite ?_ ?_
      · exact f_some hM27
      · refine f_sqM (ρ := fun y => y) (f_call hM27 (frX4_weighPair x21 x26 p1 p2 M27) (by decide)) (fun M32 hM32 => ?_)
        exact hrec28 _ hM32
    · intro M31 hM31
      exact hrec23 _ hM31
set_option maxHeartbeats 4000000 in
theorem frX4_settle (M : zM) : zof (fX4_settle M) (fun y => y.2) [59, 61, 62, 63, 64, 65] M := by
  have hM := zfr_rf [59, 61, 62, 63, 64, 65] M
  unfold fX4_settle
  refine f_bi (f_call hM (frX3_settle (M.1 55 0) (M.1 55 1) M) (by decide)) (fun x2 M1 hM1 => ?_)
  exact f_some hM1
set_option maxHeartbeats 4000000 in
theorem frX4_leastGain (M : zM) : zof (fX4_leastGain M) (fun y => y.2) [59, 60, 61, 62, 63, 64, 65] M := by
  have hM := zfr_rf [59, 60, 61, 62, 63, 64, 65] M
  unfold fX4_leastGain
  refine f_sqM (ρ := fun y => y) (f_call hM (frX4_weighAll (1 : Int32) (0 : Int32) M) (by decide)) (fun M1 hM1 => ?_)
  refine f_bi (f_call hM1 (frX4_settle M1) (by decide)) (fun x3 M2 hM2 => ?_)
  exact f_some hM2
set_option maxHeartbeats 4000000 in
theorem frX4_leastTotal (M : zM) : zof (fX4_leastTotal M) (fun y => y.2) [59, 60, 61, 62, 63, 64, 65] M := by
  have hM := zfr_rf [59, 60, 61, 62, 63, 64, 65] M
  unfold fX4_leastTotal
  refine f_sqM (ρ := fun y => y) (f_call hM (frX4_weighAll (1 : Int32) (0 : Int32) M) (by decide)) (fun M1 hM1 => ?_)
  refine f_bi (f_call hM1 (frX4_settle M1) (by decide)) (fun x3 M2 hM2 => ?_)
  exact f_some hM2
set_option maxHeartbeats 4000000 in
theorem frX4_leastWith (p1 : Int32) (p2 : Int32) (M : zM) : zof (fX4_leastWith p1 p2 M) (fun y => y.2) [59, 60, 61, 62, 63, 64, 65] M := by
  have hM := zfr_rf [59, 60, 61, 62, 63, 64, 65] M
  unfold fX4_leastWith
  refine f_sqM (ρ := fun y => y) (f_call hM (frX4_weighAll (1 : Int32) (0 : Int32) M) (by decide)) (fun M1 hM1 => ?_)
  refine f_sqM (ρ := (fun y => y)) ?_ ?_
  · refine f_zlp (ρ := fun y => y.2) ?_ _ _ hM1
    intro rec12 hrec12 u hu
    obtain ⟨x10, M11⟩ := u
    try dsimp only at hu ⊢
    have hM11 := hu
    refine f_ite ?_ ?_
    · exact f_some hM11
    · refine f_sqM (ρ := fun y => y) (f_call hM11 (frX3_setWeight p1 x10 (0 : Int64) M11) (by decide)) (fun M16 hM16 => ?_)
      refine f_sqM (ρ := fun y => y) (f_call hM16 (frX3_setWeight x10 p2 (0 : Int64) M16) (by decide)) (fun M17 hM17 => ?_)
      exact hrec12 _ hM17
  · intro M15 hM15
    refine f_sq (fun x18 => ?_)
    refine f_bi (f_call hM15 (frX4_settle M15) (by decide)) (fun x20 M19 hM19 => ?_)
    exact f_some hM19
set_option maxHeartbeats 4000000 in
theorem frX4_leastWithout (p1 : Int32) (p2 : Int32) (M : zM) : zof (fX4_leastWithout p1 p2 M) (fun y => y.2) [59, 60, 61, 62, 63, 64, 65] M := by
  have hM := zfr_rf [59, 60, 61, 62, 63, 64, 65] M
  unfold fX4_leastWithout
  refine f_sqM (ρ := fun y => y) (f_call hM (frX4_weighAll (1 : Int32) (0 : Int32) M) (by decide)) (fun M1 hM1 => ?_)
  refine f_sqM (ρ := fun y => y) (f_call hM1 (frX3_setWeight p1 p2 (0 : Int64) M1) (by decide)) (fun M2 hM2 => ?_)
  refine f_bi (f_call hM2 (frX4_settle M2) (by decide)) (fun x4 M3 hM3 => ?_)
  exact f_some hM3
set_option maxHeartbeats 4000000 in
theorem frX4_isInAllBest (p1 : Int32) (p2 : Int32) (M : zM) : zof (fX4_isInAllBest p1 p2 M) (fun y => y.2) [59, 60, 61, 62, 63, 64, 65] M := by
  have hM := zfr_rf [59, 60, 61, 62, 63, 64, 65] M
  unfold fX4_isInAllBest
  refine f_bi (f_call hM (frX4_leastWithout p1 p2 M) (by decide)) (fun x2 M1 hM1 => ?_)
  refine f_bi (f_call hM1 (frX4_leastTotal M1) (by decide)) (fun x4 M3 hM3 => ?_)
  refine f_ite ?_ ?_
  · exact f_some hM3
  · exact f_some hM3
set_option maxHeartbeats 4000000 in
theorem frX4_isAlone (p1 : Int32) (p2 : Int32) (p3 : Int32) (M : zM) : zof (fX4_isAlone p1 p2 p3 M) (fun y => y.2) [59, 60, 61, 62, 63, 64, 65] M := by
  have hM := zfr_rf [59, 60, 61, 62, 63, 64, 65] M
  unfold fX4_isAlone
  refine f_lt (fun x1 => ?_)
  refine f_bi (f_call hM (frX4_leastGain M) (by decide)) (fun x3 M2 hM2 => ?_)
  refine f_sqM (ρ := fun y => y) (f_call hM2 (frX4_weighAll (2 : Int32) (0 : Int32) M2) (by decide)) (fun M4 hM4 => ?_)
  refine f_lt (fun x5 => ?_)
  refine f_sqM (ρ := (fun y => y)) ?_ ?_
  · refine f_zlp (ρ := fun y => y.2) ?_ _ _ hM4
    intro rec17 hrec17 u hu
    obtain ⟨x15, M16⟩ := u
    try dsimp only at hu ⊢
    have hM16 := hu
    refine f_ite ?_ ?_
    · exact f_some hM16
    · refine f_lt (fun x21 => ?_)
      refine f_lt (fun x22 => ?_)
      refine f_sqM (ρ := fun y => y) (f_call hM16 (frX4_weighPair x21 x22 (2 : Int32) x1 M16) (by decide)) (fun M23 hM23 => ?_)
      exact hrec17 _ hM23
  · intro M20 hM20
    refine f_bi (f_call hM20 (frX4_settle M20) (by decide)) (fun x27 M26 hM26 => ?_)
    refine f_ite ?_ ?_
    · exact f_some hM26
    · exact f_some hM26
set_option maxHeartbeats 4000000 in
theorem frX4_fewestInBest (M : zM) : zof (fX4_fewestInBest M) (fun y => y.2) [59, 60, 61, 62, 63, 64, 65] M := by
  have hM := zfr_rf [59, 60, 61, 62, 63, 64, 65] M
  unfold fX4_fewestInBest
  refine f_bi (f_call hM (frX4_leastGain M) (by decide)) (fun x2 M1 hM1 => ?_)
  refine f_sqM (ρ := fun y => y) (f_call hM1 (frX4_weighAll (32 : Int32) (1 : Int32) M1) (by decide)) (fun M3 hM3 => ?_)
  refine f_bi (f_call hM3 (frX4_settle M3) (by decide)) (fun x5 M4 hM4 => ?_)
  exact f_some hM4
set_option maxHeartbeats 4000000 in
theorem frX4_mostInBest (M : zM) : zof (fX4_mostInBest M) (fun y => y.2) [59, 60, 61, 62, 63, 64, 65] M := by
  have hM := zfr_rf [59, 60, 61, 62, 63, 64, 65] M
  unfold fX4_mostInBest
  refine f_bi (f_call hM (frX4_leastGain M) (by decide)) (fun x2 M1 hM1 => ?_)
  refine f_sqM (ρ := fun y => y) (f_call hM1 (frX4_weighAll (32 : Int32) (-1 : Int32) M1) (by decide)) (fun M3 hM3 => ?_)
  refine f_bi (f_call hM3 (frX4_settle M3) (by decide)) (fun x5 M4 hM4 => ?_)
  exact f_some hM4
set_option maxHeartbeats 4000000 in
theorem frX4_findFirst (M : zM) : zof (fX4_findFirst M) (fun y => y) [59, 60, 61, 62, 63, 64, 65, 66] M := by
  have hM := zfr_rf [59, 60, 61, 62, 63, 64, 65, 66] M
  unfold fX4_findFirst
  refine f_sqM (ρ := fun y => y) (f_call hM (frX3_clear M) (by decide)) (fun M1 hM1 => ?_)
  refine f_sqM (ρ := (fun y => y)) ?_ ?_
  · refine f_zlp (ρ := fun y => y.2.2) ?_ _ _ hM1
    intro rec38 hrec38 u hu
    obtain ⟨x35, x36, M37⟩ := u
    try dsimp only at hu ⊢
    have hM37 := hu
    refine f_ite ?_ ?_
    · exact f_some hM37
    · refine f_lt (fun x42 => ?_)
      refine f_sqM (ρ := (fun y => y)) ?_ ?_
      · refine f_zlp (ρ := fun y => y.2) ?_ _ _ hM37
        intro rec45 hrec45 u hu
        obtain ⟨x43, M44⟩ := u
        try dsimp only at hu ⊢
        have hM44 := hu
        refine f_ite ?_ ?_
        · exact f_some hM44
        · refine f_sq (fun b49 => ?_)
          refine f_sqM (ρ := (fun y => y)) ?_ ?_
          · refine f_ite ?_ ?_
            · exact f_some hM44
            · refine f_lt (fun x54 => ?_)
              refine f_sq (fun x55 => ?_)
              refine f_sqM (ρ := fun y => y) (f_call hM44 (frX3_setWeight x36 x43 (((25937424601 : Int64) * x55.toInt64) - x54) M44) (by decide)) (fun M56 hM56 => ?_)
              exact f_some hM56
          · intro M53 hM53
            exact hrec45 _ hM53
      · intro M48 hM48
        exact hrec38 _ hM48
  · intro M41 hM41
    refine f_bi (f_call hM41 (frX4_settle M41) (by decide)) (fun x60 M59 hM59 => ?_)
    refine f_zlp (ρ := fun y => y.2) ?_ _ _ hM59
    intro rec71 hrec71 u hu
    obtain ⟨x69, M70⟩ := u
    try dsimp only at hu ⊢
    have hM70 := hu
    refine f_ite ?_ ?_
    · exact f_some hM70
    · refine f_sq ?_
      intro x75
      refine f_grd ?_
      refine f_ltM (zfr_I hM70 (by decide)) (fun M76 hM76 => ?_)
      exact hrec71 _ hM76
set_option maxHeartbeats 4000000 in
theorem frX4_isFirstOnlyBest (M : zM) : zof (fX4_isFirstOnlyBest M) (fun y => y.2) [59, 60, 61, 62, 63, 64, 65] M := by
  have hM := zfr_rf [59, 60, 61, 62, 63, 64, 65] M
  unfold fX4_isFirstOnlyBest
  refine f_sqM (ρ := fun y => y) (f_call hM (frX4_weighAll (32 : Int32) (-1 : Int32) M) (by decide)) (fun M1 hM1 => ?_)
  refine f_sqM (ρ := (fun y => y.2)) ?_ ?_
  · refine f_zlp (ρ := fun y => y.2.2) ?_ _ _ hM1
    intro rec18 hrec18 u hu
    obtain ⟨x15, x16, M17⟩ := u
    try dsimp only at hu ⊢
    have hM17 := hu
    refine f_ite ?_ ?_
    · exact f_some hM17
    · refine f_grd ?_
      refine f_sqM (ρ := (fun y => y.2)) ?_ ?_
      · refine f_ite ?_ ?_
        · exact f_some hM17
        · refine f_grd ?_
          refine f_sq (fun x31 => ?_)
          refine f_lt (fun x32 => ?_)
          refine f_grd ?_
          refine f_sqM (ρ := fun y => y) (f_call hM17 (frX4_weighPair x16 (M17.1 66 (zn x16)) (32 : Int32) (1 : Int32) M17) (by decide)) (fun M33 hM33 => ?_)
          exact f_some hM33
      · intro u hu
        obtain ⟨x26, M27⟩ := u
        try dsimp only at hu ⊢
        have hM27 := hu
        exact hrec18 _ hM27
  · intro u hu
    obtain ⟨x21, M22⟩ := u
    try dsimp only at hu ⊢
    have hM22 := hu
    refine f_bi (f_call hM22 (frX4_settle M22) (by decide)) (fun x37 M36 hM36 => ?_)
    refine f_sq (fun x38 => ?_)
    refine f_ite ?_ ?_
    · exact f_some hM36
    · exact f_some hM36
set_option maxHeartbeats 4000000 in
theorem frX5_comparePlates (a1 : Nat) (p2 : Int32) (M : zM) : zof (fX5_comparePlates a1 p2 M) (fun y => y) [55, 56] M := by
  have hM := zfr_rf [55, 56] M
  unfold fX5_comparePlates
  refine f_ltM (zfr_I hM (by decide)) (fun M1 hM1 => ?_)
  refine f_ltM (zfr_I hM1 (by decide)) (fun M2 hM2 => ?_)
  refine f_grd ?_
  refine f_lt (fun x3 => ?_)
  refine f_grd ?_
  refine f_lt (fun x4 => ?_)
  refine f_ltM (zfr_I hM2 (by decide)) (fun M5 hM5 => ?_)
  refine f_ltM (zfr_I hM5 (by decide)) (fun M6 hM6 => ?_)
  refine f_zlp (ρ := fun y => y.2) ?_ _ _ hM6
  intro rec30 hrec30 u hu
  obtain ⟨x28, M29⟩ := u
  try dsimp only at hu ⊢
  have hM29 := hu
  refine f_ite ?_ ?_
  · exact f_some hM29
  · refine f_sqM (ρ := (fun y => y)) ?_ ?_
    · refine f_zlp (ρ := fun y => y.2) ?_ _ _ hM29
      intro rec35 hrec35 u hu
      obtain ⟨x33, M34⟩ := u
      try dsimp only at hu ⊢
      have hM34 := hu
      refine f_ite ?_ ?_
      · exact f_some hM34
      · refine f_sq (fun x39 => ?_)
        refine f_grd ?_
        refine f_ltM (zfr_I hM34 (by decide)) (fun M40 hM40 => ?_)
        exact hrec35 _ hM40
    · intro M38 hM38
      exact hrec30 _ hM38
set_option maxHeartbeats 4000000 in
theorem frX5_addTimes (a1 : Nat) (p2 : Int32) (M : zM) : zof (fX5_addTimes a1 p2 M) (fun y => y) [57] M := by
  have hM := zfr_rf [57] M
  unfold fX5_addTimes
  refine f_zlp (ρ := fun y => y.2) ?_ _ _ hM
  intro rec28 hrec28 u hu
  obtain ⟨x26, M27⟩ := u
  try dsimp only at hu ⊢
  have hM27 := hu
  refine f_ite ?_ ?_
  · exact f_some hM27
  · refine f_sqM (ρ := (fun y => y)) ?_ ?_
    · refine f_zlp (ρ := fun y => y.2) ?_ _ _ hM27
      intro rec33 hrec33 u hu
      obtain ⟨x31, M32⟩ := u
      try dsimp only at hu ⊢
      have hM32 := hu
      refine f_ite ?_ ?_
      · exact f_some hM32
      · refine f_grd ?_
        refine f_lt (fun x37 => ?_)
        refine f_sq (fun x38 => ?_)
        refine f_sq (fun x39 => ?_)
        refine f_grd ?_
        refine f_ltM (zfr_I hM32 (by decide)) (fun M40 hM40 => ?_)
        exact hrec33 _ hM40
    · intro M36 hM36
      exact hrec28 _ hM36
set_option maxHeartbeats 4000000 in
theorem frX6_setAsAtFirst (a0 : Nat) (M : zM) : zof (fX6_setAsAtFirst a0 M) (fun y => y) [a0 + 1, a0 + 2] M := by
  have hM := zfr_rf [a0 + 1, a0 + 2] M
  unfold fX6_setAsAtFirst
  refine f_grd ?_
  refine f_ltM (zfr_A hM (by simp)) (fun M1 hM1 => ?_)
  refine f_sqM (ρ := fun y => y) (f_call hM1 (frJ7_fill_53178 (a0 + 2) 64 (-4 : Int32) M1) (by intro c hc; simp at hc ⊢; omega)) (fun M2 hM2 => ?_)
  exact f_some hM2
set_option maxHeartbeats 4000000 in
theorem frX6_copyFrom (a0 : Nat) (a1 : Nat) (M : zM) : zof (fX6_copyFrom a0 a1 M) (fun y => y) [a0 + 1, a0 + 2] M := by
  have hM := zfr_rf [a0 + 1, a0 + 2] M
  unfold fX6_copyFrom
  refine f_grd ?_
  refine f_ltM (zfr_A hM (by simp)) (fun M1 hM1 => ?_)
  refine f_grd ?_
  refine f_ltM (zfr_A hM1 (by simp)) (fun M2 hM2 => ?_)
  exact f_some hM2
set_option maxHeartbeats 4000000 in
theorem frX7_copyFrom (a0 : Nat) (a1 : Nat) (M : zM) : zof (fX7_copyFrom a0 a1 M) (fun y => y) [a0 + 1, a0 + 10, a0 + 11, a0 + 12, a0 + 2, a0 + 3, a0 + 4, a0 + 5, a0 + 6, a0 + 7, a0 + 8] M := by
  have hM := zfr_rf [a0 + 1, a0 + 10, a0 + 11, a0 + 12, a0 + 2, a0 + 3, a0 + 4, a0 + 5, a0 + 6, a0 + 7, a0 + 8] M
  unfold fX7_copyFrom
  refine f_sqM (ρ := fun y => y) (f_call hM (frX2_copyFrom (a0 + 1) (a1 + 1) M) (by intro c hc; simp at hc ⊢; omega)) (fun M1 hM1 => ?_)
  refine f_sqM (ρ := fun y => y) (f_call hM1 (frX2_copyFrom (a0 + 5) (a1 + 5) M1) (by intro c hc; simp at hc ⊢; omega)) (fun M2 hM2 => ?_)
  refine f_sqM (ρ := fun y => y) (f_call hM2 (frX6_copyFrom (a0 + 9) (a1 + 9) M2) (by intro c hc; simp at hc ⊢; omega)) (fun M3 hM3 => ?_)
  refine f_grd ?_
  refine f_ltM (zfr_A hM3 (by simp)) (fun M4 hM4 => ?_)
  exact f_some hM4
set_option maxHeartbeats 4000000 in
theorem frX8_renew (a0 : Nat) (p1 : Int32) (p2 : Int32) (M : zM) : zof (fX8_renew a0 p1 p2 M) (fun y => y) [a0, a0 + 1] M := by
  have hM := zfr_rf [a0, a0 + 1] M
  unfold fX8_renew
  refine f_ltM (zfr_I hM (by simp)) (fun M1 hM1 => ?_)
  refine f_ltM (zfr_I hM1 (by simp)) (fun M2 hM2 => ?_)
  refine f_ltM (zfr_I hM2 (by simp)) (fun M3 hM3 => ?_)
  refine f_sqM (ρ := fun y => y) (f_call hM3 (frJ7_fill_53178 (a0 + 1) 64 (0 : Int32) M3) (by intro c hc; simp at hc ⊢; omega)) (fun M4 hM4 => ?_)
  exact f_some hM4
set_option maxHeartbeats 4000000 in
theorem frX8_put (a0 : Nat) (p1 : Int32) (p2 : Int32) (M : zM) : zof (fX8_put a0 p1 p2 M) (fun y => y) [a0 + 1] M := by
  have hM := zfr_rf [a0 + 1] M
  unfold fX8_put
  refine f_lt (fun x1 => ?_)
  refine f_ite ?_ ?_
  · refine f_grd ?_
    refine f_ltM (zfr_I hM (by simp)) (fun M2 hM2 => ?_)
    exact f_some hM2
  · refine f_ite ?_ ?_
    · refine f_grd ?_
      refine f_ltM (zfr_I hM (by simp)) (fun M3 hM3 => ?_)
      exact f_some hM3
    · refine f_grd ?_
      refine f_ltM (zfr_I hM (by simp)) (fun M4 hM4 => ?_)
      exact f_some hM4
set_option maxHeartbeats 4000000 in
theorem frX8_appendLine (a0 : Nat) (p1 : Int32) (a2 : Nat) (M : zM) : zof (fX8_appendLine a0 p1 a2 M) (fun y => y) [a2, a2 + 1, a2 + 2, a2 + 3] M := by
  have hM := zfr_rf [a2, a2 + 1, a2 + 2, a2 + 3] M
  unfold fX8_appendLine
  refine f_grd ?_
  refine f_grd ?_
  refine f_bi (f_call hM (frX2_append a2 (M.1 (a0 + 1) (zn p1)) (M.1 (a0 + 1) (zn ((p1 + (1 : Int32)) + (4 : Int32)))) M) (by intro c hc; simp at hc ⊢; omega)) (fun x2 M1 hM1 => ?_)
  refine f_grd ?_
  refine f_ltM (zfr_A hM1 (by simp)) (fun M3 hM3 => ?_)
  exact f_some hM3
set_option maxHeartbeats 4000000 in
theorem frX9_append (p1 : Int64) (M : zM) : zof (fX9_append p1 M) (fun y => y.2) [50, 51] M := by
  have hM := zfr_rf [50, 51] M
  unfold fX9_append
  refine f_ite ?_ ?_
  · refine f_sqM (ρ := (fun y => y)) ?_ ?_
    · refine f_zlp (ρ := fun y => y.2) ?_ _ _ hM
      intro rec10 hrec10 u hu
      obtain ⟨x8, M9⟩ := u
      try dsimp only at hu ⊢
      have hM9 := hu
      refine f_ite ?_ ?_
      · exact f_some hM9
      · refine f_grd ?_
        refine f_ltM (zfr_I hM9 (by decide)) (fun M14 hM14 => ?_)
        exact hrec10 _ hM14
    · intro M13 hM13
      refine f_ltM (zfr_I hM13 (by decide)) (fun M15 hM15 => ?_)
      exact f_some hM15
  · exact f_some hM
set_option maxHeartbeats 4000000 in
theorem frX9_fail (p1 : Int32) (M : zM) : zof (fX9_fail p1 M) (fun y => y.2) [50] M := by
  have hM := zfr_rf [50] M
  unfold fX9_fail
  refine f_ltM (zfr_I hM (by decide)) (fun M1 hM1 => ?_)
  refine f_ltM (zfr_I hM1 (by decide)) (fun M2 hM2 => ?_)
  exact f_some hM2
set_option maxHeartbeats 4000000 in
theorem frX9_takeToken (p1 : Int32) (M : zM) : zof (fX9_takeToken p1 M) (fun y => y.2) [50] M := by
  have hM := zfr_rf [50] M
  unfold fX9_takeToken
  refine f_sqM (ρ := (fun y => y)) ?_ ?_
  · refine f_zlp (ρ := fun y => y) ?_ _ _ hM
    intro rec2 hrec2 M1 hM1
    refine f_ite ?_ ?_
    · exact f_some hM1
    · refine f_grd ?_
      refine f_ite ?_ ?_
      · refine f_ltM (zfr_I hM1 (by decide)) (fun M4 hM4 => ?_)
        exact hrec2 _ hM4
      · exact f_some hM1
  · intro M3 hM3
    refine f_ltM (zfr_I hM3 (by decide)) (fun M5 hM5 => ?_)
    refine f_sq ?_
    intro x7
    refine f_ltM (zfr_I hM5 (by decide)) (fun M8 hM8 => ?_)
    refine f_ltM (zfr_I hM8 (by decide)) (fun M9 hM9 => ?_)
    refine f_sqM (ρ := (fun y => y)) ?_ ?_
    · refine f_zlp (ρ := fun y => y) ?_ _ _ hM9
      intro rec11 hrec11 M10 hM10
      refine f_ite ?_ ?_
      · exact f_some hM10
      · refine f_grd ?_
        refine f_lt (fun x13 => ?_)
        refine f_ite ?_ ?_
        · refine f_jn0 ?_ ?_
          · intro _
            refine f_grd ?_
            refine f_ltM (zfr_I hM10 (by decide)) (fun M14 hM14 => ?_)
            refine f_ltM (zfr_I hM14 (by decide)) (fun M15 hM15 => ?_)
            exact hrec11 _ hM15
          · intro k16 hk16
            refine f_ite ?_ ?_
            · refine f_ite ?_ ?_
              · exact hk16 _
              · exact f_some hM10
            · exact hk16 _
        · exact f_some hM10
    · intro M12 hM12
      refine f_jn0 ?_ ?_
      · intro _
        refine f_bi (f_call hM12 (frX9_fail (1 : Int32) M12) (by decide)) (fun b25 M24 hM24 => ?_)
        exact f_some hM24
      · intro k26 hk26
        refine f_ite ?_ ?_
        · exact hk26 _
        · refine f_jn0 ?_ ?_
          · intro _
            refine f_jn (ρ := fun y => y) ?_ ?_
            · intro M29 hM29
              exact f_some hM29
            · intro k30 hk30
              refine f_ite ?_ ?_
              · exact hk30 _ hM12
              · refine f_ite ?_ ?_
                · exact hk30 _ hM12
                · refine f_bi (f_call hM12 (frX9_fail (2 : Int32) M12) (by decide)) (fun b32 M31 hM31 => ?_)
                  refine f_ite ?_ ?_
                  · exact f_some hM31
                  · exact hk30 _ hM31
          · intro k33 hk33
            refine f_ite ?_ ?_
            · refine f_ite ?_ ?_
              · exact hk33 _
              · exact hk26 _
            · exact hk33 _
set_option maxHeartbeats 4000000 in
theorem frX9_takeLetter (M : zM) : zof (fX9_takeLetter M) (fun y => y.2) [50] M := by
  have hM := zfr_rf [50] M
  unfold fX9_takeLetter
  refine f_bi (f_call hM (frX9_takeToken (1 : Int32) M) (by decide)) (fun b2 M1 hM1 => ?_)
  refine f_ite ?_ ?_
  · exact f_some hM1
  · refine f_grd ?_
    refine f_ltM (zfr_I hM1 (by decide)) (fun M3 hM3 => ?_)
    refine f_jn (ρ := fun y => y) ?_ ?_
    · intro M9 hM9
      exact f_some hM9
    · intro k10 hk10
      refine f_jn0 ?_ ?_
      · intro _
        refine f_bi (f_call hM3 (frX9_fail (3 : Int32) M3) (by decide)) (fun b13 M12 hM12 => ?_)
        refine f_ite ?_ ?_
        · exact f_some hM12
        · exact hk10 _ hM12
      · intro k14 hk14
        refine f_ite ?_ ?_
        · refine f_lt (fun b15 => ?_)
          refine f_ite ?_ ?_
          · exact hk14 _
          · exact hk10 _ hM3
        · exact hk14 _
set_option maxHeartbeats 4000000 in
theorem frX9_takeNumber (p1 : Int32) (p2 : Int32) (M : zM) : zof (fX9_takeNumber p1 p2 M) (fun y => y.2) [50] M := by
  have hM := zfr_rf [50] M
  unfold fX9_takeNumber
  refine f_bi (f_call hM (frX9_takeToken (2 : Int32) M) (by decide)) (fun b2 M1 hM1 => ?_)
  refine f_ite ?_ ?_
  · exact f_some hM1
  · refine f_lt (fun b3 => ?_)
    refine f_jn (ρ := fun y => y) ?_ ?_
    · intro M6 hM6
      exact f_some hM6
    · intro k7 hk7
      refine f_ite ?_ ?_
      · refine f_bi (f_call hM1 (frX9_fail (3 : Int32) M1) (by decide)) (fun b9 M8 hM8 => ?_)
        refine f_ite ?_ ?_
        · exact f_some hM8
        · exact hk7 _ hM8
      · exact hk7 _ hM1
set_option maxHeartbeats 4000000 in
theorem frX9_takeMixed (a1 : Nat) (M : zM) : zof (fX9_takeMixed a1 M) (fun y => y.2) [50, a1 + 2] M := by
  have hM := zfr_rf [50, a1 + 2] M
  unfold fX9_takeMixed
  refine f_bi (f_call hM (frX9_takeLetter M) (by intro c hc; simp at hc ⊢; omega)) (fun b2 M1 hM1 => ?_)
  refine f_ite ?_ ?_
  · exact f_some hM1
  · refine f_lt (fun x3 => ?_)
    refine f_bi (f_call hM1 (frX9_takeLetter M1) (by intro c hc; simp at hc ⊢; omega)) (fun b5 M4 hM4 => ?_)
    refine f_ite ?_ ?_
    · exact f_some hM4
    · refine f_lt (fun x6 => ?_)
      refine f_ite ?_ ?_
      · refine f_bi (f_call hM4 (frX9_fail (3 : Int32) M4) (by intro c hc; simp at hc ⊢; omega)) (fun b8 M7 hM7 => ?_)
        exact f_some hM7
      · refine f_grd ?_
        refine f_ite ?_ ?_
        · refine f_bi (f_call hM4 (frX9_takeNumber (0 : Int32) (50 : Int32) M4) (by intro c hc; simp at hc ⊢; omega)) (fun b10 M9 hM9 => ?_)
          refine f_ite ?_ ?_
          · exact f_some hM9
          · refine f_grd ?_
            refine f_ltM (zfr_I hM9 (by simp)) (fun M11 hM11 => ?_)
            exact f_some hM11
        · refine f_bi (f_call hM4 (frX9_fail (4 : Int32) M4) (by intro c hc; simp at hc ⊢; omega)) (fun b13 M12 hM12 => ?_)
          exact f_some hM12
set_option maxHeartbeats 4000000 in
theorem frX9_takeMinutes (a1 : Nat) (M : zM) : zof (fX9_takeMinutes a1 M) (fun y => y.2) [50, a1] M := by
  have hM := zfr_rf [50, a1] M
  unfold fX9_takeMinutes
  refine f_bi (f_call hM (frX9_takeNumber (0 : Int32) (500 : Int32) M) (by intro c hc; simp at hc ⊢; omega)) (fun b2 M1 hM1 => ?_)
  refine f_ite ?_ ?_
  · exact f_some hM1
  · refine f_grd ?_
    refine f_ltM (zfr_I hM1 (by simp)) (fun M3 hM3 => ?_)
    refine f_grd ?_
    refine f_bi (f_call hM3 (frX9_takeNumber (M3.1 a1 (zn (0 : Int32))) (500 : Int32) M3) (by intro c hc; simp at hc ⊢; omega)) (fun b5 M4 hM4 => ?_)
    refine f_ite ?_ ?_
    · exact f_some hM4
    · refine f_grd ?_
      refine f_ltM (zfr_I hM4 (by simp)) (fun M6 hM6 => ?_)
      refine f_grd ?_
      refine f_grd ?_
      refine f_bi (f_call hM6 (frX9_takeNumber (M6.1 a1 (zn (0 : Int32))) (M6.1 a1 (zn (1 : Int32))) M6) (by intro c hc; simp at hc ⊢; omega)) (fun b8 M7 hM7 => ?_)
      refine f_ite ?_ ?_
      · exact f_some hM7
      · refine f_grd ?_
        refine f_ltM (zfr_I hM7 (by simp)) (fun M9 hM9 => ?_)
        refine f_bi (f_call hM9 (frX9_takeNumber (0 : Int32) (9 : Int32) M9) (by intro c hc; simp at hc ⊢; omega)) (fun b11 M10 hM10 => ?_)
        refine f_ite ?_ ?_
        · exact f_some hM10
        · refine f_grd ?_
          refine f_ltM (zfr_I hM10 (by simp)) (fun M12 hM12 => ?_)
          exact f_some hM12
set_option maxHeartbeats 4000000 in
theorem frX9_takePoints (a1 : Nat) (p2 : Int32) (M : zM) : zof (fX9_takePoints a1 p2 M) (fun y => y.2) [50, a1] M := by
  have hM := zfr_rf [50, a1] M
  unfold fX9_takePoints
  refine f_lt (fun x1 => ?_)
  refine f_lt (fun x2 => ?_)
  refine f_bi (f_call hM (frX9_takeNumber (0 : Int32) x2 M) (by intro c hc; simp at hc ⊢; omega)) (fun b4 M3 hM3 => ?_)
  refine f_ite ?_ ?_
  · exact f_some hM3
  · refine f_lt (fun x5 => ?_)
    refine f_grd ?_
    refine f_ltM (zfr_I hM3 (by simp)) (fun M6 hM6 => ?_)
    exact f_some hM6
set_option maxHeartbeats 4000000 in
theorem frX9_takeItem (a1 : Nat) (M : zM) : zof (fX9_takeItem a1 M) (fun y => y.2) [50, a1 + 1, a1 + 2] M := by
  have hM := zfr_rf [50, a1 + 1, a1 + 2] M
  unfold fX9_takeItem
  refine f_sq ?_
  intro x2
  refine f_ite ?_ ?_
  · refine f_bi (f_call hM (frX9_fail (2 : Int32) M) (by intro c hc; simp at hc ⊢; omega)) (fun b4 M3 hM3 => ?_)
    exact f_some hM3
  · refine f_ite ?_ ?_
    · refine f_bi (f_call hM (frX9_takeMixed a1 M) (by intro c hc; simp at hc ⊢; omega)) (fun b6 M5 hM5 => ?_)
      exact f_some hM5
    · refine f_lt (fun x7 => ?_)
      refine f_ite ?_ ?_
      · refine f_ltM (zfr_I hM (by simp)) (fun M8 hM8 => ?_)
        refine f_ite ?_ ?_
        · refine f_bi (f_call hM8 (frX9_takeMinutes (a1 + 1) M8) (by intro c hc; simp at hc ⊢; omega)) (fun b10 M9 hM9 => ?_)
          exact f_some hM9
        · refine f_bi (f_call hM8 (frX9_takePoints (a1 + 1) x2 M8) (by intro c hc; simp at hc ⊢; omega)) (fun b12 M11 hM11 => ?_)
          exact f_some hM11
      · refine f_bi (f_call hM (frX9_fail (4 : Int32) M) (by intro c hc; simp at hc ⊢; omega)) (fun b14 M13 hM13 => ?_)
        exact f_some hM13
set_option maxHeartbeats 4000000 in
theorem frX9_tellRoad (a1 : Nat) (M : zM) : zof (fX9_tellRoad a1 M) (fun y => y.2) [50, a1 + 1, a1 + 2] M := by
  have hM := zfr_rf [50, a1 + 1, a1 + 2] M
  unfold fX9_tellRoad
  refine f_sqM (ρ := fun y => y) (f_call hM (frX6_setAsAtFirst a1 M) (by intro c hc; simp at hc ⊢; omega)) (fun M1 hM1 => ?_)
  refine f_ltM (zfr_I hM1 (by simp)) (fun M2 hM2 => ?_)
  refine f_ltM (zfr_I hM2 (by simp)) (fun M3 hM3 => ?_)
  refine f_ltM (zfr_I hM3 (by simp)) (fun M4 hM4 => ?_)
  refine f_zlp (ρ := fun y => y.2) ?_ _ _ hM4
  intro rec18 hrec18 u hu
  obtain ⟨x16, M17⟩ := u
  try dsimp only at hu ⊢
  have hM17 := hu
  refine f_jn (ρ := fun y => y) ?_ ?_
  · intro M27 hM27
    refine f_ltM (zfr_I hM27 (by simp)) (fun M28 hM28 => ?_)
    refine f_ite ?_ ?_
    · exact f_some hM28
    · exact f_some hM28
  · intro k29 hk29
    refine f_ite ?_ ?_
    · exact hk29 _ hM17
    · refine f_bi (f_call hM17 (frX9_takeToken (5 : Int32) M17) (by intro c hc; simp at hc ⊢; omega)) (fun b31 M30 hM30 => ?_)
      refine f_ite ?_ ?_
      · exact hk29 _ hM30
      · refine f_ite ?_ ?_
        · exact hk29 _ hM30
        · refine f_bi (f_call hM30 (frX9_takeItem a1 M30) (by intro c hc; simp at hc ⊢; omega)) (fun b33 M32 hM32 => ?_)
          refine f_ite ?_ ?_
          · exact hk29 _ hM32
          · refine f_bi (f_call hM32 (frX9_takeToken (3 : Int32) M32) (by intro c hc; simp at hc ⊢; omega)) (fun b35 M34 hM34 => ?_)
            refine f_ite ?_ ?_
            · exact hk29 _ hM34
            · exact hrec18 _ hM34
set_option maxHeartbeats 4000000 in
theorem frX10_feed (p1 : Int64) (M : zM) : zof (fX10_feed p1 M) (fun y => y.2) [50, 51] M := by
  have hM := zfr_rf [50, 51] M
  unfold fX10_feed
  refine f_bi (f_call hM (frX9_append p1 M) (by decide)) (fun b2 M1 hM1 => ?_)
  refine f_ite ?_ ?_
  · exact f_some hM1
  · exact f_some hM1
set_option maxHeartbeats 4000000 in
theorem frX10_end (p1 : Int32) (M : zM) : zof (fX10_end p1 M) (fun y => y.2) [50] M := by
  have hM := zfr_rf [50] M
  unfold fX10_end
  refine f_lt (fun x1 => ?_)
  refine f_lt (fun b2 => ?_)
  refine f_ite ?_ ?_
  · exact f_some hM
  · refine f_ltM (zfr_I hM (by decide)) (fun M3 hM3 => ?_)
    exact f_some hM3
set_option maxHeartbeats 4000000 in
theorem frX10_road (M : zM) : zof (fX10_road M) (fun y => y.2) [11, 12, 50, 53, 54] M := by
  have hM := zfr_rf [11, 12, 50, 53, 54] M
  unfold fX10_road
  refine f_bi (f_call hM (frX9_tellRoad 52 M) (by decide)) (fun x2 M1 hM1 => ?_)
  refine f_ite ?_ ?_
  · exact f_some hM1
  · refine f_sqM (ρ := fun y => y) (f_call hM1 (frX6_copyFrom 10 52 M1) (by decide)) (fun M3 hM3 => ?_)
    exact f_some hM3
set_option maxHeartbeats 4000000 in
theorem frX10_setClock (p1 : Int32) (M : zM) : zof (fX10_setClock p1 M) (fun y => y.2) [11] M := by
  have hM := zfr_rf [11] M
  unfold fX10_setClock
  refine f_lt (fun b1 => ?_)
  refine f_ite ?_ ?_
  · exact f_some hM
  · refine f_grd ?_
    refine f_lt (fun x2 => ?_)
    refine f_grd ?_
    refine f_ltM (zfr_I hM (by decide)) (fun M3 hM3 => ?_)
    exact f_some hM3
set_option maxHeartbeats 4000000 in
theorem frX10_lookAtPairs (p1 : Int32) (M : zM) : zof (fX10_lookAtPairs p1 M) (fun y => y) [55, 56, 57] M := by
  have hM := zfr_rf [55, 56, 57] M
  unfold fX10_lookAtPairs
  refine f_sqM (ρ := fun y => y) (f_call hM (frX5_comparePlates 1 p1 M) (by decide)) (fun M1 hM1 => ?_)
  refine f_grd ?_
  refine f_sqM (ρ := fun y => y) (f_call hM1 (frX5_addTimes 1 (M1.1 11 (zn (9 : Int32))) M1) (by decide)) (fun M2 hM2 => ?_)
  exact f_some hM2
set_option maxHeartbeats 4000000 in
theorem frX10_cost (p1 : Int32) (p2 : Int32) (M : zM) : zof (fX10_cost p1 p2 M) (fun y => y.2) [55, 56, 57] M := by
  have hM := zfr_rf [55, 56, 57] M
  unfold fX10_cost
  refine f_lt (fun b1 => ?_)
  refine f_ite ?_ ?_
  · exact f_some hM
  · refine f_sqM (ρ := fun y => y) (f_call hM (frX10_lookAtPairs (15 : Int32) M) (by decide)) (fun M2 hM2 => ?_)
    refine f_sq (fun x3 => ?_)
    exact f_some hM2
set_option maxHeartbeats 4000000 in
theorem frX10_best (p1 : Int32) (M : zM) : zof (fX10_best p1 M) (fun y => y.2) [55, 56, 57, 59, 60, 61, 62, 63, 64, 65, 68, 69] M := by
  have hM := zfr_rf [55, 56, 57, 59, 60, 61, 62, 63, 64, 65, 68, 69] M
  unfold fX10_best
  refine f_lt (fun b1 => ?_)
  refine f_ite ?_ ?_
  · exact f_some hM
  · refine f_sqM (ρ := fun y => y) (f_call hM (frX10_lookAtPairs (15 : Int32) M) (by decide)) (fun M2 hM2 => ?_)
    refine f_ite ?_ ?_
    · refine f_bi (f_call hM2 (frX4_leastTotal M2) (by decide)) (fun x4 M3 hM3 => ?_)
      exact f_some hM3
    · refine f_ite ?_ ?_
      · refine f_bi (f_call hM2 (frX0_countBest M2) (by decide)) (fun x6 M5 hM5 => ?_)
        exact f_some hM5
      · refine f_ite ?_ ?_
        · refine f_bi (f_call hM2 (frX0_countAll (-4 : Int32) (-4 : Int32) M2) (by decide)) (fun x8 M7 hM7 => ?_)
          exact f_some hM7
        · exact f_some hM2
set_option maxHeartbeats 4000000 in
theorem frX10_findFirst (M : zM) : zof (fX10_findFirst M) (fun y => y) [55, 56, 57, 59, 60, 61, 62, 63, 64, 65, 66] M := by
  have hM := zfr_rf [55, 56, 57, 59, 60, 61, 62, 63, 64, 65, 66] M
  unfold fX10_findFirst
  refine f_sqM (ρ := fun y => y) (f_call hM (frX10_lookAtPairs (15 : Int32) M) (by decide)) (fun M1 hM1 => ?_)
  refine f_sqM (ρ := fun y => y) (f_call hM1 (frX4_findFirst M1) (by decide)) (fun M2 hM2 => ?_)
  exact f_some hM2
set_option maxHeartbeats 4000000 in
theorem frX10_first (p1 : Int32) (M : zM) : zof (fX10_first p1 M) (fun y => y.2) [55, 56, 57, 59, 60, 61, 62, 63, 64, 65, 66] M := by
  have hM := zfr_rf [55, 56, 57, 59, 60, 61, 62, 63, 64, 65, 66] M
  unfold fX10_first
  refine f_lt (fun b1 => ?_)
  refine f_ite ?_ ?_
  · exact f_some hM
  · refine f_sqM (ρ := fun y => y) (f_call hM (frX10_findFirst M) (by decide)) (fun M2 hM2 => ?_)
    refine f_grd ?_
    exact f_some hM2
set_option maxHeartbeats 4000000 in
theorem frX10_sure (p1 : Int32) (p2 : Int32) (M : zM) : zof (fX10_sure p1 p2 M) (fun y => y.2) [55, 56, 57, 59, 60, 61, 62, 63, 64, 65] M := by
  have hM := zfr_rf [55, 56, 57, 59, 60, 61, 62, 63, 64, 65] M
  unfold fX10_sure
  refine f_lt (fun b1 => ?_)
  refine f_ite ?_ ?_
  · exact f_some hM
  · refine f_sqM (ρ := fun y => y) (f_call hM (frX10_lookAtPairs (15 : Int32) M) (by decide)) (fun M2 hM2 => ?_)
    refine f_sq (fun b3 => ?_)
    refine f_ite ?_ ?_
    · exact f_some hM2
    · refine f_bi (f_call hM2 (frX4_leastWith p1 p2 M2) (by decide)) (fun x5 M4 hM4 => ?_)
      refine f_bi (f_call hM4 (frX4_leastTotal M4) (by decide)) (fun x7 M6 hM6 => ?_)
      refine f_ite ?_ ?_
      · refine f_bi (f_call hM6 (frX4_isInAllBest p1 p2 M6) (by decide)) (fun b9 M8 hM8 => ?_)
        refine f_ite ?_ ?_
        · exact f_some hM8
        · exact f_some hM8
      · exact f_some hM6
set_option maxHeartbeats 4000000 in
theorem frX10_share (p1 : Int32) (p2 : Int32) (p3 : Int32) (M : zM) : zof (fX10_share p1 p2 p3 M) (fun y => y.2) [55, 56, 57, 68] M := by
  have hM := zfr_rf [55, 56, 57, 68] M
  unfold fX10_share
  refine f_lt (fun b1 => ?_)
  refine f_ite ?_ ?_
  · exact f_some hM
  · refine f_lt (fun b2 => ?_)
    refine f_ite ?_ ?_
    · exact f_some hM
    · refine f_sqM (ρ := fun y => y) (f_call hM (frX10_lookAtPairs (15 : Int32) M) (by decide)) (fun M3 hM3 => ?_)
      refine f_sq (fun b4 => ?_)
      refine f_sqM (ρ := (fun y => y.2)) ?_ ?_
      · refine f_ite ?_ ?_
        · exact f_some hM3
        · refine f_bi (f_call hM3 (frX0_countAll p1 p2 M3) (by decide)) (fun x16 M15 hM15 => ?_)
          exact f_some hM15
      · intro u hu
        obtain ⟨x7, M8⟩ := u
        try dsimp only at hu ⊢
        have hM8 := hu
        refine f_bi (f_call hM8 (frX0_countAll (-4 : Int32) (-4 : Int32) M8) (by decide)) (fun x10 M9 hM9 => ?_)
        refine f_sq (fun x11 => ?_)
        exact f_some hM9
set_option maxHeartbeats 4000000 in
theorem frX10_ifMust (p1 : Int32) (p2 : Int32) (p3 : Int32) (M : zM) : zof (fX10_ifMust p1 p2 p3 M) (fun y => y.2) [55, 56, 57, 59, 60, 61, 62, 63, 64, 65] M := by
  have hM := zfr_rf [55, 56, 57, 59, 60, 61, 62, 63, 64, 65] M
  unfold fX10_ifMust
  refine f_lt (fun b1 => ?_)
  refine f_ite ?_ ?_
  · exact f_some hM
  · refine f_sqM (ρ := fun y => y) (f_call hM (frX10_lookAtPairs (15 : Int32) M) (by decide)) (fun M2 hM2 => ?_)
    refine f_ite ?_ ?_
    · refine f_bi (f_call hM2 (frX4_leastWithout p1 p2 M2) (by decide)) (fun x4 M3 hM3 => ?_)
      refine f_bi (f_call hM3 (frX4_leastTotal M3) (by decide)) (fun x6 M5 hM5 => ?_)
      exact f_some hM5
    · refine f_sq (fun b7 => ?_)
      refine f_ite ?_ ?_
      · exact f_some hM2
      · refine f_bi (f_call hM2 (frX4_leastWith p1 p2 M2) (by decide)) (fun x9 M8 hM8 => ?_)
        refine f_bi (f_call hM8 (frX4_leastTotal M8) (by decide)) (fun x11 M10 hM10 => ?_)
        exact f_some hM10
set_option maxHeartbeats 4000000 in
theorem frX10_alone (p1 : Int32) (p2 : Int32) (M : zM) : zof (fX10_alone p1 p2 M) (fun y => y.2) [55, 56, 57, 59, 60, 61, 62, 63, 64, 65] M := by
  have hM := zfr_rf [55, 56, 57, 59, 60, 61, 62, 63, 64, 65] M
  unfold fX10_alone
  refine f_lt (fun b1 => ?_)
  refine f_ite ?_ ?_
  · exact f_some hM
  · refine f_lt (fun b2 => ?_)
    refine f_ite ?_ ?_
    · exact f_some hM
    · refine f_sqM (ρ := fun y => y) (f_call hM (frX10_lookAtPairs (15 : Int32) M) (by decide)) (fun M3 hM3 => ?_)
      refine f_lt (fun s4 => ?_)
      refine f_lt (fun x5 => ?_)
      refine f_zlp (ρ := fun y => y.2.2) ?_ _ _ hM3
      intro rec51 hrec51 u hu
      obtain ⟨x48, x49, M50⟩ := u
      try dsimp only at hu ⊢
      have hM50 := hu
      refine f_ite ?_ ?_
      · exact f_some hM50
      · refine f_sqM (ρ := (fun y => y.2)) ?_ ?_
        · refine f_jn (ρ := fun y => y) ?_ ?_
          · intro M77 hM77
            refine f_lt (fun x78 => ?_)
            exact f_some hM77
          · intro k79 hk79
            refine f_ite ?_ ?_
            · refine f_sq (fun b80 => ?_)
              refine f_ite ?_ ?_
              · exact f_some hM50
              · exact hk79 _ hM50
            · refine f_lt (fun b81 => ?_)
              refine f_bi (f_call hM50 (frX4_isAlone p1 x49 (zb b81) M50) (by decide)) (fun b83 M82 hM82 => ?_)
              refine f_ite ?_ ?_
              · exact f_some hM82
              · exact hk79 _ hM82
        · intro u hu
          obtain ⟨x67, M68⟩ := u
          try dsimp only at hu ⊢
          have hM68 := hu
          exact hrec51 _ hM68
set_option maxHeartbeats 4000000 in
theorem frX10_many (p1 : Int32) (M : zM) : zof (fX10_many p1 M) (fun y => y.2) [55, 56, 57, 59, 60, 61, 62, 63, 64, 65] M := by
  have hM := zfr_rf [55, 56, 57, 59, 60, 61, 62, 63, 64, 65] M
  unfold fX10_many
  refine f_lt (fun b1 => ?_)
  refine f_ite ?_ ?_
  · exact f_some hM
  · refine f_sqM (ρ := fun y => y) (f_call hM (frX10_lookAtPairs (15 : Int32) M) (by decide)) (fun M2 hM2 => ?_)
    refine f_ite ?_ ?_
    · refine f_bi (f_call hM2 (frX4_fewestInBest M2) (by decide)) (fun x4 M3 hM3 => ?_)
      exact f_some hM3
    · refine f_bi (f_call hM2 (frX4_mostInBest M2) (by decide)) (fun x6 M5 hM5 => ?_)
      exact f_some hM5
set_option maxHeartbeats 4000000 in
theorem frX10_ways (p1 : Int32) (M : zM) : zof (fX10_ways p1 M) (fun y => y.2) [55, 56, 57, 68] M := by
  have hM := zfr_rf [55, 56, 57, 68] M
  unfold fX10_ways
  refine f_lt (fun b1 => ?_)
  refine f_ite ?_ ?_
  · exact f_some hM
  · refine f_sqM (ρ := fun y => y) (f_call hM (frX10_lookAtPairs (15 : Int32) M) (by decide)) (fun M2 hM2 => ?_)
    refine f_sqM (ρ := fun y => y) (f_call hM2 (frX0_spreadAll (-4 : Int32) (-4 : Int32) M2) (by decide)) (fun M3 hM3 => ?_)
    refine f_sq (fun x4 => ?_)
    exact f_some hM3
set_option maxHeartbeats 4000000 in
theorem frX10_tell (p1 : Int32) (p2 : Int32) (M : zM) : zof (fX10_tell p1 p2 M) (fun y => y.2) [13] M := by
  have hM := zfr_rf [13] M
  unfold fX10_tell
  refine f_lt (fun b1 => ?_)
  refine f_ite ?_ ?_
  · exact f_some hM
  · refine f_jn0 ?_ ?_
    · intro _
      refine f_grd ?_
      refine f_lt (fun x3 => ?_)
      refine f_grd ?_
      refine f_ltM (zfr_I hM (by decide)) (fun M4 hM4 => ?_)
      exact f_some hM4
    · intro k5 hk5
      refine f_ite ?_ ?_
      · exact hk5 _
      · refine f_lt (fun b6 => ?_)
        refine f_ite ?_ ?_
        · exact f_some hM
        · exact hk5 _
set_option maxHeartbeats 4000000 in
theorem frX10_adopt (M : zM) : zof (fX10_adopt M) (fun y => y.2) [13, 55, 56, 57, 59, 60, 61, 62, 63, 64, 65, 66] M := by
  have hM := zfr_rf [13, 55, 56, 57, 59, 60, 61, 62, 63, 64, 65, 66] M
  unfold fX10_adopt
  refine f_sqM (ρ := fun y => y) (f_call hM (frX10_findFirst M) (by decide)) (fun M1 hM1 => ?_)
  refine f_grd ?_
  refine f_ltM (zfr_A hM1 (by decide)) (fun M2 hM2 => ?_)
  refine f_sq (fun x3 => ?_)
  exact f_some hM2
set_option maxHeartbeats 4000000 in
theorem frX10_judge (p1 : Int32) (M : zM) : zof (fX10_judge p1 M) (fun y => y.2) [55, 56, 57, 59, 60, 61, 62, 63, 64, 65] M := by
  have hM := zfr_rf [55, 56, 57, 59, 60, 61, 62, 63, 64, 65] M
  unfold fX10_judge
  refine f_lt (fun b1 => ?_)
  refine f_ite ?_ ?_
  · exact f_some hM
  · refine f_sqM (ρ := fun y => y) (f_call hM (frX10_lookAtPairs (15 : Int32) M) (by decide)) (fun M2 hM2 => ?_)
    refine f_sq (fun x3 => ?_)
    refine f_ite ?_ ?_
    · exact f_some hM2
    · refine f_ite ?_ ?_
      · refine f_ite ?_ ?_
        · exact f_some hM2
        · refine f_sq (fun x4 => ?_)
          exact f_some hM2
      · refine f_ite ?_ ?_
        · refine f_ite ?_ ?_
          · refine f_sq (fun x5 => ?_)
            exact f_some hM2
          · exact f_some hM2
        · refine f_ite ?_ ?_
          · refine f_sq (fun x6 => ?_)
            refine f_bi (f_call hM2 (frX4_leastTotal M2) (by decide)) (fun x8 M7 hM7 => ?_)
            exact f_some hM7
          · exact f_some hM2
set_option maxHeartbeats 4000000 in
theorem frX10_copyPrices (a1 : Nat) (p2 : Int32) (p3 : Int32) (M : zM) : zof (fX10_copyPrices a1 p2 p3 M) (fun y => y.2) [74] M := by
  have hM := zfr_rf [74] M
  unfold fX10_copyPrices
  refine f_lt (fun x1 => ?_)
  refine f_ite ?_ ?_
  · refine f_lt (fun x2 => ?_)
    refine f_zlp (ρ := fun y => y.2) ?_ _ _ hM
    intro rec13 hrec13 u hu
    obtain ⟨x11, M12⟩ := u
    try dsimp only at hu ⊢
    have hM12 := hu
    refine f_ite ?_ ?_
    · exact f_some hM12
    · refine f_jn0 ?_ ?_
      · intro _
        exact f_some hM12
      · intro k19 hk19
        refine f_ite ?_ ?_
        · exact hk19 _
        · refine f_ite ?_ ?_
          · refine f_grd ?_
            refine f_lt (fun x20 => ?_)
            refine f_lt (fun b21 => ?_)
            refine f_ite ?_ ?_
            · exact f_some hM12
            · refine f_grd ?_
              refine f_ltM (zfr_I hM12 (by decide)) (fun M22 hM22 => ?_)
              exact hrec13 _ hM22
          · exact hk19 _
  · exact f_some hM
set_option maxHeartbeats 4000000 in
theorem frX10_prices (p1 : Int32) (p2 : Int32) (p3 : Int32) (p4 : Int32) (M : zM) : zof (fX10_prices p1 p2 p3 p4 M) (fun y => y.2) [55, 56, 57, 59, 60, 61, 62, 63, 64, 65, 74] M := by
  have hM := zfr_rf [55, 56, 57, 59, 60, 61, 62, 63, 64, 65, 74] M
  unfold fX10_prices
  refine f_lt (fun b1 => ?_)
  refine f_jn0 ?_ ?_
  · intro _
    exact f_some hM
  · intro k17 hk17
    refine f_ite ?_ ?_
    · exact hk17 _
    · refine f_lt (fun b18 => ?_)
      refine f_ite ?_ ?_
      · exact hk17 _
      · refine f_lt (fun b19 => ?_)
        refine f_ite ?_ ?_
        · exact hk17 _
        · refine f_grd ?_
          refine f_lt (fun s20 => ?_)
          refine f_bi (f_call hM (frX10_copyPrices s20 p2 p3 M) (by decide)) (fun x22 M21 hM21 => ?_)
          refine f_ite ?_ ?_
          · refine f_sqM (ρ := fun y => y) (f_call hM21 (frX10_lookAtPairs (15 : Int32) M21) (by decide)) (fun M23 hM23 => ?_)
            refine f_sq (fun x24 => ?_)
            refine f_sq (fun x25 => ?_)
            refine f_lt (fun b27 => ?_)
            refine f_ite ?_ ?_
            · refine f_ite ?_ ?_
              · exact f_some hM23
              · exact f_some hM23
            · refine f_ite ?_ ?_
              · exact f_some hM23
              · refine f_ite ?_ ?_
                · exact f_some hM23
                · refine f_ite ?_ ?_
                  · refine f_ite ?_ ?_
                    · exact f_some hM23
                    · refine f_sq (fun x28 => ?_)
                      exact f_some hM23
                  · refine f_ite ?_ ?_
                    · exact f_some hM23
                    · refine f_bi (f_call hM23 (frX4_leastTotal M23) (by decide)) (fun x30 M29 hM29 => ?_)
                      refine f_sq (fun x31 => ?_)
                      exact f_some hM29
          · exact f_some hM21
set_option maxHeartbeats 4000000 in
theorem frX10_meanTime (p1 : Int32) (p2 : Int32) (M : zM) : zof (fX10_meanTime p1 p2 M) (fun y => y.2) [59, 60, 61, 62, 63, 64, 65] M := by
  have hM := zfr_rf [59, 60, 61, 62, 63, 64, 65] M
  unfold fX10_meanTime
  refine f_sqM (ρ := (fun y => y.2.2)) ?_ ?_
  · refine f_zlp (ρ := fun y => y.2.2.2) ?_ _ _ hM
    intro rec71 hrec71 u hu
    obtain ⟨x67, x68, x69, M70⟩ := u
    try dsimp only at hu ⊢
    have hM70 := hu
    refine f_ite ?_ ?_
    · exact f_some hM70
    · refine f_grd ?_
      refine f_lt (fun x77 => ?_)
      refine f_sqM (ρ := (fun y => y.2.2)) ?_ ?_
      · refine f_ite ?_ ?_
        · exact f_some hM70
        · refine f_jn (ρ := fun y => y) ?_ ?_
          · intro M94 hM94
            refine f_sq (fun x95 => ?_)
            refine f_lt (fun x96 => ?_)
            exact f_some hM94
          · intro k97 hk97
            refine f_ite ?_ ?_
            · exact hk97 _ hM70
            · refine f_bi (f_call hM70 (frX4_isInAllBest x69 x77 M70) (by decide)) (fun b99 M98 hM98 => ?_)
              refine f_ite ?_ ?_
              · exact f_some hM98
              · exact hk97 _ hM98
      · intro u hu
        obtain ⟨x86, x87, M88⟩ := u
        try dsimp only at hu ⊢
        have hM88 := hu
        exact hrec71 _ hM88
  · intro u hu
    obtain ⟨x74, x75, M76⟩ := u
    try dsimp only at hu ⊢
    have hM76 := hu
    refine f_ite ?_ ?_
    · exact f_some hM76
    · refine f_sq (fun x102 => ?_)
      exact f_some hM76
set_option maxHeartbeats 4000000 in
theorem frX10_times (p1 : Int32) (M : zM) : zof (fX10_times p1 M) (fun y => y.2) [55, 56, 57, 59, 60, 61, 62, 63, 64, 65, 66] M := by
  have hM := zfr_rf [55, 56, 57, 59, 60, 61, 62, 63, 64, 65, 66] M
  unfold fX10_times
  refine f_lt (fun b1 => ?_)
  refine f_ite ?_ ?_
  · exact f_some hM
  · refine f_sqM (ρ := fun y => y) (f_call hM (frX10_findFirst M) (by decide)) (fun M2 hM2 => ?_)
    refine f_ite ?_ ?_
    · refine f_sq (fun x3 => ?_)
      exact f_some hM2
    · refine f_ite ?_ ?_
      · refine f_lt (fun b4 => ?_)
        refine f_bi (f_call hM2 (frX10_meanTime (zb b4) (zrm_i (p1 - (3 : Int32)) (2 : Int32)) M2) (by decide)) (fun x6 M5 hM5 => ?_)
        exact f_some hM5
      · refine f_lt (fun b8 => ?_)
        refine f_sq (fun x9 => ?_)
        exact f_some hM2
set_option maxHeartbeats 4000000 in
theorem frX10_clock (p1 : Int32) (M : zM) : zof (fX10_clock p1 M) (fun y => y.2) [55, 56, 57, 59, 60, 61, 62, 63, 64, 65] M := by
  have hM := zfr_rf [55, 56, 57, 59, 60, 61, 62, 63, 64, 65] M
  unfold fX10_clock
  refine f_lt (fun b1 => ?_)
  refine f_ite ?_ ?_
  · exact f_some hM
  · refine f_grd ?_
    refine f_lt (fun x2 => ?_)
    refine f_sqM (ρ := fun y => y) (f_call hM (frX5_comparePlates 1 (15 : Int32) M) (by decide)) (fun M3 hM3 => ?_)
    refine f_sqM (ρ := (fun y => y.2.2)) ?_ ?_
    · refine f_zlp (ρ := fun y => y.2.2.2) ?_ _ _ hM3
      intro rec8 hrec8 u hu
      obtain ⟨x4, x5, x6, M7⟩ := u
      try dsimp only at hu ⊢
      have hM7 := hu
      refine f_ite ?_ ?_
      · exact f_some hM7
      · refine f_sqM (ρ := fun y => y) (f_call hM7 (frX5_addTimes 1 x6 M7) (by decide)) (fun M14 hM14 => ?_)
        refine f_bi (f_call hM14 (frX4_leastTotal M14) (by decide)) (fun x16 M15 hM15 => ?_)
        refine f_sq ?_
        intro u
        obtain ⟨x18, x19⟩ := u
        try dsimp only
        exact hrec8 _ hM15
    · intro u hu
      obtain ⟨x11, x12, M13⟩ := u
      try dsimp only at hu ⊢
      have hM13 := hu
      refine f_ite ?_ ?_
      · exact f_some hM13
      · exact f_some hM13
set_option maxHeartbeats 4000000 in
theorem frX10_fewestWithoutPassing (M : zM) : zof (fX10_fewestWithoutPassing M) (fun y => y.2) [70, 71, 72] M := by
  have hM := zfr_rf [70, 71, 72] M
  unfold fX10_fewestWithoutPassing
  refine f_sqM (ρ := fun y => y) (f_call hM (frX1_begin (M.1 55 0) M) (by decide)) (fun M1 hM1 => ?_)
  refine f_sqM (ρ := (fun y => y)) ?_ ?_
  · refine f_zlp (ρ := fun y => y.2) ?_ _ _ hM1
    intro rec32 hrec32 u hu
    obtain ⟨x30, M31⟩ := u
    try dsimp only at hu ⊢
    have hM31 := hu
    refine f_ite ?_ ?_
    · exact f_some hM31
    · refine f_sqM (ρ := (fun y => y)) ?_ ?_
      · refine f_zlp (ρ := fun y => y.2) ?_ _ _ hM31
        intro rec38 hrec38 u hu
        obtain ⟨x36, M37⟩ := u
        try dsimp only at hu ⊢
        have hM37 := hu
        refine f_ite ?_ ?_
        · exact f_some hM37
        · refine f_sq (fun b42 => ?_)
          refine f_sqM (ρ := (fun y => y)) ?_ ?_
          · refine f_ite ?_ ?_
            · refine f_sq (fun b46 => ?_)
              refine f_ite ?_ ?_
              · refine f_sqM (ρ := fun y => y) (f_call hM37 (frX1_join x30 x36 M37) (by decide)) (fun M47 hM47 => ?_)
                exact f_some hM47
              · exact f_some hM37
            · exact f_some hM37
          · intro M45 hM45
            exact hrec38 _ hM45
      · intro M41 hM41
        exact hrec32 _ hM41
  · intro M35 hM35
    refine f_bi (f_call hM35 (frX1_largest M35) (by decide)) (fun x51 M50 hM50 => ?_)
    exact f_some hM50
set_option maxHeartbeats 4000000 in
theorem frX10_passed (p1 : Int32) (M : zM) : zof (fX10_passed p1 M) (fun y => y.2) [55, 56, 57, 59, 60, 61, 62, 63, 64, 65, 66, 70, 71, 72] M := by
  have hM := zfr_rf [55, 56, 57, 59, 60, 61, 62, 63, 64, 65, 66, 70, 71, 72] M
  unfold fX10_passed
  refine f_lt (fun b1 => ?_)
  refine f_ite ?_ ?_
  · exact f_some hM
  · refine f_sqM (ρ := fun y => y) (f_call hM (frX10_findFirst M) (by decide)) (fun M2 hM2 => ?_)
    refine f_ite ?_ ?_
    · refine f_sq (fun x3 => ?_)
      exact f_some hM2
    · refine f_ite ?_ ?_
      · refine f_bi (f_call hM2 (frX10_fewestWithoutPassing M2) (by decide)) (fun x5 M4 hM4 => ?_)
        exact f_some hM4
      · refine f_sq (fun x6 => ?_)
        exact f_some hM2
set_option maxHeartbeats 4000000 in
theorem frX10_countReadsOf (p1 : Int32) (p2 : Int32) (M : zM) : zof (fX10_countReadsOf p1 p2 M) (fun y => y) [75] M := by
  have hM := zfr_rf [75] M
  unfold fX10_countReadsOf
  refine f_zlp (ρ := fun y => y.2) ?_ _ _ hM
  intro rec15 hrec15 u hu
  obtain ⟨x13, M14⟩ := u
  try dsimp only at hu ⊢
  have hM14 := hu
  refine f_ite ?_ ?_
  · exact f_some hM14
  · refine f_grd ?_
    refine f_lt (fun x18 => ?_)
    refine f_grd ?_
    refine f_lt (fun x19 => ?_)
    refine f_sqM (ρ := (fun y => y)) ?_ ?_
    · refine f_ite ?_ ?_
      · exact f_some hM14
      · refine f_ite ?_ ?_
        · exact f_some hM14
        · refine f_lt (fun x25 => ?_)
          refine f_lt (fun x26 => ?_)
          refine f_lt (fun x27 => ?_)
          refine f_grd ?_
          refine f_grd ?_
          refine f_ltM (zfr_I hM14 (by decide)) (fun M28 hM28 => ?_)
          exact f_some hM28
    · intro M24 hM24
      exact hrec15 _ hM24
set_option maxHeartbeats 4000000 in
theorem frX10_countReads (M : zM) : zof (fX10_countReads M) (fun y => y) [75] M := by
  have hM := zfr_rf [75] M
  unfold fX10_countReads
  refine f_sqM (ρ := fun y => y) (f_call hM (frJ7_fill_53178 75 64 (0 : Int32) M) (by decide)) (fun M1 hM1 => ?_)
  refine f_zlp (ρ := fun y => y.2) ?_ _ _ hM1
  intro rec12 hrec12 u hu
  obtain ⟨x10, M11⟩ := u
  try dsimp only at hu ⊢
  have hM11 := hu
  refine f_ite ?_ ?_
  · exact f_some hM11
  · refine f_grd ?_
    refine f_lt (fun x15 => ?_)
    refine f_sqM (ρ := (fun y => y)) ?_ ?_
    · refine f_ite ?_ ?_
      · exact f_some hM11
      · refine f_sqM (ρ := fun y => y) (f_call hM11 (frX10_countReadsOf x10 x15 M11) (by decide)) (fun M18 hM18 => ?_)
        exact f_some hM18
    · intro M17 hM17
      exact hrec12 _ hM17
set_option maxHeartbeats 4000000 in
theorem frX10_reads (p1 : Int32) (p2 : Int32) (M : zM) : zof (fX10_reads p1 p2 M) (fun y => y.2) [55, 56, 57, 59, 60, 61, 62, 63, 64, 65, 66, 75] M := by
  have hM := zfr_rf [55, 56, 57, 59, 60, 61, 62, 63, 64, 65, 66, 75] M
  unfold fX10_reads
  refine f_lt (fun b1 => ?_)
  refine f_ite ?_ ?_
  · exact f_some hM
  · refine f_lt (fun b2 => ?_)
    refine f_ite ?_ ?_
    · exact f_some hM
    · refine f_sqM (ρ := fun y => y) (f_call hM (frX10_findFirst M) (by decide)) (fun M3 hM3 => ?_)
      refine f_sqM (ρ := fun y => y) (f_call hM3 (frX10_countReads M3) (by decide)) (fun M4 hM4 => ?_)
      refine f_grd ?_
      exact f_some hM4
set_option maxHeartbeats 4000000 in
theorem frX10_blame (p1 : Int32) (M : zM) : zof (fX10_blame p1 M) (fun y => y.2) [55, 56, 57, 59, 60, 61, 62, 63, 64, 65, 66, 75] M := by
  have hM := zfr_rf [55, 56, 57, 59, 60, 61, 62, 63, 64, 65, 66, 75] M
  unfold fX10_blame
  refine f_lt (fun b1 => ?_)
  refine f_ite ?_ ?_
  · exact f_some hM
  · refine f_sqM (ρ := fun y => y) (f_call hM (frX10_findFirst M) (by decide)) (fun M2 hM2 => ?_)
    refine f_sqM (ρ := fun y => y) (f_call hM2 (frX10_countReads M2) (by decide)) (fun M3 hM3 => ?_)
    refine f_sq (fun x4 => ?_)
    refine f_ite ?_ ?_
    · exact f_some hM3
    · refine f_ite ?_ ?_
      · exact f_some hM3
      · refine f_ite ?_ ?_
        · exact f_some hM3
        · refine f_grd ?_
          exact f_some hM3
set_option maxHeartbeats 4000000 in
theorem frX10_learn (p1 : Int32) (M : zM) : zof (fX10_learn p1 M) (fun y => y.2) [12, 55, 56, 57, 59, 60, 61, 62, 63, 64, 65, 66, 75] M := by
  have hM := zfr_rf [12, 55, 56, 57, 59, 60, 61, 62, 63, 64, 65, 66, 75] M
  unfold fX10_learn
  refine f_lt (fun b1 => ?_)
  refine f_ite ?_ ?_
  · exact f_some hM
  · refine f_sqM (ρ := fun y => y) (f_call hM (frX10_findFirst M) (by decide)) (fun M2 hM2 => ?_)
    refine f_sqM (ρ := fun y => y) (f_call hM2 (frX10_countReads M2) (by decide)) (fun M3 hM3 => ?_)
    refine f_sq (fun x4 => ?_)
    refine f_ite ?_ ?_
    · exact f_some hM3
    · refine f_grd ?_
      refine f_lt (fun x5 => ?_)
      refine f_grd ?_
      refine f_ltM (zfr_I hM3 (by decide)) (fun M6 hM6 => ?_)
      exact f_some hM6
set_option maxHeartbeats 4000000 in
theorem frX10_fewestPlaces (M : zM) : zof (fX10_fewestPlaces M) (fun y => y.2) [55, 56, 57, 59, 60, 61, 62, 63, 64, 65, 66] M := by
  have hM := zfr_rf [55, 56, 57, 59, 60, 61, 62, 63, 64, 65, 66] M
  unfold fX10_fewestPlaces
  refine f_sqM (ρ := fun y => y) (f_call hM (frX10_findFirst M) (by decide)) (fun M1 hM1 => ?_)
  refine f_zlp (ρ := fun y => y.2) ?_ _ _ hM1
  intro rec14 hrec14 u hu
  obtain ⟨x12, M13⟩ := u
  try dsimp only at hu ⊢
  have hM13 := hu
  refine f_ite ?_ ?_
  · exact f_some hM13
  · refine f_zlp (ρ := fun y => y.2) ?_ _ _ hM13
    intro rec29 hrec29 u hu
    obtain ⟨x27, M28⟩ := u
    try dsimp only at hu ⊢
    have hM28 := hu
    refine f_ite ?_ ?_
    · exact hrec14 _ hM28
    · refine f_lt (fun x32 => ?_)
      refine f_jn (ρ := fun y => y) ?_ ?_
      · intro M36 hM36
        exact hrec29 _ hM36
      · intro k37 hk37
        refine f_ite ?_ ?_
        · refine f_sqM (ρ := fun y => y) (f_call hM28 (frX10_lookAtPairs x27 M28) (by decide)) (fun M38 hM38 => ?_)
          refine f_bi (f_call hM38 (frX4_isFirstOnlyBest M38) (by decide)) (fun b40 M39 hM39 => ?_)
          refine f_ite ?_ ?_
          · exact hk37 _ hM39
          · exact f_some hM39
        · exact hk37 _ hM28
set_option maxHeartbeats 4000000 in
theorem frX10_enough (p1 : Int32) (M : zM) : zof (fX10_enough p1 M) (fun y => y.2) [55, 56, 57, 59, 60, 61, 62, 63, 64, 65, 66] M := by
  have hM := zfr_rf [55, 56, 57, 59, 60, 61, 62, 63, 64, 65, 66] M
  unfold fX10_enough
  refine f_lt (fun b1 => ?_)
  refine f_ite ?_ ?_
  · exact f_some hM
  · refine f_bi (f_call hM (frX10_fewestPlaces M) (by decide)) (fun x3 M2 hM2 => ?_)
    refine f_jn0 ?_ ?_
    · intro _
      exact f_some hM2
    · intro k5 hk5
      refine f_ite ?_ ?_
      · exact hk5 _
      · refine f_ite ?_ ?_
        · exact hk5 _
        · refine f_lt (fun x6 => ?_)
          exact f_some hM2
set_option maxHeartbeats 4000000 in
theorem frX10_fewestCars (a1 : Nat) (M : zM) : zof (fX10_fewestCars a1 M) (fun y => y.2) [70, 71, 72, 73] M := by
  have hM := zfr_rf [70, 71, 72, 73] M
  unfold fX10_fewestCars
  refine f_sqM (ρ := fun y => y) (f_call hM (frX1_begin (M.1 a1 0) M) (by decide)) (fun M1 hM1 => ?_)
  refine f_sqM (ρ := (fun y => y)) ?_ ?_
  · refine f_zlp (ρ := fun y => y.2) ?_ _ _ hM1
    intro rec29 hrec29 u hu
    obtain ⟨x27, M28⟩ := u
    try dsimp only at hu ⊢
    have hM28 := hu
    refine f_ite ?_ ?_
    · exact f_some hM28
    · refine f_sqM (ρ := (fun y => y)) ?_ ?_
      · refine f_zlp (ρ := fun y => y.2) ?_ _ _ hM28
        intro rec35 hrec35 u hu
        obtain ⟨x33, M34⟩ := u
        try dsimp only at hu ⊢
        have hM34 := hu
        refine f_ite ?_ ?_
        · exact f_some hM34
        · refine f_sq (fun b39 => ?_)
          refine f_sqM (ρ := (fun y => y)) ?_ ?_
          · refine f_ite ?_ ?_
            · exact f_some hM34
            · refine f_sqM (ρ := fun y => y) (f_call hM34 (frX1_join x27 x33 M34) (by decide)) (fun M42 hM42 => ?_)
              exact f_some hM42
          · intro M41 hM41
            exact hrec35 _ hM41
      · intro M38 hM38
        exact hrec29 _ hM38
  · intro M32 hM32
    refine f_bi (f_call hM32 (frX1_fewest M32) (by decide)) (fun x46 M45 hM45 => ?_)
    exact f_some hM45
set_option maxHeartbeats 4000000 in
theorem frX10_cars (p1 : Int32) (p2 : Int32) (M : zM) : zof (fX10_cars p1 p2 M) (fun y => y.2) [70, 71, 72, 73] M := by
  have hM := zfr_rf [70, 71, 72, 73] M
  unfold fX10_cars
  refine f_lt (fun b1 => ?_)
  refine f_ite ?_ ?_
  · exact f_some hM
  · refine f_lt (fun b2 => ?_)
    refine f_ite ?_ ?_
    · exact f_some hM
    · refine f_lt (fun s3 => ?_)
      refine f_ite ?_ ?_
      · exact f_some hM
      · refine f_bi (f_call hM (frX10_fewestCars s3 M) (by decide)) (fun x5 M4 hM4 => ?_)
        exact f_some hM4
set_option maxHeartbeats 4000000 in
theorem frX10_back (p1 : Int32) (M : zM) : zof (fX10_back p1 M) (fun y => y.2) [2, 3, 4, 5, 6, 7, 8, 9, 11, 12, 13] M := by
  have hM := zfr_rf [2, 3, 4, 5, 6, 7, 8, 9, 11, 12, 13] M
  unfold fX10_back
  refine f_lt (fun b1 => ?_)
  refine f_ite ?_ ?_
  · exact f_some hM
  · refine f_grd ?_
    refine f_lt (fun s2 => ?_)
    refine f_ite ?_ ?_
    · exact f_some hM
    · refine f_grd ?_
      refine f_lt (fun s3 => ?_)
      refine f_sqM (ρ := fun y => y) (f_call hM (frX7_copyFrom 1 s3 M) (by decide)) (fun M4 hM4 => ?_)
      exact f_some hM4
set_option maxHeartbeats 4000000 in
theorem frX10_countPairs (M : zM) : zof (fX10_countPairs M) (fun y => y.2) [55, 56, 57] M := by
  have hM := zfr_rf [55, 56, 57] M
  unfold fX10_countPairs
  refine f_sqM (ρ := fun y => y) (f_call hM (frX10_lookAtPairs (15 : Int32) M) (by decide)) (fun M1 hM1 => ?_)
  refine f_zlp0 ?_ _ _
  intro rec52 hrec52 u
  obtain ⟨x50, x51⟩ := u
  try dsimp only
  refine f_ite ?_ ?_
  · exact f_some hM1
  · refine f_sq ?_
    intro x60
    exact hrec52 _
set_option maxHeartbeats 4000000 in
theorem frX10_count (p1 : Int32) (M : zM) : zof (fX10_count p1 M) (fun y => y.2) [55, 56, 57] M := by
  have hM := zfr_rf [55, 56, 57] M
  unfold fX10_count
  refine f_ite ?_ ?_
  · exact f_some hM
  · refine f_ite ?_ ?_
    · exact f_some hM
    · refine f_ite ?_ ?_
      · refine f_bi (f_call hM (frX10_countPairs M) (by decide)) (fun x2 M1 hM1 => ?_)
        exact f_some hM1
      · refine f_ite ?_ ?_
        · refine f_grd ?_
          refine f_lt (fun s3 => ?_)
          refine f_lt (fun b4 => ?_)
          refine f_grd ?_
          refine f_lt (fun s5 => ?_)
          refine f_lt (fun b6 => ?_)
          exact f_some hM
        · refine f_ite ?_ ?_
          · exact f_some hM
          · refine f_ite ?_ ?_
            · refine f_grd ?_
              refine f_lt (fun s9 => ?_)
              refine f_ite ?_ ?_
              · exact f_some hM
              · refine f_grd ?_
                refine f_lt (fun s10 => ?_)
                exact f_some hM
            · exact f_some hM
set_option maxHeartbeats 4000000 in
theorem frX11_feed (p1 : Int64) (M : zM) : zof (fX11_feed p1 M) (fun y => y.2) [76, 77] M := by
  have hM := zfr_rf [76, 77] M
  unfold fX11_feed
  refine f_ite ?_ ?_
  · refine f_sqM (ρ := (fun y => y)) ?_ ?_
    · refine f_zlp (ρ := fun y => y.2) ?_ _ _ hM
      intro rec3 hrec3 u hu
      obtain ⟨x1, M2⟩ := u
      try dsimp only at hu ⊢
      have hM2 := hu
      refine f_ite ?_ ?_
      · exact f_some hM2
      · refine f_grd ?_
        refine f_ltM (zfr_I hM2 (by decide)) (fun M7 hM7 => ?_)
        refine f_ltM (zfr_I hM7 (by decide)) (fun M8 hM8 => ?_)
        exact hrec3 _ hM8
    · intro M6 hM6
      exact f_some hM6
  · exact f_some hM
set_option maxHeartbeats 4000000 in
theorem frX11_end (p1 : Int32) (M : zM) : zof (fX11_end p1 M) (fun y => y.2) [76] M := by
  have hM := zfr_rf [76] M
  unfold fX11_end
  refine f_lt (fun b1 => ?_)
  refine f_ite ?_ ?_
  · exact f_some hM
  · refine f_lt (fun x2 => ?_)
    refine f_ltM (zfr_I hM (by decide)) (fun M3 hM3 => ?_)
    exact f_some hM3
set_option maxHeartbeats 4000000 in
theorem frX11_fails (p1 : Int32) (M : zM) : zof (fX11_fails p1 M) (fun y => y) [76] M := by
  have hM := zfr_rf [76] M
  unfold fX11_fails
  refine f_ite ?_ ?_
  · refine f_ltM (zfr_I hM (by decide)) (fun M1 hM1 => ?_)
    refine f_ltM (zfr_I hM1 (by decide)) (fun M2 hM2 => ?_)
    exact f_some hM2
  · exact f_some hM
set_option maxHeartbeats 4000000 in
theorem frX11_next (M : zM) : zof (fX11_next M) (fun y => y) [76] M := by
  have hM := zfr_rf [76] M
  unfold fX11_next
  refine f_ite ?_ ?_
  · refine f_sqM (ρ := (fun y => y)) ?_ ?_
    · refine f_zlp (ρ := fun y => y) ?_ _ _ hM
      intro rec2 hrec2 M1 hM1
      refine f_sq (fun x4 => ?_)
      refine f_ite ?_ ?_
      · refine f_ltM (zfr_I hM1 (by decide)) (fun M5 hM5 => ?_)
        exact hrec2 _ hM5
      · exact f_some hM1
    · intro M3 hM3
      refine f_ltM (zfr_I hM3 (by decide)) (fun M6 hM6 => ?_)
      refine f_sq (fun x7 => ?_)
      refine f_ltM (zfr_I hM6 (by decide)) (fun M8 hM8 => ?_)
      refine f_ite ?_ ?_
      · refine f_ltM (zfr_I hM8 (by decide)) (fun M9 hM9 => ?_)
        exact f_some hM9
      · refine f_lt (fun b10 => ?_)
        refine f_ite ?_ ?_
        · refine f_lt (fun b11 => ?_)
          refine f_ite ?_ ?_
          · refine f_ltM (zfr_I hM8 (by decide)) (fun M12 hM12 => ?_)
            refine f_ltM (zfr_I hM12 (by decide)) (fun M13 hM13 => ?_)
            refine f_ite ?_ ?_
            · exact f_some hM13
            · refine f_sqM (ρ := fun y => y) (f_call hM13 (frX11_fails (1 : Int32) M13) (by decide)) (fun M14 hM14 => ?_)
              exact f_some hM14
          · refine f_sqM (ρ := (fun y => y)) ?_ ?_
            · refine f_zlp (ρ := fun y => y) ?_ _ _ hM8
              intro rec16 hrec16 M15 hM15
              refine f_sq (fun x18 => ?_)
              refine f_lt (fun b19 => ?_)
              refine f_ite ?_ ?_
              · exact f_some hM15
              · refine f_sq ?_
                intro x21
                refine f_ltM (zfr_I hM15 (by decide)) (fun M22 hM22 => ?_)
                refine f_ltM (zfr_I hM22 (by decide)) (fun M23 hM23 => ?_)
                exact hrec16 _ hM23
            · intro M17 hM17
              refine f_ltM (zfr_I hM17 (by decide)) (fun M25 hM25 => ?_)
              refine f_ite ?_ ?_
              · exact f_some hM25
              · refine f_sqM (ρ := fun y => y) (f_call hM25 (frX11_fails (1 : Int32) M25) (by decide)) (fun M26 hM26 => ?_)
                exact f_some hM26
        · refine f_sqM (ρ := (fun y => y)) ?_ ?_
          · refine f_zlp (ρ := fun y => y) ?_ _ _ hM8
            intro rec28 hrec28 M27 hM27
            refine f_sq (fun x30 => ?_)
            refine f_lt (fun b31 => ?_)
            refine f_ite ?_ ?_
            · exact f_some hM27
            · refine f_ltM (zfr_I hM27 (by decide)) (fun M32 hM32 => ?_)
              exact hrec28 _ hM32
          · intro M29 hM29
            refine f_ltM (zfr_I hM29 (by decide)) (fun M33 hM33 => ?_)
            exact f_some hM33
  · exact f_some hM
set_option maxHeartbeats 4000000 in
theorem frX11_number (p1 : Int32) (p2 : Int32) (M : zM) : zof (fX11_number p1 p2 M) (fun y => y.2) [76] M := by
  have hM := zfr_rf [76] M
  unfold fX11_number
  refine f_sqM (ρ := (fun y => y)) ?_ ?_
  · refine f_ite ?_ ?_
    · refine f_ite ?_ ?_
      · exact f_some hM
      · refine f_sqM (ρ := fun y => y) (f_call hM (frX11_fails (2 : Int32) M) (by decide)) (fun M11 hM11 => ?_)
        exact f_some hM11
    · exact f_some hM
  · intro M2 hM2
    refine f_sqM (ρ := (fun y => y)) ?_ ?_
    · refine f_ite ?_ ?_
      · refine f_lt (fun b9 => ?_)
        refine f_ite ?_ ?_
        · refine f_sqM (ρ := fun y => y) (f_call hM2 (frX11_fails (3 : Int32) M2) (by decide)) (fun M10 hM10 => ?_)
          exact f_some hM10
        · exact f_some hM2
      · exact f_some hM2
    · intro M5 hM5
      refine f_lt (fun x6 => ?_)
      refine f_sqM (ρ := fun y => y) (f_call hM5 (frX11_next M5) (by decide)) (fun M7 hM7 => ?_)
      exact f_some hM7
set_option maxHeartbeats 4000000 in
theorem frX11_letter (M : zM) : zof (fX11_letter M) (fun y => y.2) [76] M := by
  have hM := zfr_rf [76] M
  unfold fX11_letter
  refine f_sqM (ρ := (fun y => y)) ?_ ?_
  · refine f_ite ?_ ?_
    · refine f_ite ?_ ?_
      · exact f_some hM
      · refine f_sqM (ρ := fun y => y) (f_call hM (frX11_fails (2 : Int32) M) (by decide)) (fun M14 hM14 => ?_)
        exact f_some hM14
    · exact f_some hM
  · intro M2 hM2
    refine f_sq (fun x3 => ?_)
    refine f_lt (fun x4 => ?_)
    refine f_sqM (ρ := (fun y => y)) ?_ ?_
    · refine f_ite ?_ ?_
      · refine f_jn0 ?_ ?_
        · intro _
          refine f_sqM (ρ := fun y => y) (f_call hM2 (frX11_fails (3 : Int32) M2) (by decide)) (fun M11 hM11 => ?_)
          exact f_some hM11
        · intro k12 hk12
          refine f_ite ?_ ?_
          · refine f_lt (fun b13 => ?_)
            refine f_ite ?_ ?_
            · exact hk12 _
            · exact f_some hM2
          · exact hk12 _
      · exact f_some hM2
    · intro M9 hM9
      refine f_ite ?_ ?_
      · exact f_some hM9
      · exact f_some hM9
set_option maxHeartbeats 4000000 in
theorem frX11_readTwo (M : zM) : zof (fX11_readTwo M) (fun y => y) [76, 83] M := by
  have hM := zfr_rf [76, 83] M
  unfold fX11_readTwo
  refine f_bi (f_call hM (frX11_letter M) (by decide)) (fun x2 M1 hM1 => ?_)
  refine f_sqM (ρ := fun y => y) (f_call hM1 (frX11_next M1) (by decide)) (fun M3 hM3 => ?_)
  refine f_bi (f_call hM3 (frX11_letter M3) (by decide)) (fun x5 M4 hM4 => ?_)
  refine f_sqM (ρ := (fun y => y)) ?_ ?_
  · refine f_ite ?_ ?_
    · refine f_ite ?_ ?_
      · refine f_sqM (ρ := fun y => y) (f_call hM4 (frX11_fails (3 : Int32) M4) (by decide)) (fun M15 hM15 => ?_)
        exact f_some hM15
      · exact f_some hM4
    · exact f_some hM4
  · intro M7 hM7
    refine f_sqM (ρ := (fun y => y)) ?_ ?_
    · refine f_ite ?_ ?_
      · refine f_grd ?_
        refine f_ite ?_ ?_
        · exact f_some hM7
        · refine f_sqM (ρ := fun y => y) (f_call hM7 (frX11_fails (4 : Int32) M7) (by decide)) (fun M14 hM14 => ?_)
          exact f_some hM14
      · exact f_some hM7
    · intro M9 hM9
      refine f_sqM (ρ := fun y => y) (f_call hM9 (frX11_next M9) (by decide)) (fun M10 hM10 => ?_)
      refine f_bi (f_call hM10 (frX11_number (0 : Int32) (50 : Int32) M10) (by decide)) (fun x12 M11 hM11 => ?_)
      refine f_ite ?_ ?_
      · refine f_grd ?_
        refine f_ltM (zfr_I hM11 (by decide)) (fun M13 hM13 => ?_)
        exact f_some hM13
      · exact f_some hM11
set_option maxHeartbeats 4000000 in
theorem frX11_readItem (M : zM) : zof (fX11_readItem M) (fun y => y) [76, 82, 83] M := by
  have hM := zfr_rf [76, 82, 83] M
  unfold fX11_readItem
  refine f_sq ?_
  intro x2
  refine f_ite ?_ ?_
  · refine f_sqM (ρ := fun y => y) (f_call hM (frX11_fails (2 : Int32) M) (by decide)) (fun M3 hM3 => ?_)
    exact f_some hM3
  · refine f_lt (fun x4 => ?_)
    refine f_sqM (ρ := (fun y => y)) ?_ ?_
    · refine f_ite ?_ ?_
      · exact f_some hM
      · refine f_sqM (ρ := (fun y => y)) ?_ ?_
        · refine f_ite ?_ ?_
          · refine f_sqM (ρ := fun y => y) (f_call hM (frX11_fails (4 : Int32) M) (by decide)) (fun M65 hM65 => ?_)
            exact f_some hM65
          · exact f_some hM
        · intro M63 hM63
          refine f_ltM (zfr_I hM63 (by decide)) (fun M64 hM64 => ?_)
          exact f_some hM64
    · intro M9 hM9
      refine f_sqM (ρ := fun y => y) (f_call hM9 (frX11_next M9) (by decide)) (fun M10 hM10 => ?_)
      refine f_sqM (ρ := (fun y => y)) ?_ ?_
      · refine f_ite ?_ ?_
        · refine f_bi (f_call hM10 (frX11_number (0 : Int32) (500 : Int32) M10) (by decide)) (fun x40 M39 hM39 => ?_)
          refine f_grd ?_
          refine f_ltM (zfr_I hM39 (by decide)) (fun M41 hM41 => ?_)
          refine f_grd ?_
          refine f_bi (f_call hM41 (frX11_number (M41.1 82 (zn (0 : Int32))) (500 : Int32) M41) (by decide)) (fun x43 M42 hM42 => ?_)
          refine f_grd ?_
          refine f_ltM (zfr_I hM42 (by decide)) (fun M44 hM44 => ?_)
          refine f_grd ?_
          refine f_grd ?_
          refine f_bi (f_call hM44 (frX11_number (M44.1 82 (zn (0 : Int32))) (M44.1 82 (zn (1 : Int32))) M44) (by decide)) (fun x46 M45 hM45 => ?_)
          refine f_grd ?_
          refine f_ltM (zfr_I hM45 (by decide)) (fun M47 hM47 => ?_)
          refine f_bi (f_call hM47 (frX11_number (0 : Int32) (9 : Int32) M47) (by decide)) (fun x49 M48 hM48 => ?_)
          refine f_grd ?_
          refine f_ltM (zfr_I hM48 (by decide)) (fun M50 hM50 => ?_)
          exact f_some hM50
        · refine f_ite ?_ ?_
          · refine f_sqM (ρ := fun y => y) (f_call hM10 (frX11_readTwo M10) (by decide)) (fun M51 hM51 => ?_)
            exact f_some hM51
          · refine f_ite ?_ ?_
            · refine f_bi (f_call hM10 (frX11_number (0 : Int32) (99 : Int32) M10) (by decide)) (fun x53 M52 hM52 => ?_)
              refine f_lt (fun x54 => ?_)
              refine f_grd ?_
              refine f_ltM (zfr_I hM52 (by decide)) (fun M55 hM55 => ?_)
              exact f_some hM55
            · refine f_lt (fun x57 => ?_)
              refine f_bi (f_call hM10 (frX11_number (0 : Int32) x57 M10) (by decide)) (fun x59 M58 hM58 => ?_)
              refine f_grd ?_
              refine f_ltM (zfr_I hM58 (by decide)) (fun M60 hM60 => ?_)
              exact f_some hM60
      · intro M34 hM34
        refine f_sqM (ρ := (fun y => y)) ?_ ?_
        · refine f_ite ?_ ?_
          · refine f_ite ?_ ?_
            · exact f_some hM34
            · refine f_sqM (ρ := fun y => y) (f_call hM34 (frX11_fails (2 : Int32) M34) (by decide)) (fun M38 hM38 => ?_)
              exact f_some hM38
          · exact f_some hM34
        · intro M36 hM36
          refine f_sqM (ρ := fun y => y) (f_call hM36 (frX11_next M36) (by decide)) (fun M37 hM37 => ?_)
          exact f_some hM37
set_option maxHeartbeats 4000000 in
theorem frX11_road (M : zM) : zof (fX11_road M) (fun y => y.2) [76, 81, 82, 83, 84] M := by
  have hM := zfr_rf [76, 81, 82, 83, 84] M
  unfold fX11_road
  refine f_ltM (zfr_I hM (by decide)) (fun M1 hM1 => ?_)
  refine f_ltM (zfr_I hM1 (by decide)) (fun M2 hM2 => ?_)
  refine f_ltM (zfr_I hM2 (by decide)) (fun M3 hM3 => ?_)
  refine f_sqM (ρ := (fun y => y)) ?_ ?_
  · refine f_zlp (ρ := fun y => y.2) ?_ _ _ hM3
    intro rec13 hrec13 u hu
    obtain ⟨x11, M12⟩ := u
    try dsimp only at hu ⊢
    have hM12 := hu
    refine f_ite ?_ ?_
    · exact f_some hM12
    · refine f_grd ?_
      refine f_grd ?_
      refine f_ltM (zfr_I hM12 (by decide)) (fun M17 hM17 => ?_)
      exact hrec13 _ hM17
  · intro M16 hM16
    refine f_sqM (ρ := (fun y => y)) ?_ ?_
    · refine f_zlp (ρ := fun y => y.2) ?_ _ _ hM16
      intro rec27 hrec27 u hu
      obtain ⟨x25, M26⟩ := u
      try dsimp only at hu ⊢
      have hM26 := hu
      refine f_ite ?_ ?_
      · exact f_some hM26
      · refine f_grd ?_
        refine f_ltM (zfr_I hM26 (by decide)) (fun M31 hM31 => ?_)
        exact hrec27 _ hM31
    · intro M30 hM30
      refine f_sqM (ρ := fun y => y) (f_call hM30 (frX11_next M30) (by decide)) (fun M32 hM32 => ?_)
      refine f_sqM (ρ := (fun y => y.2)) ?_ ?_
      · refine f_zlp (ρ := fun y => y.2) ?_ _ _ hM32
        intro rec43 hrec43 u hu
        obtain ⟨x41, M42⟩ := u
        try dsimp only at hu ⊢
        have hM42 := hu
        refine f_ite ?_ ?_
        · refine f_ite ?_ ?_
          · exact f_some hM42
          · refine f_sqM (ρ := fun y => y) (f_call hM42 (frX11_readItem M42) (by decide)) (fun M48 hM48 => ?_)
            exact hrec43 _ hM48
        · exact f_some hM42
      · intro u hu
        obtain ⟨x46, M47⟩ := u
        try dsimp only at hu ⊢
        have hM47 := hu
        refine f_ltM (zfr_I hM47 (by decide)) (fun M49 hM49 => ?_)
        refine f_ltM (zfr_I hM49 (by decide)) (fun M50 hM50 => ?_)
        refine f_ite ?_ ?_
        · refine f_sqM (ρ := (fun y => y)) ?_ ?_
          · refine f_zlp (ρ := fun y => y.2) ?_ _ _ hM50
            intro rec60 hrec60 u hu
            obtain ⟨x58, M59⟩ := u
            try dsimp only at hu ⊢
            have hM59 := hu
            refine f_ite ?_ ?_
            · exact f_some hM59
            · refine f_grd ?_
              refine f_grd ?_
              refine f_ltM (zfr_I hM59 (by decide)) (fun M64 hM64 => ?_)
              exact hrec60 _ hM64
          · intro M63 hM63
            refine f_zlp (ρ := fun y => y.2) ?_ _ _ hM63
            intro rec73 hrec73 u hu
            obtain ⟨x71, M72⟩ := u
            try dsimp only at hu ⊢
            have hM72 := hu
            refine f_ite ?_ ?_
            · exact f_some hM72
            · refine f_grd ?_
              refine f_grd ?_
              refine f_ltM (zfr_I hM72 (by decide)) (fun M76 hM76 => ?_)
              exact hrec73 _ hM76
        · exact f_some hM50
set_option maxHeartbeats 4000000 in
theorem frX11_setClock (p1 : Int32) (M : zM) : zof (fX11_setClock p1 M) (fun y => y.2) [81] M := by
  have hM := zfr_rf [81] M
  unfold fX11_setClock
  refine f_lt (fun b1 => ?_)
  refine f_ite ?_ ?_
  · exact f_some hM
  · refine f_grd ?_
    refine f_lt (fun x2 => ?_)
    refine f_grd ?_
    refine f_ltM (zfr_I hM (by decide)) (fun M3 hM3 => ?_)
    exact f_some hM3
set_option maxHeartbeats 4000000 in
theorem frX11_setIts (p1 : Int32) (p2 : Int32) (p3 : Int32) (p4 : Int32) (M : zM) : zof (fX11_setIts p1 p2 p3 p4 M) (fun y => y) [84] M := by
  have hM := zfr_rf [84] M
  unfold fX11_setIts
  refine f_grd ?_
  refine f_ltM (zfr_I hM (by decide)) (fun M1 hM1 => ?_)
  exact f_some hM1
set_option maxHeartbeats 4000000 in
theorem frX11_line (p1 : Int32) (p2 : Int32) (p3 : Int32) (p4 : Int32) (M : zM) : zof (fX11_line p1 p2 p3 p4 M) (fun y => y.2) [84] M := by
  have hM := zfr_rf [84] M
  unfold fX11_line
  refine f_lt (fun b1 => ?_)
  refine f_ite ?_ ?_
  · exact f_some hM
  · refine f_lt (fun b2 => ?_)
    refine f_ite ?_ ?_
    · exact f_some hM
    · refine f_lt (fun b3 => ?_)
      refine f_ite ?_ ?_
      · exact f_some hM
      · refine f_lt (fun b4 => ?_)
        refine f_ite ?_ ?_
        · exact f_some hM
        · refine f_sq (fun x5 => ?_)
          refine f_ite ?_ ?_
          · exact f_some hM
          · refine f_sqM (ρ := fun y => y) (f_call hM (frX11_setIts p1 x5 (0 : Int32) p2 M) (by decide)) (fun M6 hM6 => ?_)
            refine f_sqM (ρ := (fun y => y)) ?_ ?_
            · refine f_zlp (ρ := fun y => y.2.2) ?_ _ _ hM6
              intro rec10 hrec10 u hu
              obtain ⟨x7, x8, M9⟩ := u
              try dsimp only at hu ⊢
              have hM9 := hu
              refine f_ite ?_ ?_
              · exact f_some hM9
              · refine f_sqM (ρ := fun y => y) (f_call hM9 (frX11_setIts p1 x5 x8 (zrm_i x7 (17 : Int32)) M9) (by decide)) (fun M14 hM14 => ?_)
                refine f_lt (fun x15 => ?_)
                exact hrec10 _ hM14
            · intro M13 hM13
              refine f_sqM (ρ := fun y => y) (f_call hM13 (frX11_setIts p1 x5 (5 : Int32) p4 M13) (by decide)) (fun M16 hM16 => ?_)
              refine f_lt (fun x17 => ?_)
              refine f_grd ?_
              refine f_grd ?_
              refine f_ltM (zfr_I hM16 (by decide)) (fun M18 hM18 => ?_)
              exact f_some hM18
set_option maxHeartbeats 4000000 in
theorem frX11_drop (p1 : Int32) (p2 : Int32) (M : zM) : zof (fX11_drop p1 p2 M) (fun y => y.2) [84] M := by
  have hM := zfr_rf [84] M
  unfold fX11_drop
  refine f_sq (fun b1 => ?_)
  refine f_ite ?_ ?_
  · exact f_some hM
  · refine f_lt (fun x2 => ?_)
    refine f_grd ?_
    refine f_grd ?_
    refine f_ltM (zfr_I hM (by decide)) (fun M3 hM3 => ?_)
    refine f_sqM (ρ := (fun y => y)) ?_ ?_
    · refine f_zlp (ρ := fun y => y.2) ?_ _ _ hM3
      intro rec6 hrec6 u hu
      obtain ⟨x4, M5⟩ := u
      try dsimp only at hu ⊢
      have hM5 := hu
      refine f_sq (fun x10 => ?_)
      refine f_ite ?_ ?_
      · exact f_some hM5
      · refine f_sqM (ρ := (fun y => y)) ?_ ?_
        · refine f_zlp (ρ := fun y => y.2) ?_ _ _ hM5
          intro rec21 hrec21 u hu
          obtain ⟨x19, M20⟩ := u
          try dsimp only at hu ⊢
          have hM20 := hu
          refine f_ite ?_ ?_
          · exact f_some hM20
          · refine f_sq (fun x25 => ?_)
            refine f_sqM (ρ := fun y => y) (f_call hM20 (frX11_setIts p1 x4 x19 x25 M20) (by decide)) (fun M26 hM26 => ?_)
            exact hrec21 _ hM26
        · intro M24 hM24
          exact hrec6 _ hM24
    · intro M9 hM9
      refine f_sq (fun x29 => ?_)
      exact f_some hM9
set_option maxHeartbeats 4000000 in
theorem frX11_sign (p1 : Int32) (p2 : Int32) (p3 : Int32) (p4 : Int32) (M : zM) : zof (fX11_sign p1 p2 p3 p4 M) (fun y => y.2) [84] M := by
  have hM := zfr_rf [84] M
  unfold fX11_sign
  refine f_sq (fun b1 => ?_)
  refine f_ite ?_ ?_
  · exact f_some hM
  · refine f_lt (fun b2 => ?_)
    refine f_ite ?_ ?_
    · exact f_some hM
    · refine f_lt (fun b3 => ?_)
      refine f_ite ?_ ?_
      · exact f_some hM
      · refine f_sq (fun x4 => ?_)
        refine f_sqM (ρ := fun y => y) (f_call hM (frX11_setIts p1 p2 (p3 + (1 : Int32)) p4 M) (by decide)) (fun M5 hM5 => ?_)
        exact f_some hM5
set_option maxHeartbeats 4000000 in
theorem frX11_layCosts (p1 : Int32) (M : zM) : zof (fX11_layCosts p1 M) (fun y => y) [85] M := by
  have hM := zfr_rf [85] M
  unfold fX11_layCosts
  refine f_zlp (ρ := fun y => y.2) ?_ _ _ hM
  intro rec27 hrec27 u hu
  obtain ⟨x25, M26⟩ := u
  try dsimp only at hu ⊢
  have hM26 := hu
  refine f_sq (fun x30 => ?_)
  refine f_ite ?_ ?_
  · exact f_some hM26
  · refine f_sqM (ρ := (fun y => y)) ?_ ?_
    · refine f_zlp (ρ := fun y => y.2) ?_ _ _ hM26
      intro rec33 hrec33 u hu
      obtain ⟨x31, M32⟩ := u
      try dsimp only at hu ⊢
      have hM32 := hu
      refine f_sq (fun x37 => ?_)
      refine f_ite ?_ ?_
      · exact f_some hM32
      · refine f_sq (fun x38 => ?_)
        refine f_grd ?_
        refine f_ltM (zfr_I hM32 (by decide)) (fun M39 hM39 => ?_)
        exact hrec33 _ hM39
    · intro M36 hM36
      exact hrec27 _ hM36
set_option maxHeartbeats 4000000 in
theorem frX11_layEnd (M : zM) : zof (fX11_layEnd M) (fun y => y) [86, 87, 88, 89, 90] M := by
  have hM := zfr_rf [86, 87, 88, 89, 90] M
  unfold fX11_layEnd
  refine f_sq (fun x1 => ?_)
  refine f_sq (fun x2 => ?_)
  refine f_zlp (ρ := fun y => y.2) ?_ _ _ hM
  intro rec17 hrec17 u hu
  obtain ⟨x15, M16⟩ := u
  try dsimp only at hu ⊢
  have hM16 := hu
  refine f_ite ?_ ?_
  · exact f_some hM16
  · refine f_lt (fun x20 => ?_)
    refine f_grd ?_
    refine f_sq (fun x21 => ?_)
    refine f_grd ?_
    refine f_ltM (zfr_I hM16 (by decide)) (fun M22 hM22 => ?_)
    refine f_grd ?_
    refine f_ltM (zfr_L hM22 (by decide)) (fun M23 hM23 => ?_)
    refine f_grd ?_
    refine f_ltM (zfr_L hM23 (by decide)) (fun M24 hM24 => ?_)
    refine f_grd ?_
    refine f_ltM (zfr_I hM24 (by decide)) (fun M25 hM25 => ?_)
    refine f_grd ?_
    refine f_ltM (zfr_I hM25 (by decide)) (fun M26 hM26 => ?_)
    exact hrec17 _ hM26
set_option maxHeartbeats 4000000 in
theorem frX11_takeIn (p1 : Int32) (p2 : Int32) (p3 : Int32) (p4 : Int32) (M : zM) : zof (fX11_takeIn p1 p2 p3 p4 M) (fun y => y) [86, 87, 88, 89, 90] M := by
  have hM := zfr_rf [86, 87, 88, 89, 90] M
  unfold fX11_takeIn
  refine f_grd ?_
  refine f_lt (fun x1 => ?_)
  refine f_grd ?_
  refine f_grd ?_
  refine f_grd ?_
  refine f_ltM (zfr_L hM (by decide)) (fun M2 hM2 => ?_)
  refine f_grd ?_
  refine f_jn0 ?_ ?_
  · intro _
    refine f_grd ?_
    refine f_ite ?_ ?_
    · exact f_some hM2
    · refine f_grd ?_
      refine f_ite ?_ ?_
      · refine f_grd ?_
        refine f_grd ?_
        refine f_grd ?_
        refine f_ltM (zfr_L hM2 (by decide)) (fun M7 hM7 => ?_)
        refine f_grd ?_
        refine f_lt (fun x8 => ?_)
        refine f_grd ?_
        refine f_lt (fun x9 => ?_)
        refine f_grd ?_
        refine f_sq ?_
        intro x10
        refine f_grd ?_
        refine f_ltM (zfr_I hM7 (by decide)) (fun M11 hM11 => ?_)
        refine f_grd ?_
        refine f_sq ?_
        intro x12
        refine f_grd ?_
        refine f_ltM (zfr_I hM11 (by decide)) (fun M13 hM13 => ?_)
        exact f_some hM13
      · exact f_some hM2
  · intro k14 hk14
    refine f_ite ?_ ?_
    · exact hk14 _
    · refine f_grd ?_
      refine f_ite ?_ ?_
      · exact hk14 _
      · refine f_grd ?_
        refine f_ltM (zfr_I hM2 (by decide)) (fun M15 hM15 => ?_)
        refine f_grd ?_
        refine f_grd ?_
        refine f_ltM (zfr_L hM15 (by decide)) (fun M16 hM16 => ?_)
        refine f_grd ?_
        refine f_grd ?_
        refine f_ltM (zfr_I hM16 (by decide)) (fun M17 hM17 => ?_)
        refine f_grd ?_
        refine f_grd ?_
        refine f_ltM (zfr_I hM17 (by decide)) (fun M18 hM18 => ?_)
        exact f_some hM18
set_option maxHeartbeats 4000000 in
theorem frX11_layPairings (p1 : Int32) (p2 : Int32) (p3 : Int32) (M : zM) : zof (fX11_layPairings p1 p2 p3 M) (fun y => y) [86, 87, 88, 89, 90] M := by
  have hM := zfr_rf [86, 87, 88, 89, 90] M
  unfold fX11_layPairings
  refine f_sqM (ρ := fun y => y) (f_call hM (frX11_layEnd M) (by decide)) (fun M1 hM1 => ?_)
  refine f_sq (fun x2 => ?_)
  refine f_sq (fun x3 => ?_)
  refine f_zlp (ρ := fun y => y.2) ?_ _ _ hM1
  intro rec6 hrec6 u hu
  obtain ⟨x4, M5⟩ := u
  try dsimp only at hu ⊢
  have hM5 := hu
  refine f_ite ?_ ?_
  · exact f_some hM5
  · refine f_sqM (ρ := (fun y => y)) ?_ ?_
    · refine f_zlp (ρ := fun y => y.2) ?_ _ _ hM5
      intro rec44 hrec44 u hu
      obtain ⟨x42, M43⟩ := u
      try dsimp only at hu ⊢
      have hM43 := hu
      refine f_ite ?_ ?_
      · exact f_some hM43
      · refine f_lt (fun x48 => ?_)
        refine f_grd ?_
        refine f_ltM (zfr_I hM43 (by decide)) (fun M49 hM49 => ?_)
        refine f_grd ?_
        refine f_ltM (zfr_L hM49 (by decide)) (fun M50 hM50 => ?_)
        refine f_grd ?_
        refine f_ltM (zfr_L hM50 (by decide)) (fun M51 hM51 => ?_)
        refine f_sq (fun b52 => ?_)
        refine f_sqM (ρ := (fun y => y)) ?_ ?_
        · refine f_ite ?_ ?_
          · exact f_some hM51
          · refine f_grd ?_
            refine f_sqM (ρ := fun y => y) (f_call hM51 (frX11_takeIn x48 (((1024 : Int32) * (x4 + (1 : Int32))) + x42) (M51.1 81 (zn (7 : Int32))) (0 : Int32) M51) (by decide)) (fun M68 hM68 => ?_)
            exact f_some hM68
        · intro M54 hM54
          refine f_sqM (ρ := (fun y => y)) ?_ ?_
          · refine f_zlp (ρ := fun y => y.2) ?_ _ _ hM54
            intro rec57 hrec57 u hu
            obtain ⟨x55, M56⟩ := u
            try dsimp only at hu ⊢
            have hM56 := hu
            refine f_ite ?_ ?_
            · exact f_some hM56
            · refine f_sqM (ρ := (fun y => y)) ?_ ?_
              · refine f_ite ?_ ?_
                · refine f_sq (fun b64 => ?_)
                  refine f_ite ?_ ?_
                  · exact f_some hM56
                  · refine f_grd ?_
                    refine f_sqM (ρ := fun y => y) (f_call hM56 (frX11_takeIn x48 (((1024 : Int32) * (x4 + (1 : Int32))) + (x42 ||| ((1 : Int32) <<< (x55 &&& 31)))) (M56.1 85 (zn (((10 : Int32) * x4) + x55))) (1 : Int32) M56) (by decide)) (fun M65 hM65 => ?_)
                    exact f_some hM65
                · exact f_some hM56
              · intro M63 hM63
                exact hrec57 _ hM63
          · intro M60 hM60
            exact hrec44 _ hM60
    · intro M47 hM47
      exact hrec6 _ hM47
set_option maxHeartbeats 4000000 in
theorem frX11_layAll (M : zM) : zof (fX11_layAll M) (fun y => y) [85, 86, 87, 88, 89, 90] M := by
  have hM := zfr_rf [85, 86, 87, 88, 89, 90] M
  unfold fX11_layAll
  refine f_sqM (ρ := fun y => y) (f_call hM (frX11_layCosts (15 : Int32) M) (by decide)) (fun M1 hM1 => ?_)
  refine f_sqM (ρ := fun y => y) (f_call hM1 (frX11_layPairings (0 : Int32) (0 : Int32) (0 : Int32) M1) (by decide)) (fun M2 hM2 => ?_)
  exact f_some hM2
set_option maxHeartbeats 4000000 in
theorem frX11_best (p1 : Int32) (M : zM) : zof (fX11_best p1 M) (fun y => y.2) [85, 86, 87, 88, 89, 90] M := by
  have hM := zfr_rf [85, 86, 87, 88, 89, 90] M
  unfold fX11_best
  refine f_lt (fun b1 => ?_)
  refine f_ite ?_ ?_
  · exact f_some hM
  · refine f_sqM (ρ := fun y => y) (f_call hM (frX11_layAll M) (by decide)) (fun M2 hM2 => ?_)
    refine f_ite ?_ ?_
    · refine f_grd ?_
      exact f_some hM2
    · refine f_ite ?_ ?_
      · refine f_grd ?_
        exact f_some hM2
      · refine f_ite ?_ ?_
        · refine f_grd ?_
          exact f_some hM2
        · refine f_grd ?_
          refine f_sq (fun x3 => ?_)
          refine f_grd ?_
          refine f_sq (fun x4 => ?_)
          exact f_some hM2
set_option maxHeartbeats 4000000 in
theorem frX11_layFirst (a1 : Nat) (M : zM) : zof (fX11_layFirst a1 M) (fun y => y) [a1] M := by
  have hM := zfr_rf [a1] M
  unfold fX11_layFirst
  refine f_zlp (ρ := fun y => y.2.2) ?_ _ _ hM
  intro rec65 hrec65 u hu
  obtain ⟨x62, x63, M64⟩ := u
  try dsimp only at hu ⊢
  have hM64 := hu
  refine f_ite ?_ ?_
  · exact f_some hM64
  · refine f_grd ?_
    refine f_ltM (zfr_I hM64 (by simp)) (fun M68 hM68 => ?_)
    refine f_sqM (ρ := (fun y => y)) ?_ ?_
    · refine f_zlp (ρ := fun y => y.2) ?_ _ _ hM68
      intro rec71 hrec71 u hu
      obtain ⟨x69, M70⟩ := u
      try dsimp only at hu ⊢
      have hM70 := hu
      refine f_sq (fun x75 => ?_)
      refine f_ite ?_ ?_
      · exact f_some hM70
      · refine f_sq (fun x76 => ?_)
        refine f_ite ?_ ?_
        · exact f_some hM70
        · refine f_grd ?_
          refine f_ite ?_ ?_
          · refine f_sq ?_
            intro b78
            refine f_sq ?_
            intro x80
            refine f_grd ?_
            refine f_ltM (zfr_I hM70 (by simp)) (fun M81 hM81 => ?_)
            exact hrec71 _ hM81
          · exact f_some hM70
    · intro M74 hM74
      refine f_grd ?_
      refine f_sq ?_
      intro x84
      refine f_lt (fun x85 => ?_)
      exact hrec65 _ hM74
set_option maxHeartbeats 4000000 in
theorem frX11_first (p1 : Int32) (M : zM) : zof (fX11_first p1 M) (fun y => y.2) [85, 86, 87, 88, 89, 90, 91] M := by
  have hM := zfr_rf [85, 86, 87, 88, 89, 90, 91] M
  unfold fX11_first
  refine f_sq (fun b1 => ?_)
  refine f_ite ?_ ?_
  · exact f_some hM
  · refine f_sqM (ρ := fun y => y) (f_call hM (frX11_layAll M) (by decide)) (fun M2 hM2 => ?_)
    refine f_sqM (ρ := fun y => y) (f_call hM2 (frX11_layFirst 91 M2) (by decide)) (fun M3 hM3 => ?_)
    refine f_grd ?_
    exact f_some hM3
set_option maxHeartbeats 4000000 in
theorem frX11_sureOf (p1 : Int32) (p2 : Int32) (M : zM) : zof (fX11_sureOf p1 p2 M) (fun y => y.2) [86, 87, 88, 89, 90] M := by
  have hM := zfr_rf [86, 87, 88, 89, 90] M
  unfold fX11_sureOf
  refine f_sqM (ρ := fun y => y) (f_call hM (frX11_layPairings (0 : Int32) (0 : Int32) (0 : Int32) M) (by decide)) (fun M1 hM1 => ?_)
  refine f_grd ?_
  refine f_lt (fun x2 => ?_)
  refine f_sqM (ρ := fun y => y) (f_call hM1 (frX11_layPairings p1 p2 (1 : Int32) M1) (by decide)) (fun M3 hM3 => ?_)
  refine f_grd ?_
  refine f_ite ?_ ?_
  · exact f_some hM3
  · refine f_grd ?_
    refine f_ite ?_ ?_
    · refine f_sqM (ρ := fun y => y) (f_call hM3 (frX11_layPairings p1 p2 (2 : Int32) M3) (by decide)) (fun M4 hM4 => ?_)
      refine f_grd ?_
      refine f_ite ?_ ?_
      · exact f_some hM4
      · exact f_some hM4
    · exact f_some hM3
set_option maxHeartbeats 4000000 in
theorem frX11_sure (p1 : Int32) (p2 : Int32) (M : zM) : zof (fX11_sure p1 p2 M) (fun y => y.2) [85, 86, 87, 88, 89, 90] M := by
  have hM := zfr_rf [85, 86, 87, 88, 89, 90] M
  unfold fX11_sure
  refine f_sq (fun b1 => ?_)
  refine f_ite ?_ ?_
  · exact f_some hM
  · refine f_sqM (ρ := fun y => y) (f_call hM (frX11_layCosts (15 : Int32) M) (by decide)) (fun M2 hM2 => ?_)
    refine f_bi (f_call hM2 (frX11_sureOf p1 p2 M2) (by decide)) (fun x4 M3 hM3 => ?_)
    exact f_some hM3
set_option maxHeartbeats 4000000 in
theorem frX11_share (p1 : Int32) (p2 : Int32) (p3 : Int32) (M : zM) : zof (fX11_share p1 p2 p3 M) (fun y => y.2) [85, 86, 87, 88, 89, 90] M := by
  have hM := zfr_rf [85, 86, 87, 88, 89, 90] M
  unfold fX11_share
  refine f_sq (fun b1 => ?_)
  refine f_ite ?_ ?_
  · exact f_some hM
  · refine f_lt (fun b2 => ?_)
    refine f_ite ?_ ?_
    · exact f_some hM
    · refine f_sqM (ρ := fun y => y) (f_call hM (frX11_layAll M) (by decide)) (fun M3 hM3 => ?_)
      refine f_grd ?_
      refine f_lt (fun x4 => ?_)
      refine f_sqM (ρ := fun y => y) (f_call hM3 (frX11_layPairings p1 p2 (1 : Int32) M3) (by decide)) (fun M5 hM5 => ?_)
      refine f_grd ?_
      refine f_sq ?_
      intro x6
      refine f_sq (fun x7 => ?_)
      exact f_some hM5
set_option maxHeartbeats 4000000 in
theorem frX11_ifMust (p1 : Int32) (p2 : Int32) (p3 : Int32) (M : zM) : zof (fX11_ifMust p1 p2 p3 M) (fun y => y.2) [85, 86, 87, 88, 89, 90] M := by
  have hM := zfr_rf [85, 86, 87, 88, 89, 90] M
  unfold fX11_ifMust
  refine f_sq (fun b1 => ?_)
  refine f_ite ?_ ?_
  · exact f_some hM
  · refine f_sqM (ρ := fun y => y) (f_call hM (frX11_layAll M) (by decide)) (fun M2 hM2 => ?_)
    refine f_grd ?_
    refine f_lt (fun x3 => ?_)
    refine f_jn0 ?_ ?_
    · intro _
      refine f_lt (fun x4 => ?_)
      refine f_sqM (ρ := fun y => y) (f_call hM2 (frX11_layPairings p1 p2 x4 M2) (by decide)) (fun M5 hM5 => ?_)
      refine f_grd ?_
      exact f_some hM5
    · intro k7 hk7
      refine f_ite ?_ ?_
      · exact hk7 _
      · refine f_grd ?_
        refine f_ite ?_ ?_
        · exact f_some hM2
        · exact hk7 _
set_option maxHeartbeats 4000000 in
theorem frX11_alone (p1 : Int32) (p2 : Int32) (M : zM) : zof (fX11_alone p1 p2 M) (fun y => y.2) [85, 86, 87, 88, 89, 90] M := by
  have hM := zfr_rf [85, 86, 87, 88, 89, 90] M
  unfold fX11_alone
  refine f_lt (fun b1 => ?_)
  refine f_ite ?_ ?_
  · exact f_some hM
  · refine f_lt (fun b2 => ?_)
    refine f_ite ?_ ?_
    · exact f_some hM
    · refine f_sqM (ρ := fun y => y) (f_call hM (frX11_layAll M) (by decide)) (fun M3 hM3 => ?_)
      refine f_grd ?_
      refine f_lt (fun x4 => ?_)
      refine f_grd ?_
      refine f_lt (fun x5 => ?_)
      refine f_grd ?_
      refine f_lt (fun x6 => ?_)
      refine f_zlp (ρ := fun y => y.2.2) ?_ _ _ hM3
      intro rec40 hrec40 u hu
      obtain ⟨x37, x38, M39⟩ := u
      try dsimp only at hu ⊢
      have hM39 := hu
      refine f_sq (fun x43 => ?_)
      refine f_ite ?_ ?_
      · exact f_some hM39
      · refine f_lt (fun x44 => ?_)
        refine f_sqM (ρ := fun y => y) (f_call hM39 (frX11_layPairings x38 x38 x44 M39) (by decide)) (fun M45 hM45 => ?_)
        refine f_sq ?_
        intro b49
        refine f_lt (fun x50 => ?_)
        refine f_lt (fun x51 => ?_)
        exact hrec40 _ hM45
set_option maxHeartbeats 4000000 in
theorem frX11_many (p1 : Int32) (M : zM) : zof (fX11_many p1 M) (fun y => y.2) [85, 86, 87, 88, 89, 90] M := by
  have hM := zfr_rf [85, 86, 87, 88, 89, 90] M
  unfold fX11_many
  refine f_lt (fun b1 => ?_)
  refine f_ite ?_ ?_
  · exact f_some hM
  · refine f_sqM (ρ := fun y => y) (f_call hM (frX11_layAll M) (by decide)) (fun M2 hM2 => ?_)
    refine f_ite ?_ ?_
    · refine f_grd ?_
      exact f_some hM2
    · refine f_grd ?_
      exact f_some hM2
set_option maxHeartbeats 4000000 in
theorem frX11_ways (p1 : Int32) (M : zM) : zof (fX11_ways p1 M) (fun y => y.2) [85, 93] M := by
  have hM := zfr_rf [85, 93] M
  unfold fX11_ways
  refine f_lt (fun b1 => ?_)
  refine f_ite ?_ ?_
  · exact f_some hM
  · refine f_sqM (ρ := fun y => y) (f_call hM (frX11_layCosts (15 : Int32) M) (by decide)) (fun M2 hM2 => ?_)
    refine f_sq (fun x3 => ?_)
    refine f_sqM (ρ := (fun y => y)) ?_ ?_
    · refine f_zlp (ρ := fun y => y.2) ?_ _ _ hM2
      intro rec14 hrec14 u hu
      obtain ⟨x12, M13⟩ := u
      try dsimp only at hu ⊢
      have hM13 := hu
      refine f_ite ?_ ?_
      · exact f_some hM13
      · refine f_lt (fun x18 => ?_)
        refine f_grd ?_
        refine f_ltM (zfr_L hM13 (by decide)) (fun M19 hM19 => ?_)
        exact hrec14 _ hM19
    · intro M17 hM17
      refine f_sqM (ρ := (fun y => y)) ?_ ?_
      · refine f_zlp (ρ := fun y => y.2) ?_ _ _ hM17
        intro rec60 hrec60 u hu
        obtain ⟨x58, M59⟩ := u
        try dsimp only at hu ⊢
        have hM59 := hu
        refine f_sq (fun x64 => ?_)
        refine f_ite ?_ ?_
        · exact f_some hM59
        · refine f_lt (fun x65 => ?_)
          refine f_sqM (ρ := (fun y => y)) ?_ ?_
          · refine f_zlp (ρ := fun y => y.2) ?_ _ _ hM59
            intro rec68 hrec68 u hu
            obtain ⟨x66, M67⟩ := u
            try dsimp only at hu ⊢
            have hM67 := hu
            refine f_ite ?_ ?_
            · exact f_some hM67
            · refine f_sqM (ρ := (fun y => y)) ?_ ?_
              · refine f_zlp (ρ := fun y => y.2) ?_ _ _ hM67
                intro rec74 hrec74 u hu
                obtain ⟨x72, M73⟩ := u
                try dsimp only at hu ⊢
                have hM73 := hu
                refine f_ite ?_ ?_
                · exact f_some hM73
                · refine f_sq ?_
                  intro b79
                  refine f_grd ?_
                  refine f_sq ?_
                  intro x80
                  refine f_grd ?_
                  refine f_ltM (zfr_L hM73 (by decide)) (fun M81 hM81 => ?_)
                  exact hrec74 _ hM81
              · intro M77 hM77
                exact hrec68 _ hM77
          · intro M71 hM71
            exact hrec60 _ hM71
      · intro M63 hM63
        refine f_zlp0 ?_ _ _
        intro rec97 hrec97 u
        obtain ⟨x95, x96⟩ := u
        try dsimp only
        refine f_ite ?_ ?_
        · exact f_some hM63
        · refine f_sq (fun x100 => ?_)
          refine f_sq ?_
          intro x101
          refine f_lt (fun x102 => ?_)
          exact hrec97 _
set_option maxHeartbeats 4000000 in
theorem frX11_tell (p1 : Int32) (p2 : Int32) (M : zM) : zof (fX11_tell p1 p2 M) (fun y => y.2) [84] M := by
  have hM := zfr_rf [84] M
  unfold fX11_tell
  refine f_lt (fun b1 => ?_)
  refine f_ite ?_ ?_
  · exact f_some hM
  · refine f_lt (fun b2 => ?_)
    refine f_jn0 ?_ ?_
    · intro _
      refine f_sq (fun x3 => ?_)
      refine f_lt (fun x4 => ?_)
      refine f_grd ?_
      refine f_ltM (zfr_I hM (by decide)) (fun M5 hM5 => ?_)
      exact f_some hM5
    · intro k7 hk7
      refine f_ite ?_ ?_
      · refine f_ite ?_ ?_
        · exact hk7 _
        · exact f_some hM
      · exact hk7 _
set_option maxHeartbeats 4000000 in
theorem frX11_adopt (M : zM) : zof (fX11_adopt M) (fun y => y.2) [84, 85, 86, 87, 88, 89, 90, 91] M := by
  have hM := zfr_rf [84, 85, 86, 87, 88, 89, 90, 91] M
  unfold fX11_adopt
  refine f_sqM (ρ := fun y => y) (f_call hM (frX11_layAll M) (by decide)) (fun M1 hM1 => ?_)
  refine f_sqM (ρ := fun y => y) (f_call hM1 (frX11_layFirst 91 M1) (by decide)) (fun M2 hM2 => ?_)
  refine f_zlp (ρ := fun y => y.2.2) ?_ _ _ hM2
  intro rec26 hrec26 u hu
  obtain ⟨x23, x24, M25⟩ := u
  try dsimp only at hu ⊢
  have hM25 := hu
  refine f_ite ?_ ?_
  · exact f_some hM25
  · refine f_grd ?_
    refine f_sq ?_
    intro x29
    refine f_grd ?_
    refine f_ltM (zfr_I hM25 (by decide)) (fun M30 hM30 => ?_)
    refine f_grd ?_
    refine f_lt (fun b31 => ?_)
    refine f_lt (fun x32 => ?_)
    exact hrec26 _ hM30
set_option maxHeartbeats 4000000 in
theorem frX11_judge (p1 : Int32) (M : zM) : zof (fX11_judge p1 M) (fun y => y.2) [85, 86, 87, 88, 89, 90] M := by
  have hM := zfr_rf [85, 86, 87, 88, 89, 90] M
  unfold fX11_judge
  refine f_lt (fun b1 => ?_)
  refine f_ite ?_ ?_
  · exact f_some hM
  · refine f_grd ?_
    refine f_sq (fun x2 => ?_)
    refine f_lt (fun x3 => ?_)
    refine f_zlp0 ?_ _ _
    intro rec18 hrec18 u
    obtain ⟨x16, x17⟩ := u
    try dsimp only
    refine f_sq (fun x21 => ?_)
    refine f_ite ?_ ?_
    · refine f_ite ?_ ?_
      · refine f_sqM (ρ := fun y => y) (f_call hM (frX11_layAll M) (by decide)) (fun M22 hM22 => ?_)
        refine f_ite ?_ ?_
        · exact f_some hM22
        · refine f_grd ?_
          exact f_some hM22
      · refine f_ite ?_ ?_
        · exact f_some hM
        · exact f_some hM
    · refine f_sq (fun x23 => ?_)
      refine f_ite ?_ ?_
      · refine f_sq (fun x24 => ?_)
        refine f_sq ?_
        intro x26
        refine f_lt (fun x27 => ?_)
        exact hrec18 _
      · refine f_ite ?_ ?_
        · exact f_some hM
        · refine f_ite ?_ ?_
          · exact f_some hM
          · exact f_some hM
set_option maxHeartbeats 4000000 in
theorem frX11_prices (p1 : Int32) (p2 : Int32) (p3 : Int32) (p4 : Int32) (M : zM) : zof (fX11_prices p1 p2 p3 p4 M) (fun y => y.2) [85, 86, 87, 88, 89, 90] M := by
  have hM := zfr_rf [85, 86, 87, 88, 89, 90] M
  unfold fX11_prices
  refine f_lt (fun b1 => ?_)
  refine f_jn0 ?_ ?_
  · intro _
    exact f_some hM
  · intro k181 hk181
    refine f_ite ?_ ?_
    · exact hk181 _
    · refine f_lt (fun b182 => ?_)
      refine f_ite ?_ ?_
      · exact hk181 _
      · refine f_lt (fun b183 => ?_)
        refine f_ite ?_ ?_
        · exact hk181 _
        · refine f_grd ?_
          refine f_jn0 ?_ ?_
          · intro _
            refine f_grd ?_
            refine f_lt (fun x232 => ?_)
            exact f_some hM
          · intro k234 hk234
            refine f_ite ?_ ?_
            · exact hk234 _
            · refine f_grd ?_
              refine f_ite ?_ ?_
              · refine f_sq (fun x235 => ?_)
                refine f_sq (fun x236 => ?_)
                refine f_lt (fun x237 => ?_)
                refine f_zlp0 ?_ _ _
                intro rec239 hrec239 x238
                refine f_ite ?_ ?_
                · refine f_sqM (ρ := fun y => y) (f_call hM (frX11_layAll M) (by decide)) (fun M240 hM240 => ?_)
                  refine f_lt (fun x241 => ?_)
                  refine f_lt (fun x242 => ?_)
                  refine f_sq ?_
                  intro u
                  obtain ⟨x250, x251, x252⟩ := u
                  try dsimp only
                  refine f_lt (fun b272 => ?_)
                  refine f_ite ?_ ?_
                  · refine f_ite ?_ ?_
                    · exact f_some hM240
                    · exact f_some hM240
                  · refine f_ite ?_ ?_
                    · exact f_some hM240
                    · refine f_ite ?_ ?_
                      · exact f_some hM240
                      · refine f_ite ?_ ?_
                        · exact f_some hM240
                        · refine f_ite ?_ ?_
                          · exact f_some hM240
                          · refine f_grd ?_
                            exact f_some hM240
                · refine f_grd ?_
                  refine f_lt (fun b281 => ?_)
                  refine f_ite ?_ ?_
                  · exact f_some hM
                  · refine f_grd ?_
                    refine f_lt (fun b282 => ?_)
                    refine f_ite ?_ ?_
                    · exact f_some hM
                    · exact hrec239 _
              · exact hk234 _
set_option maxHeartbeats 4000000 in
theorem frX11_times (p1 : Int32) (M : zM) : zof (fX11_times p1 M) (fun y => y.2) [85, 86, 87, 88, 89, 90, 91] M := by
  have hM := zfr_rf [85, 86, 87, 88, 89, 90, 91] M
  unfold fX11_times
  refine f_lt (fun b1 => ?_)
  refine f_ite ?_ ?_
  · exact f_some hM
  · refine f_sqM (ρ := fun y => y) (f_call hM (frX11_layAll M) (by decide)) (fun M2 hM2 => ?_)
    refine f_sqM (ρ := fun y => y) (f_call hM2 (frX11_layFirst 91 M2) (by decide)) (fun M3 hM3 => ?_)
    refine f_sqM (ρ := (fun y => y.2.2.2.2)) ?_ ?_
    · refine f_zlp (ρ := fun y => y.2.2.2.2.2) ?_ _ _ hM3
      intro rec185 hrec185 u hu
      obtain ⟨x179, x180, x181, x182, x183, M184⟩ := u
      try dsimp only at hu ⊢
      have hM184 := hu
      refine f_sq (fun x193 => ?_)
      refine f_ite ?_ ?_
      · exact f_some hM184
      · refine f_grd ?_
        refine f_lt (fun x194 => ?_)
        refine f_sqM (ρ := (fun y => y.2.2.2.2)) ?_ ?_
        · refine f_ite ?_ ?_
          · exact f_some hM184
          · refine f_jn (ρ := fun y => y) ?_ ?_
            · intro M219 hM219
              refine f_sq (fun x220 => ?_)
              refine f_lt (fun x222 => ?_)
              refine f_lt (fun x224 => ?_)
              refine f_lt (fun x225 => ?_)
              exact f_some hM219
            · intro k228 hk228
              refine f_ite ?_ ?_
              · exact hk228 _ hM184
              · refine f_bi (f_call hM184 (frX11_sureOf x183 x194 M184) (by decide)) (fun x230 M229 hM229 => ?_)
                refine f_ite ?_ ?_
                · exact hk228 _ hM229
                · exact f_some hM229
        · intro u hu
          obtain ⟨x209, x210, x211, x212, M213⟩ := u
          try dsimp only at hu ⊢
          have hM213 := hu
          exact hrec185 _ hM213
    · intro u hu
      obtain ⟨x188, x189, x190, x191, M192⟩ := u
      try dsimp only at hu ⊢
      have hM192 := hu
      refine f_ite ?_ ?_
      · exact f_some hM192
      · refine f_ite ?_ ?_
        · exact f_some hM192
        · refine f_ite ?_ ?_
          · exact f_some hM192
          · refine f_ite ?_ ?_
            · exact f_some hM192
            · refine f_sq (fun x233 => ?_)
              exact f_some hM192
set_option maxHeartbeats 4000000 in
theorem frX11_clock (p1 : Int32) (M : zM) : zof (fX11_clock p1 M) (fun y => y.2) [81, 85, 86, 87, 88, 89, 90] M := by
  have hM := zfr_rf [81, 85, 86, 87, 88, 89, 90] M
  unfold fX11_clock
  refine f_lt (fun b1 => ?_)
  refine f_ite ?_ ?_
  · exact f_some hM
  · refine f_grd ?_
    refine f_lt (fun x2 => ?_)
    refine f_sqM (ρ := (fun y => y.2.2)) ?_ ?_
    · refine f_zlp (ρ := fun y => y.2.2.2) ?_ _ _ hM
      intro rec33 hrec33 u hu
      obtain ⟨x29, x30, x31, M32⟩ := u
      try dsimp only at hu ⊢
      have hM32 := hu
      refine f_ite ?_ ?_
      · exact f_some hM32
      · refine f_grd ?_
        refine f_ltM (zfr_I hM32 (by decide)) (fun M39 hM39 => ?_)
        refine f_sqM (ρ := fun y => y) (f_call hM39 (frX11_layAll M39) (by decide)) (fun M40 hM40 => ?_)
        refine f_grd ?_
        refine f_sq ?_
        intro b52
        refine f_lt (fun x53 => ?_)
        refine f_sq ?_
        intro x54
        exact hrec33 _ hM40
    · intro u hu
      obtain ⟨x36, x37, M38⟩ := u
      try dsimp only at hu ⊢
      have hM38 := hu
      refine f_grd ?_
      refine f_ltM (zfr_I hM38 (by decide)) (fun M67 hM67 => ?_)
      refine f_ite ?_ ?_
      · exact f_some hM67
      · exact f_some hM67
set_option maxHeartbeats 4000000 in
theorem frX11_passed (p1 : Int32) (M : zM) : zof (fX11_passed p1 M) (fun y => y.2) [85, 86, 87, 88, 89, 90, 91] M := by
  have hM := zfr_rf [85, 86, 87, 88, 89, 90, 91] M
  unfold fX11_passed
  refine f_lt (fun b1 => ?_)
  refine f_ite ?_ ?_
  · exact f_some hM
  · refine f_sqM (ρ := fun y => y) (f_call hM (frX11_layAll M) (by decide)) (fun M2 hM2 => ?_)
    refine f_sqM (ρ := fun y => y) (f_call hM2 (frX11_layFirst 91 M2) (by decide)) (fun M3 hM3 => ?_)
    refine f_sq ?_
    intro u
    obtain ⟨x103, x104⟩ := u
    try dsimp only
    refine f_ite ?_ ?_
    · refine f_zlp0 ?_ _ _
      intro rec139 hrec139 u
      obtain ⟨x137, x138⟩ := u
      try dsimp only
      refine f_sq (fun x142 => ?_)
      refine f_ite ?_ ?_
      · exact f_some hM3
      · refine f_sq (fun x143 => ?_)
        refine f_sq ?_
        intro x149
        exact hrec139 _
    · refine f_ite ?_ ?_
      · exact f_some hM3
      · exact f_some hM3
set_option maxHeartbeats 4000000 in
theorem frX11_reads (p1 : Int32) (p2 : Int32) (M : zM) : zof (fX11_reads p1 p2 M) (fun y => y.2) [85, 86, 87, 88, 89, 90, 91] M := by
  have hM := zfr_rf [85, 86, 87, 88, 89, 90, 91] M
  unfold fX11_reads
  refine f_lt (fun b1 => ?_)
  refine f_ite ?_ ?_
  · exact f_some hM
  · refine f_lt (fun b2 => ?_)
    refine f_ite ?_ ?_
    · exact f_some hM
    · refine f_sqM (ρ := fun y => y) (f_call hM (frX11_layAll M) (by decide)) (fun M3 hM3 => ?_)
      refine f_sqM (ρ := fun y => y) (f_call hM3 (frX11_layFirst 91 M3) (by decide)) (fun M4 hM4 => ?_)
      refine f_sq (fun x5 => ?_)
      exact f_some hM4
set_option maxHeartbeats 4000000 in
theorem frX11_blamed (M : zM) : zof (fX11_blamed M) (fun y => y.2) [85, 86, 87, 88, 89, 90, 91] M := by
  have hM := zfr_rf [85, 86, 87, 88, 89, 90, 91] M
  unfold fX11_blamed
  refine f_sqM (ρ := fun y => y) (f_call hM (frX11_layAll M) (by decide)) (fun M1 hM1 => ?_)
  refine f_sqM (ρ := fun y => y) (f_call hM1 (frX11_layFirst 91 M1) (by decide)) (fun M2 hM2 => ?_)
  refine f_zlp0 ?_ _ _
  intro rec26 hrec26 u
  obtain ⟨x23, x24, x25⟩ := u
  try dsimp only
  refine f_ite ?_ ?_
  · exact f_some hM2
  · refine f_sq ?_
    intro x30
    refine f_lt (fun x31 => ?_)
    refine f_lt (fun x32 => ?_)
    exact hrec26 _
set_option maxHeartbeats 4000000 in
theorem frX11_blame (p1 : Int32) (M : zM) : zof (fX11_blame p1 M) (fun y => y.2) [85, 86, 87, 88, 89, 90, 91] M := by
  have hM := zfr_rf [85, 86, 87, 88, 89, 90, 91] M
  unfold fX11_blame
  refine f_lt (fun b1 => ?_)
  refine f_ite ?_ ?_
  · exact f_some hM
  · refine f_bi (f_call hM (frX11_blamed M) (by decide)) (fun x3 M2 hM2 => ?_)
    refine f_ite ?_ ?_
    · exact f_some hM2
    · refine f_ite ?_ ?_
      · exact f_some hM2
      · refine f_ite ?_ ?_
        · exact f_some hM2
        · refine f_sq (fun x4 => ?_)
          exact f_some hM2
set_option maxHeartbeats 4000000 in
theorem frX11_learn (p1 : Int32) (M : zM) : zof (fX11_learn p1 M) (fun y => y.2) [84, 85, 86, 87, 88, 89, 90, 91] M := by
  have hM := zfr_rf [84, 85, 86, 87, 88, 89, 90, 91] M
  unfold fX11_learn
  refine f_lt (fun b1 => ?_)
  refine f_ite ?_ ?_
  · exact f_some hM
  · refine f_bi (f_call hM (frX11_blamed M) (by decide)) (fun x3 M2 hM2 => ?_)
    refine f_ite ?_ ?_
    · exact f_some hM2
    · refine f_grd ?_
      refine f_sq ?_
      intro x4
      refine f_grd ?_
      refine f_ltM (zfr_I hM2 (by decide)) (fun M5 hM5 => ?_)
      exact f_some hM5
set_option maxHeartbeats 4000000 in
theorem frX11_enough (p1 : Int32) (M : zM) : zof (fX11_enough p1 M) (fun y => y.2) [85, 86, 87, 88, 89, 90, 91, 92] M := by
  have hM := zfr_rf [85, 86, 87, 88, 89, 90, 91, 92] M
  unfold fX11_enough
  refine f_lt (fun b1 => ?_)
  refine f_ite ?_ ?_
  · exact f_some hM
  · refine f_sqM (ρ := fun y => y) (f_call hM (frX11_layAll M) (by decide)) (fun M2 hM2 => ?_)
    refine f_sqM (ρ := fun y => y) (f_call hM2 (frX11_layFirst 91 M2) (by decide)) (fun M3 hM3 => ?_)
    refine f_sqM (ρ := (fun y => y.2)) ?_ ?_
    · refine f_zlp (ρ := fun y => y.2.2) ?_ _ _ hM3
      intro rec48 hrec48 u hu
      obtain ⟨x45, x46, M47⟩ := u
      try dsimp only at hu ⊢
      have hM47 := hu
      refine f_ite ?_ ?_
      · exact f_some hM47
      · refine f_sqM (ρ := (fun y => y.2)) ?_ ?_
        · refine f_jn0 ?_ ?_
          · intro _
            refine f_sqM (ρ := fun y => y) (f_call hM47 (frX11_layCosts x46 M47) (by decide)) (fun M83 hM83 => ?_)
            refine f_sqM (ρ := fun y => y) (f_call hM83 (frX11_layPairings (0 : Int32) (0 : Int32) (0 : Int32) M83) (by decide)) (fun M84 hM84 => ?_)
            refine f_sqM (ρ := fun y => y) (f_call hM84 (frX11_layFirst 92 M84) (by decide)) (fun M85 hM85 => ?_)
            refine f_grd ?_
            refine f_lt (fun b86 => ?_)
            refine f_sq ?_
            intro b92
            refine f_lt (fun x96 => ?_)
            exact f_some hM85
          · intro k101 hk101
            refine f_ite ?_ ?_
            · exact hk101 _
            · refine f_sq (fun x102 => ?_)
              refine f_sq (fun x103 => ?_)
              refine f_ite ?_ ?_
              · exact f_some hM47
              · exact hk101 _
        · intro u hu
          obtain ⟨x76, M77⟩ := u
          try dsimp only at hu ⊢
          have hM77 := hu
          exact hrec48 _ hM77
    · intro u hu
      obtain ⟨x51, M52⟩ := u
      try dsimp only at hu ⊢
      have hM52 := hu
      refine f_ite ?_ ?_
      · exact f_some hM52
      · refine f_ite ?_ ?_
        · refine f_sq (fun x106 => ?_)
          exact f_some hM52
        · exact f_some hM52
set_option maxHeartbeats 4000000 in
theorem frX11_cars (p1 : Int32) (p2 : Int32) (M : zM) : zof (fX11_cars p1 p2 M) (fun y => y.2) [94, 95] M := by
  have hM := zfr_rf [94, 95] M
  unfold fX11_cars
  refine f_lt (fun b1 => ?_)
  refine f_ite ?_ ?_
  · exact f_some hM
  · refine f_lt (fun b2 => ?_)
    refine f_ite ?_ ?_
    · exact f_some hM
    · refine f_sq (fun x3 => ?_)
      refine f_ite ?_ ?_
      · exact f_some hM
      · refine f_sqM (ρ := (fun y => y)) ?_ ?_
        · refine f_zlp (ρ := fun y => y.2) ?_ _ _ hM
          intro rec14 hrec14 u hu
          obtain ⟨x12, M13⟩ := u
          try dsimp only at hu ⊢
          have hM13 := hu
          refine f_ite ?_ ?_
          · exact f_some hM13
          · refine f_sq (fun b18 => ?_)
            refine f_grd ?_
            refine f_ltM (zfr_I hM13 (by decide)) (fun M19 hM19 => ?_)
            exact hrec14 _ hM19
        · intro M17 hM17
          refine f_sqM (ρ := (fun y => y)) ?_ ?_
          · refine f_zlp (ρ := fun y => y.2) ?_ _ _ hM17
            intro rec53 hrec53 u hu
            obtain ⟨x51, M52⟩ := u
            try dsimp only at hu ⊢
            have hM52 := hu
            refine f_ite ?_ ?_
            · exact f_some hM52
            · refine f_lt (fun x57 => ?_)
              refine f_grd ?_
              refine f_ltM (zfr_I hM52 (by decide)) (fun M58 hM58 => ?_)
              refine f_sqM (ρ := (fun y => y)) ?_ ?_
              · refine f_zlp (ρ := fun y => y.2) ?_ _ _ hM58
                intro rec61 hrec61 u hu
                obtain ⟨x59, M60⟩ := u
                try dsimp only at hu ⊢
                have hM60 := hu
                refine f_ite ?_ ?_
                · exact f_some hM60
                · refine f_sq ?_
                  intro x66
                  refine f_grd ?_
                  refine f_sq ?_
                  intro x67
                  refine f_grd ?_
                  refine f_ltM (zfr_I hM60 (by decide)) (fun M68 hM68 => ?_)
                  refine f_lt (fun x69 => ?_)
                  exact hrec61 _ hM68
              · intro M64 hM64
                exact hrec53 _ hM64
          · intro M56 hM56
            refine f_ite ?_ ?_
            · exact f_some hM56
            · refine f_grd ?_
              exact f_some hM56
set_option maxHeartbeats 4000000 in
theorem frX11_keep (p1 : Int32) (M : zM) : zof (fX11_keep p1 M) (fun y => y.2) [81, 84, 96] M := by
  have hM := zfr_rf [81, 84, 96] M
  unfold fX11_keep
  refine f_lt (fun b1 => ?_)
  refine f_ite ?_ ?_
  · exact f_some hM
  · refine f_sqM (ρ := (fun y => y)) ?_ ?_
    · refine f_zlp (ρ := fun y => y.2) ?_ _ _ hM
      intro rec11 hrec11 u hu
      obtain ⟨x9, M10⟩ := u
      try dsimp only at hu ⊢
      have hM10 := hu
      refine f_ite ?_ ?_
      · exact f_some hM10
      · refine f_grd ?_
        refine f_grd ?_
        refine f_ltM (zfr_I hM10 (by decide)) (fun M15 hM15 => ?_)
        exact hrec11 _ hM15
    · intro M14 hM14
      refine f_sqM (ρ := (fun y => y)) ?_ ?_
      · refine f_zlp (ρ := fun y => y.2) ?_ _ _ hM14
        intro rec25 hrec25 u hu
        obtain ⟨x23, M24⟩ := u
        try dsimp only at hu ⊢
        have hM24 := hu
        refine f_ite ?_ ?_
        · exact f_some hM24
        · refine f_grd ?_
          refine f_grd ?_
          refine f_ltM (zfr_I hM24 (by decide)) (fun M29 hM29 => ?_)
          exact hrec25 _ hM29
      · intro M28 hM28
        refine f_grd ?_
        refine f_lt (fun b30 => ?_)
        refine f_grd ?_
        refine f_ltM (zfr_I hM28 (by decide)) (fun M31 hM31 => ?_)
        exact f_some hM31
set_option maxHeartbeats 4000000 in
theorem frX11_back (p1 : Int32) (M : zM) : zof (fX11_back p1 M) (fun y => y.2) [81, 84] M := by
  have hM := zfr_rf [81, 84] M
  unfold fX11_back
  refine f_lt (fun b1 => ?_)
  refine f_ite ?_ ?_
  · exact f_some hM
  · refine f_grd ?_
    refine f_ite ?_ ?_
    · exact f_some hM
    · refine f_sqM (ρ := (fun y => y)) ?_ ?_
      · refine f_zlp (ρ := fun y => y.2) ?_ _ _ hM
        intro rec11 hrec11 u hu
        obtain ⟨x9, M10⟩ := u
        try dsimp only at hu ⊢
        have hM10 := hu
        refine f_ite ?_ ?_
        · exact f_some hM10
        · refine f_grd ?_
          refine f_grd ?_
          refine f_ltM (zfr_I hM10 (by decide)) (fun M15 hM15 => ?_)
          exact hrec11 _ hM15
      · intro M14 hM14
        refine f_sqM (ρ := (fun y => y)) ?_ ?_
        · refine f_zlp (ρ := fun y => y.2) ?_ _ _ hM14
          intro rec25 hrec25 u hu
          obtain ⟨x23, M24⟩ := u
          try dsimp only at hu ⊢
          have hM24 := hu
          refine f_ite ?_ ?_
          · exact f_some hM24
          · refine f_grd ?_
            refine f_grd ?_
            refine f_ltM (zfr_I hM24 (by decide)) (fun M29 hM29 => ?_)
            exact hrec25 _ hM29
        · intro M28 hM28
          refine f_sq (fun x30 => ?_)
          refine f_sq (fun x31 => ?_)
          exact f_some hM28
set_option maxHeartbeats 4000000 in
theorem frX11_sheet (p1 : Int32) (p2 : Int32) (p3 : Int32) (M : zM) : zof (fX11_sheet p1 p2 p3 M) (fun y => y.2) [97, 98, 99] M := by
  have hM := zfr_rf [97, 98, 99] M
  unfold fX11_sheet
  refine f_lt (fun b1 => ?_)
  refine f_ite ?_ ?_
  · exact f_some hM
  · refine f_lt (fun b2 => ?_)
    refine f_ite ?_ ?_
    · exact f_some hM
    · refine f_ite ?_ ?_
      · refine f_ite ?_ ?_
        · refine f_grd ?_
          refine f_ltM (zfr_I hM (by decide)) (fun M3 hM3 => ?_)
          refine f_grd ?_
          refine f_ltM (zfr_I hM3 (by decide)) (fun M4 hM4 => ?_)
          refine f_zlp (ρ := fun y => y.2) ?_ _ _ hM4
          intro rec13 hrec13 u hu
          obtain ⟨x11, M12⟩ := u
          try dsimp only at hu ⊢
          have hM12 := hu
          refine f_ite ?_ ?_
          · exact f_some hM12
          · refine f_grd ?_
            refine f_ltM (zfr_I hM12 (by decide)) (fun M16 hM16 => ?_)
            exact hrec13 _ hM16
        · exact f_some hM
      · exact f_some hM
set_option maxHeartbeats 4000000 in
theorem frX11_lay (p1 : Int32) (p2 : Int32) (p3 : Int32) (M : zM) : zof (fX11_lay p1 p2 p3 M) (fun y => y.2) [99] M := by
  have hM := zfr_rf [99] M
  unfold fX11_lay
  refine f_lt (fun b1 => ?_)
  refine f_ite ?_ ?_
  · exact f_some hM
  · refine f_grd ?_
    refine f_ite ?_ ?_
    · exact f_some hM
    · refine f_grd ?_
      refine f_lt (fun b2 => ?_)
      refine f_ite ?_ ?_
      · exact f_some hM
      · refine f_grd ?_
        refine f_sq ?_
        intro x3
        refine f_grd ?_
        refine f_ltM (zfr_I hM (by decide)) (fun M4 hM4 => ?_)
        exact f_some hM4
set_option maxHeartbeats 4000000 in
theorem frX11_read (p1 : Int32) (p2 : Int32) (p3 : Int32) (p4 : Int32) (p5 : Int32) (M : zM) : zof (fX11_read p1 p2 p3 p4 p5 M) (fun y => y.2) [76, 84] M := by
  have hM := zfr_rf [76, 84] M
  unfold fX11_read
  refine f_lt (fun b1 => ?_)
  refine f_ite ?_ ?_
  · exact f_some hM
  · refine f_lt (fun b2 => ?_)
    refine f_ite ?_ ?_
    · exact f_some hM
    · refine f_lt (fun b3 => ?_)
      refine f_ite ?_ ?_
      · exact f_some hM
      · refine f_lt (fun b4 => ?_)
        refine f_ite ?_ ?_
        · exact f_some hM
        · refine f_zlp0 ?_ _ _
          intro rec41 hrec41 u
          obtain ⟨x38, x39, x40⟩ := u
          try dsimp only
          refine f_jn0 ?_ ?_
          · intro _
            refine f_sqM (ρ := (fun y => y)) ?_ ?_
            · refine f_zlp (ρ := fun y => y.2) ?_ _ _ hM
              intro rec79 hrec79 u hu
              obtain ⟨x77, M78⟩ := u
              try dsimp only at hu ⊢
              have hM78 := hu
              refine f_ite ?_ ?_
              · exact f_some hM78
              · refine f_sqM (ρ := (fun y => y)) ?_ ?_
                · refine f_zlp (ρ := fun y => y.2) ?_ _ _ hM78
                  intro rec85 hrec85 u hu
                  obtain ⟨x83, M84⟩ := u
                  try dsimp only at hu ⊢
                  have hM84 := hu
                  refine f_ite ?_ ?_
                  · exact f_some hM84
                  · refine f_sq (fun x89 => ?_)
                    refine f_grd ?_
                    refine f_sqM (ρ := fun y => y) (f_call hM84 (frX11_setIts p5 x89 x83 (M84.1 99 (zn (((((64 : Int32) * p1) + p3) + ((6 : Int32) * x77)) + x83))) M84) (by decide)) (fun M90 hM90 => ?_)
                    exact hrec85 _ hM90
                · intro M88 hM88
                  refine f_lt (fun x91 => ?_)
                  refine f_grd ?_
                  refine f_grd ?_
                  refine f_ltM (zfr_I hM88 (by decide)) (fun M92 hM92 => ?_)
                  exact hrec79 _ hM92
            · intro M82 hM82
              refine f_ltM (zfr_I hM82 (by decide)) (fun M95 hM95 => ?_)
              exact f_some hM95
          · intro k98 hk98
            refine f_ite ?_ ?_
            · exact hk98 _
            · refine f_ite ?_ ?_
              · refine f_grd ?_
                refine f_sq ?_
                intro x100
                refine f_jn0 ?_ ?_
                · intro _
                  exact hrec41 _
                · intro k104 hk104
                  refine f_ite ?_ ?_
                  · refine f_ite ?_ ?_
                    · refine f_sq (fun b105 => ?_)
                      refine f_ite ?_ ?_
                      · exact f_some hM
                      · refine f_sq (fun x106 => ?_)
                        refine f_ite ?_ ?_
                        · exact f_some hM
                        · exact hk104 _
                    · exact hk104 _
                  · exact hk104 _
              · exact hk98 _
