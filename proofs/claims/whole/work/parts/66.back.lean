theorem q_back {M : zM} (h : RR M) (p : Int32) : AG2 (fX10_back p) (fX11_back p) M := by
  unfold AG2 fX10_back fX11_back fX10_isImage
  have x3 : (Int32.ofNat 2) - (1 : Int32) = nI 1 := by decide
  rw [x3, l_0, L_0, L_1]
  rcases ar p 1 1 (by omega) rfl with ⟨k, hk, rfl, e1, e2⟩ | ⟨e1, e2, _⟩
  rotate_left
  · rw [e1]
    refine ⟨jI (-1), M, M, ?_, ?_, h⟩
    · rw [e_lt]; rfl
    · rw [e2, e_lt]; rfl
  have hk : k < 2 := by omega
  obtain ⟨b, i1, i2, i3⟩ := RR_i h hk
  rw [bse_k hk] at i1
  cases b
  · refine ⟨jI (-2), M, M, ?_, ?_, h⟩
    · rw [e1, e_lt, if_neg (by decide), e_gn (by omega), e_znn (by omega), e_lt, i1]; rfl
    · rw [e2, e_lt, if_neg (by decide), e_gn (by omega), e_znn (by omega), i2]; rfl
  obtain ⟨ρ, S, h1, h2, hV⟩ := i3 rfl
  rw [bse_k hk] at h1
  obtain ⟨M1, hcp, f1, f2⟩ := c_cp7 (a := 1) (b := 15 + 13 * k) (by omega) h1 hV.1
  have hA : ok (zlp (α := Int32 × zM) (β := zM) (fun rec11 => (fun (u34 : Int32 × zM) => match u34 with | (x9, M10) => if (220 : Int32) ≤ x9 then (some M10) else (grd (zix (((220 : Int32) * (nI k + (1 : Int32))) + x9) 660) (grd (zix x9 660) (lt (zwI M10 84 (zn x9) (M10.1 84 (zn (((220 : Int32) * (nI k + (1 : Int32))) + x9)))) (fun (M15 : zM) => rec11 ((x9 + (1 : Int32)), M15))))))) zFu (nI 0, M1)) (fun M' => (∀ c, c ≠ 84 → M'.1 c = M1.1 c) ∧ ∀ y, M'.1 84 y = if y < 220 then M.1 84 (220 * (k + 1) + y) else M.1 84 y) := by
    refine ok_up 220 (fun w x => ∃ M', x = (nI w, M') ∧ (∀ c, c ≠ 84 → M'.1 c = M1.1 c) ∧ ∀ y, M'.1 84 y = if y < w then M.1 84 (220 * (k + 1) + y) else M.1 84 y) ?_ ?_ zFu 0 _ (by omega) (by unfold zFu; omega) ⟨M1, rfl, fun c _ => rfl, fun y => by rw [if_neg (by omega), f1 84 (by omega)]⟩
    · rintro rec w x hw ⟨M', rfl, o1, o2⟩ hrec
      have q1 := o2 (220 * (k + 1) + w)
      rw [if_neg (by omega)] at q1
      dsimp only
      rw [l_220, nn_leF (by omega), l_1, n_add, n_mul, n_add, e_gn (by omega), e_gn (by omega), e_lt, e_znn (by omega), e_znn (by omega), n_add, q1]
      refine hrec _ ⟨zwI M' 84 w (M.1 84 (220 * (k + 1) + w)), rfl, fun c hc => by rw [e_w1 _ _ _ hc]; exact o1 c hc, fun y => ?_⟩
      rw [e_w1s]
      by_cases z : y = w
      · rw [e_uT z, if_pos (by omega), z]
      · rw [e_uF z, o2 y]
        have : (y < w + 1) ↔ (y < w) := by omega
        simp only [this]
    · rintro rec x ⟨M', rfl, o1, o2⟩
      dsimp only
      rw [l_220, nn_leT (by omega)]
      exact ok_some ⟨o1, o2⟩
  obtain ⟨M2, hA1, hA2, hA3⟩ := hA
  have hB : ok (zlp (α := Int32 × zM) (β := zM) (fun rec25 => (fun (u32 : Int32 × zM) => match u32 with | (x23, M24) => if (10 : Int32) ≤ x23 then (some M24) else (grd (zix (((10 : Int32) * (nI k + (1 : Int32))) + x23) 30) (grd (zix x23 30) (lt (zwI M24 81 (zn x23) (M24.1 81 (zn (((10 : Int32) * (nI k + (1 : Int32))) + x23)))) (fun (M29 : zM) => rec25 ((x23 + (1 : Int32)), M29))))))) zFu (nI 0, M2)) (fun M' => (∀ c, c ≠ 81 → M'.1 c = M2.1 c) ∧ ∀ y, M'.1 81 y = if y < 10 then M.1 81 (10 * (k + 1) + y) else M.1 81 y) := by
    refine ok_up 10 (fun w x => ∃ M', x = (nI w, M') ∧ (∀ c, c ≠ 81 → M'.1 c = M2.1 c) ∧ ∀ y, M'.1 81 y = if y < w then M.1 81 (10 * (k + 1) + y) else M.1 81 y) ?_ ?_ zFu 0 _ (by omega) (by unfold zFu; omega) ⟨M2, rfl, fun c _ => rfl, fun y => by rw [if_neg (by omega), hA2 81 (by omega), f1 81 (by omega)]⟩
    · rintro rec w x hw ⟨M', rfl, o1, o2⟩ hrec
      have q1 := o2 (10 * (k + 1) + w)
      rw [if_neg (by omega)] at q1
      dsimp only
      rw [l_10, nn_leF (by omega), l_1, n_add, n_mul, n_add, e_gn (by omega), e_gn (by omega), e_lt, e_znn (by omega), e_znn (by omega), n_add, q1]
      refine hrec _ ⟨zwI M' 81 w (M.1 81 (10 * (k + 1) + w)), rfl, fun c hc => by rw [e_w1 _ _ _ hc]; exact o1 c hc, fun y => ?_⟩
      rw [e_w1s]
      by_cases z : y = w
      · rw [e_uT z, if_pos (by omega), z]
      · rw [e_uF z, o2 y]
        have : (y < w + 1) ↔ (y < w) := by omega
        simp only [this]
    · rintro rec x ⟨M', rfl, o1, o2⟩
      dsimp only
      rw [l_10, nn_leT (by omega)]
      exact ok_some ⟨o1, o2⟩
  obtain ⟨M3, hB1, hB2, hB3⟩ := hB
  have b0 : bse 0 = 1 := rfl
  have kd : ∀ c, c ≠ 81 → c ≠ 84 → M3.1 c = M1.1 c := fun c w1 w2 => by rw [hB2 c w1, hA2 c w2]
  have k84 : ∀ y, M3.1 84 y = if y < 220 then M.1 84 (220 * (k + 1) + y) else M.1 84 y := fun y => by rw [hB2 84 (by omega)]; exact hA3 y
  have r3 : rR M3 0 ρ S := ⟨fun x hx => by rw [k84, if_pos (by omega), show 220 * (k + 1) + (220 * 0 + x) = 220 * (k + 1) + x by omega]; exact h2.1 x hx, fun x hx => by rw [hB3, if_pos (by omega), show 10 * (k + 1) + (10 * 0 + x) = 10 * (k + 1) + x by omega]; exact h2.2 x hx⟩
  have l0 : fX11_linesOf (nI 0) (nI 0) M3 = some (nI (S 64)) := by
    have := rR_s r3 (k := 64) (by omega)
    unfold fX11_linesOf
    simp (disch := omega) only [e_lt, e_ltn, e_jn, e_sq, e_bi, l_0, l_1, l_2, l_3, l_4, l_5, l_6, l_7, l_8, l_9, l_10, l_11, l_12, l_13, l_14, l_15, l_16, l_17, l_18, l_19, l_20, l_21, l_22, l_23, l_24, l_25, l_26, l_27, l_28, l_29, l_30, l_31, l_32, l_33, l_34, l_35, l_36, l_37, l_38, l_39, l_40, l_41, l_48, l_50, l_56, l_57, l_59, l_60, l_63, l_64, l_70, l_97, l_99, l_122, l_128, l_190, l_220, l_255, l_320, l_500, l_999, l_1024, l_83520, l_100000, l_1000000, L_0, L_1, L_2, L_3, L_4, L_6, L_7, L_9, L_10, L_11, L_13, L_16, L_32, L_48, L_50, L_57, L_97, L_99, L_122, L_999, L_83520, L_4294967295, L_25937424601, L_1152921504606846976, ↓m_1000020, ↓m_1000012, ↓m_1000010, ↓m_1000000, ↓m_10004, ↓m_10000, ↓m_1000, ↓m_999, ↓m_99, ↓m_30, ↓m_20, ↓m_14, ↓m_12, ↓m_11, ↓m_10, ↓m_8, ↓m_4, ↓m_3, ↓m_2, ↓m_1, ↓mL_999, ↓mL_99, ↓mL_1, n_add, n_mul, nj_add, jn_add, n_sub, n_subj, nj_sub, jn_sub, nj_mul, jn_mul, if_true, if_false, jI_add, jI_sub, jI_mul, jI_neg, jL_add, jL_sub, jL_mul, jL_neg, n_l, j_l, jL_i, e_gn, e_gj, e_znn, e_znj, nn_ltT, nn_ltF, nn_leT, nn_leF, nn_eqT, nn_eqF, nj_ltT, nj_ltF, nj_leT, nj_leF, nj_eqT, nj_eqF, jn_ltT, jn_ltF, jn_leT, jn_leF, jn_eqT, jn_eqF, jj_ltT, jj_ltF, jj_leT, jj_leF, jj_eqT, jj_eqF, LL_ltT, LL_ltF, LL_leT, LL_leF, LL_eqT, LL_eqF, e_w1, e_w1s, e_w2, e_x1, e_x2, e_x2s, e_a1, e_a1s, e_a2, e_uT, e_uF, e_vT, e_vF, e_ft, e_tf, e_zbt, e_zbf, n_or, n_31, n_shl, n_bit, n_not, n_bc, this, Nat.add_zero]
  have l1 : fX11_linesOf (1 : Int32) (nI 0) M3 = some (nI (S 65)) := by
    have := rR_s r3 (k := 65) (by omega)
    unfold fX11_linesOf
    simp (disch := omega) only [e_lt, e_ltn, e_jn, e_sq, e_bi, l_0, l_1, l_2, l_3, l_4, l_5, l_6, l_7, l_8, l_9, l_10, l_11, l_12, l_13, l_14, l_15, l_16, l_17, l_18, l_19, l_20, l_21, l_22, l_23, l_24, l_25, l_26, l_27, l_28, l_29, l_30, l_31, l_32, l_33, l_34, l_35, l_36, l_37, l_38, l_39, l_40, l_41, l_48, l_50, l_56, l_57, l_59, l_60, l_63, l_64, l_70, l_97, l_99, l_122, l_128, l_190, l_220, l_255, l_320, l_500, l_999, l_1024, l_83520, l_100000, l_1000000, L_0, L_1, L_2, L_3, L_4, L_6, L_7, L_9, L_10, L_11, L_13, L_16, L_32, L_48, L_50, L_57, L_97, L_99, L_122, L_999, L_83520, L_4294967295, L_25937424601, L_1152921504606846976, ↓m_1000020, ↓m_1000012, ↓m_1000010, ↓m_1000000, ↓m_10004, ↓m_10000, ↓m_1000, ↓m_999, ↓m_99, ↓m_30, ↓m_20, ↓m_14, ↓m_12, ↓m_11, ↓m_10, ↓m_8, ↓m_4, ↓m_3, ↓m_2, ↓m_1, ↓mL_999, ↓mL_99, ↓mL_1, n_add, n_mul, nj_add, jn_add, n_sub, n_subj, nj_sub, jn_sub, nj_mul, jn_mul, if_true, if_false, jI_add, jI_sub, jI_mul, jI_neg, jL_add, jL_sub, jL_mul, jL_neg, n_l, j_l, jL_i, e_gn, e_gj, e_znn, e_znj, nn_ltT, nn_ltF, nn_leT, nn_leF, nn_eqT, nn_eqF, nj_ltT, nj_ltF, nj_leT, nj_leF, nj_eqT, nj_eqF, jn_ltT, jn_ltF, jn_leT, jn_leF, jn_eqT, jn_eqF, jj_ltT, jj_ltF, jj_leT, jj_leF, jj_eqT, jj_eqF, LL_ltT, LL_ltF, LL_leT, LL_leF, LL_eqT, LL_eqF, e_w1, e_w1s, e_w2, e_x1, e_x2, e_x2s, e_a1, e_a1s, e_a2, e_uT, e_uF, e_vT, e_vF, e_ft, e_tf, e_zbt, e_zbf, n_or, n_31, n_shl, n_bit, n_not, n_bc, this, Nat.add_zero]
  have v1 : M1.1 2 0 = nI (S 64) := f2.1.1
  have v2 : M1.1 6 0 = nI (S 65) := f2.2.1.1
  refine ⟨nI (S 64) + nI (S 65), M1, M3, ?_, ?_, ?_⟩
  · rw [e1, e_lt, if_neg (by decide), e_gn (by omega), e_znn (by omega), e_lt, i1, if_neg (by decide), e_gn (by omega), e_lt, hcp, e_sq, v1, v2]
  · rw [e2, e_lt, if_neg (by decide), e_gn (by omega), e_znn (by omega), f1 96 (by omega), i2, if_neg (by decide), hA1, e_sq, hB1, e_sq, l0, e_sq, l1, e_sq]
  · refine RR_im h (fun c w => by rw [kd c (by omega) (by omega), f1 c (by omega)]) ⟨ρ, S, cR_cg (show cR M1 (bse 0) ρ S from f2) (fun c w1 w2 => by rw [kd c (by omega) (by omega)]), r3, hV⟩ (fun k' hk' => ?_)
    exact imR_c2 hk' (RR_i h hk') (fun c w1 w2 => by rw [kd c (by omega) (by omega), f1 c (by omega)]) (by rw [kd 96 (by omega) (by omega), f1 96 (by omega)]) (fun x w1 w2 => by rw [k84, if_neg (by omega)]) (fun x w1 w2 => by rw [hB3, if_neg (by omega)])
