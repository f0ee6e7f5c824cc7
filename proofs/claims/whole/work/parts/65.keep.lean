theorem va_c0 (f g : Nat → Int32) {n k : Nat} (h : k < n) : va_cpy f g 0 0 n k = f k := by
  unfold va_cpy
  rw [if_pos (by omega)]
  exact congrArg f (by omega)
theorem cL_cg {M M' : zM} {a e : Nat} {S : Nat → Nat} (h : cL M a e S) (w : ∀ c, a ≤ c → c ≤ a + 3 → M'.1 c = M.1 c) : cL M' a e S := by
  unfold cL
  rw [w a (by omega) (by omega), w (a + 1) (by omega) (by omega), w (a + 2) (by omega) (by omega), w (a + 3) (by omega) (by omega)]
  exact h
theorem c_cp2 {M : zM} {a b e : Nat} {S : Nat → Nat} (hd : a + 3 < b ∨ b + 3 < a) (h : cL M b e S) (hS : S (64 + e) ≤ 10) : ok (fX2_copyFrom a b M) (fun M' => (∀ c, ¬ (a ≤ c ∧ c ≤ a + 3) → M'.1 c = M.1 c) ∧ cL M' a e S) := by
  obtain ⟨h1, h2⟩ := h
  unfold fX2_copyFrom
  rw [l_0, l_10, show (40 : Int32) = nI 40 from rfl]
  simp (disch := omega) only [e_lt, e_ltn, e_jn, e_sq, e_bi, l_0, l_1, l_2, l_3, l_4, l_5, l_6, l_7, l_8, l_9, l_10, l_11, l_12, l_13, l_14, l_15, l_16, l_17, l_18, l_19, l_20, l_21, l_22, l_23, l_24, l_25, l_26, l_27, l_28, l_29, l_30, l_31, l_32, l_33, l_34, l_35, l_36, l_37, l_38, l_39, l_40, l_41, l_48, l_50, l_56, l_57, l_59, l_60, l_63, l_64, l_70, l_97, l_99, l_122, l_128, l_190, l_220, l_255, l_320, l_500, l_999, l_1024, l_83520, l_100000, l_1000000, L_0, L_1, L_2, L_3, L_4, L_6, L_7, L_9, L_10, L_11, L_13, L_16, L_32, L_48, L_50, L_57, L_97, L_99, L_122, L_999, L_83520, L_4294967295, L_25937424601, L_1152921504606846976, ↓m_1000020, ↓m_1000012, ↓m_1000010, ↓m_1000000, ↓m_10004, ↓m_10000, ↓m_1000, ↓m_999, ↓m_99, ↓m_30, ↓m_20, ↓m_14, ↓m_12, ↓m_11, ↓m_10, ↓m_8, ↓m_4, ↓m_3, ↓m_2, ↓m_1, ↓mL_999, ↓mL_99, ↓mL_1, n_add, n_mul, nj_add, jn_add, n_sub, n_subj, nj_sub, jn_sub, nj_mul, jn_mul, if_true, if_false, jI_add, jI_sub, jI_mul, jI_neg, jL_add, jL_sub, jL_mul, jL_neg, n_l, j_l, jL_i, e_gn, e_gj, e_znn, e_znj, nn_ltT, nn_ltF, nn_leT, nn_leF, nn_eqT, nn_eqF, nj_ltT, nj_ltF, nj_leT, nj_leF, nj_eqT, nj_eqF, jn_ltT, jn_ltF, jn_leT, jn_leF, jn_eqT, jn_eqF, jj_ltT, jj_ltF, jj_leT, jj_leF, jj_eqT, jj_eqF, LL_ltT, LL_ltF, LL_leT, LL_leF, LL_eqT, LL_eqF, e_w1, e_w1s, e_w2, e_x1, e_x2, e_x2s, e_a1, e_a1s, e_a2, e_uT, e_uF, e_vT, e_vF, e_ft, e_tf, e_zbt, e_zbf, n_or, n_31, n_shl, n_bit, n_not, n_bc, e_gc]
  refine ok_some ⟨fun c hc => ?_, ?_, fun i hi => ⟨?_, ?_, fun p hp => ?_⟩⟩
  · simp (disch := omega) only [e_lt, e_ltn, e_jn, e_sq, e_bi, l_0, l_1, l_2, l_3, l_4, l_5, l_6, l_7, l_8, l_9, l_10, l_11, l_12, l_13, l_14, l_15, l_16, l_17, l_18, l_19, l_20, l_21, l_22, l_23, l_24, l_25, l_26, l_27, l_28, l_29, l_30, l_31, l_32, l_33, l_34, l_35, l_36, l_37, l_38, l_39, l_40, l_41, l_48, l_50, l_56, l_57, l_59, l_60, l_63, l_64, l_70, l_97, l_99, l_122, l_128, l_190, l_220, l_255, l_320, l_500, l_999, l_1024, l_83520, l_100000, l_1000000, L_0, L_1, L_2, L_3, L_4, L_6, L_7, L_9, L_10, L_11, L_13, L_16, L_32, L_48, L_50, L_57, L_97, L_99, L_122, L_999, L_83520, L_4294967295, L_25937424601, L_1152921504606846976, ↓m_1000020, ↓m_1000012, ↓m_1000010, ↓m_1000000, ↓m_10004, ↓m_10000, ↓m_1000, ↓m_999, ↓m_99, ↓m_30, ↓m_20, ↓m_14, ↓m_12, ↓m_11, ↓m_10, ↓m_8, ↓m_4, ↓m_3, ↓m_2, ↓m_1, ↓mL_999, ↓mL_99, ↓mL_1, n_add, n_mul, nj_add, jn_add, n_sub, n_subj, nj_sub, jn_sub, nj_mul, jn_mul, if_true, if_false, jI_add, jI_sub, jI_mul, jI_neg, jL_add, jL_sub, jL_mul, jL_neg, n_l, j_l, jL_i, e_gn, e_gj, e_znn, e_znj, nn_ltT, nn_ltF, nn_leT, nn_leF, nn_eqT, nn_eqF, nj_ltT, nj_ltF, nj_leT, nj_leF, nj_eqT, nj_eqF, jn_ltT, jn_ltF, jn_leT, jn_leF, jn_eqT, jn_eqF, jj_ltT, jj_ltF, jj_leT, jj_leF, jj_eqT, jj_eqF, LL_ltT, LL_ltF, LL_leT, LL_leF, LL_eqT, LL_eqF, e_w1, e_w1s, e_w2, e_x1, e_x2, e_x2s, e_a1, e_a1s, e_a2, e_uT, e_uF, e_vT, e_vF, e_ft, e_tf, e_zbt, e_zbf, n_or, n_31, n_shl, n_bit, n_not, n_bc]
  · simp (disch := omega) only [e_lt, e_ltn, e_jn, e_sq, e_bi, l_0, l_1, l_2, l_3, l_4, l_5, l_6, l_7, l_8, l_9, l_10, l_11, l_12, l_13, l_14, l_15, l_16, l_17, l_18, l_19, l_20, l_21, l_22, l_23, l_24, l_25, l_26, l_27, l_28, l_29, l_30, l_31, l_32, l_33, l_34, l_35, l_36, l_37, l_38, l_39, l_40, l_41, l_48, l_50, l_56, l_57, l_59, l_60, l_63, l_64, l_70, l_97, l_99, l_122, l_128, l_190, l_220, l_255, l_320, l_500, l_999, l_1024, l_83520, l_100000, l_1000000, L_0, L_1, L_2, L_3, L_4, L_6, L_7, L_9, L_10, L_11, L_13, L_16, L_32, L_48, L_50, L_57, L_97, L_99, L_122, L_999, L_83520, L_4294967295, L_25937424601, L_1152921504606846976, ↓m_1000020, ↓m_1000012, ↓m_1000010, ↓m_1000000, ↓m_10004, ↓m_10000, ↓m_1000, ↓m_999, ↓m_99, ↓m_30, ↓m_20, ↓m_14, ↓m_12, ↓m_11, ↓m_10, ↓m_8, ↓m_4, ↓m_3, ↓m_2, ↓m_1, ↓mL_999, ↓mL_99, ↓mL_1, n_add, n_mul, nj_add, jn_add, n_sub, n_subj, nj_sub, jn_sub, nj_mul, jn_mul, if_true, if_false, jI_add, jI_sub, jI_mul, jI_neg, jL_add, jL_sub, jL_mul, jL_neg, n_l, j_l, jL_i, e_gn, e_gj, e_znn, e_znj, nn_ltT, nn_ltF, nn_leT, nn_leF, nn_eqT, nn_eqF, nj_ltT, nj_ltF, nj_leT, nj_leF, nj_eqT, nj_eqF, jn_ltT, jn_ltF, jn_leT, jn_leF, jn_eqT, jn_eqF, jj_ltT, jj_ltF, jj_leT, jj_leF, jj_eqT, jj_eqF, LL_ltT, LL_ltF, LL_leT, LL_leF, LL_eqT, LL_eqF, e_w1, e_w1s, e_w2, e_x1, e_x2, e_x2s, e_a1, e_a1s, e_a2, e_uT, e_uF, e_vT, e_vF, e_ft, e_tf, e_zbt, e_zbf, n_or, n_31, n_shl, n_bit, n_not, n_bc]
    exact h1
  · simp (disch := omega) only [e_lt, e_ltn, e_jn, e_sq, e_bi, l_0, l_1, l_2, l_3, l_4, l_5, l_6, l_7, l_8, l_9, l_10, l_11, l_12, l_13, l_14, l_15, l_16, l_17, l_18, l_19, l_20, l_21, l_22, l_23, l_24, l_25, l_26, l_27, l_28, l_29, l_30, l_31, l_32, l_33, l_34, l_35, l_36, l_37, l_38, l_39, l_40, l_41, l_48, l_50, l_56, l_57, l_59, l_60, l_63, l_64, l_70, l_97, l_99, l_122, l_128, l_190, l_220, l_255, l_320, l_500, l_999, l_1024, l_83520, l_100000, l_1000000, L_0, L_1, L_2, L_3, L_4, L_6, L_7, L_9, L_10, L_11, L_13, L_16, L_32, L_48, L_50, L_57, L_97, L_99, L_122, L_999, L_83520, L_4294967295, L_25937424601, L_1152921504606846976, ↓m_1000020, ↓m_1000012, ↓m_1000010, ↓m_1000000, ↓m_10004, ↓m_10000, ↓m_1000, ↓m_999, ↓m_99, ↓m_30, ↓m_20, ↓m_14, ↓m_12, ↓m_11, ↓m_10, ↓m_8, ↓m_4, ↓m_3, ↓m_2, ↓m_1, ↓mL_999, ↓mL_99, ↓mL_1, n_add, n_mul, nj_add, jn_add, n_sub, n_subj, nj_sub, jn_sub, nj_mul, jn_mul, if_true, if_false, jI_add, jI_sub, jI_mul, jI_neg, jL_add, jL_sub, jL_mul, jL_neg, n_l, j_l, jL_i, e_gn, e_gj, e_znn, e_znj, nn_ltT, nn_ltF, nn_leT, nn_leF, nn_eqT, nn_eqF, nj_ltT, nj_ltF, nj_leT, nj_leF, nj_eqT, nj_eqF, jn_ltT, jn_ltF, jn_leT, jn_leF, jn_eqT, jn_eqF, jj_ltT, jj_ltF, jj_leT, jj_leF, jj_eqT, jj_eqF, LL_ltT, LL_ltF, LL_leT, LL_leF, LL_eqT, LL_eqF, e_w1, e_w1s, e_w2, e_x1, e_x2, e_x2s, e_a1, e_a1s, e_a2, e_uT, e_uF, e_vT, e_vF, e_ft, e_tf, e_zbt, e_zbf, n_or, n_31, n_shl, n_bit, n_not, n_bc, va_c0]
    exact (h2 i hi).1
  · simp (disch := omega) only [e_lt, e_ltn, e_jn, e_sq, e_bi, l_0, l_1, l_2, l_3, l_4, l_5, l_6, l_7, l_8, l_9, l_10, l_11, l_12, l_13, l_14, l_15, l_16, l_17, l_18, l_19, l_20, l_21, l_22, l_23, l_24, l_25, l_26, l_27, l_28, l_29, l_30, l_31, l_32, l_33, l_34, l_35, l_36, l_37, l_38, l_39, l_40, l_41, l_48, l_50, l_56, l_57, l_59, l_60, l_63, l_64, l_70, l_97, l_99, l_122, l_128, l_190, l_220, l_255, l_320, l_500, l_999, l_1024, l_83520, l_100000, l_1000000, L_0, L_1, L_2, L_3, L_4, L_6, L_7, L_9, L_10, L_11, L_13, L_16, L_32, L_48, L_50, L_57, L_97, L_99, L_122, L_999, L_83520, L_4294967295, L_25937424601, L_1152921504606846976, ↓m_1000020, ↓m_1000012, ↓m_1000010, ↓m_1000000, ↓m_10004, ↓m_10000, ↓m_1000, ↓m_999, ↓m_99, ↓m_30, ↓m_20, ↓m_14, ↓m_12, ↓m_11, ↓m_10, ↓m_8, ↓m_4, ↓m_3, ↓m_2, ↓m_1, ↓mL_999, ↓mL_99, ↓mL_1, n_add, n_mul, nj_add, jn_add, n_sub, n_subj, nj_sub, jn_sub, nj_mul, jn_mul, if_true, if_false, jI_add, jI_sub, jI_mul, jI_neg, jL_add, jL_sub, jL_mul, jL_neg, n_l, j_l, jL_i, e_gn, e_gj, e_znn, e_znj, nn_ltT, nn_ltF, nn_leT, nn_leF, nn_eqT, nn_eqF, nj_ltT, nj_ltF, nj_leT, nj_leF, nj_eqT, nj_eqF, jn_ltT, jn_ltF, jn_leT, jn_leF, jn_eqT, jn_eqF, jj_ltT, jj_ltF, jj_leT, jj_leF, jj_eqT, jj_eqF, LL_ltT, LL_ltF, LL_leT, LL_leF, LL_eqT, LL_eqF, e_w1, e_w1s, e_w2, e_x1, e_x2, e_x2s, e_a1, e_a1s, e_a2, e_uT, e_uF, e_vT, e_vF, e_ft, e_tf, e_zbt, e_zbf, n_or, n_31, n_shl, n_bit, n_not, n_bc, va_c0]
    exact (h2 i hi).2.1
  · simp (disch := omega) only [e_lt, e_ltn, e_jn, e_sq, e_bi, l_0, l_1, l_2, l_3, l_4, l_5, l_6, l_7, l_8, l_9, l_10, l_11, l_12, l_13, l_14, l_15, l_16, l_17, l_18, l_19, l_20, l_21, l_22, l_23, l_24, l_25, l_26, l_27, l_28, l_29, l_30, l_31, l_32, l_33, l_34, l_35, l_36, l_37, l_38, l_39, l_40, l_41, l_48, l_50, l_56, l_57, l_59, l_60, l_63, l_64, l_70, l_97, l_99, l_122, l_128, l_190, l_220, l_255, l_320, l_500, l_999, l_1024, l_83520, l_100000, l_1000000, L_0, L_1, L_2, L_3, L_4, L_6, L_7, L_9, L_10, L_11, L_13, L_16, L_32, L_48, L_50, L_57, L_97, L_99, L_122, L_999, L_83520, L_4294967295, L_25937424601, L_1152921504606846976, ↓m_1000020, ↓m_1000012, ↓m_1000010, ↓m_1000000, ↓m_10004, ↓m_10000, ↓m_1000, ↓m_999, ↓m_99, ↓m_30, ↓m_20, ↓m_14, ↓m_12, ↓m_11, ↓m_10, ↓m_8, ↓m_4, ↓m_3, ↓m_2, ↓m_1, ↓mL_999, ↓mL_99, ↓mL_1, n_add, n_mul, nj_add, jn_add, n_sub, n_subj, nj_sub, jn_sub, nj_mul, jn_mul, if_true, if_false, jI_add, jI_sub, jI_mul, jI_neg, jL_add, jL_sub, jL_mul, jL_neg, n_l, j_l, jL_i, e_gn, e_gj, e_znn, e_znj, nn_ltT, nn_ltF, nn_leT, nn_leF, nn_eqT, nn_eqF, nj_ltT, nj_ltF, nj_leT, nj_leF, nj_eqT, nj_eqF, jn_ltT, jn_ltF, jn_leT, jn_leF, jn_eqT, jn_eqF, jj_ltT, jj_ltF, jj_leT, jj_leF, jj_eqT, jj_eqF, LL_ltT, LL_ltF, LL_leT, LL_leF, LL_eqT, LL_eqF, e_w1, e_w1s, e_w2, e_x1, e_x2, e_x2s, e_a1, e_a1s, e_a2, e_uT, e_uF, e_vT, e_vF, e_ft, e_tf, e_zbt, e_zbf, n_or, n_31, n_shl, n_bit, n_not, n_bc, va_c0]
    exact (h2 i hi).2.2 p hp
theorem c_cp6 {M : zM} {a b : Nat} {ρ : Nat → Int} {S : Nat → Nat} (hd : a + 3 < b ∨ b + 3 < a) (h : cO M b ρ S) : ok (fX6_copyFrom a b M) (fun M' => (∀ c, ¬ (a < c ∧ c ≤ a + 2) → M'.1 c = M.1 c) ∧ cO M' a ρ S) := by
  obtain ⟨h1, h2⟩ := h
  unfold fX6_copyFrom
  rw [l_0, l_10, l_64]
  simp (disch := omega) only [e_lt, e_ltn, e_jn, e_sq, e_bi, l_0, l_1, l_2, l_3, l_4, l_5, l_6, l_7, l_8, l_9, l_10, l_11, l_12, l_13, l_14, l_15, l_16, l_17, l_18, l_19, l_20, l_21, l_22, l_23, l_24, l_25, l_26, l_27, l_28, l_29, l_30, l_31, l_32, l_33, l_34, l_35, l_36, l_37, l_38, l_39, l_40, l_41, l_48, l_50, l_56, l_57, l_59, l_60, l_63, l_64, l_70, l_97, l_99, l_122, l_128, l_190, l_220, l_255, l_320, l_500, l_999, l_1024, l_83520, l_100000, l_1000000, L_0, L_1, L_2, L_3, L_4, L_6, L_7, L_9, L_10, L_11, L_13, L_16, L_32, L_48, L_50, L_57, L_97, L_99, L_122, L_999, L_83520, L_4294967295, L_25937424601, L_1152921504606846976, ↓m_1000020, ↓m_1000012, ↓m_1000010, ↓m_1000000, ↓m_10004, ↓m_10000, ↓m_1000, ↓m_999, ↓m_99, ↓m_30, ↓m_20, ↓m_14, ↓m_12, ↓m_11, ↓m_10, ↓m_8, ↓m_4, ↓m_3, ↓m_2, ↓m_1, ↓mL_999, ↓mL_99, ↓mL_1, n_add, n_mul, nj_add, jn_add, n_sub, n_subj, nj_sub, jn_sub, nj_mul, jn_mul, if_true, if_false, jI_add, jI_sub, jI_mul, jI_neg, jL_add, jL_sub, jL_mul, jL_neg, n_l, j_l, jL_i, e_gn, e_gj, e_znn, e_znj, nn_ltT, nn_ltF, nn_leT, nn_leF, nn_eqT, nn_eqF, nj_ltT, nj_ltF, nj_leT, nj_leF, nj_eqT, nj_eqF, jn_ltT, jn_ltF, jn_leT, jn_leF, jn_eqT, jn_eqF, jj_ltT, jj_ltF, jj_leT, jj_leF, jj_eqT, jj_eqF, LL_ltT, LL_ltF, LL_leT, LL_leF, LL_eqT, LL_eqF, e_w1, e_w1s, e_w2, e_x1, e_x2, e_x2s, e_a1, e_a1s, e_a2, e_uT, e_uF, e_vT, e_vF, e_ft, e_tf, e_zbt, e_zbf, n_or, n_31, n_shl, n_bit, n_not, n_bc, e_gc]
  refine ok_some ⟨fun c hc => ?_, fun i hi => ?_, fun i hi => ?_⟩
  · simp (disch := omega) only [e_lt, e_ltn, e_jn, e_sq, e_bi, l_0, l_1, l_2, l_3, l_4, l_5, l_6, l_7, l_8, l_9, l_10, l_11, l_12, l_13, l_14, l_15, l_16, l_17, l_18, l_19, l_20, l_21, l_22, l_23, l_24, l_25, l_26, l_27, l_28, l_29, l_30, l_31, l_32, l_33, l_34, l_35, l_36, l_37, l_38, l_39, l_40, l_41, l_48, l_50, l_56, l_57, l_59, l_60, l_63, l_64, l_70, l_97, l_99, l_122, l_128, l_190, l_220, l_255, l_320, l_500, l_999, l_1024, l_83520, l_100000, l_1000000, L_0, L_1, L_2, L_3, L_4, L_6, L_7, L_9, L_10, L_11, L_13, L_16, L_32, L_48, L_50, L_57, L_97, L_99, L_122, L_999, L_83520, L_4294967295, L_25937424601, L_1152921504606846976, ↓m_1000020, ↓m_1000012, ↓m_1000010, ↓m_1000000, ↓m_10004, ↓m_10000, ↓m_1000, ↓m_999, ↓m_99, ↓m_30, ↓m_20, ↓m_14, ↓m_12, ↓m_11, ↓m_10, ↓m_8, ↓m_4, ↓m_3, ↓m_2, ↓m_1, ↓mL_999, ↓mL_99, ↓mL_1, n_add, n_mul, nj_add, jn_add, n_sub, n_subj, nj_sub, jn_sub, nj_mul, jn_mul, if_true, if_false, jI_add, jI_sub, jI_mul, jI_neg, jL_add, jL_sub, jL_mul, jL_neg, n_l, j_l, jL_i, e_gn, e_gj, e_znn, e_znj, nn_ltT, nn_ltF, nn_leT, nn_leF, nn_eqT, nn_eqF, nj_ltT, nj_ltF, nj_leT, nj_leF, nj_eqT, nj_eqF, jn_ltT, jn_ltF, jn_leT, jn_leF, jn_eqT, jn_eqF, jj_ltT, jj_ltF, jj_leT, jj_leF, jj_eqT, jj_eqF, LL_ltT, LL_ltF, LL_leT, LL_leF, LL_eqT, LL_eqF, e_w1, e_w1s, e_w2, e_x1, e_x2, e_x2s, e_a1, e_a1s, e_a2, e_uT, e_uF, e_vT, e_vF, e_ft, e_tf, e_zbt, e_zbf, n_or, n_31, n_shl, n_bit, n_not, n_bc]
  · simp (disch := omega) only [e_lt, e_ltn, e_jn, e_sq, e_bi, l_0, l_1, l_2, l_3, l_4, l_5, l_6, l_7, l_8, l_9, l_10, l_11, l_12, l_13, l_14, l_15, l_16, l_17, l_18, l_19, l_20, l_21, l_22, l_23, l_24, l_25, l_26, l_27, l_28, l_29, l_30, l_31, l_32, l_33, l_34, l_35, l_36, l_37, l_38, l_39, l_40, l_41, l_48, l_50, l_56, l_57, l_59, l_60, l_63, l_64, l_70, l_97, l_99, l_122, l_128, l_190, l_220, l_255, l_320, l_500, l_999, l_1024, l_83520, l_100000, l_1000000, L_0, L_1, L_2, L_3, L_4, L_6, L_7, L_9, L_10, L_11, L_13, L_16, L_32, L_48, L_50, L_57, L_97, L_99, L_122, L_999, L_83520, L_4294967295, L_25937424601, L_1152921504606846976, ↓m_1000020, ↓m_1000012, ↓m_1000010, ↓m_1000000, ↓m_10004, ↓m_10000, ↓m_1000, ↓m_999, ↓m_99, ↓m_30, ↓m_20, ↓m_14, ↓m_12, ↓m_11, ↓m_10, ↓m_8, ↓m_4, ↓m_3, ↓m_2, ↓m_1, ↓mL_999, ↓mL_99, ↓mL_1, n_add, n_mul, nj_add, jn_add, n_sub, n_subj, nj_sub, jn_sub, nj_mul, jn_mul, if_true, if_false, jI_add, jI_sub, jI_mul, jI_neg, jL_add, jL_sub, jL_mul, jL_neg, n_l, j_l, jL_i, e_gn, e_gj, e_znn, e_znj, nn_ltT, nn_ltF, nn_leT, nn_leF, nn_eqT, nn_eqF, nj_ltT, nj_ltF, nj_leT, nj_leF, nj_eqT, nj_eqF, jn_ltT, jn_ltF, jn_leT, jn_leF, jn_eqT, jn_eqF, jj_ltT, jj_ltF, jj_leT, jj_leF, jj_eqT, jj_eqF, LL_ltT, LL_ltF, LL_leT, LL_leF, LL_eqT, LL_eqF, e_w1, e_w1s, e_w2, e_x1, e_x2, e_x2s, e_a1, e_a1s, e_a2, e_uT, e_uF, e_vT, e_vF, e_ft, e_tf, e_zbt, e_zbf, n_or, n_31, n_shl, n_bit, n_not, n_bc, va_c0]
    exact h1 i hi
  · simp (disch := omega) only [e_lt, e_ltn, e_jn, e_sq, e_bi, l_0, l_1, l_2, l_3, l_4, l_5, l_6, l_7, l_8, l_9, l_10, l_11, l_12, l_13, l_14, l_15, l_16, l_17, l_18, l_19, l_20, l_21, l_22, l_23, l_24, l_25, l_26, l_27, l_28, l_29, l_30, l_31, l_32, l_33, l_34, l_35, l_36, l_37, l_38, l_39, l_40, l_41, l_48, l_50, l_56, l_57, l_59, l_60, l_63, l_64, l_70, l_97, l_99, l_122, l_128, l_190, l_220, l_255, l_320, l_500, l_999, l_1024, l_83520, l_100000, l_1000000, L_0, L_1, L_2, L_3, L_4, L_6, L_7, L_9, L_10, L_11, L_13, L_16, L_32, L_48, L_50, L_57, L_97, L_99, L_122, L_999, L_83520, L_4294967295, L_25937424601, L_1152921504606846976, ↓m_1000020, ↓m_1000012, ↓m_1000010, ↓m_1000000, ↓m_10004, ↓m_10000, ↓m_1000, ↓m_999, ↓m_99, ↓m_30, ↓m_20, ↓m_14, ↓m_12, ↓m_11, ↓m_10, ↓m_8, ↓m_4, ↓m_3, ↓m_2, ↓m_1, ↓mL_999, ↓mL_99, ↓mL_1, n_add, n_mul, nj_add, jn_add, n_sub, n_subj, nj_sub, jn_sub, nj_mul, jn_mul, if_true, if_false, jI_add, jI_sub, jI_mul, jI_neg, jL_add, jL_sub, jL_mul, jL_neg, n_l, j_l, jL_i, e_gn, e_gj, e_znn, e_znj, nn_ltT, nn_ltF, nn_leT, nn_leF, nn_eqT, nn_eqF, nj_ltT, nj_ltF, nj_leT, nj_leF, nj_eqT, nj_eqF, jn_ltT, jn_ltF, jn_leT, jn_leF, jn_eqT, jn_eqF, jj_ltT, jj_ltF, jj_leT, jj_leF, jj_eqT, jj_eqF, LL_ltT, LL_ltF, LL_leT, LL_leF, LL_eqT, LL_eqF, e_w1, e_w1s, e_w2, e_x1, e_x2, e_x2s, e_a1, e_a1s, e_a2, e_uT, e_uF, e_vT, e_vF, e_ft, e_tf, e_zbt, e_zbf, n_or, n_31, n_shl, n_bit, n_not, n_bc, va_c0]
    exact h2 i hi
theorem c_cp7 {M : zM} {a b : Nat} {ρ : Nat → Int} {S : Nat → Nat} (hd : a + 12 < b ∨ b + 12 < a) (h : cR M b ρ S) (hS : S 64 ≤ 10 ∧ S 65 ≤ 10) : ok (fX7_copyFrom a b M) (fun M' => (∀ c, ¬ (a < c ∧ c ≤ a + 12) → M'.1 c = M.1 c) ∧ cR M' a ρ S) := by
  obtain ⟨h1, h2, h3, h4⟩ := h
  unfold fX7_copyFrom
  refine ok_sq (c_cp2 (a := a + 1) (b := b + 1) (by omega) h1 hS.1) (fun M1 p1 => ?_)
  have h2' : cL M1 (b + 5) 1 S := cL_cg h2 (fun c w1 w2 => p1.1 c (by omega))
  refine ok_sq (c_cp2 (a := a + 5) (b := b + 5) (by omega) h2' hS.2) (fun M2 p2 => ?_)
  have h3' : cO M2 (b + 9) ρ S := by
    unfold cO
    rw [p2.1 _ (by omega), p1.1 _ (by omega), p2.1 _ (by omega), p1.1 _ (by omega)]
    exact h3
  refine ok_sq (c_cp6 (a := a + 9) (b := b + 9) (by omega) h3') (fun M3 p3 => ?_)
  rw [l_0, l_10]
  simp (disch := omega) only [e_lt, e_ltn, e_jn, e_sq, e_bi, l_0, l_1, l_2, l_3, l_4, l_5, l_6, l_7, l_8, l_9, l_10, l_11, l_12, l_13, l_14, l_15, l_16, l_17, l_18, l_19, l_20, l_21, l_22, l_23, l_24, l_25, l_26, l_27, l_28, l_29, l_30, l_31, l_32, l_33, l_34, l_35, l_36, l_37, l_38, l_39, l_40, l_41, l_48, l_50, l_56, l_57, l_59, l_60, l_63, l_64, l_70, l_97, l_99, l_122, l_128, l_190, l_220, l_255, l_320, l_500, l_999, l_1024, l_83520, l_100000, l_1000000, L_0, L_1, L_2, L_3, L_4, L_6, L_7, L_9, L_10, L_11, L_13, L_16, L_32, L_48, L_50, L_57, L_97, L_99, L_122, L_999, L_83520, L_4294967295, L_25937424601, L_1152921504606846976, ↓m_1000020, ↓m_1000012, ↓m_1000010, ↓m_1000000, ↓m_10004, ↓m_10000, ↓m_1000, ↓m_999, ↓m_99, ↓m_30, ↓m_20, ↓m_14, ↓m_12, ↓m_11, ↓m_10, ↓m_8, ↓m_4, ↓m_3, ↓m_2, ↓m_1, ↓mL_999, ↓mL_99, ↓mL_1, n_add, n_mul, nj_add, jn_add, n_sub, n_subj, nj_sub, jn_sub, nj_mul, jn_mul, if_true, if_false, jI_add, jI_sub, jI_mul, jI_neg, jL_add, jL_sub, jL_mul, jL_neg, n_l, j_l, jL_i, e_gn, e_gj, e_znn, e_znj, nn_ltT, nn_ltF, nn_leT, nn_leF, nn_eqT, nn_eqF, nj_ltT, nj_ltF, nj_leT, nj_leF, nj_eqT, nj_eqF, jn_ltT, jn_ltF, jn_leT, jn_leF, jn_eqT, jn_eqF, jj_ltT, jj_ltF, jj_leT, jj_leF, jj_eqT, jj_eqF, LL_ltT, LL_ltF, LL_leT, LL_leF, LL_eqT, LL_eqF, e_w1, e_w1s, e_w2, e_x1, e_x2, e_x2s, e_a1, e_a1s, e_a2, e_uT, e_uF, e_vT, e_vF, e_ft, e_tf, e_zbt, e_zbf, n_or, n_31, n_shl, n_bit, n_not, n_bc, e_gc]
  refine ok_some ⟨fun c hc => ?_, ?_, ?_, ?_, fun i hi => ?_⟩
  · rw [e_a1 _ _ (by omega), p3.1 c (by omega), p2.1 c (by omega), p1.1 c (by omega)]
  · exact cL_cg p1.2 (fun c w1 w2 => by rw [e_a1 _ _ (by omega), p3.1 c (by omega), p2.1 c (by omega)])
  · exact cL_cg p2.2 (fun c w1 w2 => by rw [e_a1 _ _ (by omega), p3.1 c (by omega)])
  · unfold cO
    rw [e_a1 _ _ (by omega), e_a1 _ _ (by omega)]
    exact p3.2
  · rw [e_a1s, va_c0 _ _ hi, p3.1 _ (by omega), p2.1 _ (by omega), p1.1 _ (by omega)]
    exact h4 i hi
theorem bse_k {k : Nat} (hk : k < 2) : bse (k + 1) = 15 + 13 * k := by
  rcases (show k = 0 ∨ k = 1 by omega) with rfl | rfl <;> rfl
theorem imR_c2 {M M' : zM} {k : Nat} (hk : k < 2) (h : imR M k) (e1 : ∀ c, 15 + 13 * k ≤ c → c ≤ 15 + 13 * k + 12 → M'.1 c = M.1 c) (e2 : M'.1 96 k = M.1 96 k) (e3 : ∀ x, 220 * (k + 1) ≤ x → x < 220 * (k + 1) + 220 → M'.1 84 x = M.1 84 x) (e4 : ∀ x, 10 * (k + 1) ≤ x → x < 10 * (k + 1) + 10 → M'.1 81 x = M.1 81 x) : imR M' k := by
  obtain ⟨b, h1, h2, h3⟩ := h
  have eb := bse_k hk
  refine ⟨b, by rw [e1 _ (by omega) (by omega)]; exact h1, by rw [e2]; exact h2, fun q => ?_⟩
  obtain ⟨ρ, S, s1, s2, s3⟩ := h3 q
  exact ⟨ρ, S, cR_cg s1 (fun c q1 q2 => e1 c (by omega) (by omega)), ⟨fun x hx => by rw [e3 _ (by omega) (by omega)]; exact s2.1 x hx, fun x hx => by rw [e4 _ (by omega) (by omega)]; exact s2.2 x hx⟩, s3⟩
/-- the present and the images change -/
theorem RR_im {M M' : zM} (h : RR M) (e : ∀ c, (c = 0 ∨ (42 ≤ c ∧ c ≤ 51) ∨ (76 ≤ c ∧ c ≤ 80) ∨ (97 ≤ c ∧ c ≤ 99)) → M'.1 c = M.1 c) (hs : ∃ ρ S, sc M' 0 ρ S) (hi : ∀ k, k < 2 → imR M' k) : RR M' := by
  obtain ⟨_, h2, h3, h4, h5, h6, h7, h8⟩ := h
  refine ⟨hs, hi 0 (by omega), hi 1 (by omega), fun k hk => shR_cg (h4 k hk) (e _ (by omega)) (e _ (by omega)) (by rw [e 97 (by omega)]) (by rw [e 98 (by omega)]) (fun i _ => by rw [e 99 (by omega)]), ?_, by rw [e 50 (by omega), e 76 (by omega)]; exact h6, by rw [e 0 (by omega), e 76 (by omega)]; exact h7, ?_⟩
  · obtain ⟨len, a1, a2, a3, a4⟩ := h5
    refine ⟨len, a1, by rw [e 50 (by omega)]; exact a2, by rw [e 76 (by omega)]; exact a3, fun i hi => ?_⟩
    rw [e 51 (by omega), e 77 (by omega)]
    exact a4 i hi
  · obtain ⟨a1, a2, a3⟩ := h8
    exact ⟨fun k hk => by rw [e 78 (by omega)]; exact a1 k hk, fun k hk => by rw [e 79 (by omega)]; exact a2 k hk, fun k hk => by rw [e 80 (by omega)]; exact a3 k hk⟩
theorem RR_i {M : zM} (h : RR M) {k : Nat} (hk : k < 2) : imR M k := by
  rcases (show k = 0 ∨ k = 1 by omega) with rfl | rfl
  · exact h.2.1
  · exact h.2.2.1
theorem hzb (b : Bool) : (if zb b = nI 0 then false else true) = b := by cases b <;> decide
theorem q_keep {M : zM} (h : RR M) (p : Int32) : AG2 (fX10_keep p) (fX11_keep p) M := by
  unfold AG2 fX10_keep fX11_keep fX10_isImage
  have x3 : (Int32.ofNat 2) - (1 : Int32) = nI 1 := by decide
  rw [x3, l_0, L_0, L_1]
  rcases ar p 1 1 (by omega) rfl with ⟨k, hk, rfl, e1, e2⟩ | ⟨e1, e2, _⟩
  rotate_left
  · rw [e1]
    refine ⟨jI (-1), M, M, ?_, ?_, h⟩
    · rw [e_lt]; rfl
    · rw [e2, e_lt]; rfl
  have hk : k < 2 := by omega
  obtain ⟨ρ, S, h1, h2, hV⟩ := h.1
  have h1 : cR M 1 ρ S := h1
  obtain ⟨b, i1, i2, _⟩ := RR_i h hk
  rw [bse_k hk] at i1
  obtain ⟨M5, hcp, f1, f2⟩ := c_cp7 (a := 15 + 13 * k) (b := 1) (by omega) h1 hV.1
  obtain ⟨M1, hM1⟩ : ∃ M1, M1 = zwI M5 (15 + 13 * k) 4 (zb true) := ⟨_, rfl⟩
  have g1 : ∀ c, ¬ (15 + 13 * k ≤ c ∧ c ≤ 15 + 13 * k + 12) → M1.1 c = M.1 c := fun c hc => by
    rw [hM1, e_w1 _ _ _ (by omega), f1 c (by omega)]
  have g2 : cR M1 (15 + 13 * k) ρ S := cR_cg f2 (fun c w1 w2 => by rw [hM1, e_w1 _ _ _ (by omega)])
  have g3 : M1.1 (15 + 13 * k) 4 = zb true := by rw [hM1, e_w1s, e_uT rfl]
  have hA : ok (zlp (α := Int32 × zM) (β := zM) (fun rec11 => (fun (u35 : Int32 × zM) => match u35 with | (x9, M10) => if (220 : Int32) ≤ x9 then (some M10) else (grd (zix x9 660) (grd (zix (((220 : Int32) * (nI k + (1 : Int32))) + x9) 660) (lt (zwI M10 84 (zn (((220 : Int32) * (nI k + (1 : Int32))) + x9)) (M10.1 84 (zn x9))) (fun (M15 : zM) => rec11 ((x9 + (1 : Int32)), M15))))))) zFu (nI 0, M1)) (fun M' => (∀ c, c ≠ 84 → M'.1 c = M1.1 c) ∧ ∀ y, M'.1 84 y = if 220 * (k + 1) ≤ y ∧ y < 220 * (k + 1) + 220 then M.1 84 (y - 220 * (k + 1)) else M.1 84 y) := by
    refine ok_up 220 (fun w x => ∃ M', x = (nI w, M') ∧ (∀ c, c ≠ 84 → M'.1 c = M1.1 c) ∧ ∀ y, M'.1 84 y = if 220 * (k + 1) ≤ y ∧ y < 220 * (k + 1) + w then M.1 84 (y - 220 * (k + 1)) else M.1 84 y) ?_ ?_ zFu 0 _ (by omega) (by unfold zFu; omega) ⟨M1, rfl, fun c _ => rfl, fun y => by rw [if_neg (by omega), g1 84 (by omega)]⟩
    · rintro rec w x hw ⟨M', rfl, o1, o2⟩ hrec
      have q1 := o2 w
      rw [if_neg (by omega)] at q1
      dsimp only
      rw [l_220, nn_leF (by omega), e_gn (by omega), l_1, n_add, n_mul, n_add, e_gn (by omega), e_lt, e_znn (by omega), e_znn (by omega), n_add, q1]
      refine hrec _ ⟨zwI M' 84 (220 * (k + 1) + w) (M.1 84 w), rfl, fun c hc => by rw [e_w1 _ _ _ hc]; exact o1 c hc, fun y => ?_⟩
      rw [e_w1s]
      by_cases z : y = 220 * (k + 1) + w
      · rw [e_uT z, if_pos (by omega)]
        exact congrArg (M.1 84) (by omega)
      · rw [e_uF z, o2 y]
        have : (220 * (k + 1) ≤ y ∧ y < 220 * (k + 1) + (w + 1)) ↔ (220 * (k + 1) ≤ y ∧ y < 220 * (k + 1) + w) := by omega
        simp only [this]
    · rintro rec x ⟨M', rfl, o1, o2⟩
      dsimp only
      rw [l_220, nn_leT (by omega)]
      exact ok_some ⟨o1, o2⟩
  obtain ⟨M2, hA1, hA2, hA3⟩ := hA
  have hB : ok (zlp (α := Int32 × zM) (β := zM) (fun rec25 => (fun (u33 : Int32 × zM) => match u33 with | (x23, M24) => if (10 : Int32) ≤ x23 then (some M24) else (grd (zix x23 30) (grd (zix (((10 : Int32) * (nI k + (1 : Int32))) + x23) 30) (lt (zwI M24 81 (zn (((10 : Int32) * (nI k + (1 : Int32))) + x23)) (M24.1 81 (zn x23))) (fun (M29 : zM) => rec25 ((x23 + (1 : Int32)), M29))))))) zFu (nI 0, M2)) (fun M' => (∀ c, c ≠ 81 → M'.1 c = M2.1 c) ∧ ∀ y, M'.1 81 y = if 10 * (k + 1) ≤ y ∧ y < 10 * (k + 1) + 10 then M.1 81 (y - 10 * (k + 1)) else M.1 81 y) := by
    refine ok_up 10 (fun w x => ∃ M', x = (nI w, M') ∧ (∀ c, c ≠ 81 → M'.1 c = M2.1 c) ∧ ∀ y, M'.1 81 y = if 10 * (k + 1) ≤ y ∧ y < 10 * (k + 1) + w then M.1 81 (y - 10 * (k + 1)) else M.1 81 y) ?_ ?_ zFu 0 _ (by omega) (by unfold zFu; omega) ⟨M2, rfl, fun c _ => rfl, fun y => by rw [if_neg (by omega), hA2 81 (by omega), g1 81 (by omega)]⟩
    · rintro rec w x hw ⟨M', rfl, o1, o2⟩ hrec
      have q1 := o2 w
      rw [if_neg (by omega)] at q1
      dsimp only
      rw [l_10, nn_leF (by omega), e_gn (by omega), l_1, n_add, n_mul, n_add, e_gn (by omega), e_lt, e_znn (by omega), e_znn (by omega), n_add, q1]
      refine hrec _ ⟨zwI M' 81 (10 * (k + 1) + w) (M.1 81 w), rfl, fun c hc => by rw [e_w1 _ _ _ hc]; exact o1 c hc, fun y => ?_⟩
      rw [e_w1s]
      by_cases z : y = 10 * (k + 1) + w
      · rw [e_uT z, if_pos (by omega)]
        exact congrArg (M.1 81) (by omega)
      · rw [e_uF z, o2 y]
        have : (10 * (k + 1) ≤ y ∧ y < 10 * (k + 1) + (w + 1)) ↔ (10 * (k + 1) ≤ y ∧ y < 10 * (k + 1) + w) := by omega
        simp only [this]
    · rintro rec x ⟨M', rfl, o1, o2⟩
      dsimp only
      rw [l_10, nn_leT (by omega)]
      exact ok_some ⟨o1, o2⟩
  obtain ⟨M3, hB1, hB2, hB3⟩ := hB
  have k96 : M3.1 96 k = zb b := by rw [hB2 96 (by omega), hA2 96 (by omega), g1 96 (by omega)]; exact i2
  have kc : ∀ c, c ≠ 81 → c ≠ 84 → ¬ (15 + 13 * k ≤ c ∧ c ≤ 15 + 13 * k + 12) → M3.1 c = M.1 c := fun c w1 w2 w3 => by rw [hB2 c w1, hA2 c w2, g1 c w3]
  have kd : ∀ c, c ≠ 81 → c ≠ 84 → M3.1 c = M1.1 c := fun c w1 w2 => by rw [hB2 c w1, hA2 c w2]
  have k84 : ∀ y, M3.1 84 y = if 220 * (k + 1) ≤ y ∧ y < 220 * (k + 1) + 220 then M.1 84 (y - 220 * (k + 1)) else M.1 84 y := fun y => by rw [hB2 84 (by omega)]; exact hA3 y
  have b0 : bse 0 = 1 := rfl
  refine ⟨zb b, M1, zwI M3 96 k (zb true), ?_, ?_, ?_⟩
  · rw [e1, e_lt, if_neg (by decide), e_gn (by omega), e_znn (by omega), e_lt, i1, hzb, e_lt, e_gn (by omega), e_lt, hcp, e_sq, e_gn (by omega), e_lt, ← hM1, e_lt]
  · rw [e2, e_lt, if_neg (by decide), hA1, e_sq, hB1, e_sq, e_gn (by omega), e_znn (by omega), k96, hzb, e_lt, e_gn (by omega), e_lt]
  · refine RR_im h (fun c w => by rw [e_w1 _ _ _ (by omega), kc c (by omega) (by omega) (by omega)]) ⟨ρ, S, cR_cg (show cR M 1 ρ S from h1) (fun c w1 w2 => by rw [e_w1 _ _ _ (by omega), kc c (by omega) (by omega) (by omega)]), ⟨fun x hx => ?_, fun x hx => ?_⟩, hV⟩ (fun k' hk' => ?_)
    · rw [e_w1 _ _ _ (by omega), k84, if_neg (by omega)]; exact h2.1 x hx
    · rw [e_w1 _ _ _ (by omega), hB3, if_neg (by omega)]; exact h2.2 x hx
    · by_cases ek : k' = k
      · subst ek
        refine ⟨true, ?_, by rw [e_w1s, e_uT rfl], fun _ => ⟨ρ, S, ?_, ⟨fun x hx => ?_, fun x hx => ?_⟩, hV⟩⟩
        · rw [bse_k hk, e_w1 _ _ _ (by omega), kd _ (by omega) (by omega)]; exact g3
        · rw [bse_k hk]
          exact cR_cg g2 (fun c w1 w2 => by rw [e_w1 _ _ _ (by omega), kd _ (by omega) (by omega)])
        · rw [e_w1 _ _ _ (by omega), k84, if_pos (by omega), show 220 * (k' + 1) + x - 220 * (k' + 1) = 220 * 0 + x by omega]; exact h2.1 x hx
        · rw [e_w1 _ _ _ (by omega), hB3, if_pos (by omega), show 10 * (k' + 1) + x - 10 * (k' + 1) = 10 * 0 + x by omega]; exact h2.2 x hx
      · refine imR_c2 hk' (RR_i h hk') (fun c w1 w2 => by rw [e_w1 _ _ _ (by omega), kc c (by omega) (by omega) (by omega)]) (by rw [e_w1s, e_uF ek, kc 96 (by omega) (by omega) (by omega)]) (fun x w1 w2 => by rw [e_w1 _ _ _ (by omega), k84, if_neg (by omega)]) (fun x w1 w2 => by rw [e_w1 _ _ _ (by omega), hB3, if_neg (by omega)])
