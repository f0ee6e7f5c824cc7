theorem e_grd {σ : Type} {c : Prop} [Decidable c] {r : Option σ} (h : c) : grd c r = r := if_pos h
theorem e_gc {σ : Type} {a b c n0 n1 : Nat} {r : Option σ} (h : a + c ≤ n0 ∧ b + c ≤ n1 ∧ n0 < 2147483648 ∧ n1 < 2147483648) : grd (zcp (nI a) (nI b) (nI c) n0 n1) r = r := by
  apply e_grd
  have e1 := nI_toInt (n := a) (by omega)
  have e2 := nI_toInt (n := b) (by omega)
  have e3 := nI_toInt (n := c) (by omega)
  refine ⟨by omega, by omega, by omega, ?_, ?_⟩
  · rw [zn_nI (by omega), zn_nI (by omega)]; omega
  · rw [zn_nI (by omega), zn_nI (by omega)]; omega
theorem q_drop {M : zM} (h : RR M) (p q : Int32) : AG2 (fX10_drop p q) (fX11_drop p q) M := by
  obtain ⟨ρ, S, hsc⟩ := h.1
  obtain ⟨h1, h2, hV⟩ := id hsc
  have h1 : cR M 1 ρ S := h1
  have v1 := hV.1
  unfold AG2 fX10_drop fX11_drop
  rcases hl h1 hV p q with ⟨e, i, he, hi, rfl, rfl, e1, e3, _, e2⟩ | ⟨e1, e2⟩
  · obtain ⟨hsz, hcl⟩ := cR_L h1 he
    have hS10 : S (64 + e) ≤ 10 := by
      rcases (show e = 0 ∨ e = 1 by omega) with rfl | rfl
      · exact v1.1
      · exact v1.2
    obtain ⟨n, hn⟩ : ∃ n, n = S (64 + e) := ⟨_, rfl⟩
    rw [← hn] at hsz hcl hi hS10
    -- the class
    obtain ⟨Ma, hMa⟩ : ∃ Ma, Ma = zwI (zwA (zwA (zwA M (2 + 4 * e + 1) (va_cpy (M.1 (2 + 4 * e + 1)) (M.1 (2 + 4 * e + 1)) (i + 1) i (n - i - 1))) (2 + 4 * e + 2) (va_cpy (M.1 (2 + 4 * e + 2)) (M.1 (2 + 4 * e + 2)) (i + 1) i (n - i - 1))) (2 + 4 * e + 3) (va_cpy (M.1 (2 + 4 * e + 3)) (M.1 (2 + 4 * e + 3)) ((i + 1) * 4) (i * 4) ((n - i - 1) * 4))) (2 + 4 * e) 0 (nI (n - 1)) := ⟨_, rfl⟩
    have hrm : fX2_remove (2 + 4 * e) (nI i) M = some Ma := by
      unfold fX2_remove
      simp (disch := omega) only [e_lt, e_ltn, e_jn, e_sq, e_bi, l_0, l_1, l_2, l_3, l_4, l_5, l_6, l_7, l_8, l_9, l_10, l_11, l_12, l_13, l_14, l_15, l_16, l_17, l_18, l_19, l_20, l_21, l_22, l_23, l_24, l_25, l_26, l_27, l_28, l_29, l_30, l_31, l_32, l_33, l_34, l_35, l_36, l_37, l_38, l_39, l_40, l_41, l_48, l_50, l_56, l_57, l_59, l_60, l_63, l_64, l_70, l_97, l_99, l_122, l_128, l_190, l_220, l_255, l_320, l_500, l_999, l_1024, l_83520, l_100000, l_1000000, L_0, L_1, L_2, L_3, L_4, L_6, L_7, L_9, L_10, L_11, L_13, L_16, L_32, L_48, L_50, L_57, L_97, L_99, L_122, L_999, L_83520, L_4294967295, L_25937424601, L_1152921504606846976, ↓m_1000020, ↓m_1000012, ↓m_1000010, ↓m_1000000, ↓m_10004, ↓m_10000, ↓m_1000, ↓m_999, ↓m_99, ↓m_30, ↓m_20, ↓m_14, ↓m_12, ↓m_11, ↓m_10, ↓m_8, ↓m_4, ↓m_3, ↓m_2, ↓m_1, ↓mL_999, ↓mL_99, ↓mL_1, n_add, n_mul, nj_add, jn_add, n_sub, n_subj, nj_sub, jn_sub, nj_mul, jn_mul, if_true, if_false, jI_add, jI_sub, jI_mul, jI_neg, jL_add, jL_sub, jL_mul, jL_neg, n_l, j_l, jL_i, e_gn, e_gj, e_znn, e_znj, nn_ltT, nn_ltF, nn_leT, nn_leF, nn_eqT, nn_eqF, nj_ltT, nj_ltF, nj_leT, nj_leF, nj_eqT, nj_eqF, jn_ltT, jn_ltF, jn_leT, jn_leF, jn_eqT, jn_eqF, jj_ltT, jj_ltF, jj_leT, jj_leF, jj_eqT, jj_eqF, LL_ltT, LL_ltF, LL_leT, LL_leF, LL_eqT, LL_eqF, e_w1, e_w1s, e_w2, e_x1, e_x2, e_x2s, e_a1, e_a1s, e_a2, e_uT, e_uF, e_vT, e_vF, e_ft, e_tf, e_zbt, e_zbf, n_or, n_31, n_shl, n_bit, n_not, n_bc, hsz, e_gc]
      rw [hMa]
    have hca : ∀ c, c ≠ 2 + 4 * e → c ≠ 2 + 4 * e + 1 → c ≠ 2 + 4 * e + 2 → c ≠ 2 + 4 * e + 3 → Ma.1 c = M.1 c := fun c w1 w2 w3 w4 => by
      rw [hMa]
      simp (disch := omega) only [e_lt, e_ltn, e_jn, e_sq, e_bi, l_0, l_1, l_2, l_3, l_4, l_5, l_6, l_7, l_8, l_9, l_10, l_11, l_12, l_13, l_14, l_15, l_16, l_17, l_18, l_19, l_20, l_21, l_22, l_23, l_24, l_25, l_26, l_27, l_28, l_29, l_30, l_31, l_32, l_33, l_34, l_35, l_36, l_37, l_38, l_39, l_40, l_41, l_48, l_50, l_56, l_57, l_59, l_60, l_63, l_64, l_70, l_97, l_99, l_122, l_128, l_190, l_220, l_255, l_320, l_500, l_999, l_1024, l_83520, l_100000, l_1000000, L_0, L_1, L_2, L_3, L_4, L_6, L_7, L_9, L_10, L_11, L_13, L_16, L_32, L_48, L_50, L_57, L_97, L_99, L_122, L_999, L_83520, L_4294967295, L_25937424601, L_1152921504606846976, ↓m_1000020, ↓m_1000012, ↓m_1000010, ↓m_1000000, ↓m_10004, ↓m_10000, ↓m_1000, ↓m_999, ↓m_99, ↓m_30, ↓m_20, ↓m_14, ↓m_12, ↓m_11, ↓m_10, ↓m_8, ↓m_4, ↓m_3, ↓m_2, ↓m_1, ↓mL_999, ↓mL_99, ↓mL_1, n_add, n_mul, nj_add, jn_add, n_sub, n_subj, nj_sub, jn_sub, nj_mul, jn_mul, if_true, if_false, jI_add, jI_sub, jI_mul, jI_neg, jL_add, jL_sub, jL_mul, jL_neg, n_l, j_l, jL_i, e_gn, e_gj, e_znn, e_znj, nn_ltT, nn_ltF, nn_leT, nn_leF, nn_eqT, nn_eqF, nj_ltT, nj_ltF, nj_leT, nj_leF, nj_eqT, nj_eqF, jn_ltT, jn_ltF, jn_leT, jn_leF, jn_eqT, jn_eqF, jj_ltT, jj_ltF, jj_leT, jj_leF, jj_eqT, jj_eqF, LL_ltT, LL_ltF, LL_leT, LL_leF, LL_eqT, LL_eqF, e_w1, e_w1s, e_w2, e_x1, e_x2, e_x2s, e_a1, e_a1s, e_a2, e_uT, e_uF, e_vT, e_vF, e_ft, e_tf, e_zbt, e_zbf, n_or, n_31, n_shl, n_bit, n_not, n_bc]
    have hm1 : ∀ k, Ma.1 (2 + 4 * e + 1) k = if i ≤ k ∧ k < n - 1 then M.1 (2 + 4 * e + 1) (k + 1) else M.1 (2 + 4 * e + 1) k := fun k => by
      rw [hMa]
      simp (disch := omega) only [e_lt, e_ltn, e_jn, e_sq, e_bi, l_0, l_1, l_2, l_3, l_4, l_5, l_6, l_7, l_8, l_9, l_10, l_11, l_12, l_13, l_14, l_15, l_16, l_17, l_18, l_19, l_20, l_21, l_22, l_23, l_24, l_25, l_26, l_27, l_28, l_29, l_30, l_31, l_32, l_33, l_34, l_35, l_36, l_37, l_38, l_39, l_40, l_41, l_48, l_50, l_56, l_57, l_59, l_60, l_63, l_64, l_70, l_97, l_99, l_122, l_128, l_190, l_220, l_255, l_320, l_500, l_999, l_1024, l_83520, l_100000, l_1000000, L_0, L_1, L_2, L_3, L_4, L_6, L_7, L_9, L_10, L_11, L_13, L_16, L_32, L_48, L_50, L_57, L_97, L_99, L_122, L_999, L_83520, L_4294967295, L_25937424601, L_1152921504606846976, ↓m_1000020, ↓m_1000012, ↓m_1000010, ↓m_1000000, ↓m_10004, ↓m_10000, ↓m_1000, ↓m_999, ↓m_99, ↓m_30, ↓m_20, ↓m_14, ↓m_12, ↓m_11, ↓m_10, ↓m_8, ↓m_4, ↓m_3, ↓m_2, ↓m_1, ↓mL_999, ↓mL_99, ↓mL_1, n_add, n_mul, nj_add, jn_add, n_sub, n_subj, nj_sub, jn_sub, nj_mul, jn_mul, if_true, if_false, jI_add, jI_sub, jI_mul, jI_neg, jL_add, jL_sub, jL_mul, jL_neg, n_l, j_l, jL_i, e_gn, e_gj, e_znn, e_znj, nn_ltT, nn_ltF, nn_leT, nn_leF, nn_eqT, nn_eqF, nj_ltT, nj_ltF, nj_leT, nj_leF, nj_eqT, nj_eqF, jn_ltT, jn_ltF, jn_leT, jn_leF, jn_eqT, jn_eqF, jj_ltT, jj_ltF, jj_leT, jj_leF, jj_eqT, jj_eqF, LL_ltT, LL_ltF, LL_leT, LL_leF, LL_eqT, LL_eqF, e_w1, e_w1s, e_w2, e_x1, e_x2, e_x2s, e_a1, e_a1s, e_a2, e_uT, e_uF, e_vT, e_vF, e_ft, e_tf, e_zbt, e_zbf, n_or, n_31, n_shl, n_bit, n_not, n_bc]
      unfold va_cpy
      by_cases z : i ≤ k ∧ k < n - 1
      · rw [if_pos z, if_pos (by omega)]; exact congrArg (M.1 (2 + 4 * e + 1)) (by omega)
      · rw [if_neg z, if_neg (by omega)]
    have hm2 : ∀ k, Ma.1 (2 + 4 * e + 2) k = if i ≤ k ∧ k < n - 1 then M.1 (2 + 4 * e + 2) (k + 1) else M.1 (2 + 4 * e + 2) k := fun k => by
      rw [hMa]
      simp (disch := omega) only [e_lt, e_ltn, e_jn, e_sq, e_bi, l_0, l_1, l_2, l_3, l_4, l_5, l_6, l_7, l_8, l_9, l_10, l_11, l_12, l_13, l_14, l_15, l_16, l_17, l_18, l_19, l_20, l_21, l_22, l_23, l_24, l_25, l_26, l_27, l_28, l_29, l_30, l_31, l_32, l_33, l_34, l_35, l_36, l_37, l_38, l_39, l_40, l_41, l_48, l_50, l_56, l_57, l_59, l_60, l_63, l_64, l_70, l_97, l_99, l_122, l_128, l_190, l_220, l_255, l_320, l_500, l_999, l_1024, l_83520, l_100000, l_1000000, L_0, L_1, L_2, L_3, L_4, L_6, L_7, L_9, L_10, L_11, L_13, L_16, L_32, L_48, L_50, L_57, L_97, L_99, L_122, L_999, L_83520, L_4294967295, L_25937424601, L_1152921504606846976, ↓m_1000020, ↓m_1000012, ↓m_1000010, ↓m_1000000, ↓m_10004, ↓m_10000, ↓m_1000, ↓m_999, ↓m_99, ↓m_30, ↓m_20, ↓m_14, ↓m_12, ↓m_11, ↓m_10, ↓m_8, ↓m_4, ↓m_3, ↓m_2, ↓m_1, ↓mL_999, ↓mL_99, ↓mL_1, n_add, n_mul, nj_add, jn_add, n_sub, n_subj, nj_sub, jn_sub, nj_mul, jn_mul, if_true, if_false, jI_add, jI_sub, jI_mul, jI_neg, jL_add, jL_sub, jL_mul, jL_neg, n_l, j_l, jL_i, e_gn, e_gj, e_znn, e_znj, nn_ltT, nn_ltF, nn_leT, nn_leF, nn_eqT, nn_eqF, nj_ltT, nj_ltF, nj_leT, nj_leF, nj_eqT, nj_eqF, jn_ltT, jn_ltF, jn_leT, jn_leF, jn_eqT, jn_eqF, jj_ltT, jj_ltF, jj_leT, jj_leF, jj_eqT, jj_eqF, LL_ltT, LL_ltF, LL_leT, LL_leF, LL_eqT, LL_eqF, e_w1, e_w1s, e_w2, e_x1, e_x2, e_x2s, e_a1, e_a1s, e_a2, e_uT, e_uF, e_vT, e_vF, e_ft, e_tf, e_zbt, e_zbf, n_or, n_31, n_shl, n_bit, n_not, n_bc]
      unfold va_cpy
      by_cases z : i ≤ k ∧ k < n - 1
      · rw [if_pos z, if_pos (by omega)]; exact congrArg (M.1 (2 + 4 * e + 2)) (by omega)
      · rw [if_neg z, if_neg (by omega)]
    have hm3 : ∀ k, Ma.1 (2 + 4 * e + 3) k = if i * 4 ≤ k ∧ k < (n - 1) * 4 then M.1 (2 + 4 * e + 3) (k + 4) else M.1 (2 + 4 * e + 3) k := fun k => by
      rw [hMa]
      simp (disch := omega) only [e_lt, e_ltn, e_jn, e_sq, e_bi, l_0, l_1, l_2, l_3, l_4, l_5, l_6, l_7, l_8, l_9, l_10, l_11, l_12, l_13, l_14, l_15, l_16, l_17, l_18, l_19, l_20, l_21, l_22, l_23, l_24, l_25, l_26, l_27, l_28, l_29, l_30, l_31, l_32, l_33, l_34, l_35, l_36, l_37, l_38, l_39, l_40, l_41, l_48, l_50, l_56, l_57, l_59, l_60, l_63, l_64, l_70, l_97, l_99, l_122, l_128, l_190, l_220, l_255, l_320, l_500, l_999, l_1024, l_83520, l_100000, l_1000000, L_0, L_1, L_2, L_3, L_4, L_6, L_7, L_9, L_10, L_11, L_13, L_16, L_32, L_48, L_50, L_57, L_97, L_99, L_122, L_999, L_83520, L_4294967295, L_25937424601, L_1152921504606846976, ↓m_1000020, ↓m_1000012, ↓m_1000010, ↓m_1000000, ↓m_10004, ↓m_10000, ↓m_1000, ↓m_999, ↓m_99, ↓m_30, ↓m_20, ↓m_14, ↓m_12, ↓m_11, ↓m_10, ↓m_8, ↓m_4, ↓m_3, ↓m_2, ↓m_1, ↓mL_999, ↓mL_99, ↓mL_1, n_add, n_mul, nj_add, jn_add, n_sub, n_subj, nj_sub, jn_sub, nj_mul, jn_mul, if_true, if_false, jI_add, jI_sub, jI_mul, jI_neg, jL_add, jL_sub, jL_mul, jL_neg, n_l, j_l, jL_i, e_gn, e_gj, e_znn, e_znj, nn_ltT, nn_ltF, nn_leT, nn_leF, nn_eqT, nn_eqF, nj_ltT, nj_ltF, nj_leT, nj_leF, nj_eqT, nj_eqF, jn_ltT, jn_ltF, jn_leT, jn_leF, jn_eqT, jn_eqF, jj_ltT, jj_ltF, jj_leT, jj_leF, jj_eqT, jj_eqF, LL_ltT, LL_ltF, LL_leT, LL_leF, LL_eqT, LL_eqF, e_w1, e_w1s, e_w2, e_x1, e_x2, e_x2s, e_a1, e_a1s, e_a2, e_uT, e_uF, e_vT, e_vF, e_ft, e_tf, e_zbt, e_zbf, n_or, n_31, n_shl, n_bit, n_not, n_bc]
      unfold va_cpy
      by_cases z : i * 4 ≤ k ∧ k < (n - 1) * 4
      · rw [if_pos z, if_pos (by omega)]; exact congrArg (M.1 (2 + 4 * e + 3)) (by omega)
      · rw [if_neg z, if_neg (by omega)]
    have hm0 : Ma.1 (2 + 4 * e) 0 = nI (n - 1) := by
      rw [hMa]
      simp (disch := omega) only [e_lt, e_ltn, e_jn, e_sq, e_bi, l_0, l_1, l_2, l_3, l_4, l_5, l_6, l_7, l_8, l_9, l_10, l_11, l_12, l_13, l_14, l_15, l_16, l_17, l_18, l_19, l_20, l_21, l_22, l_23, l_24, l_25, l_26, l_27, l_28, l_29, l_30, l_31, l_32, l_33, l_34, l_35, l_36, l_37, l_38, l_39, l_40, l_41, l_48, l_50, l_56, l_57, l_59, l_60, l_63, l_64, l_70, l_97, l_99, l_122, l_128, l_190, l_220, l_255, l_320, l_500, l_999, l_1024, l_83520, l_100000, l_1000000, L_0, L_1, L_2, L_3, L_4, L_6, L_7, L_9, L_10, L_11, L_13, L_16, L_32, L_48, L_50, L_57, L_97, L_99, L_122, L_999, L_83520, L_4294967295, L_25937424601, L_1152921504606846976, ↓m_1000020, ↓m_1000012, ↓m_1000010, ↓m_1000000, ↓m_10004, ↓m_10000, ↓m_1000, ↓m_999, ↓m_99, ↓m_30, ↓m_20, ↓m_14, ↓m_12, ↓m_11, ↓m_10, ↓m_8, ↓m_4, ↓m_3, ↓m_2, ↓m_1, ↓mL_999, ↓mL_99, ↓mL_1, n_add, n_mul, nj_add, jn_add, n_sub, n_subj, nj_sub, jn_sub, nj_mul, jn_mul, if_true, if_false, jI_add, jI_sub, jI_mul, jI_neg, jL_add, jL_sub, jL_mul, jL_neg, n_l, j_l, jL_i, e_gn, e_gj, e_znn, e_znj, nn_ltT, nn_ltF, nn_leT, nn_leF, nn_eqT, nn_eqF, nj_ltT, nj_ltF, nj_leT, nj_leF, nj_eqT, nj_eqF, jn_ltT, jn_ltF, jn_leT, jn_leF, jn_eqT, jn_eqF, jj_ltT, jj_ltF, jj_leT, jj_leF, jj_eqT, jj_eqF, LL_ltT, LL_ltF, LL_leT, LL_leF, LL_eqT, LL_eqF, e_w1, e_w1s, e_w2, e_x1, e_x2, e_x2s, e_a1, e_a1s, e_a2, e_uT, e_uF, e_vT, e_vF, e_ft, e_tf, e_zbt, e_zbf, n_or, n_31, n_shl, n_bit, n_not, n_bc]
    have r2a : rR Ma 0 ρ S := ⟨fun x hx => by rw [hca 84 (by omega) (by omega) (by omega) (by omega)]; exact h2.1 x hx, fun x hx => by rw [hca 81 (by omega) (by omega) (by omega) (by omega)]; exact h2.2 x hx⟩
    have e84 : Ma.1 84 = M.1 84 := hca 84 (by omega) (by omega) (by omega) (by omega)
    have a64 := rR_s r2a (k := 64 + e) (by omega)
    rw [← hn] at a64
    -- the reference
    have hrun : ok (sq (α := zM) (zlp (α := Int32 × zM) (β := zM) (fun rec6 => (fun (u30 : Int32 × zM) => match u30 with | (x4, M5) => sq (fX11_linesOf (nI e) (0 : Int32) M5) (fun (x10 : Int32) => if x10 ≤ x4 then (some M5) else (sq (α := zM) (zlp (α := Int32 × zM) (β := zM) (fun rec21 => (fun (u27 : Int32 × zM) => match u27 with | (x19, M20) => if (6 : Int32) ≤ x19 then (some M20) else (sq (fX11_its (nI e) (x4 + (1 : Int32)) x19 M20) (fun (x25 : Int32) => sq (fX11_setIts (nI e) x4 x19 x25 M20) (fun (M26 : zM) => rec21 ((x19 + (1 : Int32)), M26)))))) zFu ((0 : Int32), M5)) (fun (M24 : zM) => rec6 ((x4 + (1 : Int32)), M24)))))) zFu (nI i, zwI Ma 84 (64 + e) (nI (n - 1)))) (fun (M9 : zM) => sq (fX11_linesOf (nI e) (0 : Int32) M9) (fun (x29 : Int32) => some (x29, M9)))) (fun x => x.1 = nI (n - 1) ∧ (∀ c, c ≠ 84 → x.2.1 c = Ma.1 c) ∧ x.2.1 84 (64 + e) = nI (n - 1) ∧ ∀ x', x' ≠ 64 + e → x.2.1 84 x' = if 70 + 60 * e + 6 * i ≤ x' ∧ x' < 70 + 60 * e + 6 * (n - 1) then M.1 84 (x' + 6) else M.1 84 x') := by
      have elo : ∀ M' : zM, M'.1 84 (64 + e) = nI (n - 1) → fX11_linesOf (nI e) (0 : Int32) M' = some (nI (n - 1)) := fun M' k => by
        unfold fX11_linesOf
        simp (disch := omega) only [e_lt, e_ltn, e_jn, e_sq, e_bi, l_0, l_1, l_2, l_3, l_4, l_5, l_6, l_7, l_8, l_9, l_10, l_11, l_12, l_13, l_14, l_15, l_16, l_17, l_18, l_19, l_20, l_21, l_22, l_23, l_24, l_25, l_26, l_27, l_28, l_29, l_30, l_31, l_32, l_33, l_34, l_35, l_36, l_37, l_38, l_39, l_40, l_41, l_48, l_50, l_56, l_57, l_59, l_60, l_63, l_64, l_70, l_97, l_99, l_122, l_128, l_190, l_220, l_255, l_320, l_500, l_999, l_1024, l_83520, l_100000, l_1000000, L_0, L_1, L_2, L_3, L_4, L_6, L_7, L_9, L_10, L_11, L_13, L_16, L_32, L_48, L_50, L_57, L_97, L_99, L_122, L_999, L_83520, L_4294967295, L_25937424601, L_1152921504606846976, ↓m_1000020, ↓m_1000012, ↓m_1000010, ↓m_1000000, ↓m_10004, ↓m_10000, ↓m_1000, ↓m_999, ↓m_99, ↓m_30, ↓m_20, ↓m_14, ↓m_12, ↓m_11, ↓m_10, ↓m_8, ↓m_4, ↓m_3, ↓m_2, ↓m_1, ↓mL_999, ↓mL_99, ↓mL_1, n_add, n_mul, nj_add, jn_add, n_sub, n_subj, nj_sub, jn_sub, nj_mul, jn_mul, if_true, if_false, jI_add, jI_sub, jI_mul, jI_neg, jL_add, jL_sub, jL_mul, jL_neg, n_l, j_l, jL_i, e_gn, e_gj, e_znn, e_znj, nn_ltT, nn_ltF, nn_leT, nn_leF, nn_eqT, nn_eqF, nj_ltT, nj_ltF, nj_leT, nj_leF, nj_eqT, nj_eqF, jn_ltT, jn_ltF, jn_leT, jn_leF, jn_eqT, jn_eqF, jj_ltT, jj_ltF, jj_leT, jj_leF, jj_eqT, jj_eqF, LL_ltT, LL_ltF, LL_leT, LL_leF, LL_eqT, LL_eqF, e_w1, e_w1s, e_w2, e_x1, e_x2, e_x2s, e_a1, e_a1s, e_a2, e_uT, e_uF, e_vT, e_vF, e_ft, e_tf, e_zbt, e_zbf, n_or, n_31, n_shl, n_bit, n_not, n_bc, k, Nat.add_zero]
      refine ok_sq (P := fun M' => (∀ c, c ≠ 84 → M'.1 c = Ma.1 c) ∧ M'.1 84 (64 + e) = nI (n - 1) ∧ ∀ x', x' ≠ 64 + e → M'.1 84 x' = if 70 + 60 * e + 6 * i ≤ x' ∧ x' < 70 + 60 * e + 6 * (n - 1) then M.1 84 (x' + 6) else M.1 84 x') ?_ ?_
      · refine ok_up (n - 1) (fun k x => i ≤ k ∧ ∃ M', x = (nI k, M') ∧ (∀ c, c ≠ 84 → M'.1 c = Ma.1 c) ∧ M'.1 84 (64 + e) = nI (n - 1) ∧ ∀ x', x' ≠ 64 + e → M'.1 84 x' = if 70 + 60 * e + 6 * i ≤ x' ∧ x' < 70 + 60 * e + 6 * k then M.1 84 (x' + 6) else M.1 84 x') ?_ ?_ zFu i _ (by omega) (by unfold zFu; omega) ⟨Nat.le_refl _, _, rfl, fun c hc => by rw [e_w1 _ _ _ hc], by rw [e_w1s, e_uT rfl], fun x' hx' => by rw [e_w1s, e_uF hx', if_neg (by omega), e84]⟩
        · rintro rec k x hk ⟨hik, M1, rfl, o1, o2, o3⟩ hrec
          have el := elo M1 o2
          dsimp only
          rw [el, e_sq, nn_leF (by omega)]
          refine ok_sq (P := fun M' => (∀ c, c ≠ 84 → M'.1 c = Ma.1 c) ∧ M'.1 84 (64 + e) = nI (n - 1) ∧ ∀ x', x' ≠ 64 + e → M'.1 84 x' = if 70 + 60 * e + 6 * i ≤ x' ∧ x' < 70 + 60 * e + 6 * (k + 1) then M.1 84 (x' + 6) else M.1 84 x') ?_ ?_
          · refine ok_up 6 (fun w x => ∃ M', x = (nI w, M') ∧ (∀ c, c ≠ 84 → M'.1 c = Ma.1 c) ∧ M'.1 84 (64 + e) = nI (n - 1) ∧ ∀ x', x' ≠ 64 + e → M'.1 84 x' = if 70 + 60 * e + 6 * i ≤ x' ∧ x' < 70 + 60 * e + 6 * k + w then M.1 84 (x' + 6) else M.1 84 x') ?_ ?_ zFu 0 _ (by omega) (by unfold zFu; omega) ⟨M1, rfl, o1, o2, fun x' hx' => o3 x' hx'⟩
            · rintro rec2 w x hw ⟨M2, rfl, s1, s2, s3⟩ hrec2
              have b1 := s3 (70 + 60 * e + 6 * (k + 1) + w) (by omega)
              rw [if_neg (by omega)] at b1
              have hits : fX11_its (nI e) (nI (k + 1)) (nI w) M2 = some (M.1 84 (70 + 60 * e + 6 * (k + 1) + w)) := by
                unfold fX11_its
                simp (disch := omega) only [e_lt, e_ltn, e_jn, e_sq, e_bi, l_0, l_1, l_2, l_3, l_4, l_5, l_6, l_7, l_8, l_9, l_10, l_11, l_12, l_13, l_14, l_15, l_16, l_17, l_18, l_19, l_20, l_21, l_22, l_23, l_24, l_25, l_26, l_27, l_28, l_29, l_30, l_31, l_32, l_33, l_34, l_35, l_36, l_37, l_38, l_39, l_40, l_41, l_48, l_50, l_56, l_57, l_59, l_60, l_63, l_64, l_70, l_97, l_99, l_122, l_128, l_190, l_220, l_255, l_320, l_500, l_999, l_1024, l_83520, l_100000, l_1000000, L_0, L_1, L_2, L_3, L_4, L_6, L_7, L_9, L_10, L_11, L_13, L_16, L_32, L_48, L_50, L_57, L_97, L_99, L_122, L_999, L_83520, L_4294967295, L_25937424601, L_1152921504606846976, ↓m_1000020, ↓m_1000012, ↓m_1000010, ↓m_1000000, ↓m_10004, ↓m_10000, ↓m_1000, ↓m_999, ↓m_99, ↓m_30, ↓m_20, ↓m_14, ↓m_12, ↓m_11, ↓m_10, ↓m_8, ↓m_4, ↓m_3, ↓m_2, ↓m_1, ↓mL_999, ↓mL_99, ↓mL_1, n_add, n_mul, nj_add, jn_add, n_sub, n_subj, nj_sub, jn_sub, nj_mul, jn_mul, if_true, if_false, jI_add, jI_sub, jI_mul, jI_neg, jL_add, jL_sub, jL_mul, jL_neg, n_l, j_l, jL_i, e_gn, e_gj, e_znn, e_znj, nn_ltT, nn_ltF, nn_leT, nn_leF, nn_eqT, nn_eqF, nj_ltT, nj_ltF, nj_leT, nj_leF, nj_eqT, nj_eqF, jn_ltT, jn_ltF, jn_leT, jn_leF, jn_eqT, jn_eqF, jj_ltT, jj_ltF, jj_leT, jj_leF, jj_eqT, jj_eqF, LL_ltT, LL_ltF, LL_leT, LL_leF, LL_eqT, LL_eqF, e_w1, e_w1s, e_w2, e_x1, e_x2, e_x2s, e_a1, e_a1s, e_a2, e_uT, e_uF, e_vT, e_vF, e_ft, e_tf, e_zbt, e_zbf, n_or, n_31, n_shl, n_bit, n_not, n_bc, b1]
              have hset := r_set (M := M2) (e := e) (i := k) (w := w) (M.1 84 (70 + 60 * e + 6 * (k + 1) + w)) he (by omega) (by omega)
              dsimp only
              rw [l_6, nn_leF (by omega), l_1, n_add, n_add, hits, e_sq, hset, e_sq]
              refine hrec2 _ ⟨_, rfl, fun c hc => by rw [e_w1 _ _ _ hc]; exact s1 c hc, by rw [e_w1s, e_uF (by omega)]; exact s2, fun x' hx' => ?_⟩
              rw [e_w1s]
              by_cases z : x' = 70 + 60 * e + 6 * k + w
              · rw [e_uT z, if_pos (by omega), z]
                exact congrArg (M.1 84) (by omega)
              · rw [e_uF z, s3 x' hx']
                have : (70 + 60 * e + 6 * i ≤ x' ∧ x' < 70 + 60 * e + 6 * k + (w + 1)) ↔ (70 + 60 * e + 6 * i ≤ x' ∧ x' < 70 + 60 * e + 6 * k + w) := by omega
                simp only [this]
            · rintro rec2 x ⟨M2, rfl, s1, s2, s3⟩
              dsimp only
              rw [l_6, nn_leT (by omega)]
              exact ok_some ⟨s1, s2, s3⟩
          · rintro M2 ⟨s1, s2, s3⟩
            rw [l_1, n_add]
            exact hrec _ ⟨by omega, M2, rfl, s1, s2, s3⟩
        · rintro rec x ⟨_, M1, rfl, o1, o2, o3⟩
          have el := elo M1 o2
          dsimp only
          rw [el, e_sq, nn_leT (by omega)]
          exact ok_some ⟨o1, o2, o3⟩
      · rintro M1 ⟨o1, o2, o3⟩
        rw [elo M1 o2, e_sq]
        exact ok_some ⟨rfl, o1, o2, o3⟩
    obtain ⟨⟨x, Mb⟩, d1, d2, d3, d4, d5⟩ := hrun
    dsimp only at d2 d3 d4 d5
    refine ⟨nI (n - 1), Ma, Mb, ?_, ?_, ?_⟩
    · rw [e1, e3, e_lt, if_neg (by decide), e_lt, hrm, e_sq, hm0]
    · rw [e2 Ma r2a, e_sq, if_neg (by decide)]
      have e64 : (64 : Int32) + nI e = nI (64 + e) := by rw [l_64, n_add]
      have esub : Ma.1 84 (64 + e) - (1 : Int32) = nI (n - 1) := by rw [a64, l_1, n_sub (by omega)]
      rw [e64, e_lt, e_gn (by omega), e_gn (by omega), e_znn (by omega), esub, e_lt, d1, d2]
    · obtain ⟨S', q1, q2, q3⟩ : ∃ S' : Nat → Nat, S' (64 + e) = n - 1 ∧ (∀ x, 70 + 60 * e + 6 * i ≤ x → x < 70 + 60 * e + 6 * (n - 1) → S' x = S (x + 6)) ∧ ∀ x, x ≠ 64 + e → ¬ (70 + 60 * e + 6 * i ≤ x ∧ x < 70 + 60 * e + 6 * (n - 1)) → S' x = S x := by
        refine ⟨fun x => if x = 64 + e then n - 1 else if 70 + 60 * e + 6 * i ≤ x ∧ x < 70 + 60 * e + 6 * (n - 1) then S (x + 6) else S x, ?_, fun x w1 w2 => ?_, fun x w1 w2 => ?_⟩
        · (try dsimp only); rw [if_pos rfl]
        · (try dsimp only); rw [if_neg (by omega), if_pos ⟨w1, w2⟩]
        · (try dsimp only); rw [if_neg w1, if_neg w2]
      have hend : ∀ e', e' < 2 → cL Mb (2 + 4 * e') e' S' := fun e' he' => by
        obtain ⟨b1', b2'⟩ := cR_L h1 he'
        have hS10' : S (64 + e') ≤ 10 := by
          rcases (show e' = 0 ∨ e' = 1 by omega) with rfl | rfl
          · exact v1.1
          · exact v1.2
        by_cases ee : e' = e
        · subst ee
          refine ⟨by rw [q1, d3 _ (by omega)]; exact hm0, fun i' hi' => ?_⟩
          rw [q1] at hi'
          rw [d3 _ (by omega), d3 _ (by omega), d3 _ (by omega), hm1, hm2]
          by_cases z : i ≤ i'
          · rw [if_pos (by omega), if_pos (by omega)]
            obtain ⟨c1, c2, c3⟩ := hcl (i' + 1) (by omega)
            refine ⟨?_, ?_, fun p hp => ?_⟩
            · rw [q2 _ (by omega) (by omega)]; exact c1
            · rw [q2 _ (by omega) (by omega)]; exact c2
            · rw [q2 _ (by omega) (by omega), hm3, if_pos (by omega)]
              have := c3 p hp
              rw [show i' * 4 + p + 4 = (i' + 1) * 4 + p by omega, this]
              exact congrArg (fun x => nI (S x)) (by omega)
          · rw [if_neg (by omega), if_neg (by omega)]
            obtain ⟨c1, c2, c3⟩ := hcl i' (by omega)
            refine ⟨?_, ?_, fun p hp => ?_⟩
            · rw [q3 _ (by omega) (by omega)]; exact c1
            · rw [q3 _ (by omega) (by omega)]; exact c2
            · rw [q3 _ (by omega) (by omega), hm3, if_neg (by omega)]; exact c3 p hp
        · refine ⟨?_, fun i' hi' => ?_⟩
          · rw [q3 _ (by omega) (by omega), d3 _ (by omega), hca _ (by omega) (by omega) (by omega) (by omega)]; exact b1'
          · rw [q3 _ (by omega) (by omega)] at hi'
            obtain ⟨c1, c2, c3⟩ := b2' i' hi'
            refine ⟨?_, ?_, fun p hp => ?_⟩
            · rw [q3 _ (by omega) (by omega), d3 _ (by omega), hca _ (by omega) (by omega) (by omega) (by omega)]; exact c1
            · rw [q3 _ (by omega) (by omega), d3 _ (by omega), hca _ (by omega) (by omega) (by omega) (by omega)]; exact c2
            · rw [q3 _ (by omega) (by omega), d3 _ (by omega), hca _ (by omega) (by omega) (by omega) (by omega)]; exact c3 p hp
      refine RR_sc h (fun c w => by rw [d3 c (by omega), hca c (by omega) (by omega) (by omega) (by omega)]) (fun x hx => by rw [d5 x (by omega), if_neg (by omega)]) (fun x hx => by rw [d3 81 (by omega), hca 81 (by omega) (by omega) (by omega) (by omega)]) ⟨ρ, S', sc_lines hsc (hend 0 (by omega)) (hend 1 (by omega)) (fun c w1 w2 => by rw [d3 c (by omega), hca c (by omega) (by omega) (by omega) (by omega)]) (by rw [d3 81 (by omega), hca 81 (by omega) (by omega) (by omega) (by omega)]) (fun x hx => ?_) (fun x hx => q3 x (by omega) (by omega)) ?_ (fun e' i' he' hi' => ?_)⟩
      · by_cases w1 : x = 64 + e
        · rw [w1, q1]; exact d4
        · rw [d5 x w1]
          by_cases w2 : 70 + 60 * e + 6 * i ≤ x ∧ x < 70 + 60 * e + 6 * (n - 1)
          · rw [if_pos w2, q2 x w2.1 w2.2]
            exact rR_s h2 (by omega)
          · rw [if_neg w2, q3 x w1 w2]
            exact rR_s h2 hx
      · rcases (show e = 0 ∨ e = 1 by omega) with rfl | rfl
        · refine ⟨by have : S' 64 = n - 1 := q1; omega, ?_⟩
          rw [q3 65 (by omega) (by omega)]; exact v1.2
        · refine ⟨?_, by have : S' 65 = n - 1 := q1; omega⟩
          rw [q3 64 (by omega) (by omega)]; exact v1.1
      · by_cases ee : e' = e
        · subst ee
          rw [q1] at hi'
          by_cases z : i ≤ i'
          · obtain ⟨c1, c2, c3⟩ := hV.2.1 e' (i' + 1) he' (by omega)
            exact ⟨by rw [q2 _ (by omega) (by omega)]; exact c1, by rw [q2 _ (by omega) (by omega)]; exact c2, fun p hp => by rw [q2 _ (by omega) (by omega), show 70 + 60 * e' + 6 * i' + (p + 1) + 6 = 70 + 60 * e' + 6 * (i' + 1) + (p + 1) by omega]; exact c3 p hp⟩
          · obtain ⟨c1, c2, c3⟩ := hV.2.1 e' i' he' (by omega)
            exact ⟨by rw [q3 _ (by omega) (by omega)]; exact c1, by rw [q3 _ (by omega) (by omega)]; exact c2, fun p hp => by rw [q3 _ (by omega) (by omega)]; exact c3 p hp⟩
        · rw [q3 _ (by omega) (by omega)] at hi'
          have hS10' : S (64 + e') ≤ 10 := by
            rcases (show e' = 0 ∨ e' = 1 by omega) with rfl | rfl
            · exact v1.1
            · exact v1.2
          obtain ⟨c1, c2, c3⟩ := hV.2.1 e' i' he' hi'
          exact ⟨by rw [q3 _ (by omega) (by omega)]; exact c1, by rw [q3 _ (by omega) (by omega)]; exact c2, fun p hp => by rw [q3 _ (by omega) (by omega)]; exact c3 p hp⟩
  · refine ⟨jI (-1), M, M, ?_, ?_, h⟩
    · rw [e1]; rfl
    · rw [e2 M h2]; rfl
