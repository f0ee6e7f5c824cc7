theorem ok_fr {σ : Type} {r : Option σ} {Q : σ → Prop} {π : σ → zM} {S : List Nat} {M : zM} (h : ok r Q) (hf : zof r π S M) : ok r (fun x => Q x ∧ zfr S M (π x)) := let ⟨x, e, q⟩ := h; ⟨x, e, q, hf x e⟩
/-- weights in their cells -/
def wR (M : zM) (W : Nat → Nat → Int) : Prop := ∀ i j, i < 10 → j < 10 → M.2 60 (i * 10 + j) = jL (W i j)
theorem c_settle {M : zM} {n m : Nat} {W : Nat → Nat → Int} (hn : n ≤ 10) (hm : m ≤ 10) (hW : ∀ i j, -zBB ≤ W i j ∧ W i j ≤ 0) (hz : ∀ i j, m ≤ j → W i j = 0) (hw : wR M W) :
    ok (fX3_settle (nI n) (nI m) M) (fun x => ∃ val p, x.1 = jL val ∧ (∀ q, vP n m q → val ≤ wS W n q) ∧ vP n m p ∧ wS W n p = val ∧ (∀ i, i < n → p i ≠ 10 → W i (p i) < 0) ∧ (∀ i j, i < n → j < m → (p i = j ↔ x.2.1 64 (j + 1) = nI (i + 1) ∧ W i j < 0)) ∧ wR x.2 W) := by
  have hmx : ∃ C, zmx (nI n) (nI m) = nI C ∧ n ≤ C ∧ m ≤ C ∧ C ≤ 10 := by
    unfold zmx
    by_cases e : n < m
    · exact ⟨m, by simp (disch := omega) only [e_lt, e_ltn, e_jn, e_sq, e_bi, l_0, l_1, l_2, l_3, l_4, l_5, l_6, l_7, l_8, l_9, l_10, l_11, l_12, l_13, l_14, l_15, l_16, l_17, l_18, l_19, l_20, l_21, l_22, l_23, l_24, l_25, l_26, l_27, l_28, l_29, l_30, l_31, l_32, l_33, l_34, l_35, l_36, l_37, l_38, l_39, l_40, l_41, l_48, l_50, l_56, l_57, l_59, l_60, l_63, l_64, l_70, l_97, l_99, l_122, l_128, l_190, l_220, l_255, l_320, l_500, l_999, l_1024, l_83520, l_100000, l_1000000, L_0, L_1, L_2, L_3, L_4, L_6, L_7, L_9, L_10, L_11, L_13, L_16, L_32, L_48, L_50, L_57, L_97, L_99, L_122, L_999, L_83520, L_4294967295, L_25937424601, L_1152921504606846976, ↓m_1000020, ↓m_1000012, ↓m_1000010, ↓m_1000000, ↓m_10004, ↓m_10000, ↓m_1000, ↓m_999, ↓m_99, ↓m_30, ↓m_20, ↓m_14, ↓m_12, ↓m_11, ↓m_10, ↓m_8, ↓m_4, ↓m_3, ↓m_2, ↓m_1, ↓mL_999, ↓mL_99, ↓mL_1, n_add, n_mul, nj_add, jn_add, n_sub, n_subj, nj_sub, jn_sub, nj_mul, jn_mul, jI_add, jI_sub, jI_mul, jI_neg, jL_add, jL_sub, jL_mul, jL_neg, n_l, j_l, jL_i, e_gn, e_gj, e_znn, e_znj, nn_ltT, nn_ltF, nn_leT, nn_leF, nn_eqT, nn_eqF, nj_ltT, nj_ltF, nj_leT, nj_leF, nj_eqT, nj_eqF, jn_ltT, jn_ltF, jn_leT, jn_leF, jn_eqT, jn_eqF, jj_ltT, jj_ltF, jj_leT, jj_leF, jj_eqT, jj_eqF, LL_ltT, LL_ltF, LL_leT, LL_leF, LL_eqT, LL_eqF, e_w1, e_w1s, e_w2, e_x1, e_x2, e_x2s, e_a1, e_a1s, e_a2, e_uT, e_uF, e_vT, e_vF, e_ft, e_tf, e_zbt, e_zbf, n_or, n_31, n_shl, n_bit, n_not, n_bc], by omega, by omega, hm⟩
    · exact ⟨n, by simp (disch := omega) only [e_lt, e_ltn, e_jn, e_sq, e_bi, l_0, l_1, l_2, l_3, l_4, l_5, l_6, l_7, l_8, l_9, l_10, l_11, l_12, l_13, l_14, l_15, l_16, l_17, l_18, l_19, l_20, l_21, l_22, l_23, l_24, l_25, l_26, l_27, l_28, l_29, l_30, l_31, l_32, l_33, l_34, l_35, l_36, l_37, l_38, l_39, l_40, l_41, l_48, l_50, l_56, l_57, l_59, l_60, l_63, l_64, l_70, l_97, l_99, l_122, l_128, l_190, l_220, l_255, l_320, l_500, l_999, l_1024, l_83520, l_100000, l_1000000, L_0, L_1, L_2, L_3, L_4, L_6, L_7, L_9, L_10, L_11, L_13, L_16, L_32, L_48, L_50, L_57, L_97, L_99, L_122, L_999, L_83520, L_4294967295, L_25937424601, L_1152921504606846976, ↓m_1000020, ↓m_1000012, ↓m_1000010, ↓m_1000000, ↓m_10004, ↓m_10000, ↓m_1000, ↓m_999, ↓m_99, ↓m_30, ↓m_20, ↓m_14, ↓m_12, ↓m_11, ↓m_10, ↓m_8, ↓m_4, ↓m_3, ↓m_2, ↓m_1, ↓mL_999, ↓mL_99, ↓mL_1, n_add, n_mul, nj_add, jn_add, n_sub, n_subj, nj_sub, jn_sub, nj_mul, jn_mul, jI_add, jI_sub, jI_mul, jI_neg, jL_add, jL_sub, jL_mul, jL_neg, n_l, j_l, jL_i, e_gn, e_gj, e_znn, e_znj, nn_ltT, nn_ltF, nn_leT, nn_leF, nn_eqT, nn_eqF, nj_ltT, nj_ltF, nj_leT, nj_leF, nj_eqT, nj_eqF, jn_ltT, jn_ltF, jn_leT, jn_leF, jn_eqT, jn_eqF, jj_ltT, jj_ltF, jj_leT, jj_leF, jj_eqT, jj_eqF, LL_ltT, LL_ltF, LL_leT, LL_leF, LL_eqT, LL_eqF, e_w1, e_w1s, e_w2, e_x1, e_x2, e_x2s, e_a1, e_a1s, e_a2, e_uT, e_uF, e_vT, e_vF, e_ft, e_tf, e_zbt, e_zbf, n_or, n_31, n_shl, n_bit, n_not, n_bc], by omega, by omega, hn⟩
  obtain ⟨C, eC, hnC, hmC, hC⟩ := hmx
  unfold fX3_settle
  rw [eC, e_lt]
  rw [pfillL _ _ _ _ (by decide), e_sq, pfillL _ _ _ _ (by decide), e_sq, pfill _ _ _ _ (by decide), e_sq]
  have h0 : ∃ z re bf, mR (zwA (zwB (zwB (zwI M 59 0 (nI C)) 61 (zgl ((zwI M 59 0 (nI C)).2 61) 11 0)) 62 (zgl ((zwB (zwI M 59 0 (nI C)) 61 (zgl ((zwI M 59 0 (nI C)).2 61) 11 0)).2 62) 11 0)) 64 (zfl ((zwB (zwB (zwI M 59 0 (nI C)) 61 (zgl ((zwI M 59 0 (nI C)).2 61) 11 0)) 62 (zgl ((zwB (zwI M 59 0 (nI C)) 61 (zgl ((zwI M 59 0 (nI C)).2 61) 11 0)).2 62) 11 0)).1 64) 11 0)) C z W (fun _ => 0) (fun _ => 0) (fun _ => 0) re bf := by
    obtain ⟨z, hz1⟩ := n_of (M.1 59 1)
    obtain ⟨re, hre⟩ := Classical.axiomOfChoice (fun c => jL_of (M.2 63 c))
    obtain ⟨bf, hbf⟩ := Classical.axiomOfChoice (fun c => n_of (M.1 65 c))
    refine ⟨z, re, bf, ?_, ?_, fun i j hi hj => ?_, fun r hr => ?_, fun c hc => ?_, fun c hc => ?_, fun c hc => ?_, fun c hc => ?_⟩
    · rw [e_a1 _ _ (by omega), e_b1, e_b1]; simp (disch := omega) only [e_lt, e_ltn, e_jn, e_sq, e_bi, l_0, l_1, l_2, l_3, l_4, l_5, l_6, l_7, l_8, l_9, l_10, l_11, l_12, l_13, l_14, l_15, l_16, l_17, l_18, l_19, l_20, l_21, l_22, l_23, l_24, l_25, l_26, l_27, l_28, l_29, l_30, l_31, l_32, l_33, l_34, l_35, l_36, l_37, l_38, l_39, l_40, l_41, l_48, l_50, l_56, l_57, l_59, l_60, l_63, l_64, l_70, l_97, l_99, l_122, l_128, l_190, l_220, l_255, l_320, l_500, l_999, l_1024, l_83520, l_100000, l_1000000, L_0, L_1, L_2, L_3, L_4, L_6, L_7, L_9, L_10, L_11, L_13, L_16, L_32, L_48, L_50, L_57, L_97, L_99, L_122, L_999, L_83520, L_4294967295, L_25937424601, L_1152921504606846976, ↓m_1000020, ↓m_1000012, ↓m_1000010, ↓m_1000000, ↓m_10004, ↓m_10000, ↓m_1000, ↓m_999, ↓m_99, ↓m_30, ↓m_20, ↓m_14, ↓m_12, ↓m_11, ↓m_10, ↓m_8, ↓m_4, ↓m_3, ↓m_2, ↓m_1, ↓mL_999, ↓mL_99, ↓mL_1, n_add, n_mul, nj_add, jn_add, n_sub, n_subj, nj_sub, jn_sub, nj_mul, jn_mul, jI_add, jI_sub, jI_mul, jI_neg, jL_add, jL_sub, jL_mul, jL_neg, n_l, j_l, jL_i, e_gn, e_gj, e_znn, e_znj, nn_ltT, nn_ltF, nn_leT, nn_leF, nn_eqT, nn_eqF, nj_ltT, nj_ltF, nj_leT, nj_leF, nj_eqT, nj_eqF, jn_ltT, jn_ltF, jn_leT, jn_leF, jn_eqT, jn_eqF, jj_ltT, jj_ltF, jj_leT, jj_leF, jj_eqT, jj_eqF, LL_ltT, LL_ltF, LL_leT, LL_leF, LL_eqT, LL_eqF, e_w1, e_w1s, e_w2, e_x1, e_x2, e_x2s, e_a1, e_a1s, e_a2, e_uT, e_uF, e_vT, e_vF, e_ft, e_tf, e_zbt, e_zbf, n_or, n_31, n_shl, n_bit, n_not, n_bc]
    · rw [e_a1 _ _ (by omega), e_b1, e_b1]; simp (disch := omega) only [e_lt, e_ltn, e_jn, e_sq, e_bi, l_0, l_1, l_2, l_3, l_4, l_5, l_6, l_7, l_8, l_9, l_10, l_11, l_12, l_13, l_14, l_15, l_16, l_17, l_18, l_19, l_20, l_21, l_22, l_23, l_24, l_25, l_26, l_27, l_28, l_29, l_30, l_31, l_32, l_33, l_34, l_35, l_36, l_37, l_38, l_39, l_40, l_41, l_48, l_50, l_56, l_57, l_59, l_60, l_63, l_64, l_70, l_97, l_99, l_122, l_128, l_190, l_220, l_255, l_320, l_500, l_999, l_1024, l_83520, l_100000, l_1000000, L_0, L_1, L_2, L_3, L_4, L_6, L_7, L_9, L_10, L_11, L_13, L_16, L_32, L_48, L_50, L_57, L_97, L_99, L_122, L_999, L_83520, L_4294967295, L_25937424601, L_1152921504606846976, ↓m_1000020, ↓m_1000012, ↓m_1000010, ↓m_1000000, ↓m_10004, ↓m_10000, ↓m_1000, ↓m_999, ↓m_99, ↓m_30, ↓m_20, ↓m_14, ↓m_12, ↓m_11, ↓m_10, ↓m_8, ↓m_4, ↓m_3, ↓m_2, ↓m_1, ↓mL_999, ↓mL_99, ↓mL_1, n_add, n_mul, nj_add, jn_add, n_sub, n_subj, nj_sub, jn_sub, nj_mul, jn_mul, jI_add, jI_sub, jI_mul, jI_neg, jL_add, jL_sub, jL_mul, jL_neg, n_l, j_l, jL_i, e_gn, e_gj, e_znn, e_znj, nn_ltT, nn_ltF, nn_leT, nn_leF, nn_eqT, nn_eqF, nj_ltT, nj_ltF, nj_leT, nj_leF, nj_eqT, nj_eqF, jn_ltT, jn_ltF, jn_leT, jn_leF, jn_eqT, jn_eqF, jj_ltT, jj_ltF, jj_leT, jj_leF, jj_eqT, jj_eqF, LL_ltT, LL_ltF, LL_leT, LL_leF, LL_eqT, LL_eqF, e_w1, e_w1s, e_w2, e_x1, e_x2, e_x2s, e_a1, e_a1s, e_a2, e_uT, e_uF, e_vT, e_vF, e_ft, e_tf, e_zbt, e_zbf, n_or, n_31, n_shl, n_bit, n_not, n_bc]; exact hz1
    · rw [e_a2, e_b2 _ _ (by omega), e_b2 _ _ (by omega), e_w2]; exact hw i j hi hj
    · rw [e_a2, e_b2 _ _ (by omega), e_b2s]; unfold zgl; rw [if_pos hr]; rfl
    · rw [e_a2, e_b2s]; unfold zgl; rw [if_pos hc]; rfl
    · rw [e_a2, e_b2 _ _ (by omega), e_b2 _ _ (by omega), e_w2]; exact (hre c).2
    · rw [e_a1s]; unfold zfl; rw [if_pos hc]; rfl
    · rw [e_a1 _ _ (by omega), e_b1, e_b1, e_w1 _ _ _ (by omega)]; exact hbf c
  obtain ⟨z, re, bf, h0⟩ := h0
  generalize zwA (zwB (zwB (zwI M 59 0 (nI C)) 61 (zgl ((zwI M 59 0 (nI C)).2 61) 11 0)) 62 (zgl ((zwB (zwI M 59 0 (nI C)) 61 (zgl ((zwI M 59 0 (nI C)).2 61) 11 0)).2 62) 11 0)) 64 (zfl ((zwB (zwB (zwI M 59 0 (nI C)) 61 (zgl ((zwI M 59 0 (nI C)).2 61) 11 0)) 62 (zgl ((zwB (zwI M 59 0 (nI C)) 61 (zgl ((zwI M 59 0 (nI C)).2 61) 11 0)).2 62) 11 0)).1 64) 11 0) = M4 at h0 ⊢
  refine ok_sq (P := fun M' => ∃ z y u v re bf, mR M' C z W y u v re bf ∧ HB C n W y u v) ?_ ?_
  · refine ok_up (n + 1) (fun i x => 1 ≤ i ∧ ∃ M' z y u v re bf, x = (nI i, M') ∧ mR M' C z W y u v re bf ∧ HB C (i - 1) W y u v) ?_ ?_ zFu 1 _ (by omega) (by unfold zFu; omega) ⟨by omega, M4, z, _, _, _, re, bf, rfl, h0, HB_begin C W⟩
    · rintro rec k x hk ⟨hk1, M', z, y, u, v, re, bf, rfl, hM, hB⟩ hrec
      obtain ⟨k, rfl⟩ : ∃ k', k = k' + 1 := ⟨k - 1, by omega⟩
      rw [Nat.add_sub_cancel] at hB
      simp (disch := omega) only [e_lt, e_ltn, e_jn, e_sq, e_bi, l_0, l_1, l_2, l_3, l_4, l_5, l_6, l_7, l_8, l_9, l_10, l_11, l_12, l_13, l_14, l_15, l_16, l_17, l_18, l_19, l_20, l_21, l_22, l_23, l_24, l_25, l_26, l_27, l_28, l_29, l_30, l_31, l_32, l_33, l_34, l_35, l_36, l_37, l_38, l_39, l_40, l_41, l_48, l_50, l_56, l_57, l_59, l_60, l_63, l_64, l_70, l_97, l_99, l_122, l_128, l_190, l_220, l_255, l_320, l_500, l_999, l_1024, l_83520, l_100000, l_1000000, L_0, L_1, L_2, L_3, L_4, L_6, L_7, L_9, L_10, L_11, L_13, L_16, L_32, L_48, L_50, L_57, L_97, L_99, L_122, L_999, L_83520, L_4294967295, L_25937424601, L_1152921504606846976, ↓m_1000020, ↓m_1000012, ↓m_1000010, ↓m_1000000, ↓m_10004, ↓m_10000, ↓m_1000, ↓m_999, ↓m_99, ↓m_30, ↓m_20, ↓m_14, ↓m_12, ↓m_11, ↓m_10, ↓m_8, ↓m_4, ↓m_3, ↓m_2, ↓m_1, ↓mL_999, ↓mL_99, ↓mL_1, n_add, n_mul, nj_add, jn_add, n_sub, n_subj, nj_sub, jn_sub, nj_mul, jn_mul, jI_add, jI_sub, jI_mul, jI_neg, jL_add, jL_sub, jL_mul, jL_neg, n_l, j_l, jL_i, e_gn, e_gj, e_znn, e_znj, nn_ltT, nn_ltF, nn_leT, nn_leF, nn_eqT, nn_eqF, nj_ltT, nj_ltF, nj_leT, nj_leF, nj_eqT, nj_eqF, jn_ltT, jn_ltF, jn_leT, jn_leF, jn_eqT, jn_eqF, jj_ltT, jj_ltF, jj_leT, jj_leF, jj_eqT, jj_eqF, LL_ltT, LL_ltF, LL_leT, LL_leF, LL_eqT, LL_eqF, e_w1, e_w1s, e_w2, e_x1, e_x2, e_x2s, e_a1, e_a1s, e_a2, e_uT, e_uF, e_vT, e_vF, e_ft, e_tf, e_zbt, e_zbf, n_or, n_31, n_shl, n_bit, n_not, n_bc]
      refine ok_sq (c_seat hM hC (by omega) hW hB) (fun M5 h5 => ?_)
      obtain ⟨z', y', u', v', re', bf', h6, h7⟩ := h5
      exact hrec _ ⟨by omega, M5, z', y', u', v', re', bf', rfl, h6, h7⟩
    · rintro rec x ⟨_, M', z, y, u, v, re, bf, rfl, hM, hB⟩
      simp (disch := omega) only [e_lt, e_ltn, e_jn, e_sq, e_bi, l_0, l_1, l_2, l_3, l_4, l_5, l_6, l_7, l_8, l_9, l_10, l_11, l_12, l_13, l_14, l_15, l_16, l_17, l_18, l_19, l_20, l_21, l_22, l_23, l_24, l_25, l_26, l_27, l_28, l_29, l_30, l_31, l_32, l_33, l_34, l_35, l_36, l_37, l_38, l_39, l_40, l_41, l_48, l_50, l_56, l_57, l_59, l_60, l_63, l_64, l_70, l_97, l_99, l_122, l_128, l_190, l_220, l_255, l_320, l_500, l_999, l_1024, l_83520, l_100000, l_1000000, L_0, L_1, L_2, L_3, L_4, L_6, L_7, L_9, L_10, L_11, L_13, L_16, L_32, L_48, L_50, L_57, L_97, L_99, L_122, L_999, L_83520, L_4294967295, L_25937424601, L_1152921504606846976, ↓m_1000020, ↓m_1000012, ↓m_1000010, ↓m_1000000, ↓m_10004, ↓m_10000, ↓m_1000, ↓m_999, ↓m_99, ↓m_30, ↓m_20, ↓m_14, ↓m_12, ↓m_11, ↓m_10, ↓m_8, ↓m_4, ↓m_3, ↓m_2, ↓m_1, ↓mL_999, ↓mL_99, ↓mL_1, n_add, n_mul, nj_add, jn_add, n_sub, n_subj, nj_sub, jn_sub, nj_mul, jn_mul, jI_add, jI_sub, jI_mul, jI_neg, jL_add, jL_sub, jL_mul, jL_neg, n_l, j_l, jL_i, e_gn, e_gj, e_znn, e_znj, nn_ltT, nn_ltF, nn_leT, nn_leF, nn_eqT, nn_eqF, nj_ltT, nj_ltF, nj_leT, nj_leF, nj_eqT, nj_eqF, jn_ltT, jn_ltF, jn_leT, jn_leF, jn_eqT, jn_eqF, jj_ltT, jj_ltF, jj_leT, jj_leF, jj_eqT, jj_eqF, LL_ltT, LL_ltF, LL_leT, LL_leF, LL_eqT, LL_eqF, e_w1, e_w1s, e_w2, e_x1, e_x2, e_x2s, e_a1, e_a1s, e_a2, e_uT, e_uF, e_vT, e_vF, e_ft, e_tf, e_zbt, e_zbf, n_or, n_31, n_shl, n_bit, n_not, n_bc]
      exact ok_some ⟨z, y, u, v, re, bf, hM, hB⟩
  · rintro M5 ⟨z, y, u, v, re, bf, hM, hB⟩
    obtain ⟨a1, a2, a3, a4, a5, a6, a7, a8⟩ := id hM
    refine ok_up (C + 1) (fun i x => 1 ≤ i ∧ x = (jL (sm (fun c => if y (c + 1) = 0 then 0 else W (y (c + 1) - 1) c) (i - 1)), nI i)) ?_ ?_ zFu 1 _ (by omega) (by unfold zFu; omega) ⟨by omega, rfl⟩
    · rintro rec k x hk ⟨hk1, rfl⟩ hrec
      obtain ⟨k, rfl⟩ : ∃ k', k = k' + 1 := ⟨k - 1, by omega⟩
      have b7 := a7 (k + 1) (by omega)
      have hy := hB.1.1 (k + 1) (by omega) (by omega)
      rw [Nat.add_sub_cancel]
      simp (disch := omega) only [e_lt, e_ltn, e_jn, e_sq, e_bi, l_0, l_1, l_2, l_3, l_4, l_5, l_6, l_7, l_8, l_9, l_10, l_11, l_12, l_13, l_14, l_15, l_16, l_17, l_18, l_19, l_20, l_21, l_22, l_23, l_24, l_25, l_26, l_27, l_28, l_29, l_30, l_31, l_32, l_33, l_34, l_35, l_36, l_37, l_38, l_39, l_40, l_41, l_48, l_50, l_56, l_57, l_59, l_60, l_63, l_64, l_70, l_97, l_99, l_122, l_128, l_190, l_220, l_255, l_320, l_500, l_999, l_1024, l_83520, l_100000, l_1000000, L_0, L_1, L_2, L_3, L_4, L_6, L_7, L_9, L_10, L_11, L_13, L_16, L_32, L_48, L_50, L_57, L_97, L_99, L_122, L_999, L_83520, L_4294967295, L_25937424601, L_1152921504606846976, ↓m_1000020, ↓m_1000012, ↓m_1000010, ↓m_1000000, ↓m_10004, ↓m_10000, ↓m_1000, ↓m_999, ↓m_99, ↓m_30, ↓m_20, ↓m_14, ↓m_12, ↓m_11, ↓m_10, ↓m_8, ↓m_4, ↓m_3, ↓m_2, ↓m_1, ↓mL_999, ↓mL_99, ↓mL_1, n_add, n_mul, nj_add, jn_add, n_sub, n_subj, nj_sub, jn_sub, nj_mul, jn_mul, jI_add, jI_sub, jI_mul, jI_neg, jL_add, jL_sub, jL_mul, jL_neg, n_l, j_l, jL_i, e_gn, e_gj, e_znn, e_znj, nn_ltT, nn_ltF, nn_leT, nn_leF, nn_eqT, nn_eqF, nj_ltT, nj_ltF, nj_leT, nj_leF, nj_eqT, nj_eqF, jn_ltT, jn_ltF, jn_leT, jn_leF, jn_eqT, jn_eqF, jj_ltT, jj_ltF, jj_leT, jj_leF, jj_eqT, jj_eqF, LL_ltT, LL_ltF, LL_leT, LL_leF, LL_eqT, LL_eqF, e_w1, e_w1s, e_w2, e_x1, e_x2, e_x2s, e_a1, e_a1s, e_a2, e_uT, e_uF, e_vT, e_vF, e_ft, e_tf, e_zbt, e_zbf, n_or, n_31, n_shl, n_bit, n_not, n_bc, a1, b7]
      by_cases e : y (k + 1) = 0
      · simp (disch := omega) only [e_lt, e_ltn, e_jn, e_sq, e_bi, l_0, l_1, l_2, l_3, l_4, l_5, l_6, l_7, l_8, l_9, l_10, l_11, l_12, l_13, l_14, l_15, l_16, l_17, l_18, l_19, l_20, l_21, l_22, l_23, l_24, l_25, l_26, l_27, l_28, l_29, l_30, l_31, l_32, l_33, l_34, l_35, l_36, l_37, l_38, l_39, l_40, l_41, l_48, l_50, l_56, l_57, l_59, l_60, l_63, l_64, l_70, l_97, l_99, l_122, l_128, l_190, l_220, l_255, l_320, l_500, l_999, l_1024, l_83520, l_100000, l_1000000, L_0, L_1, L_2, L_3, L_4, L_6, L_7, L_9, L_10, L_11, L_13, L_16, L_32, L_48, L_50, L_57, L_97, L_99, L_122, L_999, L_83520, L_4294967295, L_25937424601, L_1152921504606846976, ↓m_1000020, ↓m_1000012, ↓m_1000010, ↓m_1000000, ↓m_10004, ↓m_10000, ↓m_1000, ↓m_999, ↓m_99, ↓m_30, ↓m_20, ↓m_14, ↓m_12, ↓m_11, ↓m_10, ↓m_8, ↓m_4, ↓m_3, ↓m_2, ↓m_1, ↓mL_999, ↓mL_99, ↓mL_1, n_add, n_mul, nj_add, jn_add, n_sub, n_subj, nj_sub, jn_sub, nj_mul, jn_mul, jI_add, jI_sub, jI_mul, jI_neg, jL_add, jL_sub, jL_mul, jL_neg, n_l, j_l, jL_i, e_gn, e_gj, e_znn, e_znj, nn_ltT, nn_ltF, nn_leT, nn_leF, nn_eqT, nn_eqF, nj_ltT, nj_ltF, nj_leT, nj_leF, nj_eqT, nj_eqF, jn_ltT, jn_ltF, jn_leT, jn_leF, jn_eqT, jn_eqF, jj_ltT, jj_ltF, jj_leT, jj_leF, jj_eqT, jj_eqF, LL_ltT, LL_ltF, LL_leT, LL_leF, LL_eqT, LL_eqF, e_w1, e_w1s, e_w2, e_x1, e_x2, e_x2s, e_a1, e_a1s, e_a2, e_uT, e_uF, e_vT, e_vF, e_ft, e_tf, e_zbt, e_zbf, n_or, n_31, n_shl, n_bit, n_not, n_bc]
        refine hrec _ ⟨by omega, ?_⟩
        rw [show k + 1 + 1 - 1 = k + 1 by omega, sm]
        rw [if_pos e]
      · have hw := mR_W hM (r := y (k + 1)) (c := k + 1) (k := (y (k + 1) - 1) * 10 + (k + 1) - 1) (by omega) (by omega) (by omega)
        simp (disch := omega) only [e_lt, e_ltn, e_jn, e_sq, e_bi, l_0, l_1, l_2, l_3, l_4, l_5, l_6, l_7, l_8, l_9, l_10, l_11, l_12, l_13, l_14, l_15, l_16, l_17, l_18, l_19, l_20, l_21, l_22, l_23, l_24, l_25, l_26, l_27, l_28, l_29, l_30, l_31, l_32, l_33, l_34, l_35, l_36, l_37, l_38, l_39, l_40, l_41, l_48, l_50, l_56, l_57, l_59, l_60, l_63, l_64, l_70, l_97, l_99, l_122, l_128, l_190, l_220, l_255, l_320, l_500, l_999, l_1024, l_83520, l_100000, l_1000000, L_0, L_1, L_2, L_3, L_4, L_6, L_7, L_9, L_10, L_11, L_13, L_16, L_32, L_48, L_50, L_57, L_97, L_99, L_122, L_999, L_83520, L_4294967295, L_25937424601, L_1152921504606846976, ↓m_1000020, ↓m_1000012, ↓m_1000010, ↓m_1000000, ↓m_10004, ↓m_10000, ↓m_1000, ↓m_999, ↓m_99, ↓m_30, ↓m_20, ↓m_14, ↓m_12, ↓m_11, ↓m_10, ↓m_8, ↓m_4, ↓m_3, ↓m_2, ↓m_1, ↓mL_999, ↓mL_99, ↓mL_1, n_add, n_mul, nj_add, jn_add, n_sub, n_subj, nj_sub, jn_sub, nj_mul, jn_mul, jI_add, jI_sub, jI_mul, jI_neg, jL_add, jL_sub, jL_mul, jL_neg, n_l, j_l, jL_i, e_gn, e_gj, e_znn, e_znj, nn_ltT, nn_ltF, nn_leT, nn_leF, nn_eqT, nn_eqF, nj_ltT, nj_ltF, nj_leT, nj_leF, nj_eqT, nj_eqF, jn_ltT, jn_ltF, jn_leT, jn_leF, jn_eqT, jn_eqF, jj_ltT, jj_ltF, jj_leT, jj_leF, jj_eqT, jj_eqF, LL_ltT, LL_ltF, LL_leT, LL_leF, LL_eqT, LL_eqF, e_w1, e_w1s, e_w2, e_x1, e_x2, e_x2s, e_a1, e_a1s, e_a2, e_uT, e_uF, e_vT, e_vF, e_ft, e_tf, e_zbt, e_zbf, n_or, n_31, n_shl, n_bit, n_not, n_bc, hw]
        refine hrec _ ⟨by omega, ?_⟩
        rw [show k + 1 + 1 - 1 = k + 1 by omega, sm]
        rw [if_neg e]
        rfl
    · rintro rec x ⟨_, rfl⟩
      rw [Nat.add_sub_cancel]
      simp (disch := omega) only [e_lt, e_ltn, e_jn, e_sq, e_bi, l_0, l_1, l_2, l_3, l_4, l_5, l_6, l_7, l_8, l_9, l_10, l_11, l_12, l_13, l_14, l_15, l_16, l_17, l_18, l_19, l_20, l_21, l_22, l_23, l_24, l_25, l_26, l_27, l_28, l_29, l_30, l_31, l_32, l_33, l_34, l_35, l_36, l_37, l_38, l_39, l_40, l_41, l_48, l_50, l_56, l_57, l_59, l_60, l_63, l_64, l_70, l_97, l_99, l_122, l_128, l_190, l_220, l_255, l_320, l_500, l_999, l_1024, l_83520, l_100000, l_1000000, L_0, L_1, L_2, L_3, L_4, L_6, L_7, L_9, L_10, L_11, L_13, L_16, L_32, L_48, L_50, L_57, L_97, L_99, L_122, L_999, L_83520, L_4294967295, L_25937424601, L_1152921504606846976, ↓m_1000020, ↓m_1000012, ↓m_1000010, ↓m_1000000, ↓m_10004, ↓m_10000, ↓m_1000, ↓m_999, ↓m_99, ↓m_30, ↓m_20, ↓m_14, ↓m_12, ↓m_11, ↓m_10, ↓m_8, ↓m_4, ↓m_3, ↓m_2, ↓m_1, ↓mL_999, ↓mL_99, ↓mL_1, n_add, n_mul, nj_add, jn_add, n_sub, n_subj, nj_sub, jn_sub, nj_mul, jn_mul, jI_add, jI_sub, jI_mul, jI_neg, jL_add, jL_sub, jL_mul, jL_neg, n_l, j_l, jL_i, e_gn, e_gj, e_znn, e_znj, nn_ltT, nn_ltF, nn_leT, nn_leF, nn_eqT, nn_eqF, nj_ltT, nj_ltF, nj_leT, nj_leF, nj_eqT, nj_eqF, jn_ltT, jn_ltF, jn_leT, jn_leF, jn_eqT, jn_eqF, jj_ltT, jj_ltF, jj_leT, jj_leF, jj_eqT, jj_eqF, LL_ltT, LL_ltF, LL_leT, LL_leF, LL_eqT, LL_eqF, e_w1, e_w1s, e_w2, e_x1, e_x2, e_x2s, e_a1, e_a1s, e_a2, e_uT, e_uF, e_vT, e_vF, e_ft, e_tf, e_zbt, e_zbf, n_or, n_31, n_shl, n_bit, n_not, n_bc, a1]
      refine ok_some ?_
      obtain ⟨h1, p, h2, h3, h4, h5⟩ := HB_opt hC hmC hW hz hB
      refine ⟨_, p, rfl, h1, h2, h3, h4, fun i j hi hj => ?_, a3⟩
      rw [h5 i j hi hj]
      dsimp only
      rw [a7 (j + 1) (by omega)]
      have hy := hB.1.1 (j + 1) (by omega) (by omega)
      have : nI (y (j + 1)) = nI (i + 1) ↔ y (j + 1) = i + 1 := by
        rw [nI_j, nI_j, jI_eq (by omega) (by omega)]
        omega
      rw [this]
theorem c_taken {M : zM} {n m i j : Nat} {W : Nat → Nat → Int} {p : Nat → Nat} (hi : i < 10) (hj : j < 10) (hW : ∀ i j, -zBB ≤ W i j ∧ W i j ≤ 0) (hw : wR M W) (hp : p i = j ↔ M.1 64 (j + 1) = nI (i + 1) ∧ W i j < 0) : fX3_isTaken (nI i) (nI j) M = some (decide (p i = j)) := by
  have h1 := hw i j hi hj
  have h2 := hW i j
  unfold zBB at h2
  unfold fX3_isTaken
  simp (disch := omega) only [e_lt, e_ltn, e_jn, e_sq, e_bi, l_0, l_1, l_2, l_3, l_4, l_5, l_6, l_7, l_8, l_9, l_10, l_11, l_12, l_13, l_14, l_15, l_16, l_17, l_18, l_19, l_20, l_21, l_22, l_23, l_24, l_25, l_26, l_27, l_28, l_29, l_30, l_31, l_32, l_33, l_34, l_35, l_36, l_37, l_38, l_39, l_40, l_41, l_48, l_50, l_56, l_57, l_59, l_60, l_63, l_64, l_70, l_97, l_99, l_122, l_128, l_190, l_220, l_255, l_320, l_500, l_999, l_1024, l_83520, l_100000, l_1000000, L_0, L_1, L_2, L_3, L_4, L_6, L_7, L_9, L_10, L_11, L_13, L_16, L_32, L_48, L_50, L_57, L_97, L_99, L_122, L_999, L_83520, L_4294967295, L_25937424601, L_1152921504606846976, ↓m_1000020, ↓m_1000012, ↓m_1000010, ↓m_1000000, ↓m_10004, ↓m_10000, ↓m_1000, ↓m_999, ↓m_99, ↓m_30, ↓m_20, ↓m_14, ↓m_12, ↓m_11, ↓m_10, ↓m_8, ↓m_4, ↓m_3, ↓m_2, ↓m_1, ↓mL_999, ↓mL_99, ↓mL_1, n_add, n_mul, nj_add, jn_add, n_sub, n_subj, nj_sub, jn_sub, nj_mul, jn_mul, jI_add, jI_sub, jI_mul, jI_neg, jL_add, jL_sub, jL_mul, jL_neg, n_l, j_l, jL_i, e_gn, e_gj, e_znn, e_znj, nn_ltT, nn_ltF, nn_leT, nn_leF, nn_eqT, nn_eqF, nj_ltT, nj_ltF, nj_leT, nj_leF, nj_eqT, nj_eqF, jn_ltT, jn_ltF, jn_leT, jn_leF, jn_eqT, jn_eqF, jj_ltT, jj_ltF, jj_leT, jj_leF, jj_eqT, jj_eqF, LL_ltT, LL_ltF, LL_leT, LL_leF, LL_eqT, LL_eqF, e_w1, e_w1s, e_w2, e_x1, e_x2, e_x2s, e_a1, e_a1s, e_a2, e_uT, e_uF, e_vT, e_vF, e_ft, e_tf, e_zbt, e_zbf, n_or, n_31, n_shl, n_bit, n_not, n_bc, h1]
  by_cases e : M.1 64 (j + 1) = nI (i + 1)
  · rw [if_pos e]
    by_cases c : W i j < 0
    · simp (disch := omega) only [e_lt, e_ltn, e_jn, e_sq, e_bi, l_0, l_1, l_2, l_3, l_4, l_5, l_6, l_7, l_8, l_9, l_10, l_11, l_12, l_13, l_14, l_15, l_16, l_17, l_18, l_19, l_20, l_21, l_22, l_23, l_24, l_25, l_26, l_27, l_28, l_29, l_30, l_31, l_32, l_33, l_34, l_35, l_36, l_37, l_38, l_39, l_40, l_41, l_48, l_50, l_56, l_57, l_59, l_60, l_63, l_64, l_70, l_97, l_99, l_122, l_128, l_190, l_220, l_255, l_320, l_500, l_999, l_1024, l_83520, l_100000, l_1000000, L_0, L_1, L_2, L_3, L_4, L_6, L_7, L_9, L_10, L_11, L_13, L_16, L_32, L_48, L_50, L_57, L_97, L_99, L_122, L_999, L_83520, L_4294967295, L_25937424601, L_1152921504606846976, ↓m_1000020, ↓m_1000012, ↓m_1000010, ↓m_1000000, ↓m_10004, ↓m_10000, ↓m_1000, ↓m_999, ↓m_99, ↓m_30, ↓m_20, ↓m_14, ↓m_12, ↓m_11, ↓m_10, ↓m_8, ↓m_4, ↓m_3, ↓m_2, ↓m_1, ↓mL_999, ↓mL_99, ↓mL_1, n_add, n_mul, nj_add, jn_add, n_sub, n_subj, nj_sub, jn_sub, nj_mul, jn_mul, jI_add, jI_sub, jI_mul, jI_neg, jL_add, jL_sub, jL_mul, jL_neg, n_l, j_l, jL_i, e_gn, e_gj, e_znn, e_znj, nn_ltT, nn_ltF, nn_leT, nn_leF, nn_eqT, nn_eqF, nj_ltT, nj_ltF, nj_leT, nj_leF, nj_eqT, nj_eqF, jn_ltT, jn_ltF, jn_leT, jn_leF, jn_eqT, jn_eqF, jj_ltT, jj_ltF, jj_leT, jj_leF, jj_eqT, jj_eqF, LL_ltT, LL_ltF, LL_leT, LL_leF, LL_eqT, LL_eqF, e_w1, e_w1s, e_w2, e_x1, e_x2, e_x2s, e_a1, e_a1s, e_a2, e_uT, e_uF, e_vT, e_vF, e_ft, e_tf, e_zbt, e_zbf, n_or, n_31, n_shl, n_bit, n_not, n_bc]
      rw [decide_eq_true (hp.mpr ⟨e, c⟩)]
    · simp (disch := omega) only [e_lt, e_ltn, e_jn, e_sq, e_bi, l_0, l_1, l_2, l_3, l_4, l_5, l_6, l_7, l_8, l_9, l_10, l_11, l_12, l_13, l_14, l_15, l_16, l_17, l_18, l_19, l_20, l_21, l_22, l_23, l_24, l_25, l_26, l_27, l_28, l_29, l_30, l_31, l_32, l_33, l_34, l_35, l_36, l_37, l_38, l_39, l_40, l_41, l_48, l_50, l_56, l_57, l_59, l_60, l_63, l_64, l_70, l_97, l_99, l_122, l_128, l_190, l_220, l_255, l_320, l_500, l_999, l_1024, l_83520, l_100000, l_1000000, L_0, L_1, L_2, L_3, L_4, L_6, L_7, L_9, L_10, L_11, L_13, L_16, L_32, L_48, L_50, L_57, L_97, L_99, L_122, L_999, L_83520, L_4294967295, L_25937424601, L_1152921504606846976, ↓m_1000020, ↓m_1000012, ↓m_1000010, ↓m_1000000, ↓m_10004, ↓m_10000, ↓m_1000, ↓m_999, ↓m_99, ↓m_30, ↓m_20, ↓m_14, ↓m_12, ↓m_11, ↓m_10, ↓m_8, ↓m_4, ↓m_3, ↓m_2, ↓m_1, ↓mL_999, ↓mL_99, ↓mL_1, n_add, n_mul, nj_add, jn_add, n_sub, n_subj, nj_sub, jn_sub, nj_mul, jn_mul, jI_add, jI_sub, jI_mul, jI_neg, jL_add, jL_sub, jL_mul, jL_neg, n_l, j_l, jL_i, e_gn, e_gj, e_znn, e_znj, nn_ltT, nn_ltF, nn_leT, nn_leF, nn_eqT, nn_eqF, nj_ltT, nj_ltF, nj_leT, nj_leF, nj_eqT, nj_eqF, jn_ltT, jn_ltF, jn_leT, jn_leF, jn_eqT, jn_eqF, jj_ltT, jj_ltF, jj_leT, jj_leF, jj_eqT, jj_eqF, LL_ltT, LL_ltF, LL_leT, LL_leF, LL_eqT, LL_eqF, e_w1, e_w1s, e_w2, e_x1, e_x2, e_x2s, e_a1, e_a1s, e_a2, e_uT, e_uF, e_vT, e_vF, e_ft, e_tf, e_zbt, e_zbf, n_or, n_31, n_shl, n_bit, n_not, n_bc]
      rw [decide_eq_false (fun q => c (hp.mp q).2)]
  · rw [if_neg e, decide_eq_false (fun q => e (hp.mp q).1)]
/-- pairs as they are looked at -/
def pR (M : zM) (n m : Nat) (c : Nat → Nat → Int) (T sv : Int) : Prop := M.1 55 0 = nI n ∧ M.1 55 1 = nI m ∧ M.1 55 2 = jI T ∧ M.1 55 3 = jI sv ∧ ∀ i j, i < n → j < m → M.1 57 (i * 10 + j) = jI (c i j)
def pV (n m : Nat) (c : Nat → Nat → Int) (T sv : Int) : Prop := n ≤ 10 ∧ m ≤ 10 ∧ (0 ≤ T ∧ T ≤ 1980) ∧ (0 ≤ sv ∧ sv ≤ 198) ∧ ∀ i j, i < n → j < m → c i j = -4 ∨ (0 ≤ c i j ∧ c i j ≤ 5000)
theorem pR_fr {M M' : zM} {n m : Nat} {c : Nat → Nat → Int} {T sv : Int} {S : List Nat} (h : pR M n m c T sv) (hf : zfr S M M') (h1 : 55 ∉ S) (h2 : 57 ∉ S) : pR M' n m c T sv := by
  obtain ⟨a1, a2, a3, a4, a5⟩ := h
  have e1 := (hf 55 h1).1
  have e2 := (hf 57 h2).1
  exact ⟨by rw [e1, a1], by rw [e1, a2], by rw [e1, a3], by rw [e1, a4], fun i j hi hj => by rw [e2, a5 i j hi hj]⟩
theorem c_may {M : zM} {n m : Nat} {c : Nat → Nat → Int} {T sv : Int} (h : pR M n m c T sv) (hV : pV n m c T sv) {i j : Nat} (hi : i < n) (hj : j < m) : fX5_mayBe (nI i) (nI j) M = some (decide (c i j ≠ -4)) := by
  obtain ⟨v1, v2, v3, v4, v5⟩ := hV
  have h1 := h.2.2.2.2 i j hi hj
  have h2 := v5 i j hi hj
  unfold fX5_mayBe
  simp (disch := omega) only [e_lt, e_ltn, e_jn, e_sq, e_bi, l_0, l_1, l_2, l_3, l_4, l_5, l_6, l_7, l_8, l_9, l_10, l_11, l_12, l_13, l_14, l_15, l_16, l_17, l_18, l_19, l_20, l_21, l_22, l_23, l_24, l_25, l_26, l_27, l_28, l_29, l_30, l_31, l_32, l_33, l_34, l_35, l_36, l_37, l_38, l_39, l_40, l_41, l_48, l_50, l_56, l_57, l_59, l_60, l_63, l_64, l_70, l_97, l_99, l_122, l_128, l_190, l_220, l_255, l_320, l_500, l_999, l_1024, l_83520, l_100000, l_1000000, L_0, L_1, L_2, L_3, L_4, L_6, L_7, L_9, L_10, L_11, L_13, L_16, L_32, L_48, L_50, L_57, L_97, L_99, L_122, L_999, L_83520, L_4294967295, L_25937424601, L_1152921504606846976, ↓m_1000020, ↓m_1000012, ↓m_1000010, ↓m_1000000, ↓m_10004, ↓m_10000, ↓m_1000, ↓m_999, ↓m_99, ↓m_30, ↓m_20, ↓m_14, ↓m_12, ↓m_11, ↓m_10, ↓m_8, ↓m_4, ↓m_3, ↓m_2, ↓m_1, ↓mL_999, ↓mL_99, ↓mL_1, n_add, n_mul, nj_add, jn_add, n_sub, n_subj, nj_sub, jn_sub, nj_mul, jn_mul, jI_add, jI_sub, jI_mul, jI_neg, jL_add, jL_sub, jL_mul, jL_neg, n_l, j_l, jL_i, e_gn, e_gj, e_znn, e_znj, nn_ltT, nn_ltF, nn_leT, nn_leF, nn_eqT, nn_eqF, nj_ltT, nj_ltF, nj_leT, nj_leF, nj_eqT, nj_eqF, jn_ltT, jn_ltF, jn_leT, jn_leF, jn_eqT, jn_eqF, jj_ltT, jj_ltF, jj_leT, jj_leF, jj_eqT, jj_eqF, LL_ltT, LL_ltF, LL_leT, LL_leF, LL_eqT, LL_eqF, e_w1, e_w1s, e_w2, e_x1, e_x2, e_x2s, e_a1, e_a1s, e_a2, e_uT, e_uF, e_vT, e_vF, e_ft, e_tf, e_zbt, e_zbf, n_or, n_31, n_shl, n_bit, n_not, n_bc, h1]
  by_cases e : c i j = -4
  · simp (disch := omega) only [e_lt, e_ltn, e_jn, e_sq, e_bi, l_0, l_1, l_2, l_3, l_4, l_5, l_6, l_7, l_8, l_9, l_10, l_11, l_12, l_13, l_14, l_15, l_16, l_17, l_18, l_19, l_20, l_21, l_22, l_23, l_24, l_25, l_26, l_27, l_28, l_29, l_30, l_31, l_32, l_33, l_34, l_35, l_36, l_37, l_38, l_39, l_40, l_41, l_48, l_50, l_56, l_57, l_59, l_60, l_63, l_64, l_70, l_97, l_99, l_122, l_128, l_190, l_220, l_255, l_320, l_500, l_999, l_1024, l_83520, l_100000, l_1000000, L_0, L_1, L_2, L_3, L_4, L_6, L_7, L_9, L_10, L_11, L_13, L_16, L_32, L_48, L_50, L_57, L_97, L_99, L_122, L_999, L_83520, L_4294967295, L_25937424601, L_1152921504606846976, ↓m_1000020, ↓m_1000012, ↓m_1000010, ↓m_1000000, ↓m_10004, ↓m_10000, ↓m_1000, ↓m_999, ↓m_99, ↓m_30, ↓m_20, ↓m_14, ↓m_12, ↓m_11, ↓m_10, ↓m_8, ↓m_4, ↓m_3, ↓m_2, ↓m_1, ↓mL_999, ↓mL_99, ↓mL_1, n_add, n_mul, nj_add, jn_add, n_sub, n_subj, nj_sub, jn_sub, nj_mul, jn_mul, jI_add, jI_sub, jI_mul, jI_neg, jL_add, jL_sub, jL_mul, jL_neg, n_l, j_l, jL_i, e_gn, e_gj, e_znn, e_znj, nn_ltT, nn_ltF, nn_leT, nn_leF, nn_eqT, nn_eqF, nj_ltT, nj_ltF, nj_leT, nj_leF, nj_eqT, nj_eqF, jn_ltT, jn_ltF, jn_leT, jn_leF, jn_eqT, jn_eqF, jj_ltT, jj_ltF, jj_leT, jj_leF, jj_eqT, jj_eqF, LL_ltT, LL_ltF, LL_leT, LL_leF, LL_eqT, LL_eqF, e_w1, e_w1s, e_w2, e_x1, e_x2, e_x2s, e_a1, e_a1s, e_a2, e_uT, e_uF, e_vT, e_vF, e_ft, e_tf, e_zbt, e_zbf, n_or, n_31, n_shl, n_bit, n_not, n_bc]
    simp [e]
  · simp (disch := omega) only [e_lt, e_ltn, e_jn, e_sq, e_bi, l_0, l_1, l_2, l_3, l_4, l_5, l_6, l_7, l_8, l_9, l_10, l_11, l_12, l_13, l_14, l_15, l_16, l_17, l_18, l_19, l_20, l_21, l_22, l_23, l_24, l_25, l_26, l_27, l_28, l_29, l_30, l_31, l_32, l_33, l_34, l_35, l_36, l_37, l_38, l_39, l_40, l_41, l_48, l_50, l_56, l_57, l_59, l_60, l_63, l_64, l_70, l_97, l_99, l_122, l_128, l_190, l_220, l_255, l_320, l_500, l_999, l_1024, l_83520, l_100000, l_1000000, L_0, L_1, L_2, L_3, L_4, L_6, L_7, L_9, L_10, L_11, L_13, L_16, L_32, L_48, L_50, L_57, L_97, L_99, L_122, L_999, L_83520, L_4294967295, L_25937424601, L_1152921504606846976, ↓m_1000020, ↓m_1000012, ↓m_1000010, ↓m_1000000, ↓m_10004, ↓m_10000, ↓m_1000, ↓m_999, ↓m_99, ↓m_30, ↓m_20, ↓m_14, ↓m_12, ↓m_11, ↓m_10, ↓m_8, ↓m_4, ↓m_3, ↓m_2, ↓m_1, ↓mL_999, ↓mL_99, ↓mL_1, n_add, n_mul, nj_add, jn_add, n_sub, n_subj, nj_sub, jn_sub, nj_mul, jn_mul, jI_add, jI_sub, jI_mul, jI_neg, jL_add, jL_sub, jL_mul, jL_neg, n_l, j_l, jL_i, e_gn, e_gj, e_znn, e_znj, nn_ltT, nn_ltF, nn_leT, nn_leF, nn_eqT, nn_eqF, nj_ltT, nj_ltF, nj_leT, nj_leF, nj_eqT, nj_eqF, jn_ltT, jn_ltF, jn_leT, jn_leF, jn_eqT, jn_eqF, jj_ltT, jj_ltF, jj_leT, jj_leF, jj_eqT, jj_eqF, LL_ltT, LL_ltF, LL_leT, LL_leF, LL_eqT, LL_eqF, e_w1, e_w1s, e_w2, e_x1, e_x2, e_x2s, e_a1, e_a1s, e_a2, e_uT, e_uF, e_vT, e_vF, e_ft, e_tf, e_zbt, e_zbf, n_or, n_31, n_shl, n_bit, n_not, n_bc]
    simp [e]
theorem c_gain {M : zM} {n m : Nat} {c : Nat → Nat → Int} {T sv : Int} (h : pR M n m c T sv) (hV : pV n m c T sv) {i j : Nat} (hi : i < n) (hj : j < m) : fX5_gainOf (nI i) (nI j) M = some (jI (c i j - sv)) := by
  obtain ⟨v1, v2, v3, v4, v5⟩ := hV
  have h1 := h.2.2.2.2 i j hi hj
  have h2 := h.2.2.2.1
  unfold fX5_gainOf
  simp (disch := omega) only [e_lt, e_ltn, e_jn, e_sq, e_bi, l_0, l_1, l_2, l_3, l_4, l_5, l_6, l_7, l_8, l_9, l_10, l_11, l_12, l_13, l_14, l_15, l_16, l_17, l_18, l_19, l_20, l_21, l_22, l_23, l_24, l_25, l_26, l_27, l_28, l_29, l_30, l_31, l_32, l_33, l_34, l_35, l_36, l_37, l_38, l_39, l_40, l_41, l_48, l_50, l_56, l_57, l_59, l_60, l_63, l_64, l_70, l_97, l_99, l_122, l_128, l_190, l_220, l_255, l_320, l_500, l_999, l_1024, l_83520, l_100000, l_1000000, L_0, L_1, L_2, L_3, L_4, L_6, L_7, L_9, L_10, L_11, L_13, L_16, L_32, L_48, L_50, L_57, L_97, L_99, L_122, L_999, L_83520, L_4294967295, L_25937424601, L_1152921504606846976, ↓m_1000020, ↓m_1000012, ↓m_1000010, ↓m_1000000, ↓m_10004, ↓m_10000, ↓m_1000, ↓m_999, ↓m_99, ↓m_30, ↓m_20, ↓m_14, ↓m_12, ↓m_11, ↓m_10, ↓m_8, ↓m_4, ↓m_3, ↓m_2, ↓m_1, ↓mL_999, ↓mL_99, ↓mL_1, n_add, n_mul, nj_add, jn_add, n_sub, n_subj, nj_sub, jn_sub, nj_mul, jn_mul, jI_add, jI_sub, jI_mul, jI_neg, jL_add, jL_sub, jL_mul, jL_neg, n_l, j_l, jL_i, e_gn, e_gj, e_znn, e_znj, nn_ltT, nn_ltF, nn_leT, nn_leF, nn_eqT, nn_eqF, nj_ltT, nj_ltF, nj_leT, nj_leF, nj_eqT, nj_eqF, jn_ltT, jn_ltF, jn_leT, jn_leF, jn_eqT, jn_eqF, jj_ltT, jj_ltF, jj_leT, jj_leF, jj_eqT, jj_eqF, LL_ltT, LL_ltF, LL_leT, LL_leF, LL_eqT, LL_eqF, e_w1, e_w1s, e_w2, e_x1, e_x2, e_x2s, e_a1, e_a1s, e_a2, e_uT, e_uF, e_vT, e_vF, e_ft, e_tf, e_zbt, e_zbf, n_or, n_31, n_shl, n_bit, n_not, n_bc, h1, h2]
def mn0 (x : Int) : Int := if x < 0 then x else 0
theorem c_setW {M : zM} {i j : Nat} {x : Int} (hi : i < 10) (hj : j < 10) (hx : rl x) : fX3_setWeight (nI i) (nI j) (jL x) M = some (zwL M 60 (i * 10 + j) (jL (mn0 x))) := by
  unfold fX3_setWeight zmnl mn0
  simp (disch := omega) only [e_lt, e_ltn, e_jn, e_sq, e_bi, l_0, l_1, l_2, l_3, l_4, l_5, l_6, l_7, l_8, l_9, l_10, l_11, l_12, l_13, l_14, l_15, l_16, l_17, l_18, l_19, l_20, l_21, l_22, l_23, l_24, l_25, l_26, l_27, l_28, l_29, l_30, l_31, l_32, l_33, l_34, l_35, l_36, l_37, l_38, l_39, l_40, l_41, l_48, l_50, l_56, l_57, l_59, l_60, l_63, l_64, l_70, l_97, l_99, l_122, l_128, l_190, l_220, l_255, l_320, l_500, l_999, l_1024, l_83520, l_100000, l_1000000, L_0, L_1, L_2, L_3, L_4, L_6, L_7, L_9, L_10, L_11, L_13, L_16, L_32, L_48, L_50, L_57, L_97, L_99, L_122, L_999, L_83520, L_4294967295, L_25937424601, L_1152921504606846976, ↓m_1000020, ↓m_1000012, ↓m_1000010, ↓m_1000000, ↓m_10004, ↓m_10000, ↓m_1000, ↓m_999, ↓m_99, ↓m_30, ↓m_20, ↓m_14, ↓m_12, ↓m_11, ↓m_10, ↓m_8, ↓m_4, ↓m_3, ↓m_2, ↓m_1, ↓mL_999, ↓mL_99, ↓mL_1, n_add, n_mul, nj_add, jn_add, n_sub, n_subj, nj_sub, jn_sub, nj_mul, jn_mul, jI_add, jI_sub, jI_mul, jI_neg, jL_add, jL_sub, jL_mul, jL_neg, n_l, j_l, jL_i, e_gn, e_gj, e_znn, e_znj, nn_ltT, nn_ltF, nn_leT, nn_leF, nn_eqT, nn_eqF, nj_ltT, nj_ltF, nj_leT, nj_leF, nj_eqT, nj_eqF, jn_ltT, jn_ltF, jn_leT, jn_leF, jn_eqT, jn_eqF, jj_ltT, jj_ltF, jj_leT, jj_leF, jj_eqT, jj_eqF, LL_ltT, LL_ltF, LL_leT, LL_leF, LL_eqT, LL_eqF, e_w1, e_w1s, e_w2, e_x1, e_x2, e_x2s, e_a1, e_a1s, e_a2, e_uT, e_uF, e_vT, e_vF, e_ft, e_tf, e_zbt, e_zbf, n_or, n_31, n_shl, n_bit, n_not, n_bc]
  by_cases e : x < 0
  · rw [if_pos ((jL_lt hx (by omega)).mpr e), if_pos e]
  · rw [if_neg (fun q => e ((jL_lt hx (by omega)).mp q)), if_neg e]
theorem wR_set {M : zM} {W : Nat → Nat → Int} (h : wR M W) {i j : Nat} (hi : i < 10) (hj : j < 10) (x : Int) : wR (zwL M 60 (i * 10 + j) (jL x)) (fun a b => if a = i ∧ b = j then x else W a b) := by
  intro a b ha hb
  rw [e_x2s]
  by_cases e : a = i ∧ b = j
  · obtain ⟨rfl, rfl⟩ := e
    rw [e_vT rfl]
    simp
  · rw [e_vF (by omega)]
    dsimp only
    rw [if_neg e]
    exact h a b ha hb
theorem wR_cg {M : zM} {W W' : Nat → Nat → Int} (h : wR M W) (e : ∀ i j, i < 10 → j < 10 → W i j = W' i j) : wR M W' := fun i j hi hj => by rw [h i j hi hj, e i j hi hj]
theorem c_weighP {M : zM} {n m : Nat} {c : Nat → Nat → Int} {T sv : Int} (h : pR M n m c T sv) (hV : pV n m c T sv) {W : Nat → Nat → Int} (hw : wR M W) {i j : Nat} (hi : i < n) (hj : j < m) {s l : Int} (hs : 0 ≤ s ∧ s ≤ 32) (hl : -1 ≤ l ∧ l ≤ 1) :
    ok (fX4_weighPair (nI i) (nI j) (jI s) (jI l) M) (fun M' => wR M' (fun a b => if a = i ∧ b = j ∧ c i j ≠ -4 then mn0 (s * (c i j - sv) + l) else W a b)) := by
  obtain ⟨v1, v2, v3, v4, v5⟩ := id hV
  have hc := v5 i j hi hj
  have hb1 : -6464 ≤ s * (c i j - sv) := by
    have h1 : s * (-202) ≤ s * (c i j - sv) := Int.mul_le_mul_of_nonneg_left (by omega) hs.1
    omega
  have hb2 : s * (c i j - sv) ≤ 32 * 5000 := by
    have h1 : s * (c i j - sv) ≤ s * 5000 := Int.mul_le_mul_of_nonneg_left (by omega) hs.1
    omega
  unfold fX4_weighPair
  rw [c_may h hV hi hj, c_gain h hV hi hj]
  by_cases e : c i j = -4
  · simp only [e_sq, e]
    simp only [ne_eq, not_true_eq_false, decide_false, e_ft]
    refine ok_some (wR_cg hw (fun a b _ _ => ?_))
    simp
  · simp only [e_sq, e, ne_eq, not_false_eq_true, decide_true, e_tf]
    rw [jI_l (by omega), jI_l (by omega), jI_l (by omega), jL_mul, jL_add, c_setW (by omega) (by omega) (by omega), e_sq]
    refine ok_some (wR_cg (wR_set hw (by omega) (by omega) _) (fun a b _ _ => ?_))
    by_cases q : a = i ∧ b = j
    · rw [if_pos q, if_pos ⟨q.1, q.2, by simp⟩]
    · rw [if_neg q, if_neg (fun w => q ⟨w.1, w.2.1⟩)]
theorem c_clear (M : zM) : ok (fX3_clear M) (fun M' => wR M' (fun _ _ => 0)) := by
  unfold fX3_clear
  rw [pfillL _ _ _ _ (by decide), e_sq]
  refine ok_some (fun i j hi hj => ?_)
  rw [e_b2s]
  unfold zgl
  rw [if_pos (by omega)]
  rfl
/-- all weights of a kind -/
def wt (n m : Nat) (c w : Nat → Nat → Int) (i j : Nat) : Int := if i < n ∧ j < m ∧ c i j ≠ -4 then mn0 (w i j) else 0
theorem c_weighA {M : zM} {n m : Nat} {c : Nat → Nat → Int} {T sv : Int} (h : pR M n m c T sv) (hV : pV n m c T sv) {s l : Int} (hs : 0 ≤ s ∧ s ≤ 32) (hl : -1 ≤ l ∧ l ≤ 1) :
    ok (fX4_weighAll (jI s) (jI l) M) (fun M' => wR M' (wt n m c (fun i j => s * (c i j - sv) + l))) := by
  obtain ⟨v1, v2, v3, v4, v5⟩ := id hV
  unfold fX4_weighAll
  refine ok_sq (ok_fr (c_clear M) (frX3_clear M)) ?_
  rintro M1 ⟨hw1, hf1⟩
  refine ok_up n (fun i x => ∃ M', x = (nI i, M') ∧ zfr [60] M M' ∧ wR M' (fun a b => if a < i then wt n m c (fun i j => s * (c i j - sv) + l) a b else 0)) ?_ ?_ zFu 0 _ (by omega) (by unfold zFu; omega) ⟨M1, rfl, hf1, wR_cg hw1 (fun a b _ _ => by simp)⟩
  · rintro rec i x hi ⟨M2, rfl, hf2, hw2⟩ hrec
    have p2 := pR_fr h hf2 (by decide) (by decide)
    have b0 := p2.1
    simp (disch := omega) only [e_lt, e_ltn, e_jn, e_sq, e_bi, l_0, l_1, l_2, l_3, l_4, l_5, l_6, l_7, l_8, l_9, l_10, l_11, l_12, l_13, l_14, l_15, l_16, l_17, l_18, l_19, l_20, l_21, l_22, l_23, l_24, l_25, l_26, l_27, l_28, l_29, l_30, l_31, l_32, l_33, l_34, l_35, l_36, l_37, l_38, l_39, l_40, l_41, l_48, l_50, l_56, l_57, l_59, l_60, l_63, l_64, l_70, l_97, l_99, l_122, l_128, l_190, l_220, l_255, l_320, l_500, l_999, l_1024, l_83520, l_100000, l_1000000, L_0, L_1, L_2, L_3, L_4, L_6, L_7, L_9, L_10, L_11, L_13, L_16, L_32, L_48, L_50, L_57, L_97, L_99, L_122, L_999, L_83520, L_4294967295, L_25937424601, L_1152921504606846976, ↓m_1000020, ↓m_1000012, ↓m_1000010, ↓m_1000000, ↓m_10004, ↓m_10000, ↓m_1000, ↓m_999, ↓m_99, ↓m_30, ↓m_20, ↓m_14, ↓m_12, ↓m_11, ↓m_10, ↓m_8, ↓m_4, ↓m_3, ↓m_2, ↓m_1, ↓mL_999, ↓mL_99, ↓mL_1, n_add, n_mul, nj_add, jn_add, n_sub, n_subj, nj_sub, jn_sub, nj_mul, jn_mul, jI_add, jI_sub, jI_mul, jI_neg, jL_add, jL_sub, jL_mul, jL_neg, n_l, j_l, jL_i, e_gn, e_gj, e_znn, e_znj, nn_ltT, nn_ltF, nn_leT, nn_leF, nn_eqT, nn_eqF, nj_ltT, nj_ltF, nj_leT, nj_leF, nj_eqT, nj_eqF, jn_ltT, jn_ltF, jn_leT, jn_leF, jn_eqT, jn_eqF, jj_ltT, jj_ltF, jj_leT, jj_leF, jj_eqT, jj_eqF, LL_ltT, LL_ltF, LL_leT, LL_leF, LL_eqT, LL_eqF, e_w1, e_w1s, e_w2, e_x1, e_x2, e_x2s, e_a1, e_a1s, e_a2, e_uT, e_uF, e_vT, e_vF, e_ft, e_tf, e_zbt, e_zbf, n_or, n_31, n_shl, n_bit, n_not, n_bc, b0]
    refine ok_sq (P := fun M' => zfr [60] M M' ∧ wR M' (fun a b => if a < i + 1 then wt n m c (fun i j => s * (c i j - sv) + l) a b else 0)) ?_ (fun M3 h3 => hrec _ ⟨M3, rfl, h3.1, h3.2⟩)
    refine ok_up m (fun j x => ∃ M', x = (nI j, M') ∧ zfr [60] M M' ∧ wR M' (fun a b => if a < i ∨ (a = i ∧ b < j) then wt n m c (fun i j => s * (c i j - sv) + l) a b else 0)) ?_ ?_ zFu 0 _ (by omega) (by unfold zFu; omega) ⟨M2, rfl, hf2, wR_cg hw2 (fun a b _ _ => by simp)⟩
    · rintro rec2 j x hj ⟨M3, rfl, hf3, hw3⟩ hrec2
      have p3 := pR_fr h hf3 (by decide) (by decide)
      have b1 := p3.2.1
      simp (disch := omega) only [e_lt, e_ltn, e_jn, e_sq, e_bi, l_0, l_1, l_2, l_3, l_4, l_5, l_6, l_7, l_8, l_9, l_10, l_11, l_12, l_13, l_14, l_15, l_16, l_17, l_18, l_19, l_20, l_21, l_22, l_23, l_24, l_25, l_26, l_27, l_28, l_29, l_30, l_31, l_32, l_33, l_34, l_35, l_36, l_37, l_38, l_39, l_40, l_41, l_48, l_50, l_56, l_57, l_59, l_60, l_63, l_64, l_70, l_97, l_99, l_122, l_128, l_190, l_220, l_255, l_320, l_500, l_999, l_1024, l_83520, l_100000, l_1000000, L_0, L_1, L_2, L_3, L_4, L_6, L_7, L_9, L_10, L_11, L_13, L_16, L_32, L_48, L_50, L_57, L_97, L_99, L_122, L_999, L_83520, L_4294967295, L_25937424601, L_1152921504606846976, ↓m_1000020, ↓m_1000012, ↓m_1000010, ↓m_1000000, ↓m_10004, ↓m_10000, ↓m_1000, ↓m_999, ↓m_99, ↓m_30, ↓m_20, ↓m_14, ↓m_12, ↓m_11, ↓m_10, ↓m_8, ↓m_4, ↓m_3, ↓m_2, ↓m_1, ↓mL_999, ↓mL_99, ↓mL_1, n_add, n_mul, nj_add, jn_add, n_sub, n_subj, nj_sub, jn_sub, nj_mul, jn_mul, jI_add, jI_sub, jI_mul, jI_neg, jL_add, jL_sub, jL_mul, jL_neg, n_l, j_l, jL_i, e_gn, e_gj, e_znn, e_znj, nn_ltT, nn_ltF, nn_leT, nn_leF, nn_eqT, nn_eqF, nj_ltT, nj_ltF, nj_leT, nj_leF, nj_eqT, nj_eqF, jn_ltT, jn_ltF, jn_leT, jn_leF, jn_eqT, jn_eqF, jj_ltT, jj_ltF, jj_leT, jj_leF, jj_eqT, jj_eqF, LL_ltT, LL_ltF, LL_leT, LL_leF, LL_eqT, LL_eqF, e_w1, e_w1s, e_w2, e_x1, e_x2, e_x2s, e_a1, e_a1s, e_a2, e_uT, e_uF, e_vT, e_vF, e_ft, e_tf, e_zbt, e_zbf, n_or, n_31, n_shl, n_bit, n_not, n_bc, b1]
      refine ok_sq (ok_fr (c_weighP p3 hV hw3 hi hj hs hl) (frX4_weighPair _ _ _ _ M3)) ?_
      rintro M4 ⟨hw4, hf4⟩
      refine hrec2 _ ⟨M4, rfl, zfr_tr hf3 hf4 (by decide), wR_cg hw4 (fun a b _ _ => ?_)⟩
      (try dsimp only)
      by_cases q : a = i ∧ b = j
      · obtain ⟨rfl, rfl⟩ := q
        by_cases e : c a b = -4
        · simp [wt, e]
        · simp [wt, e, hi, hj]
      · rw [if_neg (fun w => q ⟨w.1, w.2.1⟩)]
        have : (a < i ∨ a = i ∧ b < j + 1) ↔ (a < i ∨ a = i ∧ b < j) := by omega
        simp only [this]
    · rintro rec2 x ⟨M3, rfl, hf3, hw3⟩
      have p3 := pR_fr h hf3 (by decide) (by decide)
      have b1 := p3.2.1
      simp (disch := omega) only [e_lt, e_ltn, e_jn, e_sq, e_bi, l_0, l_1, l_2, l_3, l_4, l_5, l_6, l_7, l_8, l_9, l_10, l_11, l_12, l_13, l_14, l_15, l_16, l_17, l_18, l_19, l_20, l_21, l_22, l_23, l_24, l_25, l_26, l_27, l_28, l_29, l_30, l_31, l_32, l_33, l_34, l_35, l_36, l_37, l_38, l_39, l_40, l_41, l_48, l_50, l_56, l_57, l_59, l_60, l_63, l_64, l_70, l_97, l_99, l_122, l_128, l_190, l_220, l_255, l_320, l_500, l_999, l_1024, l_83520, l_100000, l_1000000, L_0, L_1, L_2, L_3, L_4, L_6, L_7, L_9, L_10, L_11, L_13, L_16, L_32, L_48, L_50, L_57, L_97, L_99, L_122, L_999, L_83520, L_4294967295, L_25937424601, L_1152921504606846976, ↓m_1000020, ↓m_1000012, ↓m_1000010, ↓m_1000000, ↓m_10004, ↓m_10000, ↓m_1000, ↓m_999, ↓m_99, ↓m_30, ↓m_20, ↓m_14, ↓m_12, ↓m_11, ↓m_10, ↓m_8, ↓m_4, ↓m_3, ↓m_2, ↓m_1, ↓mL_999, ↓mL_99, ↓mL_1, n_add, n_mul, nj_add, jn_add, n_sub, n_subj, nj_sub, jn_sub, nj_mul, jn_mul, jI_add, jI_sub, jI_mul, jI_neg, jL_add, jL_sub, jL_mul, jL_neg, n_l, j_l, jL_i, e_gn, e_gj, e_znn, e_znj, nn_ltT, nn_ltF, nn_leT, nn_leF, nn_eqT, nn_eqF, nj_ltT, nj_ltF, nj_leT, nj_leF, nj_eqT, nj_eqF, jn_ltT, jn_ltF, jn_leT, jn_leF, jn_eqT, jn_eqF, jj_ltT, jj_ltF, jj_leT, jj_leF, jj_eqT, jj_eqF, LL_ltT, LL_ltF, LL_leT, LL_leF, LL_eqT, LL_eqF, e_w1, e_w1s, e_w2, e_x1, e_x2, e_x2s, e_a1, e_a1s, e_a2, e_uT, e_uF, e_vT, e_vF, e_ft, e_tf, e_zbt, e_zbf, n_or, n_31, n_shl, n_bit, n_not, n_bc, b1]
      refine ok_some ⟨hf3, wR_cg hw3 (fun a b _ _ => ?_)⟩
      by_cases q : a < i ∨ a = i ∧ b < m
      · rw [if_pos q, if_pos (by omega)]
      · rw [if_neg q]
        by_cases w : a < i + 1
        · rw [if_pos w]
          unfold wt
          rw [if_neg (by omega)]
        · rw [if_neg w]
  · rintro rec x ⟨M2, rfl, hf2, hw2⟩
    have p2 := pR_fr h hf2 (by decide) (by decide)
    have b0 := p2.1
    simp (disch := omega) only [e_lt, e_ltn, e_jn, e_sq, e_bi, l_0, l_1, l_2, l_3, l_4, l_5, l_6, l_7, l_8, l_9, l_10, l_11, l_12, l_13, l_14, l_15, l_16, l_17, l_18, l_19, l_20, l_21, l_22, l_23, l_24, l_25, l_26, l_27, l_28, l_29, l_30, l_31, l_32, l_33, l_34, l_35, l_36, l_37, l_38, l_39, l_40, l_41, l_48, l_50, l_56, l_57, l_59, l_60, l_63, l_64, l_70, l_97, l_99, l_122, l_128, l_190, l_220, l_255, l_320, l_500, l_999, l_1024, l_83520, l_100000, l_1000000, L_0, L_1, L_2, L_3, L_4, L_6, L_7, L_9, L_10, L_11, L_13, L_16, L_32, L_48, L_50, L_57, L_97, L_99, L_122, L_999, L_83520, L_4294967295, L_25937424601, L_1152921504606846976, ↓m_1000020, ↓m_1000012, ↓m_1000010, ↓m_1000000, ↓m_10004, ↓m_10000, ↓m_1000, ↓m_999, ↓m_99, ↓m_30, ↓m_20, ↓m_14, ↓m_12, ↓m_11, ↓m_10, ↓m_8, ↓m_4, ↓m_3, ↓m_2, ↓m_1, ↓mL_999, ↓mL_99, ↓mL_1, n_add, n_mul, nj_add, jn_add, n_sub, n_subj, nj_sub, jn_sub, nj_mul, jn_mul, jI_add, jI_sub, jI_mul, jI_neg, jL_add, jL_sub, jL_mul, jL_neg, n_l, j_l, jL_i, e_gn, e_gj, e_znn, e_znj, nn_ltT, nn_ltF, nn_leT, nn_leF, nn_eqT, nn_eqF, nj_ltT, nj_ltF, nj_leT, nj_leF, nj_eqT, nj_eqF, jn_ltT, jn_ltF, jn_leT, jn_leF, jn_eqT, jn_eqF, jj_ltT, jj_ltF, jj_leT, jj_leF, jj_eqT, jj_eqF, LL_ltT, LL_ltF, LL_leT, LL_leF, LL_eqT, LL_eqF, e_w1, e_w1s, e_w2, e_x1, e_x2, e_x2s, e_a1, e_a1s, e_a2, e_uT, e_uF, e_vT, e_vF, e_ft, e_tf, e_zbt, e_zbf, n_or, n_31, n_shl, n_bit, n_not, n_bc, b0]
    refine ok_some (wR_cg hw2 (fun a b _ _ => ?_))
    by_cases q : a < n
    · rw [if_pos q]
    · rw [if_neg q]
      unfold wt
      rw [if_neg (by omega)]
