theorem n_dv {a b : Nat} (hb : 0 < b) (ha : a < 2147483648) (hb2 : b < 2147483648) : nI a / nI b = nI (a / b) := by
  rw [nI_j, nI_j, nI_j, ← Int32.toInt_inj, Int32.toInt_div, jI_toInt (by omega), jI_toInt (by omega)]
  have h1 : ((a : Int).tdiv (b : Int)) = ((a / b : Nat) : Int) := by
    rw [Int.tdiv_eq_ediv_of_nonneg (by omega)]
    rfl
  have h2 : a / b ≤ a := Nat.div_le_self _ _
  rw [h1]
  generalize a / b = d at h2
  rw [jI_toInt (by omega)]
  apply Int.bmod_eq_of_le <;> omega
theorem n_rm {a b : Nat} (hb : 0 < b) (ha : a < 2147483648) (hb2 : b < 2147483648) : zrm_i (nI a) (nI b) = nI (a % b) := by
  unfold zrm_i
  rw [n_dv hb ha hb2, n_mul]
  have h1 := Nat.div_add_mod a b
  have h2 : b * (a / b) = a / b * b := Nat.mul_comm _ _
  rw [n_sub (by omega)]
  congr 1
  omega
/-- signs of a plate's number -/
def dg (pl p : Nat) : Nat := pl / 17 ^ (3 - p) % 17
def rst (pl t : Nat) : Nat := pl / 17 ^ t
theorem rst_s (pl t : Nat) : rst pl t / 17 = rst pl (t + 1) := by
  unfold rst
  rw [Nat.div_div_eq_div_mul, Nat.pow_succ]
theorem rst_le (pl t : Nat) : rst pl t ≤ pl := Nat.div_le_self _ _
theorem dg_r {pl t : Nat} (ht : t < 4) : rst pl t % 17 = dg pl (3 - t) := by
  unfold rst dg
  rw [show 3 - (3 - t) = t by omega]
theorem dg_lt (pl p : Nat) : dg pl p ≤ 16 := by
  have : dg pl p < 17 := Nat.mod_lt _ (by omega)
  omega
theorem c_plate {M : zM} {a i pl : Nat} (hi : i < 10) (hpl : pl < 2147483648) : ok (fX2_setPlate a (nI i) (nI pl) M) (fun M' => ((∀ p, p < 4 → M'.1 (a + 3) (i * 4 + p) = nI (dg pl p)) ∧ ∀ x, x < i * 4 → M'.1 (a + 3) x = M.1 (a + 3) x) ∧ zfr [a + 3] M M') := by
  refine ok_fr ?_ (frX2_setPlate a (nI i) (nI pl) M)
  unfold fX2_setPlate
  refine ok_up 4 (fun t x => ∃ y M', x = (nI (rst pl t), y, M') ∧ (t < 4 → y = nI (3 - t)) ∧ (t = 4 → y = jI (-1)) ∧ (∀ p, 4 ≤ p + t → p < 4 → M'.1 (a + 3) (i * 4 + p) = nI (dg pl p)) ∧ ∀ x, x < i * 4 → M'.1 (a + 3) x = M.1 (a + 3) x) ?_ ?_ zFu 0 _ (by omega) (by unfold zFu; omega) ⟨nI 3, M, by unfold rst; simp; rfl, fun _ => rfl, fun q => by omega, fun p q1 q2 => by omega, fun _ _ => rfl⟩
  · rintro rec t x ht ⟨y, M1, rfl, hy, _, h1, h2⟩ hrec
    have hr := rst_le pl t
    rw [hy ht]
    simp (disch := omega) only [e_lt, e_ltn, e_jn, e_sq, e_bi, l_0, l_1, l_2, l_3, l_4, l_5, l_6, l_7, l_8, l_9, l_10, l_11, l_12, l_13, l_14, l_15, l_16, l_17, l_18, l_19, l_20, l_21, l_22, l_23, l_24, l_25, l_26, l_27, l_28, l_29, l_30, l_31, l_32, l_33, l_34, l_35, l_36, l_37, l_38, l_39, l_40, l_41, l_48, l_50, l_56, l_57, l_59, l_60, l_63, l_64, l_70, l_97, l_99, l_122, l_128, l_190, l_220, l_255, l_320, l_500, l_999, l_1024, l_83520, l_100000, l_1000000, L_0, L_1, L_2, L_3, L_4, L_6, L_7, L_9, L_10, L_11, L_13, L_16, L_32, L_48, L_50, L_57, L_97, L_99, L_122, L_999, L_83520, L_4294967295, L_25937424601, L_1152921504606846976, ↓m_1000020, ↓m_1000012, ↓m_1000010, ↓m_1000000, ↓m_10004, ↓m_10000, ↓m_1000, ↓m_999, ↓m_99, ↓m_30, ↓m_20, ↓m_14, ↓m_12, ↓m_11, ↓m_10, ↓m_8, ↓m_4, ↓m_3, ↓m_2, ↓m_1, ↓mL_999, ↓mL_99, ↓mL_1, n_add, n_mul, nj_add, jn_add, n_sub, n_subj, nj_sub, jn_sub, nj_mul, jn_mul, if_true, if_false, jI_add, jI_sub, jI_mul, jI_neg, jL_add, jL_sub, jL_mul, jL_neg, n_l, j_l, jL_i, e_gn, e_gj, e_znn, e_znj, nn_ltT, nn_ltF, nn_leT, nn_leF, nn_eqT, nn_eqF, nj_ltT, nj_ltF, nj_leT, nj_leF, nj_eqT, nj_eqF, jn_ltT, jn_ltF, jn_leT, jn_leF, jn_eqT, jn_eqF, jj_ltT, jj_ltF, jj_leT, jj_leF, jj_eqT, jj_eqF, LL_ltT, LL_ltF, LL_leT, LL_leF, LL_eqT, LL_eqF, e_w1, e_w1s, e_w2, e_x1, e_x2, e_x2s, e_a1, e_a1s, e_a2, e_uT, e_uF, e_vT, e_vF, e_ft, e_tf, e_zbt, e_zbf, n_or, n_31, n_shl, n_bit, n_not, n_bc, n_dv, n_rm]
    rw [rst_s]
    refine hrec _ ⟨_, _, rfl, fun q => ?_, fun q => ?_, fun p q1 q2 => ?_, fun x hx => ?_⟩
    · rw [nI_j]
      congr 1
      omega
    · congr 1
      omega
    · rw [e_w1s]
      by_cases z : p = 3 - t
      · rw [e_uT (by omega), dg_r ht, z]
      · rw [e_uF (by omega)]
        exact h1 p (by omega) q2
    · rw [e_w1s, e_uF (by omega)]
      exact h2 x hx
  · rintro rec x ⟨y, M1, rfl, _, hy, h1, h2⟩
    rw [hy rfl]
    simp (disch := omega) only [e_lt, e_ltn, e_jn, e_sq, e_bi, l_0, l_1, l_2, l_3, l_4, l_5, l_6, l_7, l_8, l_9, l_10, l_11, l_12, l_13, l_14, l_15, l_16, l_17, l_18, l_19, l_20, l_21, l_22, l_23, l_24, l_25, l_26, l_27, l_28, l_29, l_30, l_31, l_32, l_33, l_34, l_35, l_36, l_37, l_38, l_39, l_40, l_41, l_48, l_50, l_56, l_57, l_59, l_60, l_63, l_64, l_70, l_97, l_99, l_122, l_128, l_190, l_220, l_255, l_320, l_500, l_999, l_1024, l_83520, l_100000, l_1000000, L_0, L_1, L_2, L_3, L_4, L_6, L_7, L_9, L_10, L_11, L_13, L_16, L_32, L_48, L_50, L_57, L_97, L_99, L_122, L_999, L_83520, L_4294967295, L_25937424601, L_1152921504606846976, ↓m_1000020, ↓m_1000012, ↓m_1000010, ↓m_1000000, ↓m_10004, ↓m_10000, ↓m_1000, ↓m_999, ↓m_99, ↓m_30, ↓m_20, ↓m_14, ↓m_12, ↓m_11, ↓m_10, ↓m_8, ↓m_4, ↓m_3, ↓m_2, ↓m_1, ↓mL_999, ↓mL_99, ↓mL_1, n_add, n_mul, nj_add, jn_add, n_sub, n_subj, nj_sub, jn_sub, nj_mul, jn_mul, if_true, if_false, jI_add, jI_sub, jI_mul, jI_neg, jL_add, jL_sub, jL_mul, jL_neg, n_l, j_l, jL_i, e_gn, e_gj, e_znn, e_znj, nn_ltT, nn_ltF, nn_leT, nn_leF, nn_eqT, nn_eqF, nj_ltT, nj_ltF, nj_leT, nj_leF, nj_eqT, nj_eqF, jn_ltT, jn_ltF, jn_leT, jn_leF, jn_eqT, jn_eqF, jj_ltT, jj_ltF, jj_leT, jj_leF, jj_eqT, jj_eqF, LL_ltT, LL_ltF, LL_leT, LL_leF, LL_eqT, LL_eqF, e_w1, e_w1s, e_w2, e_x1, e_x2, e_x2s, e_a1, e_a1s, e_a2, e_uT, e_uF, e_vT, e_vF, e_ft, e_tf, e_zbt, e_zbf, n_or, n_31, n_shl, n_bit, n_not, n_bc]
    exact ok_some ⟨fun p hp => h1 p (by omega) hp, h2⟩
theorem r_set {M : zM} {e i w : Nat} (v : Int32) (he : e < 2) (hi : i < 10) (hw : w < 6) : fX11_setIts (nI e) (nI i) (nI w) v M = some (zwI M 84 (70 + 60 * e + 6 * i + w) v) := by
  unfold fX11_setIts
  simp (disch := omega) only [e_lt, e_ltn, e_jn, e_sq, e_bi, l_0, l_1, l_2, l_3, l_4, l_5, l_6, l_7, l_8, l_9, l_10, l_11, l_12, l_13, l_14, l_15, l_16, l_17, l_18, l_19, l_20, l_21, l_22, l_23, l_24, l_25, l_26, l_27, l_28, l_29, l_30, l_31, l_32, l_33, l_34, l_35, l_36, l_37, l_38, l_39, l_40, l_41, l_48, l_50, l_56, l_57, l_59, l_60, l_63, l_64, l_70, l_97, l_99, l_122, l_128, l_190, l_220, l_255, l_320, l_500, l_999, l_1024, l_83520, l_100000, l_1000000, L_0, L_1, L_2, L_3, L_4, L_6, L_7, L_9, L_10, L_11, L_13, L_16, L_32, L_48, L_50, L_57, L_97, L_99, L_122, L_999, L_83520, L_4294967295, L_25937424601, L_1152921504606846976, ↓m_1000020, ↓m_1000012, ↓m_1000010, ↓m_1000000, ↓m_10004, ↓m_10000, ↓m_1000, ↓m_999, ↓m_99, ↓m_30, ↓m_20, ↓m_14, ↓m_12, ↓m_11, ↓m_10, ↓m_8, ↓m_4, ↓m_3, ↓m_2, ↓m_1, ↓mL_999, ↓mL_99, ↓mL_1, n_add, n_mul, nj_add, jn_add, n_sub, n_subj, nj_sub, jn_sub, nj_mul, jn_mul, if_true, if_false, jI_add, jI_sub, jI_mul, jI_neg, jL_add, jL_sub, jL_mul, jL_neg, n_l, j_l, jL_i, e_gn, e_gj, e_znn, e_znj, nn_ltT, nn_ltF, nn_leT, nn_leF, nn_eqT, nn_eqF, nj_ltT, nj_ltF, nj_leT, nj_leF, nj_eqT, nj_eqF, jn_ltT, jn_ltF, jn_leT, jn_leF, jn_eqT, jn_eqF, jj_ltT, jj_ltF, jj_leT, jj_leF, jj_eqT, jj_eqF, LL_ltT, LL_ltF, LL_leT, LL_leF, LL_eqT, LL_eqF, e_w1, e_w1s, e_w2, e_x1, e_x2, e_x2s, e_a1, e_a1s, e_a2, e_uT, e_uF, e_vT, e_vF, e_ft, e_tf, e_zbt, e_zbf, n_or, n_31, n_shl, n_bit, n_not, n_bc]
theorem q_line {M : zM} (h : RR M) (p q r s : Int32) : AG2 (fX10_line p q r s) (fX11_line p q r s) M := by
  obtain ⟨ρ, S, hsc⟩ := h.1
  obtain ⟨h1, h2, hV⟩ := id hsc
  have h1 : cR M 1 ρ S := h1
  have v1 := hV.1
  unfold AG2 fX10_line fX11_line
  have bad : ∀ (f1 f2 : Option (Int32 × zM)), f1 = some (jI (-1), M) → f2 = some (jI (-1), M) → ∃ v M1 M2, f1 = some (v, M1) ∧ f2 = some (v, M2) ∧ RR M2 := fun f1 f2 a b => ⟨_, M, M, a, b, h⟩
  rcases en p with ⟨e, he, rfl, e1, e2, e3⟩ | ⟨e1, e2⟩
  · rcases ar q 999 999 (by omega) rfl with ⟨mi, hmi, rfl, a1, a2⟩ | ⟨a1, a2, _⟩
    · rcases ar r 83520 83520 (by omega) rfl with ⟨pl, hpl, rfl, b1, b2⟩ | ⟨b1, b2, _⟩
      · rcases ar s 6 6 (by omega) rfl with ⟨cl, hcl, rfl, c1, c2⟩ | ⟨c1, c2, _⟩
        · have hcL := cR_L h1 he
          have hsz := hcL.1
          have hS10 : S (64 + e) ≤ 10 := by
            rcases (show e = 0 ∨ e = 1 by omega) with rfl | rfl
            · exact v1.1
            · exact v1.2
          have rlo : ∀ M', rR M' 0 ρ S → fX11_linesOf (nI e) (0 : Int32) M' = some (nI (S (64 + e))) := fun M' k => by
            have := rR_s k (k := 64 + e) (by omega)
            unfold fX11_linesOf
            simp (disch := omega) only [e_lt, e_ltn, e_jn, e_sq, e_bi, l_0, l_1, l_2, l_3, l_4, l_5, l_6, l_7, l_8, l_9, l_10, l_11, l_12, l_13, l_14, l_15, l_16, l_17, l_18, l_19, l_20, l_21, l_22, l_23, l_24, l_25, l_26, l_27, l_28, l_29, l_30, l_31, l_32, l_33, l_34, l_35, l_36, l_37, l_38, l_39, l_40, l_41, l_48, l_50, l_56, l_57, l_59, l_60, l_63, l_64, l_70, l_97, l_99, l_122, l_128, l_190, l_220, l_255, l_320, l_500, l_999, l_1024, l_83520, l_100000, l_1000000, L_0, L_1, L_2, L_3, L_4, L_6, L_7, L_9, L_10, L_11, L_13, L_16, L_32, L_48, L_50, L_57, L_97, L_99, L_122, L_999, L_83520, L_4294967295, L_25937424601, L_1152921504606846976, ↓m_1000020, ↓m_1000012, ↓m_1000010, ↓m_1000000, ↓m_10004, ↓m_10000, ↓m_1000, ↓m_999, ↓m_99, ↓m_30, ↓m_20, ↓m_14, ↓m_12, ↓m_11, ↓m_10, ↓m_8, ↓m_4, ↓m_3, ↓m_2, ↓m_1, ↓mL_999, ↓mL_99, ↓mL_1, n_add, n_mul, nj_add, jn_add, n_sub, n_subj, nj_sub, jn_sub, nj_mul, jn_mul, if_true, if_false, jI_add, jI_sub, jI_mul, jI_neg, jL_add, jL_sub, jL_mul, jL_neg, n_l, j_l, jL_i, e_gn, e_gj, e_znn, e_znj, nn_ltT, nn_ltF, nn_leT, nn_leF, nn_eqT, nn_eqF, nj_ltT, nj_ltF, nj_leT, nj_leF, nj_eqT, nj_eqF, jn_ltT, jn_ltF, jn_leT, jn_leF, jn_eqT, jn_eqF, jj_ltT, jj_ltF, jj_leT, jj_leF, jj_eqT, jj_eqF, LL_ltT, LL_ltF, LL_leT, LL_leF, LL_eqT, LL_eqF, e_w1, e_w1s, e_w2, e_x1, e_x2, e_x2s, e_a1, e_a1s, e_a2, e_uT, e_uF, e_vT, e_vF, e_ft, e_tf, e_zbt, e_zbf, n_or, n_31, n_shl, n_bit, n_not, n_bc, this, Nat.add_zero]
          by_cases full : S (64 + e) = 10
          · refine ⟨jI (-3), M, M, ?_, ?_, h⟩
            · rw [e1, l_0, l_999, a1, l_83520, b1, l_6, c1, e3]
              simp (disch := omega) only [e_lt, e_ltn, e_jn, e_sq, e_bi, l_0, l_1, l_2, l_3, l_4, l_5, l_6, l_7, l_8, l_9, l_10, l_11, l_12, l_13, l_14, l_15, l_16, l_17, l_18, l_19, l_20, l_21, l_22, l_23, l_24, l_25, l_26, l_27, l_28, l_29, l_30, l_31, l_32, l_33, l_34, l_35, l_36, l_37, l_38, l_39, l_40, l_41, l_48, l_50, l_56, l_57, l_59, l_60, l_63, l_64, l_70, l_97, l_99, l_122, l_128, l_190, l_220, l_255, l_320, l_500, l_999, l_1024, l_83520, l_100000, l_1000000, L_0, L_1, L_2, L_3, L_4, L_6, L_7, L_9, L_10, L_11, L_13, L_16, L_32, L_48, L_50, L_57, L_97, L_99, L_122, L_999, L_83520, L_4294967295, L_25937424601, L_1152921504606846976, ↓m_1000020, ↓m_1000012, ↓m_1000010, ↓m_1000000, ↓m_10004, ↓m_10000, ↓m_1000, ↓m_999, ↓m_99, ↓m_30, ↓m_20, ↓m_14, ↓m_12, ↓m_11, ↓m_10, ↓m_8, ↓m_4, ↓m_3, ↓m_2, ↓m_1, ↓mL_999, ↓mL_99, ↓mL_1, n_add, n_mul, nj_add, jn_add, n_sub, n_subj, nj_sub, jn_sub, nj_mul, jn_mul, if_true, if_false, jI_add, jI_sub, jI_mul, jI_neg, jL_add, jL_sub, jL_mul, jL_neg, n_l, j_l, jL_i, e_gn, e_gj, e_znn, e_znj, nn_ltT, nn_ltF, nn_leT, nn_leF, nn_eqT, nn_eqF, nj_ltT, nj_ltF, nj_leT, nj_leF, nj_eqT, nj_eqF, jn_ltT, jn_ltF, jn_leT, jn_leF, jn_eqT, jn_eqF, jj_ltT, jj_ltF, jj_leT, jj_leF, jj_eqT, jj_eqF, LL_ltT, LL_ltF, LL_leT, LL_leF, LL_eqT, LL_eqF, e_w1, e_w1s, e_w2, e_x1, e_x2, e_x2s, e_a1, e_a1s, e_a2, e_uT, e_uF, e_vT, e_vF, e_ft, e_tf, e_zbt, e_zbf, n_or, n_31, n_shl, n_bit, n_not, n_bc, hsz]
            · rw [e2, L_0, L_999, a2, L_83520, b2, L_6, c2, rlo M h2]
              simp (disch := omega) only [e_lt, e_ltn, e_jn, e_sq, e_bi, l_0, l_1, l_2, l_3, l_4, l_5, l_6, l_7, l_8, l_9, l_10, l_11, l_12, l_13, l_14, l_15, l_16, l_17, l_18, l_19, l_20, l_21, l_22, l_23, l_24, l_25, l_26, l_27, l_28, l_29, l_30, l_31, l_32, l_33, l_34, l_35, l_36, l_37, l_38, l_39, l_40, l_41, l_48, l_50, l_56, l_57, l_59, l_60, l_63, l_64, l_70, l_97, l_99, l_122, l_128, l_190, l_220, l_255, l_320, l_500, l_999, l_1024, l_83520, l_100000, l_1000000, L_0, L_1, L_2, L_3, L_4, L_6, L_7, L_9, L_10, L_11, L_13, L_16, L_32, L_48, L_50, L_57, L_97, L_99, L_122, L_999, L_83520, L_4294967295, L_25937424601, L_1152921504606846976, ↓m_1000020, ↓m_1000012, ↓m_1000010, ↓m_1000000, ↓m_10004, ↓m_10000, ↓m_1000, ↓m_999, ↓m_99, ↓m_30, ↓m_20, ↓m_14, ↓m_12, ↓m_11, ↓m_10, ↓m_8, ↓m_4, ↓m_3, ↓m_2, ↓m_1, ↓mL_999, ↓mL_99, ↓mL_1, n_add, n_mul, nj_add, jn_add, n_sub, n_subj, nj_sub, jn_sub, nj_mul, jn_mul, if_true, if_false, jI_add, jI_sub, jI_mul, jI_neg, jL_add, jL_sub, jL_mul, jL_neg, n_l, j_l, jL_i, e_gn, e_gj, e_znn, e_znj, nn_ltT, nn_ltF, nn_leT, nn_leF, nn_eqT, nn_eqF, nj_ltT, nj_ltF, nj_leT, nj_leF, nj_eqT, nj_eqF, jn_ltT, jn_ltF, jn_leT, jn_leF, jn_eqT, jn_eqF, jj_ltT, jj_ltF, jj_leT, jj_leF, jj_eqT, jj_eqF, LL_ltT, LL_ltF, LL_leT, LL_leF, LL_eqT, LL_eqF, e_w1, e_w1s, e_w2, e_x1, e_x2, e_x2s, e_a1, e_a1s, e_a2, e_uT, e_uF, e_vT, e_vF, e_ft, e_tf, e_zbt, e_zbf, n_or, n_31, n_shl, n_bit, n_not, n_bc]
          · -- the class
            obtain ⟨n, hn⟩ : ∃ n, n = S (64 + e) := ⟨_, rfl⟩
            rw [← hn] at hsz full hS10
            obtain ⟨Ma, hMa⟩ : ∃ Ma, Ma = zwI (zwI (zwI M (2 + 4 * e + 1) n (nI mi)) (2 + 4 * e + 2) n (nI cl)) (2 + 4 * e) 0 (nI (n + 1)) := ⟨_, rfl⟩
            have happ : fX2_append (2 + 4 * e) (nI mi) (nI cl) M = some (nI n, Ma) := by
              unfold fX2_append
              simp (disch := omega) only [e_lt, e_ltn, e_jn, e_sq, e_bi, l_0, l_1, l_2, l_3, l_4, l_5, l_6, l_7, l_8, l_9, l_10, l_11, l_12, l_13, l_14, l_15, l_16, l_17, l_18, l_19, l_20, l_21, l_22, l_23, l_24, l_25, l_26, l_27, l_28, l_29, l_30, l_31, l_32, l_33, l_34, l_35, l_36, l_37, l_38, l_39, l_40, l_41, l_48, l_50, l_56, l_57, l_59, l_60, l_63, l_64, l_70, l_97, l_99, l_122, l_128, l_190, l_220, l_255, l_320, l_500, l_999, l_1024, l_83520, l_100000, l_1000000, L_0, L_1, L_2, L_3, L_4, L_6, L_7, L_9, L_10, L_11, L_13, L_16, L_32, L_48, L_50, L_57, L_97, L_99, L_122, L_999, L_83520, L_4294967295, L_25937424601, L_1152921504606846976, ↓m_1000020, ↓m_1000012, ↓m_1000010, ↓m_1000000, ↓m_10004, ↓m_10000, ↓m_1000, ↓m_999, ↓m_99, ↓m_30, ↓m_20, ↓m_14, ↓m_12, ↓m_11, ↓m_10, ↓m_8, ↓m_4, ↓m_3, ↓m_2, ↓m_1, ↓mL_999, ↓mL_99, ↓mL_1, n_add, n_mul, nj_add, jn_add, n_sub, n_subj, nj_sub, jn_sub, nj_mul, jn_mul, if_true, if_false, jI_add, jI_sub, jI_mul, jI_neg, jL_add, jL_sub, jL_mul, jL_neg, n_l, j_l, jL_i, e_gn, e_gj, e_znn, e_znj, nn_ltT, nn_ltF, nn_leT, nn_leF, nn_eqT, nn_eqF, nj_ltT, nj_ltF, nj_leT, nj_leF, nj_eqT, nj_eqF, jn_ltT, jn_ltF, jn_leT, jn_leF, jn_eqT, jn_eqF, jj_ltT, jj_ltF, jj_leT, jj_leF, jj_eqT, jj_eqF, LL_ltT, LL_ltF, LL_leT, LL_leF, LL_eqT, LL_eqF, e_w1, e_w1s, e_w2, e_x1, e_x2, e_x2s, e_a1, e_a1s, e_a2, e_uT, e_uF, e_vT, e_vF, e_ft, e_tf, e_zbt, e_zbf, n_or, n_31, n_shl, n_bit, n_not, n_bc, hsz]
              rw [hMa]
            obtain ⟨Mb, p1, ⟨p2, p3⟩, p4⟩ := c_plate (M := Ma) (a := 2 + 4 * e) (i := n) (pl := pl) (by omega) (by omega)
            have hca : ∀ c, c ≠ 2 + 4 * e → c ≠ 2 + 4 * e + 1 → c ≠ 2 + 4 * e + 2 → c ≠ 2 + 4 * e + 3 → Mb.1 c = M.1 c := fun c w1 w2 w3 w4 => by
              rw [(p4 c (by simp; omega)).1, hMa]
              simp (disch := omega) only [e_lt, e_ltn, e_jn, e_sq, e_bi, l_0, l_1, l_2, l_3, l_4, l_5, l_6, l_7, l_8, l_9, l_10, l_11, l_12, l_13, l_14, l_15, l_16, l_17, l_18, l_19, l_20, l_21, l_22, l_23, l_24, l_25, l_26, l_27, l_28, l_29, l_30, l_31, l_32, l_33, l_34, l_35, l_36, l_37, l_38, l_39, l_40, l_41, l_48, l_50, l_56, l_57, l_59, l_60, l_63, l_64, l_70, l_97, l_99, l_122, l_128, l_190, l_220, l_255, l_320, l_500, l_999, l_1024, l_83520, l_100000, l_1000000, L_0, L_1, L_2, L_3, L_4, L_6, L_7, L_9, L_10, L_11, L_13, L_16, L_32, L_48, L_50, L_57, L_97, L_99, L_122, L_999, L_83520, L_4294967295, L_25937424601, L_1152921504606846976, ↓m_1000020, ↓m_1000012, ↓m_1000010, ↓m_1000000, ↓m_10004, ↓m_10000, ↓m_1000, ↓m_999, ↓m_99, ↓m_30, ↓m_20, ↓m_14, ↓m_12, ↓m_11, ↓m_10, ↓m_8, ↓m_4, ↓m_3, ↓m_2, ↓m_1, ↓mL_999, ↓mL_99, ↓mL_1, n_add, n_mul, nj_add, jn_add, n_sub, n_subj, nj_sub, jn_sub, nj_mul, jn_mul, if_true, if_false, jI_add, jI_sub, jI_mul, jI_neg, jL_add, jL_sub, jL_mul, jL_neg, n_l, j_l, jL_i, e_gn, e_gj, e_znn, e_znj, nn_ltT, nn_ltF, nn_leT, nn_leF, nn_eqT, nn_eqF, nj_ltT, nj_ltF, nj_leT, nj_leF, nj_eqT, nj_eqF, jn_ltT, jn_ltF, jn_leT, jn_leF, jn_eqT, jn_eqF, jj_ltT, jj_ltF, jj_leT, jj_leF, jj_eqT, jj_eqF, LL_ltT, LL_ltF, LL_leT, LL_leF, LL_eqT, LL_eqF, e_w1, e_w1s, e_w2, e_x1, e_x2, e_x2s, e_a1, e_a1s, e_a2, e_uT, e_uF, e_vT, e_vF, e_ft, e_tf, e_zbt, e_zbf, n_or, n_31, n_shl, n_bit, n_not, n_bc]
            have r2b : rR Mb 0 ρ S := ⟨fun x hx => by rw [hca 84 (by omega) (by omega) (by omega) (by omega)]; exact h2.1 x hx, fun x hx => by rw [hca 81 (by omega) (by omega) (by omega) (by omega)]; exact h2.2 x hx⟩
            -- the reference
            have hrl : ok (zlp (α := Int32 × Int32 × zM) (β := zM) (fun rec10 => (fun (u19 : Int32 × Int32 × zM) => match u19 with | (x7, x8, M9) => if x8 ≤ 0 then (some M9) else (sq (fX11_setIts (nI e) (nI n) x8 (zrm_i x7 (17 : Int32)) M9) (fun (M14 : zM) => lt ((x7 / (17 : Int32))) (fun (x15 : Int32) => rec10 (x15, (x8 + (-1 : Int32)), M14)))))) zFu (nI pl, (4 : Int32), zwI Mb 84 (70 + 60 * e + 6 * n + 0) (nI mi))) (fun M' => (∀ c, c ≠ 84 → M'.1 c = Mb.1 c) ∧ (∀ p, p < 4 → M'.1 84 (70 + 60 * e + 6 * n + (p + 1)) = nI (dg pl p)) ∧ ∀ x, (x < 70 + 60 * e + 6 * n + 1 ∨ 70 + 60 * e + 6 * n + 5 ≤ x) → M'.1 84 x = (zwI Mb 84 (70 + 60 * e + 6 * n + 0) (nI mi)).1 84 x) := by
              refine ok_up 4 (fun t x => ∃ M', x = (nI (rst pl t), nI (4 - t), M') ∧ (∀ c, c ≠ 84 → M'.1 c = Mb.1 c) ∧ (∀ p, 4 ≤ p + t → p < 4 → M'.1 84 (70 + 60 * e + 6 * n + (p + 1)) = nI (dg pl p)) ∧ ∀ x, (x < 70 + 60 * e + 6 * n + 1 ∨ 70 + 60 * e + 6 * n + 5 ≤ x) → M'.1 84 x = (zwI Mb 84 (70 + 60 * e + 6 * n + 0) (nI mi)).1 84 x) ?_ ?_ zFu 0 _ (by omega) (by unfold zFu; omega) ⟨_, by unfold rst; simp; rfl, fun c hc => by rw [e_w1 _ _ _ hc], fun p q1 q2 => by omega, fun _ _ => rfl⟩
              · rintro rec t x ht ⟨M1, rfl, o1, o2, o3⟩ hrec
                have hr := rst_le pl t
                have hs := r_set (M := M1) (e := e) (i := n) (w := 4 - t) (nI (dg pl (3 - t))) he (by omega) (by omega)
                have hnx : nI (4 - t) + jI (-1) = nI (4 - (t + 1)) := by
                  rw [nj_add, nI_j]
                  congr 1
                  omega
                dsimp only
                rw [l_17, n_rm (by omega) (by omega) (by omega), dg_r ht, n_dv (by omega) (by omega) (by omega), rst_s, hs, m_1, hnx, l_0, nn_leF (by omega), e_sq, e_lt]
                refine hrec _ ⟨_, rfl, fun c hc => by rw [e_w1 _ _ _ hc]; exact o1 c hc, fun p q1 q2 => ?_, fun x hx => ?_⟩
                · rw [e_w1s]
                  by_cases z : p = 3 - t
                  · rw [e_uT (by omega), z]
                  · rw [e_uF (by omega)]
                    exact o2 p (by omega) q2
                · rw [e_w1s, e_uF (by omega)]
                  exact o3 x hx
              · rintro rec x ⟨M1, rfl, o1, o2, o3⟩
                simp (disch := omega) only [e_lt, e_ltn, e_jn, e_sq, e_bi, l_0, l_1, l_2, l_3, l_4, l_5, l_6, l_7, l_8, l_9, l_10, l_11, l_12, l_13, l_14, l_15, l_16, l_17, l_18, l_19, l_20, l_21, l_22, l_23, l_24, l_25, l_26, l_27, l_28, l_29, l_30, l_31, l_32, l_33, l_34, l_35, l_36, l_37, l_38, l_39, l_40, l_41, l_48, l_50, l_56, l_57, l_59, l_60, l_63, l_64, l_70, l_97, l_99, l_122, l_128, l_190, l_220, l_255, l_320, l_500, l_999, l_1024, l_83520, l_100000, l_1000000, L_0, L_1, L_2, L_3, L_4, L_6, L_7, L_9, L_10, L_11, L_13, L_16, L_32, L_48, L_50, L_57, L_97, L_99, L_122, L_999, L_83520, L_4294967295, L_25937424601, L_1152921504606846976, ↓m_1000020, ↓m_1000012, ↓m_1000010, ↓m_1000000, ↓m_10004, ↓m_10000, ↓m_1000, ↓m_999, ↓m_99, ↓m_30, ↓m_20, ↓m_14, ↓m_12, ↓m_11, ↓m_10, ↓m_8, ↓m_4, ↓m_3, ↓m_2, ↓m_1, ↓mL_999, ↓mL_99, ↓mL_1, n_add, n_mul, nj_add, jn_add, n_sub, n_subj, nj_sub, jn_sub, nj_mul, jn_mul, if_true, if_false, jI_add, jI_sub, jI_mul, jI_neg, jL_add, jL_sub, jL_mul, jL_neg, n_l, j_l, jL_i, e_gn, e_gj, e_znn, e_znj, nn_ltT, nn_ltF, nn_leT, nn_leF, nn_eqT, nn_eqF, nj_ltT, nj_ltF, nj_leT, nj_leF, nj_eqT, nj_eqF, jn_ltT, jn_ltF, jn_leT, jn_leF, jn_eqT, jn_eqF, jj_ltT, jj_ltF, jj_leT, jj_leF, jj_eqT, jj_eqF, LL_ltT, LL_ltF, LL_leT, LL_leF, LL_eqT, LL_eqF, e_w1, e_w1s, e_w2, e_x1, e_x2, e_x2s, e_a1, e_a1s, e_a2, e_uT, e_uF, e_vT, e_vF, e_ft, e_tf, e_zbt, e_zbf, n_or, n_31, n_shl, n_bit, n_not, n_bc, Nat.sub_self]
                exact ok_some ⟨o1, fun p hp => o2 p (by omega) hp, o3⟩
            obtain ⟨Mc, d1, d2, d3, d4⟩ := hrl
            have e64 : Mc.1 84 (64 + e) = nI n := by
              rw [d4 _ (by omega), e_w1s, e_uF (by omega), hn]
              exact rR_s r2b (by omega)
            obtain ⟨Md, hMd⟩ : ∃ Md, Md = zwI (zwI Mc 84 (70 + 60 * e + 6 * n + 5) (nI cl)) 84 (64 + e) (nI (n + 1)) := ⟨_, rfl⟩
            refine ⟨nI n, Mb, Md, ?_, ?_, ?_⟩
            · rw [e1, l_0, l_999, a1, l_83520, b1, l_6, c1, e3]
              simp (disch := omega) only [e_lt, e_ltn, e_jn, e_sq, e_bi, l_0, l_1, l_2, l_3, l_4, l_5, l_6, l_7, l_8, l_9, l_10, l_11, l_12, l_13, l_14, l_15, l_16, l_17, l_18, l_19, l_20, l_21, l_22, l_23, l_24, l_25, l_26, l_27, l_28, l_29, l_30, l_31, l_32, l_33, l_34, l_35, l_36, l_37, l_38, l_39, l_40, l_41, l_48, l_50, l_56, l_57, l_59, l_60, l_63, l_64, l_70, l_97, l_99, l_122, l_128, l_190, l_220, l_255, l_320, l_500, l_999, l_1024, l_83520, l_100000, l_1000000, L_0, L_1, L_2, L_3, L_4, L_6, L_7, L_9, L_10, L_11, L_13, L_16, L_32, L_48, L_50, L_57, L_97, L_99, L_122, L_999, L_83520, L_4294967295, L_25937424601, L_1152921504606846976, ↓m_1000020, ↓m_1000012, ↓m_1000010, ↓m_1000000, ↓m_10004, ↓m_10000, ↓m_1000, ↓m_999, ↓m_99, ↓m_30, ↓m_20, ↓m_14, ↓m_12, ↓m_11, ↓m_10, ↓m_8, ↓m_4, ↓m_3, ↓m_2, ↓m_1, ↓mL_999, ↓mL_99, ↓mL_1, n_add, n_mul, nj_add, jn_add, n_sub, n_subj, nj_sub, jn_sub, nj_mul, jn_mul, if_true, if_false, jI_add, jI_sub, jI_mul, jI_neg, jL_add, jL_sub, jL_mul, jL_neg, n_l, j_l, jL_i, e_gn, e_gj, e_znn, e_znj, nn_ltT, nn_ltF, nn_leT, nn_leF, nn_eqT, nn_eqF, nj_ltT, nj_ltF, nj_leT, nj_leF, nj_eqT, nj_eqF, jn_ltT, jn_ltF, jn_leT, jn_leF, jn_eqT, jn_eqF, jj_ltT, jj_ltF, jj_leT, jj_leF, jj_eqT, jj_eqF, LL_ltT, LL_ltF, LL_leT, LL_leF, LL_eqT, LL_eqF, e_w1, e_w1s, e_w2, e_x1, e_x2, e_x2s, e_a1, e_a1s, e_a2, e_uT, e_uF, e_vT, e_vF, e_ft, e_tf, e_zbt, e_zbf, n_or, n_31, n_shl, n_bit, n_not, n_bc, hsz, happ, p1]
            · have hs0 := r_set (M := Mb) (e := e) (i := n) (w := 0) (nI mi) he (by omega) (by omega)
              have hs5 := r_set (M := Mc) (e := e) (i := n) (w := 5) (nI cl) he (by omega) (by omega)
              have e10 : ¬ nI n = (10 : Int32) := by rw [l_10, nI_ne (by omega) (by omega)]; omega
              have ef0 : (0 : Int32) = nI 0 := rfl
              have hs0' : fX11_setIts (nI e) (nI n) (0 : Int32) (nI mi) Mb = some (zwI Mb 84 (70 + 60 * e + 6 * n + 0) (nI mi)) := hs0
              have hs5' : fX11_setIts (nI e) (nI n) (5 : Int32) (nI cl) Mc = some (zwI Mc 84 (70 + 60 * e + 6 * n + 5) (nI cl)) := hs5
              rw [e2, L_0, L_999, a2, L_83520, b2, L_6, c2, rlo Mb r2b, ← hn]
              rw [e_lt, if_neg (by decide), e_lt, if_neg (by decide), e_lt, if_neg (by decide), e_lt, if_neg (by decide), e_sq, if_neg e10, hs0', e_sq, d1, e_sq, hs5', e_sq]
              simp (disch := omega) only [e_lt, e_ltn, e_jn, e_sq, e_bi, l_0, l_1, l_2, l_3, l_4, l_5, l_6, l_7, l_8, l_9, l_10, l_11, l_12, l_13, l_14, l_15, l_16, l_17, l_18, l_19, l_20, l_21, l_22, l_23, l_24, l_25, l_26, l_27, l_28, l_29, l_30, l_31, l_32, l_33, l_34, l_35, l_36, l_37, l_38, l_39, l_40, l_41, l_48, l_50, l_56, l_57, l_59, l_60, l_63, l_64, l_70, l_97, l_99, l_122, l_128, l_190, l_220, l_255, l_320, l_500, l_999, l_1024, l_83520, l_100000, l_1000000, L_0, L_1, L_2, L_3, L_4, L_6, L_7, L_9, L_10, L_11, L_13, L_16, L_32, L_48, L_50, L_57, L_97, L_99, L_122, L_999, L_83520, L_4294967295, L_25937424601, L_1152921504606846976, ↓m_1000020, ↓m_1000012, ↓m_1000010, ↓m_1000000, ↓m_10004, ↓m_10000, ↓m_1000, ↓m_999, ↓m_99, ↓m_30, ↓m_20, ↓m_14, ↓m_12, ↓m_11, ↓m_10, ↓m_8, ↓m_4, ↓m_3, ↓m_2, ↓m_1, ↓mL_999, ↓mL_99, ↓mL_1, n_add, n_mul, nj_add, jn_add, n_sub, n_subj, nj_sub, jn_sub, nj_mul, jn_mul, if_true, if_false, jI_add, jI_sub, jI_mul, jI_neg, jL_add, jL_sub, jL_mul, jL_neg, n_l, j_l, jL_i, e_gn, e_gj, e_znn, e_znj, nn_ltT, nn_ltF, nn_leT, nn_leF, nn_eqT, nn_eqF, nj_ltT, nj_ltF, nj_leT, nj_leF, nj_eqT, nj_eqF, jn_ltT, jn_ltF, jn_leT, jn_leF, jn_eqT, jn_eqF, jj_ltT, jj_ltF, jj_leT, jj_leF, jj_eqT, jj_eqF, LL_ltT, LL_ltF, LL_leT, LL_leF, LL_eqT, LL_eqF, e_w1, e_w1s, e_w2, e_x1, e_x2, e_x2s, e_a1, e_a1s, e_a2, e_uT, e_uF, e_vT, e_vF, e_ft, e_tf, e_zbt, e_zbf, n_or, n_31, n_shl, n_bit, n_not, n_bc, e64]
              rw [hMd]
            · -- the new scene
              obtain ⟨S', q1, q2, q3, q4, q5⟩ : ∃ S' : Nat → Nat, (∀ x, x ≠ 64 + e → (x < 70 + 60 * e + 6 * n ∨ 70 + 60 * e + 6 * n + 6 ≤ x) → S' x = S x) ∧ S' (64 + e) = n + 1 ∧ S' (70 + 60 * e + 6 * n + 0) = mi ∧ S' (70 + 60 * e + 6 * n + 5) = cl ∧ ∀ p, p < 4 → S' (70 + 60 * e + 6 * n + (p + 1)) = dg pl p := by
                refine ⟨fun x => if x = 64 + e then n + 1 else if x = 70 + 60 * e + 6 * n then mi else if x = 70 + 60 * e + 6 * n + 5 then cl else if 70 + 60 * e + 6 * n < x ∧ x < 70 + 60 * e + 6 * n + 5 then dg pl (x - (70 + 60 * e + 6 * n + 1)) else S x, fun x w1 w2 => ?_, ?_, ?_, ?_, fun p hp => ?_⟩
                · (try dsimp only); rw [if_neg w1, if_neg (by omega), if_neg (by omega), if_neg (by omega)]
                · (try dsimp only); rw [if_pos rfl]
                · (try dsimp only); rw [if_neg (by omega), if_pos (by omega)]
                · (try dsimp only); rw [if_neg (by omega), if_neg (by omega), if_pos rfl]
                · (try dsimp only); rw [if_neg (by omega), if_neg (by omega), if_neg (by omega), if_pos (by omega)]; congr 1; omega
              have hMdc : ∀ c, c ≠ 84 → Md.1 c = Mb.1 c := fun c hc => by rw [hMd, e_w1 _ _ _ hc, e_w1 _ _ _ hc, d2 c hc]
              have hMd84 : ∀ x, x < 660 → x ≠ 64 + e → (x < 70 + 60 * e + 6 * n ∨ 70 + 60 * e + 6 * n + 6 ≤ x) → Md.1 84 x = M.1 84 x := fun x _ w1 w2 => by
                rw [hMd, e_w1s, e_uF w1, e_w1s, e_uF (by omega), d4 x (by omega), e_w1s, e_uF (by omega), hca 84 (by omega) (by omega) (by omega) (by omega)]
              -- lines of an end
              have hend : ∀ e', e' < 2 → cL Md (2 + 4 * e') e' S' := fun e' he' => by
                obtain ⟨b1', b2'⟩ := cR_L h1 he'
                have hS10' : S (64 + e') ≤ 10 := by
                  rcases (show e' = 0 ∨ e' = 1 by omega) with rfl | rfl
                  · exact v1.1
                  · exact v1.2
                by_cases ee : e' = e
                · subst ee
                  refine ⟨?_, fun i' hi' => ?_⟩
                  · rw [q2, hMdc _ (by omega), (p4 _ (by simp)).1, hMa]
                    simp (disch := omega) only [e_lt, e_ltn, e_jn, e_sq, e_bi, l_0, l_1, l_2, l_3, l_4, l_5, l_6, l_7, l_8, l_9, l_10, l_11, l_12, l_13, l_14, l_15, l_16, l_17, l_18, l_19, l_20, l_21, l_22, l_23, l_24, l_25, l_26, l_27, l_28, l_29, l_30, l_31, l_32, l_33, l_34, l_35, l_36, l_37, l_38, l_39, l_40, l_41, l_48, l_50, l_56, l_57, l_59, l_60, l_63, l_64, l_70, l_97, l_99, l_122, l_128, l_190, l_220, l_255, l_320, l_500, l_999, l_1024, l_83520, l_100000, l_1000000, L_0, L_1, L_2, L_3, L_4, L_6, L_7, L_9, L_10, L_11, L_13, L_16, L_32, L_48, L_50, L_57, L_97, L_99, L_122, L_999, L_83520, L_4294967295, L_25937424601, L_1152921504606846976, ↓m_1000020, ↓m_1000012, ↓m_1000010, ↓m_1000000, ↓m_10004, ↓m_10000, ↓m_1000, ↓m_999, ↓m_99, ↓m_30, ↓m_20, ↓m_14, ↓m_12, ↓m_11, ↓m_10, ↓m_8, ↓m_4, ↓m_3, ↓m_2, ↓m_1, ↓mL_999, ↓mL_99, ↓mL_1, n_add, n_mul, nj_add, jn_add, n_sub, n_subj, nj_sub, jn_sub, nj_mul, jn_mul, if_true, if_false, jI_add, jI_sub, jI_mul, jI_neg, jL_add, jL_sub, jL_mul, jL_neg, n_l, j_l, jL_i, e_gn, e_gj, e_znn, e_znj, nn_ltT, nn_ltF, nn_leT, nn_leF, nn_eqT, nn_eqF, nj_ltT, nj_ltF, nj_leT, nj_leF, nj_eqT, nj_eqF, jn_ltT, jn_ltF, jn_leT, jn_leF, jn_eqT, jn_eqF, jj_ltT, jj_ltF, jj_leT, jj_leF, jj_eqT, jj_eqF, LL_ltT, LL_ltF, LL_leT, LL_leF, LL_eqT, LL_eqF, e_w1, e_w1s, e_w2, e_x1, e_x2, e_x2s, e_a1, e_a1s, e_a2, e_uT, e_uF, e_vT, e_vF, e_ft, e_tf, e_zbt, e_zbf, n_or, n_31, n_shl, n_bit, n_not, n_bc]
                  · rw [q2] at hi'
                    by_cases z : i' = n
                    · subst z
                      refine ⟨?_, ?_, fun p hp => ?_⟩
                      · rw [q3, hMdc _ (by omega), (p4 _ (by simp)).1, hMa]
                        simp (disch := omega) only [e_lt, e_ltn, e_jn, e_sq, e_bi, l_0, l_1, l_2, l_3, l_4, l_5, l_6, l_7, l_8, l_9, l_10, l_11, l_12, l_13, l_14, l_15, l_16, l_17, l_18, l_19, l_20, l_21, l_22, l_23, l_24, l_25, l_26, l_27, l_28, l_29, l_30, l_31, l_32, l_33, l_34, l_35, l_36, l_37, l_38, l_39, l_40, l_41, l_48, l_50, l_56, l_57, l_59, l_60, l_63, l_64, l_70, l_97, l_99, l_122, l_128, l_190, l_220, l_255, l_320, l_500, l_999, l_1024, l_83520, l_100000, l_1000000, L_0, L_1, L_2, L_3, L_4, L_6, L_7, L_9, L_10, L_11, L_13, L_16, L_32, L_48, L_50, L_57, L_97, L_99, L_122, L_999, L_83520, L_4294967295, L_25937424601, L_1152921504606846976, ↓m_1000020, ↓m_1000012, ↓m_1000010, ↓m_1000000, ↓m_10004, ↓m_10000, ↓m_1000, ↓m_999, ↓m_99, ↓m_30, ↓m_20, ↓m_14, ↓m_12, ↓m_11, ↓m_10, ↓m_8, ↓m_4, ↓m_3, ↓m_2, ↓m_1, ↓mL_999, ↓mL_99, ↓mL_1, n_add, n_mul, nj_add, jn_add, n_sub, n_subj, nj_sub, jn_sub, nj_mul, jn_mul, if_true, if_false, jI_add, jI_sub, jI_mul, jI_neg, jL_add, jL_sub, jL_mul, jL_neg, n_l, j_l, jL_i, e_gn, e_gj, e_znn, e_znj, nn_ltT, nn_ltF, nn_leT, nn_leF, nn_eqT, nn_eqF, nj_ltT, nj_ltF, nj_leT, nj_leF, nj_eqT, nj_eqF, jn_ltT, jn_ltF, jn_leT, jn_leF, jn_eqT, jn_eqF, jj_ltT, jj_ltF, jj_leT, jj_leF, jj_eqT, jj_eqF, LL_ltT, LL_ltF, LL_leT, LL_leF, LL_eqT, LL_eqF, e_w1, e_w1s, e_w2, e_x1, e_x2, e_x2s, e_a1, e_a1s, e_a2, e_uT, e_uF, e_vT, e_vF, e_ft, e_tf, e_zbt, e_zbf, n_or, n_31, n_shl, n_bit, n_not, n_bc]
                      · rw [q4, hMdc _ (by omega), (p4 _ (by simp)).1, hMa]
                        simp (disch := omega) only [e_lt, e_ltn, e_jn, e_sq, e_bi, l_0, l_1, l_2, l_3, l_4, l_5, l_6, l_7, l_8, l_9, l_10, l_11, l_12, l_13, l_14, l_15, l_16, l_17, l_18, l_19, l_20, l_21, l_22, l_23, l_24, l_25, l_26, l_27, l_28, l_29, l_30, l_31, l_32, l_33, l_34, l_35, l_36, l_37, l_38, l_39, l_40, l_41, l_48, l_50, l_56, l_57, l_59, l_60, l_63, l_64, l_70, l_97, l_99, l_122, l_128, l_190, l_220, l_255, l_320, l_500, l_999, l_1024, l_83520, l_100000, l_1000000, L_0, L_1, L_2, L_3, L_4, L_6, L_7, L_9, L_10, L_11, L_13, L_16, L_32, L_48, L_50, L_57, L_97, L_99, L_122, L_999, L_83520, L_4294967295, L_25937424601, L_1152921504606846976, ↓m_1000020, ↓m_1000012, ↓m_1000010, ↓m_1000000, ↓m_10004, ↓m_10000, ↓m_1000, ↓m_999, ↓m_99, ↓m_30, ↓m_20, ↓m_14, ↓m_12, ↓m_11, ↓m_10, ↓m_8, ↓m_4, ↓m_3, ↓m_2, ↓m_1, ↓mL_999, ↓mL_99, ↓mL_1, n_add, n_mul, nj_add, jn_add, n_sub, n_subj, nj_sub, jn_sub, nj_mul, jn_mul, if_true, if_false, jI_add, jI_sub, jI_mul, jI_neg, jL_add, jL_sub, jL_mul, jL_neg, n_l, j_l, jL_i, e_gn, e_gj, e_znn, e_znj, nn_ltT, nn_ltF, nn_leT, nn_leF, nn_eqT, nn_eqF, nj_ltT, nj_ltF, nj_leT, nj_leF, nj_eqT, nj_eqF, jn_ltT, jn_ltF, jn_leT, jn_leF, jn_eqT, jn_eqF, jj_ltT, jj_ltF, jj_leT, jj_leF, jj_eqT, jj_eqF, LL_ltT, LL_ltF, LL_leT, LL_leF, LL_eqT, LL_eqF, e_w1, e_w1s, e_w2, e_x1, e_x2, e_x2s, e_a1, e_a1s, e_a2, e_uT, e_uF, e_vT, e_vF, e_ft, e_tf, e_zbt, e_zbf, n_or, n_31, n_shl, n_bit, n_not, n_bc]
                      · rw [q5 p hp, hMdc _ (by omega)]
                        exact p2 p hp
                    · obtain ⟨c1', c2', c3'⟩ := b2' i' (by omega)
                      refine ⟨?_, ?_, fun p hp => ?_⟩
                      · rw [q1 _ (by omega) (by omega), hMdc _ (by omega), (p4 _ (by simp)).1, hMa]
                        simp (disch := omega) only [e_lt, e_ltn, e_jn, e_sq, e_bi, l_0, l_1, l_2, l_3, l_4, l_5, l_6, l_7, l_8, l_9, l_10, l_11, l_12, l_13, l_14, l_15, l_16, l_17, l_18, l_19, l_20, l_21, l_22, l_23, l_24, l_25, l_26, l_27, l_28, l_29, l_30, l_31, l_32, l_33, l_34, l_35, l_36, l_37, l_38, l_39, l_40, l_41, l_48, l_50, l_56, l_57, l_59, l_60, l_63, l_64, l_70, l_97, l_99, l_122, l_128, l_190, l_220, l_255, l_320, l_500, l_999, l_1024, l_83520, l_100000, l_1000000, L_0, L_1, L_2, L_3, L_4, L_6, L_7, L_9, L_10, L_11, L_13, L_16, L_32, L_48, L_50, L_57, L_97, L_99, L_122, L_999, L_83520, L_4294967295, L_25937424601, L_1152921504606846976, ↓m_1000020, ↓m_1000012, ↓m_1000010, ↓m_1000000, ↓m_10004, ↓m_10000, ↓m_1000, ↓m_999, ↓m_99, ↓m_30, ↓m_20, ↓m_14, ↓m_12, ↓m_11, ↓m_10, ↓m_8, ↓m_4, ↓m_3, ↓m_2, ↓m_1, ↓mL_999, ↓mL_99, ↓mL_1, n_add, n_mul, nj_add, jn_add, n_sub, n_subj, nj_sub, jn_sub, nj_mul, jn_mul, if_true, if_false, jI_add, jI_sub, jI_mul, jI_neg, jL_add, jL_sub, jL_mul, jL_neg, n_l, j_l, jL_i, e_gn, e_gj, e_znn, e_znj, nn_ltT, nn_ltF, nn_leT, nn_leF, nn_eqT, nn_eqF, nj_ltT, nj_ltF, nj_leT, nj_leF, nj_eqT, nj_eqF, jn_ltT, jn_ltF, jn_leT, jn_leF, jn_eqT, jn_eqF, jj_ltT, jj_ltF, jj_leT, jj_leF, jj_eqT, jj_eqF, LL_ltT, LL_ltF, LL_leT, LL_leF, LL_eqT, LL_eqF, e_w1, e_w1s, e_w2, e_x1, e_x2, e_x2s, e_a1, e_a1s, e_a2, e_uT, e_uF, e_vT, e_vF, e_ft, e_tf, e_zbt, e_zbf, n_or, n_31, n_shl, n_bit, n_not, n_bc]
                        exact c1'
                      · rw [q1 _ (by omega) (by omega), hMdc _ (by omega), (p4 _ (by simp)).1, hMa]
                        simp (disch := omega) only [e_lt, e_ltn, e_jn, e_sq, e_bi, l_0, l_1, l_2, l_3, l_4, l_5, l_6, l_7, l_8, l_9, l_10, l_11, l_12, l_13, l_14, l_15, l_16, l_17, l_18, l_19, l_20, l_21, l_22, l_23, l_24, l_25, l_26, l_27, l_28, l_29, l_30, l_31, l_32, l_33, l_34, l_35, l_36, l_37, l_38, l_39, l_40, l_41, l_48, l_50, l_56, l_57, l_59, l_60, l_63, l_64, l_70, l_97, l_99, l_122, l_128, l_190, l_220, l_255, l_320, l_500, l_999, l_1024, l_83520, l_100000, l_1000000, L_0, L_1, L_2, L_3, L_4, L_6, L_7, L_9, L_10, L_11, L_13, L_16, L_32, L_48, L_50, L_57, L_97, L_99, L_122, L_999, L_83520, L_4294967295, L_25937424601, L_1152921504606846976, ↓m_1000020, ↓m_1000012, ↓m_1000010, ↓m_1000000, ↓m_10004, ↓m_10000, ↓m_1000, ↓m_999, ↓m_99, ↓m_30, ↓m_20, ↓m_14, ↓m_12, ↓m_11, ↓m_10, ↓m_8, ↓m_4, ↓m_3, ↓m_2, ↓m_1, ↓mL_999, ↓mL_99, ↓mL_1, n_add, n_mul, nj_add, jn_add, n_sub, n_subj, nj_sub, jn_sub, nj_mul, jn_mul, if_true, if_false, jI_add, jI_sub, jI_mul, jI_neg, jL_add, jL_sub, jL_mul, jL_neg, n_l, j_l, jL_i, e_gn, e_gj, e_znn, e_znj, nn_ltT, nn_ltF, nn_leT, nn_leF, nn_eqT, nn_eqF, nj_ltT, nj_ltF, nj_leT, nj_leF, nj_eqT, nj_eqF, jn_ltT, jn_ltF, jn_leT, jn_leF, jn_eqT, jn_eqF, jj_ltT, jj_ltF, jj_leT, jj_leF, jj_eqT, jj_eqF, LL_ltT, LL_ltF, LL_leT, LL_leF, LL_eqT, LL_eqF, e_w1, e_w1s, e_w2, e_x1, e_x2, e_x2s, e_a1, e_a1s, e_a2, e_uT, e_uF, e_vT, e_vF, e_ft, e_tf, e_zbt, e_zbf, n_or, n_31, n_shl, n_bit, n_not, n_bc]
                        exact c2'
                      · rw [q1 _ (by omega) (by omega), hMdc _ (by omega), p3 _ (by omega), hMa]
                        simp (disch := omega) only [e_lt, e_ltn, e_jn, e_sq, e_bi, l_0, l_1, l_2, l_3, l_4, l_5, l_6, l_7, l_8, l_9, l_10, l_11, l_12, l_13, l_14, l_15, l_16, l_17, l_18, l_19, l_20, l_21, l_22, l_23, l_24, l_25, l_26, l_27, l_28, l_29, l_30, l_31, l_32, l_33, l_34, l_35, l_36, l_37, l_38, l_39, l_40, l_41, l_48, l_50, l_56, l_57, l_59, l_60, l_63, l_64, l_70, l_97, l_99, l_122, l_128, l_190, l_220, l_255, l_320, l_500, l_999, l_1024, l_83520, l_100000, l_1000000, L_0, L_1, L_2, L_3, L_4, L_6, L_7, L_9, L_10, L_11, L_13, L_16, L_32, L_48, L_50, L_57, L_97, L_99, L_122, L_999, L_83520, L_4294967295, L_25937424601, L_1152921504606846976, ↓m_1000020, ↓m_1000012, ↓m_1000010, ↓m_1000000, ↓m_10004, ↓m_10000, ↓m_1000, ↓m_999, ↓m_99, ↓m_30, ↓m_20, ↓m_14, ↓m_12, ↓m_11, ↓m_10, ↓m_8, ↓m_4, ↓m_3, ↓m_2, ↓m_1, ↓mL_999, ↓mL_99, ↓mL_1, n_add, n_mul, nj_add, jn_add, n_sub, n_subj, nj_sub, jn_sub, nj_mul, jn_mul, if_true, if_false, jI_add, jI_sub, jI_mul, jI_neg, jL_add, jL_sub, jL_mul, jL_neg, n_l, j_l, jL_i, e_gn, e_gj, e_znn, e_znj, nn_ltT, nn_ltF, nn_leT, nn_leF, nn_eqT, nn_eqF, nj_ltT, nj_ltF, nj_leT, nj_leF, nj_eqT, nj_eqF, jn_ltT, jn_ltF, jn_leT, jn_leF, jn_eqT, jn_eqF, jj_ltT, jj_ltF, jj_leT, jj_leF, jj_eqT, jj_eqF, LL_ltT, LL_ltF, LL_leT, LL_leF, LL_eqT, LL_eqF, e_w1, e_w1s, e_w2, e_x1, e_x2, e_x2s, e_a1, e_a1s, e_a2, e_uT, e_uF, e_vT, e_vF, e_ft, e_tf, e_zbt, e_zbf, n_or, n_31, n_shl, n_bit, n_not, n_bc]
                        exact c3' p hp
                · refine ⟨?_, fun i' hi' => ?_⟩
                  · rw [q1 _ (by omega) (by omega), hMdc _ (by omega), hca _ (by omega) (by omega) (by omega) (by omega)]
                    exact b1'
                  · rw [q1 _ (by omega) (by omega)] at hi'
                    obtain ⟨c1', c2', c3'⟩ := b2' i' hi'
                    refine ⟨?_, ?_, fun p hp => ?_⟩
                    · rw [q1 _ (by omega) (by omega), hMdc _ (by omega), hca _ (by omega) (by omega) (by omega) (by omega)]; exact c1'
                    · rw [q1 _ (by omega) (by omega), hMdc _ (by omega), hca _ (by omega) (by omega) (by omega) (by omega)]; exact c2'
                    · rw [q1 _ (by omega) (by omega), hMdc _ (by omega), hca _ (by omega) (by omega) (by omega) (by omega)]; exact c3' p hp
              refine RR_sc h (fun c w => by rw [hMdc c (by omega), hca c (by omega) (by omega) (by omega) (by omega)]) (fun x hx => ?_) (fun x hx => by rw [hMdc 81 (by omega), hca 81 (by omega) (by omega) (by omega) (by omega)]) ⟨ρ, S', sc_lines hsc (hend 0 (by omega)) (hend 1 (by omega)) (fun c w1 w2 => by rw [hMdc c (by omega), hca c (by omega) (by omega) (by omega) (by omega)]) (by rw [hMdc 81 (by omega), hca 81 (by omega) (by omega) (by omega) (by omega)]) (fun x hx => ?_) (fun x hx => q1 x (by omega) (by omega)) ?_ (fun e' i' he' hi' => ?_)⟩
              · rw [hMd, e_w1s, e_uF (by omega), e_w1s, e_uF (by omega), d4 x (by omega), e_w1s, e_uF (by omega), hca 84 (by omega) (by omega) (by omega) (by omega)]
              · by_cases w1 : x = 64 + e
                · rw [w1, q2, hMd, e_w1s, e_uT rfl]
                · by_cases w2 : x < 70 + 60 * e + 6 * n ∨ 70 + 60 * e + 6 * n + 6 ≤ x
                  · rw [q1 x w1 w2, hMd84 x (by omega) w1 w2]
                    exact rR_s h2 hx
                  · rw [hMd, e_w1s, e_uF w1, e_w1s]
                    by_cases w3 : x = 70 + 60 * e + 6 * n + 5
                    · rw [e_uT w3, w3, q4]
                    · rw [e_uF w3]
                      by_cases w4 : x = 70 + 60 * e + 6 * n + 0
                      · rw [d4 x (by omega), e_w1s, e_uT w4, w4, q3]
                      · obtain ⟨p, hp, rfl⟩ : ∃ p, p < 4 ∧ x = 70 + 60 * e + 6 * n + (p + 1) := ⟨x - (70 + 60 * e + 6 * n + 1), by omega, by omega⟩
                        rw [d3 p hp, q5 p hp]
              · rcases (show e = 0 ∨ e = 1 by omega) with rfl | rfl
                · refine ⟨by have : S' 64 = n + 1 := q2; omega, ?_⟩
                  rw [q1 65 (by omega) (by omega)]; exact v1.2
                · refine ⟨?_, by have : S' 65 = n + 1 := q2; omega⟩
                  rw [q1 64 (by omega) (by omega)]; exact v1.1
              · by_cases ee : e' = e
                · subst ee
                  rw [q2] at hi'
                  by_cases z : i' = n
                  · subst z
                    exact ⟨by rw [q3]; exact hmi, by rw [q4]; exact hcl, fun p hp => by rw [q5 p hp]; exact dg_lt _ _⟩
                  · obtain ⟨c1', c2', c3'⟩ := hV.2.1 e' i' he' (by omega)
                    exact ⟨by rw [q1 _ (by omega) (by omega)]; exact c1', by rw [q1 _ (by omega) (by omega)]; exact c2', fun p hp => by rw [q1 _ (by omega) (by omega)]; exact c3' p hp⟩
                · rw [q1 _ (by omega) (by omega)] at hi'
                  have hS10' : S (64 + e') ≤ 10 := by
                    rcases (show e' = 0 ∨ e' = 1 by omega) with rfl | rfl
                    · exact v1.1
                    · exact v1.2
                  obtain ⟨c1', c2', c3'⟩ := hV.2.1 e' i' he' hi'
                  exact ⟨by rw [q1 _ (by omega) (by omega)]; exact c1', by rw [q1 _ (by omega) (by omega)]; exact c2', fun p hp => by rw [q1 _ (by omega) (by omega)]; exact c3' p hp⟩
        · refine ⟨jI (-1), M, M, ?_, ?_, h⟩
          · rw [e1, l_0, l_999, a1, l_83520, b1, l_6, c1]; rfl
          · rw [e2, L_0, L_999, a2, L_83520, b2, L_6, c2]; rfl
      · refine ⟨jI (-1), M, M, ?_, ?_, h⟩
        · rw [e1, l_0, l_999, a1, l_83520, b1]; rfl
        · rw [e2, L_0, L_999, a2, L_83520, b2]; rfl
    · refine ⟨jI (-1), M, M, ?_, ?_, h⟩
      · rw [e1, l_0, l_999, a1]; rfl
      · rw [e2, L_0, L_999, a2]; rfl
  · refine ⟨jI (-1), M, M, ?_, ?_, h⟩
    · rw [e1]; rfl
    · rw [e2]; rfl
