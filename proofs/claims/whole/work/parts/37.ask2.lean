theorem c_weighP' {M : zM} {n m : Nat} {c : Nat → Nat → Int} {T sv : Int} (h : pR M n m c T sv) (hV : pV n m c T sv) {W : Nat → Nat → Int} (hw : wR M W) {i j : Nat} (hi : i < n) (hj : j < m) (s l : Int) (hs : 0 ≤ s ∧ s ≤ 32) (hl : -1 ≤ l ∧ l ≤ 1) :
    ok (fX4_weighPair (nI i) (nI j) (jI s) (jI l) M) (fun M' => wR M' (fun a b => if a = i ∧ b = j ∧ c i j ≠ -4 then mn0 (s * gP c sv i j + l) else W a b) ∧ pR M' n m c T sv ∧ zfr [60] M M') :=
  ok_mono (ok_fr (c_weighP h hV hw hi hj hs hl) (frX4_weighPair _ _ _ _ M)) (fun M' q => ⟨q.1, pR_fr h q.2 (by decide) (by decide), q.2⟩)
/-- leaning of a line -/
def dA (e x : Nat) (l : Int) (i j : Nat) : Int := if (e = 0 ∧ i = x) ∨ (e ≠ 0 ∧ j = x) then l else 0
theorem c_alone {M : zM} {n m : Nat} {c : Nat → Nat → Int} {T sv : Int} (h : pR M n m c T sv) (hV : pV n m c T sv) {e x : Nat} (he : e < 2) (hx : x < if e = 0 then n else m) (b : Bool) : ok (fX4_isAlone (nI e) (nI x) (zb b) M) (fun r => (∃ v z, r.1 = decide (z = 2 * v) ∧ isL n m (alP c) (gP c sv) v ∧ isL n m (alP c) (fun i j => 2 * gP c sv i j + dA e x (if b = true then -1 else 1) i j) z) ∧ pR r.2 n m c T sv) := by
  obtain ⟨v1, v2, v3, v4, v5⟩ := id hV
  unfold fX4_isAlone
  have hl : (if zb b = 0 then (1 : Int32) else (-1 : Int32)) = jI (if b = true then -1 else 1) := by cases b <;> decide
  rw [hl, e_lt]
  have hlb : -1 ≤ (if b = true then (-1 : Int) else 1) ∧ (if b = true then (-1 : Int) else 1) ≤ 1 := by split <;> omega
  generalize (if b = true then (-1 : Int) else 1) = l at hlb ⊢
  refine ok_bi (c_lg h hV) ?_
  rintro x3 M1 ⟨⟨v, q1, q2⟩, p1⟩
  dsimp only at q1 p1
  have hv := isL_bd hV q2 (fun i _ => alP_10 c i)
  have e20 : fX4_weighAll (2 : Int32) (0 : Int32) M1 = fX4_weighAll (jI 2) (jI 0) M1 := by rw [show (2 : Int32) = jI 2 from rfl, show (0 : Int32) = jI 0 from rfl]
  rw [e20]
  refine ok_sq (c_wsl p1 hV 2 0 (by omega) (by omega)) ?_
  rintro M2 ⟨w2, p2, f2⟩
  have ho : ∃ k, (if nI e = 0 then M2.1 55 1 else M2.1 55 0) = nI k ∧ k ≤ 10 ∧ k = (if e = 0 then m else n) := by
    rw [p2.1, p2.2.1]
    by_cases e0 : e = 0
    · subst e0; exact ⟨m, by simp (disch := omega) only [e_lt, e_ltn, e_jn, e_sq, e_bi, l_0, l_1, l_2, l_3, l_4, l_5, l_6, l_7, l_8, l_9, l_10, l_11, l_12, l_13, l_14, l_15, l_16, l_17, l_18, l_19, l_20, l_21, l_22, l_23, l_24, l_25, l_26, l_27, l_28, l_29, l_30, l_31, l_32, l_33, l_34, l_35, l_36, l_37, l_38, l_39, l_40, l_41, l_48, l_50, l_56, l_57, l_59, l_60, l_63, l_64, l_70, l_97, l_99, l_122, l_128, l_190, l_220, l_255, l_320, l_500, l_999, l_1024, l_83520, l_100000, l_1000000, L_0, L_1, L_2, L_3, L_4, L_6, L_7, L_9, L_10, L_11, L_13, L_16, L_32, L_48, L_50, L_57, L_97, L_99, L_122, L_999, L_83520, L_4294967295, L_25937424601, L_1152921504606846976, ↓m_1000020, ↓m_1000012, ↓m_1000010, ↓m_1000000, ↓m_10004, ↓m_10000, ↓m_1000, ↓m_999, ↓m_99, ↓m_30, ↓m_20, ↓m_14, ↓m_12, ↓m_11, ↓m_10, ↓m_8, ↓m_4, ↓m_3, ↓m_2, ↓m_1, ↓mL_999, ↓mL_99, ↓mL_1, n_add, n_mul, nj_add, jn_add, n_sub, n_subj, nj_sub, jn_sub, nj_mul, jn_mul, if_true, if_false, jI_add, jI_sub, jI_mul, jI_neg, jL_add, jL_sub, jL_mul, jL_neg, n_l, j_l, jL_i, e_gn, e_gj, e_znn, e_znj, nn_ltT, nn_ltF, nn_leT, nn_leF, nn_eqT, nn_eqF, nj_ltT, nj_ltF, nj_leT, nj_leF, nj_eqT, nj_eqF, jn_ltT, jn_ltF, jn_leT, jn_leF, jn_eqT, jn_eqF, jj_ltT, jj_ltF, jj_leT, jj_leF, jj_eqT, jj_eqF, LL_ltT, LL_ltF, LL_leT, LL_leF, LL_eqT, LL_eqF, e_w1, e_w1s, e_w2, e_x1, e_x2, e_x2s, e_a1, e_a1s, e_a2, e_uT, e_uF, e_vT, e_vF, e_ft, e_tf, e_zbt, e_zbf, n_or, n_31, n_shl, n_bit, n_not, n_bc], v2, by rw [if_pos rfl]⟩
    · exact ⟨n, by simp (disch := omega) only [e_lt, e_ltn, e_jn, e_sq, e_bi, l_0, l_1, l_2, l_3, l_4, l_5, l_6, l_7, l_8, l_9, l_10, l_11, l_12, l_13, l_14, l_15, l_16, l_17, l_18, l_19, l_20, l_21, l_22, l_23, l_24, l_25, l_26, l_27, l_28, l_29, l_30, l_31, l_32, l_33, l_34, l_35, l_36, l_37, l_38, l_39, l_40, l_41, l_48, l_50, l_56, l_57, l_59, l_60, l_63, l_64, l_70, l_97, l_99, l_122, l_128, l_190, l_220, l_255, l_320, l_500, l_999, l_1024, l_83520, l_100000, l_1000000, L_0, L_1, L_2, L_3, L_4, L_6, L_7, L_9, L_10, L_11, L_13, L_16, L_32, L_48, L_50, L_57, L_97, L_99, L_122, L_999, L_83520, L_4294967295, L_25937424601, L_1152921504606846976, ↓m_1000020, ↓m_1000012, ↓m_1000010, ↓m_1000000, ↓m_10004, ↓m_10000, ↓m_1000, ↓m_999, ↓m_99, ↓m_30, ↓m_20, ↓m_14, ↓m_12, ↓m_11, ↓m_10, ↓m_8, ↓m_4, ↓m_3, ↓m_2, ↓m_1, ↓mL_999, ↓mL_99, ↓mL_1, n_add, n_mul, nj_add, jn_add, n_sub, n_subj, nj_sub, jn_sub, nj_mul, jn_mul, if_true, if_false, jI_add, jI_sub, jI_mul, jI_neg, jL_add, jL_sub, jL_mul, jL_neg, n_l, j_l, jL_i, e_gn, e_gj, e_znn, e_znj, nn_ltT, nn_ltF, nn_leT, nn_leF, nn_eqT, nn_eqF, nj_ltT, nj_ltF, nj_leT, nj_leF, nj_eqT, nj_eqF, jn_ltT, jn_ltF, jn_leT, jn_leF, jn_eqT, jn_eqF, jj_ltT, jj_ltF, jj_leT, jj_leF, jj_eqT, jj_eqF, LL_ltT, LL_ltF, LL_leT, LL_leF, LL_eqT, LL_eqF, e_w1, e_w1s, e_w2, e_x1, e_x2, e_x2s, e_a1, e_a1s, e_a2, e_uT, e_uF, e_vT, e_vF, e_ft, e_tf, e_zbt, e_zbf, n_or, n_31, n_shl, n_bit, n_not, n_bc], v1, by rw [if_neg e0]⟩
  obtain ⟨k, ek, hk, hke⟩ := ho
  rw [e_lt, ek]
  refine ok_sq (P := fun M' => wR M' (wt n m c (fun i j => 2 * gP c sv i j + dA e x l i j)) ∧ pR M' n m c T sv) ?_ ?_
  · refine ok_up k (fun y s => ∃ M', s = (nI y, M') ∧ wR M' (wt n m c (fun i j => 2 * gP c sv i j + (if (e = 0 ∧ i = x ∧ j < y) ∨ (e ≠ 0 ∧ j = x ∧ i < y) then l else 0))) ∧ pR M' n m c T sv) ?_ ?_ zFu 0 _ (by omega) (by unfold zFu; omega) ⟨M2, rfl, wR_cg w2 (fun i j _ _ => by simp), p2⟩
    · rintro rec y s hy ⟨M3, rfl, w3, p3⟩ hrec
      have e2 : (2 : Int32) = jI 2 := rfl
      by_cases e0 : e = 0
      · subst e0
        rw [if_pos rfl] at hx hke
        have ea : (if nI 0 = 0 then nI x else nI y) = nI x := rfl
        have eb : (if nI 0 = 0 then nI y else nI x) = nI y := rfl
        simp (disch := omega) only [e_lt, nn_leF, ea, eb]
        rw [e2]
        refine ok_sq (c_weighP' p3 hV w3 (i := x) (j := y) hx (by omega) 2 l (by omega) hlb) ?_
        rintro M4 ⟨w4, p4, f4⟩
        simp (disch := omega) only [e_lt, e_ltn, e_jn, e_sq, e_bi, l_0, l_1, l_2, l_3, l_4, l_5, l_6, l_7, l_8, l_9, l_10, l_11, l_12, l_13, l_14, l_15, l_16, l_17, l_18, l_19, l_20, l_21, l_22, l_23, l_24, l_25, l_26, l_27, l_28, l_29, l_30, l_31, l_32, l_33, l_34, l_35, l_36, l_37, l_38, l_39, l_40, l_41, l_48, l_50, l_56, l_57, l_59, l_60, l_63, l_64, l_70, l_97, l_99, l_122, l_128, l_190, l_220, l_255, l_320, l_500, l_999, l_1024, l_83520, l_100000, l_1000000, L_0, L_1, L_2, L_3, L_4, L_6, L_7, L_9, L_10, L_11, L_13, L_16, L_32, L_48, L_50, L_57, L_97, L_99, L_122, L_999, L_83520, L_4294967295, L_25937424601, L_1152921504606846976, ↓m_1000020, ↓m_1000012, ↓m_1000010, ↓m_1000000, ↓m_10004, ↓m_10000, ↓m_1000, ↓m_999, ↓m_99, ↓m_30, ↓m_20, ↓m_14, ↓m_12, ↓m_11, ↓m_10, ↓m_8, ↓m_4, ↓m_3, ↓m_2, ↓m_1, ↓mL_999, ↓mL_99, ↓mL_1, n_add, n_mul, nj_add, jn_add, n_sub, n_subj, nj_sub, jn_sub, nj_mul, jn_mul, if_true, if_false, jI_add, jI_sub, jI_mul, jI_neg, jL_add, jL_sub, jL_mul, jL_neg, n_l, j_l, jL_i, e_gn, e_gj, e_znn, e_znj, nn_ltT, nn_ltF, nn_leT, nn_leF, nn_eqT, nn_eqF, nj_ltT, nj_ltF, nj_leT, nj_leF, nj_eqT, nj_eqF, jn_ltT, jn_ltF, jn_leT, jn_leF, jn_eqT, jn_eqF, jj_ltT, jj_ltF, jj_leT, jj_leF, jj_eqT, jj_eqF, LL_ltT, LL_ltF, LL_leT, LL_leF, LL_eqT, LL_eqF, e_w1, e_w1s, e_w2, e_x1, e_x2, e_x2s, e_a1, e_a1s, e_a2, e_uT, e_uF, e_vT, e_vF, e_ft, e_tf, e_zbt, e_zbf, n_or, n_31, n_shl, n_bit, n_not, n_bc]
        refine hrec _ ⟨M4, rfl, wR_cg w4 (fun i j _ _ => ?_), p4⟩
        (try dsimp only)
        unfold wt
        by_cases q : i = x ∧ j = y
        · obtain ⟨rfl, rfl⟩ := q
          by_cases ec : c i j = -4
          · simp [ec]
          · have : j < m := by omega
            simp [ec, hx, this]
        · rw [if_neg (fun w => q ⟨w.1, w.2.1⟩)]
          have : (i = x ∧ j < y + 1) ↔ (i = x ∧ j < y) := by omega
          simp [this]
      · rw [if_neg e0] at hx hke
        have ea : (if nI e = 0 then nI x else nI y) = nI y := by simp (disch := omega) only [e_lt, e_ltn, e_jn, e_sq, e_bi, l_0, l_1, l_2, l_3, l_4, l_5, l_6, l_7, l_8, l_9, l_10, l_11, l_12, l_13, l_14, l_15, l_16, l_17, l_18, l_19, l_20, l_21, l_22, l_23, l_24, l_25, l_26, l_27, l_28, l_29, l_30, l_31, l_32, l_33, l_34, l_35, l_36, l_37, l_38, l_39, l_40, l_41, l_48, l_50, l_56, l_57, l_59, l_60, l_63, l_64, l_70, l_97, l_99, l_122, l_128, l_190, l_220, l_255, l_320, l_500, l_999, l_1024, l_83520, l_100000, l_1000000, L_0, L_1, L_2, L_3, L_4, L_6, L_7, L_9, L_10, L_11, L_13, L_16, L_32, L_48, L_50, L_57, L_97, L_99, L_122, L_999, L_83520, L_4294967295, L_25937424601, L_1152921504606846976, ↓m_1000020, ↓m_1000012, ↓m_1000010, ↓m_1000000, ↓m_10004, ↓m_10000, ↓m_1000, ↓m_999, ↓m_99, ↓m_30, ↓m_20, ↓m_14, ↓m_12, ↓m_11, ↓m_10, ↓m_8, ↓m_4, ↓m_3, ↓m_2, ↓m_1, ↓mL_999, ↓mL_99, ↓mL_1, n_add, n_mul, nj_add, jn_add, n_sub, n_subj, nj_sub, jn_sub, nj_mul, jn_mul, if_true, if_false, jI_add, jI_sub, jI_mul, jI_neg, jL_add, jL_sub, jL_mul, jL_neg, n_l, j_l, jL_i, e_gn, e_gj, e_znn, e_znj, nn_ltT, nn_ltF, nn_leT, nn_leF, nn_eqT, nn_eqF, nj_ltT, nj_ltF, nj_leT, nj_leF, nj_eqT, nj_eqF, jn_ltT, jn_ltF, jn_leT, jn_leF, jn_eqT, jn_eqF, jj_ltT, jj_ltF, jj_leT, jj_leF, jj_eqT, jj_eqF, LL_ltT, LL_ltF, LL_leT, LL_leF, LL_eqT, LL_eqF, e_w1, e_w1s, e_w2, e_x1, e_x2, e_x2s, e_a1, e_a1s, e_a2, e_uT, e_uF, e_vT, e_vF, e_ft, e_tf, e_zbt, e_zbf, n_or, n_31, n_shl, n_bit, n_not, n_bc]
        have eb : (if nI e = 0 then nI y else nI x) = nI x := by simp (disch := omega) only [e_lt, e_ltn, e_jn, e_sq, e_bi, l_0, l_1, l_2, l_3, l_4, l_5, l_6, l_7, l_8, l_9, l_10, l_11, l_12, l_13, l_14, l_15, l_16, l_17, l_18, l_19, l_20, l_21, l_22, l_23, l_24, l_25, l_26, l_27, l_28, l_29, l_30, l_31, l_32, l_33, l_34, l_35, l_36, l_37, l_38, l_39, l_40, l_41, l_48, l_50, l_56, l_57, l_59, l_60, l_63, l_64, l_70, l_97, l_99, l_122, l_128, l_190, l_220, l_255, l_320, l_500, l_999, l_1024, l_83520, l_100000, l_1000000, L_0, L_1, L_2, L_3, L_4, L_6, L_7, L_9, L_10, L_11, L_13, L_16, L_32, L_48, L_50, L_57, L_97, L_99, L_122, L_999, L_83520, L_4294967295, L_25937424601, L_1152921504606846976, ↓m_1000020, ↓m_1000012, ↓m_1000010, ↓m_1000000, ↓m_10004, ↓m_10000, ↓m_1000, ↓m_999, ↓m_99, ↓m_30, ↓m_20, ↓m_14, ↓m_12, ↓m_11, ↓m_10, ↓m_8, ↓m_4, ↓m_3, ↓m_2, ↓m_1, ↓mL_999, ↓mL_99, ↓mL_1, n_add, n_mul, nj_add, jn_add, n_sub, n_subj, nj_sub, jn_sub, nj_mul, jn_mul, if_true, if_false, jI_add, jI_sub, jI_mul, jI_neg, jL_add, jL_sub, jL_mul, jL_neg, n_l, j_l, jL_i, e_gn, e_gj, e_znn, e_znj, nn_ltT, nn_ltF, nn_leT, nn_leF, nn_eqT, nn_eqF, nj_ltT, nj_ltF, nj_leT, nj_leF, nj_eqT, nj_eqF, jn_ltT, jn_ltF, jn_leT, jn_leF, jn_eqT, jn_eqF, jj_ltT, jj_ltF, jj_leT, jj_leF, jj_eqT, jj_eqF, LL_ltT, LL_ltF, LL_leT, LL_leF, LL_eqT, LL_eqF, e_w1, e_w1s, e_w2, e_x1, e_x2, e_x2s, e_a1, e_a1s, e_a2, e_uT, e_uF, e_vT, e_vF, e_ft, e_tf, e_zbt, e_zbf, n_or, n_31, n_shl, n_bit, n_not, n_bc]
        simp (disch := omega) only [e_lt, nn_leF, ea, eb]
        rw [e2]
        refine ok_sq (c_weighP' p3 hV w3 (i := y) (j := x) (by omega) hx 2 l (by omega) hlb) ?_
        rintro M4 ⟨w4, p4, f4⟩
        simp (disch := omega) only [e_lt, e_ltn, e_jn, e_sq, e_bi, l_0, l_1, l_2, l_3, l_4, l_5, l_6, l_7, l_8, l_9, l_10, l_11, l_12, l_13, l_14, l_15, l_16, l_17, l_18, l_19, l_20, l_21, l_22, l_23, l_24, l_25, l_26, l_27, l_28, l_29, l_30, l_31, l_32, l_33, l_34, l_35, l_36, l_37, l_38, l_39, l_40, l_41, l_48, l_50, l_56, l_57, l_59, l_60, l_63, l_64, l_70, l_97, l_99, l_122, l_128, l_190, l_220, l_255, l_320, l_500, l_999, l_1024, l_83520, l_100000, l_1000000, L_0, L_1, L_2, L_3, L_4, L_6, L_7, L_9, L_10, L_11, L_13, L_16, L_32, L_48, L_50, L_57, L_97, L_99, L_122, L_999, L_83520, L_4294967295, L_25937424601, L_1152921504606846976, ↓m_1000020, ↓m_1000012, ↓m_1000010, ↓m_1000000, ↓m_10004, ↓m_10000, ↓m_1000, ↓m_999, ↓m_99, ↓m_30, ↓m_20, ↓m_14, ↓m_12, ↓m_11, ↓m_10, ↓m_8, ↓m_4, ↓m_3, ↓m_2, ↓m_1, ↓mL_999, ↓mL_99, ↓mL_1, n_add, n_mul, nj_add, jn_add, n_sub, n_subj, nj_sub, jn_sub, nj_mul, jn_mul, if_true, if_false, jI_add, jI_sub, jI_mul, jI_neg, jL_add, jL_sub, jL_mul, jL_neg, n_l, j_l, jL_i, e_gn, e_gj, e_znn, e_znj, nn_ltT, nn_ltF, nn_leT, nn_leF, nn_eqT, nn_eqF, nj_ltT, nj_ltF, nj_leT, nj_leF, nj_eqT, nj_eqF, jn_ltT, jn_ltF, jn_leT, jn_leF, jn_eqT, jn_eqF, jj_ltT, jj_ltF, jj_leT, jj_leF, jj_eqT, jj_eqF, LL_ltT, LL_ltF, LL_leT, LL_leF, LL_eqT, LL_eqF, e_w1, e_w1s, e_w2, e_x1, e_x2, e_x2s, e_a1, e_a1s, e_a2, e_uT, e_uF, e_vT, e_vF, e_ft, e_tf, e_zbt, e_zbf, n_or, n_31, n_shl, n_bit, n_not, n_bc]
        refine hrec _ ⟨M4, rfl, wR_cg w4 (fun i j _ _ => ?_), p4⟩
        (try dsimp only)
        unfold wt
        by_cases q : i = y ∧ j = x
        · obtain ⟨rfl, rfl⟩ := q
          by_cases ec : c i j = -4
          · simp [ec]
          · have : i < n := by omega
            simp [ec, hx, this, e0]
        · rw [if_neg (fun w => q ⟨w.1, w.2.1⟩)]
          have : (j = x ∧ i < y + 1) ↔ (j = x ∧ i < y) := by omega
          simp [this, e0]
    · rintro rec s ⟨M3, rfl, w3, p3⟩
      simp (disch := omega) only [e_lt, e_ltn, e_jn, e_sq, e_bi, l_0, l_1, l_2, l_3, l_4, l_5, l_6, l_7, l_8, l_9, l_10, l_11, l_12, l_13, l_14, l_15, l_16, l_17, l_18, l_19, l_20, l_21, l_22, l_23, l_24, l_25, l_26, l_27, l_28, l_29, l_30, l_31, l_32, l_33, l_34, l_35, l_36, l_37, l_38, l_39, l_40, l_41, l_48, l_50, l_56, l_57, l_59, l_60, l_63, l_64, l_70, l_97, l_99, l_122, l_128, l_190, l_220, l_255, l_320, l_500, l_999, l_1024, l_83520, l_100000, l_1000000, L_0, L_1, L_2, L_3, L_4, L_6, L_7, L_9, L_10, L_11, L_13, L_16, L_32, L_48, L_50, L_57, L_97, L_99, L_122, L_999, L_83520, L_4294967295, L_25937424601, L_1152921504606846976, ↓m_1000020, ↓m_1000012, ↓m_1000010, ↓m_1000000, ↓m_10004, ↓m_10000, ↓m_1000, ↓m_999, ↓m_99, ↓m_30, ↓m_20, ↓m_14, ↓m_12, ↓m_11, ↓m_10, ↓m_8, ↓m_4, ↓m_3, ↓m_2, ↓m_1, ↓mL_999, ↓mL_99, ↓mL_1, n_add, n_mul, nj_add, jn_add, n_sub, n_subj, nj_sub, jn_sub, nj_mul, jn_mul, if_true, if_false, jI_add, jI_sub, jI_mul, jI_neg, jL_add, jL_sub, jL_mul, jL_neg, n_l, j_l, jL_i, e_gn, e_gj, e_znn, e_znj, nn_ltT, nn_ltF, nn_leT, nn_leF, nn_eqT, nn_eqF, nj_ltT, nj_ltF, nj_leT, nj_leF, nj_eqT, nj_eqF, jn_ltT, jn_ltF, jn_leT, jn_leF, jn_eqT, jn_eqF, jj_ltT, jj_ltF, jj_leT, jj_leF, jj_eqT, jj_eqF, LL_ltT, LL_ltF, LL_leT, LL_leF, LL_eqT, LL_eqF, e_w1, e_w1s, e_w2, e_x1, e_x2, e_x2s, e_a1, e_a1s, e_a2, e_uT, e_uF, e_vT, e_vF, e_ft, e_tf, e_zbt, e_zbf, n_or, n_31, n_shl, n_bit, n_not, n_bc]
      refine ok_some ⟨wR_cg w3 (fun i j _ _ => ?_), p3⟩
      unfold wt dA
      by_cases q : i < n ∧ j < m ∧ c i j ≠ -4
      · rw [if_pos q, if_pos q]
        by_cases e0 : e = 0
        · rw [if_pos e0] at hke
          have : ((e = 0 ∧ i = x ∧ j < k) ∨ (e ≠ 0 ∧ j = x ∧ i < k)) ↔ ((e = 0 ∧ i = x) ∨ (e ≠ 0 ∧ j = x)) := by omega
          simp only [this]
        · rw [if_neg e0] at hke
          have : ((e = 0 ∧ i = x ∧ j < k) ∨ (e ≠ 0 ∧ j = x ∧ i < k)) ↔ ((e = 0 ∧ i = x) ∨ (e ≠ 0 ∧ j = x)) := by omega
          simp only [this]
      · rw [if_neg q, if_neg q]
  · rintro M3 ⟨w3, p3⟩
    refine ok_bi (c_opt p3 hV (fun i _ => alP_10 c i) w3 (fun i j hi hj => wt_cap v2 i j hi hj) (fun i j q => wt_out i j q) (fun i j hi hj => by
      have := g_lo hV hi hj
      unfold gP zBB dA
      split <;> omega)) ?_
    rintro z0 M4 ⟨⟨z, p, r1, r2, r3, r4, r5, _⟩, f4⟩
    dsimp only at r1
    have p4 := pR_fr p3 f4 (by decide) (by decide)
    unfold zBB at r5
    rw [r1, q1, show (2 : Int64) = jL 2 from rfl, jL_mul]
    by_cases ez : z = 2 * v
    · simp (disch := omega) only [LL_eqT]
      exact ok_some ⟨⟨v, z, by simp [ez], q2, r2⟩, p4⟩
    · simp (disch := omega) only [LL_eqF]
      exact ok_some ⟨⟨v, z, by simp [ez], q2, r2⟩, p4⟩
/-- a partner as it is kept -/
def pv (c : Nat) : Int32 := if c = 10 then jI (-4) else nI c
theorem L_div : ∀ i, i < 10 → jL ((11 ^ (10 - i) : Nat) : Int) / jL 11 = jL ((11 ^ (9 - i) : Nat) : Int) := by decide +kernel
theorem L_pow : ∀ i, i < 10 → 11 ^ (9 - i) ≤ 2357947691 := by decide +kernel
def wF (c : Nat → Nat → Int) (sv : Int) (i j : Nat) : Int := 25937424601 * gP c sv i j - (((10 - j) * 11 ^ (9 - i) : Nat) : Int)
theorem wF_bd {n m : Nat} {c : Nat → Nat → Int} {T sv : Int} (hV : pV n m c T sv) {i j : Nat} (hi : i < n) (hj : j < m) : -5300000000000 ≤ wF c sv i j ∧ wF c sv i j ≤ 140000000000000 := by
  have h1 := g_lo hV hi hj
  have h2 := L_pow i (by have := hV.1; omega)
  have h3 : (10 - j) * 11 ^ (9 - i) ≤ 10 * 2357947691 := Nat.mul_le_mul (by omega) h2
  unfold wF gP
  omega
theorem c_partner {M : zM} {n m : Nat} {c : Nat → Nat → Int} {T sv : Int} (h : pR M n m c T sv) (hV : pV n m c T sv) {W : Nat → Nat → Int} (hW : ∀ i j, -zBB ≤ W i j ∧ W i j ≤ 0) (hw : wR M W) {p : Nat → Nat} {i : Nat} (hi : i < n) (hp1 : p i < m ∨ p i = 10) (hp : ∀ j, j < m → (p i = j ↔ M.1 64 (j + 1) = nI (i + 1) ∧ W i j < 0)) : fX4_partnerTaken (nI i) M = some (pv (p i)) := by
  obtain ⟨v1, v2, v3, v4, v5⟩ := id hV
  apply ok_eq
  unfold fX4_partnerTaken
  refine ok_up m (fun j x => x = nI j ∧ ∀ k, k < j → p i ≠ k) ?_ ?_ zFu 0 _ (by omega) (by unfold zFu; omega) ⟨rfl, fun k hk => by omega⟩
  · rintro rec j x hj ⟨rfl, hk⟩ hrec
    rw [h.2.1, c_taken (n := n) (m := m) (p := p) (by omega) (by omega) hW hw (hp j hj)]
    by_cases e : p i = j
    · simp only [e, decide_true]
      simp (disch := omega) only [e_lt, e_ltn, e_jn, e_sq, e_bi, l_0, l_1, l_2, l_3, l_4, l_5, l_6, l_7, l_8, l_9, l_10, l_11, l_12, l_13, l_14, l_15, l_16, l_17, l_18, l_19, l_20, l_21, l_22, l_23, l_24, l_25, l_26, l_27, l_28, l_29, l_30, l_31, l_32, l_33, l_34, l_35, l_36, l_37, l_38, l_39, l_40, l_41, l_48, l_50, l_56, l_57, l_59, l_60, l_63, l_64, l_70, l_97, l_99, l_122, l_128, l_190, l_220, l_255, l_320, l_500, l_999, l_1024, l_83520, l_100000, l_1000000, L_0, L_1, L_2, L_3, L_4, L_6, L_7, L_9, L_10, L_11, L_13, L_16, L_32, L_48, L_50, L_57, L_97, L_99, L_122, L_999, L_83520, L_4294967295, L_25937424601, L_1152921504606846976, ↓m_1000020, ↓m_1000012, ↓m_1000010, ↓m_1000000, ↓m_10004, ↓m_10000, ↓m_1000, ↓m_999, ↓m_99, ↓m_30, ↓m_20, ↓m_14, ↓m_12, ↓m_11, ↓m_10, ↓m_8, ↓m_4, ↓m_3, ↓m_2, ↓m_1, ↓mL_999, ↓mL_99, ↓mL_1, n_add, n_mul, nj_add, jn_add, n_sub, n_subj, nj_sub, jn_sub, nj_mul, jn_mul, if_true, if_false, jI_add, jI_sub, jI_mul, jI_neg, jL_add, jL_sub, jL_mul, jL_neg, n_l, j_l, jL_i, e_gn, e_gj, e_znn, e_znj, nn_ltT, nn_ltF, nn_leT, nn_leF, nn_eqT, nn_eqF, nj_ltT, nj_ltF, nj_leT, nj_leF, nj_eqT, nj_eqF, jn_ltT, jn_ltF, jn_leT, jn_leF, jn_eqT, jn_eqF, jj_ltT, jj_ltF, jj_leT, jj_leF, jj_eqT, jj_eqF, LL_ltT, LL_ltF, LL_leT, LL_leF, LL_eqT, LL_eqF, e_w1, e_w1s, e_w2, e_x1, e_x2, e_x2s, e_a1, e_a1s, e_a2, e_uT, e_uF, e_vT, e_vF, e_ft, e_tf, e_zbt, e_zbf, n_or, n_31, n_shl, n_bit, n_not, n_bc]
      refine ok_some ?_
      unfold pv
      rw [if_neg (by omega)]
    · simp only [e, decide_false]
      simp (disch := omega) only [e_lt, e_ltn, e_jn, e_sq, e_bi, l_0, l_1, l_2, l_3, l_4, l_5, l_6, l_7, l_8, l_9, l_10, l_11, l_12, l_13, l_14, l_15, l_16, l_17, l_18, l_19, l_20, l_21, l_22, l_23, l_24, l_25, l_26, l_27, l_28, l_29, l_30, l_31, l_32, l_33, l_34, l_35, l_36, l_37, l_38, l_39, l_40, l_41, l_48, l_50, l_56, l_57, l_59, l_60, l_63, l_64, l_70, l_97, l_99, l_122, l_128, l_190, l_220, l_255, l_320, l_500, l_999, l_1024, l_83520, l_100000, l_1000000, L_0, L_1, L_2, L_3, L_4, L_6, L_7, L_9, L_10, L_11, L_13, L_16, L_32, L_48, L_50, L_57, L_97, L_99, L_122, L_999, L_83520, L_4294967295, L_25937424601, L_1152921504606846976, ↓m_1000020, ↓m_1000012, ↓m_1000010, ↓m_1000000, ↓m_10004, ↓m_10000, ↓m_1000, ↓m_999, ↓m_99, ↓m_30, ↓m_20, ↓m_14, ↓m_12, ↓m_11, ↓m_10, ↓m_8, ↓m_4, ↓m_3, ↓m_2, ↓m_1, ↓mL_999, ↓mL_99, ↓mL_1, n_add, n_mul, nj_add, jn_add, n_sub, n_subj, nj_sub, jn_sub, nj_mul, jn_mul, if_true, if_false, jI_add, jI_sub, jI_mul, jI_neg, jL_add, jL_sub, jL_mul, jL_neg, n_l, j_l, jL_i, e_gn, e_gj, e_znn, e_znj, nn_ltT, nn_ltF, nn_leT, nn_leF, nn_eqT, nn_eqF, nj_ltT, nj_ltF, nj_leT, nj_leF, nj_eqT, nj_eqF, jn_ltT, jn_ltF, jn_leT, jn_leF, jn_eqT, jn_eqF, jj_ltT, jj_ltF, jj_leT, jj_leF, jj_eqT, jj_eqF, LL_ltT, LL_ltF, LL_leT, LL_leF, LL_eqT, LL_eqF, e_w1, e_w1s, e_w2, e_x1, e_x2, e_x2s, e_a1, e_a1s, e_a2, e_uT, e_uF, e_vT, e_vF, e_ft, e_tf, e_zbt, e_zbf, n_or, n_31, n_shl, n_bit, n_not, n_bc]
      refine hrec _ ⟨rfl, fun k hk2 => ?_⟩
      by_cases q : k = j
      · subst q; exact e
      · exact hk k (by omega)
  · rintro rec x ⟨rfl, hk⟩
    rw [h.2.1]
    simp (disch := omega) only [e_lt, e_ltn, e_jn, e_sq, e_bi, l_0, l_1, l_2, l_3, l_4, l_5, l_6, l_7, l_8, l_9, l_10, l_11, l_12, l_13, l_14, l_15, l_16, l_17, l_18, l_19, l_20, l_21, l_22, l_23, l_24, l_25, l_26, l_27, l_28, l_29, l_30, l_31, l_32, l_33, l_34, l_35, l_36, l_37, l_38, l_39, l_40, l_41, l_48, l_50, l_56, l_57, l_59, l_60, l_63, l_64, l_70, l_97, l_99, l_122, l_128, l_190, l_220, l_255, l_320, l_500, l_999, l_1024, l_83520, l_100000, l_1000000, L_0, L_1, L_2, L_3, L_4, L_6, L_7, L_9, L_10, L_11, L_13, L_16, L_32, L_48, L_50, L_57, L_97, L_99, L_122, L_999, L_83520, L_4294967295, L_25937424601, L_1152921504606846976, ↓m_1000020, ↓m_1000012, ↓m_1000010, ↓m_1000000, ↓m_10004, ↓m_10000, ↓m_1000, ↓m_999, ↓m_99, ↓m_30, ↓m_20, ↓m_14, ↓m_12, ↓m_11, ↓m_10, ↓m_8, ↓m_4, ↓m_3, ↓m_2, ↓m_1, ↓mL_999, ↓mL_99, ↓mL_1, n_add, n_mul, nj_add, jn_add, n_sub, n_subj, nj_sub, jn_sub, nj_mul, jn_mul, if_true, if_false, jI_add, jI_sub, jI_mul, jI_neg, jL_add, jL_sub, jL_mul, jL_neg, n_l, j_l, jL_i, e_gn, e_gj, e_znn, e_znj, nn_ltT, nn_ltF, nn_leT, nn_leF, nn_eqT, nn_eqF, nj_ltT, nj_ltF, nj_leT, nj_leF, nj_eqT, nj_eqF, jn_ltT, jn_ltF, jn_leT, jn_leF, jn_eqT, jn_eqF, jj_ltT, jj_ltF, jj_leT, jj_leF, jj_eqT, jj_eqF, LL_ltT, LL_ltF, LL_leT, LL_leF, LL_eqT, LL_eqF, e_w1, e_w1s, e_w2, e_x1, e_x2, e_x2s, e_a1, e_a1s, e_a2, e_uT, e_uF, e_vT, e_vF, e_ft, e_tf, e_zbt, e_zbf, n_or, n_31, n_shl, n_bit, n_not, n_bc]
    refine ok_some ?_
    unfold pv
    rw [if_pos]
    rcases hp1 with q | q
    · exact absurd rfl (hk (p i) q)
    · exact q
theorem c_first {M : zM} {n m : Nat} {c : Nat → Nat → Int} {T sv : Int} (h : pR M n m c T sv) (hV : pV n m c T sv) : ok (fX4_findFirst M) (fun M' => (∃ p, isF n m (alP c) (gP c sv) p ∧ (∀ i, n ≤ i → p i = 10) ∧ ∀ i, i < 10 → M'.1 66 i = pv (p i)) ∧ pR M' n m c T sv) := by
  obtain ⟨v1, v2, v3, v4, v5⟩ := id hV
  unfold fX4_findFirst
  refine ok_sq (ok_fr (c_clear M) (frX3_clear M)) ?_
  rintro M1 ⟨w1, f1⟩
  refine ok_sq (P := fun M' => wR M' (wt n m c (wF c sv)) ∧ zfr [60] M M') ?_ ?_
  · refine ok_up n (fun i x => ∃ M', x = (jL ((11 ^ (10 - i) : Nat) : Int), nI i, M') ∧ zfr [60] M M' ∧ wR M' (fun a b => if a < i then wt n m c (wF c sv) a b else 0)) ?_ ?_ zFu 0 _ (by omega) (by unfold zFu; omega) ⟨M1, rfl, f1, wR_cg w1 (fun a b _ _ => by simp)⟩
    · rintro rec i x hi ⟨M2, rfl, f2, w2⟩ hrec
      have p2 := pR_fr h f2 (by decide) (by decide)
      have b0 := p2.1
      have hdv := L_div i (by omega)
      simp (disch := omega) only [e_lt, e_ltn, e_jn, e_sq, e_bi, l_0, l_1, l_2, l_3, l_4, l_5, l_6, l_7, l_8, l_9, l_10, l_11, l_12, l_13, l_14, l_15, l_16, l_17, l_18, l_19, l_20, l_21, l_22, l_23, l_24, l_25, l_26, l_27, l_28, l_29, l_30, l_31, l_32, l_33, l_34, l_35, l_36, l_37, l_38, l_39, l_40, l_41, l_48, l_50, l_56, l_57, l_59, l_60, l_63, l_64, l_70, l_97, l_99, l_122, l_128, l_190, l_220, l_255, l_320, l_500, l_999, l_1024, l_83520, l_100000, l_1000000, L_0, L_1, L_2, L_3, L_4, L_6, L_7, L_9, L_10, L_11, L_13, L_16, L_32, L_48, L_50, L_57, L_97, L_99, L_122, L_999, L_83520, L_4294967295, L_25937424601, L_1152921504606846976, ↓m_1000020, ↓m_1000012, ↓m_1000010, ↓m_1000000, ↓m_10004, ↓m_10000, ↓m_1000, ↓m_999, ↓m_99, ↓m_30, ↓m_20, ↓m_14, ↓m_12, ↓m_11, ↓m_10, ↓m_8, ↓m_4, ↓m_3, ↓m_2, ↓m_1, ↓mL_999, ↓mL_99, ↓mL_1, n_add, n_mul, nj_add, jn_add, n_sub, n_subj, nj_sub, jn_sub, nj_mul, jn_mul, if_true, if_false, jI_add, jI_sub, jI_mul, jI_neg, jL_add, jL_sub, jL_mul, jL_neg, n_l, j_l, jL_i, e_gn, e_gj, e_znn, e_znj, nn_ltT, nn_ltF, nn_leT, nn_leF, nn_eqT, nn_eqF, nj_ltT, nj_ltF, nj_leT, nj_leF, nj_eqT, nj_eqF, jn_ltT, jn_ltF, jn_leT, jn_leF, jn_eqT, jn_eqF, jj_ltT, jj_ltF, jj_leT, jj_leF, jj_eqT, jj_eqF, LL_ltT, LL_ltF, LL_leT, LL_leF, LL_eqT, LL_eqF, e_w1, e_w1s, e_w2, e_x1, e_x2, e_x2s, e_a1, e_a1s, e_a2, e_uT, e_uF, e_vT, e_vF, e_ft, e_tf, e_zbt, e_zbf, n_or, n_31, n_shl, n_bit, n_not, n_bc, b0, hdv]
      refine ok_sq (P := fun M' => zfr [60] M M' ∧ wR M' (fun a b => if a < i + 1 then wt n m c (wF c sv) a b else 0)) ?_ (fun M3 h3 => ?_)
      · refine ok_up m (fun j x => ∃ M', x = (nI j, M') ∧ zfr [60] M M' ∧ wR M' (fun a b => if a < i ∨ (a = i ∧ b < j) then wt n m c (wF c sv) a b else 0)) ?_ ?_ zFu 0 _ (by omega) (by unfold zFu; omega) ⟨M2, rfl, f2, wR_cg w2 (fun a b _ _ => by simp)⟩
        · rintro rec2 j x hj ⟨M3, rfl, f3, w3⟩ hrec2
          have p3 := pR_fr h f3 (by decide) (by decide)
          have b1 := p3.2.1
          have hg := g_lo hV hi hj
          have hwb := wF_bd hV hi hj
          rw [c_may p3 hV hi hj, c_gain p3 hV hi hj]
          by_cases ec : c i j = -4
          · simp only [ec, ne_eq, not_true_eq_false, decide_false]
            simp (disch := omega) only [e_lt, e_ltn, e_jn, e_sq, e_bi, l_0, l_1, l_2, l_3, l_4, l_5, l_6, l_7, l_8, l_9, l_10, l_11, l_12, l_13, l_14, l_15, l_16, l_17, l_18, l_19, l_20, l_21, l_22, l_23, l_24, l_25, l_26, l_27, l_28, l_29, l_30, l_31, l_32, l_33, l_34, l_35, l_36, l_37, l_38, l_39, l_40, l_41, l_48, l_50, l_56, l_57, l_59, l_60, l_63, l_64, l_70, l_97, l_99, l_122, l_128, l_190, l_220, l_255, l_320, l_500, l_999, l_1024, l_83520, l_100000, l_1000000, L_0, L_1, L_2, L_3, L_4, L_6, L_7, L_9, L_10, L_11, L_13, L_16, L_32, L_48, L_50, L_57, L_97, L_99, L_122, L_999, L_83520, L_4294967295, L_25937424601, L_1152921504606846976, ↓m_1000020, ↓m_1000012, ↓m_1000010, ↓m_1000000, ↓m_10004, ↓m_10000, ↓m_1000, ↓m_999, ↓m_99, ↓m_30, ↓m_20, ↓m_14, ↓m_12, ↓m_11, ↓m_10, ↓m_8, ↓m_4, ↓m_3, ↓m_2, ↓m_1, ↓mL_999, ↓mL_99, ↓mL_1, n_add, n_mul, nj_add, jn_add, n_sub, n_subj, nj_sub, jn_sub, nj_mul, jn_mul, if_true, if_false, jI_add, jI_sub, jI_mul, jI_neg, jL_add, jL_sub, jL_mul, jL_neg, n_l, j_l, jL_i, e_gn, e_gj, e_znn, e_znj, nn_ltT, nn_ltF, nn_leT, nn_leF, nn_eqT, nn_eqF, nj_ltT, nj_ltF, nj_leT, nj_leF, nj_eqT, nj_eqF, jn_ltT, jn_ltF, jn_leT, jn_leF, jn_eqT, jn_eqF, jj_ltT, jj_ltF, jj_leT, jj_leF, jj_eqT, jj_eqF, LL_ltT, LL_ltF, LL_leT, LL_leF, LL_eqT, LL_eqF, e_w1, e_w1s, e_w2, e_x1, e_x2, e_x2s, e_a1, e_a1s, e_a2, e_uT, e_uF, e_vT, e_vF, e_ft, e_tf, e_zbt, e_zbf, n_or, n_31, n_shl, n_bit, n_not, n_bc, b1]
            refine hrec2 _ ⟨M3, rfl, f3, wR_cg w3 (fun a b _ _ => ?_)⟩
            (try dsimp only)
            by_cases q : a = i ∧ b = j
            · obtain ⟨rfl, rfl⟩ := q
              simp [wt, ec]
            · have : (a < i ∨ a = i ∧ b < j + 1) ↔ (a < i ∨ a = i ∧ b < j) := by omega
              simp only [this]
          · simp only [ec, ne_eq, not_false_eq_true, decide_true]
            simp (disch := omega) only [e_lt, e_ltn, e_jn, e_sq, e_bi, l_0, l_1, l_2, l_3, l_4, l_5, l_6, l_7, l_8, l_9, l_10, l_11, l_12, l_13, l_14, l_15, l_16, l_17, l_18, l_19, l_20, l_21, l_22, l_23, l_24, l_25, l_26, l_27, l_28, l_29, l_30, l_31, l_32, l_33, l_34, l_35, l_36, l_37, l_38, l_39, l_40, l_41, l_48, l_50, l_56, l_57, l_59, l_60, l_63, l_64, l_70, l_97, l_99, l_122, l_128, l_190, l_220, l_255, l_320, l_500, l_999, l_1024, l_83520, l_100000, l_1000000, L_0, L_1, L_2, L_3, L_4, L_6, L_7, L_9, L_10, L_11, L_13, L_16, L_32, L_48, L_50, L_57, L_97, L_99, L_122, L_999, L_83520, L_4294967295, L_25937424601, L_1152921504606846976, ↓m_1000020, ↓m_1000012, ↓m_1000010, ↓m_1000000, ↓m_10004, ↓m_10000, ↓m_1000, ↓m_999, ↓m_99, ↓m_30, ↓m_20, ↓m_14, ↓m_12, ↓m_11, ↓m_10, ↓m_8, ↓m_4, ↓m_3, ↓m_2, ↓m_1, ↓mL_999, ↓mL_99, ↓mL_1, n_add, n_mul, nj_add, jn_add, n_sub, n_subj, nj_sub, jn_sub, nj_mul, jn_mul, if_true, if_false, jI_add, jI_sub, jI_mul, jI_neg, jL_add, jL_sub, jL_mul, jL_neg, n_l, j_l, jL_i, e_gn, e_gj, e_znn, e_znj, nn_ltT, nn_ltF, nn_leT, nn_leF, nn_eqT, nn_eqF, nj_ltT, nj_ltF, nj_leT, nj_leF, nj_eqT, nj_eqF, jn_ltT, jn_ltF, jn_leT, jn_leF, jn_eqT, jn_eqF, jj_ltT, jj_ltF, jj_leT, jj_leF, jj_eqT, jj_eqF, LL_ltT, LL_ltF, LL_leT, LL_leF, LL_eqT, LL_eqF, e_w1, e_w1s, e_w2, e_x1, e_x2, e_x2s, e_a1, e_a1s, e_a2, e_uT, e_uF, e_vT, e_vF, e_ft, e_tf, e_zbt, e_zbf, n_or, n_31, n_shl, n_bit, n_not, n_bc, b1]
            have ew : (25937424601 * (c i j - sv) - ((10 - j : Nat) : Int) * ((11 ^ (9 - i) : Nat) : Int)) = wF c sv i j := by
              unfold wF gP
              rw [Int.natCast_mul]
            rw [ew, c_setW (by omega) (by omega) (by omega), e_sq, e_sq]
            refine hrec2 _ ⟨_, rfl, zfr_L f3 (by decide), wR_cg (wR_set w3 (i := i) (j := j) (by omega) (by omega) _) (fun a b _ _ => ?_)⟩
            (try dsimp only)
            by_cases q : a = i ∧ b = j
            · rw [if_pos q]
              obtain ⟨rfl, rfl⟩ := q
              simp [wt, ec, hi, hj]
            · rw [if_neg q]
              have : (a < i ∨ a = i ∧ b < j + 1) ↔ (a < i ∨ a = i ∧ b < j) := by omega
              simp only [this]
        · rintro rec2 x ⟨M3, rfl, f3, w3⟩
          have p3 := pR_fr h f3 (by decide) (by decide)
          have b1 := p3.2.1
          simp (disch := omega) only [e_lt, e_ltn, e_jn, e_sq, e_bi, l_0, l_1, l_2, l_3, l_4, l_5, l_6, l_7, l_8, l_9, l_10, l_11, l_12, l_13, l_14, l_15, l_16, l_17, l_18, l_19, l_20, l_21, l_22, l_23, l_24, l_25, l_26, l_27, l_28, l_29, l_30, l_31, l_32, l_33, l_34, l_35, l_36, l_37, l_38, l_39, l_40, l_41, l_48, l_50, l_56, l_57, l_59, l_60, l_63, l_64, l_70, l_97, l_99, l_122, l_128, l_190, l_220, l_255, l_320, l_500, l_999, l_1024, l_83520, l_100000, l_1000000, L_0, L_1, L_2, L_3, L_4, L_6, L_7, L_9, L_10, L_11, L_13, L_16, L_32, L_48, L_50, L_57, L_97, L_99, L_122, L_999, L_83520, L_4294967295, L_25937424601, L_1152921504606846976, ↓m_1000020, ↓m_1000012, ↓m_1000010, ↓m_1000000, ↓m_10004, ↓m_10000, ↓m_1000, ↓m_999, ↓m_99, ↓m_30, ↓m_20, ↓m_14, ↓m_12, ↓m_11, ↓m_10, ↓m_8, ↓m_4, ↓m_3, ↓m_2, ↓m_1, ↓mL_999, ↓mL_99, ↓mL_1, n_add, n_mul, nj_add, jn_add, n_sub, n_subj, nj_sub, jn_sub, nj_mul, jn_mul, if_true, if_false, jI_add, jI_sub, jI_mul, jI_neg, jL_add, jL_sub, jL_mul, jL_neg, n_l, j_l, jL_i, e_gn, e_gj, e_znn, e_znj, nn_ltT, nn_ltF, nn_leT, nn_leF, nn_eqT, nn_eqF, nj_ltT, nj_ltF, nj_leT, nj_leF, nj_eqT, nj_eqF, jn_ltT, jn_ltF, jn_leT, jn_leF, jn_eqT, jn_eqF, jj_ltT, jj_ltF, jj_leT, jj_leF, jj_eqT, jj_eqF, LL_ltT, LL_ltF, LL_leT, LL_leF, LL_eqT, LL_eqF, e_w1, e_w1s, e_w2, e_x1, e_x2, e_x2s, e_a1, e_a1s, e_a2, e_uT, e_uF, e_vT, e_vF, e_ft, e_tf, e_zbt, e_zbf, n_or, n_31, n_shl, n_bit, n_not, n_bc, b1]
          refine ok_some ⟨f3, wR_cg w3 (fun a b _ _ => ?_)⟩
          by_cases q : a < i ∨ a = i ∧ b < m
          · rw [if_pos q, if_pos (by omega)]
          · rw [if_neg q]
            by_cases w : a < i + 1
            · rw [if_pos w]
              unfold wt
              rw [if_neg (by omega)]
            · rw [if_neg w]
      · refine hrec _ ⟨M3, ?_, h3.1, h3.2⟩
        rw [show 10 - (i + 1) = 9 - i by omega]
    · rintro rec x ⟨M2, rfl, f2, w2⟩
      have p2 := pR_fr h f2 (by decide) (by decide)
      have b0 := p2.1
      simp (disch := omega) only [e_lt, e_ltn, e_jn, e_sq, e_bi, l_0, l_1, l_2, l_3, l_4, l_5, l_6, l_7, l_8, l_9, l_10, l_11, l_12, l_13, l_14, l_15, l_16, l_17, l_18, l_19, l_20, l_21, l_22, l_23, l_24, l_25, l_26, l_27, l_28, l_29, l_30, l_31, l_32, l_33, l_34, l_35, l_36, l_37, l_38, l_39, l_40, l_41, l_48, l_50, l_56, l_57, l_59, l_60, l_63, l_64, l_70, l_97, l_99, l_122, l_128, l_190, l_220, l_255, l_320, l_500, l_999, l_1024, l_83520, l_100000, l_1000000, L_0, L_1, L_2, L_3, L_4, L_6, L_7, L_9, L_10, L_11, L_13, L_16, L_32, L_48, L_50, L_57, L_97, L_99, L_122, L_999, L_83520, L_4294967295, L_25937424601, L_1152921504606846976, ↓m_1000020, ↓m_1000012, ↓m_1000010, ↓m_1000000, ↓m_10004, ↓m_10000, ↓m_1000, ↓m_999, ↓m_99, ↓m_30, ↓m_20, ↓m_14, ↓m_12, ↓m_11, ↓m_10, ↓m_8, ↓m_4, ↓m_3, ↓m_2, ↓m_1, ↓mL_999, ↓mL_99, ↓mL_1, n_add, n_mul, nj_add, jn_add, n_sub, n_subj, nj_sub, jn_sub, nj_mul, jn_mul, if_true, if_false, jI_add, jI_sub, jI_mul, jI_neg, jL_add, jL_sub, jL_mul, jL_neg, n_l, j_l, jL_i, e_gn, e_gj, e_znn, e_znj, nn_ltT, nn_ltF, nn_leT, nn_leF, nn_eqT, nn_eqF, nj_ltT, nj_ltF, nj_leT, nj_leF, nj_eqT, nj_eqF, jn_ltT, jn_ltF, jn_leT, jn_leF, jn_eqT, jn_eqF, jj_ltT, jj_ltF, jj_leT, jj_leF, jj_eqT, jj_eqF, LL_ltT, LL_ltF, LL_leT, LL_leF, LL_eqT, LL_eqF, e_w1, e_w1s, e_w2, e_x1, e_x2, e_x2s, e_a1, e_a1s, e_a2, e_uT, e_uF, e_vT, e_vF, e_ft, e_tf, e_zbt, e_zbf, n_or, n_31, n_shl, n_bit, n_not, n_bc, b0]
      refine ok_some ⟨wR_cg w2 (fun a b _ _ => ?_), f2⟩
      by_cases q : a < n
      · rw [if_pos q]
      · rw [if_neg q]
        unfold wt
        rw [if_neg (by omega)]
  · rintro M2 ⟨w2, f2⟩
    have p2 := pR_fr h f2 (by decide) (by decide)
    refine ok_bi (c_opt p2 hV (fun i _ => alP_10 c i) w2 (fun i j hi hj => wt_cap v2 i j hi hj) (fun i j q => wt_out i j q) (fun i j hi hj => by have := wF_bd hV hi hj; unfold zBB; omega)) ?_
    rintro z0 M3 ⟨⟨z, p, r1, r2, r3, r4, r5, r6, r7⟩, f3⟩
    dsimp only at r6 r7 f3
    have p3 := pR_fr p2 f3 (by decide) (by decide)
    have hF := first_C v1 v2 (g := gP c sv) (fun i j _ _ => rfl) r2 r3 r4
    have hW : ∀ i j, -zBB ≤ wt n m c (wF c sv) i j ∧ wt n m c (wF c sv) i j ≤ 0 := fun i j => by
      unfold wt
      split
      · rename_i q
        have := wF_bd hV q.1 q.2.1
        exact ⟨mn0_ge (by unfold zBB; omega) (by unfold zBB; omega), mn0_le _⟩
      · unfold zBB; omega
    have hF' : isF n m (alP c) (gP c sv) (fun i => if i < n then p i else 10) := by
      have e : ∀ i, i < n → (if i < n then p i else 10) = p i := fun i hi => if_pos hi
      have eS : wS (gP c sv) n (fun i => if i < n then p i else 10) = wS (gP c sv) n p := sm_congr (fun i hi => by (try dsimp only); rw [e i hi])
      refine ⟨⟨⟨fun i hi => ?_, fun i k h1 h2 h3 => ?_⟩, fun i hi => ?_⟩, fun q hq => ?_, fun q hq hs => ?_⟩
      · (try dsimp only); rw [e i hi]; exact hF.1.1.1 i hi
      · (try dsimp only at h3 ⊢); rw [e i (by omega), e k h2] at h3; rw [e i (by omega)]; exact hF.1.1.2 i k h1 h2 h3
      · (try dsimp only); rw [e i hi]; exact hF.1.2 i hi
      · rw [eS]; exact hF.2.1 q hq
      · rw [eS] at hs
        rcases hF.2.2 q hq hs with a | ⟨i, a1, a2, a3⟩
        · exact Or.inl (fun i hi => by (try dsimp only); rw [e i hi]; exact a i hi)
        · exact Or.inr ⟨i, a1, fun k hk => by (try dsimp only); rw [e k (by omega)]; exact a2 k hk, by (try dsimp only); rw [e i a1]; exact a3⟩
    refine ok_up 10 (fun i x => ∃ M', x = (nI i, M') ∧ zfr [66] M3 M' ∧ ∀ k, k < i → M'.1 66 k = pv (if k < n then p k else 10)) ?_ ?_ zFu 0 _ (by omega) (by unfold zFu; omega) ⟨M3, rfl, zfr_rf _ _, fun k hk => by omega⟩
    · rintro rec i x hi ⟨M4, rfl, f4, h4⟩ hrec
      have p4 := pR_fr p3 f4 (by decide) (by decide)
      have b0 := p4.1
      by_cases e : i < n
      · have w4 : wR M4 (wt n m c (wF c sv)) := fun a b ha hb => by rw [(f4 60 (by decide)).2]; exact r7 a b ha hb
        have hpt := c_partner p4 hV hW w4 e (hF.1.1.1 i e) (fun j hj => by rw [(f4 64 (by decide)).1]; exact r6 i j e hj)
        simp (disch := omega) only [e_lt, e_ltn, e_jn, e_sq, e_bi, l_0, l_1, l_2, l_3, l_4, l_5, l_6, l_7, l_8, l_9, l_10, l_11, l_12, l_13, l_14, l_15, l_16, l_17, l_18, l_19, l_20, l_21, l_22, l_23, l_24, l_25, l_26, l_27, l_28, l_29, l_30, l_31, l_32, l_33, l_34, l_35, l_36, l_37, l_38, l_39, l_40, l_41, l_48, l_50, l_56, l_57, l_59, l_60, l_63, l_64, l_70, l_97, l_99, l_122, l_128, l_190, l_220, l_255, l_320, l_500, l_999, l_1024, l_83520, l_100000, l_1000000, L_0, L_1, L_2, L_3, L_4, L_6, L_7, L_9, L_10, L_11, L_13, L_16, L_32, L_48, L_50, L_57, L_97, L_99, L_122, L_999, L_83520, L_4294967295, L_25937424601, L_1152921504606846976, ↓m_1000020, ↓m_1000012, ↓m_1000010, ↓m_1000000, ↓m_10004, ↓m_10000, ↓m_1000, ↓m_999, ↓m_99, ↓m_30, ↓m_20, ↓m_14, ↓m_12, ↓m_11, ↓m_10, ↓m_8, ↓m_4, ↓m_3, ↓m_2, ↓m_1, ↓mL_999, ↓mL_99, ↓mL_1, n_add, n_mul, nj_add, jn_add, n_sub, n_subj, nj_sub, jn_sub, nj_mul, jn_mul, if_true, if_false, jI_add, jI_sub, jI_mul, jI_neg, jL_add, jL_sub, jL_mul, jL_neg, n_l, j_l, jL_i, e_gn, e_gj, e_znn, e_znj, nn_ltT, nn_ltF, nn_leT, nn_leF, nn_eqT, nn_eqF, nj_ltT, nj_ltF, nj_leT, nj_leF, nj_eqT, nj_eqF, jn_ltT, jn_ltF, jn_leT, jn_leF, jn_eqT, jn_eqF, jj_ltT, jj_ltF, jj_leT, jj_leF, jj_eqT, jj_eqF, LL_ltT, LL_ltF, LL_leT, LL_leF, LL_eqT, LL_eqF, e_w1, e_w1s, e_w2, e_x1, e_x2, e_x2s, e_a1, e_a1s, e_a2, e_uT, e_uF, e_vT, e_vF, e_ft, e_tf, e_zbt, e_zbf, n_or, n_31, n_shl, n_bit, n_not, n_bc, b0, hpt]
        refine hrec _ ⟨_, rfl, zfr_I f4 (by decide), fun k hk => ?_⟩
        rw [e_w1s]
        by_cases q : k = i
        · subst q; rw [e_uT rfl, if_pos e]
        · rw [e_uF q]; exact h4 k (by omega)
      · simp (disch := omega) only [e_lt, e_ltn, e_jn, e_sq, e_bi, l_0, l_1, l_2, l_3, l_4, l_5, l_6, l_7, l_8, l_9, l_10, l_11, l_12, l_13, l_14, l_15, l_16, l_17, l_18, l_19, l_20, l_21, l_22, l_23, l_24, l_25, l_26, l_27, l_28, l_29, l_30, l_31, l_32, l_33, l_34, l_35, l_36, l_37, l_38, l_39, l_40, l_41, l_48, l_50, l_56, l_57, l_59, l_60, l_63, l_64, l_70, l_97, l_99, l_122, l_128, l_190, l_220, l_255, l_320, l_500, l_999, l_1024, l_83520, l_100000, l_1000000, L_0, L_1, L_2, L_3, L_4, L_6, L_7, L_9, L_10, L_11, L_13, L_16, L_32, L_48, L_50, L_57, L_97, L_99, L_122, L_999, L_83520, L_4294967295, L_25937424601, L_1152921504606846976, ↓m_1000020, ↓m_1000012, ↓m_1000010, ↓m_1000000, ↓m_10004, ↓m_10000, ↓m_1000, ↓m_999, ↓m_99, ↓m_30, ↓m_20, ↓m_14, ↓m_12, ↓m_11, ↓m_10, ↓m_8, ↓m_4, ↓m_3, ↓m_2, ↓m_1, ↓mL_999, ↓mL_99, ↓mL_1, n_add, n_mul, nj_add, jn_add, n_sub, n_subj, nj_sub, jn_sub, nj_mul, jn_mul, if_true, if_false, jI_add, jI_sub, jI_mul, jI_neg, jL_add, jL_sub, jL_mul, jL_neg, n_l, j_l, jL_i, e_gn, e_gj, e_znn, e_znj, nn_ltT, nn_ltF, nn_leT, nn_leF, nn_eqT, nn_eqF, nj_ltT, nj_ltF, nj_leT, nj_leF, nj_eqT, nj_eqF, jn_ltT, jn_ltF, jn_leT, jn_leF, jn_eqT, jn_eqF, jj_ltT, jj_ltF, jj_leT, jj_leF, jj_eqT, jj_eqF, LL_ltT, LL_ltF, LL_leT, LL_leF, LL_eqT, LL_eqF, e_w1, e_w1s, e_w2, e_x1, e_x2, e_x2s, e_a1, e_a1s, e_a2, e_uT, e_uF, e_vT, e_vF, e_ft, e_tf, e_zbt, e_zbf, n_or, n_31, n_shl, n_bit, n_not, n_bc, b0]
        refine hrec _ ⟨_, rfl, zfr_I f4 (by decide), fun k hk => ?_⟩
        rw [e_w1s]
        by_cases q : k = i
        · subst q; rw [e_uT rfl, if_neg e]; rfl
        · rw [e_uF q]; exact h4 k (by omega)
    · rintro rec x ⟨M4, rfl, f4, h4⟩
      simp (disch := omega) only [e_lt, e_ltn, e_jn, e_sq, e_bi, l_0, l_1, l_2, l_3, l_4, l_5, l_6, l_7, l_8, l_9, l_10, l_11, l_12, l_13, l_14, l_15, l_16, l_17, l_18, l_19, l_20, l_21, l_22, l_23, l_24, l_25, l_26, l_27, l_28, l_29, l_30, l_31, l_32, l_33, l_34, l_35, l_36, l_37, l_38, l_39, l_40, l_41, l_48, l_50, l_56, l_57, l_59, l_60, l_63, l_64, l_70, l_97, l_99, l_122, l_128, l_190, l_220, l_255, l_320, l_500, l_999, l_1024, l_83520, l_100000, l_1000000, L_0, L_1, L_2, L_3, L_4, L_6, L_7, L_9, L_10, L_11, L_13, L_16, L_32, L_48, L_50, L_57, L_97, L_99, L_122, L_999, L_83520, L_4294967295, L_25937424601, L_1152921504606846976, ↓m_1000020, ↓m_1000012, ↓m_1000010, ↓m_1000000, ↓m_10004, ↓m_10000, ↓m_1000, ↓m_999, ↓m_99, ↓m_30, ↓m_20, ↓m_14, ↓m_12, ↓m_11, ↓m_10, ↓m_8, ↓m_4, ↓m_3, ↓m_2, ↓m_1, ↓mL_999, ↓mL_99, ↓mL_1, n_add, n_mul, nj_add, jn_add, n_sub, n_subj, nj_sub, jn_sub, nj_mul, jn_mul, if_true, if_false, jI_add, jI_sub, jI_mul, jI_neg, jL_add, jL_sub, jL_mul, jL_neg, n_l, j_l, jL_i, e_gn, e_gj, e_znn, e_znj, nn_ltT, nn_ltF, nn_leT, nn_leF, nn_eqT, nn_eqF, nj_ltT, nj_ltF, nj_leT, nj_leF, nj_eqT, nj_eqF, jn_ltT, jn_ltF, jn_leT, jn_leF, jn_eqT, jn_eqF, jj_ltT, jj_ltF, jj_leT, jj_leF, jj_eqT, jj_eqF, LL_ltT, LL_ltF, LL_leT, LL_leF, LL_eqT, LL_eqF, e_w1, e_w1s, e_w2, e_x1, e_x2, e_x2s, e_a1, e_a1s, e_a2, e_uT, e_uF, e_vT, e_vF, e_ft, e_tf, e_zbt, e_zbf, n_or, n_31, n_shl, n_bit, n_not, n_bc]
      exact ok_some ⟨⟨fun i => if i < n then p i else 10, hF', fun i hi => if_neg (by omega), h4⟩, pR_fr p3 f4 (by decide) (by decide)⟩
