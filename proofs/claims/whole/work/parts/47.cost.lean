def pw (ρ : Nat → Int) (S : Nat → Nat) (pl i j p : Nat) : Int := if pl.testBit p = true then pt ρ S (S (70 + 60 * 0 + 6 * i + (p + 1))) (S (70 + 60 * 1 + 6 * j + (p + 1))) else 0
def bd4 (f : Nat → Int) : Bool := decide (f 0 = -4) || decide (f 1 = -4) || decide (f 2 = -4) || decide (f 3 = -4)
theorem bd4_t {f : Nat → Int} : bd4 f = true ↔ ∃ p, p < 4 ∧ f p = -4 := by
  unfold bd4
  simp only [Bool.or_eq_true, decide_eq_true_eq]
  constructor
  · rintro (((h | h) | h) | h)
    · exact ⟨0, by omega, h⟩
    · exact ⟨1, by omega, h⟩
    · exact ⟨2, by omega, h⟩
    · exact ⟨3, by omega, h⟩
  · rintro ⟨p, hp, h⟩
    rcases (show p = 0 ∨ p = 1 ∨ p = 2 ∨ p = 3 by omega) with rfl | rfl | rfl | rfl
    · exact Or.inl (Or.inl (Or.inl h))
    · exact Or.inl (Or.inl (Or.inr h))
    · exact Or.inl (Or.inr h)
    · exact Or.inr h
theorem bd4_f {f : Nat → Int} : bd4 f = false ↔ ∀ p, p < 4 → f p ≠ -4 := by
  rw [← Bool.not_eq_true, bd4_t]
  constructor
  · intro h p hp e; exact h ⟨p, hp, e⟩
  · rintro h ⟨p, hp, e⟩; exact h p hp e
def ul (ρ : Nat → Int) (S : Nat → Nat) (i j : Nat) : Int := if S (70 + 60 * 0 + 6 * i + 5) ≠ 0 ∧ S (70 + 60 * 1 + 6 * j + 5) ≠ 0 ∧ S (70 + 60 * 0 + 6 * i + 5) ≠ S (70 + 60 * 1 + 6 * j + 5) then ρ 6 else 0
def tk (ρ : Nat → Int) (S : Nat → Nat) (i j : Nat) : Int := (S (70 + 60 * 1 + 6 * j + 0) : Int) - S (70 + 60 * 0 + 6 * i + 0) - ρ 9
def ab (x : Int) : Int := if 0 ≤ x then x else -x
def pP (ρ : Nat → Int) (S : Nat → Nat) (pl i j : Nat) : Int := if bd4 (pw ρ S pl i j) = true then -4 else ul ρ S i j + sm (pw ρ S pl i j) 4
def co (ρ : Nat → Int) (S : Nat → Nat) (pl i j : Nat) : Int := if bd4 (pw ρ S pl i j) = true ∨ tk ρ S i j < ρ 0 ∨ ρ 1 < tk ρ S i j then -4 else ul ρ S i j + sm (pw ρ S pl i j) 4 + ab (tk ρ S i j - ρ 2) * ρ 3
theorem pw_bd {ρ : Nat → Int} {S : Nat → Nat} (hV : V ρ S) (pl i j p : Nat) : pw ρ S pl i j p = -4 ∨ (0 ≤ pw ρ S pl i j p ∧ pw ρ S pl i j p ≤ 50) := by
  unfold pw
  split
  · exact pt_bd hV _ _
  · omega
theorem sp_bd {ρ : Nat → Int} {S : Nat → Nat} (hV : V ρ S) {pl i j : Nat} : ∀ p, p ≤ 4 → (∀ q, q < p → pw ρ S pl i j q ≠ -4) → 0 ≤ sm (pw ρ S pl i j) p ∧ sm (pw ρ S pl i j) p ≤ 200
  | 0, _, _ => by simp [sm]
  | 1, _, h => by have := pw_bd hV pl i j 0; have := h 0 (by omega); simp only [sm]; omega
  | 2, _, h => by
    have := pw_bd hV pl i j 0; have := h 0 (by omega); have := pw_bd hV pl i j 1; have := h 1 (by omega)
    simp only [sm]; omega
  | 3, _, h => by
    have := pw_bd hV pl i j 0; have := h 0 (by omega); have := pw_bd hV pl i j 1; have := h 1 (by omega); have := pw_bd hV pl i j 2; have := h 2 (by omega)
    simp only [sm]; omega
  | 4, _, h => by
    have := pw_bd hV pl i j 0; have := h 0 (by omega); have := pw_bd hV pl i j 1; have := h 1 (by omega); have := pw_bd hV pl i j 2; have := h 2 (by omega); have := pw_bd hV pl i j 3; have := h 3 (by omega)
    simp only [sm]; omega
  | p + 5, h, _ => by omega
theorem ul_bd {ρ : Nat → Int} {S : Nat → Nat} (hV : V ρ S) (i j : Nat) : 0 ≤ ul ρ S i j ∧ ul ρ S i j ≤ 50 := by
  obtain ⟨_, _, _, _, _, _, _, _, _, v10, _⟩ := hV
  unfold ul
  split <;> omega
theorem pP_bd {ρ : Nat → Int} {S : Nat → Nat} (hV : V ρ S) (pl i j : Nat) : pP ρ S pl i j = -4 ∨ (0 ≤ pP ρ S pl i j ∧ pP ρ S pl i j ≤ 250) := by
  unfold pP
  by_cases e : bd4 (pw ρ S pl i j) = true
  · rw [if_pos e]; exact Or.inl rfl
  · rw [if_neg e]
    have := sp_bd hV (pl := pl) (i := i) (j := j) 4 (by omega) (bd4_f.mp (by simpa using e))
    have := ul_bd hV i j
    omega
theorem tm_bd {ρ : Nat → Int} {S : Nat → Nat} (hV : V ρ S) {x : Int} (h : ρ 0 ≤ x ∧ x ≤ ρ 1) : 0 ≤ ab (x - ρ 2) * ρ 3 ∧ ab (x - ρ 2) * ρ 3 ≤ 4500 ∧ 0 ≤ ab (x - ρ 2) ∧ ab (x - ρ 2) ≤ 500 := by
  obtain ⟨_, _, _, _, v5, v6, v7, _⟩ := hV
  have h1 : 0 ≤ ab (x - ρ 2) ∧ ab (x - ρ 2) ≤ 500 := by unfold ab; split <;> omega
  have h2 := Int.mul_nonneg h1.1 v7.1
  have h3 : ab (x - ρ 2) * ρ 3 ≤ 500 * ρ 3 := Int.mul_le_mul_of_nonneg_right h1.2 v7.1
  omega
theorem co_bd {ρ : Nat → Int} {S : Nat → Nat} (hV : V ρ S) (pl i j : Nat) : co ρ S pl i j = -4 ∨ (0 ≤ co ρ S pl i j ∧ co ρ S pl i j ≤ 5000) := by
  unfold co
  by_cases e : bd4 (pw ρ S pl i j) = true ∨ tk ρ S i j < ρ 0 ∨ ρ 1 < tk ρ S i j
  · rw [if_pos e]; exact Or.inl rfl
  · rw [if_neg e]
    have e1 : bd4 (pw ρ S pl i j) = false := by
      rw [← Bool.not_eq_true]; exact fun q => e (Or.inl q)
    have := sp_bd hV (pl := pl) (i := i) (j := j) 4 (by omega) (bd4_f.mp e1)
    have := ul_bd hV i j
    have := tm_bd hV (x := tk ρ S i j) ⟨by omega, by omega⟩
    omega
theorem co_pP {ρ : Nat → Int} {S : Nat → Nat} (pl i j : Nat) (hV : V ρ S) : co ρ S pl i j = if pP ρ S pl i j = -4 then -4 else if tk ρ S i j < ρ 0 ∨ ρ 1 < tk ρ S i j then -4 else pP ρ S pl i j + ab (tk ρ S i j - ρ 2) * ρ 3 := by
  have := pP_bd hV pl i j
  unfold co pP at *
  by_cases e : bd4 (pw ρ S pl i j) = true
  · rw [if_pos (Or.inl e), if_pos e, if_pos rfl]
  · rw [if_neg e] at this ⊢
    have h2 := sp_bd hV (pl := pl) (i := i) (j := j) 4 (by omega) (bd4_f.mp (by simpa using e))
    have h3 := ul_bd hV i j
    rw [if_neg (show ¬ ul ρ S i j + sm (pw ρ S pl i j) 4 = -4 by omega)]
    by_cases e2 : tk ρ S i j < ρ 0 ∨ ρ 1 < tk ρ S i j
    · rw [if_pos (Or.inr e2), if_pos e2]
    · rw [if_neg (fun q => q.elim e e2), if_neg e2]
/-- the class's points of plates and colours -/
theorem c_pbut {M : zM} {ρ : Nat → Int} {S : Nat → Nat} (h : cR M 1 ρ S) (hV : V ρ S) {pl i j : Nat} (hpl : pl < 16) (hi : i < S 64) (hj : j < S 65) : fX5_pointsBut 1 (nI i) (nI j) (nI pl) M = some (jI (pP ρ S pl i j)) := by
  obtain ⟨v1, v2, v3, _⟩ := id hV
  obtain ⟨⟨_, h1⟩, ⟨_, h2⟩, h3, _⟩ := id h
  obtain ⟨_, a2, a3⟩ := h1 i hi
  obtain ⟨_, b2, b3⟩ := h2 j hj
  have q1 := v2 0 i (by omega) hi
  have q2 := v2 1 j (by omega) hj
  have a2 : M.1 4 i = nI (S (70 + 60 * 0 + 6 * i + 5)) := a2
  have b2 : M.1 8 j = nI (S (70 + 60 * 1 + 6 * j + 5)) := b2
  have a3 : ∀ p, p < 4 → M.1 5 (i * 4 + p) = nI (S (70 + 60 * 0 + 6 * i + (p + 1))) := a3
  have b3 : ∀ p, p < 4 → M.1 9 (j * 4 + p) = nI (S (70 + 60 * 1 + 6 * j + (p + 1))) := b3
  have h3 : cO M 10 ρ S := h3
  have r6 : M.1 11 6 = jI (ρ 6) := h3.1 6 (by omega)
  have hu := (t_unl (S (70 + 60 * 0 + 6 * i + 5)) (by omega) (S (70 + 60 * 1 + 6 * j + 5)) (by omega)).1
  apply ok_eq
  unfold fX5_pointsBut
  simp (disch := omega) only [e_lt, e_ltn, e_jn, e_sq, e_bi, l_0, l_1, l_2, l_3, l_4, l_5, l_6, l_7, l_8, l_9, l_10, l_11, l_12, l_13, l_14, l_15, l_16, l_17, l_18, l_19, l_20, l_21, l_22, l_23, l_24, l_25, l_26, l_27, l_28, l_29, l_30, l_31, l_32, l_33, l_34, l_35, l_36, l_37, l_38, l_39, l_40, l_41, l_48, l_50, l_56, l_57, l_59, l_60, l_63, l_64, l_70, l_97, l_99, l_122, l_128, l_190, l_220, l_255, l_320, l_500, l_999, l_1024, l_83520, l_100000, l_1000000, L_0, L_1, L_2, L_3, L_4, L_6, L_7, L_9, L_10, L_11, L_13, L_16, L_32, L_48, L_50, L_57, L_97, L_99, L_122, L_999, L_83520, L_4294967295, L_25937424601, L_1152921504606846976, ↓m_1000020, ↓m_1000012, ↓m_1000010, ↓m_1000000, ↓m_10004, ↓m_10000, ↓m_1000, ↓m_999, ↓m_99, ↓m_30, ↓m_20, ↓m_14, ↓m_12, ↓m_11, ↓m_10, ↓m_8, ↓m_4, ↓m_3, ↓m_2, ↓m_1, ↓mL_999, ↓mL_99, ↓mL_1, n_add, n_mul, nj_add, jn_add, n_sub, n_subj, nj_sub, jn_sub, nj_mul, jn_mul, if_true, if_false, jI_add, jI_sub, jI_mul, jI_neg, jL_add, jL_sub, jL_mul, jL_neg, n_l, j_l, jL_i, e_gn, e_gj, e_znn, e_znj, nn_ltT, nn_ltF, nn_leT, nn_leF, nn_eqT, nn_eqF, nj_ltT, nj_ltF, nj_leT, nj_leF, nj_eqT, nj_eqF, jn_ltT, jn_ltF, jn_leT, jn_leF, jn_eqT, jn_eqF, jj_ltT, jj_ltF, jj_leT, jj_leF, jj_eqT, jj_eqF, LL_ltT, LL_ltF, LL_leT, LL_leF, LL_eqT, LL_eqF, e_w1, e_w1s, e_w2, e_x1, e_x2, e_x2s, e_a1, e_a1s, e_a2, e_uT, e_uF, e_vT, e_vF, e_ft, e_tf, e_zbt, e_zbf, n_or, n_31, n_shl, n_bit, n_not, n_bc, Nat.reduceAdd, a2, b2, hu]
  have hul : (if decide (S (70 + 60 * 0 + 6 * i + 5) ≠ 0 ∧ S (70 + 60 * 1 + 6 * j + 5) ≠ 0 ∧ S (70 + 60 * 0 + 6 * i + 5) ≠ S (70 + 60 * 1 + 6 * j + 5)) = false then some (nI 0) else some (M.1 11 6)) = some (jI (ul ρ S i j)) := by
    unfold ul
    by_cases q : S (70 + 60 * 0 + 6 * i + 5) ≠ 0 ∧ S (70 + 60 * 1 + 6 * j + 5) ≠ 0 ∧ S (70 + 60 * 0 + 6 * i + 5) ≠ S (70 + 60 * 1 + 6 * j + 5)
    · rw [if_pos q, decide_eq_true q, if_neg (by decide), r6]
    · rw [if_neg q, decide_eq_false q, if_pos rfl]; rfl
  rw [hul, e_sq]
  refine ok_up 4 (fun p x => x = (jI (ul ρ S i j + sm (pw ρ S pl i j) p), nI p) ∧ ∀ q, q < p → pw ρ S pl i j q ≠ -4) ?_ ?_ zFu 0 _ (by omega) (by unfold zFu; omega) ⟨by simp [sm], fun q hq => by omega⟩
  · rintro rec p x hp ⟨rfl, hb⟩ hrec
    have c1 := a3 p hp
    have c2 := b3 p hp
    have c3 := c_pts h3 hV (q1.2.2 p hp) (q2.2.2 p hp)
    have c4 := pw_bd hV pl i j p
    simp (disch := omega) only [e_lt, e_ltn, e_jn, e_sq, e_bi, l_0, l_1, l_2, l_3, l_4, l_5, l_6, l_7, l_8, l_9, l_10, l_11, l_12, l_13, l_14, l_15, l_16, l_17, l_18, l_19, l_20, l_21, l_22, l_23, l_24, l_25, l_26, l_27, l_28, l_29, l_30, l_31, l_32, l_33, l_34, l_35, l_36, l_37, l_38, l_39, l_40, l_41, l_48, l_50, l_56, l_57, l_59, l_60, l_63, l_64, l_70, l_97, l_99, l_122, l_128, l_190, l_220, l_255, l_320, l_500, l_999, l_1024, l_83520, l_100000, l_1000000, L_0, L_1, L_2, L_3, L_4, L_6, L_7, L_9, L_10, L_11, L_13, L_16, L_32, L_48, L_50, L_57, L_97, L_99, L_122, L_999, L_83520, L_4294967295, L_25937424601, L_1152921504606846976, ↓m_1000020, ↓m_1000012, ↓m_1000010, ↓m_1000000, ↓m_10004, ↓m_10000, ↓m_1000, ↓m_999, ↓m_99, ↓m_30, ↓m_20, ↓m_14, ↓m_12, ↓m_11, ↓m_10, ↓m_8, ↓m_4, ↓m_3, ↓m_2, ↓m_1, ↓mL_999, ↓mL_99, ↓mL_1, n_add, n_mul, nj_add, jn_add, n_sub, n_subj, nj_sub, jn_sub, nj_mul, jn_mul, if_true, if_false, jI_add, jI_sub, jI_mul, jI_neg, jL_add, jL_sub, jL_mul, jL_neg, n_l, j_l, jL_i, e_gn, e_gj, e_znn, e_znj, nn_ltT, nn_ltF, nn_leT, nn_leF, nn_eqT, nn_eqF, nj_ltT, nj_ltF, nj_leT, nj_leF, nj_eqT, nj_eqF, jn_ltT, jn_ltF, jn_leT, jn_leF, jn_eqT, jn_eqF, jj_ltT, jj_ltF, jj_leT, jj_leF, jj_eqT, jj_eqF, LL_ltT, LL_ltF, LL_leT, LL_leF, LL_eqT, LL_eqF, e_w1, e_w1s, e_w2, e_x1, e_x2, e_x2s, e_a1, e_a1s, e_a2, e_uT, e_uF, e_vT, e_vF, e_ft, e_tf, e_zbt, e_zbf, n_or, n_31, n_shl, n_bit, n_not, n_bc, Nat.reduceAdd, c1, c2]
    have hpw : (if nI (if pl.testBit p = true then 1 else 0) = nI 0 then some (nI 0) else sq (fX6_pointsOf 10 (nI (S (70 + 60 * 0 + 6 * i + (p + 1)))) (nI (S (70 + 60 * 1 + 6 * j + (p + 1)))) M) fun x23 => some x23) = some (jI (pw ρ S pl i j p)) := by
      unfold pw
      by_cases q : pl.testBit p = true
      · rw [if_pos q, if_pos q, c3]; rfl
      · rw [if_neg q, if_neg q]; rfl
    rw [hpw, e_sq]
    by_cases e : pw ρ S pl i j p = -4
    · simp (disch := omega) only [e_lt, e_ltn, e_jn, e_sq, e_bi, l_0, l_1, l_2, l_3, l_4, l_5, l_6, l_7, l_8, l_9, l_10, l_11, l_12, l_13, l_14, l_15, l_16, l_17, l_18, l_19, l_20, l_21, l_22, l_23, l_24, l_25, l_26, l_27, l_28, l_29, l_30, l_31, l_32, l_33, l_34, l_35, l_36, l_37, l_38, l_39, l_40, l_41, l_48, l_50, l_56, l_57, l_59, l_60, l_63, l_64, l_70, l_97, l_99, l_122, l_128, l_190, l_220, l_255, l_320, l_500, l_999, l_1024, l_83520, l_100000, l_1000000, L_0, L_1, L_2, L_3, L_4, L_6, L_7, L_9, L_10, L_11, L_13, L_16, L_32, L_48, L_50, L_57, L_97, L_99, L_122, L_999, L_83520, L_4294967295, L_25937424601, L_1152921504606846976, ↓m_1000020, ↓m_1000012, ↓m_1000010, ↓m_1000000, ↓m_10004, ↓m_10000, ↓m_1000, ↓m_999, ↓m_99, ↓m_30, ↓m_20, ↓m_14, ↓m_12, ↓m_11, ↓m_10, ↓m_8, ↓m_4, ↓m_3, ↓m_2, ↓m_1, ↓mL_999, ↓mL_99, ↓mL_1, n_add, n_mul, nj_add, jn_add, n_sub, n_subj, nj_sub, jn_sub, nj_mul, jn_mul, if_true, if_false, jI_add, jI_sub, jI_mul, jI_neg, jL_add, jL_sub, jL_mul, jL_neg, n_l, j_l, jL_i, e_gn, e_gj, e_znn, e_znj, nn_ltT, nn_ltF, nn_leT, nn_leF, nn_eqT, nn_eqF, nj_ltT, nj_ltF, nj_leT, nj_leF, nj_eqT, nj_eqF, jn_ltT, jn_ltF, jn_leT, jn_leF, jn_eqT, jn_eqF, jj_ltT, jj_ltF, jj_leT, jj_leF, jj_eqT, jj_eqF, LL_ltT, LL_ltF, LL_leT, LL_leF, LL_eqT, LL_eqF, e_w1, e_w1s, e_w2, e_x1, e_x2, e_x2s, e_a1, e_a1s, e_a2, e_uT, e_uF, e_vT, e_vF, e_ft, e_tf, e_zbt, e_zbf, n_or, n_31, n_shl, n_bit, n_not, n_bc]
      refine ok_some ?_
      unfold pP
      rw [if_pos (bd4_t.mpr ⟨p, hp, e⟩)]
    · simp (disch := omega) only [e_lt, e_ltn, e_jn, e_sq, e_bi, l_0, l_1, l_2, l_3, l_4, l_5, l_6, l_7, l_8, l_9, l_10, l_11, l_12, l_13, l_14, l_15, l_16, l_17, l_18, l_19, l_20, l_21, l_22, l_23, l_24, l_25, l_26, l_27, l_28, l_29, l_30, l_31, l_32, l_33, l_34, l_35, l_36, l_37, l_38, l_39, l_40, l_41, l_48, l_50, l_56, l_57, l_59, l_60, l_63, l_64, l_70, l_97, l_99, l_122, l_128, l_190, l_220, l_255, l_320, l_500, l_999, l_1024, l_83520, l_100000, l_1000000, L_0, L_1, L_2, L_3, L_4, L_6, L_7, L_9, L_10, L_11, L_13, L_16, L_32, L_48, L_50, L_57, L_97, L_99, L_122, L_999, L_83520, L_4294967295, L_25937424601, L_1152921504606846976, ↓m_1000020, ↓m_1000012, ↓m_1000010, ↓m_1000000, ↓m_10004, ↓m_10000, ↓m_1000, ↓m_999, ↓m_99, ↓m_30, ↓m_20, ↓m_14, ↓m_12, ↓m_11, ↓m_10, ↓m_8, ↓m_4, ↓m_3, ↓m_2, ↓m_1, ↓mL_999, ↓mL_99, ↓mL_1, n_add, n_mul, nj_add, jn_add, n_sub, n_subj, nj_sub, jn_sub, nj_mul, jn_mul, if_true, if_false, jI_add, jI_sub, jI_mul, jI_neg, jL_add, jL_sub, jL_mul, jL_neg, n_l, j_l, jL_i, e_gn, e_gj, e_znn, e_znj, nn_ltT, nn_ltF, nn_leT, nn_leF, nn_eqT, nn_eqF, nj_ltT, nj_ltF, nj_leT, nj_leF, nj_eqT, nj_eqF, jn_ltT, jn_ltF, jn_leT, jn_leF, jn_eqT, jn_eqF, jj_ltT, jj_ltF, jj_leT, jj_leF, jj_eqT, jj_eqF, LL_ltT, LL_ltF, LL_leT, LL_leF, LL_eqT, LL_eqF, e_w1, e_w1s, e_w2, e_x1, e_x2, e_x2s, e_a1, e_a1s, e_a2, e_uT, e_uF, e_vT, e_vF, e_ft, e_tf, e_zbt, e_zbf, n_or, n_31, n_shl, n_bit, n_not, n_bc]
      refine hrec _ ⟨?_, fun q hq => ?_⟩
      · rw [sm, Int.add_assoc]
      · by_cases w : q = p
        · subst w; exact e
        · exact hb q (by omega)
  · rintro rec x ⟨rfl, hb⟩
    simp (disch := omega) only [e_lt, e_ltn, e_jn, e_sq, e_bi, l_0, l_1, l_2, l_3, l_4, l_5, l_6, l_7, l_8, l_9, l_10, l_11, l_12, l_13, l_14, l_15, l_16, l_17, l_18, l_19, l_20, l_21, l_22, l_23, l_24, l_25, l_26, l_27, l_28, l_29, l_30, l_31, l_32, l_33, l_34, l_35, l_36, l_37, l_38, l_39, l_40, l_41, l_48, l_50, l_56, l_57, l_59, l_60, l_63, l_64, l_70, l_97, l_99, l_122, l_128, l_190, l_220, l_255, l_320, l_500, l_999, l_1024, l_83520, l_100000, l_1000000, L_0, L_1, L_2, L_3, L_4, L_6, L_7, L_9, L_10, L_11, L_13, L_16, L_32, L_48, L_50, L_57, L_97, L_99, L_122, L_999, L_83520, L_4294967295, L_25937424601, L_1152921504606846976, ↓m_1000020, ↓m_1000012, ↓m_1000010, ↓m_1000000, ↓m_10004, ↓m_10000, ↓m_1000, ↓m_999, ↓m_99, ↓m_30, ↓m_20, ↓m_14, ↓m_12, ↓m_11, ↓m_10, ↓m_8, ↓m_4, ↓m_3, ↓m_2, ↓m_1, ↓mL_999, ↓mL_99, ↓mL_1, n_add, n_mul, nj_add, jn_add, n_sub, n_subj, nj_sub, jn_sub, nj_mul, jn_mul, if_true, if_false, jI_add, jI_sub, jI_mul, jI_neg, jL_add, jL_sub, jL_mul, jL_neg, n_l, j_l, jL_i, e_gn, e_gj, e_znn, e_znj, nn_ltT, nn_ltF, nn_leT, nn_leF, nn_eqT, nn_eqF, nj_ltT, nj_ltF, nj_leT, nj_leF, nj_eqT, nj_eqF, jn_ltT, jn_ltF, jn_leT, jn_leF, jn_eqT, jn_eqF, jj_ltT, jj_ltF, jj_leT, jj_leF, jj_eqT, jj_eqF, LL_ltT, LL_ltF, LL_leT, LL_leF, LL_eqT, LL_eqF, e_w1, e_w1s, e_w2, e_x1, e_x2, e_x2s, e_a1, e_a1s, e_a2, e_uT, e_uF, e_vT, e_vF, e_ft, e_tf, e_zbt, e_zbf, n_or, n_31, n_shl, n_bit, n_not, n_bc]
    refine ok_some ?_
    unfold pP
    rw [if_neg]
    rw [bd4_f.mpr hb]
    decide
