/-- pairs that do not cost more than both lines alone -/
def eN (c : Nat → Nat → Int) (sv : Int) (i j : Nat) : Bool := decide (j = 10) || decide (gP c sv i j ≤ 0)
theorem fF_bd {m : Nat} (hm : m ≤ 10) {al : Nat → Nat → Bool} {g : Nat → Nat → Int} : ∀ (i : Nat), (∀ a j, a < i → j < m → al a j = true → -202 ≤ g a j ∧ g a j ≤ 0) → ∀ y, y ∈ fF m al g i → -202 * i ≤ y.2 ∧ y.2 ≤ 0
  | 0, _, y, h => by
    rw [fF, List.mem_singleton] at h
    rw [h]
    simp
  | i + 1, hg, y, h => by
    rw [fF] at h
    obtain ⟨x, h1, h2⟩ := List.mem_flatMap.mp h
    have ih := fF_bd hm i (fun a j ha hj q => hg a j (by omega) hj q) x h1
    have : ∀ j, j ≤ m → y ∈ xS (al i) (g i) x j → -202 * ((i + 1 : Nat) : Int) ≤ y.2 ∧ y.2 ≤ 0 := by
      intro j
      induction j with
      | zero =>
        intro _ q
        rw [xS, List.mem_singleton] at q
        rw [q]
        omega
      | succ j ihj =>
        intro hj q
        rw [xS] at q
        rcases List.mem_append.mp q with q | q
        · exact ihj (by omega) q
        · split at q
          · rename_i w
            rw [List.mem_singleton] at q
            rw [q]
            have := hg i j (by omega) (by omega) w.2
            dsimp only
            omega
          · cases q
    exact this m (Nat.le_refl _) h2
theorem cC_bd {m : Nat} (hm : m ≤ 10) {al : Nat → Nat → Bool} {g : Nat → Nat → Int} {i : Nat} (hg : ∀ a j, a < i → j < m → al a j = true → -202 ≤ g a j ∧ g a j ≤ 0) {S : Nat} {x : Int} (h : 0 < cC m al g i S x) : -202 * i ≤ x ∧ x ≤ 0 := by
  unfold cC at h
  rw [List.countP_pos_iff] at h
  obtain ⟨y, h1, h2⟩ := h
  simp only [Bool.and_eq_true, decide_eq_true_eq] at h2
  have := fF_bd hm i hg y h1
  rw [h2.2] at this
  exact this
/-- best pairings have no pair that costs more -/
theorem best_neg {n m : Nat} {al : Nat → Nat → Bool} {g : Nat → Nat → Int} {v : Int} (hal : ∀ i, i < n → al i 10 = true) (h : isL n m al g v) {q : Nat → Nat} (hq : aQ n m al q) (hv : wS g n q = v) : ∀ i, i < n → q i = 10 ∨ g i (q i) ≤ 0 := by
  intro i hi
  by_cases e : q i = 10
  · exact Or.inl e
  · right
    have h1 := h.1 (fun k => if k = i then 10 else q k) ⟨vP_upd hq.1 10 (Or.inl rfl), fun k hk => by
      dsimp only
      by_cases ek : k = i
      · rw [if_pos ek]; exact hal k hk
      · rw [if_neg ek]; exact hq.2 k hk⟩
    rw [wS_upd 10 hi, hv] at h1
    unfold gt at h1
    rw [if_pos rfl, if_neg e] at h1
    omega
theorem c_best {M : zM} {n m : Nat} {c : Nat → Nat → Int} {T sv : Int} (h : pR M n m c T sv) (hV : pV n m c T sv) {v : Int} {b : Nat} {fw gr : Int} (hs : sOK (bB m (alP c) n 0 0) (gS (gP c sv) 0) v b fw gr) :
    ok (fX0_countBest M) (fun x => x.1 = jL b) := by
  obtain ⟨v1, v2, v3, v4, v5⟩ := id hV
  have hp := p2_le v2
  have hp0 := p2_pos m
  have hL := sOK_L v2 hs
  -- the pairs that are looked at
  obtain ⟨al, hal⟩ : ∃ al : Nat → Nat → Bool, al = fun i j => alP c i j && eN c sv i j := ⟨_, rfl⟩
  have halt : ∀ i j, j < m → (al i j = true ↔ c i j ≠ -4 ∧ c i j - sv ≤ 0) := fun i j hj => by
    rw [hal]
    dsimp only
    rw [alP_lt (by omega)]
    have : j ≠ 10 := by omega
    simp [eN, gP, this]
    intro _
    exact decide_eq_true_iff
  have hal10 : ∀ i, al i 10 = true := fun i => by rw [hal]; simp [alP_10, eN]
  have hgb : ∀ a j, a < n → j < m → al a j = true → -202 ≤ gP c sv a j ∧ gP c sv a j ≤ 0 := fun a j ha hj q => by
    have := (halt a j hj).mp q
    have := g_lo hV ha hj
    unfold gP
    omega
  unfold fX0_countBest
  rw [pfill _ _ _ _ (by decide), e_sq]
  simp (disch := omega) only [e_lt, e_ltn, e_jn, e_sq, e_bi, l_0, l_1, l_2, l_3, l_4, l_5, l_6, l_7, l_8, l_9, l_10, l_11, l_12, l_13, l_14, l_15, l_16, l_17, l_18, l_19, l_20, l_21, l_22, l_23, l_24, l_25, l_26, l_27, l_28, l_29, l_30, l_31, l_32, l_33, l_34, l_35, l_36, l_37, l_38, l_39, l_40, l_41, l_48, l_50, l_56, l_57, l_59, l_60, l_63, l_64, l_70, l_97, l_99, l_122, l_128, l_190, l_220, l_255, l_320, l_500, l_999, l_1024, l_83520, l_100000, l_1000000, L_0, L_1, L_2, L_3, L_4, L_6, L_7, L_9, L_10, L_11, L_13, L_16, L_32, L_48, L_50, L_57, L_97, L_99, L_122, L_999, L_83520, L_4294967295, L_25937424601, L_1152921504606846976, ↓m_1000020, ↓m_1000012, ↓m_1000010, ↓m_1000000, ↓m_10004, ↓m_10000, ↓m_1000, ↓m_999, ↓m_99, ↓m_30, ↓m_20, ↓m_14, ↓m_12, ↓m_11, ↓m_10, ↓m_8, ↓m_4, ↓m_3, ↓m_2, ↓m_1, ↓mL_999, ↓mL_99, ↓mL_1, n_add, n_mul, nj_add, jn_add, n_sub, n_subj, nj_sub, jn_sub, nj_mul, jn_mul, if_true, if_false, jI_add, jI_sub, jI_mul, jI_neg, jL_add, jL_sub, jL_mul, jL_neg, n_l, j_l, jL_i, e_gn, e_gj, e_znn, e_znj, nn_ltT, nn_ltF, nn_leT, nn_leF, nn_eqT, nn_eqF, nj_ltT, nj_ltF, nj_leT, nj_leF, nj_eqT, nj_eqF, jn_ltT, jn_ltF, jn_leT, jn_leF, jn_eqT, jn_eqF, jj_ltT, jj_ltF, jj_leT, jj_leF, jj_eqT, jj_eqF, LL_ltT, LL_ltF, LL_leT, LL_leF, LL_eqT, LL_eqF, e_w1, e_w1s, e_w2, e_x1, e_x2, e_x2s, e_a1, e_a1s, e_a2, e_uT, e_uF, e_vT, e_vF, e_ft, e_tf, e_zbt, e_zbf, n_or, n_31, n_shl, n_bit, n_not, n_bc]
  have h0 : ∀ S, S < 2 ^ m → clB (zwI (zwI (zwA M 68 (zfl (M.1 68) 1024 (nI 0))) 68 0 (nI 1)) 69 0 (nI 0)) S (cC m al (gP c sv) 0 S) := fun S hS => by
    by_cases e : S = 0
    · subst e
      refine ⟨1, 0, by simp (disch := omega) only [e_lt, e_ltn, e_jn, e_sq, e_bi, l_0, l_1, l_2, l_3, l_4, l_5, l_6, l_7, l_8, l_9, l_10, l_11, l_12, l_13, l_14, l_15, l_16, l_17, l_18, l_19, l_20, l_21, l_22, l_23, l_24, l_25, l_26, l_27, l_28, l_29, l_30, l_31, l_32, l_33, l_34, l_35, l_36, l_37, l_38, l_39, l_40, l_41, l_48, l_50, l_56, l_57, l_59, l_60, l_63, l_64, l_70, l_97, l_99, l_122, l_128, l_190, l_220, l_255, l_320, l_500, l_999, l_1024, l_83520, l_100000, l_1000000, L_0, L_1, L_2, L_3, L_4, L_6, L_7, L_9, L_10, L_11, L_13, L_16, L_32, L_48, L_50, L_57, L_97, L_99, L_122, L_999, L_83520, L_4294967295, L_25937424601, L_1152921504606846976, ↓m_1000020, ↓m_1000012, ↓m_1000010, ↓m_1000000, ↓m_10004, ↓m_10000, ↓m_1000, ↓m_999, ↓m_99, ↓m_30, ↓m_20, ↓m_14, ↓m_12, ↓m_11, ↓m_10, ↓m_8, ↓m_4, ↓m_3, ↓m_2, ↓m_1, ↓mL_999, ↓mL_99, ↓mL_1, n_add, n_mul, nj_add, jn_add, n_sub, n_subj, nj_sub, jn_sub, nj_mul, jn_mul, if_true, if_false, jI_add, jI_sub, jI_mul, jI_neg, jL_add, jL_sub, jL_mul, jL_neg, n_l, j_l, jL_i, e_gn, e_gj, e_znn, e_znj, nn_ltT, nn_ltF, nn_leT, nn_leF, nn_eqT, nn_eqF, nj_ltT, nj_ltF, nj_leT, nj_leF, nj_eqT, nj_eqF, jn_ltT, jn_ltF, jn_leT, jn_leF, jn_eqT, jn_eqF, jj_ltT, jj_ltF, jj_leT, jj_leF, jj_eqT, jj_eqF, LL_ltT, LL_ltF, LL_leT, LL_leF, LL_eqT, LL_eqF, e_w1, e_w1s, e_w2, e_x1, e_x2, e_x2s, e_a1, e_a1s, e_a2, e_uT, e_uF, e_vT, e_vF, e_ft, e_tf, e_zbt, e_zbf, n_or, n_31, n_shl, n_bit, n_not, n_bc], by simp (disch := omega) only [e_lt, e_ltn, e_jn, e_sq, e_bi, l_0, l_1, l_2, l_3, l_4, l_5, l_6, l_7, l_8, l_9, l_10, l_11, l_12, l_13, l_14, l_15, l_16, l_17, l_18, l_19, l_20, l_21, l_22, l_23, l_24, l_25, l_26, l_27, l_28, l_29, l_30, l_31, l_32, l_33, l_34, l_35, l_36, l_37, l_38, l_39, l_40, l_41, l_48, l_50, l_56, l_57, l_59, l_60, l_63, l_64, l_70, l_97, l_99, l_122, l_128, l_190, l_220, l_255, l_320, l_500, l_999, l_1024, l_83520, l_100000, l_1000000, L_0, L_1, L_2, L_3, L_4, L_6, L_7, L_9, L_10, L_11, L_13, L_16, L_32, L_48, L_50, L_57, L_97, L_99, L_122, L_999, L_83520, L_4294967295, L_25937424601, L_1152921504606846976, ↓m_1000020, ↓m_1000012, ↓m_1000010, ↓m_1000000, ↓m_10004, ↓m_10000, ↓m_1000, ↓m_999, ↓m_99, ↓m_30, ↓m_20, ↓m_14, ↓m_12, ↓m_11, ↓m_10, ↓m_8, ↓m_4, ↓m_3, ↓m_2, ↓m_1, ↓mL_999, ↓mL_99, ↓mL_1, n_add, n_mul, nj_add, jn_add, n_sub, n_subj, nj_sub, jn_sub, nj_mul, jn_mul, if_true, if_false, jI_add, jI_sub, jI_mul, jI_neg, jL_add, jL_sub, jL_mul, jL_neg, n_l, j_l, jL_i, e_gn, e_gj, e_znn, e_znj, nn_ltT, nn_ltF, nn_leT, nn_leF, nn_eqT, nn_eqF, nj_ltT, nj_ltF, nj_leT, nj_leF, nj_eqT, nj_eqF, jn_ltT, jn_ltF, jn_leT, jn_leF, jn_eqT, jn_eqF, jj_ltT, jj_ltF, jj_leT, jj_leF, jj_eqT, jj_eqF, LL_ltT, LL_ltF, LL_leT, LL_leF, LL_eqT, LL_eqF, e_w1, e_w1s, e_w2, e_x1, e_x2, e_x2s, e_a1, e_a1s, e_a2, e_uT, e_uF, e_vT, e_vF, e_ft, e_tf, e_zbt, e_zbf, n_or, n_31, n_shl, n_bit, n_not, n_bc]; rfl, by omega, Or.inr ⟨by omega, by rw [cC_zero]; simp, fun x hx => ?_⟩⟩
      rw [cC_zero, if_neg (by omega)]
    · obtain ⟨gn, hg1, hg2⟩ := jI_of (M.1 69 S)
      refine ⟨0, gn, ?_, ?_, hg1, Or.inl ⟨rfl, fun x => ?_⟩⟩
      · simp (disch := omega) only [e_lt, e_ltn, e_jn, e_sq, e_bi, l_0, l_1, l_2, l_3, l_4, l_5, l_6, l_7, l_8, l_9, l_10, l_11, l_12, l_13, l_14, l_15, l_16, l_17, l_18, l_19, l_20, l_21, l_22, l_23, l_24, l_25, l_26, l_27, l_28, l_29, l_30, l_31, l_32, l_33, l_34, l_35, l_36, l_37, l_38, l_39, l_40, l_41, l_48, l_50, l_56, l_57, l_59, l_60, l_63, l_64, l_70, l_97, l_99, l_122, l_128, l_190, l_220, l_255, l_320, l_500, l_999, l_1024, l_83520, l_100000, l_1000000, L_0, L_1, L_2, L_3, L_4, L_6, L_7, L_9, L_10, L_11, L_13, L_16, L_32, L_48, L_50, L_57, L_97, L_99, L_122, L_999, L_83520, L_4294967295, L_25937424601, L_1152921504606846976, ↓m_1000020, ↓m_1000012, ↓m_1000010, ↓m_1000000, ↓m_10004, ↓m_10000, ↓m_1000, ↓m_999, ↓m_99, ↓m_30, ↓m_20, ↓m_14, ↓m_12, ↓m_11, ↓m_10, ↓m_8, ↓m_4, ↓m_3, ↓m_2, ↓m_1, ↓mL_999, ↓mL_99, ↓mL_1, n_add, n_mul, nj_add, jn_add, n_sub, n_subj, nj_sub, jn_sub, nj_mul, jn_mul, if_true, if_false, jI_add, jI_sub, jI_mul, jI_neg, jL_add, jL_sub, jL_mul, jL_neg, n_l, j_l, jL_i, e_gn, e_gj, e_znn, e_znj, nn_ltT, nn_ltF, nn_leT, nn_leF, nn_eqT, nn_eqF, nj_ltT, nj_ltF, nj_leT, nj_leF, nj_eqT, nj_eqF, jn_ltT, jn_ltF, jn_leT, jn_leF, jn_eqT, jn_eqF, jj_ltT, jj_ltF, jj_leT, jj_leF, jj_eqT, jj_eqF, LL_ltT, LL_ltF, LL_leT, LL_leF, LL_eqT, LL_eqF, e_w1, e_w1s, e_w2, e_x1, e_x2, e_x2s, e_a1, e_a1s, e_a2, e_uT, e_uF, e_vT, e_vF, e_ft, e_tf, e_zbt, e_zbf, n_or, n_31, n_shl, n_bit, n_not, n_bc]
        unfold zfl
        rw [if_pos (by omega)]
      · simp (disch := omega) only [e_lt, e_ltn, e_jn, e_sq, e_bi, l_0, l_1, l_2, l_3, l_4, l_5, l_6, l_7, l_8, l_9, l_10, l_11, l_12, l_13, l_14, l_15, l_16, l_17, l_18, l_19, l_20, l_21, l_22, l_23, l_24, l_25, l_26, l_27, l_28, l_29, l_30, l_31, l_32, l_33, l_34, l_35, l_36, l_37, l_38, l_39, l_40, l_41, l_48, l_50, l_56, l_57, l_59, l_60, l_63, l_64, l_70, l_97, l_99, l_122, l_128, l_190, l_220, l_255, l_320, l_500, l_999, l_1024, l_83520, l_100000, l_1000000, L_0, L_1, L_2, L_3, L_4, L_6, L_7, L_9, L_10, L_11, L_13, L_16, L_32, L_48, L_50, L_57, L_97, L_99, L_122, L_999, L_83520, L_4294967295, L_25937424601, L_1152921504606846976, ↓m_1000020, ↓m_1000012, ↓m_1000010, ↓m_1000000, ↓m_10004, ↓m_10000, ↓m_1000, ↓m_999, ↓m_99, ↓m_30, ↓m_20, ↓m_14, ↓m_12, ↓m_11, ↓m_10, ↓m_8, ↓m_4, ↓m_3, ↓m_2, ↓m_1, ↓mL_999, ↓mL_99, ↓mL_1, n_add, n_mul, nj_add, jn_add, n_sub, n_subj, nj_sub, jn_sub, nj_mul, jn_mul, if_true, if_false, jI_add, jI_sub, jI_mul, jI_neg, jL_add, jL_sub, jL_mul, jL_neg, n_l, j_l, jL_i, e_gn, e_gj, e_znn, e_znj, nn_ltT, nn_ltF, nn_leT, nn_leF, nn_eqT, nn_eqF, nj_ltT, nj_ltF, nj_leT, nj_leF, nj_eqT, nj_eqF, jn_ltT, jn_ltF, jn_leT, jn_leF, jn_eqT, jn_eqF, jj_ltT, jj_ltF, jj_leT, jj_leF, jj_eqT, jj_eqF, LL_ltT, LL_ltF, LL_leT, LL_leF, LL_eqT, LL_eqF, e_w1, e_w1s, e_w2, e_x1, e_x2, e_x2s, e_a1, e_a1s, e_a2, e_uT, e_uF, e_vT, e_vF, e_ft, e_tf, e_zbt, e_zbf, n_or, n_31, n_shl, n_bit, n_not, n_bc]
        exact hg2
      · rw [cC_zero, if_neg (fun w => e w.1)]
  have f0 : zfr [68, 69] M (zwI (zwI (zwA M 68 (zfl (M.1 68) 1024 (nI 0))) 68 0 (nI 1)) 69 0 (nI 0)) := zfr_I (zfr_I (zfr_A (zfr_rf _ _) (by decide)) (by decide)) (by decide)
  generalize zwI (zwI (zwA M 68 (zfl (M.1 68) 1024 (nI 0))) 68 0 (nI 1)) 69 0 (nI 0) = M1 at h0 f0 ⊢
  refine ok_sq (P := fun M' => zfr [68, 69] M M' ∧ ∀ S, S < 2 ^ m → clB M' S (cC m al (gP c sv) n S)) ?_ ?_
  · refine ok_up n (fun i x => ∃ M', x = (nI i, M') ∧ zfr [68, 69] M M' ∧ ∀ S, S < 2 ^ m → clB M' S (cC m al (gP c sv) i S)) ?_ ?_ zFu 0 _ (by omega) (by unfold zFu; omega) ⟨M1, rfl, f0, h0⟩
    · rintro rec i x hi ⟨M2, rfl, f2, h2⟩ hrec
      have p2 := pR_fr h f2 (by decide) (by decide)
      have b0 := p2.1
      have hnext : ∀ o, (∀ j, o.testBit j = true ↔ (j < m ∧ c i j ≠ -4 ∧ c i j - sv ≤ 0)) → ∀ S, S < 2 ^ m → ∀ x, cA (cC m al (gP c sv) i) (fun j => c i j - sv) o m 0 S x = cC m al (gP c sv) (i + 1) S x := by
        intro o ho S hS x
        rw [cC_step v2 i (by omega)]
        unfold cA
        congr 1
        apply sn_congr
        intro j hj
        have : (S.testBit j = true ∧ o.testBit j = true ∧ 0 ≤ S - 2 ^ j) ↔ (S.testBit j = true ∧ al i j = true) := by
          rw [ho j, halt i j hj]
          constructor
          · rintro ⟨w1, w2, _⟩; exact ⟨w1, w2.2⟩
          · rintro ⟨w1, w2⟩; exact ⟨w1, ⟨hj, w2⟩, Nat.zero_le _⟩
        simp only [this]
        rfl
      simp (disch := omega) only [e_lt, e_ltn, e_jn, e_sq, e_bi, l_0, l_1, l_2, l_3, l_4, l_5, l_6, l_7, l_8, l_9, l_10, l_11, l_12, l_13, l_14, l_15, l_16, l_17, l_18, l_19, l_20, l_21, l_22, l_23, l_24, l_25, l_26, l_27, l_28, l_29, l_30, l_31, l_32, l_33, l_34, l_35, l_36, l_37, l_38, l_39, l_40, l_41, l_48, l_50, l_56, l_57, l_59, l_60, l_63, l_64, l_70, l_97, l_99, l_122, l_128, l_190, l_220, l_255, l_320, l_500, l_999, l_1024, l_83520, l_100000, l_1000000, L_0, L_1, L_2, L_3, L_4, L_6, L_7, L_9, L_10, L_11, L_13, L_16, L_32, L_48, L_50, L_57, L_97, L_99, L_122, L_999, L_83520, L_4294967295, L_25937424601, L_1152921504606846976, ↓m_1000020, ↓m_1000012, ↓m_1000010, ↓m_1000000, ↓m_10004, ↓m_10000, ↓m_1000, ↓m_999, ↓m_99, ↓m_30, ↓m_20, ↓m_14, ↓m_12, ↓m_11, ↓m_10, ↓m_8, ↓m_4, ↓m_3, ↓m_2, ↓m_1, ↓mL_999, ↓mL_99, ↓mL_1, n_add, n_mul, nj_add, jn_add, n_sub, n_subj, nj_sub, jn_sub, nj_mul, jn_mul, if_true, if_false, jI_add, jI_sub, jI_mul, jI_neg, jL_add, jL_sub, jL_mul, jL_neg, n_l, j_l, jL_i, e_gn, e_gj, e_znn, e_znj, nn_ltT, nn_ltF, nn_leT, nn_leF, nn_eqT, nn_eqF, nj_ltT, nj_ltF, nj_leT, nj_leF, nj_eqT, nj_eqF, jn_ltT, jn_ltF, jn_leT, jn_leF, jn_eqT, jn_eqF, jj_ltT, jj_ltF, jj_leT, jj_leF, jj_eqT, jj_eqF, LL_ltT, LL_ltF, LL_leT, LL_leF, LL_eqT, LL_eqF, e_w1, e_w1s, e_w2, e_x1, e_x2, e_x2s, e_a1, e_a1s, e_a2, e_uT, e_uF, e_vT, e_vF, e_ft, e_tf, e_zbt, e_zbf, n_or, n_31, n_shl, n_bit, n_not, n_bc, b0]
      refine ok_sq (c_spB p2 hV hi h2 (fun o ho S hS x => ?_)) ?_
      · rw [hnext o ho S hS x]
        refine ⟨Nat.lt_of_le_of_lt (cC_le _ _ _) (Nat.lt_of_le_of_lt (nN_bd v2 (by omega) (by omega)) (by omega)), fun q => ?_⟩
        have := cC_bd v2 (fun a j ha hj w => hgb a j (by omega) hj w) q
        omega
      · rintro M3 ⟨⟨o, ho, h3⟩, f3⟩
        refine hrec _ ⟨M3, rfl, zfr_tr f2 f3 (by decide), fun S hS => ?_⟩
        obtain ⟨a1, a2, a3, a4, a5, a6⟩ := h3 S hS
        exact ⟨a1, a2, a3, a4, a5, stB_cg a6 (hnext o ho S hS)⟩
    · rintro rec x ⟨M2, rfl, f2, h2⟩
      have p2 := pR_fr h f2 (by decide) (by decide)
      have b0 := p2.1
      simp (disch := omega) only [e_lt, e_ltn, e_jn, e_sq, e_bi, l_0, l_1, l_2, l_3, l_4, l_5, l_6, l_7, l_8, l_9, l_10, l_11, l_12, l_13, l_14, l_15, l_16, l_17, l_18, l_19, l_20, l_21, l_22, l_23, l_24, l_25, l_26, l_27, l_28, l_29, l_30, l_31, l_32, l_33, l_34, l_35, l_36, l_37, l_38, l_39, l_40, l_41, l_48, l_50, l_56, l_57, l_59, l_60, l_63, l_64, l_70, l_97, l_99, l_122, l_128, l_190, l_220, l_255, l_320, l_500, l_999, l_1024, l_83520, l_100000, l_1000000, L_0, L_1, L_2, L_3, L_4, L_6, L_7, L_9, L_10, L_11, L_13, L_16, L_32, L_48, L_50, L_57, L_97, L_99, L_122, L_999, L_83520, L_4294967295, L_25937424601, L_1152921504606846976, ↓m_1000020, ↓m_1000012, ↓m_1000010, ↓m_1000000, ↓m_10004, ↓m_10000, ↓m_1000, ↓m_999, ↓m_99, ↓m_30, ↓m_20, ↓m_14, ↓m_12, ↓m_11, ↓m_10, ↓m_8, ↓m_4, ↓m_3, ↓m_2, ↓m_1, ↓mL_999, ↓mL_99, ↓mL_1, n_add, n_mul, nj_add, jn_add, n_sub, n_subj, nj_sub, jn_sub, nj_mul, jn_mul, if_true, if_false, jI_add, jI_sub, jI_mul, jI_neg, jL_add, jL_sub, jL_mul, jL_neg, n_l, j_l, jL_i, e_gn, e_gj, e_znn, e_znj, nn_ltT, nn_ltF, nn_leT, nn_leF, nn_eqT, nn_eqF, nj_ltT, nj_ltF, nj_leT, nj_leF, nj_eqT, nj_eqF, jn_ltT, jn_ltF, jn_leT, jn_leF, jn_eqT, jn_eqF, jj_ltT, jj_ltF, jj_leT, jj_leF, jj_eqT, jj_eqF, LL_ltT, LL_ltF, LL_leT, LL_leF, LL_eqT, LL_eqF, e_w1, e_w1s, e_w2, e_x1, e_x2, e_x2s, e_a1, e_a1s, e_a2, e_uT, e_uF, e_vT, e_vF, e_ft, e_tf, e_zbt, e_zbf, n_or, n_31, n_shl, n_bit, n_not, n_bc, b0]
      exact ok_some ⟨f2, h2⟩
  · rintro M2 ⟨f2, h2⟩
    have p2 := pR_fr h f2 (by decide) (by decide)
    have b1 := p2.2.1
    have hcb : ∀ S x, S < 2 ^ m → cC m al (gP c sv) n S x ≤ 3628800 := fun S x hS => Nat.le_trans (cC_le _ _ _) (nN_bd v2 v1 (by omega))
    refine ok_up (2 ^ m) (fun k x => ∃ L, x = (jI L, jL (sn (fun S => cC m al (gP c sv) n S L) k : Nat), nI k) ∧ (-3000 ≤ L ∧ L ≤ 0) ∧ (∀ S, S < k → ∀ x, x < L → cC m al (gP c sv) n S x = 0) ∧ (L = 0 ∨ ∃ S, S < k ∧ 0 < cC m al (gP c sv) n S L)) ?_ ?_ zFu 0 _ (Nat.zero_le _) (by unfold zFu; omega) ⟨0, rfl, by omega, fun S hS => by omega, Or.inl rfl⟩
    · rintro rec k x hk ⟨L, rfl, hL1, hL2, hL3⟩ hrec
      obtain ⟨num, gn, e68, e69, hgn, hst⟩ := h2 k hk
      have hnum : num ≤ 3628800 := by
        rcases hst with ⟨q, _⟩ | ⟨_, q, _⟩
        · omega
        · rw [q]; exact hcb k gn hk
      by_cases z : num = 0
      · have hz : ∀ x, cC m al (gP c sv) n k x = 0 := by
          rcases hst with ⟨_, q⟩ | ⟨q, _⟩
          · exact q
          · omega
        simp (disch := omega) only [e_lt, e_ltn, e_jn, e_sq, e_bi, l_0, l_1, l_2, l_3, l_4, l_5, l_6, l_7, l_8, l_9, l_10, l_11, l_12, l_13, l_14, l_15, l_16, l_17, l_18, l_19, l_20, l_21, l_22, l_23, l_24, l_25, l_26, l_27, l_28, l_29, l_30, l_31, l_32, l_33, l_34, l_35, l_36, l_37, l_38, l_39, l_40, l_41, l_48, l_50, l_56, l_57, l_59, l_60, l_63, l_64, l_70, l_97, l_99, l_122, l_128, l_190, l_220, l_255, l_320, l_500, l_999, l_1024, l_83520, l_100000, l_1000000, L_0, L_1, L_2, L_3, L_4, L_6, L_7, L_9, L_10, L_11, L_13, L_16, L_32, L_48, L_50, L_57, L_97, L_99, L_122, L_999, L_83520, L_4294967295, L_25937424601, L_1152921504606846976, ↓m_1000020, ↓m_1000012, ↓m_1000010, ↓m_1000000, ↓m_10004, ↓m_10000, ↓m_1000, ↓m_999, ↓m_99, ↓m_30, ↓m_20, ↓m_14, ↓m_12, ↓m_11, ↓m_10, ↓m_8, ↓m_4, ↓m_3, ↓m_2, ↓m_1, ↓mL_999, ↓mL_99, ↓mL_1, n_add, n_mul, nj_add, jn_add, n_sub, n_subj, nj_sub, jn_sub, nj_mul, jn_mul, if_true, if_false, jI_add, jI_sub, jI_mul, jI_neg, jL_add, jL_sub, jL_mul, jL_neg, n_l, j_l, jL_i, e_gn, e_gj, e_znn, e_znj, nn_ltT, nn_ltF, nn_leT, nn_leF, nn_eqT, nn_eqF, nj_ltT, nj_ltF, nj_leT, nj_leF, nj_eqT, nj_eqF, jn_ltT, jn_ltF, jn_leT, jn_leF, jn_eqT, jn_eqF, jj_ltT, jj_ltF, jj_leT, jj_leF, jj_eqT, jj_eqF, LL_ltT, LL_ltF, LL_leT, LL_leF, LL_eqT, LL_eqF, e_w1, e_w1s, e_w2, e_x1, e_x2, e_x2s, e_a1, e_a1s, e_a2, e_uT, e_uF, e_vT, e_vF, e_ft, e_tf, e_zbt, e_zbf, n_or, n_31, n_shl, n_bit, n_not, n_bc, b1, e68, e69]
        refine hrec _ ⟨L, ?_, hL1, fun S hS x hx => ?_, hL3.imp (fun q => q) (fun ⟨S, q1, q2⟩ => ⟨S, by omega, q2⟩)⟩
        · rw [sn, hz L]
          simp
        · by_cases e : S = k
          · subst e; exact hz x
          · exact hL2 S (by omega) x hx
      · obtain ⟨w1, w2, w3⟩ : 0 < num ∧ num = cC m al (gP c sv) n k gn ∧ ∀ x, x < gn → cC m al (gP c sv) n k x = 0 := by
          rcases hst with ⟨q, _⟩ | q
          · omega
          · exact q
        have hgn2 := cC_bd v2 hgb (i := n) (S := k) (x := gn) (by omega)
        by_cases c1 : L ≤ gn
        · simp (disch := omega) only [e_lt, e_ltn, e_jn, e_sq, e_bi, l_0, l_1, l_2, l_3, l_4, l_5, l_6, l_7, l_8, l_9, l_10, l_11, l_12, l_13, l_14, l_15, l_16, l_17, l_18, l_19, l_20, l_21, l_22, l_23, l_24, l_25, l_26, l_27, l_28, l_29, l_30, l_31, l_32, l_33, l_34, l_35, l_36, l_37, l_38, l_39, l_40, l_41, l_48, l_50, l_56, l_57, l_59, l_60, l_63, l_64, l_70, l_97, l_99, l_122, l_128, l_190, l_220, l_255, l_320, l_500, l_999, l_1024, l_83520, l_100000, l_1000000, L_0, L_1, L_2, L_3, L_4, L_6, L_7, L_9, L_10, L_11, L_13, L_16, L_32, L_48, L_50, L_57, L_97, L_99, L_122, L_999, L_83520, L_4294967295, L_25937424601, L_1152921504606846976, ↓m_1000020, ↓m_1000012, ↓m_1000010, ↓m_1000000, ↓m_10004, ↓m_10000, ↓m_1000, ↓m_999, ↓m_99, ↓m_30, ↓m_20, ↓m_14, ↓m_12, ↓m_11, ↓m_10, ↓m_8, ↓m_4, ↓m_3, ↓m_2, ↓m_1, ↓mL_999, ↓mL_99, ↓mL_1, n_add, n_mul, nj_add, jn_add, n_sub, n_subj, nj_sub, jn_sub, nj_mul, jn_mul, if_true, if_false, jI_add, jI_sub, jI_mul, jI_neg, jL_add, jL_sub, jL_mul, jL_neg, n_l, j_l, jL_i, e_gn, e_gj, e_znn, e_znj, nn_ltT, nn_ltF, nn_leT, nn_leF, nn_eqT, nn_eqF, nj_ltT, nj_ltF, nj_leT, nj_leF, nj_eqT, nj_eqF, jn_ltT, jn_ltF, jn_leT, jn_leF, jn_eqT, jn_eqF, jj_ltT, jj_ltF, jj_leT, jj_leF, jj_eqT, jj_eqF, LL_ltT, LL_ltF, LL_leT, LL_leF, LL_eqT, LL_eqF, e_w1, e_w1s, e_w2, e_x1, e_x2, e_x2s, e_a1, e_a1s, e_a2, e_uT, e_uF, e_vT, e_vF, e_ft, e_tf, e_zbt, e_zbf, n_or, n_31, n_shl, n_bit, n_not, n_bc, b1, e68, e69]
          have hL2' : ∀ S, S < k + 1 → ∀ x, x < L → cC m al (gP c sv) n S x = 0 := fun S hS x hx => by
            by_cases e : S = k
            · subst e; exact w3 x (by omega)
            · exact hL2 S (by omega) x hx
          by_cases c2 : gn = L
          · simp (disch := omega) only [e_lt, e_ltn, e_jn, e_sq, e_bi, l_0, l_1, l_2, l_3, l_4, l_5, l_6, l_7, l_8, l_9, l_10, l_11, l_12, l_13, l_14, l_15, l_16, l_17, l_18, l_19, l_20, l_21, l_22, l_23, l_24, l_25, l_26, l_27, l_28, l_29, l_30, l_31, l_32, l_33, l_34, l_35, l_36, l_37, l_38, l_39, l_40, l_41, l_48, l_50, l_56, l_57, l_59, l_60, l_63, l_64, l_70, l_97, l_99, l_122, l_128, l_190, l_220, l_255, l_320, l_500, l_999, l_1024, l_83520, l_100000, l_1000000, L_0, L_1, L_2, L_3, L_4, L_6, L_7, L_9, L_10, L_11, L_13, L_16, L_32, L_48, L_50, L_57, L_97, L_99, L_122, L_999, L_83520, L_4294967295, L_25937424601, L_1152921504606846976, ↓m_1000020, ↓m_1000012, ↓m_1000010, ↓m_1000000, ↓m_10004, ↓m_10000, ↓m_1000, ↓m_999, ↓m_99, ↓m_30, ↓m_20, ↓m_14, ↓m_12, ↓m_11, ↓m_10, ↓m_8, ↓m_4, ↓m_3, ↓m_2, ↓m_1, ↓mL_999, ↓mL_99, ↓mL_1, n_add, n_mul, nj_add, jn_add, n_sub, n_subj, nj_sub, jn_sub, nj_mul, jn_mul, if_true, if_false, jI_add, jI_sub, jI_mul, jI_neg, jL_add, jL_sub, jL_mul, jL_neg, n_l, j_l, jL_i, e_gn, e_gj, e_znn, e_znj, nn_ltT, nn_ltF, nn_leT, nn_leF, nn_eqT, nn_eqF, nj_ltT, nj_ltF, nj_leT, nj_leF, nj_eqT, nj_eqF, jn_ltT, jn_ltF, jn_leT, jn_leF, jn_eqT, jn_eqF, jj_ltT, jj_ltF, jj_leT, jj_leF, jj_eqT, jj_eqF, LL_ltT, LL_ltF, LL_leT, LL_leF, LL_eqT, LL_eqF, e_w1, e_w1s, e_w2, e_x1, e_x2, e_x2s, e_a1, e_a1s, e_a2, e_uT, e_uF, e_vT, e_vF, e_ft, e_tf, e_zbt, e_zbf, n_or, n_31, n_shl, n_bit, n_not, n_bc]
            refine hrec _ ⟨L, ?_, hL1, hL2', hL3.imp (fun q => q) (fun ⟨S, q1, q2⟩ => ⟨S, by omega, q2⟩)⟩
            rw [sn, ← c2, ← w2, Int.natCast_add]
          · simp (disch := omega) only [e_lt, e_ltn, e_jn, e_sq, e_bi, l_0, l_1, l_2, l_3, l_4, l_5, l_6, l_7, l_8, l_9, l_10, l_11, l_12, l_13, l_14, l_15, l_16, l_17, l_18, l_19, l_20, l_21, l_22, l_23, l_24, l_25, l_26, l_27, l_28, l_29, l_30, l_31, l_32, l_33, l_34, l_35, l_36, l_37, l_38, l_39, l_40, l_41, l_48, l_50, l_56, l_57, l_59, l_60, l_63, l_64, l_70, l_97, l_99, l_122, l_128, l_190, l_220, l_255, l_320, l_500, l_999, l_1024, l_83520, l_100000, l_1000000, L_0, L_1, L_2, L_3, L_4, L_6, L_7, L_9, L_10, L_11, L_13, L_16, L_32, L_48, L_50, L_57, L_97, L_99, L_122, L_999, L_83520, L_4294967295, L_25937424601, L_1152921504606846976, ↓m_1000020, ↓m_1000012, ↓m_1000010, ↓m_1000000, ↓m_10004, ↓m_10000, ↓m_1000, ↓m_999, ↓m_99, ↓m_30, ↓m_20, ↓m_14, ↓m_12, ↓m_11, ↓m_10, ↓m_8, ↓m_4, ↓m_3, ↓m_2, ↓m_1, ↓mL_999, ↓mL_99, ↓mL_1, n_add, n_mul, nj_add, jn_add, n_sub, n_subj, nj_sub, jn_sub, nj_mul, jn_mul, if_true, if_false, jI_add, jI_sub, jI_mul, jI_neg, jL_add, jL_sub, jL_mul, jL_neg, n_l, j_l, jL_i, e_gn, e_gj, e_znn, e_znj, nn_ltT, nn_ltF, nn_leT, nn_leF, nn_eqT, nn_eqF, nj_ltT, nj_ltF, nj_leT, nj_leF, nj_eqT, nj_eqF, jn_ltT, jn_ltF, jn_leT, jn_leF, jn_eqT, jn_eqF, jj_ltT, jj_ltF, jj_leT, jj_leF, jj_eqT, jj_eqF, LL_ltT, LL_ltF, LL_leT, LL_leF, LL_eqT, LL_eqF, e_w1, e_w1s, e_w2, e_x1, e_x2, e_x2s, e_a1, e_a1s, e_a2, e_uT, e_uF, e_vT, e_vF, e_ft, e_tf, e_zbt, e_zbf, n_or, n_31, n_shl, n_bit, n_not, n_bc]
            refine hrec _ ⟨L, ?_, hL1, hL2', hL3.imp (fun q => q) (fun ⟨S, q1, q2⟩ => ⟨S, by omega, q2⟩)⟩
            rw [sn, w3 L (by omega)]
            simp
        · simp (disch := omega) only [e_lt, e_ltn, e_jn, e_sq, e_bi, l_0, l_1, l_2, l_3, l_4, l_5, l_6, l_7, l_8, l_9, l_10, l_11, l_12, l_13, l_14, l_15, l_16, l_17, l_18, l_19, l_20, l_21, l_22, l_23, l_24, l_25, l_26, l_27, l_28, l_29, l_30, l_31, l_32, l_33, l_34, l_35, l_36, l_37, l_38, l_39, l_40, l_41, l_48, l_50, l_56, l_57, l_59, l_60, l_63, l_64, l_70, l_97, l_99, l_122, l_128, l_190, l_220, l_255, l_320, l_500, l_999, l_1024, l_83520, l_100000, l_1000000, L_0, L_1, L_2, L_3, L_4, L_6, L_7, L_9, L_10, L_11, L_13, L_16, L_32, L_48, L_50, L_57, L_97, L_99, L_122, L_999, L_83520, L_4294967295, L_25937424601, L_1152921504606846976, ↓m_1000020, ↓m_1000012, ↓m_1000010, ↓m_1000000, ↓m_10004, ↓m_10000, ↓m_1000, ↓m_999, ↓m_99, ↓m_30, ↓m_20, ↓m_14, ↓m_12, ↓m_11, ↓m_10, ↓m_8, ↓m_4, ↓m_3, ↓m_2, ↓m_1, ↓mL_999, ↓mL_99, ↓mL_1, n_add, n_mul, nj_add, jn_add, n_sub, n_subj, nj_sub, jn_sub, nj_mul, jn_mul, if_true, if_false, jI_add, jI_sub, jI_mul, jI_neg, jL_add, jL_sub, jL_mul, jL_neg, n_l, j_l, jL_i, e_gn, e_gj, e_znn, e_znj, nn_ltT, nn_ltF, nn_leT, nn_leF, nn_eqT, nn_eqF, nj_ltT, nj_ltF, nj_leT, nj_leF, nj_eqT, nj_eqF, jn_ltT, jn_ltF, jn_leT, jn_leF, jn_eqT, jn_eqF, jj_ltT, jj_ltF, jj_leT, jj_leF, jj_eqT, jj_eqF, LL_ltT, LL_ltF, LL_leT, LL_leF, LL_eqT, LL_eqF, e_w1, e_w1s, e_w2, e_x1, e_x2, e_x2s, e_a1, e_a1s, e_a2, e_uT, e_uF, e_vT, e_vF, e_ft, e_tf, e_zbt, e_zbf, n_or, n_31, n_shl, n_bit, n_not, n_bc, b1, e68, e69]
          refine hrec _ ⟨gn, ?_, by omega, fun S hS x hx => ?_, Or.inr ⟨k, by omega, by omega⟩⟩
          · rw [sn, ← w2, sn_zero (fun S hS => hL2 S hS gn (by omega))]
            simp
          · by_cases e : S = k
            · subst e; exact w3 x hx
            · exact hL2 S (by omega) x (by omega)
    · rintro rec x ⟨L, rfl, hL1, hL2, hL3⟩
      simp (disch := omega) only [e_lt, e_ltn, e_jn, e_sq, e_bi, l_0, l_1, l_2, l_3, l_4, l_5, l_6, l_7, l_8, l_9, l_10, l_11, l_12, l_13, l_14, l_15, l_16, l_17, l_18, l_19, l_20, l_21, l_22, l_23, l_24, l_25, l_26, l_27, l_28, l_29, l_30, l_31, l_32, l_33, l_34, l_35, l_36, l_37, l_38, l_39, l_40, l_41, l_48, l_50, l_56, l_57, l_59, l_60, l_63, l_64, l_70, l_97, l_99, l_122, l_128, l_190, l_220, l_255, l_320, l_500, l_999, l_1024, l_83520, l_100000, l_1000000, L_0, L_1, L_2, L_3, L_4, L_6, L_7, L_9, L_10, L_11, L_13, L_16, L_32, L_48, L_50, L_57, L_97, L_99, L_122, L_999, L_83520, L_4294967295, L_25937424601, L_1152921504606846976, ↓m_1000020, ↓m_1000012, ↓m_1000010, ↓m_1000000, ↓m_10004, ↓m_10000, ↓m_1000, ↓m_999, ↓m_99, ↓m_30, ↓m_20, ↓m_14, ↓m_12, ↓m_11, ↓m_10, ↓m_8, ↓m_4, ↓m_3, ↓m_2, ↓m_1, ↓mL_999, ↓mL_99, ↓mL_1, n_add, n_mul, nj_add, jn_add, n_sub, n_subj, nj_sub, jn_sub, nj_mul, jn_mul, if_true, if_false, jI_add, jI_sub, jI_mul, jI_neg, jL_add, jL_sub, jL_mul, jL_neg, n_l, j_l, jL_i, e_gn, e_gj, e_znn, e_znj, nn_ltT, nn_ltF, nn_leT, nn_leF, nn_eqT, nn_eqF, nj_ltT, nj_ltF, nj_leT, nj_leF, nj_eqT, nj_eqF, jn_ltT, jn_ltF, jn_leT, jn_leF, jn_eqT, jn_eqF, jj_ltT, jj_ltF, jj_leT, jj_leF, jj_eqT, jj_eqF, LL_ltT, LL_ltF, LL_leT, LL_leF, LL_eqT, LL_eqF, e_w1, e_w1s, e_w2, e_x1, e_x2, e_x2s, e_a1, e_a1s, e_a2, e_uT, e_uF, e_vT, e_vF, e_ft, e_tf, e_zbt, e_zbf, n_or, n_31, n_shl, n_bit, n_not, n_bc, b1]
      refine ok_some ?_
      dsimp only
      -- the least of all
      have hcnt := fun x => cC_all v2 (al := al) (g := gP c sv) (fun i (_ : i < n) => hal10 i) x
      have hflt : bB m al n 0 0 = (bB m (alP c) n 0 0).filter (eA (eN c sv) 0) := by rw [hal]; exact bB_flt n 0 0
      have hsub : ∀ q, aQ n m (alP c) q → wS (gP c sv) n q = v → lst q 0 n ∈ bB m al n 0 0 := fun q hq hv => by
        rw [hflt, List.mem_filter]
        refine ⟨(mem_b0 v2).mpr hq, eA_0.mpr (fun i hi => ?_)⟩
        unfold eN
        rcases best_neg (fun i _ => alP_10 c i) hL hq hv i hi with w | w
        · simp [w]
        · simp [w]
      have hpos : ∀ (x : Int), 0 < sn (fun S => cC m al (gP c sv) n S x) (2 ^ m) ↔ ∃ q, lst q 0 n ∈ bB m al n 0 0 ∧ wS (gP c sv) n q = x := fun x => by
        rw [hcnt x, List.length_pos_iff_exists_mem]
        constructor
        · rintro ⟨l, hl⟩
          rw [List.mem_filter] at hl
          obtain ⟨q, rfl⟩ := b0_ex hl.1
          refine ⟨q, hl.1, ?_⟩
          have := hl.2
          simp only [decide_eq_true_eq, gS_0] at this
          exact this
        · rintro ⟨q, q1, q2⟩
          exact ⟨lst q 0 n, List.mem_filter.mpr ⟨q1, by simp [gS_0, q2]⟩⟩
      have hLv : L = v := by
        obtain ⟨g1, p, g2, g3⟩ := hL
        have k1 := (hpos v).mpr ⟨p, hsub p g2 g3, g3⟩
        have k2 : ¬ v < L := by
          intro q
          rw [sn_zero (fun S hS => hL2 S hS v q)] at k1
          omega
        have k3 : v ≤ L := by
          rcases hL3 with q | ⟨S, q1, q2⟩
          · have := g1 (fun _ => 10) ⟨⟨fun _ _ => Or.inr rfl, fun _ _ _ _ _ => rfl⟩, fun i _ => alP_10 c i⟩
            have e : wS (gP c sv) n (fun _ => 10) = 0 := sm_zero (fun i _ => if_pos rfl)
            omega
          · have k4 : 0 < sn (fun S => cC m al (gP c sv) n S L) (2 ^ m) := by
              have : ∀ k, S < k → cC m al (gP c sv) n S L ≤ sn (fun S => cC m al (gP c sv) n S L) k := by
                intro k
                induction k with
                | zero => intro q; omega
                | succ k ih =>
                  intro q
                  rw [sn]
                  by_cases e : S = k
                  · subst e; omega
                  · have := ih (by omega); omega
              have := this (2 ^ m) q1
              omega
            obtain ⟨q, r1, r2⟩ := (hpos L).mp k4
            rw [hflt, List.mem_filter] at r1
            have := g1 q ((mem_b0 v2).mp r1.1)
            omega
        omega
      rw [hLv, hcnt v, hs.2.2.1, hflt, List.filter_filter]
      congr 2
      congr 1
      apply List.filter_congr
      intro l hl
      obtain ⟨q, rfl⟩ := b0_ex hl
      by_cases e : gS (gP c sv) 0 (lst q 0 n) = v
      · have := hsub q ((mem_b0 v2).mp hl) (by rw [← gS_0]; exact e)
        rw [hflt, List.mem_filter] at this
        simp [e, this.2]
      · simp [e]
