theorem n_shr {j s : Nat} (hj : j < 31) (hs : s < 2147483648) : nI s >>> nI j = nI (s >>> j) := by
  apply Int32.toBitVec_inj.mp
  have e2 : (nI s).toBitVec = BitVec.ofNat 32 s := rfl
  rw [Int32.toBitVec_shiftRight, BitVec.sshiftRight', n_smod j (by omega), e2, BitVec.sshiftRight_eq_of_msb_false]
  · show BitVec.ofNat 32 s >>> j = BitVec.ofNat 32 (s >>> j)
    apply BitVec.eq_of_toNat_eq
    rw [BitVec.toNat_ushiftRight, BitVec.toNat_ofNat, BitVec.toNat_ofNat, Nat.mod_eq_of_lt (by omega), Nat.mod_eq_of_lt]
    exact Nat.lt_of_le_of_lt (Nat.shiftRight_le _ _) (by omega)
  · rw [BitVec.msb_eq_decide, BitVec.toNat_ofNat, Nat.mod_eq_of_lt (by omega)]
    simp
    omega
theorem n_sh0 {α : Type} {j s : Nat} (hj : j < 31) (hs : s < 2147483648) (x y : α) : (if nI s >>> nI j = nI 0 then x else y) = if s < 2 ^ j then x else y := by
  rw [n_shr hj hs]
  have h1 : s >>> j = s / 2 ^ j := Nat.shiftRight_eq_div_pow _ _
  have h2 : s >>> j ≤ s := Nat.shiftRight_le _ _
  have h0 : ∀ t, t < 2147483648 → (nI t = nI 0 ↔ t = 0) := fun t ht => by
    rw [nI_j, nI_j, jI_eq (by omega) (by omega)]
    omega
  have h3 := h0 (s >>> j) (Nat.lt_of_le_of_lt h2 hs)
  have h4 : s >>> j = 0 ↔ s < 2 ^ j := by
    rw [h1, Nat.div_eq_zero_iff]
    have : 0 < 2 ^ j := Nat.pow_pos (by omega)
    omega
  simp only [h3, h4]
theorem p2_le {m : Nat} (hm : m ≤ 10) : 2 ^ m ≤ 1024 := Nat.pow_le_pow_right (n := 2) (by omega) hm
theorem p2_pos (m : Nat) : 0 < 2 ^ m := Nat.pow_pos (by omega)
theorem c_open {M : zM} {n m : Nat} {c : Nat → Nat → Int} {T sv : Int} (h : pR M n m c T sv) (hV : pV n m c T sv) {i : Nat} (hi : i < n) {G : Int} (hG : rg G) : ok (fX0_openTo (nI i) (jI G) M) (fun x => ∃ o, x = nI o ∧ o < 2 ^ m ∧ ∀ j, o.testBit j = true ↔ (j < m ∧ c i j ≠ -4 ∧ c i j - sv ≤ G)) := by
  obtain ⟨v1, v2, v3, v4, v5⟩ := id hV
  unfold fX0_openTo
  refine ok_up m (fun k x => ∃ o, x = (nI o, nI k) ∧ o < 2 ^ m ∧ ∀ j, o.testBit j = true ↔ (j < k ∧ c i j ≠ -4 ∧ c i j - sv ≤ G)) ?_ ?_ zFu 0 _ (by omega) (by unfold zFu; omega) ⟨0, rfl, p2_pos m, fun j => by simp⟩
  · rintro rec k x hk ⟨o, rfl, ho, hb⟩ hrec
    (try dsimp only)
    rw [h.2.1, c_may h hV hi hk, c_gain h hV hi hk]
    have hg := g_lo hV hi hk
    have hpm := p2_le v2
    by_cases e : c i k = -4
    · simp only [e, ne_eq, not_true_eq_false, decide_false]
      simp (disch := omega) only [e_lt, e_ltn, e_jn, e_sq, e_bi, l_0, l_1, l_2, l_3, l_4, l_5, l_6, l_7, l_8, l_9, l_10, l_11, l_12, l_13, l_14, l_15, l_16, l_17, l_18, l_19, l_20, l_21, l_22, l_23, l_24, l_25, l_26, l_27, l_28, l_29, l_30, l_31, l_32, l_33, l_34, l_35, l_36, l_37, l_38, l_39, l_40, l_41, l_48, l_50, l_56, l_57, l_59, l_60, l_63, l_64, l_70, l_97, l_99, l_122, l_128, l_190, l_220, l_255, l_320, l_500, l_999, l_1024, l_83520, l_100000, l_1000000, L_0, L_1, L_2, L_3, L_4, L_6, L_7, L_9, L_10, L_11, L_13, L_16, L_32, L_48, L_50, L_57, L_97, L_99, L_122, L_999, L_83520, L_4294967295, L_25937424601, L_1152921504606846976, ↓m_1000020, ↓m_1000012, ↓m_1000010, ↓m_1000000, ↓m_10004, ↓m_10000, ↓m_1000, ↓m_999, ↓m_99, ↓m_30, ↓m_20, ↓m_14, ↓m_12, ↓m_11, ↓m_10, ↓m_8, ↓m_4, ↓m_3, ↓m_2, ↓m_1, ↓mL_999, ↓mL_99, ↓mL_1, n_add, n_mul, nj_add, jn_add, n_sub, n_subj, nj_sub, jn_sub, nj_mul, jn_mul, if_true, if_false, jI_add, jI_sub, jI_mul, jI_neg, jL_add, jL_sub, jL_mul, jL_neg, n_l, j_l, jL_i, e_gn, e_gj, e_znn, e_znj, nn_ltT, nn_ltF, nn_leT, nn_leF, nn_eqT, nn_eqF, nj_ltT, nj_ltF, nj_leT, nj_leF, nj_eqT, nj_eqF, jn_ltT, jn_ltF, jn_leT, jn_leF, jn_eqT, jn_eqF, jj_ltT, jj_ltF, jj_leT, jj_leF, jj_eqT, jj_eqF, LL_ltT, LL_ltF, LL_leT, LL_leF, LL_eqT, LL_eqF, e_w1, e_w1s, e_w2, e_x1, e_x2, e_x2s, e_a1, e_a1s, e_a2, e_uT, e_uF, e_vT, e_vF, e_ft, e_tf, e_zbt, e_zbf, n_or, n_31, n_shl, n_bit, n_not, n_bc]
      refine hrec _ ⟨o, rfl, ho, fun j => ?_⟩
      rw [hb j]
      by_cases q : j = k
      · subst q; simp [e]
      · have : j < k + 1 ↔ j < k := by omega
        simp only [this]
    · simp only [e, ne_eq, not_false_eq_true, decide_true]
      by_cases eg : G < c i k - sv
      · simp (disch := omega) only [e_lt, e_ltn, e_jn, e_sq, e_bi, l_0, l_1, l_2, l_3, l_4, l_5, l_6, l_7, l_8, l_9, l_10, l_11, l_12, l_13, l_14, l_15, l_16, l_17, l_18, l_19, l_20, l_21, l_22, l_23, l_24, l_25, l_26, l_27, l_28, l_29, l_30, l_31, l_32, l_33, l_34, l_35, l_36, l_37, l_38, l_39, l_40, l_41, l_48, l_50, l_56, l_57, l_59, l_60, l_63, l_64, l_70, l_97, l_99, l_122, l_128, l_190, l_220, l_255, l_320, l_500, l_999, l_1024, l_83520, l_100000, l_1000000, L_0, L_1, L_2, L_3, L_4, L_6, L_7, L_9, L_10, L_11, L_13, L_16, L_32, L_48, L_50, L_57, L_97, L_99, L_122, L_999, L_83520, L_4294967295, L_25937424601, L_1152921504606846976, ↓m_1000020, ↓m_1000012, ↓m_1000010, ↓m_1000000, ↓m_10004, ↓m_10000, ↓m_1000, ↓m_999, ↓m_99, ↓m_30, ↓m_20, ↓m_14, ↓m_12, ↓m_11, ↓m_10, ↓m_8, ↓m_4, ↓m_3, ↓m_2, ↓m_1, ↓mL_999, ↓mL_99, ↓mL_1, n_add, n_mul, nj_add, jn_add, n_sub, n_subj, nj_sub, jn_sub, nj_mul, jn_mul, if_true, if_false, jI_add, jI_sub, jI_mul, jI_neg, jL_add, jL_sub, jL_mul, jL_neg, n_l, j_l, jL_i, e_gn, e_gj, e_znn, e_znj, nn_ltT, nn_ltF, nn_leT, nn_leF, nn_eqT, nn_eqF, nj_ltT, nj_ltF, nj_leT, nj_leF, nj_eqT, nj_eqF, jn_ltT, jn_ltF, jn_leT, jn_leF, jn_eqT, jn_eqF, jj_ltT, jj_ltF, jj_leT, jj_leF, jj_eqT, jj_eqF, LL_ltT, LL_ltF, LL_leT, LL_leF, LL_eqT, LL_eqF, e_w1, e_w1s, e_w2, e_x1, e_x2, e_x2s, e_a1, e_a1s, e_a2, e_uT, e_uF, e_vT, e_vF, e_ft, e_tf, e_zbt, e_zbf, n_or, n_31, n_shl, n_bit, n_not, n_bc]
        refine hrec _ ⟨o, rfl, ho, fun j => ?_⟩
        rw [hb j]
        by_cases q : j = k
        · subst q
          constructor
          · rintro ⟨w, _⟩; omega
          · rintro ⟨_, _, w⟩; omega
        · have : j < k + 1 ↔ j < k := by omega
          simp only [this]
      · simp (disch := omega) only [e_lt, e_ltn, e_jn, e_sq, e_bi, l_0, l_1, l_2, l_3, l_4, l_5, l_6, l_7, l_8, l_9, l_10, l_11, l_12, l_13, l_14, l_15, l_16, l_17, l_18, l_19, l_20, l_21, l_22, l_23, l_24, l_25, l_26, l_27, l_28, l_29, l_30, l_31, l_32, l_33, l_34, l_35, l_36, l_37, l_38, l_39, l_40, l_41, l_48, l_50, l_56, l_57, l_59, l_60, l_63, l_64, l_70, l_97, l_99, l_122, l_128, l_190, l_220, l_255, l_320, l_500, l_999, l_1024, l_83520, l_100000, l_1000000, L_0, L_1, L_2, L_3, L_4, L_6, L_7, L_9, L_10, L_11, L_13, L_16, L_32, L_48, L_50, L_57, L_97, L_99, L_122, L_999, L_83520, L_4294967295, L_25937424601, L_1152921504606846976, ↓m_1000020, ↓m_1000012, ↓m_1000010, ↓m_1000000, ↓m_10004, ↓m_10000, ↓m_1000, ↓m_999, ↓m_99, ↓m_30, ↓m_20, ↓m_14, ↓m_12, ↓m_11, ↓m_10, ↓m_8, ↓m_4, ↓m_3, ↓m_2, ↓m_1, ↓mL_999, ↓mL_99, ↓mL_1, n_add, n_mul, nj_add, jn_add, n_sub, n_subj, nj_sub, jn_sub, nj_mul, jn_mul, if_true, if_false, jI_add, jI_sub, jI_mul, jI_neg, jL_add, jL_sub, jL_mul, jL_neg, n_l, j_l, jL_i, e_gn, e_gj, e_znn, e_znj, nn_ltT, nn_ltF, nn_leT, nn_leF, nn_eqT, nn_eqF, nj_ltT, nj_ltF, nj_leT, nj_leF, nj_eqT, nj_eqF, jn_ltT, jn_ltF, jn_leT, jn_leF, jn_eqT, jn_eqF, jj_ltT, jj_ltF, jj_leT, jj_leF, jj_eqT, jj_eqF, LL_ltT, LL_ltF, LL_leT, LL_leF, LL_eqT, LL_eqF, e_w1, e_w1s, e_w2, e_x1, e_x2, e_x2s, e_a1, e_a1s, e_a2, e_uT, e_uF, e_vT, e_vF, e_ft, e_tf, e_zbt, e_zbf, n_or, n_31, n_shl, n_bit, n_not, n_bc]
        refine hrec _ ⟨o ||| 2 ^ k, rfl, Nat.or_lt_two_pow ho (Nat.pow_lt_pow_right (by omega) hk), fun j => ?_⟩
        rw [tb_or, Bool.or_eq_true, hb j, decide_eq_true_eq]
        constructor
        · rintro (⟨w1, w2⟩ | w)
          · exact ⟨by omega, w2⟩
          · subst w; exact ⟨by omega, e, by omega⟩
        · rintro ⟨w1, w2⟩
          by_cases q : k = j
          · exact Or.inr q
          · exact Or.inl ⟨by omega, w2⟩
  · rintro rec x ⟨o, rfl, ho, hb⟩
    rw [h.2.1]
    simp (disch := omega) only [e_lt, e_ltn, e_jn, e_sq, e_bi, l_0, l_1, l_2, l_3, l_4, l_5, l_6, l_7, l_8, l_9, l_10, l_11, l_12, l_13, l_14, l_15, l_16, l_17, l_18, l_19, l_20, l_21, l_22, l_23, l_24, l_25, l_26, l_27, l_28, l_29, l_30, l_31, l_32, l_33, l_34, l_35, l_36, l_37, l_38, l_39, l_40, l_41, l_48, l_50, l_56, l_57, l_59, l_60, l_63, l_64, l_70, l_97, l_99, l_122, l_128, l_190, l_220, l_255, l_320, l_500, l_999, l_1024, l_83520, l_100000, l_1000000, L_0, L_1, L_2, L_3, L_4, L_6, L_7, L_9, L_10, L_11, L_13, L_16, L_32, L_48, L_50, L_57, L_97, L_99, L_122, L_999, L_83520, L_4294967295, L_25937424601, L_1152921504606846976, ↓m_1000020, ↓m_1000012, ↓m_1000010, ↓m_1000000, ↓m_10004, ↓m_10000, ↓m_1000, ↓m_999, ↓m_99, ↓m_30, ↓m_20, ↓m_14, ↓m_12, ↓m_11, ↓m_10, ↓m_8, ↓m_4, ↓m_3, ↓m_2, ↓m_1, ↓mL_999, ↓mL_99, ↓mL_1, n_add, n_mul, nj_add, jn_add, n_sub, n_subj, nj_sub, jn_sub, nj_mul, jn_mul, if_true, if_false, jI_add, jI_sub, jI_mul, jI_neg, jL_add, jL_sub, jL_mul, jL_neg, n_l, j_l, jL_i, e_gn, e_gj, e_znn, e_znj, nn_ltT, nn_ltF, nn_leT, nn_leF, nn_eqT, nn_eqF, nj_ltT, nj_ltF, nj_leT, nj_leF, nj_eqT, nj_eqF, jn_ltT, jn_ltF, jn_leT, jn_leF, jn_eqT, jn_eqF, jj_ltT, jj_ltF, jj_leT, jj_leF, jj_eqT, jj_eqF, LL_ltT, LL_ltF, LL_leT, LL_leF, LL_eqT, LL_eqF, e_w1, e_w1s, e_w2, e_x1, e_x2, e_x2s, e_a1, e_a1s, e_a2, e_uT, e_uF, e_vT, e_vF, e_ft, e_tf, e_zbt, e_zbf, n_or, n_31, n_shl, n_bit, n_not, n_bc]
    exact ok_some ⟨o, rfl, ho, hb⟩
theorem xor_and (a b j : Nat) : (a ^^^ (a &&& b)).testBit j = (a.testBit j && !b.testBit j) := by
  rw [Nat.testBit_xor, Nat.testBit_and]
  cases a.testBit j <;> cases b.testBit j <;> rfl
theorem xor_and_lt {a b m : Nat} (h : a < 2 ^ m) : a ^^^ (a &&& b) < 2 ^ m := Nat.xor_lt_two_pow h (Nat.lt_of_le_of_lt Nat.and_le_left h)
/-- a set with one line more -/
theorem tb_sw {m : Nat} (hm : m ≤ 10) {s T j : Nat} (hs : s < 2 ^ m) (hT : T < 2 ^ m) (hj : j < m) : (T.testBit j = true ∧ T - 2 ^ j = s) ↔ (s.testBit j = false ∧ T = s + 2 ^ j) := by
  have hp := p2_le hm
  constructor
  · rintro ⟨h1, h2⟩
    obtain ⟨q1, q2, q3⟩ := tb_sub T (by omega) j (by omega) h1
    rw [h2] at q2
    exact ⟨q2, by omega⟩
  · rintro ⟨h1, h2⟩
    obtain ⟨q1, q2, q3, q4⟩ := tb_add s (by omega) j (by omega) h1
    rw [h2]
    exact ⟨q4, Nat.add_sub_cancel _ _⟩
def nA (N : Nat → Nat) (o m cur T : Nat) : Nat := N T + sn (fun j => if T.testBit j = true ∧ o.testBit j = true ∧ cur ≤ T - 2 ^ j then N (T - 2 ^ j) else 0) m
theorem nA_step {N : Nat → Nat} {o m s T : Nat} : nA N o m s T = nA N o m (s + 1) T + sn (fun j => if T.testBit j = true ∧ o.testBit j = true ∧ T - 2 ^ j = s then N s else 0) m := by
  unfold nA
  rw [Nat.add_assoc, ← sn_add]
  congr 1
  apply sn_congr
  intro j _
  by_cases h1 : T.testBit j = true ∧ o.testBit j = true
  · by_cases h2 : T - 2 ^ j = s
    · rw [if_pos ⟨h1.1, h1.2, by omega⟩, if_neg (by omega), if_pos ⟨h1.1, h1.2, h2⟩, h2, Nat.zero_add]
    · rw [if_neg (show ¬ (T.testBit j = true ∧ o.testBit j = true ∧ T - 2 ^ j = s) from fun w => h2 w.2.2), Nat.add_zero]
      by_cases h3 : s ≤ T - 2 ^ j
      · rw [if_pos ⟨h1.1, h1.2, h3⟩, if_pos ⟨h1.1, h1.2, by omega⟩]
      · rw [if_neg (fun w => h3 w.2.2), if_neg (fun w => h3 (by omega))]
  · rw [if_neg (fun w => h1 ⟨w.1, w.2.1⟩), if_neg (fun w => h1 ⟨w.1, w.2.1⟩), if_neg (fun w => h1 ⟨w.1, w.2.1⟩)]
theorem c_spread {M : zM} {m o : Nat} {N : Nat → Nat} (hm : m ≤ 10) (ho : o < 2 ^ m) (h : ∀ T, T < 2 ^ m → M.1 68 T = nI (N T)) (hN : ∀ T, T < 2 ^ m → N T < 2147483648) :
    ok (fX0_spreadLine (nI o) (nI m) M) (fun M' => ∀ T, T < 2 ^ m → M'.1 68 T = nI (N T + sn (fun j => if T.testBit j = true ∧ o.testBit j = true then N (T - 2 ^ j) else 0) m)) := by
  have hp := p2_le hm
  have hp0 := p2_pos m
  unfold fX0_spreadLine
  simp (disch := omega) only [e_lt, e_ltn, e_jn, e_sq, e_bi, l_0, l_1, l_2, l_3, l_4, l_5, l_6, l_7, l_8, l_9, l_10, l_11, l_12, l_13, l_14, l_15, l_16, l_17, l_18, l_19, l_20, l_21, l_22, l_23, l_24, l_25, l_26, l_27, l_28, l_29, l_30, l_31, l_32, l_33, l_34, l_35, l_36, l_37, l_38, l_39, l_40, l_41, l_48, l_50, l_56, l_57, l_59, l_60, l_63, l_64, l_70, l_97, l_99, l_122, l_128, l_190, l_220, l_255, l_320, l_500, l_999, l_1024, l_83520, l_100000, l_1000000, L_0, L_1, L_2, L_3, L_4, L_6, L_7, L_9, L_10, L_11, L_13, L_16, L_32, L_48, L_50, L_57, L_97, L_99, L_122, L_999, L_83520, L_4294967295, L_25937424601, L_1152921504606846976, ↓m_1000020, ↓m_1000012, ↓m_1000010, ↓m_1000000, ↓m_10004, ↓m_10000, ↓m_1000, ↓m_999, ↓m_99, ↓m_30, ↓m_20, ↓m_14, ↓m_12, ↓m_11, ↓m_10, ↓m_8, ↓m_4, ↓m_3, ↓m_2, ↓m_1, ↓mL_999, ↓mL_99, ↓mL_1, n_add, n_mul, nj_add, jn_add, n_sub, n_subj, nj_sub, jn_sub, nj_mul, jn_mul, if_true, if_false, jI_add, jI_sub, jI_mul, jI_neg, jL_add, jL_sub, jL_mul, jL_neg, n_l, j_l, jL_i, e_gn, e_gj, e_znn, e_znj, nn_ltT, nn_ltF, nn_leT, nn_leF, nn_eqT, nn_eqF, nj_ltT, nj_ltF, nj_leT, nj_leF, nj_eqT, nj_eqF, jn_ltT, jn_ltF, jn_leT, jn_leF, jn_eqT, jn_eqF, jj_ltT, jj_ltF, jj_leT, jj_leF, jj_eqT, jj_eqF, LL_ltT, LL_ltF, LL_leT, LL_leF, LL_eqT, LL_eqF, e_w1, e_w1s, e_w2, e_x1, e_x2, e_x2s, e_a1, e_a1s, e_a2, e_uT, e_uF, e_vT, e_vF, e_ft, e_tf, e_zbt, e_zbf, n_or, n_31, n_shl, n_bit, n_not, n_bc]
  refine ok_lp (fun x => (∃ s M', s < 2 ^ m ∧ x = (nI s, M') ∧ ∀ T, T < 2 ^ m → M'.1 68 T = nI (nA N o m (s + 1) T)) ∨ ∃ M', x = (jI (-1), M') ∧ ∀ T, T < 2 ^ m → M'.1 68 T = nI (nA N o m 0 T)) (fun x => if x.1 = jI (-1) then 0 else zn x.1 + 1) ?_ zFu _ ?_ ?_
  · rintro rec x (⟨s, M1, hs, rfl, h1⟩ | ⟨M1, rfl, h1⟩) hrec
    · have e0 : nA N o m (s + 1) s = N s := by
        unfold nA
        rw [sn_zero]
        · rfl
        · intro j _
          rw [if_neg]
          rintro ⟨_, _, w⟩
          have := Nat.sub_le s (2 ^ j)
          omega
      have b1 := h1 s hs
      rw [e0] at b1
      have hNs := hN s hs
      -- what is free
      have hfr : ∃ fr, (if nI (N s) = nI 0 then nI 0 else nI (o ^^^ (o &&& s))) = nI fr ∧ fr < 2 ^ m ∧ ∀ j, fr.testBit j = true ↔ (N s ≠ 0 ∧ o.testBit j = true ∧ s.testBit j = false) := by
        by_cases e : N s = 0
        · exact ⟨0, by simp (disch := omega) only [e_lt, e_ltn, e_jn, e_sq, e_bi, l_0, l_1, l_2, l_3, l_4, l_5, l_6, l_7, l_8, l_9, l_10, l_11, l_12, l_13, l_14, l_15, l_16, l_17, l_18, l_19, l_20, l_21, l_22, l_23, l_24, l_25, l_26, l_27, l_28, l_29, l_30, l_31, l_32, l_33, l_34, l_35, l_36, l_37, l_38, l_39, l_40, l_41, l_48, l_50, l_56, l_57, l_59, l_60, l_63, l_64, l_70, l_97, l_99, l_122, l_128, l_190, l_220, l_255, l_320, l_500, l_999, l_1024, l_83520, l_100000, l_1000000, L_0, L_1, L_2, L_3, L_4, L_6, L_7, L_9, L_10, L_11, L_13, L_16, L_32, L_48, L_50, L_57, L_97, L_99, L_122, L_999, L_83520, L_4294967295, L_25937424601, L_1152921504606846976, ↓m_1000020, ↓m_1000012, ↓m_1000010, ↓m_1000000, ↓m_10004, ↓m_10000, ↓m_1000, ↓m_999, ↓m_99, ↓m_30, ↓m_20, ↓m_14, ↓m_12, ↓m_11, ↓m_10, ↓m_8, ↓m_4, ↓m_3, ↓m_2, ↓m_1, ↓mL_999, ↓mL_99, ↓mL_1, n_add, n_mul, nj_add, jn_add, n_sub, n_subj, nj_sub, jn_sub, nj_mul, jn_mul, if_true, if_false, jI_add, jI_sub, jI_mul, jI_neg, jL_add, jL_sub, jL_mul, jL_neg, n_l, j_l, jL_i, e_gn, e_gj, e_znn, e_znj, nn_ltT, nn_ltF, nn_leT, nn_leF, nn_eqT, nn_eqF, nj_ltT, nj_ltF, nj_leT, nj_leF, nj_eqT, nj_eqF, jn_ltT, jn_ltF, jn_leT, jn_leF, jn_eqT, jn_eqF, jj_ltT, jj_ltF, jj_leT, jj_leF, jj_eqT, jj_eqF, LL_ltT, LL_ltF, LL_leT, LL_leF, LL_eqT, LL_eqF, e_w1, e_w1s, e_w2, e_x1, e_x2, e_x2s, e_a1, e_a1s, e_a2, e_uT, e_uF, e_vT, e_vF, e_ft, e_tf, e_zbt, e_zbf, n_or, n_31, n_shl, n_bit, n_not, n_bc], hp0, fun j => by simp [e]⟩
        · refine ⟨o ^^^ (o &&& s), by simp (disch := omega) only [e_lt, e_ltn, e_jn, e_sq, e_bi, l_0, l_1, l_2, l_3, l_4, l_5, l_6, l_7, l_8, l_9, l_10, l_11, l_12, l_13, l_14, l_15, l_16, l_17, l_18, l_19, l_20, l_21, l_22, l_23, l_24, l_25, l_26, l_27, l_28, l_29, l_30, l_31, l_32, l_33, l_34, l_35, l_36, l_37, l_38, l_39, l_40, l_41, l_48, l_50, l_56, l_57, l_59, l_60, l_63, l_64, l_70, l_97, l_99, l_122, l_128, l_190, l_220, l_255, l_320, l_500, l_999, l_1024, l_83520, l_100000, l_1000000, L_0, L_1, L_2, L_3, L_4, L_6, L_7, L_9, L_10, L_11, L_13, L_16, L_32, L_48, L_50, L_57, L_97, L_99, L_122, L_999, L_83520, L_4294967295, L_25937424601, L_1152921504606846976, ↓m_1000020, ↓m_1000012, ↓m_1000010, ↓m_1000000, ↓m_10004, ↓m_10000, ↓m_1000, ↓m_999, ↓m_99, ↓m_30, ↓m_20, ↓m_14, ↓m_12, ↓m_11, ↓m_10, ↓m_8, ↓m_4, ↓m_3, ↓m_2, ↓m_1, ↓mL_999, ↓mL_99, ↓mL_1, n_add, n_mul, nj_add, jn_add, n_sub, n_subj, nj_sub, jn_sub, nj_mul, jn_mul, if_true, if_false, jI_add, jI_sub, jI_mul, jI_neg, jL_add, jL_sub, jL_mul, jL_neg, n_l, j_l, jL_i, e_gn, e_gj, e_znn, e_znj, nn_ltT, nn_ltF, nn_leT, nn_leF, nn_eqT, nn_eqF, nj_ltT, nj_ltF, nj_leT, nj_leF, nj_eqT, nj_eqF, jn_ltT, jn_ltF, jn_leT, jn_leF, jn_eqT, jn_eqF, jj_ltT, jj_ltF, jj_leT, jj_leF, jj_eqT, jj_eqF, LL_ltT, LL_ltF, LL_leT, LL_leF, LL_eqT, LL_eqF, e_w1, e_w1s, e_w2, e_x1, e_x2, e_x2s, e_a1, e_a1s, e_a2, e_uT, e_uF, e_vT, e_vF, e_ft, e_tf, e_zbt, e_zbf, n_or, n_31, n_shl, n_bit, n_not, n_bc], xor_and_lt ho, fun j => ?_⟩
          rw [xor_and]
          simp [e]
      obtain ⟨fr, ef, hf1, hf2⟩ := hfr
      simp (disch := omega) only [e_lt, e_ltn, e_jn, e_sq, e_bi, l_0, l_1, l_2, l_3, l_4, l_5, l_6, l_7, l_8, l_9, l_10, l_11, l_12, l_13, l_14, l_15, l_16, l_17, l_18, l_19, l_20, l_21, l_22, l_23, l_24, l_25, l_26, l_27, l_28, l_29, l_30, l_31, l_32, l_33, l_34, l_35, l_36, l_37, l_38, l_39, l_40, l_41, l_48, l_50, l_56, l_57, l_59, l_60, l_63, l_64, l_70, l_97, l_99, l_122, l_128, l_190, l_220, l_255, l_320, l_500, l_999, l_1024, l_83520, l_100000, l_1000000, L_0, L_1, L_2, L_3, L_4, L_6, L_7, L_9, L_10, L_11, L_13, L_16, L_32, L_48, L_50, L_57, L_97, L_99, L_122, L_999, L_83520, L_4294967295, L_25937424601, L_1152921504606846976, ↓m_1000020, ↓m_1000012, ↓m_1000010, ↓m_1000000, ↓m_10004, ↓m_10000, ↓m_1000, ↓m_999, ↓m_99, ↓m_30, ↓m_20, ↓m_14, ↓m_12, ↓m_11, ↓m_10, ↓m_8, ↓m_4, ↓m_3, ↓m_2, ↓m_1, ↓mL_999, ↓mL_99, ↓mL_1, n_add, n_mul, nj_add, jn_add, n_sub, n_subj, nj_sub, jn_sub, nj_mul, jn_mul, if_true, if_false, jI_add, jI_sub, jI_mul, jI_neg, jL_add, jL_sub, jL_mul, jL_neg, n_l, j_l, jL_i, e_gn, e_gj, e_znn, e_znj, nn_ltT, nn_ltF, nn_leT, nn_leF, nn_eqT, nn_eqF, nj_ltT, nj_ltF, nj_leT, nj_leF, nj_eqT, nj_eqF, jn_ltT, jn_ltF, jn_leT, jn_leF, jn_eqT, jn_eqF, jj_ltT, jj_ltF, jj_leT, jj_leF, jj_eqT, jj_eqF, LL_ltT, LL_ltF, LL_leT, LL_leF, LL_eqT, LL_eqF, e_w1, e_w1s, e_w2, e_x1, e_x2, e_x2s, e_a1, e_a1s, e_a2, e_uT, e_uF, e_vT, e_vF, e_ft, e_tf, e_zbt, e_zbf, n_or, n_31, n_shl, n_bit, n_not, n_bc, b1, ef]
      refine ok_sq (P := fun M' => ∀ T, T < 2 ^ m → M'.1 68 T = nI (nA N o m s T)) ?_ (fun M3 h3 => ?_)
      · have hend : ∀ T, T < 2 ^ m → nA N o m s T = nA N o m (s + 1) T + sn (fun j => if fr.testBit j = true ∧ T = s + 2 ^ j then N s else 0) m := by
          intro T hT
          rw [nA_step]
          congr 1
          apply sn_congr
          intro j hj
          by_cases w : fr.testBit j = true ∧ T = s + 2 ^ j
          · rw [if_pos w]
            have q := (hf2 j).mp w.1
            have := (tb_sw hm hs hT hj).mpr ⟨q.2.2, w.2⟩
            rw [if_pos ⟨this.1, q.2.1, this.2⟩]
          · rw [if_neg w]
            by_cases q : T.testBit j = true ∧ o.testBit j = true ∧ T - 2 ^ j = s
            · rw [if_pos q]
              have k := (tb_sw hm hs hT hj).mp ⟨q.1, q.2.2⟩
              apply Classical.byContradiction
              intro z
              exact w ⟨(hf2 j).mpr ⟨z, q.2.1, k.1⟩, k.2⟩
            · rw [if_neg q]
        have hcut : ∀ T k, k ≤ m → fr < 2 ^ k → sn (fun j => if fr.testBit j = true ∧ T = s + 2 ^ j then N s else 0) m = sn (fun j => if fr.testBit j = true ∧ T = s + 2 ^ j then N s else 0) k := by
          intro T k hk hfk
          obtain ⟨d, rfl⟩ : ∃ d, m = k + d := ⟨m - k, by omega⟩
          clear hk hend hm ho h hN hp hp0 hs h1 e0 b1 hNs ef hf1 hf2 hrec
          induction d with
          | zero => rfl
          | succ d ih =>
            rw [← Nat.add_assoc, sn, ih, if_neg, Nat.add_zero]
            rintro ⟨w, _⟩
            rw [Nat.testBit_lt_two_pow (Nat.lt_of_lt_of_le hfk (Nat.pow_le_pow_right (by omega) (by omega)))] at w
            cases w
        refine ok_lp (fun x => ∃ j M', j ≤ m ∧ x = (nI j, M') ∧ ∀ T, T < 2 ^ m → M'.1 68 T = nI (nA N o m (s + 1) T + sn (fun j => if fr.testBit j = true ∧ T = s + 2 ^ j then N s else 0) j)) (fun x => 11 - zn x.1) ?_ zFu _ ⟨0, M1, by omega, rfl, fun T hT => by rw [h1 T hT]; rfl⟩ (by unfold zFu; omega)
        rintro rec2 x ⟨j, M2, hj, rfl, h2⟩ hrec2
        by_cases ej : j = m
        · subst ej
          simp (disch := omega) only [e_lt, e_ltn, e_jn, e_sq, e_bi, l_0, l_1, l_2, l_3, l_4, l_5, l_6, l_7, l_8, l_9, l_10, l_11, l_12, l_13, l_14, l_15, l_16, l_17, l_18, l_19, l_20, l_21, l_22, l_23, l_24, l_25, l_26, l_27, l_28, l_29, l_30, l_31, l_32, l_33, l_34, l_35, l_36, l_37, l_38, l_39, l_40, l_41, l_48, l_50, l_56, l_57, l_59, l_60, l_63, l_64, l_70, l_97, l_99, l_122, l_128, l_190, l_220, l_255, l_320, l_500, l_999, l_1024, l_83520, l_100000, l_1000000, L_0, L_1, L_2, L_3, L_4, L_6, L_7, L_9, L_10, L_11, L_13, L_16, L_32, L_48, L_50, L_57, L_97, L_99, L_122, L_999, L_83520, L_4294967295, L_25937424601, L_1152921504606846976, ↓m_1000020, ↓m_1000012, ↓m_1000010, ↓m_1000000, ↓m_10004, ↓m_10000, ↓m_1000, ↓m_999, ↓m_99, ↓m_30, ↓m_20, ↓m_14, ↓m_12, ↓m_11, ↓m_10, ↓m_8, ↓m_4, ↓m_3, ↓m_2, ↓m_1, ↓mL_999, ↓mL_99, ↓mL_1, n_add, n_mul, nj_add, jn_add, n_sub, n_subj, nj_sub, jn_sub, nj_mul, jn_mul, if_true, if_false, jI_add, jI_sub, jI_mul, jI_neg, jL_add, jL_sub, jL_mul, jL_neg, n_l, j_l, jL_i, e_gn, e_gj, e_znn, e_znj, nn_ltT, nn_ltF, nn_leT, nn_leF, nn_eqT, nn_eqF, nj_ltT, nj_ltF, nj_leT, nj_leF, nj_eqT, nj_eqF, jn_ltT, jn_ltF, jn_leT, jn_leF, jn_eqT, jn_eqF, jj_ltT, jj_ltF, jj_leT, jj_leF, jj_eqT, jj_eqF, LL_ltT, LL_ltF, LL_leT, LL_leF, LL_eqT, LL_eqF, e_w1, e_w1s, e_w2, e_x1, e_x2, e_x2s, e_a1, e_a1s, e_a2, e_uT, e_uF, e_vT, e_vF, e_ft, e_tf, e_zbt, e_zbf, n_or, n_31, n_shl, n_bit, n_not, n_bc]
          exact ok_some (fun T hT => by rw [h2 T hT, ← hend T hT])
        · simp (disch := omega) only [e_lt, e_ltn, e_jn, e_sq, e_bi, l_0, l_1, l_2, l_3, l_4, l_5, l_6, l_7, l_8, l_9, l_10, l_11, l_12, l_13, l_14, l_15, l_16, l_17, l_18, l_19, l_20, l_21, l_22, l_23, l_24, l_25, l_26, l_27, l_28, l_29, l_30, l_31, l_32, l_33, l_34, l_35, l_36, l_37, l_38, l_39, l_40, l_41, l_48, l_50, l_56, l_57, l_59, l_60, l_63, l_64, l_70, l_97, l_99, l_122, l_128, l_190, l_220, l_255, l_320, l_500, l_999, l_1024, l_83520, l_100000, l_1000000, L_0, L_1, L_2, L_3, L_4, L_6, L_7, L_9, L_10, L_11, L_13, L_16, L_32, L_48, L_50, L_57, L_97, L_99, L_122, L_999, L_83520, L_4294967295, L_25937424601, L_1152921504606846976, ↓m_1000020, ↓m_1000012, ↓m_1000010, ↓m_1000000, ↓m_10004, ↓m_10000, ↓m_1000, ↓m_999, ↓m_99, ↓m_30, ↓m_20, ↓m_14, ↓m_12, ↓m_11, ↓m_10, ↓m_8, ↓m_4, ↓m_3, ↓m_2, ↓m_1, ↓mL_999, ↓mL_99, ↓mL_1, n_add, n_mul, nj_add, jn_add, n_sub, n_subj, nj_sub, jn_sub, nj_mul, jn_mul, if_true, if_false, jI_add, jI_sub, jI_mul, jI_neg, jL_add, jL_sub, jL_mul, jL_neg, n_l, j_l, jL_i, e_gn, e_gj, e_znn, e_znj, nn_ltT, nn_ltF, nn_leT, nn_leF, nn_eqT, nn_eqF, nj_ltT, nj_ltF, nj_leT, nj_leF, nj_eqT, nj_eqF, jn_ltT, jn_ltF, jn_leT, jn_leF, jn_eqT, jn_eqF, jj_ltT, jj_ltF, jj_leT, jj_leF, jj_eqT, jj_eqF, LL_ltT, LL_ltF, LL_leT, LL_leF, LL_eqT, LL_eqF, e_w1, e_w1s, e_w2, e_x1, e_x2, e_x2s, e_a1, e_a1s, e_a2, e_uT, e_uF, e_vT, e_vF, e_ft, e_tf, e_zbt, e_zbf, n_or, n_31, n_shl, n_bit, n_not, n_bc]
          rw [n_sh0 (by omega) (by omega)]
          by_cases ec : fr < 2 ^ j
          · rw [if_pos ec]
            exact ok_some (fun T hT => by rw [h2 T hT, hend T hT, hcut T j hj ec])
          · rw [if_neg ec]
            have hmeas : 11 - zn (nI (j + 1)) < 11 - zn (nI j) := by
              rw [zn_nI (by omega), zn_nI (by omega)]
              omega
            by_cases eb : fr.testBit j = true
            · have q := (hf2 j).mp eb
              obtain ⟨k1, k2, k3, k4⟩ := tb_add s (by omega) j (by omega) q.2.2
              have hlt : s + 2 ^ j < 2 ^ m := by
                rw [← k1]
                exact Nat.or_lt_two_pow hs (Nat.pow_lt_pow_right (by omega) (by omega))
              have hpj := p2_pos j
              have b2 := h2 (s + 2 ^ j) hlt
              have b3 := h2 s hs
              rw [e0, sn_zero (fun j' _ => if_neg (fun w => by have := p2_pos j'; omega)), Nat.add_zero] at b3
              rw [if_pos eb]
              simp (disch := omega) only [e_lt, e_ltn, e_jn, e_sq, e_bi, l_0, l_1, l_2, l_3, l_4, l_5, l_6, l_7, l_8, l_9, l_10, l_11, l_12, l_13, l_14, l_15, l_16, l_17, l_18, l_19, l_20, l_21, l_22, l_23, l_24, l_25, l_26, l_27, l_28, l_29, l_30, l_31, l_32, l_33, l_34, l_35, l_36, l_37, l_38, l_39, l_40, l_41, l_48, l_50, l_56, l_57, l_59, l_60, l_63, l_64, l_70, l_97, l_99, l_122, l_128, l_190, l_220, l_255, l_320, l_500, l_999, l_1024, l_83520, l_100000, l_1000000, L_0, L_1, L_2, L_3, L_4, L_6, L_7, L_9, L_10, L_11, L_13, L_16, L_32, L_48, L_50, L_57, L_97, L_99, L_122, L_999, L_83520, L_4294967295, L_25937424601, L_1152921504606846976, ↓m_1000020, ↓m_1000012, ↓m_1000010, ↓m_1000000, ↓m_10004, ↓m_10000, ↓m_1000, ↓m_999, ↓m_99, ↓m_30, ↓m_20, ↓m_14, ↓m_12, ↓m_11, ↓m_10, ↓m_8, ↓m_4, ↓m_3, ↓m_2, ↓m_1, ↓mL_999, ↓mL_99, ↓mL_1, n_add, n_mul, nj_add, jn_add, n_sub, n_subj, nj_sub, jn_sub, nj_mul, jn_mul, if_true, if_false, jI_add, jI_sub, jI_mul, jI_neg, jL_add, jL_sub, jL_mul, jL_neg, n_l, j_l, jL_i, e_gn, e_gj, e_znn, e_znj, nn_ltT, nn_ltF, nn_leT, nn_leF, nn_eqT, nn_eqF, nj_ltT, nj_ltF, nj_leT, nj_leF, nj_eqT, nj_eqF, jn_ltT, jn_ltF, jn_leT, jn_leF, jn_eqT, jn_eqF, jj_ltT, jj_ltF, jj_leT, jj_leF, jj_eqT, jj_eqF, LL_ltT, LL_ltF, LL_leT, LL_leF, LL_eqT, LL_eqF, e_w1, e_w1s, e_w2, e_x1, e_x2, e_x2s, e_a1, e_a1s, e_a2, e_uT, e_uF, e_vT, e_vF, e_ft, e_tf, e_zbt, e_zbf, n_or, n_31, n_shl, n_bit, n_not, n_bc, k1, b2, b3]
              refine hrec2 _ ⟨j + 1, _, by omega, rfl, fun T hT => ?_⟩ hmeas
              rw [e_w1s]
              by_cases eT : T = s + 2 ^ j
              · rw [e_uT eT, sn, if_pos ⟨eb, eT⟩, eT, Nat.add_assoc]
              · rw [e_uF eT, h2 T hT, sn, if_neg (fun w => eT w.2)]; rfl
            · rw [if_neg eb]
              simp (disch := omega) only [e_lt, e_ltn, e_jn, e_sq, e_bi, l_0, l_1, l_2, l_3, l_4, l_5, l_6, l_7, l_8, l_9, l_10, l_11, l_12, l_13, l_14, l_15, l_16, l_17, l_18, l_19, l_20, l_21, l_22, l_23, l_24, l_25, l_26, l_27, l_28, l_29, l_30, l_31, l_32, l_33, l_34, l_35, l_36, l_37, l_38, l_39, l_40, l_41, l_48, l_50, l_56, l_57, l_59, l_60, l_63, l_64, l_70, l_97, l_99, l_122, l_128, l_190, l_220, l_255, l_320, l_500, l_999, l_1024, l_83520, l_100000, l_1000000, L_0, L_1, L_2, L_3, L_4, L_6, L_7, L_9, L_10, L_11, L_13, L_16, L_32, L_48, L_50, L_57, L_97, L_99, L_122, L_999, L_83520, L_4294967295, L_25937424601, L_1152921504606846976, ↓m_1000020, ↓m_1000012, ↓m_1000010, ↓m_1000000, ↓m_10004, ↓m_10000, ↓m_1000, ↓m_999, ↓m_99, ↓m_30, ↓m_20, ↓m_14, ↓m_12, ↓m_11, ↓m_10, ↓m_8, ↓m_4, ↓m_3, ↓m_2, ↓m_1, ↓mL_999, ↓mL_99, ↓mL_1, n_add, n_mul, nj_add, jn_add, n_sub, n_subj, nj_sub, jn_sub, nj_mul, jn_mul, if_true, if_false, jI_add, jI_sub, jI_mul, jI_neg, jL_add, jL_sub, jL_mul, jL_neg, n_l, j_l, jL_i, e_gn, e_gj, e_znn, e_znj, nn_ltT, nn_ltF, nn_leT, nn_leF, nn_eqT, nn_eqF, nj_ltT, nj_ltF, nj_leT, nj_leF, nj_eqT, nj_eqF, jn_ltT, jn_ltF, jn_leT, jn_leF, jn_eqT, jn_eqF, jj_ltT, jj_ltF, jj_leT, jj_leF, jj_eqT, jj_eqF, LL_ltT, LL_ltF, LL_leT, LL_leF, LL_eqT, LL_eqF, e_w1, e_w1s, e_w2, e_x1, e_x2, e_x2s, e_a1, e_a1s, e_a2, e_uT, e_uF, e_vT, e_vF, e_ft, e_tf, e_zbt, e_zbf, n_or, n_31, n_shl, n_bit, n_not, n_bc]
              refine hrec2 _ ⟨j + 1, M2, by omega, rfl, fun T hT => ?_⟩ hmeas
              rw [h2 T hT, sn, if_neg (fun w => eb w.1)]; rfl
      · by_cases e : s = 0
        · subst e
          have : jI (((0 : Nat) : Int) + -1) = jI (-1) := rfl
          rw [this]
          refine hrec _ (Or.inr ⟨M3, rfl, h3⟩) ?_
          show (if jI (-1) = jI (-1) then 0 else _) < (if nI 0 = jI (-1) then 0 else zn (nI 0) + 1)
          rw [if_pos rfl, if_neg (by decide)]
          omega
        · obtain ⟨s', rfl⟩ : ∃ s', s = s' + 1 := ⟨s - 1, by omega⟩
          have : jI (↑(s' + 1) + -1) = nI s' := by
            rw [nI_j]
            congr 1
            omega
          rw [this]
          refine hrec _ (Or.inl ⟨s', M3, by omega, rfl, h3⟩) ?_
          show (if nI s' = jI (-1) then 0 else zn (nI s') + 1) < (if nI (s' + 1) = jI (-1) then 0 else zn (nI (s' + 1)) + 1)
          simp (disch := omega) only [nj_eqF]
          rw [zn_nI (by omega), zn_nI (by omega)]
          omega
    · simp (disch := omega) only [e_lt, e_ltn, e_jn, e_sq, e_bi, l_0, l_1, l_2, l_3, l_4, l_5, l_6, l_7, l_8, l_9, l_10, l_11, l_12, l_13, l_14, l_15, l_16, l_17, l_18, l_19, l_20, l_21, l_22, l_23, l_24, l_25, l_26, l_27, l_28, l_29, l_30, l_31, l_32, l_33, l_34, l_35, l_36, l_37, l_38, l_39, l_40, l_41, l_48, l_50, l_56, l_57, l_59, l_60, l_63, l_64, l_70, l_97, l_99, l_122, l_128, l_190, l_220, l_255, l_320, l_500, l_999, l_1024, l_83520, l_100000, l_1000000, L_0, L_1, L_2, L_3, L_4, L_6, L_7, L_9, L_10, L_11, L_13, L_16, L_32, L_48, L_50, L_57, L_97, L_99, L_122, L_999, L_83520, L_4294967295, L_25937424601, L_1152921504606846976, ↓m_1000020, ↓m_1000012, ↓m_1000010, ↓m_1000000, ↓m_10004, ↓m_10000, ↓m_1000, ↓m_999, ↓m_99, ↓m_30, ↓m_20, ↓m_14, ↓m_12, ↓m_11, ↓m_10, ↓m_8, ↓m_4, ↓m_3, ↓m_2, ↓m_1, ↓mL_999, ↓mL_99, ↓mL_1, n_add, n_mul, nj_add, jn_add, n_sub, n_subj, nj_sub, jn_sub, nj_mul, jn_mul, if_true, if_false, jI_add, jI_sub, jI_mul, jI_neg, jL_add, jL_sub, jL_mul, jL_neg, n_l, j_l, jL_i, e_gn, e_gj, e_znn, e_znj, nn_ltT, nn_ltF, nn_leT, nn_leF, nn_eqT, nn_eqF, nj_ltT, nj_ltF, nj_leT, nj_leF, nj_eqT, nj_eqF, jn_ltT, jn_ltF, jn_leT, jn_leF, jn_eqT, jn_eqF, jj_ltT, jj_ltF, jj_leT, jj_leF, jj_eqT, jj_eqF, LL_ltT, LL_ltF, LL_leT, LL_leF, LL_eqT, LL_eqF, e_w1, e_w1s, e_w2, e_x1, e_x2, e_x2s, e_a1, e_a1s, e_a2, e_uT, e_uF, e_vT, e_vF, e_ft, e_tf, e_zbt, e_zbf, n_or, n_31, n_shl, n_bit, n_not, n_bc]
      refine ok_some (fun T hT => ?_)
      rw [h1 T hT]
      unfold nA
      congr 2
      apply sn_congr
      intro j _
      simp
  · refine Or.inl ⟨2 ^ m - 1, M, by omega, rfl, fun T hT => ?_⟩
    rw [h T hT]
    unfold nA
    rw [sn_zero, Nat.add_zero]
    intro j _
    rw [if_neg]
    rintro ⟨_, _, w⟩
    have := Nat.sub_le T (2 ^ j)
    omega
  · show (if nI (2 ^ m - 1) = jI (-1) then 0 else zn (nI (2 ^ m - 1)) + 1) < zFu
    simp (disch := omega) only [nj_eqF]
    rw [zn_nI (by omega)]
    unfold zFu
    omega
