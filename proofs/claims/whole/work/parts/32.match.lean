/-! ===== the class's Matcher ===== -/
def zwB (M : zM) (a : Nat) (g : Nat → Int64) : zM := (M.1, va_up M.2 a g)
def zgl (f : Nat → Int64) (i : Nat) (v : Int64) : Nat → Int64 := fun j => if j < i then v else f j
theorem zwB_self (M : zM) (a : Nat) : zwB M a (M.2 a) = M := by
  unfold zwB
  refine Prod.ext rfl ?_
  funext k
  by_cases h : k = a
  · subst h; exact zup_s _ _ _
  · exact zup_n _ _ h
theorem zwB_wL (M : zM) (a i : Nat) (f : Nat → Int64) (v : Int64) : zwL (zwB M a f) a i v = zwB M a (vp_updL f i v) := by
  unfold zwL zwB
  refine Prod.ext rfl ?_
  funext k
  by_cases h : k = a
  · subst h; simp [va_up]
  · simp [va_up, h]
theorem zgl_up (f : Nat → Int64) (i : Nat) (v : Int64) : vp_updL (zgl f i v) i v = zgl f (i + 1) v := by
  funext j
  unfold vp_updL zgl
  by_cases h : j = i
  · subst h; simp
  · rw [if_neg h]
    by_cases h2 : j < i
    · rw [if_pos h2, if_pos (by omega)]
    · rw [if_neg h2, if_neg (by omega)]
theorem pfillL (a n : Nat) (v : Int64) (M : zM) (hn : n < 4000) : fJ7_fill_d0a16 a n v M = some (zwB M a (zgl (M.2 a) n v)) := by
  apply ok_eq
  unfold fJ7_fill_d0a16
  refine ok_lt (ok_up n (fun i x => x = (nI i, zwB M a (zgl (M.2 a) i v))) ?_ ?_ zFu 0 _ (Nat.zero_le _) (by unfold zFu; omega) ?_)
  · rintro rec i x hi rfl hr
    dsimp only
    refine ok_neg (nI_ge hi (by omega)) (ok_grd (zix_nI hi (by omega)) (ok_lt (hr _ ?_)))
    rw [zn_nI (by omega), zwB_wL, zgl_up, nI_succ]
  · rintro rec x rfl
    exact ok_pos (nI_le (Nat.le_refl _) (by omega)) (ok_some rfl)
  · have : zgl (M.2 a) 0 v = M.2 a := by funext j; simp [zgl]
    rw [this, zwB_self]
    rfl
theorem e_b1 (M : zM) (a : Nat) (f : Nat → Int64) : (zwB M a f).1 = M.1 := id rfl
theorem e_b2 (M : zM) {a b : Nat} (f : Nat → Int64) (h : b ≠ a) : (zwB M a f).2 b = M.2 b := zup_n _ _ h
theorem e_b2s (M : zM) (a : Nat) (f : Nat → Int64) : (zwB M a f).2 a = f := zup_s _ _ _
/-- what stands in its cells -/
def mR (M : zM) (C z : Nat) (W : Nat → Nat → Int) (y : Nat → Nat) (u v re : Nat → Int) (bf : Nat → Nat) : Prop :=
  M.1 59 0 = nI C ∧ M.1 59 1 = nI z ∧ (∀ i j, i < 10 → j < 10 → M.2 60 (i * 10 + j) = jL (W i j)) ∧ (∀ r, r < 11 → M.2 61 r = jL (u r)) ∧ (∀ c, c < 11 → M.2 62 c = jL (v c)) ∧ (∀ c, c < 11 → M.2 63 c = jL (re c)) ∧ (∀ c, c < 11 → M.1 64 c = nI (y c)) ∧ (∀ c, c < 11 → M.1 65 c = nI (bf c))
theorem mR_W {M : zM} {C z : Nat} {W : Nat → Nat → Int} {y : Nat → Nat} {u v re : Nat → Int} {bf : Nat → Nat} (h : mR M C z W y u v re bf) {r c k : Nat} (hr : 1 ≤ r ∧ r ≤ 10) (hc : 1 ≤ c ∧ c ≤ 10) (hk : k + 1 = (r - 1) * 10 + c) : M.2 60 k = jL (W (r - 1) (c - 1)) := by
  have := h.2.2.1 (r - 1) (c - 1) (by omega) (by omega)
  rw [← this]
  exact congrArg (M.2 60) (by omega)
abbrev bnd (x : Int) : Prop := -1000000000000000 ≤ x ∧ x ≤ 1000000000000000
theorem c_reach {M : zM} {C z : Nat} {W : Nat → Nat → Int} {y : Nat → Nat} {u v re : Nat → Int} {bf : Nat → Nat} (h : mR M C z W y u v re bf) {c0 : Nat} (hc0 : c0 ≤ C) (hC : C ≤ 10) (hz : z < 2048) (hr : 1 ≤ y c0 ∧ y c0 ≤ 10) (hW : ∀ i j, bnd (W i j)) (hu : bnd (u (y c0))) (hv : ∀ c, 1 ≤ c → c ≤ C → bnd (v c)) (hre : ∀ c, 1 ≤ c → c ≤ C → rl (re c)) :
    ok (fX3_reachFrom (nI c0) M) (fun M' => mR M' C z W y u v (fun c => if (1 ≤ c ∧ c ≤ C) ∧ z.testBit c = false ∧ W (y c0 - 1) (c - 1) - u (y c0) - v c < re c then W (y c0 - 1) (c - 1) - u (y c0) - v c else re c) (fun c => if (1 ≤ c ∧ c ≤ C) ∧ z.testBit c = false ∧ W (y c0 - 1) (c - 1) - u (y c0) - v c < re c then c0 else bf c)) := by
  have hy0 : M.1 64 c0 = nI (y c0) := h.2.2.2.2.2.2.1 c0 (by omega)
  unfold fX3_reachFrom
  simp (disch := omega) only [e_lt, e_ltn, e_jn, e_sq, e_bi, l_0, l_1, l_2, l_3, l_4, l_5, l_6, l_7, l_8, l_9, l_10, l_11, l_12, l_13, l_14, l_15, l_16, l_17, l_18, l_19, l_20, l_21, l_22, l_23, l_24, l_25, l_26, l_27, l_28, l_29, l_30, l_31, l_32, l_33, l_34, l_35, l_36, l_37, l_38, l_39, l_40, l_41, l_48, l_50, l_56, l_57, l_59, l_60, l_63, l_64, l_70, l_97, l_99, l_122, l_128, l_190, l_220, l_255, l_320, l_500, l_999, l_1024, l_83520, l_100000, l_1000000, L_0, L_1, L_2, L_3, L_4, L_6, L_7, L_9, L_10, L_11, L_13, L_16, L_32, L_48, L_50, L_57, L_97, L_99, L_122, L_999, L_83520, L_4294967295, L_25937424601, L_1152921504606846976, ↓m_1000020, ↓m_1000012, ↓m_1000010, ↓m_1000000, ↓m_10004, ↓m_10000, ↓m_1000, ↓m_999, ↓m_99, ↓m_30, ↓m_20, ↓m_14, ↓m_12, ↓m_11, ↓m_10, ↓m_8, ↓m_4, ↓m_3, ↓m_2, ↓m_1, ↓mL_999, ↓mL_99, ↓mL_1, n_add, n_mul, nj_add, jn_add, n_sub, n_subj, nj_sub, jn_sub, nj_mul, jn_mul, jI_add, jI_sub, jI_mul, jI_neg, jL_add, jL_sub, jL_mul, jL_neg, n_l, j_l, jL_i, e_gn, e_gj, e_znn, e_znj, nn_ltT, nn_ltF, nn_leT, nn_leF, nn_eqT, nn_eqF, nj_ltT, nj_ltF, nj_leT, nj_leF, nj_eqT, nj_eqF, jn_ltT, jn_ltF, jn_leT, jn_leF, jn_eqT, jn_eqF, jj_ltT, jj_ltF, jj_leT, jj_leF, jj_eqT, jj_eqF, LL_ltT, LL_ltF, LL_leT, LL_leF, LL_eqT, LL_eqF, e_w1, e_w1s, e_w2, e_x1, e_x2, e_x2s, e_a1, e_a1s, e_a2, e_uT, e_uF, e_vT, e_vF, e_ft, e_tf, e_zbt, e_zbf, n_or, n_31, n_shl, n_bit, n_not, n_bc, hy0]
  refine ok_up (C + 1) (fun i x => 1 ≤ i ∧ ∃ M', x = (nI i, M') ∧ mR M' C z W y u v (fun c => if (1 ≤ c ∧ c < i) ∧ z.testBit c = false ∧ W (y c0 - 1) (c - 1) - u (y c0) - v c < re c then W (y c0 - 1) (c - 1) - u (y c0) - v c else re c) (fun c => if (1 ≤ c ∧ c < i) ∧ z.testBit c = false ∧ W (y c0 - 1) (c - 1) - u (y c0) - v c < re c then c0 else bf c)) ?_ ?_ zFu 1 _ (by omega) (by unfold zFu; omega) ?_
  · rintro rec k x hk ⟨hk1, M', rfl, hM⟩ hrec
    obtain ⟨a1, a2, a3, a4, a5, a6, a7, a8⟩ := id hM
    have hw := mR_W hM (r := y c0) (c := k) (k := (y c0 - 1) * 10 + k - 1) hr (by omega) (by omega)
    have b4 := a4 (y c0) (by omega)
    have b5 := a5 k (by omega)
    have b6 := a6 k (by omega)
    dsimp only at b6
    rw [if_neg (by omega)] at b6
    have w1 := hW (y c0 - 1) (k - 1)
    have w2 := hv k (by omega) (by omega)
    have w3 := hre k (by omega) (by omega)
    simp (disch := omega) only [e_lt, e_ltn, e_jn, e_sq, e_bi, l_0, l_1, l_2, l_3, l_4, l_5, l_6, l_7, l_8, l_9, l_10, l_11, l_12, l_13, l_14, l_15, l_16, l_17, l_18, l_19, l_20, l_21, l_22, l_23, l_24, l_25, l_26, l_27, l_28, l_29, l_30, l_31, l_32, l_33, l_34, l_35, l_36, l_37, l_38, l_39, l_40, l_41, l_48, l_50, l_56, l_57, l_59, l_60, l_63, l_64, l_70, l_97, l_99, l_122, l_128, l_190, l_220, l_255, l_320, l_500, l_999, l_1024, l_83520, l_100000, l_1000000, L_0, L_1, L_2, L_3, L_4, L_6, L_7, L_9, L_10, L_11, L_13, L_16, L_32, L_48, L_50, L_57, L_97, L_99, L_122, L_999, L_83520, L_4294967295, L_25937424601, L_1152921504606846976, ↓m_1000020, ↓m_1000012, ↓m_1000010, ↓m_1000000, ↓m_10004, ↓m_10000, ↓m_1000, ↓m_999, ↓m_99, ↓m_30, ↓m_20, ↓m_14, ↓m_12, ↓m_11, ↓m_10, ↓m_8, ↓m_4, ↓m_3, ↓m_2, ↓m_1, ↓mL_999, ↓mL_99, ↓mL_1, n_add, n_mul, nj_add, jn_add, n_sub, n_subj, nj_sub, jn_sub, nj_mul, jn_mul, jI_add, jI_sub, jI_mul, jI_neg, jL_add, jL_sub, jL_mul, jL_neg, n_l, j_l, jL_i, e_gn, e_gj, e_znn, e_znj, nn_ltT, nn_ltF, nn_leT, nn_leF, nn_eqT, nn_eqF, nj_ltT, nj_ltF, nj_leT, nj_leF, nj_eqT, nj_eqF, jn_ltT, jn_ltF, jn_leT, jn_leF, jn_eqT, jn_eqF, jj_ltT, jj_ltF, jj_leT, jj_leF, jj_eqT, jj_eqF, LL_ltT, LL_ltF, LL_leT, LL_leF, LL_eqT, LL_eqF, e_w1, e_w1s, e_w2, e_x1, e_x2, e_x2s, e_a1, e_a1s, e_a2, e_uT, e_uF, e_vT, e_vF, e_ft, e_tf, e_zbt, e_zbf, n_or, n_31, n_shl, n_bit, n_not, n_bc, a1, a2, hw, b4, b5, b6]
    by_cases hb : z.testBit k = true
    · rw [if_pos hb]
      simp (disch := omega) only [e_lt, e_ltn, e_jn, e_sq, e_bi, l_0, l_1, l_2, l_3, l_4, l_5, l_6, l_7, l_8, l_9, l_10, l_11, l_12, l_13, l_14, l_15, l_16, l_17, l_18, l_19, l_20, l_21, l_22, l_23, l_24, l_25, l_26, l_27, l_28, l_29, l_30, l_31, l_32, l_33, l_34, l_35, l_36, l_37, l_38, l_39, l_40, l_41, l_48, l_50, l_56, l_57, l_59, l_60, l_63, l_64, l_70, l_97, l_99, l_122, l_128, l_190, l_220, l_255, l_320, l_500, l_999, l_1024, l_83520, l_100000, l_1000000, L_0, L_1, L_2, L_3, L_4, L_6, L_7, L_9, L_10, L_11, L_13, L_16, L_32, L_48, L_50, L_57, L_97, L_99, L_122, L_999, L_83520, L_4294967295, L_25937424601, L_1152921504606846976, ↓m_1000020, ↓m_1000012, ↓m_1000010, ↓m_1000000, ↓m_10004, ↓m_10000, ↓m_1000, ↓m_999, ↓m_99, ↓m_30, ↓m_20, ↓m_14, ↓m_12, ↓m_11, ↓m_10, ↓m_8, ↓m_4, ↓m_3, ↓m_2, ↓m_1, ↓mL_999, ↓mL_99, ↓mL_1, n_add, n_mul, nj_add, jn_add, n_sub, n_subj, nj_sub, jn_sub, nj_mul, jn_mul, jI_add, jI_sub, jI_mul, jI_neg, jL_add, jL_sub, jL_mul, jL_neg, n_l, j_l, jL_i, e_gn, e_gj, e_znn, e_znj, nn_ltT, nn_ltF, nn_leT, nn_leF, nn_eqT, nn_eqF, nj_ltT, nj_ltF, nj_leT, nj_leF, nj_eqT, nj_eqF, jn_ltT, jn_ltF, jn_leT, jn_leF, jn_eqT, jn_eqF, jj_ltT, jj_ltF, jj_leT, jj_leF, jj_eqT, jj_eqF, LL_ltT, LL_ltF, LL_leT, LL_leF, LL_eqT, LL_eqF, e_w1, e_w1s, e_w2, e_x1, e_x2, e_x2s, e_a1, e_a1s, e_a2, e_uT, e_uF, e_vT, e_vF, e_ft, e_tf, e_zbt, e_zbf, n_or, n_31, n_shl, n_bit, n_not, n_bc]
      refine hrec _ ⟨by omega, M', rfl, ?_⟩
      refine ⟨a1, a2, a3, a4, a5, fun c hc => ?_, a7, fun c hc => ?_⟩
      · rw [a6 c hc]
        dsimp only
        by_cases e : c = k
        · subst e; simp [hb]
        · have : (1 ≤ c ∧ c < k + 1) ↔ (1 ≤ c ∧ c < k) := by omega
          simp only [this]
      · rw [a8 c hc]
        dsimp only
        by_cases e : c = k
        · subst e; simp [hb]
        · have : (1 ≤ c ∧ c < k + 1) ↔ (1 ≤ c ∧ c < k) := by omega
          simp only [this]
    · rw [if_neg hb]
      simp only [Bool.not_eq_true] at hb
      by_cases hs : W (y c0 - 1) (k - 1) - u (y c0) - v k < re k
      · simp (disch := omega) only [e_lt, e_ltn, e_jn, e_sq, e_bi, l_0, l_1, l_2, l_3, l_4, l_5, l_6, l_7, l_8, l_9, l_10, l_11, l_12, l_13, l_14, l_15, l_16, l_17, l_18, l_19, l_20, l_21, l_22, l_23, l_24, l_25, l_26, l_27, l_28, l_29, l_30, l_31, l_32, l_33, l_34, l_35, l_36, l_37, l_38, l_39, l_40, l_41, l_48, l_50, l_56, l_57, l_59, l_60, l_63, l_64, l_70, l_97, l_99, l_122, l_128, l_190, l_220, l_255, l_320, l_500, l_999, l_1024, l_83520, l_100000, l_1000000, L_0, L_1, L_2, L_3, L_4, L_6, L_7, L_9, L_10, L_11, L_13, L_16, L_32, L_48, L_50, L_57, L_97, L_99, L_122, L_999, L_83520, L_4294967295, L_25937424601, L_1152921504606846976, ↓m_1000020, ↓m_1000012, ↓m_1000010, ↓m_1000000, ↓m_10004, ↓m_10000, ↓m_1000, ↓m_999, ↓m_99, ↓m_30, ↓m_20, ↓m_14, ↓m_12, ↓m_11, ↓m_10, ↓m_8, ↓m_4, ↓m_3, ↓m_2, ↓m_1, ↓mL_999, ↓mL_99, ↓mL_1, n_add, n_mul, nj_add, jn_add, n_sub, n_subj, nj_sub, jn_sub, nj_mul, jn_mul, jI_add, jI_sub, jI_mul, jI_neg, jL_add, jL_sub, jL_mul, jL_neg, n_l, j_l, jL_i, e_gn, e_gj, e_znn, e_znj, nn_ltT, nn_ltF, nn_leT, nn_leF, nn_eqT, nn_eqF, nj_ltT, nj_ltF, nj_leT, nj_leF, nj_eqT, nj_eqF, jn_ltT, jn_ltF, jn_leT, jn_leF, jn_eqT, jn_eqF, jj_ltT, jj_ltF, jj_leT, jj_leF, jj_eqT, jj_eqF, LL_ltT, LL_ltF, LL_leT, LL_leF, LL_eqT, LL_eqF, e_w1, e_w1s, e_w2, e_x1, e_x2, e_x2s, e_a1, e_a1s, e_a2, e_uT, e_uF, e_vT, e_vF, e_ft, e_tf, e_zbt, e_zbf, n_or, n_31, n_shl, n_bit, n_not, n_bc]
        refine hrec _ ⟨by omega, _, rfl, ?_⟩
        refine ⟨by simp (disch := omega) only [e_lt, e_ltn, e_jn, e_sq, e_bi, l_0, l_1, l_2, l_3, l_4, l_5, l_6, l_7, l_8, l_9, l_10, l_11, l_12, l_13, l_14, l_15, l_16, l_17, l_18, l_19, l_20, l_21, l_22, l_23, l_24, l_25, l_26, l_27, l_28, l_29, l_30, l_31, l_32, l_33, l_34, l_35, l_36, l_37, l_38, l_39, l_40, l_41, l_48, l_50, l_56, l_57, l_59, l_60, l_63, l_64, l_70, l_97, l_99, l_122, l_128, l_190, l_220, l_255, l_320, l_500, l_999, l_1024, l_83520, l_100000, l_1000000, L_0, L_1, L_2, L_3, L_4, L_6, L_7, L_9, L_10, L_11, L_13, L_16, L_32, L_48, L_50, L_57, L_97, L_99, L_122, L_999, L_83520, L_4294967295, L_25937424601, L_1152921504606846976, ↓m_1000020, ↓m_1000012, ↓m_1000010, ↓m_1000000, ↓m_10004, ↓m_10000, ↓m_1000, ↓m_999, ↓m_99, ↓m_30, ↓m_20, ↓m_14, ↓m_12, ↓m_11, ↓m_10, ↓m_8, ↓m_4, ↓m_3, ↓m_2, ↓m_1, ↓mL_999, ↓mL_99, ↓mL_1, n_add, n_mul, nj_add, jn_add, n_sub, n_subj, nj_sub, jn_sub, nj_mul, jn_mul, jI_add, jI_sub, jI_mul, jI_neg, jL_add, jL_sub, jL_mul, jL_neg, n_l, j_l, jL_i, e_gn, e_gj, e_znn, e_znj, nn_ltT, nn_ltF, nn_leT, nn_leF, nn_eqT, nn_eqF, nj_ltT, nj_ltF, nj_leT, nj_leF, nj_eqT, nj_eqF, jn_ltT, jn_ltF, jn_leT, jn_leF, jn_eqT, jn_eqF, jj_ltT, jj_ltF, jj_leT, jj_leF, jj_eqT, jj_eqF, LL_ltT, LL_ltF, LL_leT, LL_leF, LL_eqT, LL_eqF, e_w1, e_w1s, e_w2, e_x1, e_x2, e_x2s, e_a1, e_a1s, e_a2, e_uT, e_uF, e_vT, e_vF, e_ft, e_tf, e_zbt, e_zbf, n_or, n_31, n_shl, n_bit, n_not, n_bc, a1], by simp (disch := omega) only [e_lt, e_ltn, e_jn, e_sq, e_bi, l_0, l_1, l_2, l_3, l_4, l_5, l_6, l_7, l_8, l_9, l_10, l_11, l_12, l_13, l_14, l_15, l_16, l_17, l_18, l_19, l_20, l_21, l_22, l_23, l_24, l_25, l_26, l_27, l_28, l_29, l_30, l_31, l_32, l_33, l_34, l_35, l_36, l_37, l_38, l_39, l_40, l_41, l_48, l_50, l_56, l_57, l_59, l_60, l_63, l_64, l_70, l_97, l_99, l_122, l_128, l_190, l_220, l_255, l_320, l_500, l_999, l_1024, l_83520, l_100000, l_1000000, L_0, L_1, L_2, L_3, L_4, L_6, L_7, L_9, L_10, L_11, L_13, L_16, L_32, L_48, L_50, L_57, L_97, L_99, L_122, L_999, L_83520, L_4294967295, L_25937424601, L_1152921504606846976, ↓m_1000020, ↓m_1000012, ↓m_1000010, ↓m_1000000, ↓m_10004, ↓m_10000, ↓m_1000, ↓m_999, ↓m_99, ↓m_30, ↓m_20, ↓m_14, ↓m_12, ↓m_11, ↓m_10, ↓m_8, ↓m_4, ↓m_3, ↓m_2, ↓m_1, ↓mL_999, ↓mL_99, ↓mL_1, n_add, n_mul, nj_add, jn_add, n_sub, n_subj, nj_sub, jn_sub, nj_mul, jn_mul, jI_add, jI_sub, jI_mul, jI_neg, jL_add, jL_sub, jL_mul, jL_neg, n_l, j_l, jL_i, e_gn, e_gj, e_znn, e_znj, nn_ltT, nn_ltF, nn_leT, nn_leF, nn_eqT, nn_eqF, nj_ltT, nj_ltF, nj_leT, nj_leF, nj_eqT, nj_eqF, jn_ltT, jn_ltF, jn_leT, jn_leF, jn_eqT, jn_eqF, jj_ltT, jj_ltF, jj_leT, jj_leF, jj_eqT, jj_eqF, LL_ltT, LL_ltF, LL_leT, LL_leF, LL_eqT, LL_eqF, e_w1, e_w1s, e_w2, e_x1, e_x2, e_x2s, e_a1, e_a1s, e_a2, e_uT, e_uF, e_vT, e_vF, e_ft, e_tf, e_zbt, e_zbf, n_or, n_31, n_shl, n_bit, n_not, n_bc, a2], fun i j hi hj => by simp (disch := omega) only [e_lt, e_ltn, e_jn, e_sq, e_bi, l_0, l_1, l_2, l_3, l_4, l_5, l_6, l_7, l_8, l_9, l_10, l_11, l_12, l_13, l_14, l_15, l_16, l_17, l_18, l_19, l_20, l_21, l_22, l_23, l_24, l_25, l_26, l_27, l_28, l_29, l_30, l_31, l_32, l_33, l_34, l_35, l_36, l_37, l_38, l_39, l_40, l_41, l_48, l_50, l_56, l_57, l_59, l_60, l_63, l_64, l_70, l_97, l_99, l_122, l_128, l_190, l_220, l_255, l_320, l_500, l_999, l_1024, l_83520, l_100000, l_1000000, L_0, L_1, L_2, L_3, L_4, L_6, L_7, L_9, L_10, L_11, L_13, L_16, L_32, L_48, L_50, L_57, L_97, L_99, L_122, L_999, L_83520, L_4294967295, L_25937424601, L_1152921504606846976, ↓m_1000020, ↓m_1000012, ↓m_1000010, ↓m_1000000, ↓m_10004, ↓m_10000, ↓m_1000, ↓m_999, ↓m_99, ↓m_30, ↓m_20, ↓m_14, ↓m_12, ↓m_11, ↓m_10, ↓m_8, ↓m_4, ↓m_3, ↓m_2, ↓m_1, ↓mL_999, ↓mL_99, ↓mL_1, n_add, n_mul, nj_add, jn_add, n_sub, n_subj, nj_sub, jn_sub, nj_mul, jn_mul, jI_add, jI_sub, jI_mul, jI_neg, jL_add, jL_sub, jL_mul, jL_neg, n_l, j_l, jL_i, e_gn, e_gj, e_znn, e_znj, nn_ltT, nn_ltF, nn_leT, nn_leF, nn_eqT, nn_eqF, nj_ltT, nj_ltF, nj_leT, nj_leF, nj_eqT, nj_eqF, jn_ltT, jn_ltF, jn_leT, jn_leF, jn_eqT, jn_eqF, jj_ltT, jj_ltF, jj_leT, jj_leF, jj_eqT, jj_eqF, LL_ltT, LL_ltF, LL_leT, LL_leF, LL_eqT, LL_eqF, e_w1, e_w1s, e_w2, e_x1, e_x2, e_x2s, e_a1, e_a1s, e_a2, e_uT, e_uF, e_vT, e_vF, e_ft, e_tf, e_zbt, e_zbf, n_or, n_31, n_shl, n_bit, n_not, n_bc]; exact a3 i j hi hj, fun r hr => by simp (disch := omega) only [e_lt, e_ltn, e_jn, e_sq, e_bi, l_0, l_1, l_2, l_3, l_4, l_5, l_6, l_7, l_8, l_9, l_10, l_11, l_12, l_13, l_14, l_15, l_16, l_17, l_18, l_19, l_20, l_21, l_22, l_23, l_24, l_25, l_26, l_27, l_28, l_29, l_30, l_31, l_32, l_33, l_34, l_35, l_36, l_37, l_38, l_39, l_40, l_41, l_48, l_50, l_56, l_57, l_59, l_60, l_63, l_64, l_70, l_97, l_99, l_122, l_128, l_190, l_220, l_255, l_320, l_500, l_999, l_1024, l_83520, l_100000, l_1000000, L_0, L_1, L_2, L_3, L_4, L_6, L_7, L_9, L_10, L_11, L_13, L_16, L_32, L_48, L_50, L_57, L_97, L_99, L_122, L_999, L_83520, L_4294967295, L_25937424601, L_1152921504606846976, ↓m_1000020, ↓m_1000012, ↓m_1000010, ↓m_1000000, ↓m_10004, ↓m_10000, ↓m_1000, ↓m_999, ↓m_99, ↓m_30, ↓m_20, ↓m_14, ↓m_12, ↓m_11, ↓m_10, ↓m_8, ↓m_4, ↓m_3, ↓m_2, ↓m_1, ↓mL_999, ↓mL_99, ↓mL_1, n_add, n_mul, nj_add, jn_add, n_sub, n_subj, nj_sub, jn_sub, nj_mul, jn_mul, jI_add, jI_sub, jI_mul, jI_neg, jL_add, jL_sub, jL_mul, jL_neg, n_l, j_l, jL_i, e_gn, e_gj, e_znn, e_znj, nn_ltT, nn_ltF, nn_leT, nn_leF, nn_eqT, nn_eqF, nj_ltT, nj_ltF, nj_leT, nj_leF, nj_eqT, nj_eqF, jn_ltT, jn_ltF, jn_leT, jn_leF, jn_eqT, jn_eqF, jj_ltT, jj_ltF, jj_leT, jj_leF, jj_eqT, jj_eqF, LL_ltT, LL_ltF, LL_leT, LL_leF, LL_eqT, LL_eqF, e_w1, e_w1s, e_w2, e_x1, e_x2, e_x2s, e_a1, e_a1s, e_a2, e_uT, e_uF, e_vT, e_vF, e_ft, e_tf, e_zbt, e_zbf, n_or, n_31, n_shl, n_bit, n_not, n_bc]; exact a4 r hr, fun c hc => by simp (disch := omega) only [e_lt, e_ltn, e_jn, e_sq, e_bi, l_0, l_1, l_2, l_3, l_4, l_5, l_6, l_7, l_8, l_9, l_10, l_11, l_12, l_13, l_14, l_15, l_16, l_17, l_18, l_19, l_20, l_21, l_22, l_23, l_24, l_25, l_26, l_27, l_28, l_29, l_30, l_31, l_32, l_33, l_34, l_35, l_36, l_37, l_38, l_39, l_40, l_41, l_48, l_50, l_56, l_57, l_59, l_60, l_63, l_64, l_70, l_97, l_99, l_122, l_128, l_190, l_220, l_255, l_320, l_500, l_999, l_1024, l_83520, l_100000, l_1000000, L_0, L_1, L_2, L_3, L_4, L_6, L_7, L_9, L_10, L_11, L_13, L_16, L_32, L_48, L_50, L_57, L_97, L_99, L_122, L_999, L_83520, L_4294967295, L_25937424601, L_1152921504606846976, ↓m_1000020, ↓m_1000012, ↓m_1000010, ↓m_1000000, ↓m_10004, ↓m_10000, ↓m_1000, ↓m_999, ↓m_99, ↓m_30, ↓m_20, ↓m_14, ↓m_12, ↓m_11, ↓m_10, ↓m_8, ↓m_4, ↓m_3, ↓m_2, ↓m_1, ↓mL_999, ↓mL_99, ↓mL_1, n_add, n_mul, nj_add, jn_add, n_sub, n_subj, nj_sub, jn_sub, nj_mul, jn_mul, jI_add, jI_sub, jI_mul, jI_neg, jL_add, jL_sub, jL_mul, jL_neg, n_l, j_l, jL_i, e_gn, e_gj, e_znn, e_znj, nn_ltT, nn_ltF, nn_leT, nn_leF, nn_eqT, nn_eqF, nj_ltT, nj_ltF, nj_leT, nj_leF, nj_eqT, nj_eqF, jn_ltT, jn_ltF, jn_leT, jn_leF, jn_eqT, jn_eqF, jj_ltT, jj_ltF, jj_leT, jj_leF, jj_eqT, jj_eqF, LL_ltT, LL_ltF, LL_leT, LL_leF, LL_eqT, LL_eqF, e_w1, e_w1s, e_w2, e_x1, e_x2, e_x2s, e_a1, e_a1s, e_a2, e_uT, e_uF, e_vT, e_vF, e_ft, e_tf, e_zbt, e_zbf, n_or, n_31, n_shl, n_bit, n_not, n_bc]; exact a5 c hc, fun c hc => ?_, fun c hc => by simp (disch := omega) only [e_lt, e_ltn, e_jn, e_sq, e_bi, l_0, l_1, l_2, l_3, l_4, l_5, l_6, l_7, l_8, l_9, l_10, l_11, l_12, l_13, l_14, l_15, l_16, l_17, l_18, l_19, l_20, l_21, l_22, l_23, l_24, l_25, l_26, l_27, l_28, l_29, l_30, l_31, l_32, l_33, l_34, l_35, l_36, l_37, l_38, l_39, l_40, l_41, l_48, l_50, l_56, l_57, l_59, l_60, l_63, l_64, l_70, l_97, l_99, l_122, l_128, l_190, l_220, l_255, l_320, l_500, l_999, l_1024, l_83520, l_100000, l_1000000, L_0, L_1, L_2, L_3, L_4, L_6, L_7, L_9, L_10, L_11, L_13, L_16, L_32, L_48, L_50, L_57, L_97, L_99, L_122, L_999, L_83520, L_4294967295, L_25937424601, L_1152921504606846976, ↓m_1000020, ↓m_1000012, ↓m_1000010, ↓m_1000000, ↓m_10004, ↓m_10000, ↓m_1000, ↓m_999, ↓m_99, ↓m_30, ↓m_20, ↓m_14, ↓m_12, ↓m_11, ↓m_10, ↓m_8, ↓m_4, ↓m_3, ↓m_2, ↓m_1, ↓mL_999, ↓mL_99, ↓mL_1, n_add, n_mul, nj_add, jn_add, n_sub, n_subj, nj_sub, jn_sub, nj_mul, jn_mul, jI_add, jI_sub, jI_mul, jI_neg, jL_add, jL_sub, jL_mul, jL_neg, n_l, j_l, jL_i, e_gn, e_gj, e_znn, e_znj, nn_ltT, nn_ltF, nn_leT, nn_leF, nn_eqT, nn_eqF, nj_ltT, nj_ltF, nj_leT, nj_leF, nj_eqT, nj_eqF, jn_ltT, jn_ltF, jn_leT, jn_leF, jn_eqT, jn_eqF, jj_ltT, jj_ltF, jj_leT, jj_leF, jj_eqT, jj_eqF, LL_ltT, LL_ltF, LL_leT, LL_leF, LL_eqT, LL_eqF, e_w1, e_w1s, e_w2, e_x1, e_x2, e_x2s, e_a1, e_a1s, e_a2, e_uT, e_uF, e_vT, e_vF, e_ft, e_tf, e_zbt, e_zbf, n_or, n_31, n_shl, n_bit, n_not, n_bc]; exact a7 c hc, fun c hc => ?_⟩
        · simp (disch := omega) only [e_lt, e_ltn, e_jn, e_sq, e_bi, l_0, l_1, l_2, l_3, l_4, l_5, l_6, l_7, l_8, l_9, l_10, l_11, l_12, l_13, l_14, l_15, l_16, l_17, l_18, l_19, l_20, l_21, l_22, l_23, l_24, l_25, l_26, l_27, l_28, l_29, l_30, l_31, l_32, l_33, l_34, l_35, l_36, l_37, l_38, l_39, l_40, l_41, l_48, l_50, l_56, l_57, l_59, l_60, l_63, l_64, l_70, l_97, l_99, l_122, l_128, l_190, l_220, l_255, l_320, l_500, l_999, l_1024, l_83520, l_100000, l_1000000, L_0, L_1, L_2, L_3, L_4, L_6, L_7, L_9, L_10, L_11, L_13, L_16, L_32, L_48, L_50, L_57, L_97, L_99, L_122, L_999, L_83520, L_4294967295, L_25937424601, L_1152921504606846976, ↓m_1000020, ↓m_1000012, ↓m_1000010, ↓m_1000000, ↓m_10004, ↓m_10000, ↓m_1000, ↓m_999, ↓m_99, ↓m_30, ↓m_20, ↓m_14, ↓m_12, ↓m_11, ↓m_10, ↓m_8, ↓m_4, ↓m_3, ↓m_2, ↓m_1, ↓mL_999, ↓mL_99, ↓mL_1, n_add, n_mul, nj_add, jn_add, n_sub, n_subj, nj_sub, jn_sub, nj_mul, jn_mul, jI_add, jI_sub, jI_mul, jI_neg, jL_add, jL_sub, jL_mul, jL_neg, n_l, j_l, jL_i, e_gn, e_gj, e_znn, e_znj, nn_ltT, nn_ltF, nn_leT, nn_leF, nn_eqT, nn_eqF, nj_ltT, nj_ltF, nj_leT, nj_leF, nj_eqT, nj_eqF, jn_ltT, jn_ltF, jn_leT, jn_leF, jn_eqT, jn_eqF, jj_ltT, jj_ltF, jj_leT, jj_leF, jj_eqT, jj_eqF, LL_ltT, LL_ltF, LL_leT, LL_leF, LL_eqT, LL_eqF, e_w1, e_w1s, e_w2, e_x1, e_x2, e_x2s, e_a1, e_a1s, e_a2, e_uT, e_uF, e_vT, e_vF, e_ft, e_tf, e_zbt, e_zbf, n_or, n_31, n_shl, n_bit, n_not, n_bc]
          by_cases e : c = k
          · subst e
            simp (disch := omega) only [e_vT]
            rw [if_pos ⟨by omega, hb, hs⟩]
          · simp (disch := omega) only [e_vF]
            rw [a6 c hc]
            dsimp only
            have : (1 ≤ c ∧ c < k + 1) ↔ (1 ≤ c ∧ c < k) := by omega
            simp only [this]
        · simp (disch := omega) only [e_lt, e_ltn, e_jn, e_sq, e_bi, l_0, l_1, l_2, l_3, l_4, l_5, l_6, l_7, l_8, l_9, l_10, l_11, l_12, l_13, l_14, l_15, l_16, l_17, l_18, l_19, l_20, l_21, l_22, l_23, l_24, l_25, l_26, l_27, l_28, l_29, l_30, l_31, l_32, l_33, l_34, l_35, l_36, l_37, l_38, l_39, l_40, l_41, l_48, l_50, l_56, l_57, l_59, l_60, l_63, l_64, l_70, l_97, l_99, l_122, l_128, l_190, l_220, l_255, l_320, l_500, l_999, l_1024, l_83520, l_100000, l_1000000, L_0, L_1, L_2, L_3, L_4, L_6, L_7, L_9, L_10, L_11, L_13, L_16, L_32, L_48, L_50, L_57, L_97, L_99, L_122, L_999, L_83520, L_4294967295, L_25937424601, L_1152921504606846976, ↓m_1000020, ↓m_1000012, ↓m_1000010, ↓m_1000000, ↓m_10004, ↓m_10000, ↓m_1000, ↓m_999, ↓m_99, ↓m_30, ↓m_20, ↓m_14, ↓m_12, ↓m_11, ↓m_10, ↓m_8, ↓m_4, ↓m_3, ↓m_2, ↓m_1, ↓mL_999, ↓mL_99, ↓mL_1, n_add, n_mul, nj_add, jn_add, n_sub, n_subj, nj_sub, jn_sub, nj_mul, jn_mul, jI_add, jI_sub, jI_mul, jI_neg, jL_add, jL_sub, jL_mul, jL_neg, n_l, j_l, jL_i, e_gn, e_gj, e_znn, e_znj, nn_ltT, nn_ltF, nn_leT, nn_leF, nn_eqT, nn_eqF, nj_ltT, nj_ltF, nj_leT, nj_leF, nj_eqT, nj_eqF, jn_ltT, jn_ltF, jn_leT, jn_leF, jn_eqT, jn_eqF, jj_ltT, jj_ltF, jj_leT, jj_leF, jj_eqT, jj_eqF, LL_ltT, LL_ltF, LL_leT, LL_leF, LL_eqT, LL_eqF, e_w1, e_w1s, e_w2, e_x1, e_x2, e_x2s, e_a1, e_a1s, e_a2, e_uT, e_uF, e_vT, e_vF, e_ft, e_tf, e_zbt, e_zbf, n_or, n_31, n_shl, n_bit, n_not, n_bc]
          by_cases e : c = k
          · subst e
            simp (disch := omega) only [e_uT]
            rw [if_pos ⟨by omega, hb, hs⟩]
          · simp (disch := omega) only [e_uF]
            rw [a8 c hc]
            dsimp only
            have : (1 ≤ c ∧ c < k + 1) ↔ (1 ≤ c ∧ c < k) := by omega
            simp only [this]
      · simp (disch := omega) only [e_lt, e_ltn, e_jn, e_sq, e_bi, l_0, l_1, l_2, l_3, l_4, l_5, l_6, l_7, l_8, l_9, l_10, l_11, l_12, l_13, l_14, l_15, l_16, l_17, l_18, l_19, l_20, l_21, l_22, l_23, l_24, l_25, l_26, l_27, l_28, l_29, l_30, l_31, l_32, l_33, l_34, l_35, l_36, l_37, l_38, l_39, l_40, l_41, l_48, l_50, l_56, l_57, l_59, l_60, l_63, l_64, l_70, l_97, l_99, l_122, l_128, l_190, l_220, l_255, l_320, l_500, l_999, l_1024, l_83520, l_100000, l_1000000, L_0, L_1, L_2, L_3, L_4, L_6, L_7, L_9, L_10, L_11, L_13, L_16, L_32, L_48, L_50, L_57, L_97, L_99, L_122, L_999, L_83520, L_4294967295, L_25937424601, L_1152921504606846976, ↓m_1000020, ↓m_1000012, ↓m_1000010, ↓m_1000000, ↓m_10004, ↓m_10000, ↓m_1000, ↓m_999, ↓m_99, ↓m_30, ↓m_20, ↓m_14, ↓m_12, ↓m_11, ↓m_10, ↓m_8, ↓m_4, ↓m_3, ↓m_2, ↓m_1, ↓mL_999, ↓mL_99, ↓mL_1, n_add, n_mul, nj_add, jn_add, n_sub, n_subj, nj_sub, jn_sub, nj_mul, jn_mul, jI_add, jI_sub, jI_mul, jI_neg, jL_add, jL_sub, jL_mul, jL_neg, n_l, j_l, jL_i, e_gn, e_gj, e_znn, e_znj, nn_ltT, nn_ltF, nn_leT, nn_leF, nn_eqT, nn_eqF, nj_ltT, nj_ltF, nj_leT, nj_leF, nj_eqT, nj_eqF, jn_ltT, jn_ltF, jn_leT, jn_leF, jn_eqT, jn_eqF, jj_ltT, jj_ltF, jj_leT, jj_leF, jj_eqT, jj_eqF, LL_ltT, LL_ltF, LL_leT, LL_leF, LL_eqT, LL_eqF, e_w1, e_w1s, e_w2, e_x1, e_x2, e_x2s, e_a1, e_a1s, e_a2, e_uT, e_uF, e_vT, e_vF, e_ft, e_tf, e_zbt, e_zbf, n_or, n_31, n_shl, n_bit, n_not, n_bc]
        refine hrec _ ⟨by omega, M', rfl, ?_⟩
        refine ⟨a1, a2, a3, a4, a5, fun c hc => ?_, a7, fun c hc => ?_⟩
        · rw [a6 c hc]
          dsimp only
          by_cases e : c = k
          · subst e; simp [hs]
          · have : (1 ≤ c ∧ c < k + 1) ↔ (1 ≤ c ∧ c < k) := by omega
            simp only [this]
        · rw [a8 c hc]
          dsimp only
          by_cases e : c = k
          · subst e; simp [hs]
          · have : (1 ≤ c ∧ c < k + 1) ↔ (1 ≤ c ∧ c < k) := by omega
            simp only [this]
  · rintro rec x ⟨_, M', rfl, hM⟩
    have a1 := hM.1
    simp (disch := omega) only [e_lt, e_ltn, e_jn, e_sq, e_bi, l_0, l_1, l_2, l_3, l_4, l_5, l_6, l_7, l_8, l_9, l_10, l_11, l_12, l_13, l_14, l_15, l_16, l_17, l_18, l_19, l_20, l_21, l_22, l_23, l_24, l_25, l_26, l_27, l_28, l_29, l_30, l_31, l_32, l_33, l_34, l_35, l_36, l_37, l_38, l_39, l_40, l_41, l_48, l_50, l_56, l_57, l_59, l_60, l_63, l_64, l_70, l_97, l_99, l_122, l_128, l_190, l_220, l_255, l_320, l_500, l_999, l_1024, l_83520, l_100000, l_1000000, L_0, L_1, L_2, L_3, L_4, L_6, L_7, L_9, L_10, L_11, L_13, L_16, L_32, L_48, L_50, L_57, L_97, L_99, L_122, L_999, L_83520, L_4294967295, L_25937424601, L_1152921504606846976, ↓m_1000020, ↓m_1000012, ↓m_1000010, ↓m_1000000, ↓m_10004, ↓m_10000, ↓m_1000, ↓m_999, ↓m_99, ↓m_30, ↓m_20, ↓m_14, ↓m_12, ↓m_11, ↓m_10, ↓m_8, ↓m_4, ↓m_3, ↓m_2, ↓m_1, ↓mL_999, ↓mL_99, ↓mL_1, n_add, n_mul, nj_add, jn_add, n_sub, n_subj, nj_sub, jn_sub, nj_mul, jn_mul, jI_add, jI_sub, jI_mul, jI_neg, jL_add, jL_sub, jL_mul, jL_neg, n_l, j_l, jL_i, e_gn, e_gj, e_znn, e_znj, nn_ltT, nn_ltF, nn_leT, nn_leF, nn_eqT, nn_eqF, nj_ltT, nj_ltF, nj_leT, nj_leF, nj_eqT, nj_eqF, jn_ltT, jn_ltF, jn_leT, jn_leF, jn_eqT, jn_eqF, jj_ltT, jj_ltF, jj_leT, jj_leF, jj_eqT, jj_eqF, LL_ltT, LL_ltF, LL_leT, LL_leF, LL_eqT, LL_eqF, e_w1, e_w1s, e_w2, e_x1, e_x2, e_x2s, e_a1, e_a1s, e_a2, e_uT, e_uF, e_vT, e_vF, e_ft, e_tf, e_zbt, e_zbf, n_or, n_31, n_shl, n_bit, n_not, n_bc, a1]
    refine ok_some ?_
    have : ∀ c, (1 ≤ c ∧ c < C + 1) ↔ (1 ≤ c ∧ c ≤ C) := fun c => by omega
    simp only [this] at hM
    exact hM
  · refine ⟨by omega, M, rfl, ?_⟩
    obtain ⟨a1, a2, a3, a4, a5, a6, a7, a8⟩ := h
    refine ⟨a1, a2, a3, a4, a5, fun c hc => ?_, a7, fun c hc => ?_⟩
    · dsimp only
      rw [if_neg (by omega)]
      exact a6 c hc
    · dsimp only
      rw [if_neg (by omega)]
      exact a8 c hc
