theorem ok_dn {β : Type} {b : (Int32 × zM → Option β) → Int32 × zM → Option β} {Q : β → Prop} (N : Nat) (hN : N < 4000) (I : Nat → zM → Prop) (hs : ∀ rec s M, s < N → I (s + 1) M → (∀ M', I s M' → ok (rec (jI ((s : Int) + -1), M')) Q) → ok (b rec (nI s, M)) Q) (he : ∀ rec M, I 0 M → ok (b rec (jI (-1), M)) Q) {M : zM} (h : I N M) : ok (zlp b zFu (jI ((N : Int) - 1), M)) Q := by
  refine ok_lp (fun x => ∃ s M', s ≤ N ∧ x = (jI ((s : Int) - 1), M') ∧ I s M') (fun x => if x.1 = jI (-1) then 0 else zn x.1 + 1) ?_ zFu _ ⟨N, M, Nat.le_refl _, rfl, h⟩ ?_
  · rintro rec x ⟨s, M', hs1, rfl, h1⟩ hrec
    cases s with
    | zero => exact he rec M' h1
    | succ s =>
      have e : jI (((s + 1 : Nat) : Int) - 1) = nI s := by
        rw [nI_j]
        congr 1
        omega
      rw [e]
      refine hs rec s M' (by omega) h1 (fun M2 h2 => ?_)
      have e2 : jI ((s : Int) + -1) = jI ((s : Int) - 1) := rfl
      rw [e2]
      refine hrec _ ⟨s, M2, by omega, rfl, h2⟩ ?_
      show (if jI ((s : Int) - 1) = jI (-1) then 0 else zn (jI ((s : Int) - 1)) + 1) < (if jI (((s + 1 : Nat) : Int) - 1) = jI (-1) then 0 else zn (jI (((s + 1 : Nat) : Int) - 1)) + 1)
      rw [e]
      have e4 : (if nI s = jI (-1) then 0 else zn (nI s) + 1) = s + 1 := by
        simp (disch := omega) only [nj_eqF]
        rw [zn_nI (by omega)]
      rw [e4]
      by_cases z : s = 0
      · subst z
        rw [if_pos (show jI (((0 : Nat) : Int) - 1) = jI (-1) from rfl)]
        omega
      · have e3 : jI ((s : Int) - 1) = nI (s - 1) := by
          rw [nI_j]
          congr 1
          omega
        rw [e3]
        simp (disch := omega) only [nj_eqF]
        rw [zn_nI (by omega)]
        omega
  · show (if jI ((N : Int) - 1) = jI (-1) then 0 else zn (jI ((N : Int) - 1)) + 1) < zFu
    by_cases z : N = 0
    · subst z; rw [if_pos (show jI (((0 : Nat) : Int) - 1) = jI (-1) from rfl)]; unfold zFu; omega
    · have e3 : jI ((N : Int) - 1) = nI (N - 1) := by
        rw [nI_j]
        congr 1
        omega
      rw [e3]
      simp (disch := omega) only [nj_eqF]
      rw [zn_nI (by omega)]
      unfold zFu
      omega
theorem c_spA {M : zM} {n m : Nat} {c : Nat → Nat → Int} {T sv : Int} (h : pR M n m c T sv) (hV : pV n m c T sv) {p2 p3 : Int32} {cl : Nat} (hcl : (if p3 = (-4 : Int32) then (0 : Int32) else (1 : Int32) <<< (p3 &&& 31)) = nI cl) {sk : Nat → Bool} (hsk : ∀ i, i < n → (nI i = p2 ↔ sk i = true)) {al : Nat → Nat → Bool} (hal : ∀ i j, i < n → j < m → (al i j = true ↔ (sk i = false ∧ c i j ≠ -4 ∧ cl.testBit j = false))) (g : Nat → Nat → Int) :
    ok (fX0_spreadAll p2 p3 M) (fun M' => (∀ S, S < 2 ^ m → M'.1 68 S = nI (nN m al g n S)) ∧ zfr [68] M M') := by
  refine ok_fr ?_ (frX0_spreadAll p2 p3 M)
  obtain ⟨v1, v2, v3, v4, v5⟩ := id hV
  have hp := p2_le v2
  unfold fX0_spreadAll
  rw [hcl, e_lt, pfill _ _ _ _ (by decide), e_sq]
  simp (disch := omega) only [e_lt, e_ltn, e_jn, e_sq, e_bi, l_0, l_1, l_2, l_3, l_4, l_5, l_6, l_7, l_8, l_9, l_10, l_11, l_12, l_13, l_14, l_15, l_16, l_17, l_18, l_19, l_20, l_21, l_22, l_23, l_24, l_25, l_26, l_27, l_28, l_29, l_30, l_31, l_32, l_33, l_34, l_35, l_36, l_37, l_38, l_39, l_40, l_41, l_48, l_50, l_56, l_57, l_59, l_60, l_63, l_64, l_70, l_97, l_99, l_122, l_128, l_190, l_220, l_255, l_320, l_500, l_999, l_1024, l_83520, l_100000, l_1000000, L_0, L_1, L_2, L_3, L_4, L_6, L_7, L_9, L_10, L_11, L_13, L_16, L_32, L_48, L_50, L_57, L_97, L_99, L_122, L_999, L_83520, L_4294967295, L_25937424601, L_1152921504606846976, ↓m_1000020, ↓m_1000012, ↓m_1000010, ↓m_1000000, ↓m_10004, ↓m_10000, ↓m_1000, ↓m_999, ↓m_99, ↓m_30, ↓m_20, ↓m_14, ↓m_12, ↓m_11, ↓m_10, ↓m_8, ↓m_4, ↓m_3, ↓m_2, ↓m_1, ↓mL_999, ↓mL_99, ↓mL_1, n_add, n_mul, nj_add, jn_add, n_sub, n_subj, nj_sub, jn_sub, nj_mul, jn_mul, if_true, if_false, jI_add, jI_sub, jI_mul, jI_neg, jL_add, jL_sub, jL_mul, jL_neg, n_l, j_l, jL_i, e_gn, e_gj, e_znn, e_znj, nn_ltT, nn_ltF, nn_leT, nn_leF, nn_eqT, nn_eqF, nj_ltT, nj_ltF, nj_leT, nj_leF, nj_eqT, nj_eqF, jn_ltT, jn_ltF, jn_leT, jn_leF, jn_eqT, jn_eqF, jj_ltT, jj_ltF, jj_leT, jj_leF, jj_eqT, jj_eqF, LL_ltT, LL_ltF, LL_leT, LL_leF, LL_eqT, LL_eqF, e_w1, e_w1s, e_w2, e_x1, e_x2, e_x2s, e_a1, e_a1s, e_a2, e_uT, e_uF, e_vT, e_vF, e_ft, e_tf, e_zbt, e_zbf, n_or, n_31, n_shl, n_bit, n_not, n_bc]
  have h0 : ∀ S, S < 2 ^ m → (zwI (zwA M 68 (zfl (M.1 68) 1024 (nI 0))) 68 0 (nI 1)).1 68 S = nI (nN m al g 0 S) := fun S hS => by
    rw [e_w1s, nN_zero]
    by_cases e : S = 0
    · rw [e_uT e, if_pos e]
    · rw [e_uF e, if_neg e, e_a1s]
      unfold zfl
      rw [if_pos (by omega)]
  have f0 : zfr [68] M (zwI (zwA M 68 (zfl (M.1 68) 1024 (nI 0))) 68 0 (nI 1)) := zfr_I (zfr_A (zfr_rf _ _) (by decide)) (by decide)
  generalize zwI (zwA M 68 (zfl (M.1 68) 1024 (nI 0))) 68 0 (nI 1) = M1 at h0 f0 ⊢
  refine ok_up n (fun i x => ∃ M', x = (nI i, M') ∧ zfr [68] M M' ∧ ∀ S, S < 2 ^ m → M'.1 68 S = nI (nN m al g i S)) ?_ ?_ zFu 0 _ (by omega) (by unfold zFu; omega) ⟨M1, rfl, f0, h0⟩
  · rintro rec i x hi ⟨M2, rfl, f2, h2⟩ hrec
    have p2' := pR_fr h f2 (by decide) (by decide)
    have b0 := p2'.1
    have b1 := p2'.2.1
    simp (disch := omega) only [e_lt, e_ltn, e_jn, e_sq, e_bi, l_0, l_1, l_2, l_3, l_4, l_5, l_6, l_7, l_8, l_9, l_10, l_11, l_12, l_13, l_14, l_15, l_16, l_17, l_18, l_19, l_20, l_21, l_22, l_23, l_24, l_25, l_26, l_27, l_28, l_29, l_30, l_31, l_32, l_33, l_34, l_35, l_36, l_37, l_38, l_39, l_40, l_41, l_48, l_50, l_56, l_57, l_59, l_60, l_63, l_64, l_70, l_97, l_99, l_122, l_128, l_190, l_220, l_255, l_320, l_500, l_999, l_1024, l_83520, l_100000, l_1000000, L_0, L_1, L_2, L_3, L_4, L_6, L_7, L_9, L_10, L_11, L_13, L_16, L_32, L_48, L_50, L_57, L_97, L_99, L_122, L_999, L_83520, L_4294967295, L_25937424601, L_1152921504606846976, ↓m_1000020, ↓m_1000012, ↓m_1000010, ↓m_1000000, ↓m_10004, ↓m_10000, ↓m_1000, ↓m_999, ↓m_99, ↓m_30, ↓m_20, ↓m_14, ↓m_12, ↓m_11, ↓m_10, ↓m_8, ↓m_4, ↓m_3, ↓m_2, ↓m_1, ↓mL_999, ↓mL_99, ↓mL_1, n_add, n_mul, nj_add, jn_add, n_sub, n_subj, nj_sub, jn_sub, nj_mul, jn_mul, if_true, if_false, jI_add, jI_sub, jI_mul, jI_neg, jL_add, jL_sub, jL_mul, jL_neg, n_l, j_l, jL_i, e_gn, e_gj, e_znn, e_znj, nn_ltT, nn_ltF, nn_leT, nn_leF, nn_eqT, nn_eqF, nj_ltT, nj_ltF, nj_leT, nj_leF, nj_eqT, nj_eqF, jn_ltT, jn_ltF, jn_leT, jn_leF, jn_eqT, jn_eqF, jj_ltT, jj_ltF, jj_leT, jj_leF, jj_eqT, jj_eqF, LL_ltT, LL_ltF, LL_leT, LL_leF, LL_eqT, LL_eqF, e_w1, e_w1s, e_w2, e_x1, e_x2, e_x2s, e_a1, e_a1s, e_a2, e_uT, e_uF, e_vT, e_vF, e_ft, e_tf, e_zbt, e_zbf, n_or, n_31, n_shl, n_bit, n_not, n_bc, b0, b1]
    by_cases es : sk i = true
    · rw [if_pos ((hsk i hi).mpr es)]
      simp (disch := omega) only [e_lt, e_ltn, e_jn, e_sq, e_bi, l_0, l_1, l_2, l_3, l_4, l_5, l_6, l_7, l_8, l_9, l_10, l_11, l_12, l_13, l_14, l_15, l_16, l_17, l_18, l_19, l_20, l_21, l_22, l_23, l_24, l_25, l_26, l_27, l_28, l_29, l_30, l_31, l_32, l_33, l_34, l_35, l_36, l_37, l_38, l_39, l_40, l_41, l_48, l_50, l_56, l_57, l_59, l_60, l_63, l_64, l_70, l_97, l_99, l_122, l_128, l_190, l_220, l_255, l_320, l_500, l_999, l_1024, l_83520, l_100000, l_1000000, L_0, L_1, L_2, L_3, L_4, L_6, L_7, L_9, L_10, L_11, L_13, L_16, L_32, L_48, L_50, L_57, L_97, L_99, L_122, L_999, L_83520, L_4294967295, L_25937424601, L_1152921504606846976, ↓m_1000020, ↓m_1000012, ↓m_1000010, ↓m_1000000, ↓m_10004, ↓m_10000, ↓m_1000, ↓m_999, ↓m_99, ↓m_30, ↓m_20, ↓m_14, ↓m_12, ↓m_11, ↓m_10, ↓m_8, ↓m_4, ↓m_3, ↓m_2, ↓m_1, ↓mL_999, ↓mL_99, ↓mL_1, n_add, n_mul, nj_add, jn_add, n_sub, n_subj, nj_sub, jn_sub, nj_mul, jn_mul, if_true, if_false, jI_add, jI_sub, jI_mul, jI_neg, jL_add, jL_sub, jL_mul, jL_neg, n_l, j_l, jL_i, e_gn, e_gj, e_znn, e_znj, nn_ltT, nn_ltF, nn_leT, nn_leF, nn_eqT, nn_eqF, nj_ltT, nj_ltF, nj_leT, nj_leF, nj_eqT, nj_eqF, jn_ltT, jn_ltF, jn_leT, jn_leF, jn_eqT, jn_eqF, jj_ltT, jj_ltF, jj_leT, jj_leF, jj_eqT, jj_eqF, LL_ltT, LL_ltF, LL_leT, LL_leF, LL_eqT, LL_eqF, e_w1, e_w1s, e_w2, e_x1, e_x2, e_x2s, e_a1, e_a1s, e_a2, e_uT, e_uF, e_vT, e_vF, e_ft, e_tf, e_zbt, e_zbf, n_or, n_31, n_shl, n_bit, n_not, n_bc]
      refine hrec _ ⟨M2, rfl, f2, fun S hS => ?_⟩
      rw [h2 S hS, nN_step v2 i (by omega), sn_zero, Nat.add_zero]
      intro j hj
      rw [if_neg]
      rintro ⟨_, w⟩
      rw [((hal i j hi hj).mp w).1] at es
      cases es
    · rw [if_neg (fun w => es ((hsk i hi).mp w))]
      simp only [Bool.not_eq_true] at es
      have eG : nI 100000 = jI 100000 := rfl
      rw [eG]
      refine ok_sq (P := fun M' => (∀ S, S < 2 ^ m → M'.1 68 S = nI (nN m al g (i + 1) S)) ∧ zfr [68] M M') ?_ (fun M3 h3 => hrec _ ⟨M3, rfl, h3.2, h3.1⟩)
      refine ok_sq (c_open p2' hV hi (by omega)) ?_
      rintro _ ⟨o, rfl, ho, hb⟩
      rw [n_not]
      refine ok_sq (ok_fr (c_spread v2 (xor_and_lt ho) h2 (fun S hS => Nat.lt_of_le_of_lt (nN_bd v2 (by omega) (by omega)) (by omega))) (frX0_spreadLine _ _ M2)) ?_
      rintro M3 ⟨h3, f3⟩
      refine ok_some ⟨fun S hS => ?_, zfr_tr f2 f3 (by decide)⟩
      rw [h3 S hS, nN_step v2 i (by omega)]
      congr 2
      apply sn_congr
      intro j hj
      have hg := g_lo hV hi hj
      have hbit : (o ^^^ (o &&& cl)).testBit j = true ↔ al i j = true := by
        rw [xor_and, Bool.and_eq_true, hb j, hal i j hi hj]
        simp only [Bool.not_eq_true']
        constructor
        · rintro ⟨⟨_, w, _⟩, w2⟩; exact ⟨es, w, w2⟩
        · rintro ⟨_, w, w2⟩; exact ⟨⟨hj, w, by omega⟩, w2⟩
      simp only [hbit]
  · rintro rec x ⟨M2, rfl, f2, h2⟩
    have p2' := pR_fr h f2 (by decide) (by decide)
    have b0 := p2'.1
    simp (disch := omega) only [e_lt, e_ltn, e_jn, e_sq, e_bi, l_0, l_1, l_2, l_3, l_4, l_5, l_6, l_7, l_8, l_9, l_10, l_11, l_12, l_13, l_14, l_15, l_16, l_17, l_18, l_19, l_20, l_21, l_22, l_23, l_24, l_25, l_26, l_27, l_28, l_29, l_30, l_31, l_32, l_33, l_34, l_35, l_36, l_37, l_38, l_39, l_40, l_41, l_48, l_50, l_56, l_57, l_59, l_60, l_63, l_64, l_70, l_97, l_99, l_122, l_128, l_190, l_220, l_255, l_320, l_500, l_999, l_1024, l_83520, l_100000, l_1000000, L_0, L_1, L_2, L_3, L_4, L_6, L_7, L_9, L_10, L_11, L_13, L_16, L_32, L_48, L_50, L_57, L_97, L_99, L_122, L_999, L_83520, L_4294967295, L_25937424601, L_1152921504606846976, ↓m_1000020, ↓m_1000012, ↓m_1000010, ↓m_1000000, ↓m_10004, ↓m_10000, ↓m_1000, ↓m_999, ↓m_99, ↓m_30, ↓m_20, ↓m_14, ↓m_12, ↓m_11, ↓m_10, ↓m_8, ↓m_4, ↓m_3, ↓m_2, ↓m_1, ↓mL_999, ↓mL_99, ↓mL_1, n_add, n_mul, nj_add, jn_add, n_sub, n_subj, nj_sub, jn_sub, nj_mul, jn_mul, if_true, if_false, jI_add, jI_sub, jI_mul, jI_neg, jL_add, jL_sub, jL_mul, jL_neg, n_l, j_l, jL_i, e_gn, e_gj, e_znn, e_znj, nn_ltT, nn_ltF, nn_leT, nn_leF, nn_eqT, nn_eqF, nj_ltT, nj_ltF, nj_leT, nj_leF, nj_eqT, nj_eqF, jn_ltT, jn_ltF, jn_leT, jn_leF, jn_eqT, jn_eqF, jj_ltT, jj_ltF, jj_leT, jj_leF, jj_eqT, jj_eqF, LL_ltT, LL_ltF, LL_leT, LL_leF, LL_eqT, LL_eqF, e_w1, e_w1s, e_w2, e_x1, e_x2, e_x2s, e_a1, e_a1s, e_a2, e_uT, e_uF, e_vT, e_vF, e_ft, e_tf, e_zbt, e_zbf, n_or, n_31, n_shl, n_bit, n_not, n_bc, b0]
    exact ok_some h2
theorem c_sum {M : zM} {m : Nat} {N : Nat → Nat} (hm : m ≤ 10) (h55 : M.1 55 1 = nI m) (h : ∀ S, S < 2 ^ m → M.1 68 S = nI (N S)) (hN : ∀ S, S < 2 ^ m → N S < 2147483648) : zlp (α := Int64 × Int32) (fun rec10 => (fun (u14 : Int64 × Int32) => match u14 with | (x8, x9) => if ((1 : Int32) <<< ((M.1 55 1) &&& 31)) ≤ x9 then (some (x8, M)) else (grd (zix x9 1024) (lt ((x8 + ((M.1 68 (zn x9))).toInt64)) (fun (x13 : Int64) => rec10 (x13, (x9 + (1 : Int32)))))))) zFu ((0 : Int64), (0 : Int32)) = some (jL (sn N (2 ^ m) : Nat), M) := by
  have hp := p2_le hm
  apply ok_eq
  refine ok_up (2 ^ m) (fun k x => x = (jL (sn N k : Nat), nI k)) ?_ ?_ zFu 0 _ (Nat.zero_le _) (by unfold zFu; omega) rfl
  · rintro rec k x hk rfl hrec
    have b1 := h k hk
    have b2 := hN k hk
    simp (disch := omega) only [e_lt, e_ltn, e_jn, e_sq, e_bi, l_0, l_1, l_2, l_3, l_4, l_5, l_6, l_7, l_8, l_9, l_10, l_11, l_12, l_13, l_14, l_15, l_16, l_17, l_18, l_19, l_20, l_21, l_22, l_23, l_24, l_25, l_26, l_27, l_28, l_29, l_30, l_31, l_32, l_33, l_34, l_35, l_36, l_37, l_38, l_39, l_40, l_41, l_48, l_50, l_56, l_57, l_59, l_60, l_63, l_64, l_70, l_97, l_99, l_122, l_128, l_190, l_220, l_255, l_320, l_500, l_999, l_1024, l_83520, l_100000, l_1000000, L_0, L_1, L_2, L_3, L_4, L_6, L_7, L_9, L_10, L_11, L_13, L_16, L_32, L_48, L_50, L_57, L_97, L_99, L_122, L_999, L_83520, L_4294967295, L_25937424601, L_1152921504606846976, ↓m_1000020, ↓m_1000012, ↓m_1000010, ↓m_1000000, ↓m_10004, ↓m_10000, ↓m_1000, ↓m_999, ↓m_99, ↓m_30, ↓m_20, ↓m_14, ↓m_12, ↓m_11, ↓m_10, ↓m_8, ↓m_4, ↓m_3, ↓m_2, ↓m_1, ↓mL_999, ↓mL_99, ↓mL_1, n_add, n_mul, nj_add, jn_add, n_sub, n_subj, nj_sub, jn_sub, nj_mul, jn_mul, if_true, if_false, jI_add, jI_sub, jI_mul, jI_neg, jL_add, jL_sub, jL_mul, jL_neg, n_l, j_l, jL_i, e_gn, e_gj, e_znn, e_znj, nn_ltT, nn_ltF, nn_leT, nn_leF, nn_eqT, nn_eqF, nj_ltT, nj_ltF, nj_leT, nj_leF, nj_eqT, nj_eqF, jn_ltT, jn_ltF, jn_leT, jn_leF, jn_eqT, jn_eqF, jj_ltT, jj_ltF, jj_leT, jj_leF, jj_eqT, jj_eqF, LL_ltT, LL_ltF, LL_leT, LL_leF, LL_eqT, LL_eqF, e_w1, e_w1s, e_w2, e_x1, e_x2, e_x2s, e_a1, e_a1s, e_a2, e_uT, e_uF, e_vT, e_vF, e_ft, e_tf, e_zbt, e_zbf, n_or, n_31, n_shl, n_bit, n_not, n_bc, h55, b1]
    refine hrec _ ?_
    rw [sn, Int.natCast_add]
  · rintro rec x rfl
    simp (disch := omega) only [e_lt, e_ltn, e_jn, e_sq, e_bi, l_0, l_1, l_2, l_3, l_4, l_5, l_6, l_7, l_8, l_9, l_10, l_11, l_12, l_13, l_14, l_15, l_16, l_17, l_18, l_19, l_20, l_21, l_22, l_23, l_24, l_25, l_26, l_27, l_28, l_29, l_30, l_31, l_32, l_33, l_34, l_35, l_36, l_37, l_38, l_39, l_40, l_41, l_48, l_50, l_56, l_57, l_59, l_60, l_63, l_64, l_70, l_97, l_99, l_122, l_128, l_190, l_220, l_255, l_320, l_500, l_999, l_1024, l_83520, l_100000, l_1000000, L_0, L_1, L_2, L_3, L_4, L_6, L_7, L_9, L_10, L_11, L_13, L_16, L_32, L_48, L_50, L_57, L_97, L_99, L_122, L_999, L_83520, L_4294967295, L_25937424601, L_1152921504606846976, ↓m_1000020, ↓m_1000012, ↓m_1000010, ↓m_1000000, ↓m_10004, ↓m_10000, ↓m_1000, ↓m_999, ↓m_99, ↓m_30, ↓m_20, ↓m_14, ↓m_12, ↓m_11, ↓m_10, ↓m_8, ↓m_4, ↓m_3, ↓m_2, ↓m_1, ↓mL_999, ↓mL_99, ↓mL_1, n_add, n_mul, nj_add, jn_add, n_sub, n_subj, nj_sub, jn_sub, nj_mul, jn_mul, if_true, if_false, jI_add, jI_sub, jI_mul, jI_neg, jL_add, jL_sub, jL_mul, jL_neg, n_l, j_l, jL_i, e_gn, e_gj, e_znn, e_znj, nn_ltT, nn_ltF, nn_leT, nn_leF, nn_eqT, nn_eqF, nj_ltT, nj_ltF, nj_leT, nj_leF, nj_eqT, nj_eqF, jn_ltT, jn_ltF, jn_leT, jn_leF, jn_eqT, jn_eqF, jj_ltT, jj_ltF, jj_leT, jj_leF, jj_eqT, jj_eqF, LL_ltT, LL_ltF, LL_leT, LL_leF, LL_eqT, LL_eqF, e_w1, e_w1s, e_w2, e_x1, e_x2, e_x2s, e_a1, e_a1s, e_a2, e_uT, e_uF, e_vT, e_vF, e_ft, e_tf, e_zbt, e_zbf, n_or, n_31, n_shl, n_bit, n_not, n_bc, h55]
    exact ok_some rfl
theorem c_cntA {M : zM} {n m : Nat} {c : Nat → Nat → Int} {T sv : Int} (h : pR M n m c T sv) (hV : pV n m c T sv) {p2 p3 : Int32} {cl : Nat} (hcl : (if p3 = (-4 : Int32) then (0 : Int32) else (1 : Int32) <<< (p3 &&& 31)) = nI cl) {sk : Nat → Bool} (hsk : ∀ i, i < n → (nI i = p2 ↔ sk i = true)) {al : Nat → Nat → Bool} (hal : ∀ i j, i < n → j < m → (al i j = true ↔ (sk i = false ∧ c i j ≠ -4 ∧ cl.testBit j = false))) (h10 : ∀ i, i < n → al i 10 = true) :
    ok (fX0_countAll p2 p3 M) (fun x => x.1 = jL ((bB m al n 0 0).length : Nat) ∧ zfr [68] M x.2) := by
  obtain ⟨v1, v2, v3, v4, v5⟩ := id hV
  have hp := p2_le v2
  unfold fX0_countAll
  refine ok_sq (c_spA h hV hcl hsk hal (gP c sv)) ?_
  rintro M1 ⟨h1, f1⟩
  have p1 := pR_fr h f1 (by decide) (by decide)
  rw [c_sum v2 p1.2.1 h1 (fun S hS => Nat.lt_of_le_of_lt (nN_bd v2 v1 (by omega)) (by omega)), nN_all v2 h10]
  exact ok_some ⟨rfl, f1⟩
theorem c_all0 {M : zM} {n m : Nat} {c : Nat → Nat → Int} {T sv : Int} (h : pR M n m c T sv) (hV : pV n m c T sv) : ok (fX0_countAll (-4 : Int32) (-4 : Int32) M) (fun x => x.1 = jL ((bB m (alP c) n 0 0).length : Nat) ∧ zfr [68] M x.2) := by
  obtain ⟨v1, v2, v3, v4, v5⟩ := id hV
  refine c_cntA (cl := 0) (sk := fun _ => false) h hV (by decide) (fun i hi => ?_) (fun i j hi hj => ?_) (fun i _ => alP_10 c i)
  · rw [m_4, nI_j, jI_eq (by omega) (by omega)]
    constructor
    · intro q; omega
    · intro q; cases q
  · rw [alP_lt (by omega)]
    simp
theorem c_allX {M : zM} {n m : Nat} {c : Nat → Nat → Int} {T sv : Int} (h : pR M n m c T sv) (hV : pV n m c T sv) {a b : Nat} (ha : a < n) (hb : b < m) : ok (fX0_countAll (nI a) (nI b) M) (fun x => x.1 = jL ((bB m (alX (alP c) a b) n 0 0).length : Nat) ∧ zfr [68] M x.2) := by
  obtain ⟨v1, v2, v3, v4, v5⟩ := id hV
  refine c_cntA (cl := 2 ^ b) (sk := fun i => decide (i = a)) h hV ?_ (fun i hi => ?_) (fun i j hi hj => ?_) (fun i _ => by simp [alX, alP_10])
  · simp (disch := omega) only [e_lt, e_ltn, e_jn, e_sq, e_bi, l_0, l_1, l_2, l_3, l_4, l_5, l_6, l_7, l_8, l_9, l_10, l_11, l_12, l_13, l_14, l_15, l_16, l_17, l_18, l_19, l_20, l_21, l_22, l_23, l_24, l_25, l_26, l_27, l_28, l_29, l_30, l_31, l_32, l_33, l_34, l_35, l_36, l_37, l_38, l_39, l_40, l_41, l_48, l_50, l_56, l_57, l_59, l_60, l_63, l_64, l_70, l_97, l_99, l_122, l_128, l_190, l_220, l_255, l_320, l_500, l_999, l_1024, l_83520, l_100000, l_1000000, L_0, L_1, L_2, L_3, L_4, L_6, L_7, L_9, L_10, L_11, L_13, L_16, L_32, L_48, L_50, L_57, L_97, L_99, L_122, L_999, L_83520, L_4294967295, L_25937424601, L_1152921504606846976, ↓m_1000020, ↓m_1000012, ↓m_1000010, ↓m_1000000, ↓m_10004, ↓m_10000, ↓m_1000, ↓m_999, ↓m_99, ↓m_30, ↓m_20, ↓m_14, ↓m_12, ↓m_11, ↓m_10, ↓m_8, ↓m_4, ↓m_3, ↓m_2, ↓m_1, ↓mL_999, ↓mL_99, ↓mL_1, n_add, n_mul, nj_add, jn_add, n_sub, n_subj, nj_sub, jn_sub, nj_mul, jn_mul, if_true, if_false, jI_add, jI_sub, jI_mul, jI_neg, jL_add, jL_sub, jL_mul, jL_neg, n_l, j_l, jL_i, e_gn, e_gj, e_znn, e_znj, nn_ltT, nn_ltF, nn_leT, nn_leF, nn_eqT, nn_eqF, nj_ltT, nj_ltF, nj_leT, nj_leF, nj_eqT, nj_eqF, jn_ltT, jn_ltF, jn_leT, jn_leF, jn_eqT, jn_eqF, jj_ltT, jj_ltF, jj_leT, jj_leF, jj_eqT, jj_eqF, LL_ltT, LL_ltF, LL_leT, LL_leF, LL_eqT, LL_eqF, e_w1, e_w1s, e_w2, e_x1, e_x2, e_x2s, e_a1, e_a1s, e_a2, e_uT, e_uF, e_vT, e_vF, e_ft, e_tf, e_zbt, e_zbf, n_or, n_31, n_shl, n_bit, n_not, n_bc]
  · rw [nI_j, nI_j, jI_eq (by omega) (by omega)]
    simp
    omega
  · have : j ≠ 10 := by omega
    unfold alX
    rw [alP_lt (by omega), Nat.testBit_two_pow]
    simp [this]
    constructor
    · rintro ⟨q1, q2, q3⟩; exact ⟨q2, q1, fun q => q3 q.symm⟩
    · rintro ⟨q1, q2, q3⟩; exact ⟨q2, q1, fun q => q3 q.symm⟩
theorem c_ofs {M : zM} {m k : Nat} {N : Nat → Nat} (hm : m ≤ 10) (hk : k ≤ 10) (h55 : M.1 55 1 = nI m) (h : ∀ S, S < 2 ^ m → M.1 68 S = nI (N S)) (hN : ∀ S, S < 2 ^ m → N S < 2147483648) : fX0_countOfSize (nI k) M = some (jL (sn (fun S => if bc S = k then N S else 0) (2 ^ m) : Nat)) := by
  have hp := p2_le hm
  apply ok_eq
  unfold fX0_countOfSize
  refine ok_up (2 ^ m) (fun s x => x = (jL (sn (fun S => if bc S = k then N S else 0) s : Nat), nI s)) ?_ ?_ zFu 0 _ (Nat.zero_le _) (by unfold zFu; omega) rfl
  · rintro rec s x hs rfl hrec
    have b1 := h s hs
    have b2 := hN s hs
    have b3 := bc_le s (by omega)
    simp (disch := omega) only [e_lt, e_ltn, e_jn, e_sq, e_bi, l_0, l_1, l_2, l_3, l_4, l_5, l_6, l_7, l_8, l_9, l_10, l_11, l_12, l_13, l_14, l_15, l_16, l_17, l_18, l_19, l_20, l_21, l_22, l_23, l_24, l_25, l_26, l_27, l_28, l_29, l_30, l_31, l_32, l_33, l_34, l_35, l_36, l_37, l_38, l_39, l_40, l_41, l_48, l_50, l_56, l_57, l_59, l_60, l_63, l_64, l_70, l_97, l_99, l_122, l_128, l_190, l_220, l_255, l_320, l_500, l_999, l_1024, l_83520, l_100000, l_1000000, L_0, L_1, L_2, L_3, L_4, L_6, L_7, L_9, L_10, L_11, L_13, L_16, L_32, L_48, L_50, L_57, L_97, L_99, L_122, L_999, L_83520, L_4294967295, L_25937424601, L_1152921504606846976, ↓m_1000020, ↓m_1000012, ↓m_1000010, ↓m_1000000, ↓m_10004, ↓m_10000, ↓m_1000, ↓m_999, ↓m_99, ↓m_30, ↓m_20, ↓m_14, ↓m_12, ↓m_11, ↓m_10, ↓m_8, ↓m_4, ↓m_3, ↓m_2, ↓m_1, ↓mL_999, ↓mL_99, ↓mL_1, n_add, n_mul, nj_add, jn_add, n_sub, n_subj, nj_sub, jn_sub, nj_mul, jn_mul, if_true, if_false, jI_add, jI_sub, jI_mul, jI_neg, jL_add, jL_sub, jL_mul, jL_neg, n_l, j_l, jL_i, e_gn, e_gj, e_znn, e_znj, nn_ltT, nn_ltF, nn_leT, nn_leF, nn_eqT, nn_eqF, nj_ltT, nj_ltF, nj_leT, nj_leF, nj_eqT, nj_eqF, jn_ltT, jn_ltF, jn_leT, jn_leF, jn_eqT, jn_eqF, jj_ltT, jj_ltF, jj_leT, jj_leF, jj_eqT, jj_eqF, LL_ltT, LL_ltF, LL_leT, LL_leF, LL_eqT, LL_eqF, e_w1, e_w1s, e_w2, e_x1, e_x2, e_x2s, e_a1, e_a1s, e_a2, e_uT, e_uF, e_vT, e_vF, e_ft, e_tf, e_zbt, e_zbf, n_or, n_31, n_shl, n_bit, n_not, n_bc, h55, b1]
    by_cases e : bc s = k
    · simp (disch := omega) only [e_lt, e_ltn, e_jn, e_sq, e_bi, l_0, l_1, l_2, l_3, l_4, l_5, l_6, l_7, l_8, l_9, l_10, l_11, l_12, l_13, l_14, l_15, l_16, l_17, l_18, l_19, l_20, l_21, l_22, l_23, l_24, l_25, l_26, l_27, l_28, l_29, l_30, l_31, l_32, l_33, l_34, l_35, l_36, l_37, l_38, l_39, l_40, l_41, l_48, l_50, l_56, l_57, l_59, l_60, l_63, l_64, l_70, l_97, l_99, l_122, l_128, l_190, l_220, l_255, l_320, l_500, l_999, l_1024, l_83520, l_100000, l_1000000, L_0, L_1, L_2, L_3, L_4, L_6, L_7, L_9, L_10, L_11, L_13, L_16, L_32, L_48, L_50, L_57, L_97, L_99, L_122, L_999, L_83520, L_4294967295, L_25937424601, L_1152921504606846976, ↓m_1000020, ↓m_1000012, ↓m_1000010, ↓m_1000000, ↓m_10004, ↓m_10000, ↓m_1000, ↓m_999, ↓m_99, ↓m_30, ↓m_20, ↓m_14, ↓m_12, ↓m_11, ↓m_10, ↓m_8, ↓m_4, ↓m_3, ↓m_2, ↓m_1, ↓mL_999, ↓mL_99, ↓mL_1, n_add, n_mul, nj_add, jn_add, n_sub, n_subj, nj_sub, jn_sub, nj_mul, jn_mul, if_true, if_false, jI_add, jI_sub, jI_mul, jI_neg, jL_add, jL_sub, jL_mul, jL_neg, n_l, j_l, jL_i, e_gn, e_gj, e_znn, e_znj, nn_ltT, nn_ltF, nn_leT, nn_leF, nn_eqT, nn_eqF, nj_ltT, nj_ltF, nj_leT, nj_leF, nj_eqT, nj_eqF, jn_ltT, jn_ltF, jn_leT, jn_leF, jn_eqT, jn_eqF, jj_ltT, jj_ltF, jj_leT, jj_leF, jj_eqT, jj_eqF, LL_ltT, LL_ltF, LL_leT, LL_leF, LL_eqT, LL_eqF, e_w1, e_w1s, e_w2, e_x1, e_x2, e_x2s, e_a1, e_a1s, e_a2, e_uT, e_uF, e_vT, e_vF, e_ft, e_tf, e_zbt, e_zbf, n_or, n_31, n_shl, n_bit, n_not, n_bc]
      refine hrec _ ?_
      rw [sn, if_pos e, Int.natCast_add]
    · simp (disch := omega) only [e_lt, e_ltn, e_jn, e_sq, e_bi, l_0, l_1, l_2, l_3, l_4, l_5, l_6, l_7, l_8, l_9, l_10, l_11, l_12, l_13, l_14, l_15, l_16, l_17, l_18, l_19, l_20, l_21, l_22, l_23, l_24, l_25, l_26, l_27, l_28, l_29, l_30, l_31, l_32, l_33, l_34, l_35, l_36, l_37, l_38, l_39, l_40, l_41, l_48, l_50, l_56, l_57, l_59, l_60, l_63, l_64, l_70, l_97, l_99, l_122, l_128, l_190, l_220, l_255, l_320, l_500, l_999, l_1024, l_83520, l_100000, l_1000000, L_0, L_1, L_2, L_3, L_4, L_6, L_7, L_9, L_10, L_11, L_13, L_16, L_32, L_48, L_50, L_57, L_97, L_99, L_122, L_999, L_83520, L_4294967295, L_25937424601, L_1152921504606846976, ↓m_1000020, ↓m_1000012, ↓m_1000010, ↓m_1000000, ↓m_10004, ↓m_10000, ↓m_1000, ↓m_999, ↓m_99, ↓m_30, ↓m_20, ↓m_14, ↓m_12, ↓m_11, ↓m_10, ↓m_8, ↓m_4, ↓m_3, ↓m_2, ↓m_1, ↓mL_999, ↓mL_99, ↓mL_1, n_add, n_mul, nj_add, jn_add, n_sub, n_subj, nj_sub, jn_sub, nj_mul, jn_mul, if_true, if_false, jI_add, jI_sub, jI_mul, jI_neg, jL_add, jL_sub, jL_mul, jL_neg, n_l, j_l, jL_i, e_gn, e_gj, e_znn, e_znj, nn_ltT, nn_ltF, nn_leT, nn_leF, nn_eqT, nn_eqF, nj_ltT, nj_ltF, nj_leT, nj_leF, nj_eqT, nj_eqF, jn_ltT, jn_ltF, jn_leT, jn_leF, jn_eqT, jn_eqF, jj_ltT, jj_ltF, jj_leT, jj_leF, jj_eqT, jj_eqF, LL_ltT, LL_ltF, LL_leT, LL_leF, LL_eqT, LL_eqF, e_w1, e_w1s, e_w2, e_x1, e_x2, e_x2s, e_a1, e_a1s, e_a2, e_uT, e_uF, e_vT, e_vF, e_ft, e_tf, e_zbt, e_zbf, n_or, n_31, n_shl, n_bit, n_not, n_bc]
      refine hrec _ ?_
      rw [sn, if_neg e]
      simp
  · rintro rec x rfl
    simp (disch := omega) only [e_lt, e_ltn, e_jn, e_sq, e_bi, l_0, l_1, l_2, l_3, l_4, l_5, l_6, l_7, l_8, l_9, l_10, l_11, l_12, l_13, l_14, l_15, l_16, l_17, l_18, l_19, l_20, l_21, l_22, l_23, l_24, l_25, l_26, l_27, l_28, l_29, l_30, l_31, l_32, l_33, l_34, l_35, l_36, l_37, l_38, l_39, l_40, l_41, l_48, l_50, l_56, l_57, l_59, l_60, l_63, l_64, l_70, l_97, l_99, l_122, l_128, l_190, l_220, l_255, l_320, l_500, l_999, l_1024, l_83520, l_100000, l_1000000, L_0, L_1, L_2, L_3, L_4, L_6, L_7, L_9, L_10, L_11, L_13, L_16, L_32, L_48, L_50, L_57, L_97, L_99, L_122, L_999, L_83520, L_4294967295, L_25937424601, L_1152921504606846976, ↓m_1000020, ↓m_1000012, ↓m_1000010, ↓m_1000000, ↓m_10004, ↓m_10000, ↓m_1000, ↓m_999, ↓m_99, ↓m_30, ↓m_20, ↓m_14, ↓m_12, ↓m_11, ↓m_10, ↓m_8, ↓m_4, ↓m_3, ↓m_2, ↓m_1, ↓mL_999, ↓mL_99, ↓mL_1, n_add, n_mul, nj_add, jn_add, n_sub, n_subj, nj_sub, jn_sub, nj_mul, jn_mul, if_true, if_false, jI_add, jI_sub, jI_mul, jI_neg, jL_add, jL_sub, jL_mul, jL_neg, n_l, j_l, jL_i, e_gn, e_gj, e_znn, e_znj, nn_ltT, nn_ltF, nn_leT, nn_leF, nn_eqT, nn_eqF, nj_ltT, nj_ltF, nj_leT, nj_leF, nj_eqT, nj_eqF, jn_ltT, jn_ltF, jn_leT, jn_leF, jn_eqT, jn_eqF, jj_ltT, jj_ltF, jj_leT, jj_leF, jj_eqT, jj_eqF, LL_ltT, LL_ltF, LL_leT, LL_leF, LL_eqT, LL_eqF, e_w1, e_w1s, e_w2, e_x1, e_x2, e_x2s, e_a1, e_a1s, e_a2, e_uT, e_uF, e_vT, e_vF, e_ft, e_tf, e_zbt, e_zbf, n_or, n_31, n_shl, n_bit, n_not, n_bc, h55]
    exact ok_some rfl
