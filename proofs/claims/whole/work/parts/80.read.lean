/-! ===== lines from a sheet ===== -/
def tdq (z : Nat → Int) (i p : Nat) : Bool := !decide (0 ≤ z (6 * i + (p + 1)) ∧ z (6 * i + (p + 1)) ≤ 16)
def tdm (z : Nat → Int) (i : Nat) : Bool := decide (0 ≤ z (6 * i + 0) ∧ z (6 * i + 0) ≤ 999) && decide (0 ≤ z (6 * i + 5) ∧ z (6 * i + 5) ≤ 6)
def tdB (z : Nat → Int) (i : Nat) : Bool := tdm z i && !hj (tdq z i) 4
theorem w0N {a : Int} {N : Nat} (h : rg a) (hN : N < 2147483648) : fX10_within (jI a) (nI 0) (nI N) = decide (0 ≤ a ∧ a ≤ N) := by
  rw [nI_j N]
  exact fw_eq a 0 N h (by omega) (by omega)
theorem i0N {a z : Int} (h : rg a) (hN : 0 ≤ z ∧ z < 2147483648) : fX11_in (jI a).toInt64 (jL 0) (jL z) = decide (0 ≤ a ∧ a ≤ z) := by
  rw [jI_l h]
  exact fi_eq a 0 z (by omega) (by omega) (by omega)
theorem c_isl {M : zM} {a g i : Nat} {z : Nat → Int} (hg : g + 6 ≤ 64) (hz : ∀ j, j < 6 → M.1 (a + 1) (g + j) = jI (z (6 * i + j)) ∧ rg (z (6 * i + j))) : fX8_isLine a (nI g) M = some (tdB z i) := by
  apply ok_eq
  unfold fX8_isLine
  rw [l_0, l_16, l_999, l_6, l_4, l_1]
  refine ok_up 4 (fun p x => x = nI p ∧ hj (tdq z i) p = false) ?_ ?_ zFu 0 _ (by omega) (by unfold zFu; omega) ⟨rfl, rfl⟩
  · rintro rec p x hp ⟨rfl, o1⟩ hrec
    obtain ⟨z1, z2⟩ := hz (p + 1) (by omega)
    (try dsimp only)
    rw [nn_leF (by omega), n_add, n_add, show g + 1 + p = g + (p + 1) by omega, e_gn (by omega), e_znn (by omega), z1, w0N z2 (by omega), e_lt, n_add]
    by_cases y : 0 ≤ z (6 * i + (p + 1)) ∧ z (6 * i + (p + 1)) ≤ ((16 : Nat) : Int)
    · rw [decide_eq_true y, if_neg (by decide)]
      refine hrec _ ⟨rfl, ?_⟩
      show (hj (tdq z i) p || tdq z i p) = false
      rw [o1, show tdq z i p = false by unfold tdq; rw [decide_eq_true (by omega)]; rfl]; rfl
    · rw [decide_eq_false y, if_pos rfl]
      refine ok_some ?_
      unfold tdB
      rw [hj_t hp (show tdq z i p = true by unfold tdq; rw [decide_eq_false (by omega)]; rfl)]
      rw [Bool.not_true, Bool.and_false]
  · rintro rec x ⟨rfl, o1⟩
    obtain ⟨z1, z2⟩ := hz 0 (by omega)
    obtain ⟨z3, z4⟩ := hz 5 (by omega)
    rw [show g + 0 = g by omega] at z1
    (try dsimp only)
    rw [nn_leT (by omega), e_gn (by omega), e_znn (by omega), z1, w0N z2 (by omega), e_lt, n_add, n_add, show g + 1 + 4 = g + 5 by omega, e_gn (by omega), e_znn (by omega), z3, w0N z4 (by omega), e_lt]
    unfold tdB tdm
    rw [o1]
    by_cases y : 0 ≤ z (6 * i + 0) ∧ z (6 * i + 0) ≤ ((999 : Nat) : Int)
    · rw [decide_eq_true y, if_neg (by decide), decide_eq_true (show 0 ≤ z (6 * i + 0) ∧ z (6 * i + 0) ≤ 999 from y)]
      by_cases y2 : 0 ≤ z (6 * i + 5) ∧ z (6 * i + 5) ≤ ((6 : Nat) : Int)
      · rw [decide_eq_true y2, if_neg (by decide), decide_eq_true (show 0 ≤ z (6 * i + 5) ∧ z (6 * i + 5) ≤ 6 from y2)]
        exact ok_some rfl
      · rw [decide_eq_false y2, if_pos rfl, decide_eq_false (show ¬ (0 ≤ z (6 * i + 5) ∧ z (6 * i + 5) ≤ 6) from y2)]
        exact ok_some rfl
    · rw [decide_eq_false y, if_pos rfl, decide_eq_false (show ¬ (0 ≤ z (6 * i + 0) ∧ z (6 * i + 0) ≤ 999) from y)]
      exact ok_some rfl
theorem r_tld {M : zM} {c i : Nat} {z : Nat → Int} (hc : c + 6 ≤ 256) (hz : ∀ j, j < 6 → M.1 99 (c + j) = jI (z (6 * i + j)) ∧ rg (z (6 * i + j))) : fX11_isAsTold (nI c) M = some (tdB z i) := by
  obtain ⟨z1, z2⟩ := hz 0 (by omega)
  obtain ⟨z3, z4⟩ := hz 5 (by omega)
  rw [show c + 0 = c by omega] at z1
  apply ok_eq
  unfold fX11_isAsTold
  rw [L_0, L_999, L_6, L_16, e_gn (by omega), e_znn (by omega), z1, i0N z2 (by omega), e_lt, e_jn, l_5, n_add, e_gn (by omega), e_znn (by omega), z3, i0N z4 (by omega), e_lt]
  refine ok_sq (P := fun b => b = tdm z i) ?_ ?_
  · unfold tdm
    by_cases y : 0 ≤ z (6 * i + 0) ∧ z (6 * i + 0) ≤ 999
    · rw [decide_eq_true y, if_neg (by decide)]
      by_cases y2 : 0 ≤ z (6 * i + 5) ∧ z (6 * i + 5) ≤ 6
      · rw [decide_eq_true y2, if_neg (by decide)]
        exact ok_some rfl
      · rw [decide_eq_false y2, if_pos rfl]
        exact ok_some rfl
    · rw [decide_eq_false y, if_pos rfl]
      exact ok_some rfl
  · rintro b rfl
    refine ok_up 4 (fun p x => x = (tdm z i && !hj (tdq z i) p, nI (p + 1))) ?_ ?_ zFu 0 _ (by omega) (by unfold zFu; omega) ?_
    · rintro rec p x hp rfl hrec
      obtain ⟨z5, z6⟩ := hz (p + 1) (by omega)
      (try dsimp only)
      rw [l_4, nn_ltF (by omega), e_jn, n_add, e_gn (by omega), e_znn (by omega), z5, i0N z6 (by omega), e_lt]
      refine ok_sq (P := fun b => b = (tdm z i && !hj (tdq z i) (p + 1))) ?_ ?_
      · have es : hj (tdq z i) (p + 1) = (hj (tdq z i) p || tdq z i p) := rfl
        rw [es]
        cases h1 : (tdm z i && !hj (tdq z i) p)
        · rw [if_pos rfl]
          refine ok_some ?_
          rw [Bool.not_or, ← Bool.and_assoc, h1, Bool.false_and]
        · rw [if_neg (by decide), Bool.not_or, ← Bool.and_assoc, h1, Bool.true_and]
          unfold tdq
          by_cases y : 0 ≤ z (6 * i + (p + 1)) ∧ z (6 * i + (p + 1)) ≤ 16
          · rw [decide_eq_true y, if_neg (by decide)]
            exact ok_some rfl
          · rw [decide_eq_false y, if_pos rfl]
            exact ok_some rfl
      · rintro b rfl
        rw [l_1, n_add]
        exact hrec _ rfl
    · rintro rec x rfl
      (try dsimp only)
      rw [l_4, nn_ltT (by omega)]
      exact ok_some rfl
    · rw [show hj (tdq z i) 0 = false from rfl, Bool.not_false, Bool.and_true]
      rfl
def bdl (z : Nat → Int) (s0 i : Nat) : Bool := !tdB z i || decide (10 ≤ s0 + i)
def rdv (z : Nat → Int) (F W : Nat) : Int32 := if F = W then nI 0 else if tdB z F = true then jI (-3) else jI (-20 - F)
theorem c_ref {M : zM} {a a4 W s0 : Nat} {f : Int} {z : Nat → Int} (hs0 : s0 ≤ 10) (hW : W ≤ 10) (hf : 0 < W → 0 ≤ f ∧ f.toNat + 6 * W ≤ 64) (hz : ∀ j, j < 6 * W → M.1 (a + 1) (f.toNat + j) = jI (z j) ∧ rg (z j)) (h4 : M.1 a4 0 = nI s0) : fX10_refusalOfLines a (jI f) (nI W) a4 M = some (rdv z (fs (bdl z s0) W 0) W) := by
  apply ok_eq
  unfold fX10_refusalOfLines
  rw [h4]
  refine ok_up W (fun i x => x = nI i ∧ fs (bdl z s0) W 0 = fs (bdl z s0) W i) ?_ ?_ zFu 0 _ (by omega) (by unfold zFu; omega) ⟨rfl, rfl⟩
  · rintro rec i x hi ⟨rfl, o1⟩ hrec
    have es := fs_s (p := bdl z s0) (A := W) (i := i) hi
    obtain ⟨f0, f1⟩ := hf (by omega)
    have hg : jI f + ((6 : Int32) * nI i) = nI (f.toNat + 6 * i) := by rw [l_6, n_mul, jn_N f0]
    have hl := c_isl (M := M) (a := a) (g := f.toNat + 6 * i) (i := i) (z := z) (by omega) (fun j hj => by
      have := hz (6 * i + j) (by omega)
      rw [← Nat.add_assoc] at this
      exact this)
    (try dsimp only)
    rw [nn_leF (by omega), hg, hl, e_sq]
    cases h1 : tdB z i
    · have hb : bdl z s0 i = true := by unfold bdl; rw [h1]; rfl
      rw [if_pos rfl, m_20, jn_sub]
      refine ok_some ?_
      rw [o1, es, if_pos hb]
      unfold rdv
      rw [if_neg (by omega), if_neg (by rw [h1]; decide)]
    · rw [if_neg (by decide), n_add, l_10]
      by_cases y : s0 + i < 10
      · have hb : bdl z s0 i = false := by unfold bdl; rw [h1, decide_eq_false (by omega)]; rfl
        rw [nn_ltT (by omega), l_1, n_add]
        exact hrec _ ⟨rfl, by rw [o1, es, if_neg (by rw [hb]; decide)]⟩
      · have hb : bdl z s0 i = true := by unfold bdl; rw [h1, decide_eq_true (by omega)]; rfl
        rw [nn_ltF (by omega), m_3]
        refine ok_some ?_
        rw [o1, es, if_pos hb]
        unfold rdv
        rw [if_neg (by omega), if_pos h1]
  · rintro rec x ⟨rfl, o1⟩
    (try dsimp only)
    rw [nn_leT (by omega)]
    refine ok_some ?_
    rw [o1, fs_A]
    exact (if_pos rfl).symm
theorem c_apl {M : zM} {k e g t : Nat} (hk : k < 4) (he : e < 2) (hg : g + 6 ≤ 64) (ht : t < 10) (h0 : M.1 (2 + 4 * e) 0 = nI t) : fX8_appendLine (42 + 2 * k) (nI g) (2 + 4 * e) M = some (zwA (zwI (zwI (zwI M (2 + 4 * e + 1) t (M.1 (42 + 2 * k + 1) g)) (2 + 4 * e + 2) t (M.1 (42 + 2 * k + 1) (g + 5))) (2 + 4 * e) 0 (nI (t + 1))) (2 + 4 * e + 3) (va_cpy (M.1 (42 + 2 * k + 1)) (M.1 (2 + 4 * e + 3)) (g + 1) (t * 4) 4)) := by
  have happ : ∀ x y, fX2_append (2 + 4 * e) x y M = some (nI t, zwI (zwI (zwI M (2 + 4 * e + 1) t x) (2 + 4 * e + 2) t y) (2 + 4 * e) 0 (nI (t + 1))) := fun x y => by
    unfold fX2_append
    simp (disch := omega) only [e_lt, e_ltn, e_jn, e_sq, e_bi, l_0, l_1, l_2, l_3, l_4, l_5, l_6, l_7, l_8, l_9, l_10, l_11, l_12, l_13, l_14, l_15, l_16, l_17, l_18, l_19, l_20, l_21, l_22, l_23, l_24, l_25, l_26, l_27, l_28, l_29, l_30, l_31, l_32, l_33, l_34, l_35, l_36, l_37, l_38, l_39, l_40, l_41, l_48, l_50, l_56, l_57, l_59, l_60, l_63, l_64, l_70, l_97, l_99, l_122, l_128, l_190, l_220, l_255, l_320, l_500, l_999, l_1024, l_83520, l_100000, l_1000000, L_0, L_1, L_2, L_3, L_4, L_6, L_7, L_9, L_10, L_11, L_13, L_16, L_32, L_48, L_50, L_57, L_97, L_99, L_122, L_999, L_83520, L_4294967295, L_25937424601, L_1152921504606846976, ↓m_1000020, ↓m_1000012, ↓m_1000010, ↓m_1000000, ↓m_10004, ↓m_10000, ↓m_1000, ↓m_999, ↓m_99, ↓m_30, ↓m_20, ↓m_14, ↓m_12, ↓m_11, ↓m_10, ↓m_8, ↓m_4, ↓m_3, ↓m_2, ↓m_1, ↓mL_999, ↓mL_99, ↓mL_1, n_add, n_mul, nj_add, jn_add, n_sub, n_subj, nj_sub, jn_sub, nj_mul, jn_mul, if_true, if_false, jI_add, jI_sub, jI_mul, jI_neg, jL_add, jL_sub, jL_mul, jL_neg, n_l, j_l, jL_i, e_gn, e_gj, e_znn, e_znj, nn_ltT, nn_ltF, nn_leT, nn_leF, nn_eqT, nn_eqF, nj_ltT, nj_ltF, nj_leT, nj_leF, nj_eqT, nj_eqF, jn_ltT, jn_ltF, jn_leT, jn_leF, jn_eqT, jn_eqF, jj_ltT, jj_ltF, jj_leT, jj_leF, jj_eqT, jj_eqF, LL_ltT, LL_ltF, LL_leT, LL_leF, LL_eqT, LL_eqF, e_w1, e_w1s, e_w2, e_x1, e_x2, e_x2s, e_a1, e_a1s, e_a2, e_uT, e_uF, e_vT, e_vF, e_ft, e_tf, e_zbt, e_zbf, n_or, n_31, n_shl, n_bit, n_not, n_bc, h0]
  unfold fX8_appendLine
  rw [l_1, l_4, n_add, n_add, show g + 1 + 4 = g + 5 by omega, e_gn (by omega), e_gn (by omega), e_znn (by omega), e_znn (by omega), happ, e_bi, n_mul, e_gc (by omega), e_znn (by omega), e_znn (by omega), e_znn (by omega), e_lt]
  simp (disch := omega) only [e_lt, e_ltn, e_jn, e_sq, e_bi, l_0, l_1, l_2, l_3, l_4, l_5, l_6, l_7, l_8, l_9, l_10, l_11, l_12, l_13, l_14, l_15, l_16, l_17, l_18, l_19, l_20, l_21, l_22, l_23, l_24, l_25, l_26, l_27, l_28, l_29, l_30, l_31, l_32, l_33, l_34, l_35, l_36, l_37, l_38, l_39, l_40, l_41, l_48, l_50, l_56, l_57, l_59, l_60, l_63, l_64, l_70, l_97, l_99, l_122, l_128, l_190, l_220, l_255, l_320, l_500, l_999, l_1024, l_83520, l_100000, l_1000000, L_0, L_1, L_2, L_3, L_4, L_6, L_7, L_9, L_10, L_11, L_13, L_16, L_32, L_48, L_50, L_57, L_97, L_99, L_122, L_999, L_83520, L_4294967295, L_25937424601, L_1152921504606846976, ↓m_1000020, ↓m_1000012, ↓m_1000010, ↓m_1000000, ↓m_10004, ↓m_10000, ↓m_1000, ↓m_999, ↓m_99, ↓m_30, ↓m_20, ↓m_14, ↓m_12, ↓m_11, ↓m_10, ↓m_8, ↓m_4, ↓m_3, ↓m_2, ↓m_1, ↓mL_999, ↓mL_99, ↓mL_1, n_add, n_mul, nj_add, jn_add, n_sub, n_subj, nj_sub, jn_sub, nj_mul, jn_mul, if_true, if_false, jI_add, jI_sub, jI_mul, jI_neg, jL_add, jL_sub, jL_mul, jL_neg, n_l, j_l, jL_i, e_gn, e_gj, e_znn, e_znj, nn_ltT, nn_ltF, nn_leT, nn_leF, nn_eqT, nn_eqF, nj_ltT, nj_ltF, nj_leT, nj_leF, nj_eqT, nj_eqF, jn_ltT, jn_ltF, jn_leT, jn_leF, jn_eqT, jn_eqF, jj_ltT, jj_ltF, jj_leT, jj_leF, jj_eqT, jj_eqF, LL_ltT, LL_ltF, LL_leT, LL_leF, LL_eqT, LL_eqF, e_w1, e_w1s, e_w2, e_x1, e_x2, e_x2s, e_a1, e_a1s, e_a2, e_uT, e_uF, e_vT, e_vF, e_ft, e_tf, e_zbt, e_zbf, n_or, n_31, n_shl, n_bit, n_not, n_bc]
theorem c_cpl {M : zM} {k e W s0 : Nat} {f : Int} (hk : k < 4) (he : e < 2) (hs0 : s0 + W ≤ 10) (hf : 0 < W → 0 ≤ f ∧ f.toNat + 6 * W ≤ 64) (h0 : M.1 (2 + 4 * e) 0 = nI s0) : ok (zlp (α := Int32 × zM) (β := zM) (fun rec22 => (fun (u28 : Int32 × zM) => match u28 with | (x20, M21) => if nI W ≤ x20 then (some M21) else (sq (fX8_appendLine (42 + 2 * k) (jI f + ((6 : Int32) * x20)) (2 + 4 * e) M21) (fun (M26 : zM) => rec22 ((x20 + (1 : Int32)), M26))))) zFu ((0 : Int32), M)) (fun M' => (∀ c, c ≠ 2 + 4 * e → c ≠ 2 + 4 * e + 1 → c ≠ 2 + 4 * e + 2 → c ≠ 2 + 4 * e + 3 → M'.1 c = M.1 c) ∧ M'.1 (2 + 4 * e) 0 = nI (s0 + W) ∧ (∀ x, x < s0 → M'.1 (2 + 4 * e + 1) x = M.1 (2 + 4 * e + 1) x ∧ M'.1 (2 + 4 * e + 2) x = M.1 (2 + 4 * e + 2) x ∧ ∀ p, p < 4 → M'.1 (2 + 4 * e + 3) (x * 4 + p) = M.1 (2 + 4 * e + 3) (x * 4 + p)) ∧ ∀ i, i < W → M'.1 (2 + 4 * e + 1) (s0 + i) = M.1 (42 + 2 * k + 1) (f.toNat + (6 * i + 0)) ∧ M'.1 (2 + 4 * e + 2) (s0 + i) = M.1 (42 + 2 * k + 1) (f.toNat + (6 * i + 5)) ∧ ∀ p, p < 4 → M'.1 (2 + 4 * e + 3) ((s0 + i) * 4 + p) = M.1 (42 + 2 * k + 1) (f.toNat + (6 * i + (p + 1)))) := by
  refine ok_up W (fun w x => ∃ M', x = (nI w, M') ∧ (∀ c, c ≠ 2 + 4 * e → c ≠ 2 + 4 * e + 1 → c ≠ 2 + 4 * e + 2 → c ≠ 2 + 4 * e + 3 → M'.1 c = M.1 c) ∧ M'.1 (2 + 4 * e) 0 = nI (s0 + w) ∧ (∀ x, x < s0 → M'.1 (2 + 4 * e + 1) x = M.1 (2 + 4 * e + 1) x ∧ M'.1 (2 + 4 * e + 2) x = M.1 (2 + 4 * e + 2) x ∧ ∀ p, p < 4 → M'.1 (2 + 4 * e + 3) (x * 4 + p) = M.1 (2 + 4 * e + 3) (x * 4 + p)) ∧ ∀ i, i < w → M'.1 (2 + 4 * e + 1) (s0 + i) = M.1 (42 + 2 * k + 1) (f.toNat + (6 * i + 0)) ∧ M'.1 (2 + 4 * e + 2) (s0 + i) = M.1 (42 + 2 * k + 1) (f.toNat + (6 * i + 5)) ∧ ∀ p, p < 4 → M'.1 (2 + 4 * e + 3) ((s0 + i) * 4 + p) = M.1 (42 + 2 * k + 1) (f.toNat + (6 * i + (p + 1)))) ?_ ?_ zFu 0 _ (by omega) (by unfold zFu; omega) ⟨M, rfl, fun _ _ _ _ _ => rfl, h0, fun _ _ => ⟨rfl, rfl, fun _ _ => rfl⟩, fun i hi => absurd hi (by omega)⟩
  · rintro rec w x hw ⟨M', rfl, o1, o2, o3, o4⟩ hrec
    obtain ⟨f0, f1⟩ := hf (by omega)
    have hg : jI f + ((6 : Int32) * nI w) = nI (f.toNat + 6 * w) := by rw [l_6, n_mul, jn_N f0]
    have hcl : M'.1 (42 + 2 * k + 1) = M.1 (42 + 2 * k + 1) := o1 _ (by omega) (by omega) (by omega) (by omega)
    (try dsimp only)
    rw [nn_leF (by omega), hg, c_apl hk he (by omega) (by omega) o2, e_sq, l_1, n_add]
    refine hrec _ ⟨_, rfl, fun c w1 w2 w3 w4 => ?_, ?_, fun x hx => ⟨?_, ?_, fun p hp => ?_⟩, fun i hi => ⟨?_, ?_, fun p hp => ?_⟩⟩
    · rw [e_a1 _ _ w4, e_w1 _ _ _ w1, e_w1 _ _ _ w3, e_w1 _ _ _ w2]
      exact o1 c w1 w2 w3 w4
    · rw [e_a1 _ _ (by omega), e_w1s, e_uT rfl]
      exact congrArg nI (by omega)
    · rw [e_a1 _ _ (by omega), e_w1 _ _ _ (by omega), e_w1 _ _ _ (by omega), e_w1s, e_uF (by omega)]
      exact (o3 x hx).1
    · rw [e_a1 _ _ (by omega), e_w1 _ _ _ (by omega), e_w1s, e_uF (by omega), e_w1 _ _ _ (by omega)]
      exact (o3 x hx).2.1
    · rw [e_a1s]
      unfold va_cpy
      rw [if_neg (by omega)]
      exact (o3 x hx).2.2 p hp
    · rw [e_a1 _ _ (by omega), e_w1 _ _ _ (by omega), e_w1 _ _ _ (by omega), e_w1s]
      by_cases z : i = w
      · rw [e_uT (by omega), hcl, z]
        rfl
      · rw [e_uF (by omega)]
        exact (o4 i (by omega)).1
    · rw [e_a1 _ _ (by omega), e_w1 _ _ _ (by omega), e_w1s]
      by_cases z : i = w
      · rw [e_uT (by omega), hcl, z]
        rfl
      · rw [e_uF (by omega), e_w1 _ _ _ (by omega)]
        exact (o4 i (by omega)).2.1
    · rw [e_a1s]
      unfold va_cpy
      by_cases z : i = w
      · rw [if_pos (by omega), hcl]
        exact congrArg _ (by omega)
      · rw [if_neg (by omega)]
        exact (o4 i (by omega)).2.2 p hp
  · rintro rec x ⟨M', rfl, o1, o2, o3, o4⟩
    (try dsimp only)
    rw [nn_leT (by omega)]
    exact ok_some ⟨o1, o2, o3, o4⟩
