/-! ===== numbers without a common part ===== -/
theorem L_dv {a b : Nat} (hb : 0 < b) (ha : a < 1000000000000) (hb2 : b < 1000000000000) : jL (a : Int) / jL (b : Int) = jL ((a / b : Nat) : Int) := by
  rw [← Int64.toInt_inj, Int64.toInt_div, jL_toInt (by omega), jL_toInt (by omega)]
  have h1 : ((a : Int).tdiv (b : Int)) = ((a / b : Nat) : Int) := by
    rw [Int.tdiv_eq_ediv_of_nonneg (by omega)]
    rfl
  have h2 : a / b ≤ a := Nat.div_le_self _ _
  rw [h1]
  generalize a / b = d at h2
  rw [jL_toInt (by omega)]
  apply Int.bmod_eq_of_le <;> omega
theorem L_rm {a b : Nat} (hb : 0 < b) (ha : a < 1000000000000) (hb2 : b < 1000000000000) : zrm_l (jL (a : Int)) (jL (b : Int)) = jL ((a % b : Nat) : Int) := by
  unfold zrm_l
  rw [L_dv hb ha hb2, jL_mul, jL_sub]
  have h1 := Nat.div_add_mod a b
  have h2 : b * (a / b) = a / b * b := Nat.mul_comm _ _
  have h3 : ((a / b : Nat) : Int) * (b : Int) = ((a / b * b : Nat) : Int) := (Int.natCast_mul _ _).symm
  rw [h3]
  congr 1
  omega
/-- two steps halve -/
theorem e_halve {a b k : Nat} (hb : b ≤ a) (h : a + b < 2 ^ (k + 1)) (hz : b ≠ 0) (hr : a % b ≠ 0) : b % (a % b) ≤ a % b ∧ a % b + b % (a % b) < 2 ^ k := by
  have h1 : a % b < b := Nat.mod_lt _ (by omega)
  have h2 : b % (a % b) < a % b := Nat.mod_lt _ (by omega)
  have h3 := Nat.div_add_mod b (a % b)
  have h4 : 1 ≤ b / (a % b) := (Nat.one_le_div_iff (by omega)).mpr (by omega)
  have h5 : (a % b) * 1 ≤ (a % b) * (b / (a % b)) := Nat.mul_le_mul_left _ h4
  rw [Nat.pow_succ] at h
  omega
theorem c_gcd {B : (Int64 × Int64 × Int32 → Option Int64) → Int64 × Int64 × Int32 → Option Int64} (hB : ∀ rec (a b t : Nat), a < 1000000000000 → b < 1000000000000 → t < 128 → B rec (jL a, jL b, nI t) = if b = 0 then some (jL a) else rec (jL b, jL ((a % b : Nat) : Int), nI (t + 1))) : ∀ (k a b t n : Nat), b ≤ a → a + b < 2 ^ k → a < 1000000000000 → t + 2 * k < 127 → 2 * k < n → zlp B n (jL a, jL b, nI t) = some (jL (Nat.gcd a b))
  | k, a, b, t, 0, _, _, _, _, hn => by omega
  | 0, a, b, t, n + 1, h1, h2, h3, h4, hn => by
    have : a = 0 := by omega
    have : b = 0 := by omega
    subst a b
    show B (zlp B n) (jL (0 : Nat), jL (0 : Nat), nI t) = _
    rw [hB _ 0 0 t (by omega) (by omega) (by omega), if_pos rfl]
    rfl
  | k + 1, a, b, t, n + 1, h1, h2, h3, h4, hn => by
    show B (zlp B n) (jL a, jL b, nI t) = _
    rw [hB _ a b t h3 (by omega) (by omega)]
    by_cases z : b = 0
    · subst z
      rw [if_pos rfl, Nat.gcd_zero_right]
    · rw [if_neg z]
      obtain ⟨n, rfl⟩ : ∃ n', n = n' + 1 := ⟨n - 1, by omega⟩
      have hm : a % b < b := Nat.mod_lt _ (by omega)
      show B (zlp B n) (jL b, jL ((a % b : Nat) : Int), nI (t + 1)) = _
      rw [hB _ b (a % b) (t + 1) (by omega) (by omega) (by omega)]
      have hg : Nat.gcd a b = Nat.gcd b (a % b) := by rw [Nat.gcd_comm, Nat.gcd_rec, Nat.gcd_comm]
      by_cases z2 : a % b = 0
      · rw [if_pos z2, hg, z2, Nat.gcd_zero_right]
      · rw [if_neg z2]
        have hh := e_halve h1 h2 z z2
        have ih := c_gcd hB k (a % b) (b % (a % b)) (t + 1 + 1) n hh.1 hh.2 (by omega) (by omega) (by omega)
        rw [ih, hg]
        congr 3
        rw [Nat.gcd_comm b, Nat.gcd_rec (a % b) b, Nat.gcd_comm]
theorem r_gcd {B : (Int64 × Int64 → Option Int64) → Int64 × Int64 → Option Int64} (hB : ∀ rec (a b : Nat), a < 1000000000000 → b < 1000000000000 → B rec (jL a, jL b) = if b = 0 then some (jL a) else rec (jL b, jL ((a % b : Nat) : Int))) : ∀ (k a b n : Nat), b ≤ a → a + b < 2 ^ k → a < 1000000000000 → 2 * k < n → zlp B n (jL a, jL b) = some (jL (Nat.gcd a b))
  | k, a, b, 0, _, _, _, hn => by omega
  | 0, a, b, n + 1, h1, h2, h3, hn => by
    have : a = 0 := by omega
    have : b = 0 := by omega
    subst a b
    show B (zlp B n) (jL (0 : Nat), jL (0 : Nat)) = _
    rw [hB _ 0 0 (by omega) (by omega), if_pos rfl]
    rfl
  | k + 1, a, b, n + 1, h1, h2, h3, hn => by
    show B (zlp B n) (jL a, jL b) = _
    rw [hB _ a b h3 (by omega)]
    by_cases z : b = 0
    · subst z
      rw [if_pos rfl, Nat.gcd_zero_right]
    · rw [if_neg z]
      obtain ⟨n, rfl⟩ : ∃ n', n = n' + 1 := ⟨n - 1, by omega⟩
      have hm : a % b < b := Nat.mod_lt _ (by omega)
      show B (zlp B n) (jL b, jL ((a % b : Nat) : Int)) = _
      rw [hB _ b (a % b) (by omega) (by omega)]
      have hg : Nat.gcd a b = Nat.gcd b (a % b) := by rw [Nat.gcd_comm, Nat.gcd_rec, Nat.gcd_comm]
      by_cases z2 : a % b = 0
      · rw [if_pos z2, hg, z2, Nat.gcd_zero_right]
      · rw [if_neg z2]
        have hh := e_halve h1 h2 z z2
        have ih := r_gcd hB k (a % b) (b % (a % b)) n hh.1 hh.2 (by omega) (by omega)
        rw [ih, hg]
        congr 3
        rw [Nat.gcd_comm b, Nat.gcd_rec (a % b) b, Nat.gcd_comm]
theorem L_nz {b : Nat} (hb : b < 1000000000000) : (jL (b : Int) = (0 : Int64)) ↔ b = 0 := by
  rw [L_0, jL_eq (by omega) (by omega)]
  omega
def gcC (rec12 : Int64 × Int64 × Int32 → Option Int64) (u19 : Int64 × Int64 × Int32) : Option Int64 := match u19 with | (x9, x10, x11) => if (128 : Int32) ≤ x11 then (some x9) else (if x10 = (0 : Int64) then (some x9) else (grd (¬ x10 = 0) (lt ((zrm_l x9 x10)) (fun (x16 : Int64) => rec12 (x10, x16, (x11 + (1 : Int32)))))))
def gcR (rec3 : Int64 × Int64 → Option Int64) (u10 : Int64 × Int64) : Option Int64 := match u10 with | (x1, x2) => if x2 = (0 : Int64) then (some x1) else (grd (¬ x2 = 0) (lt ((zrm_l x1 x2)) (fun (x7 : Int64) => rec3 (x2, x7))))
/-- a fraction's part, in lowest terms -/
theorem c_frac {a b : Nat} (ha : a < 100000000000) (hb : 0 < b) (hb2 : b < 100000000000) (w : Nat) (hw : w < 2) : fX10_partOfFraction (jL a) (jL b) (nI w) = some (jL (((if w = 0 then a else b) / Nat.gcd a b : Nat) : Int)) := by
  unfold fX10_partOfFraction
  have hB : ∀ (rec : Int64 × Int64 × Int32 → Option Int64) (a b t : Nat), a < 1000000000000 → b < 1000000000000 → t < 128 → gcC rec (jL a, jL b, nI t) = if b = 0 then some (jL a) else rec (jL b, jL ((a % b : Nat) : Int), nI (t + 1)) := by
    intro rec a b t ha hb ht
    unfold gcC
    dsimp only
    rw [l_128, nn_leF (by omega)]
    by_cases z : b = 0
    · rw [if_pos ((L_nz hb).mpr z), if_pos z]
    · have hn : ¬ jL (b : Int) = 0 := fun w => z ((L_nz hb).mp w)
      rw [if_neg hn, if_neg z]
      unfold grd
      rw [if_pos hn, e_lt, L_rm (by omega) ha hb, l_1, n_add]
  have hg0 : 0 < Nat.gcd a b := Nat.gcd_pos_of_pos_right _ hb
  have hgl : Nat.gcd a b ≤ b := Nat.le_of_dvd hb (Nat.gcd_dvd_right a b)
  have hloop : zlp (α := Int64 × Int64 × Int32) (β := Int64) gcC zFu (jL b, jL a, (0 : Int32)) = some (jL (Nat.gcd a b)) := by
    by_cases hab : a ≤ b
    · have := c_gcd hB 38 b a 0 zFu hab (by omega) (by omega) (by omega) (by unfold zFu; omega)
      rw [Nat.gcd_comm] at this
      exact this
    · have e1 : zFu = 4095 + 1 := rfl
      rw [e1]
      have e2 := hB (zlp gcC 4095) b a 0 (by omega) (by omega) (by omega)
      rw [if_neg (by omega), Nat.mod_eq_of_lt (by omega)] at e2
      have := c_gcd hB 38 a b 1 4095 (by omega) (by omega) (by omega) (by omega) (by omega)
      exact e2.trans this
  show sq (zlp gcC zFu (jL b, jL a, (0 : Int32))) _ = _
  rw [hloop, e_sq, e_lt]
  have hn : ¬ jL ((Nat.gcd a b : Nat) : Int) = 0 := fun w => by
    have := (L_nz (b := Nat.gcd a b) (by omega)).mp w
    omega
  rw [if_neg hn]
  unfold grd
  rw [if_pos hn]
  rcases (show w = 0 ∨ w = 1 by omega) with rfl | rfl
  · rw [if_pos (show nI 0 = (0 : Int32) from rfl), if_pos rfl, L_dv hg0 (by omega) (by omega)]
  · rw [if_neg (show ¬ nI 1 = (0 : Int32) by decide), if_neg (by omega), L_dv hg0 (by omega) (by omega)]
theorem r_frac {a b : Nat} (ha : a < 100000000000) (hb : 0 < b) (hb2 : b < 100000000000) (w : Nat) (hw : w < 2) : fX11_lowest (jL a) (jL b) (nI w) = some (jL (((if w = 0 then a else b) / Nat.gcd a b : Nat) : Int)) := by
  unfold fX11_lowest
  have hB : ∀ (rec : Int64 × Int64 → Option Int64) (a b : Nat), a < 1000000000000 → b < 1000000000000 → gcR rec (jL a, jL b) = if b = 0 then some (jL a) else rec (jL b, jL ((a % b : Nat) : Int)) := by
    intro rec a b ha hb
    unfold gcR
    dsimp only
    by_cases z : b = 0
    · rw [if_pos ((L_nz hb).mpr z), if_pos z]
    · have hn : ¬ jL (b : Int) = 0 := fun w => z ((L_nz hb).mp w)
      rw [if_neg hn, if_neg z]
      unfold grd
      rw [if_pos hn, e_lt, L_rm (by omega) ha hb]
  have hg0 : 0 < Nat.gcd a b := Nat.gcd_pos_of_pos_right _ hb
  have hgl : Nat.gcd a b ≤ b := Nat.le_of_dvd hb (Nat.gcd_dvd_right a b)
  have hloop : zlp (α := Int64 × Int64) (β := Int64) gcR zFu (jL a, jL b) = some (jL (Nat.gcd a b)) := by
    by_cases hab : b ≤ a
    · exact r_gcd hB 38 a b zFu hab (by omega) (by omega) (by unfold zFu; omega)
    · have e1 : zFu = 4095 + 1 := rfl
      rw [e1]
      have e2 := hB (zlp gcR 4095) a b (by omega) (by omega)
      rw [if_neg (by omega), Nat.mod_eq_of_lt (by omega)] at e2
      have := r_gcd hB 38 b a 4095 (by omega) (by omega) (by omega) (by omega)
      rw [Nat.gcd_comm] at this
      exact e2.trans this
  show sq (zlp gcR zFu (jL a, jL b)) _ = _
  rw [hloop, e_sq, e_lt]
  have hn : ¬ jL ((Nat.gcd a b : Nat) : Int) = 0 := fun w => by
    have := (L_nz (b := Nat.gcd a b) (by omega)).mp w
    omega
  unfold grd
  rw [if_pos hn]
  rcases (show w = 0 ∨ w = 1 by omega) with rfl | rfl
  · rw [if_pos (show nI 0 = (0 : Int32) from rfl), if_pos rfl, L_dv hg0 (by omega) (by omega)]
  · rw [if_neg (show ¬ nI 1 = (0 : Int32) by decide), if_neg (by omega), L_dv hg0 (by omega) (by omega)]
theorem len_bB4 {m : Nat} (hm : m ≤ 10) {al : Nat → Nat → Bool} {k : Nat} (hk : k ≤ 10) (i S : Nat) : (bB m al k i S).length < 100000000000 := by
  have h1 := len_bB2 hm (al := al) k i S
  have h2 : 11 ^ k ≤ 11 ^ 10 := Nat.pow_le_pow_right (by omega) hk
  omega
theorem q_share {M : zM} (h : RR M) (p q r : Int32) : AG2 (fX10_share p q r) (fX11_share p q r) M := by
  obtain ⟨ρ, S, h1, h2, hV⟩ := h.1
  have h1 : cR M 1 ρ S := h1
  have hpv := V_pV hV 15
  have hn := hpv.1
  have hm := hpv.2.1
  rcases hp h1 hV p q with ⟨a, b, ha, hb, rfl, rfl, e1, e2⟩ | ⟨e1, e2⟩
  · rcases ar r 1 1 (by omega) rfl with ⟨w, hw, rfl, g1, g2⟩ | ⟨g1, g2, _⟩
    · obtain ⟨Ml, l1, l2, l3⟩ := c_look h1 hV (pl := 15) (by omega)
      have l1 : fX10_lookAtPairs (15 : Int32) M = some Ml := l1
      have hcb := hpv.2.2.2.2 a b ha hb
      have hl1 := len_bB4 hm (al := alP (co ρ S 15)) hn 0 0
      have hl2 := len_bB4 hm (al := alX (alP (co ρ S 15)) a b) hn 0 0
      have hpos : 0 < (bB (S 65) (alP (co ρ S 15)) (S 64) 0 0).length := List.length_pos_iff.mpr (List.ne_nil_of_mem ((mem_b0 hm).mpr (aQ_none (fun i _ => alP_10 _ i))))
      obtain ⟨u, hu⟩ : ∃ u : Nat, u = (if co ρ S 15 a b = -4 then 0 else (bB (S 65) (alX (alP (co ρ S 15)) a b) (S 64) 0 0).length) := ⟨_, rfl⟩
      have hub : u < 100000000000 := by rw [hu]; split <;> omega
      refine ag2 (v := jL (((if w = 0 then u else (bB (S 65) (alP (co ρ S 15)) (S 64) 0 0).length) / Nat.gcd u (bB (S 65) (alP (co ρ S 15)) (S 64) 0 0).length : Nat) : Int)) h h2 ?_ (frX10_share _ _ _ M) (by unfold scr; decide) (fun Mx k1 _ => ?_) (fun Mx => frX11_share _ _ _ Mx) (by unfold scr; decide)
      · unfold fX10_share
        rw [e1, l_0, l_1, g1, l1]
        simp (disch := omega) only [e_lt, e_ltn, e_jn, e_sq, e_bi, l_0, l_1, l_2, l_3, l_4, l_5, l_6, l_7, l_8, l_9, l_10, l_11, l_12, l_13, l_14, l_15, l_16, l_17, l_18, l_19, l_20, l_21, l_22, l_23, l_24, l_25, l_26, l_27, l_28, l_29, l_30, l_31, l_32, l_33, l_34, l_35, l_36, l_37, l_38, l_39, l_40, l_41, l_48, l_50, l_56, l_57, l_59, l_60, l_63, l_64, l_70, l_97, l_99, l_122, l_128, l_190, l_220, l_255, l_320, l_500, l_999, l_1024, l_83520, l_100000, l_1000000, L_0, L_1, L_2, L_3, L_4, L_6, L_7, L_9, L_10, L_11, L_13, L_16, L_32, L_48, L_50, L_57, L_97, L_99, L_122, L_999, L_83520, L_4294967295, L_25937424601, L_1152921504606846976, ↓m_1000020, ↓m_1000012, ↓m_1000010, ↓m_1000000, ↓m_10004, ↓m_10000, ↓m_1000, ↓m_999, ↓m_99, ↓m_30, ↓m_20, ↓m_14, ↓m_12, ↓m_11, ↓m_10, ↓m_8, ↓m_4, ↓m_3, ↓m_2, ↓m_1, ↓mL_999, ↓mL_99, ↓mL_1, n_add, n_mul, nj_add, jn_add, n_sub, n_subj, nj_sub, jn_sub, nj_mul, jn_mul, if_true, if_false, jI_add, jI_sub, jI_mul, jI_neg, jL_add, jL_sub, jL_mul, jL_neg, n_l, j_l, jL_i, e_gn, e_gj, e_znn, e_znj, nn_ltT, nn_ltF, nn_leT, nn_leF, nn_eqT, nn_eqF, nj_ltT, nj_ltF, nj_leT, nj_leF, nj_eqT, nj_eqF, jn_ltT, jn_ltF, jn_leT, jn_leF, jn_eqT, jn_eqF, jj_ltT, jj_ltF, jj_leT, jj_leF, jj_eqT, jj_eqF, LL_ltT, LL_ltF, LL_leT, LL_leF, LL_eqT, LL_eqF, e_w1, e_w1s, e_w2, e_x1, e_x2, e_x2s, e_a1, e_a1s, e_a2, e_uT, e_uF, e_vT, e_vF, e_ft, e_tf, e_zbt, e_zbf, n_or, n_31, n_shl, n_bit, n_not, n_bc]
        rw [c_may l2 hpv ha hb, e_sq]
        refine ok_sq (P := fun x => ∃ M', x = (jL u, M') ∧ pR M' (S 64) (S 65) (co ρ S 15) (ρ 7 * S 64 + ρ 8 * S 65) (ρ 7 + ρ 8)) ?_ ?_
        · by_cases e : co ρ S 15 a b = -4
          · rw [if_pos e] at hu
            simp only [e, ne_eq, not_true_eq_false, decide_false, if_true]
            refine ok_some ⟨Ml, ?_, l2⟩
            rw [hu]
            rfl
          · rw [if_neg e] at hu
            simp only [e, ne_eq, not_false_eq_true, decide_true]
            simp (disch := omega) only [e_lt, e_ltn, e_jn, e_sq, e_bi, l_0, l_1, l_2, l_3, l_4, l_5, l_6, l_7, l_8, l_9, l_10, l_11, l_12, l_13, l_14, l_15, l_16, l_17, l_18, l_19, l_20, l_21, l_22, l_23, l_24, l_25, l_26, l_27, l_28, l_29, l_30, l_31, l_32, l_33, l_34, l_35, l_36, l_37, l_38, l_39, l_40, l_41, l_48, l_50, l_56, l_57, l_59, l_60, l_63, l_64, l_70, l_97, l_99, l_122, l_128, l_190, l_220, l_255, l_320, l_500, l_999, l_1024, l_83520, l_100000, l_1000000, L_0, L_1, L_2, L_3, L_4, L_6, L_7, L_9, L_10, L_11, L_13, L_16, L_32, L_48, L_50, L_57, L_97, L_99, L_122, L_999, L_83520, L_4294967295, L_25937424601, L_1152921504606846976, ↓m_1000020, ↓m_1000012, ↓m_1000010, ↓m_1000000, ↓m_10004, ↓m_10000, ↓m_1000, ↓m_999, ↓m_99, ↓m_30, ↓m_20, ↓m_14, ↓m_12, ↓m_11, ↓m_10, ↓m_8, ↓m_4, ↓m_3, ↓m_2, ↓m_1, ↓mL_999, ↓mL_99, ↓mL_1, n_add, n_mul, nj_add, jn_add, n_sub, n_subj, nj_sub, jn_sub, nj_mul, jn_mul, if_true, if_false, jI_add, jI_sub, jI_mul, jI_neg, jL_add, jL_sub, jL_mul, jL_neg, n_l, j_l, jL_i, e_gn, e_gj, e_znn, e_znj, nn_ltT, nn_ltF, nn_leT, nn_leF, nn_eqT, nn_eqF, nj_ltT, nj_ltF, nj_leT, nj_leF, nj_eqT, nj_eqF, jn_ltT, jn_ltF, jn_leT, jn_leF, jn_eqT, jn_eqF, jj_ltT, jj_ltF, jj_leT, jj_leF, jj_eqT, jj_eqF, LL_ltT, LL_ltF, LL_leT, LL_leF, LL_eqT, LL_eqF, e_w1, e_w1s, e_w2, e_x1, e_x2, e_x2s, e_a1, e_a1s, e_a2, e_uT, e_uF, e_vT, e_vF, e_ft, e_tf, e_zbt, e_zbf, n_or, n_31, n_shl, n_bit, n_not, n_bc]
            refine ok_bi (c_allX l2 hpv ha hb) ?_
            rintro x M2 ⟨q1, f2⟩
            dsimp only at q1 f2
            refine ok_some ⟨M2, ?_, pR_fr l2 f2 (by decide) (by decide)⟩
            rw [q1, hu]
        · rintro x ⟨M2, rfl, p2⟩
          dsimp only
          have := c_all0 p2 hpv
          rw [m_4] at this
          refine ok_bi this ?_
          rintro y M3 ⟨q1, _⟩
          dsimp only at q1
          rw [q1, c_frac hub hpos hl1 w (by omega), e_sq]
          exact ok_some rfl
      · unfold fX11_share
        rw [e2 Mx k1, e_sq, if_neg (by decide), L_0, L_1, g2, e_lt, if_neg (by decide)]
        refine ok_sq (r_layAll k1 hV) ?_
        rintro M1 ⟨⟨c1, a3⟩, f1⟩
        obtain ⟨v', b', fw', gr', s1, s2, _⟩ := r_sum hV a3 (aQ_none (fun i _ => alP_10 _ i))
        have k2 := rR_fr k1 f1 (by decide) (by decide)
        simp (disch := omega) only [e_lt, e_ltn, e_jn, e_sq, e_bi, l_0, l_1, l_2, l_3, l_4, l_5, l_6, l_7, l_8, l_9, l_10, l_11, l_12, l_13, l_14, l_15, l_16, l_17, l_18, l_19, l_20, l_21, l_22, l_23, l_24, l_25, l_26, l_27, l_28, l_29, l_30, l_31, l_32, l_33, l_34, l_35, l_36, l_37, l_38, l_39, l_40, l_41, l_48, l_50, l_56, l_57, l_59, l_60, l_63, l_64, l_70, l_97, l_99, l_122, l_128, l_190, l_220, l_255, l_320, l_500, l_999, l_1024, l_83520, l_100000, l_1000000, L_0, L_1, L_2, L_3, L_4, L_6, L_7, L_9, L_10, L_11, L_13, L_16, L_32, L_48, L_50, L_57, L_97, L_99, L_122, L_999, L_83520, L_4294967295, L_25937424601, L_1152921504606846976, ↓m_1000020, ↓m_1000012, ↓m_1000010, ↓m_1000000, ↓m_10004, ↓m_10000, ↓m_1000, ↓m_999, ↓m_99, ↓m_30, ↓m_20, ↓m_14, ↓m_12, ↓m_11, ↓m_10, ↓m_8, ↓m_4, ↓m_3, ↓m_2, ↓m_1, ↓mL_999, ↓mL_99, ↓mL_1, n_add, n_mul, nj_add, jn_add, n_sub, n_subj, nj_sub, jn_sub, nj_mul, jn_mul, if_true, if_false, jI_add, jI_sub, jI_mul, jI_neg, jL_add, jL_sub, jL_mul, jL_neg, n_l, j_l, jL_i, e_gn, e_gj, e_znn, e_znj, nn_ltT, nn_ltF, nn_leT, nn_leF, nn_eqT, nn_eqF, nj_ltT, nj_ltF, nj_leT, nj_leF, nj_eqT, nj_eqF, jn_ltT, jn_ltF, jn_leT, jn_leF, jn_eqT, jn_eqF, jj_ltT, jj_ltF, jj_leT, jj_leF, jj_eqT, jj_eqF, LL_ltT, LL_ltF, LL_leT, LL_leF, LL_eqT, LL_eqF, e_w1, e_w1s, e_w2, e_x1, e_x2, e_x2s, e_a1, e_a1s, e_a2, e_uT, e_uF, e_vT, e_vF, e_ft, e_tf, e_zbt, e_zbf, n_or, n_31, n_shl, n_bit, n_not, n_bc, s2]
        by_cases e : co ρ S 15 a b = -4
        · rw [if_pos e] at hu
          have hmd := (r_mode k2 hV c1 (a := a) (b := b) (by omega) (by omega)).1
          rw [l_1] at hmd
          refine ok_sq hmd ?_
          rintro M2 ⟨_, f2⟩
          have b1 := rC_fr c1 f2 (by decide) a b ha hb
          have e0 : jL 0 = jL ((u : Nat) : Int) := by rw [hu]; rfl
          simp (disch := omega) only [e_lt, e_ltn, e_jn, e_sq, e_bi, l_0, l_1, l_2, l_3, l_4, l_5, l_6, l_7, l_8, l_9, l_10, l_11, l_12, l_13, l_14, l_15, l_16, l_17, l_18, l_19, l_20, l_21, l_22, l_23, l_24, l_25, l_26, l_27, l_28, l_29, l_30, l_31, l_32, l_33, l_34, l_35, l_36, l_37, l_38, l_39, l_40, l_41, l_48, l_50, l_56, l_57, l_59, l_60, l_63, l_64, l_70, l_97, l_99, l_122, l_128, l_190, l_220, l_255, l_320, l_500, l_999, l_1024, l_83520, l_100000, l_1000000, L_0, L_1, L_2, L_3, L_4, L_6, L_7, L_9, L_10, L_11, L_13, L_16, L_32, L_48, L_50, L_57, L_97, L_99, L_122, L_999, L_83520, L_4294967295, L_25937424601, L_1152921504606846976, ↓m_1000020, ↓m_1000012, ↓m_1000010, ↓m_1000000, ↓m_10004, ↓m_10000, ↓m_1000, ↓m_999, ↓m_99, ↓m_30, ↓m_20, ↓m_14, ↓m_12, ↓m_11, ↓m_10, ↓m_8, ↓m_4, ↓m_3, ↓m_2, ↓m_1, ↓mL_999, ↓mL_99, ↓mL_1, n_add, n_mul, nj_add, jn_add, n_sub, n_subj, nj_sub, jn_sub, nj_mul, jn_mul, if_true, if_false, jI_add, jI_sub, jI_mul, jI_neg, jL_add, jL_sub, jL_mul, jL_neg, n_l, j_l, jL_i, e_gn, e_gj, e_znn, e_znj, nn_ltT, nn_ltF, nn_leT, nn_leF, nn_eqT, nn_eqF, nj_ltT, nj_ltF, nj_leT, nj_leF, nj_eqT, nj_eqF, jn_ltT, jn_ltF, jn_leT, jn_leF, jn_eqT, jn_eqF, jj_ltT, jj_ltF, jj_leT, jj_leF, jj_eqT, jj_eqF, LL_ltT, LL_ltF, LL_leT, LL_leF, LL_eqT, LL_eqF, e_w1, e_w1s, e_w2, e_x1, e_x2, e_x2s, e_a1, e_a1s, e_a2, e_uT, e_uF, e_vT, e_vF, e_ft, e_tf, e_zbt, e_zbf, n_or, n_31, n_shl, n_bit, n_not, n_bc, b1]
          rw [e0, r_frac hub hpos hl1 w (by omega), e_sq]
          exact ok_some rfl
        · rw [if_neg e] at hu
          obtain ⟨v, hv⟩ : ∃ v, isL (S 64) (S 65) (alX (alP (co ρ S 15)) a b) (gP (co ρ S 15) (ρ 7 + ρ 8)) v := by
            obtain ⟨_, _, ⟨v, _, hv⟩, _⟩ := c_lwi l2 hpv ha hb
            exact ⟨v, hv⟩
          have hmd := r_with k2 hV c1 ha hb e hv
          rw [l_1] at hmd
          refine ok_sq hmd ?_
          rintro M2 ⟨_, _, d3, f2⟩
          have b1 := rC_fr c1 f2 (by decide) a b ha hb
          have hml := must_len hm hb (by rw [alP_lt (by omega)]; simpa using e) (alP_10 (co ρ S 15)) (k := S 64) (i := 0) (S := 0) (Nat.zero_le a) (by omega) (by simp)
          rw [hml, ← hu] at d3
          simp (disch := omega) only [e_lt, e_ltn, e_jn, e_sq, e_bi, l_0, l_1, l_2, l_3, l_4, l_5, l_6, l_7, l_8, l_9, l_10, l_11, l_12, l_13, l_14, l_15, l_16, l_17, l_18, l_19, l_20, l_21, l_22, l_23, l_24, l_25, l_26, l_27, l_28, l_29, l_30, l_31, l_32, l_33, l_34, l_35, l_36, l_37, l_38, l_39, l_40, l_41, l_48, l_50, l_56, l_57, l_59, l_60, l_63, l_64, l_70, l_97, l_99, l_122, l_128, l_190, l_220, l_255, l_320, l_500, l_999, l_1024, l_83520, l_100000, l_1000000, L_0, L_1, L_2, L_3, L_4, L_6, L_7, L_9, L_10, L_11, L_13, L_16, L_32, L_48, L_50, L_57, L_97, L_99, L_122, L_999, L_83520, L_4294967295, L_25937424601, L_1152921504606846976, ↓m_1000020, ↓m_1000012, ↓m_1000010, ↓m_1000000, ↓m_10004, ↓m_10000, ↓m_1000, ↓m_999, ↓m_99, ↓m_30, ↓m_20, ↓m_14, ↓m_12, ↓m_11, ↓m_10, ↓m_8, ↓m_4, ↓m_3, ↓m_2, ↓m_1, ↓mL_999, ↓mL_99, ↓mL_1, n_add, n_mul, nj_add, jn_add, n_sub, n_subj, nj_sub, jn_sub, nj_mul, jn_mul, if_true, if_false, jI_add, jI_sub, jI_mul, jI_neg, jL_add, jL_sub, jL_mul, jL_neg, n_l, j_l, jL_i, e_gn, e_gj, e_znn, e_znj, nn_ltT, nn_ltF, nn_leT, nn_leF, nn_eqT, nn_eqF, nj_ltT, nj_ltF, nj_leT, nj_leF, nj_eqT, nj_eqF, jn_ltT, jn_ltF, jn_leT, jn_leF, jn_eqT, jn_eqF, jj_ltT, jj_ltF, jj_leT, jj_leF, jj_eqT, jj_eqF, LL_ltT, LL_ltF, LL_leT, LL_leF, LL_eqT, LL_eqF, e_w1, e_w1s, e_w2, e_x1, e_x2, e_x2s, e_a1, e_a1s, e_a2, e_uT, e_uF, e_vT, e_vF, e_ft, e_tf, e_zbt, e_zbf, n_or, n_31, n_shl, n_bit, n_not, n_bc, b1, d3]
          rw [r_frac hub hpos hl1 w (by omega), e_sq]
          exact ok_some rfl
    · refine ⟨jL (-1), M, M, ?_, ?_, h⟩
      · unfold fX10_share
        rw [e1, l_0, l_1, g1]; rfl
      · unfold fX11_share
        rw [e2 M h2, L_0, L_1, g2]; rfl
  · refine ⟨jL (-1), M, M, ?_, ?_, h⟩
    · unfold fX10_share
      rw [e1]; rfl
    · unfold fX11_share
      rw [e2 M h2]; rfl
