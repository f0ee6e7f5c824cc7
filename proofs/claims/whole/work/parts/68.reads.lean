/-! ===== how often a letter was read as another ===== -/
def hit (a b x y : Nat) : Nat := if a ≠ 0 ∧ b ≠ 0 ∧ (a - 1) % 8 = x ∧ (b - 1) % 8 = y then 1 else 0
def rd4 (S : Nat → Nat) (i c x y : Nat) : Nat → Nat
  | 0 => 0
  | w + 1 => rd4 S i c x y w + hit (S (70 + 60 * 0 + 6 * i + (w + 1))) (S (70 + 60 * 1 + 6 * c + (w + 1))) x y
def rdA (S P : Nat → Nat) (x y : Nat) : Nat → Nat
  | 0 => 0
  | n + 1 => rdA S P x y n + (if P n = 10 then 0 else rd4 S n (P n) x y 4)
theorem hit_le (a b x y : Nat) : hit a b x y ≤ 1 := by
  unfold hit
  split <;> omega
theorem rd4_le (S : Nat → Nat) (i c x y w : Nat) : rd4 S i c x y w ≤ w := by
  induction w with
  | zero => exact Nat.le_refl _
  | succ w ih =>
    have := hit_le (S (70 + 60 * 0 + 6 * i + (w + 1))) (S (70 + 60 * 1 + 6 * c + (w + 1))) x y
    show rd4 S i c x y w + _ ≤ w + 1
    omega
theorem rdA_le (S P : Nat → Nat) (x y n : Nat) : rdA S P x y n ≤ 4 * n := by
  induction n with
  | zero => exact Nat.le_refl _
  | succ n ih =>
    have := rd4_le S n (P n) x y 4
    show rdA S P x y n + (if P n = 10 then 0 else rd4 S n (P n) x y 4) ≤ _
    split <;> omega
theorem c_rd4 {M : zM} {ρ : Nat → Int} {S : Nat → Nat} {i c : Nat} (h1 : cR M 1 ρ S) (hV : V ρ S) (hi : i < S 64) (hc : c < S 65) (f : Nat → Nat → Nat) (hf : ∀ x y, f x y ≤ 1000) (hM : ∀ x y, x < 8 → y < 8 → M.1 75 (x * 8 + y) = nI (f x y)) : ok (fX10_countReadsOf (nI i) (nI c) M) (fun M' => (∀ d, d ≠ 75 → M'.1 d = M.1 d) ∧ ∀ x y, x < 8 → y < 8 → M'.1 75 (x * 8 + y) = nI (f x y + rd4 S i c x y 4)) := by
  have hS := hV.1
  have g5 : ∀ w, w < 4 → M.1 5 (i * 4 + w) = nI (S (70 + 60 * 0 + 6 * i + (w + 1))) := (h1.1.2 i hi).2.2
  have g9 : ∀ w, w < 4 → M.1 9 (c * 4 + w) = nI (S (70 + 60 * 1 + 6 * c + (w + 1))) := (h1.2.1.2 c hc).2.2
  have bA := (hV.2.1 0 i (by omega) hi).2.2
  have bB := (hV.2.1 1 c (by omega) hc).2.2
  unfold fX10_countReadsOf
  refine ok_up 4 (fun w x => ∃ M', x = (nI w, M') ∧ (∀ d, d ≠ 75 → M'.1 d = M.1 d) ∧ ∀ x y, x < 8 → y < 8 → M'.1 75 (x * 8 + y) = nI (f x y + rd4 S i c x y w)) ?_ ?_ zFu 0 _ (by omega) (by unfold zFu; omega) ⟨M, rfl, fun d _ => rfl, hM⟩
  · rintro rec w x hw ⟨M', rfl, o1, o2⟩ hrec
    have q5 := g5 w hw
    have q9 := g9 w hw
    rw [← o1 5 (by omega)] at q5
    rw [← o1 9 (by omega)] at q9
    have hA := bA w hw
    have hB := bB w hw
    have es : ∀ x y, rd4 S i c x y (w + 1) = rd4 S i c x y w + hit (S (70 + 60 * 0 + 6 * i + (w + 1))) (S (70 + 60 * 1 + 6 * c + (w + 1))) x y := fun x y => rfl
    generalize S (70 + 60 * 0 + 6 * i + (w + 1)) = A at q5 hA es
    generalize S (70 + 60 * 1 + 6 * c + (w + 1)) = B at q9 hB es
    dsimp only
    rw [l_4, nn_leF (by omega), n_mul, n_add, n_mul, n_add, e_gn (by omega), e_lt, e_znn (by omega), e_gn (by omega), e_lt, e_znn (by omega), q5, q9]
    by_cases a1 : A = 0
    · rw [if_pos (by rw [a1]; rfl), e_sq, l_1, n_add]
      refine hrec _ ⟨M', rfl, o1, fun x y hx hy => ?_⟩
      rw [es, show hit A B x y = 0 from if_neg (fun w => w.1 a1)]
      exact o2 x y hx hy
    by_cases a2 : B = 0
    · rw [l_0, nn_eqF (by omega), if_pos (by rw [a2]), e_sq, l_1, n_add]
      refine hrec _ ⟨M', rfl, o1, fun x y hx hy => ?_⟩
      rw [es, show hit A B x y = 0 from if_neg (fun w => w.2.1 a2)]
      exact o2 x y hx hy
    · have t1 := (t_let A (by omega) a1).1
      have t2 := (t_let B (by omega) a2).1
      have q7 := o2 ((A - 1) % 8) ((B - 1) % 8) (by omega) (by omega)
      rw [l_0, nn_eqF (by omega), nn_eqF (by omega), t1, t2, e_lt, e_lt, l_8, n_mul, n_add, e_lt, e_gn (by omega), e_gn (by omega), e_znn (by omega), q7, e_lt, e_sq, l_1, n_add, n_add]
      refine hrec _ ⟨zwI M' 75 ((A - 1) % 8 * 8 + (B - 1) % 8) (nI (f ((A - 1) % 8) ((B - 1) % 8) + rd4 S i c ((A - 1) % 8) ((B - 1) % 8) w + 1)), rfl, fun d hd => by rw [e_w1 _ _ _ hd]; exact o1 d hd, fun x y hx hy => ?_⟩
      rw [e_w1s, es]
      by_cases z : x * 8 + y = (A - 1) % 8 * 8 + (B - 1) % 8
      · have z1 : (A - 1) % 8 = x := by omega
        have z2 : (B - 1) % 8 = y := by omega
        rw [e_uT z, show hit A B x y = 1 from if_pos ⟨a1, a2, z1, z2⟩, z1, z2]
        exact congrArg nI (by omega)
      · rw [e_uF z, show hit A B x y = 0 from if_neg (fun w => z (by omega))]
        exact o2 x y hx hy
  · rintro rec x ⟨M', rfl, o1, o2⟩
    dsimp only
    rw [l_4, nn_leT (by omega)]
    exact ok_some ⟨o1, o2⟩
theorem c_reads {M : zM} {ρ : Nat → Int} {S P : Nat → Nat} (h1 : cR M 1 ρ S) (hV : V ρ S) (h55 : M.1 55 0 = nI (S 64)) (h66 : ∀ i, i < 10 → M.1 66 i = pv (P i)) (hP : ∀ i, i < S 64 → P i = 10 ∨ P i < S 65) : ok (fX10_countReads M) (fun M' => (∀ d, d ≠ 75 → M'.1 d = M.1 d) ∧ ∀ x y, x < 8 → y < 8 → M'.1 75 (x * 8 + y) = nI (rdA S P x y (S 64))) := by
  have hS := hV.1
  unfold fX10_countReads
  rw [pfill _ _ _ _ (by omega), e_sq]
  refine ok_up (S 64) (fun i x => ∃ M', x = (nI i, M') ∧ (∀ d, d ≠ 75 → M'.1 d = M.1 d) ∧ ∀ x y, x < 8 → y < 8 → M'.1 75 (x * 8 + y) = nI (rdA S P x y i)) ?_ ?_ zFu 0 _ (by omega) (by unfold zFu; omega) ⟨_, rfl, fun d hd => by rw [e_a1 _ _ hd], fun x y hx hy => by rw [e_a1s]; unfold zfl; rw [if_pos (by omega)]; rfl⟩
  · rintro rec i x hi ⟨M', rfl, o1, o2⟩ hrec
    have k55 : M'.1 55 0 = nI (S 64) := by rw [o1 55 (by omega)]; exact h55
    have k66 : M'.1 66 i = pv (P i) := by rw [o1 66 (by omega)]; exact h66 i (by omega)
    dsimp only
    rw [k55, nn_leF (by omega), e_gn (by omega), e_lt, e_znn (by omega), k66, m_4]
    by_cases z : P i = 10
    · rw [if_pos (by rw [z]; rfl), e_sq, l_1, n_add]
      refine hrec _ ⟨M', rfl, o1, fun x y hx hy => ?_⟩
      rw [o2 x y hx hy]
      show _ = nI (rdA S P x y i + (if P i = 10 then 0 else rd4 S i (P i) x y 4))
      rw [if_pos z, Nat.add_zero]
    · have hlt : P i < S 65 := by rcases hP i hi with w | w; exact absurd w z; exact w
      have ep : pv (P i) = nI (P i) := if_neg z
      rw [ep, nj_eqF (by omega)]
      have h1' : cR M' 1 ρ S := cR_cg h1 (fun d w1 w2 => o1 d (by omega))
      refine ok_sq (P := fun M'' => (∀ d, d ≠ 75 → M''.1 d = M'.1 d) ∧ ∀ x y, x < 8 → y < 8 → M''.1 75 (x * 8 + y) = nI (rdA S P x y i + rd4 S i (P i) x y 4)) ?_ ?_
      · refine ok_sq (c_rd4 h1' hV hi hlt (fun x y => rdA S P x y i) (fun x y => by have := rdA_le S P x y i; omega) o2) (fun M2 w => ok_some w)
      · rintro M2 ⟨s1, s2⟩
        rw [l_1, n_add]
        refine hrec _ ⟨M2, rfl, fun d hd => by rw [s1 d hd, o1 d hd], fun x y hx hy => ?_⟩
        rw [s2 x y hx hy]
        show _ = nI (rdA S P x y i + (if P i = 10 then 0 else rd4 S i (P i) x y 4))
        rw [if_neg z]
  · rintro rec x ⟨M', rfl, o1, o2⟩
    have k55 : M'.1 55 0 = nI (S 64) := by rw [o1 55 (by omega)]; exact h55
    dsimp only
    rw [k55, nn_leT (by omega)]
    exact ok_some ⟨o1, o2⟩
theorem zb_hit (A B x y : Nat) : zb (decide (A ≠ 0 ∧ B ≠ 0 ∧ (A - 1) % 8 = x ∧ (B - 1) % 8 = y)) = nI (hit A B x y) := by
  unfold hit
  by_cases z : A ≠ 0 ∧ B ≠ 0 ∧ (A - 1) % 8 = x ∧ (B - 1) % 8 = y
  · rw [if_pos z, decide_eq_true z]; rfl
  · rw [if_neg z, decide_eq_false z]; rfl
theorem r_hit {σ : Type} {A B x y : Nat} (hA : A ≤ 16) (hB : B ≤ 16) (hx : x < 8) (hy : y < 8) (k : Bool → Option σ) : sq (α := Bool) (jn (α := Unit) (fun (_ : Unit) => some false) (fun k106 => if nI A ≤ nI 0 then (k106 ()) else (if nI B ≤ nI 0 then (k106 ()) else (lt (fX11_letterOf (nI A)) (fun (x107 : Int32) => if (x107 - nI 1) = nI x then (lt (fX11_letterOf (nI B)) (fun (x108 : Int32) => if (x108 - nI 1) = nI y then (some true) else (k106 ()))) else (k106 ())))))) k = k (decide (A ≠ 0 ∧ B ≠ 0 ∧ (A - 1) % 8 = x ∧ (B - 1) % 8 = y)) := by
  by_cases a1 : A = 0
  · rw [decide_eq_false (fun w => w.1 a1)]
    simp (disch := omega) only [e_lt, e_ltn, e_jn, e_sq, e_bi, l_0, l_1, l_2, l_3, l_4, l_5, l_6, l_7, l_8, l_9, l_10, l_11, l_12, l_13, l_14, l_15, l_16, l_17, l_18, l_19, l_20, l_21, l_22, l_23, l_24, l_25, l_26, l_27, l_28, l_29, l_30, l_31, l_32, l_33, l_34, l_35, l_36, l_37, l_38, l_39, l_40, l_41, l_48, l_50, l_56, l_57, l_59, l_60, l_63, l_64, l_70, l_97, l_99, l_122, l_128, l_190, l_220, l_255, l_320, l_500, l_999, l_1024, l_83520, l_100000, l_1000000, L_0, L_1, L_2, L_3, L_4, L_6, L_7, L_9, L_10, L_11, L_13, L_16, L_32, L_48, L_50, L_57, L_97, L_99, L_122, L_999, L_83520, L_4294967295, L_25937424601, L_1152921504606846976, ↓m_1000020, ↓m_1000012, ↓m_1000010, ↓m_1000000, ↓m_10004, ↓m_10000, ↓m_1000, ↓m_999, ↓m_99, ↓m_30, ↓m_20, ↓m_14, ↓m_12, ↓m_11, ↓m_10, ↓m_8, ↓m_4, ↓m_3, ↓m_2, ↓m_1, ↓mL_999, ↓mL_99, ↓mL_1, n_add, n_mul, nj_add, jn_add, n_sub, n_subj, nj_sub, jn_sub, nj_mul, jn_mul, if_true, if_false, jI_add, jI_sub, jI_mul, jI_neg, jL_add, jL_sub, jL_mul, jL_neg, n_l, j_l, jL_i, e_gn, e_gj, e_znn, e_znj, nn_ltT, nn_ltF, nn_leT, nn_leF, nn_eqT, nn_eqF, nj_ltT, nj_ltF, nj_leT, nj_leF, nj_eqT, nj_eqF, jn_ltT, jn_ltF, jn_leT, jn_leF, jn_eqT, jn_eqF, jj_ltT, jj_ltF, jj_leT, jj_leF, jj_eqT, jj_eqF, LL_ltT, LL_ltF, LL_leT, LL_leF, LL_eqT, LL_eqF, e_w1, e_w1s, e_w2, e_x1, e_x2, e_x2s, e_a1, e_a1s, e_a2, e_uT, e_uF, e_vT, e_vF, e_ft, e_tf, e_zbt, e_zbf, n_or, n_31, n_shl, n_bit, n_not, n_bc]
  by_cases a2 : B = 0
  · rw [decide_eq_false (fun w => w.2.1 a2)]
    simp (disch := omega) only [e_lt, e_ltn, e_jn, e_sq, e_bi, l_0, l_1, l_2, l_3, l_4, l_5, l_6, l_7, l_8, l_9, l_10, l_11, l_12, l_13, l_14, l_15, l_16, l_17, l_18, l_19, l_20, l_21, l_22, l_23, l_24, l_25, l_26, l_27, l_28, l_29, l_30, l_31, l_32, l_33, l_34, l_35, l_36, l_37, l_38, l_39, l_40, l_41, l_48, l_50, l_56, l_57, l_59, l_60, l_63, l_64, l_70, l_97, l_99, l_122, l_128, l_190, l_220, l_255, l_320, l_500, l_999, l_1024, l_83520, l_100000, l_1000000, L_0, L_1, L_2, L_3, L_4, L_6, L_7, L_9, L_10, L_11, L_13, L_16, L_32, L_48, L_50, L_57, L_97, L_99, L_122, L_999, L_83520, L_4294967295, L_25937424601, L_1152921504606846976, ↓m_1000020, ↓m_1000012, ↓m_1000010, ↓m_1000000, ↓m_10004, ↓m_10000, ↓m_1000, ↓m_999, ↓m_99, ↓m_30, ↓m_20, ↓m_14, ↓m_12, ↓m_11, ↓m_10, ↓m_8, ↓m_4, ↓m_3, ↓m_2, ↓m_1, ↓mL_999, ↓mL_99, ↓mL_1, n_add, n_mul, nj_add, jn_add, n_sub, n_subj, nj_sub, jn_sub, nj_mul, jn_mul, if_true, if_false, jI_add, jI_sub, jI_mul, jI_neg, jL_add, jL_sub, jL_mul, jL_neg, n_l, j_l, jL_i, e_gn, e_gj, e_znn, e_znj, nn_ltT, nn_ltF, nn_leT, nn_leF, nn_eqT, nn_eqF, nj_ltT, nj_ltF, nj_leT, nj_leF, nj_eqT, nj_eqF, jn_ltT, jn_ltF, jn_leT, jn_leF, jn_eqT, jn_eqF, jj_ltT, jj_ltF, jj_leT, jj_leF, jj_eqT, jj_eqF, LL_ltT, LL_ltF, LL_leT, LL_leF, LL_eqT, LL_eqF, e_w1, e_w1s, e_w2, e_x1, e_x2, e_x2s, e_a1, e_a1s, e_a2, e_uT, e_uF, e_vT, e_vF, e_ft, e_tf, e_zbt, e_zbf, n_or, n_31, n_shl, n_bit, n_not, n_bc]
  have t1 : fX11_letterOf (nI A) - nI 1 = nI ((A - 1) % 8) := (t_let A (by omega) a1).2
  have t2 : fX11_letterOf (nI B) - nI 1 = nI ((B - 1) % 8) := (t_let B (by omega) a2).2
  rw [e_jn, nn_leF (by omega), nn_leF (by omega), e_lt, t1]
  by_cases a3 : (A - 1) % 8 = x
  · rw [nn_eqT (by omega), e_lt, t2]
    by_cases a4 : (B - 1) % 8 = y
    · rw [nn_eqT (by omega), decide_eq_true ⟨a1, a2, a3, a4⟩, e_sq]
    · rw [nn_eqF (by omega), decide_eq_false (fun w => a4 w.2.2.2), e_sq]
  · rw [nn_eqF (by omega), decide_eq_false (fun w => a3 w.2.2.1), e_sq]
theorem r_reads {M : zM} {ρ : Nat → Int} {S P : Nat → Nat} {x y : Nat} (h2 : rR M 0 ρ S) (hV : V ρ S) (h91 : ∀ i, i < 10 → M.1 91 i = pv (P i)) (hP : ∀ i, i < S 64 → P i = 10 ∨ P i < S 65) (hx : x < 8) (hy : y < 8) : ok (fX11_readAs (nI x) (nI y) M) (fun v => v = nI (rdA S P x y (S 64))) := by
  have hS := hV.1
  have its : ∀ e i w, e < 2 → i < 10 → w < 6 → fX11_its (nI e) (nI i) (nI w) M = some (nI (S (70 + 60 * e + 6 * i + w))) := fun e i w he hi hw => by
    have := rR_s h2 (k := 70 + 60 * e + 6 * i + w) (by omega)
    unfold fX11_its
    simp (disch := omega) only [e_lt, e_ltn, e_jn, e_sq, e_bi, l_0, l_1, l_2, l_3, l_4, l_5, l_6, l_7, l_8, l_9, l_10, l_11, l_12, l_13, l_14, l_15, l_16, l_17, l_18, l_19, l_20, l_21, l_22, l_23, l_24, l_25, l_26, l_27, l_28, l_29, l_30, l_31, l_32, l_33, l_34, l_35, l_36, l_37, l_38, l_39, l_40, l_41, l_48, l_50, l_56, l_57, l_59, l_60, l_63, l_64, l_70, l_97, l_99, l_122, l_128, l_190, l_220, l_255, l_320, l_500, l_999, l_1024, l_83520, l_100000, l_1000000, L_0, L_1, L_2, L_3, L_4, L_6, L_7, L_9, L_10, L_11, L_13, L_16, L_32, L_48, L_50, L_57, L_97, L_99, L_122, L_999, L_83520, L_4294967295, L_25937424601, L_1152921504606846976, ↓m_1000020, ↓m_1000012, ↓m_1000010, ↓m_1000000, ↓m_10004, ↓m_10000, ↓m_1000, ↓m_999, ↓m_99, ↓m_30, ↓m_20, ↓m_14, ↓m_12, ↓m_11, ↓m_10, ↓m_8, ↓m_4, ↓m_3, ↓m_2, ↓m_1, ↓mL_999, ↓mL_99, ↓mL_1, n_add, n_mul, nj_add, jn_add, n_sub, n_subj, nj_sub, jn_sub, nj_mul, jn_mul, if_true, if_false, jI_add, jI_sub, jI_mul, jI_neg, jL_add, jL_sub, jL_mul, jL_neg, n_l, j_l, jL_i, e_gn, e_gj, e_znn, e_znj, nn_ltT, nn_ltF, nn_leT, nn_leF, nn_eqT, nn_eqF, nj_ltT, nj_ltF, nj_leT, nj_leF, nj_eqT, nj_eqF, jn_ltT, jn_ltF, jn_leT, jn_leF, jn_eqT, jn_eqF, jj_ltT, jj_ltF, jj_leT, jj_leF, jj_eqT, jj_eqF, LL_ltT, LL_ltF, LL_leT, LL_leF, LL_eqT, LL_eqF, e_w1, e_w1s, e_w2, e_x1, e_x2, e_x2s, e_a1, e_a1s, e_a2, e_uT, e_uF, e_vT, e_vF, e_ft, e_tf, e_zbt, e_zbf, n_or, n_31, n_shl, n_bit, n_not, n_bc, this]
  have hl := (r_lines h2).1
  unfold fX11_readAs
  refine ok_up (S 64) (fun i s => s = (nI (rdA S P x y i), nI i)) ?_ ?_ zFu 0 _ (by omega) (by unfold zFu; omega) rfl
  · rintro rec i s hi rfl hrec
    have k91 := h91 i (by omega)
    have hb := rdA_le S P x y i
    dsimp only
    rw [l_0, hl, e_sq, nn_leF (by omega)]
    refine ok_sq (P := fun v => v = nI (rdA S P x y (i + 1))) ?_ ?_
    · by_cases z : P i = 10
      · have ez : M.1 91 i = jI (-4) := by rw [k91, z]; rfl
        have er : rdA S P x y (i + 1) = rdA S P x y i := by
          show rdA S P x y i + (if P i = 10 then 0 else rd4 S i (P i) x y 4) = _
          rw [if_pos z, Nat.add_zero]
        refine ok_up 1 (fun w s => s = (nI (rdA S P x y i), nI (w + 1))) ?_ ?_ zFu 0 _ (by omega) (by unfold zFu; omega) rfl
        · rintro rec2 w s hw rfl _
          dsimp only
          rw [m_4, l_4, nn_ltF (by omega), e_gn (by omega), e_znn (by omega), ez, if_pos rfl]
          exact ok_some (by rw [er])
        · rintro rec2 s rfl
          dsimp only
          rw [m_4, l_4, nn_ltF (by omega), e_gn (by omega), e_znn (by omega), ez, if_pos rfl]
          exact ok_some (by rw [er])
      · have hlt : P i < S 65 := by rcases hP i hi with w | w; exact absurd w z; exact w
        have ez : M.1 91 i = nI (P i) := by rw [k91]; exact if_neg z
        have er : rdA S P x y (i + 1) = rdA S P x y i + rd4 S i (P i) x y 4 := by
          show rdA S P x y i + (if P i = 10 then 0 else rd4 S i (P i) x y 4) = _
          rw [if_neg z]
        have bA := (hV.2.1 0 i (by omega) hi).2.2
        have bB := (hV.2.1 1 (P i) (by omega) hlt).2.2
        refine ok_up 4 (fun w s => s = (nI (rdA S P x y i + rd4 S i (P i) x y w), nI (w + 1))) ?_ ?_ zFu 0 _ (by omega) (by unfold zFu; omega) rfl
        · rintro rec2 w s hw rfl hrec2
          have hb2 := rd4_le S i (P i) x y w
          dsimp only
          rw [m_4, l_4, nn_ltF (by omega), e_gn (by omega), e_znn (by omega), ez, nj_eqF (by omega), its 0 i (w + 1) (by omega) (by omega) (by omega), e_sq, e_gn (by omega), l_1, its 1 (P i) (w + 1) (by omega) (by omega) (by omega), e_sq]
          refine Eq.subst (motive := fun t => ok t _) (r_hit (bA w hw) (bB w hw) hx hy (fun b => lt (nI (rdA S P x y i + rd4 S i (P i) x y w) + zb b) (fun x103 => rec2 (x103, nI (w + 1) + nI 1)))).symm ?_
          (try dsimp only)
          rw [zb_hit, n_add, n_add, e_lt]
          refine hrec2 _ ?_
          show (_, _) = (nI (rdA S P x y i + (rd4 S i (P i) x y w + hit (S (70 + 60 * 0 + 6 * i + (w + 1))) (S (70 + 60 * 1 + 6 * P i + (w + 1))) x y)), _)
          exact congrArg (fun t => (nI t, nI (w + 1 + 1))) (by omega)
        · rintro rec2 s rfl
          dsimp only
          rw [l_4, nn_ltT (by omega)]
          exact ok_some (by rw [er])
    · rintro v rfl
      rw [l_1, n_add]
      exact hrec _ rfl
  · rintro rec s rfl
    dsimp only
    rw [l_0, hl, e_sq, nn_leT (by omega)]
    exact ok_some rfl
theorem c_rd {M : zM} {ρ : Nat → Int} {S : Nat → Nat} (h1 : cR M 1 ρ S) (hV : V ρ S) : ∃ P : Nat → Nat, ok (sq (fX10_findFirst M) (fun M2 => fX10_countReads M2)) (fun M' => ∀ x y, x < 8 → y < 8 → M'.1 75 (x * 8 + y) = nI (rdA S P x y (S 64))) ∧ ∀ M1, rR M1 0 ρ S → ok (fX11_layAll M1) (fun M2 => ok (fX11_layFirst 91 M2) (fun M3 => rR M3 0 ρ S ∧ ∀ x y, x < 8 → y < 8 → fX11_readAs (nI x) (nI y) M3 = some (nI (rdA S P x y (S 64))))) := by
  obtain ⟨P, g1, g2, g3, g4⟩ := cr_first h1 hV
  have hP : ∀ i, i < S 64 → P i = 10 ∨ P i < S 65 := fun i hi => (g1.1.1.1 i hi).symm
  refine ⟨P, ok_sq g3 ?_, fun M1 k1 => ok_mono (g4 M1 k1) (fun M2 q => ok_mono q ?_)⟩
  · rintro M2 ⟨b1, b2, b3⟩
    refine ok_mono (c_reads (cR_fr h1 b3 (fun c w1 w2 w3 => by simp only [List.mem_cons, List.not_mem_nil, or_false] at w3; omega)) hV b1.1 b2 hP) (fun M3 w => w.2)
  · rintro M3 ⟨_, b2, b3⟩
    refine ⟨b3, fun x y hx hy => ?_⟩
    obtain ⟨v, e1, e2⟩ := r_reads b3 hV b2 hP hx hy
    rw [e1, e2]
theorem q_reads {M : zM} (h : RR M) (p q : Int32) : AG2 (fX10_reads p q) (fX11_reads p q) M := by
  obtain ⟨ρ, S, h1, h2, hV⟩ := h.1
  have h1 : cR M 1 ρ S := h1
  rcases ar p 7 7 (by omega) rfl with ⟨x, hx, rfl, e1, e2⟩ | ⟨e1, e2, _⟩
  rotate_left
  · refine ⟨jI (-1), M, M, ?_, ?_, h⟩
    · unfold fX10_reads fX10_isLetter
      rw [l_0, l_7, e1]; rfl
    · unfold fX11_reads fX11_isLetter
      rw [L_0, L_7, e2]; rfl
  rcases ar q 7 7 (by omega) rfl with ⟨y, hy, rfl, e3, e4⟩ | ⟨e3, e4, _⟩
  rotate_left
  · refine ⟨jI (-1), M, M, ?_, ?_, h⟩
    · unfold fX10_reads fX10_isLetter
      rw [l_0, l_7, e1, e3]; rfl
    · unfold fX11_reads fX11_isLetter
      rw [L_0, L_7, e2, e4]; rfl
  obtain ⟨P, g1, g2⟩ := c_rd h1 hV
  refine ag2 (v := nI (rdA S P x y (S 64))) h h2 ?_ (frX10_reads _ _ M) (by unfold scr; decide) (fun M1 k1 _ => ?_) (fun M1 => frX11_reads _ _ M1) (by unfold scr; decide)
  · unfold fX10_reads fX10_isLetter
    rw [l_0, l_7, e1, e3, e_lt, if_neg (by decide), e_lt, if_neg (by decide)]
    obtain ⟨M4, d1, d2⟩ := g1
    cases hf : fX10_findFirst M with
    | none => rw [hf] at d1; exact absurd d1 (by intro w; cases w)
    | some M3 =>
      rw [hf, e_sq] at d1
      rw [e_sq, d1, e_sq, l_8, n_mul, n_add, e_gn (by omega), e_znn (by omega), d2 x y (by omega) (by omega)]
      exact ok_some rfl
  · unfold fX11_reads fX11_isLetter
    rw [L_0, L_7, e2, e4, e_lt, if_neg (by decide), e_lt, if_neg (by decide)]
    refine ok_sq (g2 M1 k1) (fun M2 w => ok_sq w ?_)
    rintro M3 ⟨_, w2⟩
    rw [w2 x y (by omega) (by omega), e_sq]
    exact ok_some rfl
