def alP (c : Nat → Nat → Int) (i j : Nat) : Bool := decide (j = 10) || decide (c i j ≠ -4)
def gP (c : Nat → Nat → Int) (sv : Int) (i j : Nat) : Int := c i j - sv
theorem alP_10 (c : Nat → Nat → Int) (i : Nat) : alP c i 10 = true := by simp [alP]
theorem alP_lt {c : Nat → Nat → Int} {i j : Nat} (h : j < 10) : alP c i j = decide (c i j ≠ -4) := by
  have : j ≠ 10 := by omega
  simp [alP, this]
theorem alN_10 {c : Nat → Nat → Int} {a b : Nat} (hb : b < 10) (i : Nat) : alN (alP c) a b i 10 = true := by
  have : ¬ 10 = b := by omega
  simp [alN, alP_10, this]
theorem mn0_le (x : Int) : mn0 x ≤ 0 := by unfold mn0; split <;> omega
theorem mn0_ge {x b : Int} (h : b ≤ x) (hb : b ≤ 0) : b ≤ mn0 x := by unfold mn0; split <;> omega
/-- one settling -/
theorem c_opt {M : zM} {n m : Nat} {c : Nat → Nat → Int} {T sv : Int} (h : pR M n m c T sv) (hV : pV n m c T sv) {al : Nat → Nat → Bool} {w W : Nat → Nat → Int} (hal : ∀ i, i < n → al i 10 = true) (hw : wR M W) (hWw : ∀ i j, i < n → j < m → W i j = if al i j = true then mn0 (w i j) else 0) (hz : ∀ i j, ¬ (i < n ∧ j < m) → W i j = 0) (hlo : ∀ i j, i < n → j < m → -zBB ≤ w i j) :
    ok (fX4_settle M) (fun x => (∃ v p, x.1 = jL v ∧ isL n m al w v ∧ aQ n m al p ∧ wS w n p = v ∧ (-10 * zBB ≤ v ∧ v ≤ 0) ∧ (∀ i j, i < n → j < m → (p i = j ↔ x.2.1 64 (j + 1) = nI (i + 1) ∧ W i j < 0)) ∧ wR x.2 W) ∧ zfr [59, 61, 62, 63, 64, 65] M x.2) := by
  refine ok_fr ?_ (frX4_settle M)
  obtain ⟨v1, v2, v3, v4, v5⟩ := id hV
  have hW : ∀ i j, -zBB ≤ W i j ∧ W i j ≤ 0 := fun i j => by
    by_cases q : i < n ∧ j < m
    · rw [hWw i j q.1 q.2]
      split
      · exact ⟨mn0_ge (hlo i j q.1 q.2) (by unfold zBB; omega), mn0_le _⟩
      · unfold zBB; omega
    · rw [hz i j q]; unfold zBB; omega
  unfold fX4_settle
  rw [h.1, h.2.1]
  have hst := c_settle (n := n) (m := m) v1 v2 hW (fun i j hj => hz i j (by omega)) hw
  refine ok_bi hst ?_
  rintro a M1 ⟨v, p, q1, q2, q3, q4, q5, q6, q7⟩
  obtain ⟨k1, k2, k3, k4⟩ := cap_opt (w := w) (W := W) v2 hal (fun i j hi hj => by rw [hWw i j hi hj]; rfl) q2 q3 q4 q5
  refine ok_some ⟨v, p, q1, k1, k2, k3, ⟨?_, ?_⟩, q6, q7⟩
  · have := sm_bd (f := fun i => gt W i (p i)) (a := -zBB) (b := 0) (n := n) (fun i _ => by
      unfold gt
      split
      · unfold zBB; omega
      · exact hW i (p i))
    have e : wS W n p = sm (fun i => gt W i (p i)) n := rfl
    unfold zBB at *
    omega
  · have := q2 (fun _ => 10) ⟨fun _ _ => Or.inr rfl, fun _ _ _ _ _ => rfl⟩
    have e : wS W n (fun _ => 10) = 0 := sm_zero (fun i _ => if_pos rfl)
    omega
theorem wt_cap {n m : Nat} (hm : m ≤ 10) {c w : Nat → Nat → Int} (i j : Nat) (hi : i < n) (hj : j < m) : wt n m c w i j = if alP c i j = true then mn0 (w i j) else 0 := by
  unfold wt
  rw [alP_lt (by omega)]
  by_cases e : c i j = -4
  · simp [e]
  · simp [e, hi, hj]
theorem wt_out {n m : Nat} {c w : Nat → Nat → Int} (i j : Nat) (h : ¬ (i < n ∧ j < m)) : wt n m c w i j = 0 := by
  unfold wt
  rw [if_neg (fun q => h ⟨q.1, q.2.1⟩)]
theorem g_lo {n m : Nat} {c : Nat → Nat → Int} {T sv : Int} (hV : pV n m c T sv) {i j : Nat} (hi : i < n) (hj : j < m) : -202 ≤ c i j - sv ∧ c i j - sv ≤ 5000 := by
  obtain ⟨v1, v2, v3, v4, v5⟩ := hV
  have := v5 i j hi hj
  omega
theorem g1 (c : Nat → Nat → Int) (sv : Int) : (fun i j => (1 : Int) * (c i j - sv) + 0) = gP c sv := by
  funext i j
  simp [gP]
theorem c_w10 {M : zM} {n m : Nat} {c : Nat → Nat → Int} {T sv : Int} (h : pR M n m c T sv) (hV : pV n m c T sv) : ok (fX4_weighAll (1 : Int32) (0 : Int32) M) (fun M' => wR M' (wt n m c (gP c sv)) ∧ pR M' n m c T sv ∧ zfr [60] M M') := by
  have h1 := c_weighA h hV (s := 1) (l := 0) (by omega) (by omega)
  rw [g1] at h1
  rw [show (1 : Int32) = jI 1 from rfl, show (0 : Int32) = jI 0 from rfl]
  exact ok_mono (ok_fr h1 (frX4_weighAll _ _ M)) (fun M' q => ⟨q.1, pR_fr h q.2 (by decide) (by decide), q.2⟩)
theorem c_wsl {M : zM} {n m : Nat} {c : Nat → Nat → Int} {T sv : Int} (h : pR M n m c T sv) (hV : pV n m c T sv) (s l : Int) (hs : 0 ≤ s ∧ s ≤ 32) (hl : -1 ≤ l ∧ l ≤ 1) : ok (fX4_weighAll (jI s) (jI l) M) (fun M' => wR M' (wt n m c (fun i j => s * gP c sv i j + l)) ∧ pR M' n m c T sv ∧ zfr [60] M M') :=
  ok_mono (ok_fr (c_weighA h hV hs hl) (frX4_weighAll _ _ M)) (fun M' q => ⟨q.1, pR_fr h q.2 (by decide) (by decide), q.2⟩)
/-- gains of a best pairing are not far below 0 -/
theorem isL_bd {n m : Nat} {c : Nat → Nat → Int} {T sv : Int} (hV : pV n m c T sv) {al : Nat → Nat → Bool} {v : Int} (h : isL n m al (gP c sv) v) (hal : ∀ i, i < n → al i 10 = true) : -2020 ≤ v ∧ v ≤ 0 := by
  obtain ⟨h1, p, h2, h3⟩ := h
  constructor
  · have := sm_bd (f := fun i => gt (gP c sv) i (p i)) (a := -202) (b := 5000) (n := n) (fun i hi => by
      unfold gt
      by_cases e : p i = 10
      · rw [if_pos e]; omega
      · rw [if_neg e]
        exact g_lo hV hi (by have := h2.1.1 i hi; omega))
    have e : wS (gP c sv) n p = sm (fun i => gt (gP c sv) i (p i)) n := rfl
    have := hV.1
    omega
  · have := h1 (fun _ => 10) ⟨⟨fun _ _ => Or.inr rfl, fun _ _ _ _ _ => rfl⟩, hal⟩
    have e : wS (gP c sv) n (fun _ => 10) = 0 := sm_zero (fun i _ => if_pos rfl)
    omega
theorem c_lg {M : zM} {n m : Nat} {c : Nat → Nat → Int} {T sv : Int} (h : pR M n m c T sv) (hV : pV n m c T sv) : ok (fX4_leastGain M) (fun x => (∃ v, x.1 = jL v ∧ isL n m (alP c) (gP c sv) v) ∧ pR x.2 n m c T sv) := by
  unfold fX4_leastGain
  refine ok_sq (c_w10 h hV) ?_
  rintro M1 ⟨w1, p1, f1⟩
  refine ok_bi (c_opt p1 hV (fun i _ => alP_10 c i) w1 (fun i j hi hj => wt_cap hV.2.1 i j hi hj) (fun i j q => wt_out i j q) (fun i j hi hj => by have := g_lo hV hi hj; unfold gP zBB; omega)) ?_
  rintro a M2 ⟨⟨v, p, q1, q2, q3⟩, f2⟩
  exact ok_some ⟨⟨v, q1, q2⟩, pR_fr p1 f2 (by decide) (by decide)⟩
theorem c_lt {M : zM} {n m : Nat} {c : Nat → Nat → Int} {T sv : Int} (h : pR M n m c T sv) (hV : pV n m c T sv) : ok (fX4_leastTotal M) (fun x => (∃ v, x.1 = jL (T + v) ∧ isL n m (alP c) (gP c sv) v) ∧ pR x.2 n m c T sv) := by
  unfold fX4_leastTotal
  refine ok_sq (c_w10 h hV) ?_
  rintro M1 ⟨w1, p1, f1⟩
  refine ok_bi (c_opt p1 hV (fun i _ => alP_10 c i) w1 (fun i j hi hj => wt_cap hV.2.1 i j hi hj) (fun i j q => wt_out i j q) (fun i j hi hj => by have := g_lo hV hi hj; unfold gP zBB; omega)) ?_
  rintro a M2 ⟨⟨v, p, q1, q2, q3⟩, f2⟩
  dsimp only at q1
  have hT := hV.2.2.1
  refine ok_some ⟨⟨v, ?_, q2⟩, pR_fr p1 f2 (by decide) (by decide)⟩
  dsimp only
  rw [p1.2.2.1, q1, jI_l (by omega), jL_add]
theorem c_lwo {M : zM} {n m : Nat} {c : Nat → Nat → Int} {T sv : Int} (h : pR M n m c T sv) (hV : pV n m c T sv) {a b : Nat} (ha : a < n) (hb : b < m) : ok (fX4_leastWithout (nI a) (nI b) M) (fun x => (∃ v, x.1 = jL (T + v) ∧ isL n m (alN (alP c) a b) (gP c sv) v) ∧ pR x.2 n m c T sv) := by
  obtain ⟨v1, v2, v3, v4, v5⟩ := id hV
  unfold fX4_leastWithout
  refine ok_sq (c_w10 h hV) ?_
  rintro M1 ⟨w1, p1, f1⟩
  rw [show (0 : Int64) = jL 0 from rfl, c_setW (by omega) (by omega) (by omega), e_sq]
  have w2 := wR_set w1 (i := a) (j := b) (by omega) (by omega) (mn0 0)
  have f2 : zfr [60] M1 (zwL M1 60 (a * 10 + b) (jL (mn0 0))) := zfr_L (zfr_rf _ _) (by decide)
  have p2 := pR_fr p1 f2 (by decide) (by decide)
  generalize zwL M1 60 (a * 10 + b) (jL (mn0 0)) = M2 at w2 f2 p2 ⊢
  refine ok_bi (c_opt (al := alN (alP c) a b) (w := gP c sv) p2 hV (fun i _ => alN_10 (by omega) i) w2 (fun i j hi hj => ?_) (fun i j q => ?_) (fun i j hi hj => by have := g_lo hV hi hj; unfold gP zBB; omega)) ?_
  · (try dsimp only)
    by_cases e : i = a ∧ j = b
    · obtain ⟨rfl, rfl⟩ := e
      simp [alN, mn0]
    · rw [if_neg e, wt_cap v2 i j hi hj]
      have : alN (alP c) a b i j = alP c i j := by
        unfold alN
        by_cases e1 : i = a
        · have : j ≠ b := fun q => e ⟨e1, q⟩
          simp [this]
        · simp [e1]
      rw [this]
  · (try dsimp only)
    by_cases e : i = a ∧ j = b
    · rw [if_pos e]; rfl
    · rw [if_neg e, wt_out i j q]
  · rintro x M3 ⟨⟨v, p, q1, q2, q3⟩, f3⟩
    dsimp only at q1
    refine ok_some ⟨⟨v, ?_, q2⟩, pR_fr p2 f3 (by decide) (by decide)⟩
    dsimp only
    rw [p2.2.2.1, q1, jI_l (by omega), jL_add]
theorem c_lwi {M : zM} {n m : Nat} {c : Nat → Nat → Int} {T sv : Int} (h : pR M n m c T sv) (hV : pV n m c T sv) {a b : Nat} (ha : a < n) (hb : b < m) : ok (fX4_leastWith (nI a) (nI b) M) (fun x => (∃ v, x.1 = jL (T + (c a b - sv) + v) ∧ isL n m (alX (alP c) a b) (gP c sv) v) ∧ pR x.2 n m c T sv) := by
  obtain ⟨v1, v2, v3, v4, v5⟩ := id hV
  unfold fX4_leastWith
  refine ok_sq (c_w10 h hV) ?_
  rintro M1 ⟨w1, p1, f1⟩
  refine ok_sq (P := fun M' => wR M' (fun i j => if i = a ∨ j = b then 0 else wt n m c (gP c sv) i j) ∧ zfr [60] M1 M') ?_ ?_
  · refine ok_up 10 (fun k x => ∃ M', x = (nI k, M') ∧ wR M' (fun i j => if (i = a ∧ j < k) ∨ (j = b ∧ i < k) then 0 else wt n m c (gP c sv) i j) ∧ zfr [60] M1 M') ?_ ?_ zFu 0 _ (by omega) (by unfold zFu; omega) ⟨M1, rfl, wR_cg w1 (fun i j _ _ => by simp), zfr_rf _ _⟩
    · rintro rec k x hk ⟨M2, rfl, w2, f2⟩ hrec
      (try dsimp only)
      rw [show (0 : Int64) = jL 0 from rfl, c_setW (by omega) hk (by omega), e_sq, c_setW hk (by omega) (by omega), e_sq]
      simp (disch := omega) only [e_lt, e_ltn, e_jn, e_sq, e_bi, l_0, l_1, l_2, l_3, l_4, l_5, l_6, l_7, l_8, l_9, l_10, l_11, l_12, l_13, l_14, l_15, l_16, l_17, l_18, l_19, l_20, l_21, l_22, l_23, l_24, l_25, l_26, l_27, l_28, l_29, l_30, l_31, l_32, l_33, l_34, l_35, l_36, l_37, l_38, l_39, l_40, l_41, l_48, l_50, l_56, l_57, l_59, l_60, l_63, l_64, l_70, l_97, l_99, l_122, l_128, l_190, l_220, l_255, l_320, l_500, l_999, l_1024, l_83520, l_100000, l_1000000, L_0, L_1, L_2, L_3, L_4, L_6, L_7, L_9, L_10, L_11, L_13, L_16, L_32, L_48, L_50, L_57, L_97, L_99, L_122, L_999, L_83520, L_4294967295, L_25937424601, L_1152921504606846976, ↓m_1000020, ↓m_1000012, ↓m_1000010, ↓m_1000000, ↓m_10004, ↓m_10000, ↓m_1000, ↓m_999, ↓m_99, ↓m_30, ↓m_20, ↓m_14, ↓m_12, ↓m_11, ↓m_10, ↓m_8, ↓m_4, ↓m_3, ↓m_2, ↓m_1, ↓mL_999, ↓mL_99, ↓mL_1, n_add, n_mul, nj_add, jn_add, n_sub, n_subj, nj_sub, jn_sub, nj_mul, jn_mul, jI_add, jI_sub, jI_mul, jI_neg, jL_add, jL_sub, jL_mul, jL_neg, n_l, j_l, jL_i, e_gn, e_gj, e_znn, e_znj, nn_ltT, nn_ltF, nn_leT, nn_leF, nn_eqT, nn_eqF, nj_ltT, nj_ltF, nj_leT, nj_leF, nj_eqT, nj_eqF, jn_ltT, jn_ltF, jn_leT, jn_leF, jn_eqT, jn_eqF, jj_ltT, jj_ltF, jj_leT, jj_leF, jj_eqT, jj_eqF, LL_ltT, LL_ltF, LL_leT, LL_leF, LL_eqT, LL_eqF, e_w1, e_w1s, e_w2, e_x1, e_x2, e_x2s, e_a1, e_a1s, e_a2, e_uT, e_uF, e_vT, e_vF, e_ft, e_tf, e_zbt, e_zbf, n_or, n_31, n_shl, n_bit, n_not, n_bc]
      refine hrec _ ⟨_, rfl, wR_cg (wR_set (wR_set w2 (i := a) (j := k) (by omega) hk (mn0 0)) (i := k) (j := b) hk (by omega) (mn0 0)) (fun i j _ _ => ?_), zfr_L (zfr_L f2 (by decide)) (by decide)⟩
      (try dsimp only)
      have e0 : mn0 0 = 0 := rfl
      rw [e0]
      by_cases q1 : i = k ∧ j = b
      · rw [if_pos q1, if_pos (by omega)]
      · rw [if_neg q1]
        by_cases q2 : i = a ∧ j = k
        · rw [if_pos q2, if_pos (by omega)]
        · rw [if_neg q2]
          have : (i = a ∧ j < k + 1 ∨ j = b ∧ i < k + 1) ↔ (i = a ∧ j < k ∨ j = b ∧ i < k) := by omega
          simp only [this]
    · rintro rec x ⟨M2, rfl, w2, f2⟩
      simp (disch := omega) only [e_lt, e_ltn, e_jn, e_sq, e_bi, l_0, l_1, l_2, l_3, l_4, l_5, l_6, l_7, l_8, l_9, l_10, l_11, l_12, l_13, l_14, l_15, l_16, l_17, l_18, l_19, l_20, l_21, l_22, l_23, l_24, l_25, l_26, l_27, l_28, l_29, l_30, l_31, l_32, l_33, l_34, l_35, l_36, l_37, l_38, l_39, l_40, l_41, l_48, l_50, l_56, l_57, l_59, l_60, l_63, l_64, l_70, l_97, l_99, l_122, l_128, l_190, l_220, l_255, l_320, l_500, l_999, l_1024, l_83520, l_100000, l_1000000, L_0, L_1, L_2, L_3, L_4, L_6, L_7, L_9, L_10, L_11, L_13, L_16, L_32, L_48, L_50, L_57, L_97, L_99, L_122, L_999, L_83520, L_4294967295, L_25937424601, L_1152921504606846976, ↓m_1000020, ↓m_1000012, ↓m_1000010, ↓m_1000000, ↓m_10004, ↓m_10000, ↓m_1000, ↓m_999, ↓m_99, ↓m_30, ↓m_20, ↓m_14, ↓m_12, ↓m_11, ↓m_10, ↓m_8, ↓m_4, ↓m_3, ↓m_2, ↓m_1, ↓mL_999, ↓mL_99, ↓mL_1, n_add, n_mul, nj_add, jn_add, n_sub, n_subj, nj_sub, jn_sub, nj_mul, jn_mul, jI_add, jI_sub, jI_mul, jI_neg, jL_add, jL_sub, jL_mul, jL_neg, n_l, j_l, jL_i, e_gn, e_gj, e_znn, e_znj, nn_ltT, nn_ltF, nn_leT, nn_leF, nn_eqT, nn_eqF, nj_ltT, nj_ltF, nj_leT, nj_leF, nj_eqT, nj_eqF, jn_ltT, jn_ltF, jn_leT, jn_leF, jn_eqT, jn_eqF, jj_ltT, jj_ltF, jj_leT, jj_leF, jj_eqT, jj_eqF, LL_ltT, LL_ltF, LL_leT, LL_leF, LL_eqT, LL_eqF, e_w1, e_w1s, e_w2, e_x1, e_x2, e_x2s, e_a1, e_a1s, e_a2, e_uT, e_uF, e_vT, e_vF, e_ft, e_tf, e_zbt, e_zbf, n_or, n_31, n_shl, n_bit, n_not, n_bc]
      refine ok_some ⟨wR_cg w2 (fun i j hi hj => ?_), f2⟩
      have : (i = a ∧ j < 10 ∨ j = b ∧ i < 10) ↔ (i = a ∨ j = b) := by omega
      simp only [this]
  · rintro M2 ⟨w2, f2⟩
    have p2 := pR_fr p1 f2 (by decide) (by decide)
    rw [c_gain p2 hV ha hb, e_sq]
    refine ok_bi (c_opt (al := alX (alP c) a b) (w := gP c sv) p2 hV (fun i _ => by unfold alX; rw [alP_10]; simp) w2 (fun i j hi hj => ?_) (fun i j q => ?_) (fun i j hi hj => by have := g_lo hV hi hj; unfold gP zBB; omega)) ?_
    · (try dsimp only)
      have hj10 : j ≠ 10 := by omega
      by_cases e : i = a ∨ j = b
      · have : alX (alP c) a b i j = false := by
          unfold alX
          rcases e with e | e <;> simp [e, hj10]
          intro _ q
          omega
        rw [if_pos e, this]
        rfl
      · have : alX (alP c) a b i j = alP c i j := by
          unfold alX
          have e1 : i ≠ a := fun q => e (Or.inl q)
          have e2 : j ≠ b := fun q => e (Or.inr q)
          simp [e1, e2]
        rw [if_neg e, wt_cap v2 i j hi hj, this]
    · (try dsimp only)
      by_cases e : i = a ∨ j = b
      · rw [if_pos e]
      · rw [if_neg e, wt_out i j q]
    · rintro x M3 ⟨⟨v, p, q1, q2, q3⟩, f3⟩
      dsimp only at q1
      have hg := g_lo hV ha hb
      refine ok_some ⟨⟨v, ?_, q2⟩, pR_fr p2 f3 (by decide) (by decide)⟩
      dsimp only
      rw [p2.2.2.1, q1, jI_add, jI_l (by omega), jL_add]
theorem c_inall {M : zM} {n m : Nat} {c : Nat → Nat → Int} {T sv : Int} (h : pR M n m c T sv) (hV : pV n m c T sv) {a b : Nat} (ha : a < n) (hb : b < m) : ok (fX4_isInAllBest (nI a) (nI b) M) (fun x => (∃ v w, x.1 = decide (w < v) ∧ isL n m (alN (alP c) a b) (gP c sv) v ∧ isL n m (alP c) (gP c sv) w) ∧ pR x.2 n m c T sv) := by
  obtain ⟨v1, v2, v3, v4, v5⟩ := id hV
  unfold fX4_isInAllBest
  refine ok_bi (c_lwo h hV ha hb) ?_
  rintro x M1 ⟨⟨v, q1, q2⟩, p1⟩
  refine ok_bi (c_lt p1 hV) ?_
  rintro y M2 ⟨⟨w, r1, r2⟩, p2⟩
  dsimp only at q1 r1 p2
  have k1 := isL_bd hV q2 (fun i _ => alN_10 (by omega) i)
  have k2 := isL_bd hV r2 (fun i _ => alP_10 c i)
  rw [q1, r1]
  by_cases e : w < v
  · simp (disch := omega) only [e_lt, e_ltn, e_jn, e_sq, e_bi, l_0, l_1, l_2, l_3, l_4, l_5, l_6, l_7, l_8, l_9, l_10, l_11, l_12, l_13, l_14, l_15, l_16, l_17, l_18, l_19, l_20, l_21, l_22, l_23, l_24, l_25, l_26, l_27, l_28, l_29, l_30, l_31, l_32, l_33, l_34, l_35, l_36, l_37, l_38, l_39, l_40, l_41, l_48, l_50, l_56, l_57, l_59, l_60, l_63, l_64, l_70, l_97, l_99, l_122, l_128, l_190, l_220, l_255, l_320, l_500, l_999, l_1024, l_83520, l_100000, l_1000000, L_0, L_1, L_2, L_3, L_4, L_6, L_7, L_9, L_10, L_11, L_13, L_16, L_32, L_48, L_50, L_57, L_97, L_99, L_122, L_999, L_83520, L_4294967295, L_25937424601, L_1152921504606846976, ↓m_1000020, ↓m_1000012, ↓m_1000010, ↓m_1000000, ↓m_10004, ↓m_10000, ↓m_1000, ↓m_999, ↓m_99, ↓m_30, ↓m_20, ↓m_14, ↓m_12, ↓m_11, ↓m_10, ↓m_8, ↓m_4, ↓m_3, ↓m_2, ↓m_1, ↓mL_999, ↓mL_99, ↓mL_1, n_add, n_mul, nj_add, jn_add, n_sub, n_subj, nj_sub, jn_sub, nj_mul, jn_mul, jI_add, jI_sub, jI_mul, jI_neg, jL_add, jL_sub, jL_mul, jL_neg, n_l, j_l, jL_i, e_gn, e_gj, e_znn, e_znj, nn_ltT, nn_ltF, nn_leT, nn_leF, nn_eqT, nn_eqF, nj_ltT, nj_ltF, nj_leT, nj_leF, nj_eqT, nj_eqF, jn_ltT, jn_ltF, jn_leT, jn_leF, jn_eqT, jn_eqF, jj_ltT, jj_ltF, jj_leT, jj_leF, jj_eqT, jj_eqF, LL_ltT, LL_ltF, LL_leT, LL_leF, LL_eqT, LL_eqF, e_w1, e_w1s, e_w2, e_x1, e_x2, e_x2s, e_a1, e_a1s, e_a2, e_uT, e_uF, e_vT, e_vF, e_ft, e_tf, e_zbt, e_zbf, n_or, n_31, n_shl, n_bit, n_not, n_bc]
    exact ok_some ⟨⟨v, w, by simp [e], q2, r2⟩, p2⟩
  · simp (disch := omega) only [e_lt, e_ltn, e_jn, e_sq, e_bi, l_0, l_1, l_2, l_3, l_4, l_5, l_6, l_7, l_8, l_9, l_10, l_11, l_12, l_13, l_14, l_15, l_16, l_17, l_18, l_19, l_20, l_21, l_22, l_23, l_24, l_25, l_26, l_27, l_28, l_29, l_30, l_31, l_32, l_33, l_34, l_35, l_36, l_37, l_38, l_39, l_40, l_41, l_48, l_50, l_56, l_57, l_59, l_60, l_63, l_64, l_70, l_97, l_99, l_122, l_128, l_190, l_220, l_255, l_320, l_500, l_999, l_1024, l_83520, l_100000, l_1000000, L_0, L_1, L_2, L_3, L_4, L_6, L_7, L_9, L_10, L_11, L_13, L_16, L_32, L_48, L_50, L_57, L_97, L_99, L_122, L_999, L_83520, L_4294967295, L_25937424601, L_1152921504606846976, ↓m_1000020, ↓m_1000012, ↓m_1000010, ↓m_1000000, ↓m_10004, ↓m_10000, ↓m_1000, ↓m_999, ↓m_99, ↓m_30, ↓m_20, ↓m_14, ↓m_12, ↓m_11, ↓m_10, ↓m_8, ↓m_4, ↓m_3, ↓m_2, ↓m_1, ↓mL_999, ↓mL_99, ↓mL_1, n_add, n_mul, nj_add, jn_add, n_sub, n_subj, nj_sub, jn_sub, nj_mul, jn_mul, jI_add, jI_sub, jI_mul, jI_neg, jL_add, jL_sub, jL_mul, jL_neg, n_l, j_l, jL_i, e_gn, e_gj, e_znn, e_znj, nn_ltT, nn_ltF, nn_leT, nn_leF, nn_eqT, nn_eqF, nj_ltT, nj_ltF, nj_leT, nj_leF, nj_eqT, nj_eqF, jn_ltT, jn_ltF, jn_leT, jn_leF, jn_eqT, jn_eqF, jj_ltT, jj_ltF, jj_leT, jj_leF, jj_eqT, jj_eqF, LL_ltT, LL_ltF, LL_leT, LL_leF, LL_eqT, LL_eqF, e_w1, e_w1s, e_w2, e_x1, e_x2, e_x2s, e_a1, e_a1s, e_a2, e_uT, e_uF, e_vT, e_vF, e_ft, e_tf, e_zbt, e_zbf, n_or, n_31, n_shl, n_bit, n_not, n_bc]
    exact ok_some ⟨⟨v, w, by simp [e], q2, r2⟩, p2⟩
theorem c_few {M : zM} {n m : Nat} {c : Nat → Nat → Int} {T sv : Int} (h : pR M n m c T sv) (hV : pV n m c T sv) : ok (fX4_fewestInBest M) (fun x => (∃ v z, x.1 = jI (z - 32 * v) ∧ isL n m (alP c) (gP c sv) v ∧ isL n m (alP c) (fun i j => 32 * gP c sv i j + 1) z) ∧ pR x.2 n m c T sv) := by
  unfold fX4_fewestInBest
  rw [show (32 : Int32) = jI 32 from rfl, show (1 : Int32) = jI 1 from rfl]
  refine ok_bi (c_lg h hV) ?_
  rintro x M1 ⟨⟨v, q1, q2⟩, p1⟩
  refine ok_sq (c_wsl p1 hV 32 1 (by omega) (by omega)) ?_
  rintro M2 ⟨w2, p2, f2⟩
  refine ok_bi (c_opt p2 hV (fun i _ => alP_10 c i) w2 (fun i j hi hj => wt_cap hV.2.1 i j hi hj) (fun i j q => wt_out i j q) (fun i j hi hj => by have := g_lo hV hi hj; unfold gP zBB; omega)) ?_
  rintro y M3 ⟨⟨z, p, r1, r2, r3⟩, f3⟩
  dsimp only at q1 r1
  refine ok_some ⟨⟨v, z, ?_, q2, r2⟩, pR_fr p2 f3 (by decide) (by decide)⟩
  dsimp only
  rw [q1, r1, show (32 : Int64) = jL 32 from rfl, jL_mul, jL_sub, jL_i]
theorem c_most {M : zM} {n m : Nat} {c : Nat → Nat → Int} {T sv : Int} (h : pR M n m c T sv) (hV : pV n m c T sv) : ok (fX4_mostInBest M) (fun x => (∃ v z, x.1 = jI (32 * v - z) ∧ isL n m (alP c) (gP c sv) v ∧ isL n m (alP c) (fun i j => 32 * gP c sv i j + -1) z) ∧ pR x.2 n m c T sv) := by
  unfold fX4_mostInBest
  rw [show (32 : Int32) = jI 32 from rfl, m_1]
  refine ok_bi (c_lg h hV) ?_
  rintro x M1 ⟨⟨v, q1, q2⟩, p1⟩
  refine ok_sq (c_wsl p1 hV 32 (-1) (by omega) (by omega)) ?_
  rintro M2 ⟨w2, p2, f2⟩
  refine ok_bi (c_opt p2 hV (fun i _ => alP_10 c i) w2 (fun i j hi hj => wt_cap hV.2.1 i j hi hj) (fun i j q => wt_out i j q) (fun i j hi hj => by have := g_lo hV hi hj; unfold gP zBB; omega)) ?_
  rintro y M3 ⟨⟨z, p, r1, r2, r3⟩, f3⟩
  dsimp only at q1 r1
  refine ok_some ⟨⟨v, z, ?_, q2, r2⟩, pR_fr p2 f3 (by decide) (by decide)⟩
  dsimp only
  rw [q1, r1, show (32 : Int64) = jL 32 from rfl, jL_mul, jL_sub, jL_i]
