/-! ===== times ===== -/
def tcn (g : Nat → Bool) : Nat → Nat
  | 0 => 0
  | i + 1 => tcn g i + (if g i = true then 1 else 0)
def tsm (g : Nat → Bool) (t : Nat → Nat) : Nat → Nat
  | 0 => 0
  | i + 1 => tsm g t i + (if g i = true then t i else 0)
def tlo (g : Nat → Bool) (t : Nat → Nat) : Nat → Nat
  | 0 => 0
  | i + 1 => if g i = true then (if tcn g i = 0 then t i else if tlo g t i ≤ t i then tlo g t i else t i) else tlo g t i
def thi (g : Nat → Bool) (t : Nat → Nat) : Nat → Nat
  | 0 => 0
  | i + 1 => if g i = true then (if tcn g i = 0 then t i else if t i ≤ thi g t i then thi g t i else t i) else thi g t i
theorem t_s0 {g : Nat → Bool} (t : Nat → Nat) {i : Nat} (h : g i = false) : tcn g (i + 1) = tcn g i ∧ tsm g t (i + 1) = tsm g t i ∧ tlo g t (i + 1) = tlo g t i ∧ thi g t (i + 1) = thi g t i := by
  simp [tcn, tsm, tlo, thi, h]
theorem t_s1 {g : Nat → Bool} (t : Nat → Nat) {i : Nat} (h : g i = true) : tcn g (i + 1) = tcn g i + 1 ∧ tsm g t (i + 1) = tsm g t i + t i ∧ tlo g t (i + 1) = (if tcn g i = 0 then t i else if tlo g t i ≤ t i then tlo g t i else t i) ∧ thi g t (i + 1) = (if tcn g i = 0 then t i else if t i ≤ thi g t i then thi g t i else t i) := by
  simp [tcn, tsm, tlo, thi, h]
theorem t_bd {g : Nat → Bool} {t : Nat → Nat} (ht : ∀ i, t i ≤ 500) (i : Nat) : tcn g i ≤ i ∧ tsm g t i ≤ 500 * i ∧ tlo g t i ≤ 500 ∧ thi g t i ≤ 500 := by
  induction i with
  | zero => exact ⟨Nat.le_refl _, Nat.le_refl _, Nat.zero_le _, Nat.zero_le _⟩
  | succ i ih =>
    obtain ⟨a1, a2, a3, a4⟩ := ih
    have := ht i
    cases hg : g i
    · obtain ⟨b1, b2, b3, b4⟩ := t_s0 t hg
      omega
    · obtain ⟨b1, b2, b3, b4⟩ := t_s1 t hg
      refine ⟨by omega, by omega, ?_, ?_⟩
      · rw [b3]
        split
        · omega
        · split <;> omega
      · rw [b4]
        split
        · omega
        · split <;> omega
theorem pN_t {P : Nat → Nat} {g : Nat → Bool} (hg : ∀ i, g i = decide (P i ≠ 10)) (n : Nat) : pN n P = (tcn g n : Nat) := by
  induction n with
  | zero => rfl
  | succ n ih =>
    unfold pN at *
    rw [sm, ih]
    by_cases z : P n = 10
    · have hz : g n = false := by rw [hg, decide_eq_false (fun w => w z)]
      rw [(t_s0 (fun _ => 0) hz).1]
      simp [pc, z]
    · have hz : g n = true := by rw [hg, decide_eq_true z]
      rw [(t_s1 (fun _ => 0) hz).1]
      simp [pc, z]
theorem c_ext {M : zM} {n : Nat} {P t : Nat → Nat} {g : Nat → Bool} (hn : n ≤ 10) (h55 : M.1 55 0 = nI n) (h66 : ∀ i, i < 10 → M.1 66 i = pv (P i)) (hP : ∀ i, i < n → P i ≠ 10 → P i < 10 ∧ fX10_tookNow (nI i) (nI (P i)) M = some (nI (t i))) (ht : ∀ i, t i ≤ 500) (hg : ∀ i, g i = decide (P i ≠ 10)) (b : Bool) : fX10_extremeTime (zb b) M = some (if tcn g n = 0 then jI (-10004) else nI (if b = true then tlo g t n else thi g t n)) := by
  apply ok_eq
  unfold fX10_extremeTime
  refine ok_up n (fun i x => x = ((if tcn g i = 0 then jI (-10004) else nI (if b = true then tlo g t i else thi g t i)), nI i)) ?_ ?_ zFu 0 _ (by omega) (by unfold zFu; omega) rfl
  · rintro rec i x hi rfl hrec
    obtain ⟨d1, d2, d3, d4⟩ := t_bd (g := g) ht i
    have hti := ht i
    dsimp only
    rw [h55, nn_leF (by omega), e_gn (by omega), e_lt, e_znn (by omega), h66 i (by omega), m_4, m_10004]
    by_cases z : P i = 10
    · have gz : g i = false := by rw [hg, decide_eq_false (fun w => w z)]
      obtain ⟨s1, _, s3, s4⟩ := t_s0 t gz
      rw [show pv (P i) = jI (-4) from if_pos z, if_pos rfl, e_sq, l_1, n_add]
      exact hrec _ (by rw [s1, s3, s4])
    · have gz : g i = true := by rw [hg, decide_eq_true z]
      obtain ⟨s1, _, s3, s4⟩ := t_s1 t gz
      obtain ⟨p1, p2⟩ := hP i hi z
      rw [show pv (P i) = nI (P i) from if_neg z, nj_eqF (by omega), p2, e_sq, e_lt, e_lt, e_sq, l_1, n_add]
      refine hrec _ ?_
      rw [s1, s3, s4, if_neg (show ¬ tcn g i + 1 = 0 by omega)]
      by_cases z2 : tcn g i = 0
      · simp only [z2, if_true, ite_self]
      · simp only [z2, if_false]
        cases b
        · rw [if_pos (show zb false = (0 : Int32) from rfl), if_neg (show ¬ (false = true) by decide), if_neg (show ¬ (false = true) by decide), nj_eqF (by omega)]
          by_cases z3 : t i ≤ thi g t i
          · rw [nn_leT (by omega), if_pos rfl, if_pos z3]
          · rw [nn_leF (by omega), if_neg (by decide), if_neg z3]
        · rw [if_neg (show ¬ zb true = (0 : Int32) by decide), if_pos rfl, if_pos rfl, nj_eqF (by omega)]
          by_cases z3 : tlo g t i ≤ t i
          · rw [nn_leT (by omega), if_pos rfl, if_pos z3]
          · rw [nn_leF (by omega), if_neg (by decide), if_neg z3]
  · rintro rec x rfl
    dsimp only
    rw [h55, nn_leT (by omega)]
    exact ok_some rfl
theorem c_tkn {M : zM} {ρ : Nat → Int} {S : Nat → Nat} (h1 : cR M 1 ρ S) {i j : Nat} (hV : V ρ S) (hi : i < S 64) (hj : j < S 65) : fX10_tookNow (nI i) (nI j) M = some (jI (tk ρ S i j)) := by
  obtain ⟨v1, v2, _⟩ := id hV
  have b7 : M.1 7 j = nI (S (70 + 60 * 1 + 6 * j + 0)) := (h1.2.1.2 j hj).1
  have b3 : M.1 3 i = nI (S (70 + 60 * 0 + 6 * i + 0)) := (h1.1.2 i hi).1
  have r9 : M.1 11 9 = jI (ρ 9) := h1.2.2.1.1 9 (by omega)
  unfold fX10_tookNow fX7_tookBy
  simp (disch := omega) only [e_lt, e_ltn, e_jn, e_sq, e_bi, l_0, l_1, l_2, l_3, l_4, l_5, l_6, l_7, l_8, l_9, l_10, l_11, l_12, l_13, l_14, l_15, l_16, l_17, l_18, l_19, l_20, l_21, l_22, l_23, l_24, l_25, l_26, l_27, l_28, l_29, l_30, l_31, l_32, l_33, l_34, l_35, l_36, l_37, l_38, l_39, l_40, l_41, l_48, l_50, l_56, l_57, l_59, l_60, l_63, l_64, l_70, l_97, l_99, l_122, l_128, l_190, l_220, l_255, l_320, l_500, l_999, l_1024, l_83520, l_100000, l_1000000, L_0, L_1, L_2, L_3, L_4, L_6, L_7, L_9, L_10, L_11, L_13, L_16, L_32, L_48, L_50, L_57, L_97, L_99, L_122, L_999, L_83520, L_4294967295, L_25937424601, L_1152921504606846976, ↓m_1000020, ↓m_1000012, ↓m_1000010, ↓m_1000000, ↓m_10004, ↓m_10000, ↓m_1000, ↓m_999, ↓m_99, ↓m_30, ↓m_20, ↓m_14, ↓m_12, ↓m_11, ↓m_10, ↓m_8, ↓m_4, ↓m_3, ↓m_2, ↓m_1, ↓mL_999, ↓mL_99, ↓mL_1, n_add, n_mul, nj_add, jn_add, n_sub, n_subj, nj_sub, jn_sub, nj_mul, jn_mul, if_true, if_false, jI_add, jI_sub, jI_mul, jI_neg, jL_add, jL_sub, jL_mul, jL_neg, n_l, j_l, jL_i, e_gn, e_gj, e_znn, e_znj, nn_ltT, nn_ltF, nn_leT, nn_leF, nn_eqT, nn_eqF, nj_ltT, nj_ltF, nj_leT, nj_leF, nj_eqT, nj_eqF, jn_ltT, jn_ltF, jn_leT, jn_leF, jn_eqT, jn_eqF, jj_ltT, jj_ltF, jj_leT, jj_leF, jj_eqT, jj_eqF, LL_ltT, LL_ltF, LL_leT, LL_leF, LL_eqT, LL_eqF, e_w1, e_w1s, e_w2, e_x1, e_x2, e_x2s, e_a1, e_a1s, e_a2, e_uT, e_uF, e_vT, e_vF, e_ft, e_tf, e_zbt, e_zbf, n_or, n_31, n_shl, n_bit, n_not, n_bc, Nat.reduceAdd, r9, b7, b3]
  unfold tk
  rw [nI_j, nI_j, jI_sub, jI_sub]
/-- the mean, as a fraction's part -/
def mv (g : Nat → Bool) (t : Nat → Nat) (n w : Nat) : Int32 := if tcn g n = 0 then jI (-10004) else jI (((if w = 0 then tsm g t n else tcn g n) / Nat.gcd (tsm g t n) (tcn g n) : Nat) : Int)
theorem c_mean {M : zM} {ρ : Nat → Int} {S P t : Nat → Nat} {f g : Nat → Bool} (h1 : cR M 1 ρ S) (hV : V ρ S) (hp : pR M (S 64) (S 65) (co ρ S 15) (ρ 7 * S 64 + ρ 8 * S 65) (ρ 7 + ρ 8)) (h66 : ∀ i, i < 10 → M.1 66 i = pv (P i)) (hP : ∀ i, i < S 64 → P i ≠ 10 → P i < S 65 ∧ tk ρ S i (P i) = t i) (ht : ∀ i, t i ≤ 500) (hf : ∀ i, i < S 64 → P i ≠ 10 → ∀ v x, isL (S 64) (S 65) (alP (co ρ S 15)) (gP (co ρ S 15) (ρ 7 + ρ 8)) v → isL (S 64) (S 65) (alN (alP (co ρ S 15)) i (P i)) (gP (co ρ S 15) (ρ 7 + ρ 8)) x → f i = decide (v < x)) (s : Bool) (hg : ∀ i, g i = (decide (P i ≠ 10) && (!s || f i))) {w : Nat} (hw : w < 2) : ok (fX10_meanTime (zb s) (nI w) M) (fun r => r.1 = mv g t (S 64) w) := by
  have hS := hV.1
  have hpv := V_pV hV 15
  unfold fX10_meanTime
  refine ok_sq (P := fun u => ∃ M', u = (nI (tsm g t (S 64)), nI (tcn g (S 64)), M')) ?_ ?_
  · refine ok_up (S 64) (fun i x => ∃ M', x = (nI (tsm g t i), nI (tcn g i), nI i, M') ∧ zfr [59, 60, 61, 62, 63, 64, 65] M M') ?_ ?_ zFu 0 _ (by omega) (by unfold zFu; omega) ⟨M, rfl, zfr_rf _ _⟩
    · rintro rec i x hi ⟨M1, rfl, f1⟩ hrec
      obtain ⟨d1, d2, d3, d4⟩ := t_bd (g := g) ht i
      have hti := ht i
      have p1 := pR_fr hp f1 (by decide) (by decide)
      have k66 : M1.1 66 i = pv (P i) := by rw [(f1 66 (by decide)).1]; exact h66 i (by omega)
      dsimp only
      rw [p1.1, nn_leF (by omega), e_gn (by omega), e_lt, e_znn (by omega), k66, m_4]
      refine ok_sq (P := fun u => ∃ M', u = (nI (tsm g t (i + 1)), nI (tcn g (i + 1)), M') ∧ zfr [59, 60, 61, 62, 63, 64, 65] M M') ?_ ?_
      · by_cases z : P i = 10
        · have gz : g i = false := by rw [hg, decide_eq_false (fun w => w z)]; rfl
          obtain ⟨s1, s2, _⟩ := t_s0 t gz
          rw [show pv (P i) = jI (-4) from if_pos z, if_pos rfl, s1, s2]
          exact ok_some ⟨M1, rfl, f1⟩
        · obtain ⟨q1, q2⟩ := hP i hi z
          have hk : ∀ M2, zfr [59, 60, 61, 62, 63, 64, 65] M M2 → g i = true → ok (sq (fX10_tookNow (nI i) (nI (P i)) M2) (fun (x95 : Int32) => lt ((nI (tsm g t i) + x95)) (fun (x96 : Int32) => some (x96, (nI (tcn g i) + (1 : Int32)), M2)))) (fun u => ∃ M', u = (nI (tsm g t (i + 1)), nI (tcn g (i + 1)), M') ∧ zfr [59, 60, 61, 62, 63, 64, 65] M M') := fun M2 f2 gz => by
            obtain ⟨s1, s2, _⟩ := t_s1 t gz
            rw [c_tkn (cR_fr h1 f2 (fun c w1 w2 w3 => by simp only [List.mem_cons, List.not_mem_nil, or_false] at w3; omega)) hV hi q1, e_sq, q2, ← nI_j, n_add, e_lt, l_1, n_add, s1, s2]
            exact ok_some ⟨M2, rfl, f2⟩
          rw [show pv (P i) = nI (P i) from if_neg z, nj_eqF (by omega), e_jn]
          cases hs : s
          · rw [if_pos (show zb false = (0 : Int32) from rfl)]
            refine hk M1 f1 ?_
            rw [hg, hs, decide_eq_true z]; rfl
          · rw [if_neg (show ¬ zb true = (0 : Int32) by decide)]
            refine ok_bi (ok_fr (c_inall p1 hpv hi q1) (frX4_isInAllBest _ _ M1)) ?_
            rintro b M2 ⟨⟨⟨v, w, b1, b2, b3⟩, _⟩, f2⟩
            dsimp only at b1 f2
            have f3 := zfr_tr f1 f2 (fun c hc => hc)
            have hfi := hf i hi z w v b3 b2
            have gi : g i = b := by rw [hg, hs, decide_eq_true z, hfi, b1]; simp
            cases b
            · obtain ⟨s1, s2, _⟩ := t_s0 t gi
              rw [if_pos rfl, s1, s2]
              exact ok_some ⟨M2, rfl, f3⟩
            · rw [if_neg (by decide)]
              exact hk M2 f3 gi
      · rintro u ⟨M2, rfl, f2⟩
        dsimp only
        rw [l_1, n_add]
        exact hrec _ ⟨M2, rfl, f2⟩
    · rintro rec x ⟨M1, rfl, f1⟩
      have p1 := pR_fr hp f1 (by decide) (by decide)
      dsimp only
      rw [p1.1, nn_leT (by omega)]
      exact ok_some ⟨M1, rfl⟩
  · rintro u ⟨M1, rfl⟩
    obtain ⟨d1, d2, d3, d4⟩ := t_bd (g := g) ht (S 64)
    dsimp only
    unfold mv
    by_cases z : tcn g (S 64) = 0
    · rw [if_pos (by rw [z]; rfl), if_pos z]
      exact ok_some rfl
    · rw [l_0, nn_eqF (by omega), n_l (by omega), n_l (by omega), c_frac (by omega) (by omega) (by omega) w hw, e_sq, if_neg z]
      exact ok_some (jL_i _)
def tv (g : Nat → Bool) (t : Nat → Nat) (n x : Nat) : Int32 := if x = 0 then nI (tcn g n) else if tcn g n = 0 then jI (-10004) else if x = 1 then nI (tlo g t n) else if x = 2 then nI (thi g t n) else mv g t n ((x + 1) % 2)
/-- a pair of the first pairing is sure if the least without it is more -/
theorem su_first {n m : Nat} {c : Nat → Nat → Int} {g : Nat → Nat → Int} {P : Nat → Nat} (hm : m ≤ 10) (hF : isF n m (alP c) g P) {i : Nat} (hi : i < n) (hz : P i ≠ 10) {v w x : Int} (hv : isL n m (alP c) g v) (hw : isL n m (alX (alP c) i (P i)) g w) : su (c i (P i)) v (g i (P i) + w) x = if v < x then 2 else 1 := by
  have hlt : P i < m := by rcases hF.1.1.1 i hi with q | q; exact q; exact absurd q hz
  have hal := hF.1.2 i hi
  have hc : c i (P i) ≠ -4 := by
    unfold alP at hal
    simpa [hz] using hal
  have hM := must_L hm hi hlt hal (fun k _ => alP_10 c k) hw
  have hPM : aQ n m (alM (alP c) i (P i)) P := ⟨hF.1.1, fun k hk => by
    unfold alM
    by_cases e : P k = 10
    · rw [if_pos e]
      exact decide_eq_true (fun w => hz (by rw [← w]; exact e))
    · rw [if_neg e, hF.1.2 k hk]
      by_cases e2 : k = i
      · subst e2; simp
      · have : P k ≠ P i := fun w => by
          rcases Nat.lt_or_gt_of_ne e2 with q | q
          · exact e (hF.1.1.2 k i q hi w)
          · exact hz (hF.1.1.2 i k q hk w.symm)
        simp [e2, this]⟩
  have a1 := hM.1 P hPM
  obtain ⟨q, q1, q2⟩ := hv.2
  have a2 := hF.2.1 q q1
  obtain ⟨r, r1, r2⟩ := hM.2
  have a3 := hv.1 r (aQ_M r1)
  have e : g i (P i) + w = v := by omega
  unfold su
  rw [if_neg hc, if_pos e]
theorem r_tms {M : zM} {ρ : Nat → Int} {S P t : Nat → Nat} {f g : Nat → Bool} (h2 : rR M 0 ρ S) (hV : V ρ S) (hrun : ok (fX11_layAll M) (fun M2 => ok (fX11_layFirst 91 M2) (fun M3 => rC M3 (S 64) (S 65) (co ρ S 15) ∧ (∀ i, i < 10 → M3.1 91 i = pv (P i)) ∧ rR M3 0 ρ S))) (hP : ∀ i, i < S 64 → P i ≠ 10 → P i < S 65 ∧ tk ρ S i (P i) = t i) (ht : ∀ i, t i ≤ 500) {x : Nat} (hx : x ≤ 6) (hf : ∀ i, i < S 64 → P i ≠ 10 → ∃ v w y, isL (S 64) (S 65) (alP (co ρ S 15)) (gP (co ρ S 15) (ρ 7 + ρ 8)) v ∧ isL (S 64) (S 65) (alX (alP (co ρ S 15)) i (P i)) (gP (co ρ S 15) (ρ 7 + ρ 8)) w ∧ isL (S 64) (S 65) (alN (alP (co ρ S 15)) i (P i)) (gP (co ρ S 15) (ρ 7 + ρ 8)) y ∧ su (co ρ S 15 i (P i)) v (gP (co ρ S 15) (ρ 7 + ρ 8) i (P i) + w) y = if f i = true then 2 else 1) (hg : ∀ i, g i = (decide (P i ≠ 10) && (decide (x < 5) || f i))) : ok (fX11_times (nI x) M) (fun r => r.1 = tv g t (S 64) x) := by
  have hS := hV.1
  have e2 : fX11_in (nI x).toInt64 (0 : Int64) (6 : Int64) = true := by
    rw [nI_j, jI_l (by omega), L_0, L_6, fi_eq _ _ _ (by omega) (by omega) (by omega)]
    exact decide_eq_true (by omega)
  unfold fX11_times
  rw [e2, e_lt, if_neg (by decide)]
  refine ok_sq hrun (fun M2 w => ok_sq w ?_)
  rintro M3 ⟨c3, k91, k3⟩
  refine ok_sq (P := fun u => ∃ M', u = (nI (tcn g (S 64)), nI (tlo g t (S 64)), nI (thi g t (S 64)), nI (tsm g t (S 64)), M')) ?_ ?_
  · refine ok_up (S 64) (fun i u => ∃ M', u = (nI (tcn g i), nI (tlo g t i), nI (thi g t i), nI (tsm g t i), nI i, M') ∧ zfr rT M3 M') ?_ ?_ zFu 0 _ (by omega) (by unfold zFu; omega) ⟨M3, rfl, zfr_rf _ _⟩
    · rintro rec i u hi ⟨M4, rfl, f4⟩ hrec
      obtain ⟨d1, d2, d3, d4⟩ := t_bd (g := g) ht i
      have hti := ht i
      have k4 := rR_fr k3 f4 (by decide) (by decide)
      have c4 := rC_fr c3 f4 (by decide)
      have k91' : M4.1 91 i = pv (P i) := by rw [(f4 91 (by decide)).1]; exact k91 i (by omega)
      have hl : fX11_linesOf (0 : Int32) (0 : Int32) M4 = some (nI (S 64)) := (r_lines k4).1
      dsimp only
      rw [hl, e_sq, nn_leF (by omega), e_gn (by omega), e_lt, e_znn (by omega), k91', m_4]
      refine ok_sq (P := fun u => ∃ M', u = (nI (tcn g (i + 1)), nI (tlo g t (i + 1)), nI (thi g t (i + 1)), nI (tsm g t (i + 1)), M') ∧ zfr rT M3 M') ?_ ?_
      · by_cases z : P i = 10
        · have gz : g i = false := by rw [hg, decide_eq_false (fun w => w z)]; rfl
          obtain ⟨s1, s2, s3, s4⟩ := t_s0 t gz
          rw [show pv (P i) = jI (-4) from if_pos z, if_pos rfl, s1, s2, s3, s4]
          exact ok_some ⟨M4, rfl, f4⟩
        · obtain ⟨q1, q2⟩ := hP i hi z
          have hk : ∀ M5, zfr rT M3 M5 → g i = true → ok (sq (fX11_tookOf (nI i) (nI (P i)) M5) (fun (x220 : Int32) => lt (if nI (tcn g i) = 0 then (x220) else (if nI (tlo g t i) ≤ x220 then (nI (tlo g t i)) else (x220))) (fun (x222 : Int32) => lt (if nI (tcn g i) = 0 then (x220) else (if x220 ≤ nI (thi g t i) then (nI (thi g t i)) else (x220))) (fun (x224 : Int32) => lt ((nI (tsm g t i) + x220)) (fun (x225 : Int32) => some ((nI (tcn g i) + (1 : Int32)), x222, x224, x225, M5)))))) (fun u => ∃ M', u = (nI (tcn g (i + 1)), nI (tlo g t (i + 1)), nI (thi g t (i + 1)), nI (tsm g t (i + 1)), M') ∧ zfr rT M3 M') := fun M5 f5 gz => by
            obtain ⟨s1, s2, s3, s4⟩ := t_s1 t gz
            rw [r_took (rR_fr k3 f5 (by decide) (by decide)) hV hi q1, e_sq, q2, ← nI_j, e_lt, e_lt, n_add, e_lt, l_1, n_add, s1, s2, s3, s4]
            refine ok_some ⟨M5, ?_, f5⟩
            by_cases y0 : tcn g i = 0
            · simp only [y0, if_true]
              rw [if_pos (show nI 0 = (0 : Int32) from rfl), if_pos (show nI 0 = (0 : Int32) from rfl)]
            · rw [l_0, nn_eqF (by omega), nn_eqF (by omega), if_neg y0, if_neg y0]
              by_cases y1 : tlo g t i ≤ t i
              · rw [nn_leT (by omega), if_pos y1]
                by_cases y2 : t i ≤ thi g t i
                · rw [nn_leT (by omega), if_pos y2]
                · rw [nn_leF (by omega), if_neg y2]
              · rw [nn_leF (by omega), if_neg y1]
                by_cases y2 : t i ≤ thi g t i
                · rw [nn_leT (by omega), if_pos y2]
                · rw [nn_leF (by omega), if_neg y2]
          rw [show pv (P i) = nI (P i) from if_neg z, nj_eqF (by omega), e_jn, l_5]
          by_cases hx5 : x < 5
          · rw [nn_ltT (by omega)]
            refine hk M4 f4 ?_
            rw [hg, decide_eq_true z, decide_eq_true hx5]; rfl
          · rw [nn_ltF (by omega)]
            obtain ⟨v, w, y, v1, w1, y1, hsu⟩ := hf i hi z
            refine ok_bi (r_sure k4 hV c4 hi q1 v1 w1 y1) ?_
            rintro b M5 ⟨b1, f5⟩
            dsimp only at b1 f5
            have f6 := zfr_tr f4 f5 (fun c hc => hc)
            have gi : g i = f i := by rw [hg, decide_eq_true z, decide_eq_false hx5]; simp
            rw [b1, hsu, l_2]
            cases hfi : f i
            · rw [hfi] at gi
              obtain ⟨s1, s2, s3, s4⟩ := t_s0 t gi
              rw [if_neg (show ¬ (false = true) by decide), nn_eqF (by omega), s1, s2, s3, s4]
              exact ok_some ⟨M5, rfl, f6⟩
            · rw [hfi] at gi
              rw [if_pos rfl, nn_eqT (by omega)]
              exact hk M5 f6 gi
      · rintro u ⟨M5, rfl, f5⟩
        dsimp only
        rw [l_1, n_add]
        exact hrec _ ⟨M5, rfl, f5⟩
    · rintro rec u ⟨M4, rfl, f4⟩
      have k4 := rR_fr k3 f4 (by decide) (by decide)
      have hl : fX11_linesOf (0 : Int32) (0 : Int32) M4 = some (nI (S 64)) := (r_lines k4).1
      dsimp only
      rw [hl, e_sq, nn_leT (by omega)]
      exact ok_some ⟨M4, rfl⟩
  · rintro u ⟨M4, rfl⟩
    obtain ⟨d1, d2, d3, d4⟩ := t_bd (g := g) ht (S 64)
    dsimp only
    unfold tv
    by_cases x0 : x = 0
    · rw [if_pos (by rw [x0]; rfl), if_pos x0]
      exact ok_some rfl
    rw [l_0, nn_eqF (by omega), if_neg x0]
    by_cases z : tcn g (S 64) = 0
    · rw [nn_eqT (by omega), if_pos z]
      exact ok_some rfl
    rw [nn_eqF (by omega), if_neg z, l_1, l_2]
    by_cases x1 : x = 1
    · rw [nn_eqT (by omega), if_pos x1]
      exact ok_some rfl
    rw [nn_eqF (by omega), if_neg x1]
    by_cases x2 : x = 2
    · rw [nn_eqT (by omega), if_pos x2]
      exact ok_some rfl
    rw [nn_eqF (by omega), if_neg x2, n_add, n_rm (by omega) (by omega) (by omega), n_l (by omega), n_l (by omega), r_frac (by omega) (by omega) (by omega) ((x + 1) % 2) (by omega), e_sq]
    unfold mv
    rw [if_neg z]
    exact ok_some (jL_i _)
theorem q_times {M : zM} (h : RR M) (p : Int32) : AG2 (fX10_times p) (fX11_times p) M := by
  obtain ⟨ρ, S, h1, h2, hV⟩ := h.1
  have h1 : cR M 1 ρ S := h1
  have hS := hV.1
  have hpv := V_pV hV 15
  rcases ar p 6 6 (by omega) rfl with ⟨x, hx, rfl, e1, e2⟩ | ⟨e1, e2, _⟩
  rotate_left
  · refine ⟨jI (-10000), M, M, ?_, ?_, h⟩
    · unfold fX10_times
      rw [l_0, l_6, e1]; rfl
    · unfold fX11_times
      rw [L_0, L_6, e2]; rfl
  obtain ⟨P, hF, hP10, g3, g4⟩ := cr_first h1 hV
  obtain ⟨Ml, l1, l2, l3⟩ := c_look h1 hV (pl := 15) (by omega)
  obtain ⟨t, ht0⟩ : ∃ t : Nat → Nat, t = fun i => if i < S 64 ∧ P i ≠ 10 then (tk ρ S i (P i)).toNat else 0 := ⟨_, rfl⟩
  have hPb : ∀ i, i < S 64 → P i ≠ 10 → P i < S 65 ∧ (0 ≤ tk ρ S i (P i) ∧ tk ρ S i (P i) ≤ 500) := fun i hi hz => by
    have hlt : P i < S 65 := by rcases hF.1.1.1 i hi with q | q; exact q; exact absurd q hz
    have hal := hF.1.2 i hi
    have hc : co ρ S 15 i (P i) ≠ -4 := by
      unfold alP at hal
      simpa [hz] using hal
    obtain ⟨v1, v2, v3, v4, v5, v6, v7, v8, v9, v10, v11, v12, v13⟩ := id hV
    unfold co at hc
    by_cases q : bd4 (pw ρ S 15 i (P i)) = true ∨ tk ρ S i (P i) < ρ 0 ∨ ρ 1 < tk ρ S i (P i)
    · rw [if_pos q] at hc
      exact absurd rfl hc
    · exact ⟨hlt, by omega, by omega⟩
  have hPt : ∀ i, i < S 64 → P i ≠ 10 → P i < S 65 ∧ tk ρ S i (P i) = t i := fun i hi hz => by
    obtain ⟨a1, a2⟩ := hPb i hi hz
    have : t i = (tk ρ S i (P i)).toNat := by rw [ht0]; exact if_pos ⟨hi, hz⟩
    exact ⟨a1, by omega⟩
  have ht : ∀ i, t i ≤ 500 := fun i => by
    rw [ht0]
    by_cases q : i < S 64 ∧ P i ≠ 10
    · have := hPb i q.1 q.2
      simp only [q, and_self, if_true, ne_eq, not_false_eq_true]
      omega
    · simp only [q, if_false]
      omega
  have hex : ∀ i, i < S 64 → P i ≠ 10 → ∃ v w y, isL (S 64) (S 65) (alP (co ρ S 15)) (gP (co ρ S 15) (ρ 7 + ρ 8)) v ∧ isL (S 64) (S 65) (alX (alP (co ρ S 15)) i (P i)) (gP (co ρ S 15) (ρ 7 + ρ 8)) w ∧ isL (S 64) (S 65) (alN (alP (co ρ S 15)) i (P i)) (gP (co ρ S 15) (ρ 7 + ρ 8)) y := fun i hi hz => by
    obtain ⟨_, _, ⟨w, _, y3⟩, _⟩ := c_lwi l2 hpv hi (hPt i hi hz).1
    obtain ⟨_, _, ⟨y, v, _, u3, u4⟩, _⟩ := c_inall l2 hpv hi (hPt i hi hz).1
    exact ⟨v, w, y, u4, y3, u3⟩
  obtain ⟨f, hf⟩ : ∃ f : Nat → Bool, ∀ i, i < S 64 → P i ≠ 10 → ∀ v x, isL (S 64) (S 65) (alP (co ρ S 15)) (gP (co ρ S 15) (ρ 7 + ρ 8)) v → isL (S 64) (S 65) (alN (alP (co ρ S 15)) i (P i)) (gP (co ρ S 15) (ρ 7 + ρ 8)) x → f i = decide (v < x) := by
    refine ⟨fun i => @decide (∃ v x, isL (S 64) (S 65) (alP (co ρ S 15)) (gP (co ρ S 15) (ρ 7 + ρ 8)) v ∧ isL (S 64) (S 65) (alN (alP (co ρ S 15)) i (P i)) (gP (co ρ S 15) (ρ 7 + ρ 8)) x ∧ v < x) (Classical.propDecidable _), fun i hi hz v x hv hx => ?_⟩
    by_cases q : v < x
    · rw [decide_eq_true q]
      exact @decide_eq_true _ (Classical.propDecidable _) ⟨v, x, hv, hx, q⟩
    · rw [decide_eq_false q]
      refine @decide_eq_false _ (Classical.propDecidable _) ?_
      rintro ⟨v', x', a1, a2, a3⟩
      rw [isL_un a1 hv, isL_un a2 hx] at a3
      exact q a3
  obtain ⟨g, hg⟩ : ∃ g : Nat → Bool, ∀ i, g i = (decide (P i ≠ 10) && (decide (x < 5) || f i)) := ⟨_, fun _ => rfl⟩
  have hfr : ∀ i, i < S 64 → P i ≠ 10 → ∃ v w y, isL (S 64) (S 65) (alP (co ρ S 15)) (gP (co ρ S 15) (ρ 7 + ρ 8)) v ∧ isL (S 64) (S 65) (alX (alP (co ρ S 15)) i (P i)) (gP (co ρ S 15) (ρ 7 + ρ 8)) w ∧ isL (S 64) (S 65) (alN (alP (co ρ S 15)) i (P i)) (gP (co ρ S 15) (ρ 7 + ρ 8)) y ∧ su (co ρ S 15 i (P i)) v (gP (co ρ S 15) (ρ 7 + ρ 8) i (P i) + w) y = if f i = true then 2 else 1 := fun i hi hz => by
    obtain ⟨v, w, y, a1, a2, a3⟩ := hex i hi hz
    refine ⟨v, w, y, a1, a2, a3, ?_⟩
    rw [su_first hS.2 hF hi hz a1 a2, hf i hi hz v y a1 a3]
    by_cases q : v < y
    · rw [if_pos q, decide_eq_true q, if_pos rfl]
    · rw [if_neg q, decide_eq_false q, if_neg (by decide)]
  refine ag2 (v := tv g t (S 64) x) h h2 ?_ (frX10_times _ M) (by unfold scr; decide) (fun M1 k1 _ => ?_) (fun M1 => frX11_times _ M1) (by unfold scr; decide)
  · unfold fX10_times
    rw [l_0, l_6, e1, e_lt, if_neg (by decide)]
    refine ok_sq g3 ?_
    rintro M2 ⟨p2, k66, f2⟩
    have h12 : cR M2 1 ρ S := cR_fr h1 f2 (fun c w1 w2 w3 => by simp only [List.mem_cons, List.not_mem_nil, or_false] at w3; omega)
    unfold tv
    by_cases x0 : x = 0
    · have hg' : ∀ i, g i = decide (P i ≠ 10) := fun i => by rw [hg, decide_eq_true (show x < 5 by omega)]; simp
      have hP' : ∀ i, i < 10 → P i ≤ 10 := fun i hi => by
        by_cases e : i < S 64
        · have := hF.1.1.1 i e; omega
        · rw [hP10 i (by omega)]; omega
      rw [nn_eqT (by omega), c_cnt hP' k66, e_sq, if_pos x0, pN_10 hS.1 hP10, pN_t hg', ← nI_j]
      exact ok_some rfl
    rw [nn_eqF (by omega), if_neg x0, l_2]
    by_cases x2 : x ≤ 2
    · have hg' : ∀ i, g i = decide (P i ≠ 10) := fun i => by rw [hg, decide_eq_true (show x < 5 by omega)]; simp
      have hce := c_ext (P := P) (t := t) (g := g) hS.1 p2.1 k66 (fun i hi hz => ⟨by have := (hPt i hi hz).1; omega, by rw [c_tkn h12 hV hi (hPt i hi hz).1, (hPt i hi hz).2, ← nI_j]⟩) ht hg'
      rw [nn_ltF (by omega), e_lt, l_1]
      rcases (show x = 1 ∨ x = 2 by omega) with rfl | rfl
      · rw [nn_eqT (by omega), hce, e_sq]
        refine ok_some ?_
        by_cases z : tcn g (S 64) = 0
        · simp [z]
        · simp [z]
      · rw [nn_eqF (by omega), hce, e_sq]
        refine ok_some ?_
        by_cases z : tcn g (S 64) = 0
        · simp [z]
        · simp [z]
    · have hmn := c_mean (t := t) (g := g) h12 hV p2 k66 hPt ht hf (!decide (x < 5)) (fun i => by rw [hg]; simp) (w := (x + 1) % 2) (by omega)
      rw [nn_ltT (by omega), l_3, l_5, n_sub (by omega), n_rm (by omega) (by omega) (by omega), e_lt, show (x - 3) % 2 = (x + 1) % 2 by omega]
      have hb : (if nI x < nI 5 then false else true) = !decide (x < 5) := by
        by_cases q : x < 5
        · rw [nn_ltT (by omega), decide_eq_true q]; rfl
        · rw [nn_ltF (by omega), decide_eq_false q]; rfl
      rw [hb]
      refine ok_bi hmn ?_
      rintro r M3 hr
      refine ok_some ?_
      dsimp only at hr ⊢
      rw [hr, if_neg (show ¬ x = 1 by omega), if_neg (show ¬ x = 2 by omega)]
      unfold mv
      by_cases z : tcn g (S 64) = 0
      · rw [if_pos z, if_pos z]
      · rw [if_neg z, if_neg z]
  · exact r_tms k1 hV (g4 M1 k1) hPt ht hx hfr hg
