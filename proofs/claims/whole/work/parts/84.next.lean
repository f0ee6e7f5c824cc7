/-! ===== tokens, as the reference reads them ===== -/
def rTx (M : zM) (len : Nat) (b : Nat → Int) : Prop := M.1 76 1 = nI len ∧ len ≤ 320 ∧ (∀ i, i < len → M.1 77 i = jI (b i % 256)) ∧ ∀ i, -128 ≤ b i ∧ b i ≤ 127
theorem rTx_fr {M M' : zM} {len : Nat} {b : Nat → Int} (h : rTx M len b) (e1 : M'.1 76 1 = M.1 76 1) (e2 : M'.1 77 = M.1 77) : rTx M' len b := ⟨by rw [e1]; exact h.1, h.2.1, fun i hi => by rw [e2]; exact h.2.2.1 i hi, h.2.2.2⟩
def rbt (len : Nat) (b : Nat → Int) (i : Nat) : Int := if i < len then b i % 256 else -4
theorem rbt_bd (len : Nat) (b : Nat → Int) (i : Nat) : -4 ≤ rbt len b i ∧ rbt len b i ≤ 255 := by
  unfold rbt
  split <;> omega
theorem r_byte {M : zM} {len i : Nat} {b : Nat → Int} (h : rTx M len b) (hi : i < 1000) : fX11_byteAt (nI i) M = some (jI (rbt len b i)) := by
  obtain ⟨h1, hl, h77, hb⟩ := h
  unfold fX11_byteAt rbt
  rw [h1]
  by_cases y : i < len
  · rw [nn_leF (by omega), e_gn (by omega), e_znn (by omega), h77 i y, if_pos y]
  · rw [nn_leT (by omega), if_neg y]; rfl
theorem r_in1 {len i : Nat} {b : Nat → Int} (hb : ∀ i, -128 ≤ b i ∧ b i ≤ 127) : fX11_in (jI (rbt len b i)).toInt64 (97 : Int64) (122 : Int64) = decide (i < len ∧ kd (b i) = 1) := by
  have h1 := rbt_bd len b i
  have h2 := hb i
  rw [jI_l (by omega), L_97, L_122, fi_eq _ _ _ (by omega) (by omega) (by omega)]
  rw [decide_eq_decide, kd_v.2.1]
  unfold rbt
  by_cases y : i < len
  · rw [if_pos y]; omega
  · rw [if_neg y]; omega
theorem r_in2 {len i : Nat} {b : Nat → Int} (hb : ∀ i, -128 ≤ b i ∧ b i ≤ 127) : fX11_in (jI (rbt len b i)).toInt64 (48 : Int64) (57 : Int64) = decide (i < len ∧ kd (b i) = 2) := by
  have h1 := rbt_bd len b i
  have h2 := hb i
  rw [jI_l (by omega), L_48, L_57, fi_eq _ _ _ (by omega) (by omega) (by omega)]
  rw [decide_eq_decide, kd_v.2.2]
  unfold rbt
  by_cases y : i < len
  · rw [if_pos y]; omega
  · rw [if_neg y]; omega
def rtk (K : Nat) : Nat := if K = 4 then 0 else if K = 0 then 3 else K
theorem r_fail {M : zM} (v : Int32) (h : M.1 76 3 = nI 0) : ∃ M', fX11_fails v M = some M' ∧ M'.1 76 3 = v ∧ M'.1 76 4 = M.1 76 6 ∧ (∀ x, x ≠ 3 → x ≠ 4 → M'.1 76 x = M.1 76 x) ∧ zfr [76] M M' := by
  refine ⟨zwI (zwI M 76 3 v) 76 4 (M.1 76 6), ?_, ?_, ?_, fun x w1 w2 => ?_, zfr_I (zfr_I (zfr_rf _ _) (by simp)) (by simp)⟩
  · unfold fX11_fails
    rw [h, if_pos (show nI 0 = (0 : Int32) from rfl), e_lt, e_lt, e_w1s, e_uF (by omega)]
  · rw [e_w1s, e_uF (by omega), e_w1s, e_uT rfl]
  · rw [e_w1s, e_uT rfl]
  · rw [e_w1s, e_uF w2, e_w1s, e_uF w1]
def nxtQ (M : zM) (len : Nat) (b : Nat → Int) (p : Nat) (M' : zM) : Prop := zfr [76] M M' ∧ (∀ x, (x < 3 ∨ 8 < x) → M'.1 76 x = M.1 76 x) ∧ M'.1 76 6 = nI (qs len b p) ∧ M'.1 76 7 = nI (rtk (ks len b p)) ∧
  (bdt len b p = false → M'.1 76 3 = nI 0 ∧ M'.1 76 5 = nI (es len b p) ∧ (ks len b p = 2 → M'.1 76 8 = nI (dv b (qs len b p) (es len b p - qs len b p)) ∧ ∀ i, i < es len b p - qs len b p → kd (b (qs len b p + i)) = 2)) ∧
  (bdt len b p = true → M'.1 76 3 = nI 1 ∧ M'.1 76 4 = nI (qs len b p))
theorem r_nxt {M : zM} {len p : Nat} {b : Nat → Int} (h : rTx M len b) (hp : p ≤ len) (h3 : M.1 76 3 = nI 0) (h5 : M.1 76 5 = nI p) : ok (fX11_next M) (nxtQ M len b p) := by
  obtain ⟨h1, hl, h77, hb⟩ := id h
  have hqb := qs_bd b hp
  have heb := es_bd b hp
  have hT : ∀ M', zfr [76] M M' → M'.1 76 1 = M.1 76 1 → rTx M' len b := fun M' f e => rTx_fr h e (f 77 (by decide)).1
  unfold fX11_next
  rw [h3, if_pos (show nI 0 ≤ (0 : Int32) by decide)]
  refine ok_sq (P := fun M' => zfr [76] M M' ∧ M'.1 76 5 = nI (qs len b p) ∧ ∀ x, x ≠ 5 → M'.1 76 x = M.1 76 x) ?_ ?_
  · refine ok_up len (fun i M' => zfr [76] M M' ∧ M'.1 76 5 = nI i ∧ (∀ x, x ≠ 5 → M'.1 76 x = M.1 76 x) ∧ qs len b p = qs len b i) ?_ ?_ zFu p _ hp (by unfold zFu; omega) ⟨zfr_rf _ _, h5, fun _ _ => rfl, rfl⟩
    · rintro rec i M' hi ⟨o1, o2, o3, o4⟩ hrec
      have es' : qs len b i = if decide (b i ≠ 32) = true then i else qs len b (i + 1) := fs_s hi
      have hbi := hb i
      have hr : rbt len b i = b i % 256 := if_pos hi
      (try dsimp only)
      rw [o2, r_byte (hT M' o1 (o3 1 (by omega))) (by omega), e_sq, hr, show (32 : Int32) = jI 32 from rfl]
      by_cases y : b i = 32
      · rw [jj_eqT (by omega), l_1, n_add, e_lt]
        rw [if_neg (by simp [y])] at es'
        refine hrec _ ⟨zfr_I o1 (by simp), by rw [e_w1s, e_uT rfl], fun x hx => by rw [e_w1s, e_uF hx]; exact o3 x hx, by rw [o4, es']⟩
      · rw [jj_eqF (by omega)]
        rw [if_pos (decide_eq_true y)] at es'
        exact ok_some ⟨o1, by rw [o4, es']; exact o2, o3⟩
    · rintro rec M' ⟨o1, o2, o3, o4⟩
      have hr : rbt len b len = -4 := if_neg (by omega)
      (try dsimp only)
      rw [o2, r_byte (hT M' o1 (o3 1 (by omega))) (by omega), e_sq, hr, if_neg (show ¬ jI (-4) = (32 : Int32) by decide)]
      refine ok_some ⟨o1, ?_, o3⟩
      rw [o4, o2]
      exact congrArg nI (fs_A _ _).symm
  rintro M3 ⟨f3, q5, q3⟩
  generalize hq : qs len b p = q at *
  have hK : ks len b p = if q < len then kd (b q) else 4 := by unfold ks; rw [hq]
  have hE : es len b p = if q < len then (if kd (b q) = 3 then q + 1 else fs (fun i => decide (kd (b i) ≠ kd (b q))) len q) else q := by unfold es; rw [hq]
  have hB : bdt len b p = (decide (ks len b p = 0) || (decide (ks len b p = 2) && decide (3 < es len b p - q))) := by unfold bdt; rw [hq]
  unfold nxtQ
  rw [hq]
  generalize ks len b p = K at *
  generalize es len b p = E at *
  obtain ⟨M6, hM6⟩ : ∃ M6, M6 = zwI M3 76 6 (nI q) := ⟨_, rfl⟩
  have f6 : zfr [76] M M6 := by rw [hM6]; exact zfr_I f3 (by simp)
  have m65 : M6.1 76 5 = nI q := by rw [hM6, e_w1s, e_uF (by omega)]; exact q5
  have m61 : M6.1 76 1 = M.1 76 1 := by rw [hM6, e_w1s, e_uF (by omega)]; exact q3 1 (by omega)
  rw [q5, e_lt, ← hM6, m65, r_byte (hT M6 f6 m61) (by omega), e_sq, e_lt]
  obtain ⟨M8, hM8⟩ : ∃ M8, M8 = zwI M6 76 8 (0 : Int32) := ⟨_, rfl⟩
  have f8 : zfr [76] M M8 := by rw [hM8]; exact zfr_I f6 (by simp)
  have m8x : ∀ x, x ≠ 5 → x ≠ 6 → x ≠ 8 → M8.1 76 x = M.1 76 x := fun x w5 w6 w8 => by rw [hM8, e_w1s, e_uF w8, hM6, e_w1s, e_uF w6, q3 x w5]
  have m85 : M8.1 76 5 = nI q := by rw [hM8, e_w1s, e_uF (by omega)]; exact m65
  have m86 : M8.1 76 6 = nI q := by rw [hM8, e_w1s, e_uF (by omega), hM6, e_w1s, e_uT rfl]
  have m88 : M8.1 76 8 = nI 0 := by rw [hM8, e_w1s, e_uT rfl]; rfl
  rw [← hM8, m_4]
  by_cases hql : q < len
  rotate_left
  · have hr : rbt len b q = -4 := if_neg hql
    rw [if_neg hql] at hK hE
    rw [hr, if_pos rfl, e_lt]
    refine ok_some ⟨zfr_I f8 (by simp), fun x hx => by rw [e_w1s, e_uF (by omega)]; exact m8x x (by omega) (by omega) (by omega), by rw [e_w1s, e_uF (by omega)]; exact m86, by rw [e_w1s, e_uT rfl, hK]; rfl, fun _ => ⟨by rw [e_w1s, e_uF (by omega), m8x 3 (by omega) (by omega) (by omega)]; exact h3, by rw [e_w1s, e_uF (by omega), m85, hE], fun w => by omega⟩, fun w => ?_⟩
    rw [hB, decide_eq_false (by omega), decide_eq_false (by omega)] at w
    cases w
  have hr : rbt len b q = b q % 256 := if_pos hql
  have hbq := hb q
  have hkl := kd_lt (b q)
  rw [if_pos hql] at hK hE
  rw [jj_eqF (show rbt len b q ≠ -4 ∧ rg (rbt len b q) ∧ rg (-4) by omega), r_in1 hb, e_lt]
  by_cases k1 : K = 1
  · -- a name
    rw [decide_eq_true (show q < len ∧ kd (b q) = 1 by omega), if_neg (by decide)]
    have hB0 : bdt len b p = false := by rw [hB, decide_eq_false (by omega), decide_eq_false (by omega)]; rfl
    refine ok_sq (P := fun M' => zfr [76] M M' ∧ M'.1 76 5 = nI E ∧ ∀ x, x ≠ 5 → M'.1 76 x = M8.1 76 x) ?_ ?_
    · refine ok_up len (fun i M' => zfr [76] M M' ∧ M'.1 76 5 = nI i ∧ (∀ x, x ≠ 5 → M'.1 76 x = M8.1 76 x) ∧ E = fs (fun i => decide (kd (b i) ≠ kd (b q))) len i) ?_ ?_ zFu q _ (by omega) (by unfold zFu; omega) ⟨f8, m85, fun _ _ => rfl, by rw [hE, if_neg (by omega)]⟩
      · rintro rec i M' hi ⟨o1, o2, o3, o4⟩ hrec
        have hT' := hT M' o1 (by rw [o3 1 (by omega)]; exact m8x 1 (by omega) (by omega) (by omega))
        have eo : fs (fun i => decide (kd (b i) ≠ kd (b q))) len i = if decide (kd (b i) ≠ kd (b q)) = true then i else fs (fun i => decide (kd (b i) ≠ kd (b q))) len (i + 1) := fs_s hi
        (try dsimp only)
        rw [o2, r_byte hT' (by omega), e_sq, r_in1 hb, e_lt]
        by_cases y : kd (b i) = 1
        · rw [decide_eq_true ⟨hi, y⟩, if_neg (by decide), l_1, n_add, e_lt]
          rw [if_neg (by rw [decide_eq_false (by omega)]; decide)] at eo
          exact hrec _ ⟨zfr_I o1 (by simp), by rw [e_w1s, e_uT rfl], fun x hx => by rw [e_w1s, e_uF hx]; exact o3 x hx, by rw [o4, eo]⟩
        · rw [decide_eq_false (fun w => y w.2), if_pos rfl]
          rw [if_pos (decide_eq_true (by omega))] at eo
          exact ok_some ⟨o1, by rw [o4, eo]; exact o2, o3⟩
      · rintro rec M' ⟨o1, o2, o3, o4⟩
        have hT' := hT M' o1 (by rw [o3 1 (by omega)]; exact m8x 1 (by omega) (by omega) (by omega))
        (try dsimp only)
        rw [o2, r_byte hT' (by omega), e_sq, r_in1 hb, e_lt, decide_eq_false (by omega), if_pos rfl]
        exact ok_some ⟨o1, by rw [o4, fs_A]; exact o2, o3⟩
    · rintro M29 ⟨o1, o2, o3⟩
      rw [e_lt]
      refine ok_some ⟨zfr_I o1 (by simp), fun x hx => by rw [e_w1s, e_uF (by omega), o3 x (by omega)]; exact m8x x (by omega) (by omega) (by omega), by rw [e_w1s, e_uF (by omega), o3 6 (by omega)]; exact m86, by rw [e_w1s, e_uT rfl, k1]; rfl, fun _ => ⟨by rw [e_w1s, e_uF (by omega), o3 3 (by omega), m8x 3 (by omega) (by omega) (by omega)]; exact h3, by rw [e_w1s, e_uF (by omega)]; exact o2, fun w => by omega⟩, fun w => ?_⟩
      rw [hB0] at w
      cases w
  rw [decide_eq_false (show ¬ (q < len ∧ kd (b q) = 1) by omega), if_pos rfl, r_in2 hb, e_lt]
  by_cases k2 : K = 2
  · -- a number
    rw [decide_eq_true (show q < len ∧ kd (b q) = 2 by omega), if_neg (by decide)]
    refine ok_sq (P := fun M' => zfr [76] M M' ∧ M'.1 76 5 = nI E ∧ (∀ x, x ≠ 5 → x ≠ 8 → M'.1 76 x = M8.1 76 x) ∧ (E - q ≤ 3 → M'.1 76 8 = nI (dv b q (E - q))) ∧ ∀ i, i < E - q → kd (b (q + i)) = 2) ?_ ?_
    · refine ok_up len (fun i M' => zfr [76] M M' ∧ M'.1 76 5 = nI i ∧ (∀ x, x ≠ 5 → x ≠ 8 → M'.1 76 x = M8.1 76 x) ∧ q ≤ i ∧ E = fs (fun i => decide (kd (b i) ≠ kd (b q))) len i ∧ (i - q ≤ 3 → M'.1 76 8 = nI (dv b q (i - q))) ∧ ∀ j, j < i - q → kd (b (q + j)) = 2) ?_ ?_ zFu q _ (by omega) (by unfold zFu; omega) ⟨f8, m85, fun _ _ _ => rfl, Nat.le_refl _, by rw [hE, if_neg (by omega)], fun _ => by rw [Nat.sub_self]; exact m88, fun j hj => absurd hj (by omega)⟩
      · rintro rec i M' hi ⟨o1, o2, o3, o3', o4, o5, o6⟩ hrec
        have hT' := hT M' o1 (by rw [o3 1 (by omega) (by omega)]; exact m8x 1 (by omega) (by omega) (by omega))
        have eo : fs (fun i => decide (kd (b i) ≠ kd (b q))) len i = if decide (kd (b i) ≠ kd (b q)) = true then i else fs (fun i => decide (kd (b i) ≠ kd (b q))) len (i + 1) := fs_s hi
        have o36 : M'.1 76 6 = nI q := by rw [o3 6 (by omega) (by omega)]; exact m86
        (try dsimp only)
        rw [o2, r_byte hT' (by omega), e_sq, r_in2 hb, e_lt]
        by_cases y : kd (b i) = 2
        · have hbi := hb i
          have hri : rbt len b i = b i % 256 := if_pos hi
          have hdig := kd_v.2.2.1 y
          rw [decide_eq_true ⟨hi, y⟩, if_neg (by decide), o36, n_sub (by omega), l_3]
          rw [if_neg (by rw [decide_eq_false (by omega)]; decide)] at eo
          have hall : ∀ j, j < i + 1 - q → kd (b (q + j)) = 2 := fun j hj => by
            by_cases e : j = i - q
            · rw [e, show q + (i - q) = i by omega]; exact y
            · exact o6 j (by omega)
          by_cases y3 : 3 ≤ i - q
          · rw [nn_leT (by omega), e_sq, e_lt, e_w1s, e_uF (by omega), o2, l_1, n_add, e_lt]
            exact hrec _ ⟨zfr_I (zfr_I o1 (by simp)) (by simp), by rw [e_w1s, e_uT rfl], fun x w1 w2 => by rw [e_w1s, e_uF w1, e_w1s, e_uF w2]; exact o3 x w1 w2, by omega, by rw [o4, eo], fun w => absurd w (by omega), hall⟩
          · have h8 := o5 (by omega)
            have hd := dv_999 (b := b) (q := q) (j := i - q) (by omega) o6
            rw [nn_leF (by omega), e_sq, h8, hri, l_10, n_mul, nj_add, show (48 : Int32) = jI 48 from rfl, jI_sub, e_sq, e_lt, e_w1s, e_uF (by omega), o2, l_1, n_add, e_lt]
            refine hrec _ ⟨zfr_I (zfr_I o1 (by simp)) (by simp), by rw [e_w1s, e_uT rfl], fun x w1 w2 => by rw [e_w1s, e_uF w1, e_w1s, e_uF w2]; exact o3 x w1 w2, by omega, by rw [o4, eo], fun w => ?_, hall⟩
            rw [e_w1s, e_uF (by omega), e_w1s, e_uT rfl, nI_j]
            refine congrArg jI ?_
            rw [show i + 1 - q = (i - q) + 1 by omega]
            show _ = ((10 * dv b q (i - q) + (b (q + (i - q)) - 48).toNat : Nat) : Int)
            rw [show q + (i - q) = i by omega]
            omega
        · rw [decide_eq_false (fun w => y w.2), if_pos rfl]
          rw [if_pos (decide_eq_true (by omega))] at eo
          have hEi : E = i := by rw [o4, eo]
          exact ok_some ⟨o1, by rw [hEi]; exact o2, o3, by rw [hEi]; exact o5, by rw [hEi]; exact o6⟩
      · rintro rec M' ⟨o1, o2, o3, o3', o4, o5, o6⟩
        have hT' := hT M' o1 (by rw [o3 1 (by omega) (by omega)]; exact m8x 1 (by omega) (by omega) (by omega))
        have hEi : E = len := by rw [o4, fs_A]
        (try dsimp only)
        rw [o2, r_byte hT' (by omega), e_sq, r_in2 hb, e_lt, decide_eq_false (by omega), if_pos rfl]
        exact ok_some ⟨o1, by rw [hEi]; exact o2, o3, by rw [hEi]; exact o5, by rw [hEi]; exact o6⟩
    · rintro M17 ⟨o1, o2, o3, o5, o6⟩
      obtain ⟨M25, hM25⟩ : ∃ M25, M25 = zwI M17 76 7 (2 : Int32) := ⟨_, rfl⟩
      have g5 : M25.1 76 5 = nI E := by rw [hM25, e_w1s, e_uF (by omega)]; exact o2
      have g6 : M25.1 76 6 = nI q := by rw [hM25, e_w1s, e_uF (by omega), o3 6 (by omega) (by omega)]; exact m86
      have g7 : M25.1 76 7 = nI 2 := by rw [hM25, e_w1s, e_uT rfl]; rfl
      have g3 : M25.1 76 3 = nI 0 := by rw [hM25, e_w1s, e_uF (by omega), o3 3 (by omega) (by omega), m8x 3 (by omega) (by omega) (by omega)]; exact h3
      have gx : ∀ x, (x < 3 ∨ 8 < x) → M25.1 76 x = M.1 76 x := fun x hx => by rw [hM25, e_w1s, e_uF (by omega), o3 x (by omega) (by omega)]; exact m8x x (by omega) (by omega) (by omega)
      have gf : zfr [76] M M25 := by rw [hM25]; exact zfr_I o1 (by simp)
      have g8 : E - q ≤ 3 → M25.1 76 8 = nI (dv b q (E - q)) := fun w => by rw [hM25, e_w1s, e_uF (by omega)]; exact o5 w
      rw [e_lt, ← hM25, g5, g6, n_sub (by omega), l_3]
      by_cases y : E - q ≤ 3
      · rw [nn_leT (by omega)]
        refine ok_some ⟨gf, gx, g6, by rw [k2]; exact g7, fun _ => ⟨g3, g5, fun _ => ⟨g8 y, o6⟩⟩, fun w => ?_⟩
        rw [hB, decide_eq_false (by omega), decide_eq_false (show ¬ 3 < E - q by omega), Bool.and_false] at w
        cases w
      · obtain ⟨M', u1, u2, u3, u4, u5⟩ := r_fail (nI 1) g3
        have u1 : fX11_fails (1 : Int32) M25 = some M' := u1
        rw [nn_leF (by omega), u1, e_sq]
        refine ok_some ⟨zfr_tr gf u5 (fun c hc => hc), fun x hx => by rw [u4 x (by omega) (by omega)]; exact gx x hx, by rw [u4 6 (by omega) (by omega)]; exact g6, by rw [u4 7 (by omega) (by omega), k2]; exact g7, fun w => ?_, fun _ => ⟨u2, by rw [u3]; exact g6⟩⟩
        rw [hB, decide_eq_true k2, decide_eq_true (show 3 < E - q by omega)] at w
        simp at w
  · -- a sign
    rw [decide_eq_false (show ¬ (q < len ∧ kd (b q) = 2) by omega), if_pos rfl, e_lt, e_w1s, e_uF (by omega), m85, l_1, n_add, e_lt]
    obtain ⟨M13, hM13⟩ : ∃ M13, M13 = zwI (zwI M8 76 7 (3 : Int32)) 76 5 (nI (q + 1)) := ⟨_, rfl⟩
    have g5 : M13.1 76 5 = nI (q + 1) := by rw [hM13, e_w1s, e_uT rfl]
    have g6 : M13.1 76 6 = nI q := by rw [hM13, e_w1s, e_uF (by omega), e_w1s, e_uF (by omega)]; exact m86
    have g7 : M13.1 76 7 = nI 3 := by rw [hM13, e_w1s, e_uF (by omega), e_w1s, e_uT rfl]; rfl
    have g3 : M13.1 76 3 = nI 0 := by rw [hM13, e_w1s, e_uF (by omega), e_w1s, e_uF (by omega), m8x 3 (by omega) (by omega) (by omega)]; exact h3
    have gx : ∀ x, (x < 3 ∨ 8 < x) → M13.1 76 x = M.1 76 x := fun x hx => by rw [hM13, e_w1s, e_uF (by omega), e_w1s, e_uF (by omega)]; exact m8x x (by omega) (by omega) (by omega)
    have gf : zfr [76] M M13 := by rw [hM13]; exact zfr_I (zfr_I f8 (by simp)) (by simp)
    have hk3 := (kd_v (x := b q)).1
    rw [← hM13, hr, show (59 : Int32) = jI 59 from rfl]
    by_cases k3 : K = 3
    · rw [jj_eqT (by omega)]
      refine ok_some ⟨gf, gx, g6, by rw [k3]; exact g7, fun _ => ⟨g3, by rw [hE, if_pos (by omega)]; exact g5, fun w => by omega⟩, fun w => ?_⟩
      rw [hB, decide_eq_false (by omega), decide_eq_false (by omega)] at w
      cases w
    · have k0 : K = 0 := by omega
      obtain ⟨M', u1, u2, u3, u4, u5⟩ := r_fail (nI 1) g3
      have u1 : fX11_fails (nI 1) M13 = some M' := u1
      rw [jj_eqF (by omega), u1, e_sq]
      refine ok_some ⟨zfr_tr gf u5 (fun c hc => hc), fun x hx => by rw [u4 x (by omega) (by omega)]; exact gx x hx, by rw [u4 6 (by omega) (by omega)]; exact g6, by rw [u4 7 (by omega) (by omega), k0]; exact g7, fun w => ?_, fun _ => ⟨u2, by rw [u3]; exact g6⟩⟩
      rw [hB, decide_eq_true k0] at w
      cases w
