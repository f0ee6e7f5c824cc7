/-! ===== tokens of a road's text ===== -/
def kd (x : Int) : Nat := if x = 59 then 3 else if 97 ≤ x ∧ x ≤ 122 then 1 else if 48 ≤ x ∧ x ≤ 57 then 2 else 0
def qs (len : Nat) (b : Nat → Int) (p : Nat) : Nat := fs (fun i => decide (b i ≠ 32)) len p
def ks (len : Nat) (b : Nat → Int) (p : Nat) : Nat := if qs len b p < len then kd (b (qs len b p)) else 4
def es (len : Nat) (b : Nat → Int) (p : Nat) : Nat := if qs len b p < len then (if kd (b (qs len b p)) = 3 then qs len b p + 1 else fs (fun i => decide (kd (b i) ≠ kd (b (qs len b p)))) len (qs len b p)) else qs len b p
def dv (b : Nat → Int) (q : Nat) : Nat → Nat
  | 0 => 0
  | j + 1 => 10 * dv b q j + (b (q + j) - 48).toNat
def bdt (len : Nat) (b : Nat → Int) (p : Nat) : Bool := decide (ks len b p = 0) || (decide (ks len b p = 2) && decide (3 < es len b p - qs len b p))
theorem kd_lt (x : Int) : kd x < 4 := by
  unfold kd
  split
  · omega
  · split
    · omega
    · split <;> omega
theorem kd_v {x : Int} : (kd x = 3 ↔ x = 59) ∧ (kd x = 1 ↔ 97 ≤ x ∧ x ≤ 122) ∧ (kd x = 2 ↔ 48 ≤ x ∧ x ≤ 57) := by
  unfold kd
  split
  · omega
  · split
    · omega
    · split <;> omega
theorem c_kd {x : Int} (h : -128 ≤ x ∧ x ≤ 127) : fX9_kindOf (jI x) = nI (kd x) := by
  unfold fX9_kindOf kd
  rw [show (59 : Int32) = jI 59 from rfl, show (97 : Int32) = jI 97 from rfl, show (122 : Int32) = jI 122 from rfl, show (48 : Int32) = jI 48 from rfl, show (57 : Int32) = jI 57 from rfl]
  by_cases a1 : x = 59
  · rw [jj_eqT (by omega), if_pos a1]; rfl
  rw [jj_eqF (by omega), if_neg a1]
  by_cases a2 : x < 97
  · rw [jj_ltT (by omega), if_neg (show ¬ (97 ≤ x ∧ x ≤ 122) by omega)]
    by_cases a3 : x < 48
    · rw [jj_ltT (by omega), if_neg (by omega)]; rfl
    · rw [jj_ltF (by omega)]
      by_cases a4 : 57 < x
      · rw [jj_ltT (by omega), if_neg (by omega)]; rfl
      · rw [jj_ltF (by omega), if_pos (by omega)]; rfl
  · rw [jj_ltF (by omega)]
    by_cases a3 : 122 < x
    · rw [jj_ltT (by omega), jj_ltF (by omega), jj_ltT (by omega), if_neg (by omega), if_neg (by omega)]; rfl
    · rw [jj_ltF (by omega), if_pos (by omega)]; rfl
theorem qs_bd (b : Nat → Int) {len p : Nat} (h : p ≤ len) : p ≤ qs len b p ∧ qs len b p ≤ len := fs_bd _ h
theorem es_bd (b : Nat → Int) {len p : Nat} (h : p ≤ len) : qs len b p ≤ es len b p ∧ es len b p ≤ len ∧ (qs len b p < len → qs len b p < es len b p) := by
  have h1 := qs_bd b h
  unfold es
  by_cases y : qs len b p < len
  · rw [if_pos y]
    by_cases y2 : kd (b (qs len b p)) = 3
    · rw [if_pos y2]; omega
    · rw [if_neg y2, fs_s y, if_neg (by simp)]
      have := fs_bd (fun i => decide (kd (b i) ≠ kd (b (qs len b p)))) (A := len) (i := qs len b p + 1) (by omega)
      omega
  · rw [if_neg y]; omega
theorem dv_le {b : Nat → Int} {q : Nat} : ∀ {j : Nat}, j ≤ 3 → (∀ i, i < j → kd (b (q + i)) = 2) → dv b q j < 10 ^ j
  | 0, _, _ => by show 0 < 10 ^ 0; omega
  | j + 1, hj, h => by
    have h1 := dv_le (q := q) (j := j) (by omega) (fun i hi => h i (by omega))
    have h2 := kd_v.2.2.1 (h j (by omega))
    show 10 * dv b q j + (b (q + j) - 48).toNat < 10 ^ (j + 1)
    rw [Nat.pow_succ]
    omega
theorem dv_999 {b : Nat → Int} {q j : Nat} (hj : j ≤ 3) (h : ∀ i, i < j → kd (b (q + i)) = 2) : dv b q j ≤ 999 := by
  have h1 := dv_le hj h
  have h2 : 10 ^ j ≤ 10 ^ 3 := Nat.pow_le_pow_right (by omega) hj
  omega
/-- the class's text, at a place -/
def cT (M : zM) (len : Nat) (b : Nat → Int) : Prop := M.1 50 1 = nI len ∧ len ≤ 320 ∧ (∀ i, i < len → M.1 51 i = jI (b i)) ∧ ∀ i, -128 ≤ b i ∧ b i ≤ 127
theorem cT_fr {M M' : zM} {len : Nat} {b : Nat → Int} (h : cT M len b) (e1 : M'.1 50 1 = M.1 50 1) (e2 : M'.1 51 = M.1 51) : cT M' len b := ⟨by rw [e1]; exact h.1, h.2.1, fun i hi => by rw [e2]; exact h.2.2.1 i hi, h.2.2.2⟩
theorem c_fail (v : Int32) (M : zM) : ∃ M', fX9_fail v M = some (false, M') ∧ M'.1 50 2 = v ∧ M'.1 50 3 = M.1 50 6 ∧ (∀ x, x ≠ 2 → x ≠ 3 → M'.1 50 x = M.1 50 x) ∧ zfr [50] M M' := by
  refine ⟨zwI (zwI M 50 2 v) 50 3 (M.1 50 6), ?_, ?_, ?_, fun x w1 w2 => ?_, zfr_I (zfr_I (zfr_rf _ _) (by simp)) (by simp)⟩
  · unfold fX9_fail
    rw [e_lt, e_lt, e_w1s, e_uF (by omega)]
  · rw [e_w1s, e_uF (by omega), e_w1s, e_uT rfl]
  · rw [e_w1s, e_uT rfl]
  · rw [e_w1s, e_uF w2, e_w1s, e_uF w1]
def tokQ (M : zM) (len : Nat) (b : Nat → Int) (p w : Nat) (r : Bool × zM) : Prop := zfr [50] M r.2 ∧ (r.2.1 50 5 = nI (ks len b p) ∧ r.2.1 50 6 = nI (qs len b p) ∧ r.2.1 50 1 = M.1 50 1 ∧ r.2.1 50 8 = M.1 50 8) ∧
  (bdt len b p = true → r.1 = false ∧ r.2.1 50 2 = nI 1 ∧ r.2.1 50 3 = nI (qs len b p)) ∧
  (bdt len b p = false → (w = 5 ∨ ks len b p = w) → r.1 = true ∧ r.2.1 50 2 = M.1 50 2 ∧ r.2.1 50 4 = nI (es len b p) ∧ (ks len b p = 2 → r.2.1 50 7 = nI (dv b (qs len b p) (es len b p - qs len b p)) ∧ ∀ i, i < es len b p - qs len b p → kd (b (qs len b p + i)) = 2)) ∧
  (bdt len b p = false → ¬ (w = 5 ∨ ks len b p = w) → r.1 = false ∧ r.2.1 50 2 = nI 2 ∧ r.2.1 50 3 = nI (qs len b p))
theorem c_tok {M : zM} {len p w : Nat} {b : Nat → Int} (h : cT M len b) (hp : p ≤ len) (h4 : M.1 50 4 = nI p) (hw : w < 6) : ok (fX9_takeToken (nI w) M) (tokQ M len b p w) := by
  obtain ⟨h1, hl, h51, hb⟩ := h
  have hqb := qs_bd b hp
  have heb := es_bd b hp
  unfold fX9_takeToken
  refine ok_sq (P := fun M' => zfr [50] M M' ∧ M'.1 50 4 = nI (qs len b p) ∧ ∀ x, x ≠ 4 → M'.1 50 x = M.1 50 x) ?_ ?_
  · refine ok_up len (fun i M' => zfr [50] M M' ∧ M'.1 50 4 = nI i ∧ (∀ x, x ≠ 4 → M'.1 50 x = M.1 50 x) ∧ qs len b p = qs len b i) ?_ ?_ zFu p _ hp (by unfold zFu; omega) ⟨zfr_rf _ _, h4, fun _ _ => rfl, rfl⟩
    · rintro rec i M' hi ⟨o1, o2, o3, o4⟩ hrec
      have es' : qs len b i = if decide (b i ≠ 32) = true then i else qs len b (i + 1) := fs_s hi
      have hbi := hb i
      have k51 : M'.1 51 i = jI (b i) := by rw [(o1 51 (by decide)).1]; exact h51 i hi
      (try dsimp only)
      rw [o3 1 (by omega), h1, o2, nn_leF (by omega), e_gn (by omega), e_znn (by omega), k51, show (32 : Int32) = jI 32 from rfl]
      by_cases y : b i = 32
      · rw [jj_eqT (by omega), l_1, n_add, e_lt]
        rw [if_neg (by simp [y])] at es'
        refine hrec _ ⟨zfr_I o1 (by simp), by rw [e_w1s, e_uT rfl], fun x hx => by rw [e_w1s, e_uF hx]; exact o3 x hx, by rw [o4, es']⟩
      · rw [jj_eqF (by omega)]
        rw [if_pos (decide_eq_true y)] at es'
        exact ok_some ⟨o1, by rw [o4, es']; exact o2, o3⟩
    · rintro rec M' ⟨o1, o2, o3, o4⟩
      (try dsimp only)
      rw [o3 1 (by omega), h1, o2, nn_leT (by omega)]
      refine ok_some ⟨o1, ?_, o3⟩
      rw [o4, o2]
      exact congrArg nI (fs_A _ _).symm
  rintro M3 ⟨f3, q4, q3⟩
  generalize hq : qs len b p = q at *
  have hK : ks len b p = if q < len then kd (b q) else 4 := by unfold ks; rw [hq]
  have hE : es len b p = if q < len then (if kd (b q) = 3 then q + 1 else fs (fun i => decide (kd (b i) ≠ kd (b q))) len q) else q := by unfold es; rw [hq]
  have hB : bdt len b p = (decide (ks len b p = 0) || (decide (ks len b p = 2) && decide (3 < es len b p - q))) := by unfold bdt; rw [hq]
  unfold tokQ
  rw [hq]
  generalize ks len b p = K at *
  generalize es len b p = E at *
  have hK4 : K ≤ 4 := by
    have := kd_lt (b q)
    rw [hK]
    split <;> omega
  obtain ⟨M5, hM5⟩ : ∃ M5, M5 = zwI M3 50 6 (nI q) := ⟨_, rfl⟩
  have f5 : zfr [50] M M5 := by rw [hM5]; exact zfr_I f3 (by simp)
  have m54 : M5.1 50 4 = nI q := by rw [hM5, e_w1s, e_uF (by omega)]; exact q4
  have m51 : M5.1 50 1 = nI len := by rw [hM5, e_w1s, e_uF (by omega), q3 1 (by omega)]; exact h1
  have hkind : (if nI len ≤ nI q then (some (4 : Int32)) else (grd (zix (nI q) 320) (lt (fX9_kindOf (M5.1 51 (zn (nI q)))) (fun (x34 : Int32) => some x34)))) = some (nI K) := by
    by_cases y : q < len
    · have k51 : M5.1 51 q = jI (b q) := by rw [(f5 51 (by decide)).1]; exact h51 q y
      rw [if_pos y] at hK
      rw [nn_leF (by omega), e_gn (by omega), e_znn (by omega), k51, c_kd (hb q), e_lt, hK]
    · rw [if_neg y] at hK
      rw [nn_leT (by omega), hK]; rfl
  rw [q4, e_lt, ← hM5, m51, m54, hkind, e_sq, e_lt, e_lt]
  obtain ⟨M9, hM9⟩ : ∃ M9, M9 = zwI (zwI M5 50 5 (nI K)) 50 7 (0 : Int32) := ⟨_, rfl⟩
  have f9 : zfr [50] M M9 := by rw [hM9]; exact zfr_I (zfr_I f5 (by simp)) (by simp)
  have m9x : ∀ x, x ≠ 4 → x ≠ 5 → x ≠ 6 → x ≠ 7 → M9.1 50 x = M.1 50 x := fun x w4 w5 w6 w7 => by
    rw [hM9, e_w1s, e_uF w7, e_w1s, e_uF w5, hM5, e_w1s, e_uF w6, q3 x w4]
  have m94 : M9.1 50 4 = nI q := by rw [hM9, e_w1s, e_uF (by omega), e_w1s, e_uF (by omega)]; exact m54
  have m95 : M9.1 50 5 = nI K := by rw [hM9, e_w1s, e_uF (by omega), e_w1s, e_uT rfl]
  have m96 : M9.1 50 6 = nI q := by rw [hM9, e_w1s, e_uF (by omega), e_w1s, e_uF (by omega), hM5, e_w1s, e_uT rfl]
  have m97 : M9.1 50 7 = nI 0 := by rw [hM9, e_w1s, e_uT rfl]; rfl
  rw [← hM9]
  refine ok_sq (P := fun M' => zfr [50] M M' ∧ M'.1 50 4 = nI E ∧ (∀ x, x ≠ 4 → x ≠ 7 → M'.1 50 x = M9.1 50 x) ∧ (K = 2 → (E - q ≤ 3 → M'.1 50 7 = nI (dv b q (E - q))) ∧ ∀ i, i < E - q → kd (b (q + i)) = 2)) ?_ ?_
  · refine ok_up len (fun i M' => zfr [50] M M' ∧ M'.1 50 4 = nI i ∧ (∀ x, x ≠ 4 → x ≠ 7 → M'.1 50 x = M9.1 50 x) ∧ q ≤ i ∧ (K = 3 → i = q ∨ i = q + 1) ∧ (q < len → K ≠ 3 → E = fs (fun i => decide (kd (b i) ≠ kd (b q))) len i) ∧ (K = 2 → (i - q ≤ 3 → M'.1 50 7 = nI (dv b q (i - q))) ∧ ∀ j, j < i - q → kd (b (q + j)) = 2)) ?_ ?_ zFu q _ (by omega) (by unfold zFu; omega) ⟨f9, m94, fun _ _ _ => rfl, Nat.le_refl _, fun _ => Or.inl rfl, fun y1 y2 => ?_, fun _ => ⟨fun _ => by rw [Nat.sub_self]; exact m97, fun j hj => absurd hj (by omega)⟩⟩
    · rintro rec i M' hi ⟨o1, o2, o3, o4, o5, o6, o7⟩ hrec
      have hql : q < len := by omega
      rw [if_pos hql] at hK hE
      have k51 : M'.1 51 i = jI (b i) := by rw [(o1 51 (by decide)).1]; exact h51 i hi
      have hkl := kd_lt (b i)
      have hstay : K ≠ 3 → kd (b i) ≠ K → E = i := fun y3 y => by
        rw [o6 hql y3, fs_s hi, if_pos (decide_eq_true (by rw [← hK]; exact y))]
      have hgo : kd (b i) = K → (K = 3 → i = q) → ok (grd (zix (nI i) 320) (lt (zwI M' 50 7 ((((M'.1 50 7) * (10 : Int32)) + (M'.1 51 (zn (nI i)))) - (48 : Int32))) (fun (M14 : zM) => lt (zwI M14 50 4 ((M14.1 50 4) + (1 : Int32))) (fun (M15 : zM) => rec M15)))) (fun M' => zfr [50] M M' ∧ M'.1 50 4 = nI E ∧ (∀ x, x ≠ 4 → x ≠ 7 → M'.1 50 x = M9.1 50 x) ∧ (K = 2 → (E - q ≤ 3 → M'.1 50 7 = nI (dv b q (E - q))) ∧ ∀ i, i < E - q → kd (b (q + i)) = 2)) := fun y y3 => by
        rw [e_gn (by omega), e_znn (by omega), k51, e_lt, e_w1s, e_uF (by omega), o2, l_1, n_add, e_lt]
        refine hrec _ ⟨zfr_I (zfr_I o1 (by simp)) (by simp), by rw [e_w1s, e_uT rfl], fun x w1 w2 => by rw [e_w1s, e_uF w1, e_w1s, e_uF w2]; exact o3 x w1 w2, by omega, fun w => Or.inr (by rw [y3 w]), fun w1 w2 => ?_, fun w => ⟨fun w2 => ?_, fun j hj => ?_⟩⟩
        · rw [o6 hql w2, fs_s hi, if_neg (by rw [decide_eq_false (by rw [← hK]; simpa using y)]; decide)]
        · have hbi := hb i
          have k2 : 48 ≤ b i ∧ b i ≤ 57 := kd_v.2.2.1 (by rw [y, w])
          have h7 := (o7 w).1 (by omega)
          have hd := dv_999 (b := b) (q := q) (j := i - q) (by omega) (o7 w).2
          rw [e_w1s, e_uF (by omega), e_w1s, e_uT rfl, h7, l_10, n_mul, nj_add, show (48 : Int32) = jI 48 from rfl, jI_sub, nI_j]
          refine congrArg jI ?_
          rw [show i + 1 - q = (i - q) + 1 by omega]
          show _ = ((10 * dv b q (i - q) + (b (q + (i - q)) - 48).toNat : Nat) : Int)
          rw [show q + (i - q) = i by omega]
          omega
        · by_cases e : j = i - q
          · rw [e, show q + (i - q) = i by omega, y, w]
          · exact (o7 w).2 j (by omega)
      (try dsimp only)
      rw [o3 1 (by omega) (by omega), m9x 1 (by omega) (by omega) (by omega) (by omega), h1, o2, nn_leF (by omega), e_gn (by omega), e_znn (by omega), k51, c_kd (hb i), e_lt, o3 5 (by omega) (by omega), m95]
      by_cases y : kd (b i) = K
      · rw [nn_eqT (by omega), e_jn, l_3]
        by_cases y3 : K = 3
        · rw [nn_eqT (by omega), o3 6 (by omega) (by omega), m96]
          by_cases y4 : i = q
          · have := hgo y (fun _ => y4)
            rw [e_znn (by omega), k51] at this
            rw [nn_eqT (by omega)]
            exact this
          · rw [nn_eqF (by omega)]
            rcases o5 y3 with w | w
            · exact absurd w y4
            · refine ok_some ⟨o1, ?_, o3, fun w => by omega⟩
              rw [hE, if_pos (by omega)]
              rw [o2, w]
        · have := hgo y (fun w => absurd w y3)
          rw [e_znn (by omega), k51] at this
          rw [nn_eqF (by omega)]
          exact this
      · rw [nn_eqF (by omega)]
        by_cases y3 : K = 3
        · rcases o5 y3 with w | w
          · rw [w] at y
            exact absurd hK.symm y
          · refine ok_some ⟨o1, ?_, o3, fun w => by omega⟩
            rw [hE, if_pos (by omega), o2, w]
        · have hEi := hstay y3 y
          refine ok_some ⟨o1, by rw [hEi]; exact o2, o3, fun w => by rw [hEi]; exact o7 w⟩
    · rintro rec M' ⟨o1, o2, o3, o4, o5, o6, o7⟩
      (try dsimp only)
      rw [o3 1 (by omega) (by omega), m9x 1 (by omega) (by omega) (by omega) (by omega), h1, o2, nn_leT (by omega)]
      have hEl : E = len := by
        by_cases hql : q < len
        · by_cases y3 : K = 3
          · rw [if_pos hql] at hK hE
            rw [hE, if_pos (by omega)]
            rcases o5 y3 with w | w <;> omega
          · rw [o6 hql y3, fs_A]
        · rw [hE, if_neg hql]; omega
      exact ok_some ⟨o1, by rw [hEl]; exact o2, o3, fun w => by rw [hEl]; exact o7 w⟩
    · rw [if_pos y1] at hK hE
      rw [hE, if_neg (by omega)]
  rintro M12 ⟨f12, r4, rx, r7⟩
  have r5 : M12.1 50 5 = nI K := by rw [rx 5 (by omega) (by omega)]; exact m95
  have r6 : M12.1 50 6 = nI q := by rw [rx 6 (by omega) (by omega)]; exact m96
  have rc : ∀ x, x ≠ 4 → x ≠ 5 → x ≠ 6 → x ≠ 7 → M12.1 50 x = M.1 50 x := fun x w4 w5 w6 w7 => by rw [rx x w4 w7, m9x x w4 w5 w6 w7]
  -- how it ends
  have hfl : ∀ v : Nat, ok (bi (fX9_fail (nI v) M12) (fun (b25 : Bool) (M24 : zM) => some (b25, M24))) (fun r => zfr [50] M r.2 ∧ (r.2.1 50 5 = nI K ∧ r.2.1 50 6 = nI q ∧ r.2.1 50 1 = M.1 50 1 ∧ r.2.1 50 8 = M.1 50 8) ∧ r.1 = false ∧ r.2.1 50 2 = nI v ∧ r.2.1 50 3 = nI q) := fun v => by
    obtain ⟨M', g1, g2, g3, g4, g5⟩ := c_fail (nI v) M12
    rw [g1, e_bi]
    refine ok_some ⟨zfr_tr f12 g5 (fun c hc => hc), ⟨by rw [g4 5 (by omega) (by omega)]; exact r5, by rw [g4 6 (by omega) (by omega)]; exact r6, by rw [g4 1 (by omega) (by omega)]; exact rc 1 (by omega) (by omega) (by omega) (by omega), by rw [g4 8 (by omega) (by omega)]; exact rc 8 (by omega) (by omega) (by omega) (by omega)⟩, rfl, g2, by rw [g3]; exact r6⟩
  have hbadE : bdt len b p = true → ok (bi (fX9_fail (1 : Int32) M12) (fun (b25 : Bool) (M24 : zM) => some (b25, M24))) (fun r => zfr [50] M r.2 ∧ (r.2.1 50 5 = nI K ∧ r.2.1 50 6 = nI q ∧ r.2.1 50 1 = M.1 50 1 ∧ r.2.1 50 8 = M.1 50 8) ∧ (bdt len b p = true → r.1 = false ∧ r.2.1 50 2 = nI 1 ∧ r.2.1 50 3 = nI q) ∧ (bdt len b p = false → (w = 5 ∨ K = w) → r.1 = true ∧ r.2.1 50 2 = M.1 50 2 ∧ r.2.1 50 4 = nI E ∧ (K = 2 → r.2.1 50 7 = nI (dv b q (E - q)) ∧ ∀ i, i < E - q → kd (b (q + i)) = 2)) ∧ (bdt len b p = false → ¬ (w = 5 ∨ K = w) → r.1 = false ∧ r.2.1 50 2 = nI 2 ∧ r.2.1 50 3 = nI q)) := fun hbd => by
    refine ok_mono (hfl 1) ?_
    rintro r ⟨u1, u2, u3⟩
    exact ⟨u1, u2, fun _ => u3, (fun w => by rw [hbd] at w; cases w), (fun w => by rw [hbd] at w; cases w)⟩
  have hgood : bdt len b p = false → ok (jn (α := zM) (fun (M29 : zM) => some (true, M29)) (fun k30 => if nI w = (5 : Int32) then (k30 M12) else (if (M12.1 50 5) = nI w then (k30 M12) else (bi (fX9_fail (2 : Int32) M12) (fun (b32 : Bool) (M31 : zM) => if b32 = false then (some (false, M31)) else (k30 M31)))))) (fun r => zfr [50] M r.2 ∧ (r.2.1 50 5 = nI K ∧ r.2.1 50 6 = nI q ∧ r.2.1 50 1 = M.1 50 1 ∧ r.2.1 50 8 = M.1 50 8) ∧ (bdt len b p = true → r.1 = false ∧ r.2.1 50 2 = nI 1 ∧ r.2.1 50 3 = nI q) ∧ (bdt len b p = false → (w = 5 ∨ K = w) → r.1 = true ∧ r.2.1 50 2 = M.1 50 2 ∧ r.2.1 50 4 = nI E ∧ (K = 2 → r.2.1 50 7 = nI (dv b q (E - q)) ∧ ∀ i, i < E - q → kd (b (q + i)) = 2)) ∧ (bdt len b p = false → ¬ (w = 5 ∨ K = w) → r.1 = false ∧ r.2.1 50 2 = nI 2 ∧ r.2.1 50 3 = nI q)) := fun hbd => by
    have hyes : (w = 5 ∨ K = w) → ok (some (true, M12)) (fun r => zfr [50] M r.2 ∧ (r.2.1 50 5 = nI K ∧ r.2.1 50 6 = nI q ∧ r.2.1 50 1 = M.1 50 1 ∧ r.2.1 50 8 = M.1 50 8) ∧ (bdt len b p = true → r.1 = false ∧ r.2.1 50 2 = nI 1 ∧ r.2.1 50 3 = nI q) ∧ (bdt len b p = false → (w = 5 ∨ K = w) → r.1 = true ∧ r.2.1 50 2 = M.1 50 2 ∧ r.2.1 50 4 = nI E ∧ (K = 2 → r.2.1 50 7 = nI (dv b q (E - q)) ∧ ∀ i, i < E - q → kd (b (q + i)) = 2)) ∧ (bdt len b p = false → ¬ (w = 5 ∨ K = w) → r.1 = false ∧ r.2.1 50 2 = nI 2 ∧ r.2.1 50 3 = nI q)) := fun hy => by
      refine ok_some ⟨f12, ⟨r5, r6, rc 1 (by omega) (by omega) (by omega) (by omega), rc 8 (by omega) (by omega) (by omega) (by omega)⟩, (fun w => by rw [hbd] at w; cases w), fun _ _ => ⟨rfl, rc 2 (by omega) (by omega) (by omega) (by omega), r4, fun w => ⟨(r7 w).1 ?_, (r7 w).2⟩⟩, fun _ w => absurd hy w⟩
      rw [hB, Bool.or_eq_false_iff, Bool.and_eq_false_iff] at hbd
      rcases hbd.2 with z | z
      · exact absurd w (of_decide_eq_false z)
      · have := of_decide_eq_false z
        omega
    rw [e_jn, l_5]
    by_cases w5 : w = 5
    · rw [nn_eqT (by omega)]
      exact hyes (Or.inl w5)
    rw [nn_eqF (by omega), r5]
    by_cases wk : K = w
    · rw [nn_eqT (by omega)]
      exact hyes (Or.inr wk)
    · rw [nn_eqF (by omega)]
      obtain ⟨M', g1, g2, g3, g4, g5⟩ := c_fail (nI 2) M12
      have g1 : fX9_fail (2 : Int32) M12 = some (false, M') := g1
      rw [g1, e_bi, if_pos rfl]
      exact ok_some ⟨zfr_tr f12 g5 (fun c hc => hc), ⟨by rw [g4 5 (by omega) (by omega)]; exact r5, by rw [g4 6 (by omega) (by omega)]; exact r6, by rw [g4 1 (by omega) (by omega)]; exact rc 1 (by omega) (by omega) (by omega) (by omega), by rw [g4 8 (by omega) (by omega)]; exact rc 8 (by omega) (by omega) (by omega) (by omega)⟩, (fun w => by rw [hbd] at w; cases w), fun _ w => absurd w (by omega), fun _ _ => ⟨rfl, g2, by rw [g3]; exact r6⟩⟩
  rw [e_jn, r5, l_0]
  by_cases k0 : K = 0
  · rw [nn_eqT (by omega)]
    exact hbadE (by rw [hB, decide_eq_true k0]; rfl)
  rw [nn_eqF (by omega), e_jn, l_2]
  by_cases k2 : K = 2
  · rw [nn_eqT (by omega), r4, r6, n_sub (by omega), l_3]
    by_cases y : E - q ≤ 3
    · rw [nn_leT (by omega)]
      have := hgood (by rw [hB, decide_eq_false k0, decide_eq_true k2, decide_eq_false (by omega)]; rfl)
      rw [r5] at this
      exact this
    · rw [nn_leF (by omega)]
      exact hbadE (by rw [hB, decide_eq_false k0, decide_eq_true k2, decide_eq_true (by omega)]; rfl)
  · rw [nn_eqF (by omega)]
    have := hgood (by rw [hB, decide_eq_false k0, decide_eq_false k2]; rfl)
    rw [r5] at this
    exact this
