/-! ===== how often a letter was read as another ===== -/
def hit (a b x y : Nat) : Nat := if a ≠ 0 ∧ b ≠ 0 ∧ (a - 1) % 8 = x ∧ (b - 1) % 8 = y then 1 else 0
def rd4 (S : Nat → Nat) (i c x y : Nat) : Nat → Nat
  | 0 => 0
  | w + 1 => rd4 S i c x y w + hit (S (70 + 60 * 0 + 6 * i + (w + 1))) (S (70 + 60 * 1 + 6 * c + (w + 1))) x y
def rdA (S P : Nat → Nat) (x y : Nat) : Nat → Nat
  | 0 => 0
  | n + 1 => rdA S P x y n + (if P n = 10 then 0 else rd4 S n (P n) x y 4)
theorem hit_le (a b x y : Nat) : hit a b x y ≤ 1 := by
  unfold hit
  split <;> omega
theorem rd4_le (S : Nat → Nat) (i c x y w : Nat) : rd4 S i c x y w ≤ w := by
  induction w with
  | zero => exact Nat.le_refl _
  | succ w ih =>
    have := hit_le (S (70 + 60 * 0 + 6 * i + (w + 1))) (S (70 + 60 * 1 + 6 * c + (w + 1))) x y
    show rd4 S i c x y w + _ ≤ w + 1
    omega
theorem rdA_le (S P : Nat → Nat) (x y n : Nat) : rdA S P x y n ≤ 4 * n := by
  induction n with
  | zero => exact Nat.le_refl _
  | succ n ih =>
    have := rd4_le S n (P n) x y 4
    show rdA S P x y n + (if P n = 10 then 0 else rd4 S n (P n) x y 4) ≤ _
    split <;> omega
theorem c_rd4 {M : zM} {ρ : Nat → Int} {S : Nat → Nat} {i c : Nat} (h1 : cR M 1 ρ S) (hV : V ρ S) (hi : i < S 64) (hc : c < S 65) (f : Nat → Nat → Nat) (hf : ∀ x y, f x y ≤ 1000) (hM : ∀ x y, x < 8 → y < 8 → M.1 75 (x * 8 + y) = nI (f x y)) : ok (fX10_countReadsOf (nI i) (nI c) M) (fun M' => (∀ d, d ≠ 75 → M'.1 d = M.1 d) ∧ ∀ x y, x < 8 → y < 8 → M'.1 75 (x * 8 + y) = nI (f x y + rd4 S i c x y 4)) := by
  have hS := hV.1
  have g5 : ∀ w, w < 4 → M.1 5 (i * 4 + w) = nI (S (70 + 60 * 0 + 6 * i + (w + 1))) := (h1.1.2 i hi).2.2
  have g9 : ∀ w, w < 4 → M.1 9 (c * 4 + w) = nI (S (70 + 60 * 1 + 6 * c + (w + 1))) := (h1.2.1.2 c hc).2.2
  have bA := (hV.2.1 0 i (by omega) hi).2.2
  have bB := (hV.2.1 1 c (by omega) hc).2.2
  unfold fX10_countReadsOf
  refine ok_up 4 (fun w x => ∃ M', x = (nI w, M') ∧ (∀ d, d ≠ 75 → M'.1 d = M.1 d) ∧ ∀ x y, x < 8 → y < 8 → M'.1 75 (x * 8 + y) = nI (f x y + rd4 S i c x y w)) ?_ ?_ zFu 0 _ (by omega) (by unfold zFu; omega) ⟨M, rfl, fun d _ => rfl, hM⟩
  · rintro rec w x hw ⟨M', rfl, o1, o2⟩ hrec
    have q5 := g5 w hw
    have q9 := g9 w hw
    rw [← o1 5 (by omega)] at q5
    rw [← o1 9 (by omega)] at q9
    have hA := bA w hw
    have hB := bB w hw
    have es : ∀ x y, rd4 S i c x y (w + 1) = rd4 S i c x y w + hit (S (70 + 60 * 0 + 6 * i + (w + 1))) (S (70 + 60 * 1 + 6 * c + (w + 1))) x y := fun x y => rfl
    generalize S (70 + 60 * 0 + 6 * i + (w + 1)) = A at q5 hA es
    generalize S (70 + 60 * 1 + 6 * c + (w + 1)) = B at q9 hB es
    dsimp only
    rw [l_4, nn_leF (by omega), n_mul, n_add, n_mul, n_add, e_gn (by omega), e_lt, e_znn (by omega), e_gn (by omega), e_lt, e_znn (by omega), q5, q9]
    by_cases a1 : A = 0
    · rw [if_pos (by rw [a1]; rfl), e_sq, l_1, n_add]
      refine hrec _ ⟨M', rfl, o1, fun x y hx hy => ?_⟩
      rw [es, show hit A B x y = 0 from if_neg (fun w => w.1 a1)]
      exact o2 x y hx hy
    by_cases a2 : B = 0
    · rw [l_0, nn_eqF (by omega), if_pos (by rw [a2]), e_sq, l_1, n_add]
      refine hrec _ ⟨M', rfl, o1, fun x y hx hy => ?_⟩
      rw [es, show hit A B x y = 0 from if_neg (fun w => w.2.1 a2)]
      exact o2 x y hx hy
    · have t1 := (t_let A (by omega) a1).1
      have t2 := (t_let B (by omega) a2).1
      have q7 := o2 ((A - 1) % 8) ((B - 1) % 8) (by omega) (by omega)
      rw [l_0, nn_eqF (by omega), nn_eqF (by omega), t1, t2, e_lt, e_lt, l_8, n_mul, n_add, e_lt, e_gn (by omega), e_gn (by omega), e_znn (by omega), q7, e_lt, e_sq, l_1, n_add, n_add]
      refine hrec _ ⟨zwI M' 75 ((A - 1) % 8 * 8 + (B - 1) % 8) (nI (f ((A - 1) % 8) ((B - 1) % 8) + rd4 S i c ((A - 1) % 8) ((B - 1) % 8) w + 1)), rfl, fun d hd => by rw [e_w1 _ _ _ hd]; exact o1 d hd, fun x y hx hy => ?_⟩
      rw [e_w1s, es]
      by_cases z : x * 8 + y = (A - 1) % 8 * 8 + (B - 1) % 8
      · have z1 : (A - 1) % 8 = x := by omega
        have z2 : (B - 1) % 8 = y := by omega
        rw [e_uT z, show hit A B x y = 1 from if_pos ⟨a1, a2, z1, z2⟩, z1, z2]
        exact congrArg nI (by omega)
      · rw [e_uF z, show hit A B x y = 0 from if_neg (fun w => z (by omega))]
        exact o2 x y hx hy
  · rintro rec x ⟨M', rfl, o1, o2⟩
    dsimp only
    rw [l_4, nn_leT (by omega)]
    exact ok_some ⟨o1, o2⟩
theorem c_reads {M : zM} {ρ : Nat → Int} {S P : Nat → Nat} (h1 : cR M 1 ρ S) (hV : V ρ S) (h55 : M.1 55 0 = nI (S 64)) (h66 : ∀ i, i < 10 → M.1 66 i = pv (P i)) (hP : ∀ i, i < S 64 → P i = 10 ∨ P i < S 65) : ok (fX10_countReads M) (fun M' => (∀ d, d ≠ 75 → M'.1 d = M.1 d) ∧ ∀ x y, x < 8 → y < 8 → M'.1 75 (x * 8 + y) = nI (rdA S P x y (S 64))) := by
  have hS := hV.1
  unfold fX10_countReads
  rw [pfill _ _ _ _ (by omega), e_sq]
  refine ok_up (S 64) (fun i x => ∃ M', x = (nI i, M') ∧ (∀ d, d ≠ 75 → M'.1 d = M.1 d) ∧ ∀ x y, x < 8 → y < 8 → M'.1 75 (x * 8 + y) = nI (rdA S P x y i)) ?_ ?_ zFu 0 _ (by omega) (by unfold zFu; omega) ⟨_, rfl, fun d hd => by rw [e_a1 _ _ hd], fun x y hx hy => by rw [e_a1s]; unfold zfl; rw [if_pos (by omega)]; rfl⟩
  · rintro rec i x hi ⟨M', rfl, o1, o2⟩ hrec
    have k55 : M'.1 55 0 = nI (S 64) := by rw [o1 55 (by omega)]; exact h55
    have k66 : M'.1 66 i = pv (P i) := by rw [o1 66 (by omega)]; exact h66 i (by omega)
    dsimp only
    rw [k55, nn_leF (by omega), e_gn (by omega), e_lt, e_znn (by omega), k66, m_4]
    by_cases z : P i = 10
    · rw [if_pos (by rw [z]; rfl), e_sq, l_1, n_add]
      refine hrec _ ⟨M', rfl, o1, fun x y hx hy => ?_⟩
      rw [o2 x y hx hy]
      show _ = nI (rdA S P x y i + (if P i = 10 then 0 else rd4 S i (P i) x y 4))
      rw [if_pos z, Nat.add_zero]
    · have hlt : P i < S 65 := by rcases hP i hi with w | w; exact absurd w z; exact w
      have ep : pv (P i) = nI (P i) := if_neg z
      rw [ep, nj_eqF (by omega)]
      have h1' : cR M' 1 ρ S := cR_cg h1 (fun d w1 w2 => o1 d (by omega))
      refine ok_sq (P := fun M'' => (∀ d, d ≠ 75 → M''.1 d = M'.1 d) ∧ ∀ x y, x < 8 → y < 8 → M''.1 75 (x * 8 + y) = nI (rdA S P x y i + rd4 S i (P i) x y 4)) ?_ ?_
      · refine ok_sq (c_rd4 h1' hV hi hlt (fun x y => rdA S P x y i) (fun x y => by have := rdA_le S P x y i; omega) o2) (fun M2 w => ok_some w)
      · rintro M2 ⟨s1, s2⟩
        rw [l_1, n_add]
        refine hrec _ ⟨M2, rfl, fun d hd => by rw [s1 d hd, o1 d hd], fun x y hx hy => ?_⟩
        rw [s2 x y hx hy]
        show _ = nI (rdA S P x y i + (if P i = 10 then 0 else rd4 S i (P i) x y 4))
        rw [if_neg z]
  · rintro rec x ⟨M', rfl, o1, o2⟩
    have k55 : M'.1 55 0 = nI (S 64) := by rw [o1 55 (by omega)]; exact h55
    dsimp only
    rw [k55, nn_leT (by omega)]
    exact ok_some ⟨o1, o2⟩
