/-! ===== sets of lines any two of which go together ===== -/
def sub (P S : Nat) : Prop := ∀ i, P.testBit i = true → S.testBit i = true
def cov (cl : Nat → Prop) : Nat → Nat → Prop
  | 0, S => S = 0
  | k + 1, S => ∃ P, cl P ∧ sub P S ∧ cov cl k (S ^^^ P)
def fewS (cl : Nat → Prop) (v S : Nat) : Prop := cov cl v S ∧ ∀ k, cov cl k S → v ≤ k
theorem fewS_un {cl : Nat → Prop} {v w S : Nat} (h : fewS cl v S) (k : fewS cl w S) : v = w := Nat.le_antisymm (h.2 _ k.1) (k.2 _ h.1)
theorem cov_pick {cl : Nat → Prop} {x : Nat} : ∀ {k S : Nat}, cov cl k S → S.testBit x = true → ∃ k' P, k = k' + 1 ∧ cl P ∧ sub P S ∧ P.testBit x = true ∧ cov cl k' (S ^^^ P)
  | 0, S, h, hx => by
    have : S = 0 := h
    rw [this] at hx
    simp at hx
  | k + 1, S, h, hx => by
    obtain ⟨P0, h1, h2, h3⟩ := h
    by_cases e : P0.testBit x = true
    · exact ⟨k, P0, rfl, h1, h2, e, h3⟩
    · have hx2 : (S ^^^ P0).testBit x = true := by
        rw [Nat.testBit_xor, hx]
        simp at e
        simp [e]
      obtain ⟨k', P1, q1, q2, q3, q4, q5⟩ := cov_pick h3 hx2
      have hd : ∀ i, P1.testBit i = true → S.testBit i = true ∧ P0.testBit i = false := fun i hi => by
        have h4 := q3 i hi
        rw [Nat.testBit_xor] at h4
        by_cases c : P0.testBit i = true
        · have := h2 i c
          simp [this, c] at h4
        · simp at c
          simp [c] at h4
          exact ⟨h4, c⟩
      refine ⟨k, P1, rfl, q2, fun i hi => (hd i hi).1, q4, ?_⟩
      rw [q1]
      refine ⟨P0, h1, fun i hi => ?_, ?_⟩
      · rw [Nat.testBit_xor, h2 i hi]
        by_cases c : P1.testBit i = true
        · have := (hd i c).2
          rw [hi] at this
          cases this
        · simp at c
          simp [c]
      · have : (S ^^^ P1) ^^^ P0 = (S ^^^ P0) ^^^ P1 := by rw [Nat.xor_assoc, Nat.xor_comm P1, ← Nat.xor_assoc]
        rw [this]
        exact q5
theorem fewS_rec {cl : Nat → Prop} {F : Nat → Nat} {v S x : Nat} (hx : S.testBit x = true) (hF : ∀ P, sub P S → P.testBit x = true → fewS cl (F (S ^^^ P)) (S ^^^ P)) (h1 : ∃ P, cl P ∧ sub P S ∧ P.testBit x = true ∧ v = 1 + F (S ^^^ P)) (h2 : ∀ P, cl P → sub P S → P.testBit x = true → v ≤ 1 + F (S ^^^ P)) : fewS cl v S := by
  obtain ⟨P, a1, a2, a3, a4⟩ := h1
  refine ⟨?_, fun k hk => ?_⟩
  · rw [a4, Nat.add_comm]
    exact ⟨P, a1, a2, (hF P a2 a3).1⟩
  · obtain ⟨k', Q, b1, b2, b3, b4, b5⟩ := cov_pick hk hx
    have := (hF Q b3 b4).2 k' b5
    have := h2 Q b2 b3 b4
    omega
theorem fewS_zero (cl : Nat → Prop) : fewS cl 0 0 := ⟨rfl, fun _ _ => Nat.zero_le _⟩
/-- parts of a set, from the greatest down -/
theorem sub_half {P S : Nat} (h : sub P S) : sub (P / 2) (S / 2) := fun i hi => by
  rw [Nat.testBit_div_two] at hi ⊢
  exact h _ hi
theorem sub_le : ∀ (n : Nat) {P S : Nat}, P < n → sub P S → P ≤ S
  | 0, _, _, h, _ => by omega
  | n + 1, P, S, h, hs => by
    by_cases e : P = 0
    · omega
    · have h1 := sub_le n (P := P / 2) (S := S / 2) (by omega) (sub_half hs)
      have h2 : P % 2 = 1 → S % 2 = 1 := fun q => by
        have := hs 0 (by simp [Nat.testBit_zero, q])
        simpa [Nat.testBit_zero] using this
      omega
theorem sub_next : ∀ (n : Nat) {s w r : Nat}, w < n → sub s r → sub w r → s < w → s ≤ (w - 1) &&& r
  | 0, _, _, _, h, _, _, _ => by omega
  | n + 1, s, w, r, h, h1, h2, h3 => by
    have d : ((w - 1) &&& r) = 2 * (((w - 1) / 2) &&& (r / 2)) + ((w - 1) % 2) * (r % 2) := by
      have e1 : ((w - 1) &&& r) / 2 = ((w - 1) / 2) &&& (r / 2) := Nat.and_div_two
      have e2 : ((w - 1) &&& r) % 2 = ((w - 1) % 2) * (r % 2) := by
        have hb : ((w - 1) &&& r).testBit 0 = ((w - 1).testBit 0 && r.testBit 0) := Nat.testBit_and _ _ _
        simp only [Nat.testBit_zero] at hb
        rcases Nat.mod_two_eq_zero_or_one (w - 1) with p | p <;> rcases Nat.mod_two_eq_zero_or_one r with q | q <;> rcases Nat.mod_two_eq_zero_or_one ((w - 1) &&& r) with z | z <;> simp [p, q, z] at hb ⊢
      omega
    have hs2 : s % 2 = 1 → r % 2 = 1 := fun q => by
      have := h1 0 (by simp [Nat.testBit_zero, q])
      simpa [Nat.testBit_zero] using this
    have hw2 : w % 2 = 1 → r % 2 = 1 := fun q => by
      have := h2 0 (by simp [Nat.testBit_zero, q])
      simpa [Nat.testBit_zero] using this
    rw [d]
    rcases Nat.mod_two_eq_zero_or_one w with e | e
    · have hq : s / 2 < w / 2 := by omega
      have ih := sub_next n (s := s / 2) (w := w / 2) (r := r / 2) (by omega) (sub_half h1) (sub_half h2) hq
      have e3 : (w - 1) / 2 = w / 2 - 1 := by omega
      have e4 : (w - 1) % 2 = 1 := by omega
      rw [e3, e4, Nat.one_mul]
      omega
    · have e3 : (w - 1) / 2 = w / 2 := by omega
      have e5 : (w / 2) &&& (r / 2) = w / 2 := by
        apply Nat.eq_of_testBit_eq
        intro i
        rw [Nat.testBit_and]
        by_cases c : (w / 2).testBit i = true
        · rw [c, sub_half h2 i c]; rfl
        · simp at c; simp [c]
      rw [e3, e5]
      omega
theorem sub_and (a r : Nat) : sub (a &&& r) r := fun i hi => by
  rw [Nat.testBit_and, Bool.and_eq_true] at hi
  exact hi.2
theorem sub_rf (r : Nat) : sub r r := fun _ h => h
/-- what is left out, and what stays -/
theorem bc_not : ∀ n, n < 11 → ∀ S, S < 2 ^ n → bc (2 ^ n - 1 - S) + bc S = n ∧ ∀ i, i < 10 → (2 ^ n - 1 - S).testBit i = (decide (i < n) && !S.testBit i) := by decide +kernel
theorem tb_lt : ∀ {n S : Nat}, S < 2 ^ n → ∀ i, n ≤ i → S.testBit i = false := fun {n S} h i hi => Nat.testBit_lt_two_pow (Nat.lt_of_lt_of_le h (Nat.pow_le_pow_right (by omega) hi))
