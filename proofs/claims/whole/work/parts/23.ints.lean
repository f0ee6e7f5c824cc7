/-! ===== ints and longs by whole numbers ===== -/
def jI (z : Int) : Int32 := Int32.ofInt z
def jL (z : Int) : Int64 := Int64.ofInt z
abbrev rg (z : Int) : Prop := -2147483648 ≤ z ∧ z ≤ 2147483647
abbrev rl (z : Int) : Prop := -9223372036854775808 ≤ z ∧ z ≤ 9223372036854775807
theorem jI_add (a b : Int) : jI a + jI b = jI (a + b) := (Int32.ofInt_add a b).symm
theorem jI_sub (a b : Int) : jI a - jI b = jI (a - b) := (Int32.ofInt_sub a b).symm
theorem jI_mul (a b : Int) : jI a * jI b = jI (a * b) := (Int32.ofInt_mul a b).symm
theorem jI_neg (a : Int) : -jI a = jI (-a) := (Int32.ofInt_neg a).symm
theorem jL_add (a b : Int) : jL a + jL b = jL (a + b) := (Int64.ofInt_add a b).symm
theorem jL_sub (a b : Int) : jL a - jL b = jL (a - b) := (Int64.ofInt_sub a b).symm
theorem jL_mul (a b : Int) : jL a * jL b = jL (a * b) := (Int64.ofInt_mul a b).symm
theorem jL_neg (a : Int) : -jL a = jL (-a) := (Int64.ofInt_neg a).symm
theorem jI_toInt {a : Int} (h : rg a) : (jI a).toInt = a := Int32.toInt_ofInt_of_le (by omega) (by omega)
theorem jL_toInt {a : Int} (h : rl a) : (jL a).toInt = a := Int64.toInt_ofInt_of_le (by omega) (by omega)
theorem jI_lt {a b : Int} (ha : rg a) (hb : rg b) : jI a < jI b ↔ a < b := by rw [Int32.lt_iff_toInt_lt, jI_toInt ha, jI_toInt hb]
theorem jI_le {a b : Int} (ha : rg a) (hb : rg b) : jI a ≤ jI b ↔ a ≤ b := by rw [Int32.le_iff_toInt_le, jI_toInt ha, jI_toInt hb]
theorem jI_eq {a b : Int} (ha : rg a) (hb : rg b) : jI a = jI b ↔ a = b := by rw [← Int32.toInt_inj, jI_toInt ha, jI_toInt hb]
theorem jL_lt {a b : Int} (ha : rl a) (hb : rl b) : jL a < jL b ↔ a < b := by rw [Int64.lt_iff_toInt_lt, jL_toInt ha, jL_toInt hb]
theorem jL_le {a b : Int} (ha : rl a) (hb : rl b) : jL a ≤ jL b ↔ a ≤ b := by rw [Int64.le_iff_toInt_le, jL_toInt ha, jL_toInt hb]
theorem jL_eq {a b : Int} (ha : rl a) (hb : rl b) : jL a = jL b ↔ a = b := by rw [← Int64.toInt_inj, jL_toInt ha, jL_toInt hb]
theorem jI_l {a : Int} (h : rg a) : (jI a).toInt64 = jL a := by
  rw [← Int64.toInt_inj, Int32.toInt_toInt64, jI_toInt h, jL_toInt (by omega)]
theorem jL_i (a : Int) : (jL a).toInt32 = jI a := Int64.toInt32_ofInt
theorem jI_of (x : Int32) : ∃ a, rg a ∧ x = jI a := ⟨x.toInt, ⟨Int32.le_toInt x, by have := Int32.toInt_lt x; omega⟩, (Int32.ofInt_toInt x).symm⟩
theorem jL_of (x : Int64) : ∃ a, rl a ∧ x = jL a := ⟨x.toInt, ⟨Int64.le_toInt x, by have := Int64.toInt_lt x; omega⟩, (Int64.ofInt_toInt x).symm⟩
theorem jI_n (n : Nat) : Int32.ofNat n = jI n := Int32.ofInt_eq_ofNat.symm
theorem jL_n (n : Nat) : Int64.ofNat n = jL n := Int64.ofInt_eq_ofNat.symm
theorem nI_j (n : Nat) : nI n = jI n := jI_n n
theorem jI_lit (n : Nat) : (no_index (OfNat.ofNat n) : Int32) = jI n := jI_n n
theorem jL_lit (n : Nat) : (no_index (OfNat.ofNat n) : Int64) = jL n := jL_n n
theorem zn_j {a : Int} (h : 0 ≤ a ∧ a ≤ 2147483647) : zn (jI a) = a.toNat := by
  show (jI a).toInt.toNat = a.toNat
  rw [jI_toInt (by omega)]
theorem zn_jn {n : Nat} (h : n < 2147483648) : zn (jI n) = n := by
  rw [zn_j (by omega)]
  rfl
theorem zix_j {a : Int} {n : Nat} (ha : rg a) : zix (jI a) n ↔ 0 ≤ a ∧ a < n := by
  show 0 ≤ (jI a).toInt ∧ (jI a).toInt < n ↔ _
  rw [jI_toInt ha]
theorem zb_j (b : Bool) : zb b = jI (if b then 1 else 0) := by cases b <;> rfl
/-! looks at conditions of the texts -/
theorem fw_eq (x a b : Int) (hx : rg x) (ha : rg a) (hb : rg b) : fX10_within (jI x) (jI a) (jI b) = decide (a ≤ x ∧ x ≤ b) := by
  unfold fX10_within
  simp only [jI_lt hx ha, jI_lt hb hx]
  by_cases h1 : x < a
  · rw [if_pos h1]
    exact (decide_eq_false (by omega)).symm
  · rw [if_neg h1]
    by_cases h2 : b < x
    · rw [if_pos h2]
      exact (decide_eq_false (by omega)).symm
    · rw [if_neg h2]
      exact (decide_eq_true (by omega)).symm
theorem fi_eq (x a b : Int) (hx : rl x) (ha : rl a) (hb : rl b) : fX11_in (jL x) (jL a) (jL b) = decide (a ≤ x ∧ x ≤ b) := by
  unfold fX11_in
  simp only [jL_lt hx ha, jL_lt hb hx]
  by_cases h1 : x < a
  · rw [if_pos h1]
    exact (decide_eq_false (by omega)).symm
  · rw [if_neg h1]
    by_cases h2 : b < x
    · rw [if_pos h2]
      exact (decide_eq_false (by omega)).symm
    · rw [if_neg h2]
      exact (decide_eq_true (by omega)).symm
