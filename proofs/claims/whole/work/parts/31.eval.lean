/-! ===== how texts are worked out ===== -/
theorem e_lt {α σ : Type} (v : α) (k : α → Option σ) : lt v k = k v := rfl
theorem e_ltn {α β : Type} (v : α) (k : α → β) : ltn v k = k v := rfl
theorem e_jn {α σ : Type} (k : α → Option σ) (b : (α → Option σ) → Option σ) : jn k b = b k := rfl
theorem e_sq {α σ : Type} (x : α) (k : α → Option σ) : sq (some x) k = k x := rfl
theorem e_bi {α β σ : Type} (a : α) (b : β) (k : α → β → Option σ) : bi (some (a, b)) k = k a b := rfl
theorem l_0 : (0 : Int32) = nI 0 := id rfl
theorem l_1 : (1 : Int32) = nI 1 := id rfl
theorem l_2 : (2 : Int32) = nI 2 := id rfl
theorem l_3 : (3 : Int32) = nI 3 := id rfl
theorem l_4 : (4 : Int32) = nI 4 := id rfl
theorem l_5 : (5 : Int32) = nI 5 := id rfl
theorem l_6 : (6 : Int32) = nI 6 := id rfl
theorem l_7 : (7 : Int32) = nI 7 := id rfl
theorem l_8 : (8 : Int32) = nI 8 := id rfl
theorem l_9 : (9 : Int32) = nI 9 := id rfl
theorem l_10 : (10 : Int32) = nI 10 := id rfl
theorem l_11 : (11 : Int32) = nI 11 := id rfl
theorem l_12 : (12 : Int32) = nI 12 := id rfl
theorem l_13 : (13 : Int32) = nI 13 := id rfl
theorem l_14 : (14 : Int32) = nI 14 := id rfl
theorem l_15 : (15 : Int32) = nI 15 := id rfl
theorem l_16 : (16 : Int32) = nI 16 := id rfl
theorem l_17 : (17 : Int32) = nI 17 := id rfl
theorem l_18 : (18 : Int32) = nI 18 := id rfl
theorem l_19 : (19 : Int32) = nI 19 := id rfl
theorem l_20 : (20 : Int32) = nI 20 := id rfl
theorem l_21 : (21 : Int32) = nI 21 := id rfl
theorem l_22 : (22 : Int32) = nI 22 := id rfl
theorem l_23 : (23 : Int32) = nI 23 := id rfl
theorem l_24 : (24 : Int32) = nI 24 := id rfl
theorem l_25 : (25 : Int32) = nI 25 := id rfl
theorem l_26 : (26 : Int32) = nI 26 := id rfl
theorem l_27 : (27 : Int32) = nI 27 := id rfl
theorem l_28 : (28 : Int32) = nI 28 := id rfl
theorem l_29 : (29 : Int32) = nI 29 := id rfl
theorem l_30 : (30 : Int32) = nI 30 := id rfl
theorem l_31 : (31 : Int32) = nI 31 := id rfl
theorem l_32 : (32 : Int32) = nI 32 := id rfl
theorem l_33 : (33 : Int32) = nI 33 := id rfl
theorem l_34 : (34 : Int32) = nI 34 := id rfl
theorem l_35 : (35 : Int32) = nI 35 := id rfl
theorem l_36 : (36 : Int32) = nI 36 := id rfl
theorem l_37 : (37 : Int32) = nI 37 := id rfl
theorem l_38 : (38 : Int32) = nI 38 := id rfl
theorem l_39 : (39 : Int32) = nI 39 := id rfl
theorem l_40 : (40 : Int32) = nI 40 := id rfl
theorem l_41 : (41 : Int32) = nI 41 := id rfl
theorem l_48 : (48 : Int32) = nI 48 := id rfl
theorem l_50 : (50 : Int32) = nI 50 := id rfl
theorem l_56 : (56 : Int32) = nI 56 := id rfl
theorem l_57 : (57 : Int32) = nI 57 := id rfl
theorem l_59 : (59 : Int32) = nI 59 := id rfl
theorem l_60 : (60 : Int32) = nI 60 := id rfl
theorem l_63 : (63 : Int32) = nI 63 := id rfl
theorem l_64 : (64 : Int32) = nI 64 := id rfl
theorem l_70 : (70 : Int32) = nI 70 := id rfl
theorem l_97 : (97 : Int32) = nI 97 := id rfl
theorem l_99 : (99 : Int32) = nI 99 := id rfl
theorem l_122 : (122 : Int32) = nI 122 := id rfl
theorem l_128 : (128 : Int32) = nI 128 := id rfl
theorem l_190 : (190 : Int32) = nI 190 := id rfl
theorem l_220 : (220 : Int32) = nI 220 := id rfl
theorem l_255 : (255 : Int32) = nI 255 := id rfl
theorem l_320 : (320 : Int32) = nI 320 := id rfl
theorem l_500 : (500 : Int32) = nI 500 := id rfl
theorem l_999 : (999 : Int32) = nI 999 := id rfl
theorem l_1024 : (1024 : Int32) = nI 1024 := id rfl
theorem l_83520 : (83520 : Int32) = nI 83520 := id rfl
theorem l_100000 : (100000 : Int32) = nI 100000 := id rfl
theorem l_1000000 : (1000000 : Int32) = nI 1000000 := id rfl
theorem L_0 : (0 : Int64) = jL 0 := id rfl
theorem L_1 : (1 : Int64) = jL 1 := id rfl
theorem L_2 : (2 : Int64) = jL 2 := id rfl
theorem L_3 : (3 : Int64) = jL 3 := id rfl
theorem L_4 : (4 : Int64) = jL 4 := id rfl
theorem L_6 : (6 : Int64) = jL 6 := id rfl
theorem L_7 : (7 : Int64) = jL 7 := id rfl
theorem L_9 : (9 : Int64) = jL 9 := id rfl
theorem L_10 : (10 : Int64) = jL 10 := id rfl
theorem L_11 : (11 : Int64) = jL 11 := id rfl
theorem L_13 : (13 : Int64) = jL 13 := id rfl
theorem L_16 : (16 : Int64) = jL 16 := id rfl
theorem L_32 : (32 : Int64) = jL 32 := id rfl
theorem L_48 : (48 : Int64) = jL 48 := id rfl
theorem L_50 : (50 : Int64) = jL 50 := id rfl
theorem L_57 : (57 : Int64) = jL 57 := id rfl
theorem L_97 : (97 : Int64) = jL 97 := id rfl
theorem L_99 : (99 : Int64) = jL 99 := id rfl
theorem L_122 : (122 : Int64) = jL 122 := id rfl
theorem L_999 : (999 : Int64) = jL 999 := id rfl
theorem L_83520 : (83520 : Int64) = jL 83520 := id rfl
theorem L_4294967295 : (4294967295 : Int64) = jL 4294967295 := id rfl
theorem L_25937424601 : (25937424601 : Int64) = jL 25937424601 := id rfl
theorem L_1152921504606846976 : (1152921504606846976 : Int64) = jL 1152921504606846976 := id rfl
theorem m_1000020 : (-1000020 : Int32) = jI (-1000020) := id rfl
theorem m_1000012 : (-1000012 : Int32) = jI (-1000012) := id rfl
theorem m_1000010 : (-1000010 : Int32) = jI (-1000010) := id rfl
theorem m_1000000 : (-1000000 : Int32) = jI (-1000000) := id rfl
theorem m_10004 : (-10004 : Int32) = jI (-10004) := id rfl
theorem m_10000 : (-10000 : Int32) = jI (-10000) := id rfl
theorem m_1000 : (-1000 : Int32) = jI (-1000) := id rfl
theorem m_999 : (-999 : Int32) = jI (-999) := id rfl
theorem m_99 : (-99 : Int32) = jI (-99) := id rfl
theorem m_30 : (-30 : Int32) = jI (-30) := id rfl
theorem m_20 : (-20 : Int32) = jI (-20) := id rfl
theorem m_14 : (-14 : Int32) = jI (-14) := id rfl
theorem m_12 : (-12 : Int32) = jI (-12) := id rfl
theorem m_11 : (-11 : Int32) = jI (-11) := id rfl
theorem m_10 : (-10 : Int32) = jI (-10) := id rfl
theorem m_8 : (-8 : Int32) = jI (-8) := id rfl
theorem m_4 : (-4 : Int32) = jI (-4) := id rfl
theorem m_3 : (-3 : Int32) = jI (-3) := id rfl
theorem m_2 : (-2 : Int32) = jI (-2) := id rfl
theorem m_1 : (-1 : Int32) = jI (-1) := id rfl
theorem mL_999 : (-999 : Int64) = jL (-999) := id rfl
theorem mL_99 : (-99 : Int64) = jL (-99) := id rfl
theorem mL_1 : (-1 : Int64) = jL (-1) := id rfl
theorem n_add (a b : Nat) : nI a + nI b = nI (a + b) := (Int32.ofNat_add a b).symm
theorem n_mul (a b : Nat) : nI a * nI b = nI (a * b) := (Int32.ofNat_mul a b).symm
theorem nj_add (a : Nat) (b : Int) : nI a + jI b = jI (a + b) := by rw [nI_j, jI_add]
theorem jn_add (a : Int) (b : Nat) : jI a + nI b = jI (a + b) := by rw [nI_j, jI_add]
theorem n_sub {a b : Nat} (h : b ≤ a) : nI a - nI b = nI (a - b) := by rw [nI_j, nI_j, jI_sub, nI_j, Int.ofNat_sub h]
theorem n_subj {a b : Nat} (h : a < b) : nI a - nI b = jI ((a : Int) - b) := by rw [nI_j, nI_j, jI_sub]
theorem nj_sub (a : Nat) (b : Int) : nI a - jI b = jI (a - b) := by rw [nI_j, jI_sub]
theorem jn_sub (a : Int) (b : Nat) : jI a - nI b = jI (a - b) := by rw [nI_j, jI_sub]
theorem nj_mul (a : Nat) (b : Int) : nI a * jI b = jI (a * b) := by rw [nI_j, jI_mul]
theorem jn_mul (a : Int) (b : Nat) : jI a * nI b = jI (a * b) := by rw [nI_j, jI_mul]
theorem n_l {a : Nat} (h : a < 2147483648) : (nI a).toInt64 = jL a := by rw [nI_j, jI_l (by omega)]
theorem j_l {a : Int} (h : rg a) : (jI a).toInt64 = jL a := jI_l h
theorem e_gn {σ : Type} {a n : Nat} {r : Option σ} (h : a < n ∧ n < 2147483648) : grd (zix (nI a) n) r = r := by
  rw [nI_j]
  exact if_pos ((zix_j (by omega)).mpr (by omega))
theorem e_gj {σ : Type} {a : Int} {n : Nat} {r : Option σ} (h : 0 ≤ a ∧ a < n ∧ n < 2147483648) : grd (zix (jI a) n) r = r := if_pos ((zix_j (by omega)).mpr (by omega))
theorem e_znn {a : Nat} (h : a < 2147483648) : zn (nI a) = a := zn_nI (by omega)
theorem e_znj {a : Int} (h : 0 ≤ a ∧ a < 2147483648) : zn (jI a) = a.toNat := zn_j (by omega)
theorem nn_ltT {α : Type} {a : Nat} {b : Nat} {x y : α} (h : a < b ∧ a < 2147483648 ∧ b < 2147483648) : (if nI a < nI b then x else y) = x := by
  rw [nI_j a]
  rw [nI_j b]
  exact if_pos ((jI_lt (by omega) (by omega)).mpr (by omega))
theorem nn_ltF {α : Type} {a : Nat} {b : Nat} {x y : α} (h : b ≤ a ∧ a < 2147483648 ∧ b < 2147483648) : (if nI a < nI b then x else y) = y := by
  rw [nI_j a]
  rw [nI_j b]
  exact if_neg (fun q => absurd ((jI_lt (by omega) (by omega)).mp q) (by omega))
theorem nn_leT {α : Type} {a : Nat} {b : Nat} {x y : α} (h : a ≤ b ∧ a < 2147483648 ∧ b < 2147483648) : (if nI a ≤ nI b then x else y) = x := by
  rw [nI_j a]
  rw [nI_j b]
  exact if_pos ((jI_le (by omega) (by omega)).mpr (by omega))
theorem nn_leF {α : Type} {a : Nat} {b : Nat} {x y : α} (h : b < a ∧ a < 2147483648 ∧ b < 2147483648) : (if nI a ≤ nI b then x else y) = y := by
  rw [nI_j a]
  rw [nI_j b]
  exact if_neg (fun q => absurd ((jI_le (by omega) (by omega)).mp q) (by omega))
theorem nn_eqT {α : Type} {a : Nat} {b : Nat} {x y : α} (h : a = b ∧ a < 2147483648 ∧ b < 2147483648) : (if nI a = nI b then x else y) = x := by
  rw [nI_j a]
  rw [nI_j b]
  exact if_pos ((jI_eq (by omega) (by omega)).mpr (by omega))
theorem nn_eqF {α : Type} {a : Nat} {b : Nat} {x y : α} (h : a ≠ b ∧ a < 2147483648 ∧ b < 2147483648) : (if nI a = nI b then x else y) = y := by
  rw [nI_j a]
  rw [nI_j b]
  exact if_neg (fun q => absurd ((jI_eq (by omega) (by omega)).mp q) (by omega))
theorem nj_ltT {α : Type} {a : Nat} {b : Int} {x y : α} (h : (a : Int) < b ∧ a < 2147483648 ∧ rg b) : (if nI a < jI b then x else y) = x := by
  rw [nI_j a]
  exact if_pos ((jI_lt (by omega) (by omega)).mpr (by omega))
theorem nj_ltF {α : Type} {a : Nat} {b : Int} {x y : α} (h : b ≤ (a : Int) ∧ a < 2147483648 ∧ rg b) : (if nI a < jI b then x else y) = y := by
  rw [nI_j a]
  exact if_neg (fun q => absurd ((jI_lt (by omega) (by omega)).mp q) (by omega))
theorem nj_leT {α : Type} {a : Nat} {b : Int} {x y : α} (h : (a : Int) ≤ b ∧ a < 2147483648 ∧ rg b) : (if nI a ≤ jI b then x else y) = x := by
  rw [nI_j a]
  exact if_pos ((jI_le (by omega) (by omega)).mpr (by omega))
theorem nj_leF {α : Type} {a : Nat} {b : Int} {x y : α} (h : b < (a : Int) ∧ a < 2147483648 ∧ rg b) : (if nI a ≤ jI b then x else y) = y := by
  rw [nI_j a]
  exact if_neg (fun q => absurd ((jI_le (by omega) (by omega)).mp q) (by omega))
theorem nj_eqT {α : Type} {a : Nat} {b : Int} {x y : α} (h : (a : Int) = b ∧ a < 2147483648 ∧ rg b) : (if nI a = jI b then x else y) = x := by
  rw [nI_j a]
  exact if_pos ((jI_eq (by omega) (by omega)).mpr (by omega))
theorem nj_eqF {α : Type} {a : Nat} {b : Int} {x y : α} (h : (a : Int) ≠ b ∧ a < 2147483648 ∧ rg b) : (if nI a = jI b then x else y) = y := by
  rw [nI_j a]
  exact if_neg (fun q => absurd ((jI_eq (by omega) (by omega)).mp q) (by omega))
theorem jn_ltT {α : Type} {a : Int} {b : Nat} {x y : α} (h : a < (b : Int) ∧ rg a ∧ b < 2147483648) : (if jI a < nI b then x else y) = x := by
  rw [nI_j b]
  exact if_pos ((jI_lt (by omega) (by omega)).mpr (by omega))
theorem jn_ltF {α : Type} {a : Int} {b : Nat} {x y : α} (h : (b : Int) ≤ a ∧ rg a ∧ b < 2147483648) : (if jI a < nI b then x else y) = y := by
  rw [nI_j b]
  exact if_neg (fun q => absurd ((jI_lt (by omega) (by omega)).mp q) (by omega))
theorem jn_leT {α : Type} {a : Int} {b : Nat} {x y : α} (h : a ≤ (b : Int) ∧ rg a ∧ b < 2147483648) : (if jI a ≤ nI b then x else y) = x := by
  rw [nI_j b]
  exact if_pos ((jI_le (by omega) (by omega)).mpr (by omega))
theorem jn_leF {α : Type} {a : Int} {b : Nat} {x y : α} (h : (b : Int) < a ∧ rg a ∧ b < 2147483648) : (if jI a ≤ nI b then x else y) = y := by
  rw [nI_j b]
  exact if_neg (fun q => absurd ((jI_le (by omega) (by omega)).mp q) (by omega))
theorem jn_eqT {α : Type} {a : Int} {b : Nat} {x y : α} (h : a = (b : Int) ∧ rg a ∧ b < 2147483648) : (if jI a = nI b then x else y) = x := by
  rw [nI_j b]
  exact if_pos ((jI_eq (by omega) (by omega)).mpr (by omega))
theorem jn_eqF {α : Type} {a : Int} {b : Nat} {x y : α} (h : a ≠ (b : Int) ∧ rg a ∧ b < 2147483648) : (if jI a = nI b then x else y) = y := by
  rw [nI_j b]
  exact if_neg (fun q => absurd ((jI_eq (by omega) (by omega)).mp q) (by omega))
theorem jj_ltT {α : Type} {a : Int} {b : Int} {x y : α} (h : a < b ∧ rg a ∧ rg b) : (if jI a < jI b then x else y) = x := by
  exact if_pos ((jI_lt (by omega) (by omega)).mpr (by omega))
theorem jj_ltF {α : Type} {a : Int} {b : Int} {x y : α} (h : b ≤ a ∧ rg a ∧ rg b) : (if jI a < jI b then x else y) = y := by
  exact if_neg (fun q => absurd ((jI_lt (by omega) (by omega)).mp q) (by omega))
theorem jj_leT {α : Type} {a : Int} {b : Int} {x y : α} (h : a ≤ b ∧ rg a ∧ rg b) : (if jI a ≤ jI b then x else y) = x := by
  exact if_pos ((jI_le (by omega) (by omega)).mpr (by omega))
theorem jj_leF {α : Type} {a : Int} {b : Int} {x y : α} (h : b < a ∧ rg a ∧ rg b) : (if jI a ≤ jI b then x else y) = y := by
  exact if_neg (fun q => absurd ((jI_le (by omega) (by omega)).mp q) (by omega))
theorem jj_eqT {α : Type} {a : Int} {b : Int} {x y : α} (h : a = b ∧ rg a ∧ rg b) : (if jI a = jI b then x else y) = x := by
  exact if_pos ((jI_eq (by omega) (by omega)).mpr (by omega))
theorem jj_eqF {α : Type} {a : Int} {b : Int} {x y : α} (h : a ≠ b ∧ rg a ∧ rg b) : (if jI a = jI b then x else y) = y := by
  exact if_neg (fun q => absurd ((jI_eq (by omega) (by omega)).mp q) (by omega))
theorem LL_ltT {α : Type} {a b : Int} {x y : α} (h : a < b ∧ rl a ∧ rl b) : (if jL a < jL b then x else y) = x := if_pos ((jL_lt (by omega) (by omega)).mpr (by omega))
theorem LL_ltF {α : Type} {a b : Int} {x y : α} (h : b ≤ a ∧ rl a ∧ rl b) : (if jL a < jL b then x else y) = y := if_neg (fun q => absurd ((jL_lt (by omega) (by omega)).mp q) (by omega))
theorem LL_leT {α : Type} {a b : Int} {x y : α} (h : a ≤ b ∧ rl a ∧ rl b) : (if jL a ≤ jL b then x else y) = x := if_pos ((jL_le (by omega) (by omega)).mpr (by omega))
theorem LL_leF {α : Type} {a b : Int} {x y : α} (h : b < a ∧ rl a ∧ rl b) : (if jL a ≤ jL b then x else y) = y := if_neg (fun q => absurd ((jL_le (by omega) (by omega)).mp q) (by omega))
theorem LL_eqT {α : Type} {a b : Int} {x y : α} (h : a = b ∧ rl a ∧ rl b) : (if jL a = jL b then x else y) = x := if_pos ((jL_eq (by omega) (by omega)).mpr (by omega))
theorem LL_eqF {α : Type} {a b : Int} {x y : α} (h : a ≠ b ∧ rl a ∧ rl b) : (if jL a = jL b then x else y) = y := if_neg (fun q => absurd ((jL_eq (by omega) (by omega)).mp q) (by omega))
theorem e_w1 (M : zM) {a b : Nat} (i : Nat) (v : Int32) (h : b ≠ a) : (zwI M a i v).1 b = M.1 b := zup_n _ _ h
theorem e_w1s (M : zM) (a i : Nat) (v : Int32) : (zwI M a i v).1 a = upd (M.1 a) i v := zup_s _ _ _
theorem e_w2 (M : zM) (a i : Nat) (v : Int32) : (zwI M a i v).2 = M.2 := id rfl
theorem e_x1 (M : zM) (a i : Nat) (v : Int64) : (zwL M a i v).1 = M.1 := id rfl
theorem e_x2 (M : zM) {a b : Nat} (i : Nat) (v : Int64) (h : b ≠ a) : (zwL M a i v).2 b = M.2 b := zup_n _ _ h
theorem e_x2s (M : zM) (a i : Nat) (v : Int64) : (zwL M a i v).2 a = vp_updL (M.2 a) i v := zup_s _ _ _
theorem e_a1 (M : zM) {a b : Nat} (f : Nat → Int32) (h : b ≠ a) : (zwA M a f).1 b = M.1 b := zup_n _ _ h
theorem e_a1s (M : zM) (a : Nat) (f : Nat → Int32) : (zwA M a f).1 a = f := zup_s _ _ _
theorem e_a2 (M : zM) (a : Nat) (f : Nat → Int32) : (zwA M a f).2 = M.2 := id rfl
theorem e_uT {f : Nat → Int32} {k j : Nat} {v : Int32} (h : j = k) : upd f k v j = v := if_pos h
theorem e_uF {f : Nat → Int32} {k j : Nat} {v : Int32} (h : j ≠ k) : upd f k v j = f j := if_neg h
theorem e_vT {f : Nat → Int64} {k j : Nat} {v : Int64} (h : j = k) : vp_updL f k v j = v := if_pos h
theorem e_vF {f : Nat → Int64} {k j : Nat} {v : Int64} (h : j ≠ k) : vp_updL f k v j = f j := if_neg h
theorem e_ft {α : Type} (x y : α) : (if (false : Bool) = false then x else y) = x := if_pos rfl
theorem e_tf {α : Type} (x y : α) : (if (true : Bool) = false then x else y) = y := if_neg (by decide)
theorem e_zbt : zb true = nI 1 := id rfl
theorem e_zbf : zb false = nI 0 := id rfl
theorem n_or (a b : Nat) : nI a ||| nI b = nI (a ||| b) := by
  apply Int32.toBitVec_inj.mp
  simp [nI, BitVec.ofNat_or]
theorem n_and (a b : Nat) : nI a &&& nI b = nI (a &&& b) := by
  apply Int32.toBitVec_inj.mp
  simp [nI, BitVec.ofNat_and]
theorem n_xor (a b : Nat) : nI a ^^^ nI b = nI (a ^^^ b) := by
  apply Int32.toBitVec_inj.mp
  simp [nI, BitVec.ofNat_xor]
theorem n_31 : ∀ {j : Nat}, j < 32 → nI j &&& nI 31 = nI j := by decide +kernel
theorem n_shl : ∀ {j : Nat}, j < 31 → nI 1 <<< nI j = nI (2 ^ j) := by decide +kernel
theorem n_smod : ∀ j, j < 32 → ((nI j).toBitVec.smod 32).toNat = j := by decide +kernel
theorem n_bit {j s : Nat} (hj : j < 31) (hs : s < 2147483648) : (nI s >>> nI j) &&& nI 1 = nI (if s.testBit j = true then 1 else 0) := by
  apply Int32.toBitVec_inj.mp
  apply BitVec.eq_of_getLsbD_eq
  intro i hi
  have e1 : (nI 1).toBitVec = 1#32 := by decide
  have e2 : (nI s).toBitVec = BitVec.ofNat 32 s := rfl
  rw [Int32.toBitVec_and, Int32.toBitVec_shiftRight, BitVec.getLsbD_and, e1, BitVec.getLsbD_one, BitVec.sshiftRight', n_smod j (by omega), e2, BitVec.getLsbD_sshiftRight]
  by_cases i0 : i = 0
  · subst i0
    by_cases c : s.testBit j = true
    · rw [if_pos c]
      have : (nI 1).toBitVec.getLsbD 0 = true := by decide
      rw [this]
      simp [BitVec.getLsbD_ofNat, c, show j < 32 by omega]
    · rw [if_neg c]
      have : (nI 0).toBitVec.getLsbD 0 = false := by decide
      rw [this]
      simp at c
      simp [BitVec.getLsbD_ofNat, c, show j < 32 by omega]
      rw [← BitVec.getLsbD_eq_getElem, BitVec.getLsbD_ofNat]
      simp [c]
  · have : (nI (if s.testBit j = true then 1 else 0)).toBitVec.getLsbD i = false := by
      split
      · rw [e1, BitVec.getLsbD_one]; simp [i0]
      · simp [nI]
    rw [this]
    simp [i0]
theorem n_not (a b : Nat) : nI a &&& (nI b ^^^ jI (-1)) = nI (a ^^^ (a &&& b)) := by
  rw [← n_xor, ← n_and]
  apply Int32.toBitVec_inj.mp
  apply BitVec.eq_of_getLsbD_eq
  intro i hi
  have e : (jI (-1)).toBitVec = BitVec.allOnes 32 := by decide
  simp only [Int32.toBitVec_and, Int32.toBitVec_xor, e, BitVec.getLsbD_and, BitVec.getLsbD_xor, BitVec.getLsbD_allOnes, hi, decide_true]
  cases (nI a).toBitVec.getLsbD i <;> cases (nI b).toBitVec.getLsbD i <;> rfl
theorem n_bc : ∀ {s : Nat}, s < 1024 → fJ6_bitCount_0f7a4 (nI s) = nI (bc s) := by decide +kernel
