/-! ===== the memory behind the constructors ===== -/
theorem e_z1 (M : zM) {a b : Nat} (h : b ≠ a) : (zwZ M a).1 b = M.1 b := zup_n _ _ h
theorem e_z1s (M : zM) (a : Nat) : (zwZ M a).1 a = fun _ => 0 := zup_s _ _ _
theorem f_3 (M : zM) {c : Nat} (h : c < 3 ∨ 5 < c) : (mm_3 M).1 c = M.1 c := by unfold mm_3; simp (disch := omega) only [e_z1]
theorem f_4 (M : zM) {c : Nat} (h : c < 7 ∨ 9 < c) : (mm_4 M).1 c = M.1 c := by unfold mm_4; simp (disch := omega) only [e_z1]
theorem f_5 (M : zM) {c : Nat} (h : c < 11 ∨ 12 < c) : (mm_5 M).1 c = M.1 c := by unfold mm_5 pset; simp (disch := omega) only [e_z1, e_a1]
theorem f_7 (M : zM) {c : Nat} (h : c < 17 ∨ 19 < c) : (mm_7 M).1 c = M.1 c := by unfold mm_7; simp (disch := omega) only [e_z1]
theorem f_8 (M : zM) {c : Nat} (h : c < 21 ∨ 23 < c) : (mm_8 M).1 c = M.1 c := by unfold mm_8; simp (disch := omega) only [e_z1]
theorem f_9 (M : zM) {c : Nat} (h : c < 25 ∨ 26 < c) : (mm_9 M).1 c = M.1 c := by unfold mm_9 pset; simp (disch := omega) only [e_z1, e_a1]
theorem f_11 (M : zM) {c : Nat} (h : c < 30 ∨ 32 < c) : (mm_11 M).1 c = M.1 c := by unfold mm_11; simp (disch := omega) only [e_z1]
theorem f_12 (M : zM) {c : Nat} (h : c < 34 ∨ 36 < c) : (mm_12 M).1 c = M.1 c := by unfold mm_12; simp (disch := omega) only [e_z1]
theorem f_13 (M : zM) {c : Nat} (h : c < 38 ∨ 39 < c) : (mm_13 M).1 c = M.1 c := by unfold mm_13 pset; simp (disch := omega) only [e_z1, e_a1]
theorem f_2 (M : zM) {c : Nat} (h : c < 2 ∨ 13 < c) : (mm_2 M).1 c = M.1 c := by unfold mm_2; simp (disch := omega) only [e_z1, e_a1, f_3, f_4, f_5]
theorem f_6 (M : zM) {c : Nat} (h : c < 16 ∨ 27 < c) : (mm_6 M).1 c = M.1 c := by unfold mm_6; simp (disch := omega) only [e_z1, e_a1, f_7, f_8, f_9]
theorem f_10 (M : zM) {c : Nat} (h : c < 29 ∨ 40 < c) : (mm_10 M).1 c = M.1 c := by unfold mm_10; simp (disch := omega) only [e_z1, e_a1, f_11, f_12, f_13]
theorem f_14 (M : zM) {c : Nat} (h : c ≠ 43) : (mm_14 M).1 c = M.1 c := by unfold mm_14; simp (disch := omega) only [e_z1]
theorem f_15 (M : zM) {c : Nat} (h : c ≠ 45) : (mm_15 M).1 c = M.1 c := by unfold mm_15; simp (disch := omega) only [e_z1]
theorem f_16 (M : zM) {c : Nat} (h : c ≠ 47) : (mm_16 M).1 c = M.1 c := by unfold mm_16; simp (disch := omega) only [e_z1]
theorem f_17 (M : zM) {c : Nat} (h : c ≠ 49) : (mm_17 M).1 c = M.1 c := by unfold mm_17; simp (disch := omega) only [e_z1]
theorem f_18 (M : zM) {c : Nat} (h : c ≠ 51) : (mm_18 M).1 c = M.1 c := by unfold mm_18; simp (disch := omega) only [e_z1]
theorem f_19 (M : zM) {c : Nat} (h : c < 53 ∨ 54 < c) : (mm_19 M).1 c = M.1 c := by unfold mm_19 pset; simp (disch := omega) only [e_z1, e_a1]
theorem f_20 (M : zM) {c : Nat} (h : c < 56 ∨ 57 < c) : (mm_20 M).1 c = M.1 c := by unfold mm_20; simp (disch := omega) only [e_z1]
theorem f_22 (M : zM) {c : Nat} (h : c < 60 ∨ 65 < c) : (mm_22 M).1 c = M.1 c := by unfold mm_22; simp (disch := omega) only [e_z1]
theorem f_21 (M : zM) {c : Nat} (h : c < 59 ∨ 66 < c) : (mm_21 M).1 c = M.1 c := by unfold mm_21; simp (disch := omega) only [e_z1, e_a1, f_22]
theorem f_23 (M : zM) {c : Nat} (h : c < 68 ∨ 69 < c) : (mm_23 M).1 c = M.1 c := by unfold mm_23; simp (disch := omega) only [e_z1]
theorem f_24 (M : zM) {c : Nat} (h : c < 71 ∨ 73 < c) : (mm_24 M).1 c = M.1 c := by unfold mm_24; simp (disch := omega) only [e_z1]
theorem f_25 (M : zM) {c : Nat} (h : c < 77) : (mm_25 M).1 c = M.1 c := by unfold mm_25; simp (disch := omega) only [e_z1, e_w1]
/-- cells of the class -/
theorem i_low (M : zM) {c : Nat} (h : c < 76) : (mm_0 M).1 c = (mm_1 (zwZ M 0)).1 c := by
  unfold mm_0
  rw [f_25 _ (by omega), e_z1 _ (by omega)]
theorem i_0 (M : zM) : (mm_0 M).1 0 11 = nI 0 := by
  rw [i_low _ (by omega)]
  unfold mm_1
  rw [e_w1s, e_uT rfl]
  rfl
theorem i_sc (M : zM) {c : Nat} (h : 1 < c ∧ c ≤ 13) : (mm_0 M).1 c = (mm_2 (zwZ (zwZ M 0) 1)).1 c := by
  rw [i_low _ (by omega)]
  unfold mm_1
  simp (disch := omega) only [e_w1, e_z1, f_6, f_10, f_14, f_15, f_16, f_17, f_18, f_19, f_20, f_21, f_23, f_24]
theorem i_2 (M : zM) : (mm_0 M).1 2 = fun _ => 0 := by
  rw [i_sc _ (by omega)]
  unfold mm_2
  simp (disch := omega) only [e_a1, e_z1, e_z1s, f_3, f_4, f_5]
theorem i_6 (M : zM) : (mm_0 M).1 6 = fun _ => 0 := by
  rw [i_sc _ (by omega)]
  unfold mm_2
  simp (disch := omega) only [e_a1, e_z1, e_z1s, f_4, f_5]
theorem i_11 (M : zM) {k : Nat} (hk : k < 10) : (mm_0 M).1 11 k = jI (ρz k) := by
  rw [i_sc _ (by omega)]
  unfold mm_2
  simp (disch := omega) only [e_a1, e_z1]
  unfold mm_5 pset paf
  rw [e_a1 _ _ (by omega), e_a1s]
  unfold va_cpy
  rw [if_pos (by omega), ← ρz_z k hk]
  exact congrArg _ (by omega)
theorem i_12 (M : zM) {k : Nat} (hk : k < 64) : (mm_0 M).1 12 k = jI (mx 0) := by
  rw [i_sc _ (by omega)]
  unfold mm_2
  simp (disch := omega) only [e_a1, e_z1]
  unfold mm_5 pset
  rw [e_a1s]
  unfold zfl
  rw [if_pos hk]
  rfl
theorem i_13 (M : zM) {k : Nat} (hk : k < 10) : (mm_0 M).1 13 k = jI (mx 0) := by
  rw [i_sc _ (by omega)]
  unfold mm_2
  rw [e_a1s]
  unfold zfl
  rw [if_pos hk]
  rfl
theorem i_15 (M : zM) : (mm_0 M).1 15 = fun _ => 0 := by
  rw [i_low _ (by omega)]
  unfold mm_1
  simp (disch := omega) only [e_w1, e_z1, e_z1s, f_6, f_10, f_14, f_15, f_16, f_17, f_18, f_19, f_20, f_21, f_23, f_24]
theorem i_28 (M : zM) : (mm_0 M).1 28 = fun _ => 0 := by
  rw [i_low _ (by omega)]
  unfold mm_1
  simp (disch := omega) only [e_w1, e_z1, e_z1s, f_10, f_14, f_15, f_16, f_17, f_18, f_19, f_20, f_21, f_23, f_24]
theorem i_sh (M : zM) : (mm_0 M).1 42 = (fun _ => 0) ∧ (mm_0 M).1 44 = (fun _ => 0) ∧ (mm_0 M).1 46 = (fun _ => 0) ∧ (mm_0 M).1 48 = (fun _ => 0) ∧ (mm_0 M).1 50 = (fun _ => 0) := by
  refine ⟨?_, ?_, ?_, ?_, ?_⟩
  · rw [i_low _ (by omega)]
    unfold mm_1
    simp (disch := omega) only [e_w1, e_z1, e_z1s, f_14, f_15, f_16, f_17, f_18, f_19, f_20, f_21, f_23, f_24]
  · rw [i_low _ (by omega)]
    unfold mm_1
    simp (disch := omega) only [e_w1, e_z1, e_z1s, f_15, f_16, f_17, f_18, f_19, f_20, f_21, f_23, f_24]
  · rw [i_low _ (by omega)]
    unfold mm_1
    simp (disch := omega) only [e_w1, e_z1, e_z1s, f_16, f_17, f_18, f_19, f_20, f_21, f_23, f_24]
  · rw [i_low _ (by omega)]
    unfold mm_1
    simp (disch := omega) only [e_w1, e_z1, e_z1s, f_17, f_18, f_19, f_20, f_21, f_23, f_24]
  · rw [i_low _ (by omega)]
    unfold mm_1
    simp (disch := omega) only [e_w1, e_z1, e_z1s, f_18, f_19, f_20, f_21, f_23, f_24]
/-- cells of the reference -/
theorem i_76 (M : zM) : (mm_0 M).1 76 = fun _ => 0 := by
  unfold mm_0
  rw [f_25 _ (by omega), e_z1s]
theorem i_78 (M : zM) : ∀ k, k < 10 → (mm_0 M).1 78 k = nI (kCut.getD k 0) := by
  unfold mm_0 mm_25
  simp (disch := omega) only [e_w1, e_z1, e_w1s, e_z1s]
  decide +kernel
theorem i_79 (M : zM) : ∀ k, k < 47 → (mm_0 M).1 79 k = nI (kLet.getD k 0) := by
  unfold mm_0 mm_25
  simp (disch := omega) only [e_w1, e_z1, e_w1s, e_z1s]
  decide +kernel
theorem i_80 (M : zM) : ∀ k, k < 10 → (mm_0 M).1 80 k = zAF k := by
  unfold mm_0 mm_25
  simp (disch := omega) only [e_w1, e_z1, e_w1s, e_z1s]
  decide +kernel
theorem i_81 (M : zM) : ∀ k, k < 10 → (mm_0 M).1 81 k = zAF k := by
  unfold mm_0 mm_25
  simp (disch := omega) only [e_w1, e_z1, e_w1s, e_z1s]
  decide +kernel
theorem i_97 (M : zM) : ∀ k, k < 4 → (mm_0 M).1 97 k = jI (-4) := by
  unfold mm_0 mm_25
  simp (disch := omega) only [e_w1, e_z1, e_w1s, e_z1s]
  decide +kernel
theorem i_84 (M : zM) : (mm_0 M).1 84 = fun _ => 0 := by
  unfold mm_0 mm_25
  simp (disch := omega) only [e_w1, e_z1, e_z1s]
theorem i_94 (M : zM) : (mm_0 M).1 94 = fun _ => 0 := by
  unfold mm_0 mm_25
  simp (disch := omega) only [e_w1, e_z1, e_z1s]
theorem i_96 (M : zM) : (mm_0 M).1 96 = fun _ => 0 := by
  unfold mm_0 mm_25
  simp (disch := omega) only [e_w1, e_z1, e_z1s]
theorem RR_0 (M : zM) : RR (mm_0 M) := by
  have hv : V ρz (fun _ => 0) := ⟨⟨Nat.zero_le _, Nat.zero_le _⟩, fun e i _ hi => absurd hi (Nat.not_lt_zero _), fun _ _ => Nat.zero_le _, fun _ _ => Nat.zero_le _, okS_0.2.2⟩
  obtain ⟨s1, s2, s3, s4, s5⟩ := i_sh M
  refine ⟨⟨ρz, (fun _ => 0), ⟨⟨?_, fun i hi => absurd hi (Nat.not_lt_zero _)⟩, ⟨?_, fun i hi => absurd hi (Nat.not_lt_zero _)⟩, ⟨fun k hk => i_11 M hk, fun k hk => i_12 M hk⟩, fun i hi => i_13 M hi⟩, ⟨fun x hx => ?_, fun x hx => ?_⟩, hv⟩, ⟨false, ?_, ?_, fun w => by cases w⟩, ⟨false, ?_, ?_, fun w => by cases w⟩, fun k hk => ⟨false, ?_, fun _ => i_97 M k hk, fun w => by cases w⟩, ⟨0, by omega, by rw [s5]; rfl, by rw [i_76]; rfl, fun i hi => absurd hi (by omega)⟩, by rw [s5, i_76], by rw [i_0, i_76]; rfl, ⟨i_78 M, i_79 M, i_80 M⟩⟩
  · show (mm_0 M).1 2 0 = nI 0
    rw [i_2]; rfl
  · show (mm_0 M).1 6 0 = nI 0
    rw [i_6]; rfl
  · rw [i_84]; rfl
  · rw [show 10 * 0 + x = x by omega, i_81 M x hx, ρz_z x hx]
  · show (mm_0 M).1 15 4 = zb false
    rw [i_15]; rfl
  · rw [i_96]; rfl
  · show (mm_0 M).1 28 4 = zb false
    rw [i_28]; rfl
  · rw [i_96]; rfl
  · rcases (show k = 0 ∨ k = 1 ∨ k = 2 ∨ k = 3 by omega) with rfl | rfl | rfl | rfl
    · show (mm_0 M).1 42 0 = zb false
      rw [s1]; rfl
    · show (mm_0 M).1 44 0 = zb false
      rw [s2]; rfl
    · show (mm_0 M).1 46 0 = zb false
      rw [s3]; rfl
    · show (mm_0 M).1 48 0 = zb false
      rw [s4]; rfl
