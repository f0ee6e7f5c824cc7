/-! ===== a number's eight bytes ===== -/
theorem byt (y : Int32) : ∃ b : Int, (-128 ≤ b ∧ b ≤ 127) ∧ vp_nar .byte y.toInt8.toInt32 = jI b ∧ y &&& (255 : Int32) = jI (b % 256) := by
  have h1 := Int8.le_toInt y.toInt8
  have h2 := Int8.toInt_lt y.toInt8
  refine ⟨y.toInt8.toInt, by omega, ?_, ?_⟩
  · rw [pk_vb, ← Int32.toInt_inj, Int8.toInt_toInt32, jI_toInt (by omega)]
  · have e2 : y.toInt8.toInt = ((y.toBitVec.toNat : Nat) : Int).bmod 256 := by
      show (y.toInt8.toBitVec).toInt = _
      rw [Int32.toBitVec_toInt8, BitVec.toInt_signExtend]
      rw [BitVec.toInt_eq_toNat_bmod]
      simp
      generalize y.toBitVec.toNat = n
      unfold Int.bmod
      dsimp only
      split <;> split <;> (try split) <;> omega
    have e3 : y.toInt8.toInt % 256 = ((y.toBitVec.toNat % 256 : Nat) : Int) := by
      rw [e2]
      unfold Int.bmod
      (try dsimp only)
      split <;> omega
    rw [e3, ← nI_j]
    apply Int32.toBitVec_inj.mp
    apply BitVec.eq_of_toNat_eq
    have e4 : (nI (y.toBitVec.toNat % 256)).toBitVec = BitVec.ofNat 32 (y.toBitVec.toNat % 256) := rfl
    rw [e4, Int32.toBitVec_and, BitVec.toNat_and, BitVec.toNat_ofNat]
    have e5 : ((255 : Int32).toBitVec).toNat = 2 ^ 8 - 1 := by decide
    rw [e5, Nat.and_two_pow_sub_one_eq_mod]
    omega
def shv (p : Int64) (i : Nat) : Int32 := (p >>> ((nI (56 - 8 * i)).toInt64 &&& 63)).toInt32
theorem c_app {M : zM} {p : Int64} {len : Nat} (hl : len + 8 ≤ 320) (h50 : M.1 50 1 = nI len) : ok (fX9_append p M) (fun r => r.1 = true ∧ (∀ c, c ≠ 50 → c ≠ 51 → r.2.1 c = M.1 c) ∧ (∀ x, x ≠ 1 → r.2.1 50 x = M.1 50 x) ∧ r.2.1 50 1 = nI (len + 8) ∧ (∀ x, x < len → r.2.1 51 x = M.1 51 x) ∧ ∀ j, j < 8 → r.2.1 51 (len + j) = vp_nar .byte (shv p j).toInt8.toInt32) := by
  unfold fX9_append
  rw [h50, l_8, n_add, l_320, nn_leT (by omega)]
  refine ok_sq (P := fun M' => (∀ c, c ≠ 51 → M'.1 c = M.1 c) ∧ (∀ x, x < len → M'.1 51 x = M.1 51 x) ∧ ∀ j, j < 8 → M'.1 51 (len + j) = vp_nar .byte (shv p j).toInt8.toInt32) ?_ ?_
  · refine ok_up 8 (fun i x => ∃ M', x = (nI i, M') ∧ (∀ c, c ≠ 51 → M'.1 c = M.1 c) ∧ (∀ x, x < len → M'.1 51 x = M.1 51 x) ∧ ∀ j, j < i → M'.1 51 (len + j) = vp_nar .byte (shv p j).toInt8.toInt32) ?_ ?_ zFu 0 _ (by omega) (by unfold zFu; omega) ⟨M, rfl, fun _ _ => rfl, fun _ _ => rfl, fun j hj => absurd hj (by omega)⟩
    · rintro rec i x hi ⟨M', rfl, o1, o2, o3⟩ hrec
      have k50 : M'.1 50 1 = nI len := by rw [o1 50 (by omega)]; exact h50
      (try dsimp only)
      rw [nn_leF (by omega), k50, n_add, e_gn (by omega), e_znn (by omega), l_56, n_mul, n_sub (by omega), e_lt, l_1, n_add]
      refine hrec _ ⟨_, rfl, fun c hc => by rw [e_w1 _ _ _ hc]; exact o1 c hc, fun x hx => by rw [e_w1s, e_uF (by omega)]; exact o2 x hx, fun j hj => ?_⟩
      rw [e_w1s]
      by_cases z : j = i
      · rw [e_uT (by omega), z]
        rfl
      · rw [e_uF (by omega)]
        exact o3 j (by omega)
    · rintro rec x ⟨M', rfl, o1, o2, o3⟩
      (try dsimp only)
      rw [nn_leT (by omega)]
      exact ok_some ⟨o1, o2, o3⟩
  · rintro M' ⟨o1, o2, o3⟩
    have k50 : M'.1 50 1 = nI len := by rw [o1 50 (by omega)]; exact h50
    rw [k50, n_add, e_lt]
    refine ok_some ⟨rfl, fun c w1 w2 => ?_, fun x hx => ?_, ?_, fun x hx => ?_, fun j hj => ?_⟩
    · rw [e_w1 _ _ _ w1]; exact o1 c w2
    · rw [e_w1s, e_uF hx, o1 50 (by omega)]
    · rw [e_w1s, e_uT rfl]
    · rw [e_w1 _ _ _ (by omega)]; exact o2 x hx
    · rw [e_w1 _ _ _ (by omega)]; exact o3 j hj
theorem r_app {M : zM} {p : Int64} {len : Nat} (hl : len + 8 ≤ 320) (h76 : M.1 76 1 = nI len) : ok (fX11_feed p M) (fun r => r.1 = nI (len + 8) ∧ (∀ c, c ≠ 76 → c ≠ 77 → r.2.1 c = M.1 c) ∧ (∀ x, x ≠ 1 → r.2.1 76 x = M.1 76 x) ∧ r.2.1 76 1 = nI (len + 8) ∧ (∀ x, x < len → r.2.1 77 x = M.1 77 x) ∧ ∀ j, j < 8 → r.2.1 77 (len + j) = shv p j &&& (255 : Int32)) := by
  unfold fX11_feed
  rw [h76, m_8, l_8, n_add, l_320, nn_leT (by omega)]
  refine ok_sq (P := fun M' => (∀ c, c ≠ 76 → c ≠ 77 → M'.1 c = M.1 c) ∧ (∀ x, x ≠ 1 → M'.1 76 x = M.1 76 x) ∧ M'.1 76 1 = nI (len + 8) ∧ (∀ x, x < len → M'.1 77 x = M.1 77 x) ∧ ∀ j, j < 8 → M'.1 77 (len + j) = shv p j &&& (255 : Int32)) ?_ ?_
  · refine ok_up 8 (fun i x => ∃ M', x = (jI (56 - 8 * (i : Int)), M') ∧ (∀ c, c ≠ 76 → c ≠ 77 → M'.1 c = M.1 c) ∧ (∀ x, x ≠ 1 → M'.1 76 x = M.1 76 x) ∧ M'.1 76 1 = nI (len + i) ∧ (∀ x, x < len → M'.1 77 x = M.1 77 x) ∧ ∀ j, j < i → M'.1 77 (len + j) = shv p j &&& (255 : Int32)) ?_ ?_ zFu 0 _ (by omega) (by unfold zFu; omega) ⟨M, rfl, fun _ _ _ => rfl, fun _ _ => rfl, h76, fun _ _ => rfl, fun j hj => absurd hj (by omega)⟩
    · rintro rec i x hi ⟨M', rfl, o1, o2, o3, o4, o5⟩ hrec
      have ex : jI (56 - 8 * (i : Int)) = nI (56 - 8 * i) := by rw [nI_j]; exact congrArg jI (by omega)
      have enx : nI (56 - 8 * i) + jI (-8) = jI (56 - 8 * ((i + 1 : Nat) : Int)) := by
        rw [nj_add]
        exact congrArg jI (by omega)
      (try dsimp only)
      rw [ex, l_0, nn_ltF (by omega), o3, e_gn (by omega), e_znn (by omega), e_lt, e_w1 _ _ _ (by omega), o3, l_1, n_add, e_lt, enx]
      refine hrec _ ⟨_, rfl, fun c w1 w2 => by rw [e_w1 _ _ _ w1, e_w1 _ _ _ w2]; exact o1 c w1 w2, fun x hx => by rw [e_w1s, e_uF hx, e_w1 _ _ _ (by omega)]; exact o2 x hx, by rw [e_w1s, e_uT rfl]; exact congrArg nI (by omega), fun x hx => by rw [e_w1 _ _ _ (by omega), e_w1s, e_uF (by omega)]; exact o4 x hx, fun j hj => ?_⟩
      rw [e_w1 _ _ _ (by omega), e_w1s]
      by_cases z : j = i
      · rw [e_uT (by omega), z]
        rfl
      · rw [e_uF (by omega)]
        exact o5 j (by omega)
    · rintro rec x ⟨M', rfl, o1, o2, o3, o4, o5⟩
      (try dsimp only)
      rw [l_0, jn_ltT (by omega)]
      exact ok_some ⟨o1, o2, o3, o4, o5⟩
  · rintro M' ⟨o1, o2, o3, o4, o5⟩
    exact ok_some ⟨o3, o1, o2, o3, o4, o5⟩
theorem q_feed {M : zM} (h : RR M) (p : Int64) : AG2 (fX10_feed p) (fX11_feed p) M := by
  obtain ⟨len, a1, a2, a3, a4⟩ := h.2.2.2.2.1
  by_cases hl : len + 8 ≤ 320
  · obtain ⟨⟨b, M1⟩, b0, b1, b2, b3, b4, b5, b6⟩ := c_app (p := p) hl a2
    dsimp only at b1 b2 b3 b4 b5 b6
    subst b1
    have k76 : M1.1 76 1 = nI len := by rw [b2 76 (by omega) (by omega)]; exact a3
    obtain ⟨⟨v, M2⟩, d0, d1, d2, d3, d4, d5, d6⟩ := r_app (p := p) hl k76
    dsimp only at d1 d2 d3 d4 d5 d6
    refine ⟨nI (len + 8), M1, M2, ?_, ?_, ?_⟩
    · unfold fX10_feed
      rw [b0, e_bi, if_neg (by decide), b4]
    · rw [d0, d1]
    · refine RR_tp h (fun c w1 w2 w3 w4 => by rw [d2 c w3 w4, b2 c w1 w2]) ⟨len + 8, hl, by rw [d2 50 (by omega) (by omega)]; exact b4, d4, fun i hi => ?_⟩ (by rw [d2 50 (by omega) (by omega), b3 2 (by omega)]) (by rw [d3 2 (by omega), b2 76 (by omega) (by omega)]) (by rw [d3 32 (by omega), b2 76 (by omega) (by omega)])
      rw [d2 51 (by omega) (by omega)]
      by_cases z : i < len
      · rw [b5 i z, d5 i z, b2 77 (by omega) (by omega)]
        exact a4 i z
      · obtain ⟨j, rfl⟩ : ∃ j, i = len + j := ⟨i - len, by omega⟩
        rw [b6 j (by omega), d6 j (by omega)]
        exact byt (shv p j)
  · refine ⟨jI (-3), M, M, ?_, ?_, h⟩
    · unfold fX10_feed fX9_append
      rw [a2, l_8, n_add, l_320, nn_leF (by omega), e_bi, if_pos rfl]
      rfl
    · unfold fX11_feed
      rw [a3, l_8, n_add, l_320, nn_leF (by omega)]
      rfl
