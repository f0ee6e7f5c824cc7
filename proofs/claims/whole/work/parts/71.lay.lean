theorem nar_a (n : Nat) : Int.bmod ((n : Int) * 16777216) 4294967296 / 16777216 = Int.bmod (Int.bmod (n : Int) 4294967296) 256 := by
  unfold Int.bmod
  dsimp only
  split <;> split <;> split <;> omega
theorem nar_b (n : Nat) : Int.bmod ((n : Int) * 65536) 4294967296 / 65536 = Int.bmod (Int.bmod (n : Int) 4294967296) 65536 := by
  unfold Int.bmod
  dsimp only
  split <;> split <;> split <;> omega
theorem nar8 (p : Int32) : (p <<< ((24 : Int32) &&& 31)) >>> ((24 : Int32) &&& 31) = p.toInt8.toInt32 := by
  apply Int32.toBitVec_inj.1
  rw [show (24 : Int32) &&& 31 = 24 by decide, Int32.toBitVec_shiftRight, Int32.toBitVec_shiftLeft]
  have e : (BitVec.smod (24 : Int32).toBitVec 32) = 24#32 := by decide
  rw [e]
  apply BitVec.eq_of_toInt_eq
  simp only [BitVec.toInt_signExtend, BitVec.toInt_sshiftRight, BitVec.toInt_shiftLeft, BitVec.sshiftRight_eq', BitVec.shiftLeft_eq', BitVec.toNat_ofNat, Int8.toBitVec_toInt32, Int32.toBitVec_toInt8]
  simp
  have e2 : p.toInt = ((p.toBitVec.toNat : Nat) : Int).bmod 4294967296 := BitVec.toInt_eq_toNat_bmod _
  rw [e2, Int.shiftRight_eq_div_pow, Int.shiftLeft_eq]
  exact nar_a _
theorem nar16 (p : Int32) : (p <<< ((16 : Int32) &&& 31)) >>> ((16 : Int32) &&& 31) = p.toInt16.toInt32 := by
  apply Int32.toBitVec_inj.1
  rw [show (16 : Int32) &&& 31 = 16 by decide, Int32.toBitVec_shiftRight, Int32.toBitVec_shiftLeft]
  have e : (BitVec.smod (16 : Int32).toBitVec 32) = 16#32 := by decide
  rw [e]
  apply BitVec.eq_of_toInt_eq
  simp [BitVec.toInt_signExtend, BitVec.toInt_sshiftRight, BitVec.toInt_shiftLeft]
  have e2 : p.toInt = ((p.toBitVec.toNat : Nat) : Int).bmod 4294967296 := BitVec.toInt_eq_toNat_bmod _
  rw [e2, Int.shiftRight_eq_div_pow, Int.shiftLeft_eq]
  exact nar_b _
theorem hs64 (n : Nat) (hn : n ≤ 64) (q : Int32) : (∃ i, i < n ∧ q = nI i ∧ fX10_within q (nI 0) (nI n - nI 1) = true ∧ fX11_in q.toInt64 (jL 0) (nI n - nI 1).toInt64 = true) ∨ (fX10_within q (nI 0) (nI n - nI 1) = false ∧ fX11_in q.toInt64 (jL 0) (nI n - nI 1).toInt64 = false) := by
  by_cases z : n = 0
  · subst z
    obtain ⟨a, ha, rfl⟩ := jI_of q
    right
    have h1 := fw_eq a 0 (-1) ha (by omega) (by omega)
    have h2 := fi_eq a 0 (-1) (by omega) (by omega) (by omega)
    have e1 : nI 0 - nI 1 = jI (-1) := by decide
    have e2 : (jI (-1)).toInt64 = jL (-1) := by decide
    have e0 : nI 0 = jI 0 := rfl
    rw [e1, e2, jI_l ha, e0, h1, h2]
    exact ⟨decide_eq_false (by omega), decide_eq_false (by omega)⟩
  · have e1 : nI n - nI 1 = nI (n - 1) := n_sub (by omega)
    have e2 : (nI (n - 1)).toInt64 = jL ((n - 1 : Nat) : Int) := by
      rw [nI_j, jI_l (by omega)]
    rw [e1, e2]
    rcases ar q (n - 1) ((n - 1 : Nat) : Int) (by omega) rfl with ⟨k, hk, rfl, a1, a2⟩ | ⟨a1, a2, _⟩
    · exact Or.inl ⟨k, by omega, rfl, a1, a2⟩
    · exact Or.inr ⟨a1, a2⟩
theorem q_lay {M : zM} (h : RR M) (p q r : Int32) : AG2 (fX10_lay p q r) (fX11_lay p q r) M := by
  unfold AG2 fX10_lay fX11_lay fX10_isSheet
  have x3 : (Int32.ofNat 4) - (1 : Int32) = nI 3 := by decide
  rw [x3, L_0, L_3, m_4, nar8, nar16]
  rcases ar p 3 3 (by omega) rfl with ⟨k, hk, rfl, e1, e2⟩ | ⟨e1, e2, _⟩
  rotate_left
  · rw [l_0, e1]
    refine ⟨jI (-1), M, M, ?_, ?_, h⟩
    · rw [e_lt]; rfl
    · rw [e2, e_lt]; rfl
  rw [l_0, l_1, e1]
  obtain ⟨b, s1, s2, s3⟩ := h.2.2.2.1 k (by omega)
  cases b
  · have s2 := s2 rfl
    refine ⟨jI (-11), M, M, ?_, ?_, h⟩
    · rw [e_lt, if_neg (by decide), e_gn (by omega), e_znn (by omega), e_lt, s1]; rfl
    · rw [e2, e_lt, if_neg (by decide), e_gn (by omega), e_znn (by omega), s2]; rfl
  obtain ⟨la, sz, a1, a2, a3, a4, a5, a6, a7⟩ := s3 rfl
  rcases hs64 sz a2 q with ⟨i, hi, rfl, e3, e4⟩ | ⟨e3, e4⟩
  rotate_left
  · refine ⟨jI (-12), M, M, ?_, ?_, h⟩
    · rw [e_lt, if_neg (by decide), e_gn (by omega), e_znn (by omega), e_lt, s1, if_neg (by decide), a5, e3, e_lt]; rfl
    · rw [e2, e_lt, if_neg (by decide), e_gn (by omega), e_znn (by omega), a4, nj_eqF (by omega), e_gn (by omega), a6, e4, e_lt]; rfl
  obtain ⟨v, hv⟩ : ∃ v, v = (if la = 0 then r.toInt8.toInt32 else if la = 1 then r.toInt16.toInt32 else r) := ⟨_, rfl⟩
  have hput : fX8_put (42 + 2 * k) (nI i) r M = some (zwI M (42 + 2 * k + 1) i v) := by
    unfold fX8_put
    rw [e_lt, a3, hv]
    rcases (show la = 0 ∨ la = 1 ∨ la = 2 by omega) with rfl | rfl | rfl
    · rw [l_0, nn_eqT (by omega), e_gn (by omega), e_znn (by omega), e_lt, if_pos rfl]
    · rw [l_0, l_1, nn_eqF (by omega), nn_eqT (by omega), e_gn (by omega), e_znn (by omega), e_lt, if_neg (by decide), if_pos rfl]
    · rw [l_0, l_1, nn_eqF (by omega), nn_eqF (by omega), e_gn (by omega), e_znn (by omega), e_lt, if_neg (by decide), if_neg (by decide)]
  obtain ⟨M1, hM1⟩ : ∃ M1, M1 = zwI M (42 + 2 * k + 1) i v := ⟨_, rfl⟩
  rw [← hM1] at hput
  have f1 : ∀ c, c ≠ 42 + 2 * k + 1 → M1.1 c = M.1 c := fun c hc => by rw [hM1, e_w1 _ _ _ hc]
  have f2 : M1.1 (42 + 2 * k + 1) = upd (M.1 (42 + 2 * k + 1)) i v := by rw [hM1, e_w1s]
  have b4 : M1.1 97 k = nI la := by rw [f1 97 (by omega)]; exact a4
  have b6 : M1.1 98 k = nI sz := by rw [f1 98 (by omega)]; exact a6
  have hsel : (if nI la = nI 0 then some r.toInt8.toInt32 else grd (zix (nI k) 4) (if nI la = nI 1 then some r.toInt16.toInt32 else some r)) = some v := by
    rw [hv]
    rcases (show la = 0 ∨ la = 1 ∨ la = 2 by omega) with rfl | rfl | rfl
    · rw [if_pos rfl, if_pos rfl]
    · rw [if_neg (by decide), e_gn (by omega), if_pos rfl, if_neg (by decide), if_pos rfl]
    · rw [if_neg (by decide), e_gn (by omega), if_neg (by decide), if_neg (by decide), if_neg (by decide)]
  refine ⟨nI 1, M1, zwI M1 99 (64 * k + i) v, ?_, ?_, ?_⟩
  · rw [e_lt, if_neg (by decide), e_gn (by omega), e_znn (by omega), e_lt, s1, if_neg (by decide), a5, e3, e_lt, if_neg (by decide), hput, e_sq]
  · rw [e2, e_lt, if_neg (by decide), e_gn (by omega), e_znn (by omega), b4, nj_eqF (by omega), e_gn (by omega), b6, e4, e_lt, if_neg (by decide), e_gn (by omega), hsel, e_sq, l_64, n_mul, n_add, e_gn (by omega), e_znn (by omega), e_lt]
  · refine RR_sh h (fun c w1 w2 w3 w4 => by rw [e_w1 _ _ _ w4, f1 c (by omega)]) (fun k' hk' => ?_)
    by_cases ek : k' = k
    · subst ek
      refine ⟨true, by rw [e_w1 _ _ _ (by omega), f1 _ (by omega)]; exact s1, fun w => Bool.noConfusion w, fun _ => ⟨la, sz, a1, a2, by rw [e_w1 _ _ _ (by omega), f1 _ (by omega)]; exact a3, by rw [e_w1 _ _ _ (by omega)]; exact b4, by rw [e_w1 _ _ _ (by omega), f1 _ (by omega)]; exact a5, by rw [e_w1 _ _ _ (by omega)]; exact b6, fun y hy => ?_⟩⟩
      rw [e_w1 _ _ _ (by omega), f2, e_w1s]
      by_cases z : y = i
      · rw [e_uT z, e_uT (by omega)]
      · rw [e_uF z, e_uF (by omega), f1 99 (by omega)]; exact a7 y hy
    · refine shR_cg (h.2.2.2.1 k' hk') (by rw [e_w1 _ _ _ (by omega), f1 _ (by omega)]) (by rw [e_w1 _ _ _ (by omega), f1 _ (by omega)]) (by rw [e_w1 _ _ _ (by omega), f1 _ (by omega)]) (by rw [e_w1 _ _ _ (by omega), f1 _ (by omega)]) (fun y hy => by rw [e_w1s, e_uF (by omega), f1 99 (by omega)])
