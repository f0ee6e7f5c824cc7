def ρz : Nat → Int := fun k => ([10, 60, 30, 1, 4, 2, 5, 12, 12, 0] : List Int).getD k 0
theorem ρz_z : ∀ k, k < 10 → zAF k = jI (ρz k) := by decide +kernel
theorem okS_0 : okS (ρz, (fun _ => 0), 0) := ⟨by show 0 < 256; omega, fun _ _ => Nat.zero_le _, by
  show vR ρz
  unfold vR ρz
  simp⟩
theorem c_cp6r {M : zM} : ok (fX6_copyFrom 10 52 M) (fun M' => zfr [11, 12] M M' ∧ (∀ k, k < 10 → M'.1 11 k = M.1 53 k) ∧ ∀ k, k < 64 → M'.1 12 k = M.1 54 k) := by
  unfold fX6_copyFrom
  rw [l_0, l_10, l_64, e_gc (by omega), e_lt, e_gc (by omega), e_lt, e_znn (by omega), e_znn (by omega), e_znn (by omega)]
  refine ok_some ⟨zfr_A (zfr_A (zfr_rf _ _) (by simp)) (by simp), fun k hk => ?_, fun k hk => ?_⟩
  · rw [e_a1 _ _ (by omega), e_a1s]
    unfold va_cpy
    rw [if_pos (by omega)]
    exact congrArg _ (by omega)
  · rw [e_a1s]
    unfold va_cpy
    rw [if_pos (by omega), e_a1 _ _ (by omega)]
    exact congrArg _ (by omega)
theorem c_road {M : zM} {len : Nat} {b : Nat → Int} (h : cT M len b) : ok (fX10_road M) (fun r => (∀ e, pro len b zFu (ρz, (fun _ => 0), 0) 0 0 = .inl e → r.1 = jI (-10 - e.2) ∧ r.2.1 50 1 = nI 0 ∧ r.2.1 50 2 = nI e.1 ∧ zfr [50, 53, 54] M r.2) ∧ ∀ y, pro len b zFu (ρz, (fun _ => 0), 0) 0 0 = .inr y → r.1 = nI y.2 ∧ r.2.1 50 1 = nI 0 ∧ r.2.1 50 2 = nI 0 ∧ zfr [11, 12, 50, 53, 54] M r.2 ∧ okS y.1 ∧ (∀ k, k < 10 → r.2.1 11 k = jI (y.1.1 k)) ∧ ∀ k, k < 64 → r.2.1 12 k = jI (mx (y.1.2.1 k))) := by
  have hl := h.2.1
  obtain ⟨M4, hM4⟩ : ∃ M4, M4 = zwI (zwI (zwI (pset 52 M) 50 4 (0 : Int32)) 50 8 (0 : Int32)) 50 2 (0 : Int32) := ⟨_, rfl⟩
  have f4 : zfr [50, 53, 54] M M4 := by
    rw [hM4]
    unfold pset
    exact zfr_I (zfr_I (zfr_I (zfr_A (zfr_A (zfr_rf _ _) (by simp)) (by simp)) (by simp)) (by simp)) (by simp)
  have p50 : (pset 52 M).1 50 = M.1 50 := by unfold pset; rw [e_a1 _ _ (by omega), e_a1 _ _ (by omega)]
  have s4 : cS M4 len b 0 0 := by
    refine ⟨cT_fr h ?_ (f4 51 (by decide)).1, Nat.zero_le _, ?_, ?_, ?_⟩
    · rw [hM4, e_w1s, e_uF (by omega), e_w1s, e_uF (by omega), e_w1s, e_uF (by omega), p50]
    · rw [hM4, e_w1s, e_uF (by omega), e_w1s, e_uF (by omega), e_w1s, e_uT rfl]; rfl
    · rw [hM4, e_w1s, e_uF (by omega), e_w1s, e_uT rfl]; rfl
    · rw [hM4, e_w1s, e_uT rfl]; rfl
  have r4 : ∀ k, k < 10 → M4.1 53 k = jI (ρz k) := fun k hk => by
    rw [hM4, e_w1 _ _ _ (by omega), e_w1 _ _ _ (by omega), e_w1 _ _ _ (by omega)]
    unfold pset paf
    rw [e_a1 _ _ (by omega), e_a1s]
    unfold va_cpy
    rw [if_pos (by omega), ← ρz_z k hk]
    exact congrArg _ (by omega)
  have m4 : ∀ k, k < 64 → M4.1 54 k = jI (mx 0) := fun k hk => by
    rw [hM4, e_w1 _ _ _ (by omega), e_w1 _ _ _ (by omega), e_w1 _ _ _ (by omega)]
    unfold pset
    rw [e_a1s]
    unfold zfl
    rw [if_pos hk]
    rfl
  have hloop := c_loop (len := len) (b := b) zFu 0 M4 (ρz, (fun _ => 0), 0) 0 s4 r4 m4 okS_0 (by omega) (by unfold zFu; omega)
  have htell : fX9_tellRoad 52 M = zlp tlB zFu (nI 0, M4) := by
    unfold fX9_tellRoad
    rw [psetAsAtFirst, e_sq, e_lt, e_lt, e_lt, ← hM4]
    rfl
  unfold fX10_road
  rw [htell]
  refine ok_bi hloop ?_
  rintro x M1 ⟨f1, g1, g2, g3⟩
  dsimp only at f1 g1 g2 g3
  have f1' : zfr [50, 53, 54] M M1 := zfr_tr f4 f1 (fun c hc => hc)
  cases hs : pro len b zFu (ρz, (fun _ => 0), 0) 0 0 with
  | inl e =>
    obtain ⟨rfl, u2, u3⟩ := g2 e hs
    rw [l_0, jn_ltT (by omega)]
    refine ok_some ⟨fun e' he' => ?_, fun y hy => by cases hy⟩
    cases he'
    exact ⟨rfl, g1, u2, f1'⟩
  | inr y =>
    obtain ⟨rfl, u2, u3, u4, u5, u6⟩ := g3 y hs
    rw [l_0, nn_ltF (by omega)]
    refine ok_sq c_cp6r ?_
    rintro M2 ⟨f2, w1, w2⟩
    refine ok_some ⟨(fun e' he' => by cases he'), fun y' hy => ?_⟩
    cases hy
    exact ⟨rfl, by rw [(f2 50 (by decide)).1]; exact g1, by rw [(f2 50 (by decide)).1]; exact u2, zfr_tr (zfr_sub f1' (by decide)) f2 (by decide), u4, fun k hk => by rw [w1 k hk]; exact u5 k hk, fun k hk => by rw [w2 k hk]; exact u6 k hk⟩
theorem r_road {M : zM} {len : Nat} {b : Nat → Int} (h : rTx M len b) (hR : kR M) : ok (fX11_road M) (fun r => (∀ e, pro len b zFu (ρz, (fun _ => 0), 0) 0 0 = .inl e → r.1 = jI (-10 - e.2) ∧ r.2.1 76 1 = nI 0 ∧ r.2.1 76 2 = nI e.1 ∧ r.2.1 76 32 = M.1 76 32 ∧ zfr [76, 82, 83] M r.2) ∧ ∀ y, pro len b zFu (ρz, (fun _ => 0), 0) 0 0 = .inr y → r.1 = nI y.2 ∧ r.2.1 76 1 = nI 0 ∧ r.2.1 76 2 = nI 0 ∧ r.2.1 76 32 = M.1 76 32 ∧ zfr [76, 81, 82, 83, 84] M r.2 ∧ (∀ k, k < 10 → r.2.1 81 k = jI (y.1.1 k)) ∧ (∀ x, 10 ≤ x → r.2.1 81 x = M.1 81 x) ∧ (∀ k, k < 64 → r.2.1 84 k = nI (y.1.2.1 k)) ∧ ∀ x, 64 ≤ x → r.2.1 84 x = M.1 84 x) := by
  have hl := h.2.1
  unfold fX11_road
  rw [e_lt, e_lt, e_lt]
  obtain ⟨M3, hM3⟩ : ∃ M3, M3 = zwI (zwI (zwI M 76 3 (0 : Int32)) 76 5 (0 : Int32)) 76 15 (0 : Int32) := ⟨_, rfl⟩
  have f3 : zfr [76, 82, 83] M M3 := by rw [hM3]; exact zfr_I (zfr_I (zfr_I (zfr_rf _ _) (by simp)) (by simp)) (by simp)
  have t33 : M3.1 76 3 = nI 0 := by rw [hM3, e_w1s, e_uF (by omega), e_w1s, e_uF (by omega), e_w1s, e_uT rfl]; rfl
  have t35 : M3.1 76 5 = nI 0 := by rw [hM3, e_w1s, e_uF (by omega), e_w1s, e_uT rfl]; rfl
  have t315 : M3.1 76 15 = nI 0 := by rw [hM3, e_w1s, e_uT rfl]; rfl
  have t3x : ∀ x, x ≠ 3 → x ≠ 5 → x ≠ 15 → M3.1 76 x = M.1 76 x := fun x w1 w2 w3 => by rw [hM3, e_w1s, e_uF w3, e_w1s, e_uF w2, e_w1s, e_uF w1]
  rw [← hM3]
  refine ok_sq (P := fun M' => zfr [76, 82, 83] M M' ∧ M'.1 76 = M3.1 76 ∧ ∀ k, k < 10 → M'.1 82 k = jI (ρz k)) ?_ ?_
  · refine ok_up 10 (fun i x => ∃ M', x = (nI i, M') ∧ zfr [76, 82, 83] M M' ∧ M'.1 76 = M3.1 76 ∧ ∀ k, k < i → M'.1 82 k = jI (ρz k)) ?_ ?_ zFu 0 _ (by omega) (by unfold zFu; omega) ⟨M3, rfl, f3, rfl, fun k hk => absurd hk (by omega)⟩
    · rintro rec i x hi ⟨M', rfl, o1, o2, o3⟩ hrec
      have k80 : M'.1 80 i = jI (ρz i) := by rw [(o1 80 (by decide)).1, hR.2.2 i hi, ρz_z i hi]
      (try dsimp only)
      rw [l_10, nn_leF (by omega), e_gn (by omega), e_gn (by omega), e_lt, e_znn (by omega), k80, l_1, n_add]
      refine hrec _ ⟨_, rfl, zfr_I o1 (by simp), by rw [e_w1 _ _ _ (by omega)]; exact o2, fun k hk => ?_⟩
      rw [e_w1s]
      by_cases z : k = i
      · rw [e_uT z, z]
      · rw [e_uF z]; exact o3 k (by omega)
    · rintro rec x ⟨M', rfl, o1, o2, o3⟩
      (try dsimp only)
      rw [l_10, nn_leT (by omega)]
      exact ok_some ⟨o1, o2, o3⟩
  rintro M16 ⟨f16, t16, r16⟩
  refine ok_sq (P := fun M' => zfr [76, 82, 83] M M' ∧ M'.1 76 = M3.1 76 ∧ M'.1 82 = M16.1 82 ∧ ∀ k, k < 64 → M'.1 83 k = nI 0) ?_ ?_
  · refine ok_up 64 (fun i x => ∃ M', x = (nI i, M') ∧ zfr [76, 82, 83] M M' ∧ M'.1 76 = M3.1 76 ∧ M'.1 82 = M16.1 82 ∧ ∀ k, k < i → M'.1 83 k = nI 0) ?_ ?_ zFu 0 _ (by omega) (by unfold zFu; omega) ⟨M16, rfl, f16, t16, rfl, fun k hk => absurd hk (by omega)⟩
    · rintro rec i x hi ⟨M', rfl, o1, o2, o4, o3⟩ hrec
      (try dsimp only)
      rw [l_64, nn_leF (by omega), e_gn (by omega), e_lt, e_znn (by omega), l_1, n_add]
      refine hrec _ ⟨_, rfl, zfr_I o1 (by simp), by rw [e_w1 _ _ _ (by omega)]; exact o2, by rw [e_w1 _ _ _ (by omega)]; exact o4, fun k hk => ?_⟩
      rw [e_w1s]
      by_cases z : k = i
      · rw [e_uT z]; rfl
      · rw [e_uF z]; exact o3 k (by omega)
    · rintro rec x ⟨M', rfl, o1, o2, o4, o3⟩
      (try dsimp only)
      rw [l_64, nn_leT (by omega)]
      exact ok_some ⟨o1, o2, o4, o3⟩
  rintro M30 ⟨f30, t30, r30, m30⟩
  have T30 : rTx M30 len b := rTx_fr h (by rw [t30, t3x 1 (by omega) (by omega) (by omega)]) (f30 77 (by decide)).1
  refine ok_sq (r_nx T30 (Nat.zero_le _) (by rw [t30]; exact t33) (by rw [t30]; exact t35)) ?_
  rintro M32 ⟨f32, s32⟩
  have hf32 : zfr [76, 82, 83] M M32 := zfr_tr f30 f32.1 (by decide)
  have hR32 : kR M32 := kR_cg hR (fun c w1 w2 => (hf32 c (by simp; omega)).1)
  have hloop := r_loop (len := len) (b := b) zFu 0 M32 (ρz, (fun _ => 0), 0) 0 s32 hR32 (by rw [f32.2 15 (by omega), t30]; exact t315) (fun k hk => by rw [(f32.1 82 (by decide)).1, r30]; exact r16 k hk) (fun k hk => by rw [(f32.1 83 (by decide)).1]; exact m30 k hk) okS_0 (by unfold zFu; omega)
  have hloop : ok (zlp rlB zFu ((0 : Int32), M32)) (rlQ M32 len b (pro len b zFu (ρz, (fun _ => 0), 0) 0 0)) := hloop
  refine ok_sq hloop ?_
  rintro ⟨x, M47⟩ ⟨f47, g2, g3⟩
  dsimp only at f47 g2 g3 ⊢
  have hf47 : zfr [76, 82, 83] M M47 := zfr_tr hf32 f47.1 (fun c hc => hc)
  have t47 : M47.1 76 32 = M.1 76 32 := by rw [f47.2 32 (by omega), f32.2 32 (by omega), t30, t3x 32 (by omega) (by omega) (by omega)]
  rw [e_lt, e_lt]
  obtain ⟨M50, hM50⟩ : ∃ M50, M50 = zwI (zwI M47 76 1 (0 : Int32)) 76 2 ((zwI M47 76 1 (0 : Int32)).1 76 3) := ⟨_, rfl⟩
  have f50 : zfr [76, 82, 83] M M50 := by rw [hM50]; exact zfr_I (zfr_I hf47 (by simp)) (by simp)
  have t501 : M50.1 76 1 = nI 0 := by rw [hM50, e_w1s, e_uF (by omega), e_w1s, e_uT rfl]; rfl
  have t502 : M50.1 76 2 = M47.1 76 3 := by rw [hM50, e_w1s, e_uT rfl, e_w1s, e_uF (by omega)]
  have t50x : ∀ x, x ≠ 1 → x ≠ 2 → M50.1 76 x = M47.1 76 x := fun x w1 w2 => by rw [hM50, e_w1s, e_uF w2, e_w1s, e_uF w1]
  have e82 : M50.1 82 = M47.1 82 := by rw [hM50, e_w1 _ _ _ (by omega), e_w1 _ _ _ (by omega)]
  have e83 : M50.1 83 = M47.1 83 := by rw [hM50, e_w1 _ _ _ (by omega), e_w1 _ _ _ (by omega)]
  rw [← hM50, t50x 3 (by omega) (by omega)]
  cases hs : pro len b zFu (ρz, (fun _ => 0), 0) 0 0 with
  | inl e =>
    have u := g2 e hs
    rw [u.2.2.2.1, if_neg (nI_z u.2.1).2, t50x 4 (by omega) (by omega), u.2.2.2.2.1, m_10, jn_sub]
    refine ok_some ⟨fun e' he' => ?_, fun y hy => by cases hy⟩
    cases he'
    exact ⟨rfl, t501, by rw [t502]; exact u.2.2.2.1, by rw [t50x 32 (by omega) (by omega)]; exact t47, f50⟩
  | inr y =>
    obtain ⟨rfl, u2, u3, u4⟩ := g3 y hs
    rw [u2, if_pos (show nI 0 ≤ (0 : Int32) by decide)]
    refine ok_sq (P := fun M' => zfr [76, 81, 82, 83, 84] M M' ∧ M'.1 76 = M50.1 76 ∧ M'.1 83 = M50.1 83 ∧ M'.1 84 = M.1 84 ∧ (∀ k, k < 10 → M'.1 81 k = jI (y.1.1 k)) ∧ ∀ x, 10 ≤ x → M'.1 81 x = M.1 81 x) ?_ ?_
    · refine ok_up 10 (fun i x => ∃ M', x = (nI i, M') ∧ zfr [76, 81, 82, 83, 84] M M' ∧ M'.1 76 = M50.1 76 ∧ M'.1 82 = M50.1 82 ∧ M'.1 83 = M50.1 83 ∧ M'.1 84 = M.1 84 ∧ (∀ k, k < i → M'.1 81 k = jI (y.1.1 k)) ∧ ∀ x, 10 ≤ x → M'.1 81 x = M.1 81 x) ?_ ?_ zFu 0 _ (by omega) (by unfold zFu; omega) ⟨M50, rfl, zfr_sub f50 (by decide), rfl, rfl, rfl, (f50 84 (by decide)).1, fun k hk => absurd hk (by omega), fun x _ => by rw [(f50 81 (by decide)).1]⟩
      · rintro rec i x hi ⟨M', rfl, o1, o2, o3, o4, o5, o6, o7⟩ hrec
        have k82 : M'.1 82 i = jI (y.1.1 i) := by rw [o3, e82]; exact u3 i hi
        (try dsimp only)
        rw [l_10, nn_leF (by omega), e_gn (by omega), e_gn (by omega), e_lt, e_znn (by omega), k82, l_1, n_add]
        refine hrec _ ⟨_, rfl, zfr_I o1 (by simp), by rw [e_w1 _ _ _ (by omega)]; exact o2, by rw [e_w1 _ _ _ (by omega)]; exact o3, by rw [e_w1 _ _ _ (by omega)]; exact o4, by rw [e_w1 _ _ _ (by omega)]; exact o5, fun k hk => ?_, fun x hx => by rw [e_w1s, e_uF (by omega)]; exact o7 x hx⟩
        rw [e_w1s]
        by_cases z : k = i
        · rw [e_uT z, z]
        · rw [e_uF z]; exact o6 k (by omega)
      · rintro rec x ⟨M', rfl, o1, o2, o3, o4, o5, o6, o7⟩
        (try dsimp only)
        rw [l_10, nn_leT (by omega)]
        exact ok_some ⟨o1, o2, o4, o5, o6, o7⟩
    · rintro M63 ⟨o1, o2, o4, o5, o6, o7⟩
      refine ok_up 64 (fun i x => ∃ M', x = (nI i, M') ∧ zfr [76, 81, 82, 83, 84] M M' ∧ M'.1 76 = M50.1 76 ∧ M'.1 83 = M50.1 83 ∧ M'.1 81 = M63.1 81 ∧ (∀ k, k < i → M'.1 84 k = nI (y.1.2.1 k)) ∧ ∀ x, 64 ≤ x → M'.1 84 x = M.1 84 x) ?_ ?_ zFu 0 _ (by omega) (by unfold zFu; omega) ⟨M63, rfl, o1, o2, o4, rfl, fun k hk => absurd hk (by omega), fun x _ => by rw [o5]⟩
      · rintro rec i x hi ⟨M', rfl, w1, w2, w3, w4, w5, w6⟩ hrec
        have k83 : M'.1 83 i = nI (y.1.2.1 i) := by rw [w3, e83]; exact u4 i hi
        (try dsimp only)
        rw [l_64, nn_leF (by omega), e_gn (by omega), e_gn (by omega), e_lt, e_znn (by omega), k83, l_1, n_add]
        refine hrec _ ⟨_, rfl, zfr_I w1 (by simp), by rw [e_w1 _ _ _ (by omega)]; exact w2, by rw [e_w1 _ _ _ (by omega)]; exact w3, by rw [e_w1 _ _ _ (by omega)]; exact w4, fun k hk => ?_, fun x hx => by rw [e_w1s, e_uF (by omega)]; exact w6 x hx⟩
        rw [e_w1s]
        by_cases z : k = i
        · rw [e_uT z, z]
        · rw [e_uF z]; exact w5 k (by omega)
      · rintro rec x ⟨M', rfl, w1, w2, w3, w4, w5, w6⟩
        (try dsimp only)
        rw [l_64, nn_leT (by omega)]
        refine ok_some ⟨(fun e' he' => by cases he'), fun y' hy => ?_⟩
        cases hy
        exact ⟨rfl, by rw [w2]; exact t501, by rw [w2, t502]; exact u2, by rw [w2, t50x 32 (by omega) (by omega)]; exact t47, w1, fun k hk => by rw [w4]; exact o6 k hk, fun x hx => by rw [w4]; exact o7 x hx, w5, w6⟩
/-- tape and rows of work change -/
theorem RR_t2 {M M' : zM} (h : RR M) (e : ∀ c, ¬ (50 ≤ c ∧ c ≤ 77) → c ≠ 82 → c ≠ 83 → ¬ (85 ≤ c ∧ c ≤ 95) → M'.1 c = M.1 c) (ht : tpR M') (e1 : M'.1 50 2 = M'.1 76 2) (e3 : M'.1 76 32 = M.1 76 32) : RR M' := by
  obtain ⟨⟨ρ, S, s1, s2, s3⟩, h2, h3, h4, _, h6, h7, h8⟩ := h
  have e' : ∀ c, (c < 50 ∨ (78 ≤ c ∧ c ≤ 81) ∨ c = 84 ∨ 96 ≤ c) → M'.1 c = M.1 c := fun c hc => e c (by omega) (by omega) (by omega) (by omega)
  have e84 : M'.1 84 = M.1 84 := e' 84 (by omega)
  have e81 : M'.1 81 = M.1 81 := e' 81 (by omega)
  have e96 : M'.1 96 = M.1 96 := e' 96 (by omega)
  refine ⟨⟨ρ, S, cR_cg s1 (fun c q1 q2 => e' c (by unfold bse at *; simp at q1 q2; omega)), ⟨fun x hx => by rw [e84]; exact s2.1 x hx, fun x hx => by rw [e81]; exact s2.2 x hx⟩, s3⟩, imR_cg (by omega) h2 (fun c q1 q2 => e' c (by unfold bse at *; simp at q1 q2; omega)) (by rw [e96]) (fun x _ => by rw [e84]) (fun x _ => by rw [e81]), imR_cg (by omega) h3 (fun c q1 q2 => e' c (by unfold bse at *; simp at q1 q2; omega)) (by rw [e96]) (fun x _ => by rw [e84]) (fun x _ => by rw [e81]), fun k hk => shR_cg (h4 k hk) (e' _ (by omega)) (e' _ (by omega)) (by rw [e' 97 (by omega)]) (by rw [e' 98 (by omega)]) (fun i _ => by rw [e' 99 (by omega)]), ht, e1, by rw [e' 0 (by omega), e3]; exact h7, ?_⟩
  obtain ⟨a1, a2, a3⟩ := h8
  exact ⟨fun k hk => by rw [e' 78 (by omega)]; exact a1 k hk, fun k hk => by rw [e' 79 (by omega)]; exact a2 k hk, fun k hk => by rw [e' 80 (by omega)]; exact a3 k hk⟩
theorem q_road {M : zM} (h : RR M) : AG2 fX10_road fX11_road M := by
  obtain ⟨len, a1, a2, a3, a4⟩ := h.2.2.2.2.1
  obtain ⟨ρ, S, hsc⟩ := h.1
  obtain ⟨h1, h2, hV⟩ := id hsc
  have h1 : cR M 1 ρ S := h1
  have hR : kR M := h.2.2.2.2.2.2.2
  obtain ⟨b, hb⟩ : ∃ b : Nat → Int, ∀ i, (i < len → M.1 51 i = jI (b i) ∧ M.1 77 i = jI (b i % 256)) ∧ (-128 ≤ b i ∧ b i ≤ 127) := by
    refine ⟨fun i => if i < len then (M.1 51 i).toInt else 0, fun i => ?_⟩
    by_cases hi : i < len
    · obtain ⟨x, x1, x2, x3⟩ := a4 i hi
      have ex : (M.1 51 i).toInt = x := by rw [x2, jI_toInt (by omega)]
      (try dsimp only)
      rw [if_pos hi, ex]
      exact ⟨fun _ => ⟨x2, x3⟩, x1⟩
    · (try dsimp only)
      rw [if_neg hi]
      exact ⟨fun w => absurd w hi, by omega⟩
  have hcT : cT M len b := ⟨a2, a1, fun i hi => ((hb i).1 hi).1, fun i => (hb i).2⟩
  have hrT : rTx M len b := ⟨a3, a1, fun i hi => ((hb i).1 hi).2, fun i => (hb i).2⟩
  obtain ⟨⟨v, M1⟩, c1, c2, c3⟩ := c_road hcT
  dsimp only at c2 c3
  have fr1 : zfr [11, 12, 50, 53, 54] M M1 := frX10_road M _ c1
  have hrT1 : rTx M1 len b := rTx_fr hrT (by rw [(fr1 76 (by decide)).1]) (fr1 77 (by decide)).1
  have hR1 : kR M1 := kR_cg hR (fun c w1 w2 => (fr1 c (by simp; omega)).1)
  obtain ⟨⟨v2, M2⟩, d1, d2, d3⟩ := r_road hrT1 hR1
  dsimp only at d2 d3
  refine ⟨v, M1, M2, c1, ?_, ?_⟩
  · cases hs : pro len b zFu (ρz, (fun _ => 0), 0) 0 0 with
    | inl e => rw [d1, (d2 e hs).1, (c2 e hs).1]
    | inr y => rw [d1, (d3 y hs).1, (c3 y hs).1]
  cases hs : pro len b zFu (ρz, (fun _ => 0), 0) 0 0 with
  | inl e =>
    obtain ⟨_, u1, u2, uf⟩ := c2 e hs
    obtain ⟨_, w1, w2, w3, wf⟩ := d2 e hs
    have k50 : M2.1 50 = M1.1 50 := (wf 50 (by decide)).1
    refine RR_t2 h (fun c q1 q2 q3 q4 => by rw [(wf c (by simp; omega)).1, (uf c (by simp; omega)).1]) ⟨0, by omega, by rw [k50]; exact u1, w1, fun i hi => absurd hi (by omega)⟩ (by rw [k50, u2, w2]) (by rw [w3, (fr1 76 (by decide)).1])
  | inr y =>
    obtain ⟨_, u1, u2, uf, u4, u5, u6⟩ := c3 y hs
    obtain ⟨_, w1, w2, w3, wf, w4, w5, w6, w7⟩ := d3 y hs
    have k50 : M2.1 50 = M1.1 50 := (wf 50 (by decide)).1
    obtain ⟨Mx, hMx⟩ : ∃ Mx, Mx = zwA (zwA (zwA (zwA M2 11 (M.1 11)) 12 (M.1 12)) 81 (M.1 81)) 84 (M.1 84) := ⟨_, rfl⟩
    have xc : ∀ c, c ≠ 11 → c ≠ 12 → c ≠ 81 → c ≠ 84 → Mx.1 c = M2.1 c := fun c q1 q2 q3 q4 => by rw [hMx, e_a1 _ _ q4, e_a1 _ _ q3, e_a1 _ _ q2, e_a1 _ _ q1]
    have x11 : Mx.1 11 = M.1 11 := by rw [hMx, e_a1 _ _ (by omega), e_a1 _ _ (by omega), e_a1 _ _ (by omega), e_a1s]
    have x12 : Mx.1 12 = M.1 12 := by rw [hMx, e_a1 _ _ (by omega), e_a1 _ _ (by omega), e_a1s]
    have x81 : Mx.1 81 = M.1 81 := by rw [hMx, e_a1 _ _ (by omega), e_a1s]
    have x84 : Mx.1 84 = M.1 84 := by rw [hMx, e_a1s]
    have m2c : ∀ c, ¬ (50 ≤ c ∧ c ≤ 77) → c ≠ 11 → c ≠ 12 → c ≠ 81 → c ≠ 82 → c ≠ 83 → c ≠ 84 → M2.1 c = M.1 c := fun c q0 q1 q2 q3 q4 q5 q6 => by rw [(wf c (by simp; omega)).1, (uf c (by simp; omega)).1]
    have hRx : RR Mx := by
      refine RR_t2 h (fun c q1 q2 q3 q4 => ?_) ⟨0, by omega, by rw [xc 50 (by omega) (by omega) (by omega) (by omega), k50]; exact u1, by rw [xc 76 (by omega) (by omega) (by omega) (by omega)]; exact w1, fun i hi => absurd hi (by omega)⟩ ?_ ?_
      · by_cases z1 : c = 11
        · rw [z1]; exact x11
        by_cases z2 : c = 12
        · rw [z2]; exact x12
        by_cases z3 : c = 81
        · rw [z3]; exact x81
        by_cases z4 : c = 84
        · rw [z4]; exact x84
        rw [xc c z1 z2 z3 z4]
        exact m2c c q1 z1 z2 z3 q2 q3 z4
      · rw [xc 50 (by omega) (by omega) (by omega) (by omega), xc 76 (by omega) (by omega) (by omega) (by omega), k50, u2, w2]
      · rw [xc 76 (by omega) (by omega) (by omega) (by omega), w3, (fr1 76 (by decide)).1]
    obtain ⟨S', q1, q2⟩ : ∃ S' : Nat → Nat, (∀ x, 64 ≤ x → S' x = S x) ∧ ∀ x, x < 64 → S' x = y.1.2.1 x := ⟨fun x => if x < 64 then y.1.2.1 x else S x, fun x hx => if_neg (by omega), fun x hx => if_pos hx⟩
    obtain ⟨v1, v2, v3, v4, _⟩ := id hV
    have hlin : ∀ e, e < 2 → S (64 + e) ≤ 10 := fun e he => by
      rcases (show e = 0 ∨ e = 1 by omega) with rfl | rfl
      · exact v1.1
      · exact v1.2
    have hend : ∀ e, e < 2 → cL M2 (2 + 4 * e) e S' := fun e he => by
      obtain ⟨g1, g2⟩ := cR_L h1 he
      have hc : ∀ c, 2 ≤ c → c ≤ 9 → M2.1 c = M.1 c := fun c z1 z2 => m2c c (by omega) (by omega) (by omega) (by omega) (by omega) (by omega) (by omega)
      refine ⟨by rw [hc _ (by omega) (by omega), q1 _ (by omega)]; exact g1, fun i hi => ?_⟩
      rw [q1 _ (by omega)] at hi
      obtain ⟨g3, g4, g5⟩ := g2 i hi
      exact ⟨by rw [hc _ (by omega) (by omega), q1 _ (by omega)]; exact g3, by rw [hc _ (by omega) (by omega), q1 _ (by omega)]; exact g4, fun p hp => by rw [hc _ (by omega) (by omega), q1 _ (by omega)]; exact g5 p hp⟩
    refine RR_sc hRx (fun c q => (xc c (by omega) (by omega) (by omega) (by omega)).symm) (fun x hx => by rw [x84, w7 x (by omega), (fr1 84 (by decide)).1]) (fun x hx => by rw [x81, w5 x hx, (fr1 81 (by decide)).1]) ⟨y.1.1, S', ⟨hend 0 (by omega), hend 1 (by omega), ⟨fun k hk => ?_, fun k hk => ?_⟩, fun i hi => ?_⟩, ⟨fun x hx => ?_, fun x hx => ?_⟩, ?_⟩
    · show M2.1 11 k = jI (y.1.1 k)
      rw [(wf 11 (by decide)).1]
      exact u5 k hk
    · show M2.1 12 k = jI (mx (S' k))
      rw [(wf 12 (by decide)).1, q2 k hk]
      exact u6 k hk
    · have g := h1.2.2.2 i hi
      have g : M.1 13 i = jI (mx (S (190 + i))) := g
      show M2.1 13 i = jI (mx (S' (190 + i)))
      rw [m2c 13 (by omega) (by omega) (by omega) (by omega) (by omega) (by omega) (by omega), q1 _ (by omega)]
      exact g
    · rw [show 220 * 0 + x = x by omega]
      by_cases z : x < 64
      · rw [w6 x z, q2 x z]
      · rw [w7 x (by omega), (fr1 84 (by decide)).1, q1 x (by omega)]
        exact rR_s h2 hx
    · rw [show 10 * 0 + x = x by omega]
      exact w4 x hx
    · obtain ⟨_, o2, o3⟩ := u4
      refine ⟨⟨by rw [q1 64 (by omega)]; exact v1.1, by rw [q1 65 (by omega)]; exact v1.2⟩, fun e i he hi => ?_, fun k hk => by rw [q2 k hk]; exact o2 k hk, fun i hi => by rw [q1 _ (by omega)]; exact v4 i hi, o3⟩
      rw [q1 _ (by omega)] at hi
      obtain ⟨g1, g2, g3⟩ := v2 e i he hi
      exact ⟨by rw [q1 _ (by omega)]; exact g1, by rw [q1 _ (by omega)]; exact g2, fun p hp => by rw [q1 _ (by omega)]; exact g3 p hp⟩
