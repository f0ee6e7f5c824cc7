theorem sc_mix {M M' : zM} {ρ : Nat → Int} {S : Nat → Nat} {c p : Nat} (h : sc M 0 ρ S) (hc : c < 64) (hp : p ≤ 50) (e1 : ∀ d, 1 < d → d ≤ 13 → d ≠ 12 → M'.1 d = M.1 d) (e2 : M'.1 12 = upd (M.1 12) c (nI p)) (e3 : M'.1 84 = upd (M.1 84) c (nI (p + 1))) (e5 : M'.1 81 = M.1 81) : ∃ S', sc M' 0 ρ S' := by
  obtain ⟨S', q1, q2⟩ : ∃ S' : Nat → Nat, S' c = p + 1 ∧ ∀ x, x ≠ c → S' x = S x := ⟨fun x => if x = c then p + 1 else S x, if_pos rfl, fun x hx => if_neg hx⟩
  obtain ⟨⟨⟨h1, h2⟩, ⟨h3, h4⟩, ⟨h5, h6⟩, h7⟩, ⟨k1, k2⟩, v1, v2, v3, v4, v5⟩ := h
  refine ⟨S', ⟨⟨?_, fun i hi => ?_⟩, ⟨?_, fun i hi => ?_⟩, ⟨fun k hk => ?_, fun k hk => ?_⟩, fun i hi => ?_⟩, ⟨fun x hx => ?_, fun x hx => by rw [e5]; exact k2 x hx⟩, ?_, fun e i he hi => ?_, fun k hk => ?_, fun i hi => ?_, v5⟩
  · rw [q2 _ (by omega), e1 _ (by decide) (by decide) (by decide)]; exact h1
  · rw [q2 _ (by omega)] at hi
    rw [q2 _ (by omega), q2 _ (by omega), e1 _ (by decide) (by decide) (by decide), e1 _ (by decide) (by decide) (by decide), e1 _ (by decide) (by decide) (by decide)]
    obtain ⟨a1, a2, a3⟩ := h2 i hi
    exact ⟨a1, a2, fun p hp => by rw [q2 _ (by omega)]; exact a3 p hp⟩
  · rw [q2 _ (by omega), e1 _ (by decide) (by decide) (by decide)]; exact h3
  · rw [q2 _ (by omega)] at hi
    rw [q2 _ (by omega), q2 _ (by omega), e1 _ (by decide) (by decide) (by decide), e1 _ (by decide) (by decide) (by decide), e1 _ (by decide) (by decide) (by decide)]
    obtain ⟨a1, a2, a3⟩ := h4 i hi
    exact ⟨a1, a2, fun p hp => by rw [q2 _ (by omega)]; exact a3 p hp⟩
  · rw [e1 _ (by decide) (by decide) (by decide)]; exact h5 k hk
  · show M'.1 12 k = _
    rw [e2]
    by_cases z : k = c
    · rw [e_uT z, z, q1, mx_nI (by omega)]
      exact congrArg nI (by omega)
    · rw [e_uF z, q2 k z]; exact h6 k hk
  · rw [q2 _ (by omega), e1 _ (by decide) (by decide) (by decide)]; exact h7 i hi
  · rw [e3]
    have := k1 x hx
    rw [show 220 * 0 + x = x by omega] at this ⊢
    by_cases z : x = c
    · rw [e_uT z, z, q1]
    · rw [e_uF z, q2 x z]; exact this
  · rw [q2 _ (by omega), q2 _ (by omega)]; exact v1
  · rw [q2 _ (by omega)] at hi
    obtain ⟨a1, a2, a3⟩ := v2 e i he hi
    exact ⟨by rw [q2 _ (by omega)]; exact a1, by rw [q2 _ (by omega)]; exact a2, fun p hp => by rw [q2 _ (by omega)]; exact a3 p hp⟩
  · by_cases z : k = c
    · rw [z, q1]; omega
    · rw [q2 k z]; exact v3 k hk
  · rw [q2 _ (by omega)]; exact v4 i hi
theorem q_learn {M : zM} (h : RR M) (p : Int32) : AG2 (fX10_learn p) (fX11_learn p) M := by
  obtain ⟨ρ, S, h1, h2, hV⟩ := h.1
  have hsc : sc M 0 ρ S := ⟨h1, h2, hV⟩
  have h1 : cR M 1 ρ S := h1
  rcases ar p 50 50 (by omega) rfl with ⟨x, hx, rfl, e1, e2⟩ | ⟨e1, e2, _⟩
  rotate_left
  · refine ⟨jI (-1), M, M, ?_, ?_, h⟩
    · unfold fX10_learn
      rw [l_0, l_50, e1]; rfl
    · unfold fX11_learn
      rw [L_0, L_50, e2]; rfl
  obtain ⟨P, g1, g2⟩ := c_rd h1 hV
  obtain ⟨R, hRe⟩ : ∃ R : Nat → Nat → Nat, R = fun x y => rdA S P x y (S 64) := ⟨_, rfl⟩
  have hS := hV.1
  have hR : ∀ x y, R x y ≤ 1000 := fun x y => by
    have := rdA_le S P x y (S 64)
    rw [hRe]
    show rdA S P x y (S 64) ≤ 1000
    omega
  have g1 : ok (sq (fX10_findFirst M) (fun M2 => fX10_countReads M2)) (fun M' => ∀ x y, x < 8 → y < 8 → M'.1 75 (x * 8 + y) = nI (R x y)) := by rw [hRe]; exact g1
  have g2 : ∀ M1, rR M1 0 ρ S → ok (fX11_layAll M1) (fun M2 => ok (fX11_layFirst 91 M2) (fun M3 => rR M3 0 ρ S ∧ ∀ x y, x < 8 → y < 8 → fX11_readAs (nI x) (nI y) M3 = some (nI (R x y)))) := by rw [hRe]; exact g2
  obtain ⟨c, hc⟩ : ∃ c, c = (mst (gm R) 64).1 := ⟨_, rfl⟩
  have hcl := mst_lt (gm R) 64
  rw [← hc] at hcl
  obtain ⟨M4, d1, d2⟩ := g1
  cases hf : fX10_findFirst M with
  | none => rw [hf] at d1; exact absurd d1 (by intro w; cases w)
  | some M3 =>
    rw [hf, e_sq] at d1
    obtain ⟨v, v1, v2⟩ := c_mstk hR d2
    rw [← hc] at v2
    have fa := frX10_findFirst M M3 hf
    have fb := frX10_countReads M3 M4 d1
    have fc : ∀ d, ¬ (55 ≤ d ∧ d ≤ 75) → M4.1 d = M.1 d := fun d hd => by
      rw [(fb d (by simp only [List.mem_cons, List.not_mem_nil, or_false]; omega)).1, (fa d (by simp only [List.mem_cons, List.not_mem_nil, or_false]; omega)).1]
    have R4 : RR M4 := RR_fr (RR_fr h fa (by decide)) fb (by decide)
    have r4 : rR M4 0 ρ S := ⟨fun y hy => by rw [fc 84 (by omega)]; exact h2.1 y hy, fun y hy => by rw [fc 81 (by omega)]; exact h2.2 y hy⟩
    by_cases z : c = 64
    · have em : md c = jI (-4) := if_pos z
      obtain ⟨⟨u, M5⟩, u1, u2, u3, u4⟩ := r_mstk hR (g2 M4 r4)
      dsimp only at u2 u3 u4
      rw [← hc, em] at u2
      rw [em] at v2
      refine ⟨jI (-2), M4, M5, ?_, ?_, RR_fr R4 (frX11_blamed M4 _ u1) (by decide)⟩
      · unfold fX10_learn
        rw [l_0, l_50, e1, e_lt, if_neg (by decide), hf, e_sq, d1, e_sq, v1, e_sq, v2]; rfl
      · unfold fX11_learn
        rw [L_0, L_50, e2, e_lt, if_neg (by decide), u1, e_bi, u2]; rfl
    · have em : md c = nI c := if_neg z
      have hc64 : c < 64 := by omega
      rw [em] at v2
      obtain ⟨M6, hM6⟩ : ∃ M6, M6 = zwI M4 12 c (nI x) := ⟨_, rfl⟩
      have f6 : ∀ d, d ≠ 12 → M6.1 d = M4.1 d := fun d hd => by rw [hM6, e_w1 _ _ _ hd]
      have r6 : rR M6 0 ρ S := ⟨fun y hy => by rw [f6 84 (by omega)]; exact r4.1 y hy, fun y hy => by rw [f6 81 (by omega)]; exact r4.2 y hy⟩
      obtain ⟨⟨u, M5⟩, u1, u2, u3, u4⟩ := r_mstk hR (g2 M6 r6)
      dsimp only at u2 u3 u4
      rw [← hc, em] at u2
      have fd := frX11_blamed M6 _ u1
      have fe : ∀ d, ¬ (85 ≤ d ∧ d ≤ 91) → M5.1 d = M6.1 d := fun d hd => (fd d (by simp only [List.mem_cons, List.not_mem_nil, or_false]; omega)).1
      have w1 : M4.1 12 c = jI (mx (S c)) := by rw [fc 12 (by omega)]; exact h1.2.2.1.2 c (by omega)
      have w2 : M5.1 84 c = nI (S c) := rR_s u3 (by omega)
      have w3 := hV.2.2.1 c (by omega)
      refine ⟨jI (mx (S c)), M6, zwI M5 84 c (nI (x + 1)), ?_, ?_, ?_⟩
      · unfold fX10_learn
        rw [m_4, l_0, l_50, e1, e_lt, if_neg (by decide), hf, e_sq, d1, e_sq, v1, e_sq, v2, nj_eqF (by omega), e_gn (by omega), e_znn (by omega), w1, e_lt, e_gn (by omega), e_lt, hM6]
      · unfold fX11_learn
        rw [m_4, L_0, L_50, e2, e_lt, if_neg (by decide), u1, e_bi, u2, nj_eqF (by omega), e_gn (by omega), e_znn (by omega), w2]
        by_cases y : S c = 0
        · rw [if_pos (by rw [y]; rfl), e_sq, e_gn (by omega), l_1, n_add, e_lt, show mx (S c) = -4 from if_pos y]
        · rw [l_0, nn_eqF (by omega), e_gn (by omega), l_1, n_sub (by omega), e_sq, e_gn (by omega), n_add, e_lt, mx_nI y]
      · refine RR_sc h (fun d w => by rw [e_w1 _ _ _ (by omega), fe d (by omega), f6 d (by omega), fc d (by omega)]) (fun y hy => by rw [e_w1s, e_uF (by omega), fe 84 (by omega), f6 84 (by omega), fc 84 (by omega)]) (fun y hy => by rw [e_w1 _ _ _ (by omega), fe 81 (by omega), f6 81 (by omega), fc 81 (by omega)]) ⟨ρ, sc_mix hsc hc64 hx (fun d a b k => by rw [e_w1 _ _ _ (by omega), fe d (by omega), f6 d (by omega), fc d (by omega)]) ?_ ?_ ?_⟩
        · rw [e_w1 _ _ _ (by omega), fe 12 (by omega), hM6, e_w1s, fc 12 (by omega)]
        · rw [e_w1s, fe 84 (by omega), f6 84 (by omega), fc 84 (by omega)]
        · rw [e_w1 _ _ _ (by omega), fe 81 (by omega), f6 81 (by omega), fc 81 (by omega)]
