/-- only the tape changes -/
theorem RR_tp {M M' : zM} (h : RR M) (e : ∀ c, c ≠ 50 → c ≠ 51 → c ≠ 76 → c ≠ 77 → M'.1 c = M.1 c) (ht : tpR M') (e1 : M'.1 50 2 = M.1 50 2) (e2 : M'.1 76 2 = M.1 76 2) (e3 : M'.1 76 32 = M.1 76 32) : RR M' := by
  obtain ⟨⟨ρ, S, s1, s2, s3⟩, h2, h3, h4, _, h6, h7, h8⟩ := h
  have e84 : M'.1 84 = M.1 84 := e 84 (by omega) (by omega) (by omega) (by omega)
  have e81 : M'.1 81 = M.1 81 := e 81 (by omega) (by omega) (by omega) (by omega)
  have e96 : M'.1 96 = M.1 96 := e 96 (by omega) (by omega) (by omega) (by omega)
  refine ⟨⟨ρ, S, cR_cg s1 (fun c q1 q2 => e c (by unfold bse at *; simp at q1 q2; omega) (by unfold bse at *; simp at q1 q2; omega) (by unfold bse at *; simp at q1 q2; omega) (by unfold bse at *; simp at q1 q2; omega)), ⟨fun x hx => by rw [e84]; exact s2.1 x hx, fun x hx => by rw [e81]; exact s2.2 x hx⟩, s3⟩, imR_cg (by omega) h2 (fun c q1 q2 => e c (by unfold bse at *; simp at q1 q2; omega) (by unfold bse at *; simp at q1 q2; omega) (by unfold bse at *; simp at q1 q2; omega) (by unfold bse at *; simp at q1 q2; omega)) (by rw [e96]) (fun x _ => by rw [e84]) (fun x _ => by rw [e81]), imR_cg (by omega) h3 (fun c q1 q2 => e c (by unfold bse at *; simp at q1 q2; omega) (by unfold bse at *; simp at q1 q2; omega) (by unfold bse at *; simp at q1 q2; omega) (by unfold bse at *; simp at q1 q2; omega)) (by rw [e96]) (fun x _ => by rw [e84]) (fun x _ => by rw [e81]), fun k hk => shR_cg (h4 k hk) (e _ (by omega) (by omega) (by omega) (by omega)) (e _ (by omega) (by omega) (by omega) (by omega)) (by rw [e 97 (by omega) (by omega) (by omega) (by omega)]) (by rw [e 98 (by omega) (by omega) (by omega) (by omega)]) (fun i _ => by rw [e 99 (by omega) (by omega) (by omega) (by omega)]), ht, by rw [e1, e2]; exact h6, by rw [e 0 (by omega) (by omega) (by omega) (by omega), e3]; exact h7, ?_⟩
  obtain ⟨a1, a2, a3⟩ := h8
  exact ⟨fun k hk => by rw [e 78 (by omega) (by omega) (by omega) (by omega)]; exact a1 k hk, fun k hk => by rw [e 79 (by omega) (by omega) (by omega) (by omega)]; exact a2 k hk, fun k hk => by rw [e 80 (by omega) (by omega) (by omega) (by omega)]; exact a3 k hk⟩
theorem q_end {M : zM} (h : RR M) (p : Int32) : AG2 (fX10_end p) (fX11_end p) M := by
  obtain ⟨len, a1, a2, a3, a4⟩ := h.2.2.2.2.1
  have e0 : (nI len).toInt64 = jL (len : Int) := by rw [nI_j, jI_l (by omega)]
  unfold AG2 fX10_end fX11_end
  rcases ar p len len (by omega) rfl with ⟨k, hk, rfl, e1, e2⟩ | ⟨e1, e2, _⟩
  · have b3 : (zwI M 50 1 (nI k)).1 76 = M.1 76 := e_w1 _ _ _ (by omega)
    refine ⟨nI len, zwI M 50 1 (nI k), zwI (zwI M 50 1 (nI k)) 76 1 (nI k), ?_, ?_, ?_⟩
    · rw [a2, e_lt, l_0, e1, e_lt, if_neg (by decide), e_lt]
    · rw [b3, a3, e0, L_0, e2, e_lt, if_neg (by decide), e_lt, e_lt]
    · refine RR_tp h (fun c w1 w2 w3 w4 => by rw [e_w1 _ _ _ w3, e_w1 _ _ _ w1]) ⟨k, by omega, by rw [e_w1 _ _ _ (by omega), e_w1s, e_uT rfl], by rw [e_w1s, e_uT rfl], fun i hi => ?_⟩ (by rw [e_w1 _ _ _ (by omega), e_w1s, e_uF (by omega)]) (by rw [e_w1s, e_uF (by omega), b3]) (by rw [e_w1s, e_uF (by omega), b3])
      rw [e_w1 _ _ _ (by omega), e_w1 _ _ _ (by omega), e_w1 _ _ _ (by omega), e_w1 _ _ _ (by omega)]
      exact a4 i (by omega)
  · refine ⟨jI (-1), M, M, ?_, ?_, h⟩
    · rw [a2, e_lt, l_0, e1]; rfl
    · rw [a3, e0, L_0, e2]; rfl
