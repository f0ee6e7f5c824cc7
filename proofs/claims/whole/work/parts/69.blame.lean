def mst (g : Nat → Nat) : Nat → Nat × Nat
  | 0 => (64, 0)
  | k + 1 => if g k ≤ (mst g k).2 then mst g k else (k, g k)
def md (c : Nat) : Int32 := if c = 64 then jI (-4) else nI c
def gm (R : Nat → Nat → Nat) (k : Nat) : Nat := if k / 8 = k % 8 then 0 else R (k / 8) (k % 8)
theorem mst_s (g : Nat → Nat) (k : Nat) : mst g (k + 1) = if g k ≤ (mst g k).2 then mst g k else (k, g k) := rfl
theorem mst_le {g : Nat → Nat} (hg : ∀ k, g k ≤ 1000) (k : Nat) : (mst g k).2 ≤ 1000 := by
  induction k with
  | zero => show 0 ≤ 1000; omega
  | succ k ih =>
    rw [mst_s]
    by_cases z : g k ≤ (mst g k).2
    · rw [if_pos z]; exact ih
    · rw [if_neg z]; exact hg k
theorem mst_lt (g : Nat → Nat) (k : Nat) : (mst g k).1 = 64 ∨ (mst g k).1 < k := by
  induction k with
  | zero => exact Or.inl rfl
  | succ k ih =>
    rw [mst_s]
    by_cases z : g k ≤ (mst g k).2
    · rw [if_pos z]; omega
    · rw [if_neg z]; right; show k < k + 1; omega
theorem gm_le {R : Nat → Nat → Nat} (hR : ∀ x y, R x y ≤ 1000) (k : Nat) : gm R k ≤ 1000 := by
  unfold gm
  split
  · omega
  · exact hR _ _
theorem c_mstk {M : zM} {R : Nat → Nat → Nat} (hR : ∀ x y, R x y ≤ 1000) (hM : ∀ x y, x < 8 → y < 8 → M.1 75 (x * 8 + y) = nI (R x y)) : ok (fX10_mostMistaken M) (fun v => v = md (mst (gm R) 64).1) := by
  have hg := gm_le hR
  unfold fX10_mostMistaken
  refine ok_up 64 (fun k s => s = (md (mst (gm R) k).1, nI (mst (gm R) k).2, nI k)) ?_ ?_ zFu 0 _ (by omega) (by unfold zFu; omega) rfl
  · rintro rec k s hk rfl hrec
    have hb := mst_le hg k
    have e1 : nI k / (8 : Int32) = nI (k / 8) := n_dv (b := 8) (by omega) (by omega) (by omega)
    have e2 : zrm_i (nI k) (8 : Int32) = nI (k % 8) := n_rm (b := 8) (by omega) (by omega) (by omega)
    have e3 := hM (k / 8) (k % 8) (by omega) (by omega)
    rw [show k / 8 * 8 + k % 8 = k by omega] at e3
    have hr := hR (k / 8) (k % 8)
    have es := mst_s (gm R) k
    dsimp only
    rw [l_64, nn_leF (by omega), e1, e2]
    by_cases z : k / 8 = k % 8
    · have eg : gm R k = 0 := if_pos z
      rw [nn_eqT (by omega), e_sq, l_1, n_add]
      rw [eg, if_pos (by omega)] at es
      exact hrec _ (by rw [es])
    · have eg : gm R k = R (k / 8) (k % 8) := if_neg z
      rw [nn_eqF (by omega), e_gn (by omega), e_znn (by omega), e3]
      by_cases z2 : R (k / 8) (k % 8) ≤ (mst (gm R) k).2
      · rw [nn_leT (by omega), e_sq, l_1, n_add]
        rw [eg, if_pos z2] at es
        exact hrec _ (by rw [es])
      · rw [nn_leF (by omega), e_gn (by omega), e_lt, e_sq, l_1, n_add]
        rw [eg, if_neg z2] at es
        refine hrec _ ?_
        rw [es]
        have : md k = nI k := if_neg (by omega)
        rw [← this]
  · rintro rec s rfl
    dsimp only
    rw [l_64, nn_leT (by omega)]
    exact ok_some rfl
theorem r_mstk {M : zM} {ρ : Nat → Int} {S : Nat → Nat} {R : Nat → Nat → Nat} (hR : ∀ x y, R x y ≤ 1000) (h : ok (fX11_layAll M) (fun M2 => ok (fX11_layFirst 91 M2) (fun M3 => rR M3 0 ρ S ∧ ∀ x y, x < 8 → y < 8 → fX11_readAs (nI x) (nI y) M3 = some (nI (R x y))))) : ok (fX11_blamed M) (fun v => v.1 = md (mst (gm R) 64).1 ∧ rR v.2 0 ρ S ∧ ∀ x y, x < 8 → y < 8 → fX11_readAs (nI x) (nI y) v.2 = some (nI (R x y))) := by
  have hg := gm_le hR
  unfold fX11_blamed
  refine ok_sq h (fun M2 w => ok_sq w ?_)
  rintro M3 ⟨r1, r2⟩
  refine ok_up 64 (fun k s => s = (md (mst (gm R) k).1, nI (mst (gm R) k).2, nI k)) ?_ ?_ zFu 0 _ (by omega) (by unfold zFu; omega) rfl
  · rintro rec k s hk rfl hrec
    have hb := mst_le hg k
    have e1 : nI k / (8 : Int32) = nI (k / 8) := n_dv (b := 8) (by omega) (by omega) (by omega)
    have e2 : zrm_i (nI k) (8 : Int32) = nI (k % 8) := n_rm (b := 8) (by omega) (by omega) (by omega)
    have e3 := r2 (k / 8) (k % 8) (by omega) (by omega)
    have hr := hg k
    have es := mst_s (gm R) k
    have hv : (if nI (k / 8) = nI (k % 8) then some (0 : Int32) else sq (fX11_readAs (nI (k / 8)) (nI (k % 8)) M3) (fun x35 => some x35)) = some (nI (gm R k)) := by
      by_cases z : k / 8 = k % 8
      · rw [nn_eqT (by omega), show gm R k = 0 from if_pos z]; rfl
      · rw [nn_eqF (by omega), e3, e_sq, show gm R k = R (k / 8) (k % 8) from if_neg z]
    dsimp only
    rw [l_64, nn_leF (by omega), e1, e2, hv, e_sq, l_1, n_add]
    by_cases z2 : gm R k ≤ (mst (gm R) k).2
    · rw [nn_leT (by omega), e_lt, nn_leT (by omega), e_lt]
      rw [if_pos z2] at es
      exact hrec _ (by rw [es])
    · rw [nn_leF (by omega), e_lt, nn_leF (by omega), e_lt]
      rw [if_neg z2] at es
      refine hrec _ ?_
      rw [es]
      have : md k = nI k := if_neg (by omega)
      rw [← this]
  · rintro rec s rfl
    dsimp only
    rw [l_64, nn_leT (by omega)]
    exact ok_some ⟨rfl, r1, r2⟩
theorem q_blame {M : zM} (h : RR M) (p : Int32) : AG2 (fX10_blame p) (fX11_blame p) M := by
  obtain ⟨ρ, S, h1, h2, hV⟩ := h.1
  have h1 : cR M 1 ρ S := h1
  rcases ar p 2 2 (by omega) rfl with ⟨x, hx, rfl, e1, e2⟩ | ⟨e1, e2, _⟩
  rotate_left
  · refine ⟨jI (-1), M, M, ?_, ?_, h⟩
    · unfold fX10_blame
      rw [l_0, l_2, e1]; rfl
    · unfold fX11_blame
      rw [L_0, L_2, e2]; rfl
  obtain ⟨P, g1, g2⟩ := c_rd h1 hV
  obtain ⟨R, hRe⟩ : ∃ R : Nat → Nat → Nat, R = fun x y => rdA S P x y (S 64) := ⟨_, rfl⟩
  have hS := hV.1
  have hR : ∀ x y, R x y ≤ 1000 := fun x y => by
    have := rdA_le S P x y (S 64)
    rw [hRe]
    show rdA S P x y (S 64) ≤ 1000
    omega
  have g1 : ok (sq (fX10_findFirst M) (fun M2 => fX10_countReads M2)) (fun M' => ∀ x y, x < 8 → y < 8 → M'.1 75 (x * 8 + y) = nI (R x y)) := by rw [hRe]; exact g1
  have g2 : ∀ M1, rR M1 0 ρ S → ok (fX11_layAll M1) (fun M2 => ok (fX11_layFirst 91 M2) (fun M3 => rR M3 0 ρ S ∧ ∀ x y, x < 8 → y < 8 → fX11_readAs (nI x) (nI y) M3 = some (nI (R x y)))) := by rw [hRe]; exact g2
  obtain ⟨c, hc⟩ : ∃ c, c = (mst (gm R) 64).1 := ⟨_, rfl⟩
  have hcl := mst_lt (gm R) 64
  rw [← hc] at hcl
  have d8 : c ≠ 64 → nI c / (8 : Int32) = nI (c / 8) := fun w => n_dv (b := 8) (by omega) (by omega) (by omega)
  have r8 : c ≠ 64 → zrm_i (nI c) (8 : Int32) = nI (c % 8) := fun w => n_rm (b := 8) (by omega) (by omega) (by omega)
  refine ag2 (v := if c = 64 then jI (-4) else if x = 0 then nI (c / 8) else if x = 1 then nI (c % 8) else nI (R (c / 8) (c % 8))) h h2 ?_ (frX10_blame _ M) (by unfold scr; decide) (fun M1 k1 _ => ?_) (fun M1 => frX11_blame _ M1) (by unfold scr; decide)
  · unfold fX10_blame
    rw [l_0, l_2, e1, e_lt, if_neg (by decide)]
    obtain ⟨M4, d1, d2⟩ := g1
    cases hf : fX10_findFirst M with
    | none => rw [hf] at d1; exact absurd d1 (by intro w; cases w)
    | some M3 =>
      rw [hf, e_sq] at d1
      obtain ⟨v, v1, v2⟩ := c_mstk hR d2
      rw [← hc] at v2
      rw [e_sq, d1, e_sq, v1, e_sq, v2, m_4]
      by_cases z : c = 64
      · rw [z, if_pos rfl, if_pos (show md 64 = jI (-4) from if_pos rfl)]
        exact ok_some rfl
      · have em : md c = nI c := if_neg z
        rw [em, nj_eqF (by omega), if_neg z, d8 z, r8 z]
        rcases (show x = 0 ∨ x = 1 ∨ x = 2 by omega) with rfl | rfl | rfl
        · exact ok_some rfl
        · exact ok_some rfl
        · have e3 := d2 (c / 8) (c % 8) (by omega) (by omega)
          rw [show c / 8 * 8 + c % 8 = c by omega] at e3
          rw [if_neg (by decide), if_neg (by decide), e_gn (by omega), e_znn (by omega), e3]
          exact ok_some rfl
  · unfold fX11_blame
    rw [L_0, L_2, e2, e_lt, if_neg (by decide)]
    obtain ⟨⟨v, M2⟩, v1, v2, v3, v4⟩ := r_mstk hR (g2 M1 k1)
    dsimp only at v2 v3 v4
    rw [← hc] at v2
    rw [v1, e_bi, v2, m_4]
    by_cases z : c = 64
    · rw [z, if_pos rfl, if_pos (show md 64 = jI (-4) from if_pos rfl)]
      exact ok_some rfl
    · have em : md c = nI c := if_neg z
      rw [em, nj_eqF (by omega), if_neg z, d8 z, r8 z]
      rcases (show x = 0 ∨ x = 1 ∨ x = 2 by omega) with rfl | rfl | rfl
      · exact ok_some rfl
      · exact ok_some rfl
      · rw [if_neg (by decide), if_neg (by decide), v4 (c / 8) (c % 8) (by omega) (by omega), e_sq]
        exact ok_some rfl
