/-! ===== an item, as the reference takes it ===== -/
def kq (M M' : zM) : Prop := zfr [76, 82, 83] M M' ∧ ∀ x, (x < 3 ∨ 8 < x) → M'.1 76 x = M.1 76 x
theorem kq_k {M M' : zM} (h : kp M M') : kq M M' := ⟨zfr_sub h.1 (by decide), h.2⟩
theorem kq_rf (M : zM) : kq M M := ⟨zfr_rf _ _, fun _ _ => rfl⟩
theorem kq_tr {M M' M'' : zM} (h : kq M M') (k : kq M' M'') : kq M M'' := ⟨zfr_tr h.1 k.1 (fun c hc => hc), fun x hx => by rw [k.2 x hx, h.2 x hx]⟩
theorem kq_82 {M M' : zM} (h : kq M M') (i : Nat) (v : Int32) : kq M (zwI M' 82 i v) := ⟨zfr_I h.1 (by simp), fun x hx => by rw [e_w1 _ _ _ (by omega)]; exact h.2 x hx⟩
theorem kq_83 {M M' : zM} (h : kq M M') (i : Nat) (v : Int32) : kq M (zwI M' 83 i v) := ⟨zfr_I h.1 (by simp), fun x hx => by rw [e_w1 _ _ _ (by omega)]; exact h.2 x hx⟩
theorem rE_82 {M : zM} {len : Nat} {b : Nat → Int} {e : Nat × Nat} (h : rE M len b e) (i : Nat) (v : Int32) : rE (zwI M 82 i v) len b e := rE_cg h (fun x _ => by rw [e_w1 _ _ _ (by omega)]) (by rw [e_w1 _ _ _ (by omega)])
theorem rA_82 {M : zM} {len : Nat} {b : Nat → Int} {p : Nat} (h : rA M len b p) (i : Nat) (v : Int32) : rA (zwI M 82 i v) len b p := rA_cg h (fun x _ => by rw [e_w1 _ _ _ (by omega)]) (by rw [e_w1 _ _ _ (by omega)])
theorem rA_83 {M : zM} {len : Nat} {b : Nat → Int} {p : Nat} (h : rA M len b p) (i : Nat) (v : Int32) : rA (zwI M 83 i v) len b p := rA_cg h (fun x _ => by rw [e_w1 _ _ _ (by omega)]) (by rw [e_w1 _ _ _ (by omega)])
/-- minutes: the text -/
def mnT (M10 : zM) : Option zM := bi (fX11_number (0 : Int32) (500 : Int32) M10) (fun (x40 : Int32) (M39 : zM) => grd (zix (0 : Int32) 10) (lt (zwI M39 82 (zn (0 : Int32)) x40) (fun (M41 : zM) => grd (zix (0 : Int32) 10) (bi (fX11_number (M41.1 82 (zn (0 : Int32))) (500 : Int32) M41) (fun (x43 : Int32) (M42 : zM) => grd (zix (1 : Int32) 10) (lt (zwI M42 82 (zn (1 : Int32)) x43) (fun (M44 : zM) => grd (zix (0 : Int32) 10) (grd (zix (1 : Int32) 10) (bi (fX11_number (M44.1 82 (zn (0 : Int32))) (M44.1 82 (zn (1 : Int32))) M44) (fun (x46 : Int32) (M45 : zM) => grd (zix (2 : Int32) 10) (lt (zwI M45 82 (zn (2 : Int32)) x46) (fun (M47 : zM) => bi (fX11_number (0 : Int32) (9 : Int32) M47) (fun (x49 : Int32) (M48 : zM) => grd (zix (3 : Int32) 10) (lt (zwI M48 82 (zn (3 : Int32)) x49) (fun (M50 : zM) => some M50)))))))))))))))
theorem mnTe {M : zM} {len : Nat} {b : Nat → Int} {e : Nat × Nat} (h : rE M len b e) : ok (mnT M) (fun M' => kq M M' ∧ rE M' len b e) := by
  unfold mnT
  rw [r_nume h, e_bi, e_grd (by decide), e_lt, e_grd (by decide), r_nume (rE_82 h _ _), e_bi, e_grd (by decide), e_lt, e_grd (by decide), e_grd (by decide), r_nume (rE_82 (rE_82 h _ _) _ _), e_bi, e_grd (by decide), e_lt, r_nume (rE_82 (rE_82 (rE_82 h _ _) _ _) _ _), e_bi, e_grd (by decide), e_lt]
  exact ok_some ⟨kq_82 (kq_82 (kq_82 (kq_82 (kq_rf _) _ _) _ _) _ _) _ _, rE_82 (rE_82 (rE_82 (rE_82 h _ _) _ _) _ _) _ _⟩
theorem mnTr {M : zM} {len : Nat} {b : Nat → Int} {p : Nat} {ρ : Nat → Int} (h : rA M len b p) (hr : ∀ k, k < 10 → M.1 82 k = jI (ρ k)) : ok (mnT M) (fun M' => kq M M' ∧ (∀ e, pmin len b ρ p = .inl e → rE M' len b e) ∧ ∀ y, pmin len b ρ p = .inr y → rA M' len b y.2 ∧ (∀ k, k < 10 → M'.1 82 k = jI (y.1 k)) ∧ M'.1 83 = M.1 83) := by
  have fail : ∀ {M' : zM} {e : Nat × Nat}, pmin len b ρ p = .inl e → kq M M' → rE M' len b e → ok (some M') (fun M' => kq M M' ∧ (∀ e, pmin len b ρ p = .inl e → rE M' len b e) ∧ ∀ y, pmin len b ρ p = .inr y → rA M' len b y.2 ∧ (∀ k, k < 10 → M'.1 82 k = jI (y.1 k)) ∧ M'.1 83 = M.1 83) := fun {M' e} hs hk he => ok_some ⟨hk, fun e' he' => by rw [hs] at he'; cases he'; exact he, fun y hy => by rw [hs] at hy; cases hy⟩
  unfold mnT
  have c1 := r_num h (lo := 0) (hi := 500) (by omega) (by omega)
  have c1 : ok (fX11_number (0 : Int32) (500 : Int32) M) _ := c1
  refine ok_bi c1 ?_
  rintro x1 M1 ⟨f1, g1, g2⟩
  dsimp only at f1 g1 g2
  cases h1 : pnum len b 0 500 p with
  | inl e =>
    have u := g1 e h1
    rw [e_grd (by decide), e_lt, e_grd (by decide), r_nume (rE_82 u _ _), e_bi, e_grd (by decide), e_lt, e_grd (by decide), e_grd (by decide), r_nume (rE_82 (rE_82 u _ _) _ _), e_bi, e_grd (by decide), e_lt, r_nume (rE_82 (rE_82 (rE_82 u _ _) _ _) _ _), e_bi, e_grd (by decide), e_lt]
    exact fail (by unfold pmin; rw [h1]; rfl) (kq_82 (kq_82 (kq_82 (kq_82 (kq_k f1) _ _) _ _) _ _) _ _) (rE_82 (rE_82 (rE_82 (rE_82 u _ _) _ _) _ _) _ _)
  | inr y1 =>
    obtain ⟨rfl, s1⟩ := g2 y1 h1
    have b1 := pnum_v h.1 h1
    rw [e_grd (by decide), e_lt, e_grd (by decide), z_0]
    obtain ⟨M3, hM3⟩ : ∃ M3, M3 = zwI M1 82 0 (nI y1.1) := ⟨_, rfl⟩
    have q3 : kq M M3 := by rw [hM3]; exact kq_82 (kq_k f1) _ _
    have k3 : M3.1 82 0 = nI y1.1 := by rw [hM3, e_w1s, e_uT rfl]
    have s3 : rA M3 len b y1.2 := by rw [hM3]; exact rA_82 s1 _ _
    have x3 : ∀ k, k < 10 → k ≠ 0 → M3.1 82 k = jI (ρ k) := fun k hk w => by rw [hM3, e_w1s, e_uF w, (f1.1 82 (by decide)).1]; exact hr k hk
    have t3 : M3.1 83 = M.1 83 := by rw [hM3, e_w1 _ _ _ (by omega), (f1.1 83 (by decide)).1]
    rw [← hM3, k3]
    have c2 := r_num s3 (lo := y1.1) (hi := 500) (by omega) (by omega)
    have c2 : ok (fX11_number (nI y1.1) (500 : Int32) M3) _ := c2
    refine ok_bi c2 ?_
    rintro x2 M4 ⟨f4, g3, g4⟩
    dsimp only at f4 g3 g4
    have q4 : kq M M4 := kq_tr q3 (kq_k f4)
    cases h2 : pnum len b y1.1 500 y1.2 with
    | inl e =>
      have u := g3 e h2
      rw [e_grd (by decide), e_lt, e_grd (by decide), e_grd (by decide), r_nume (rE_82 u _ _), e_bi, e_grd (by decide), e_lt, r_nume (rE_82 (rE_82 u _ _) _ _), e_bi, e_grd (by decide), e_lt]
      exact fail (by unfold pmin; rw [h1, sb_r, h2]; rfl) (kq_82 (kq_82 (kq_82 q4 _ _) _ _) _ _) (rE_82 (rE_82 (rE_82 u _ _) _ _) _ _)
    | inr y2 =>
      obtain ⟨rfl, s4⟩ := g4 y2 h2
      have b2 := pnum_v s3.1 h2
      rw [e_grd (by decide), e_lt, e_grd (by decide), e_grd (by decide), z_1]
      obtain ⟨M6, hM6⟩ : ∃ M6, M6 = zwI M4 82 1 (nI y2.1) := ⟨_, rfl⟩
      have q6 : kq M M6 := by rw [hM6]; exact kq_82 q4 _ _
      have k60 : M6.1 82 0 = nI y1.1 := by rw [hM6, e_w1s, e_uF (by omega), (f4.1 82 (by decide)).1]; exact k3
      have k61 : M6.1 82 1 = nI y2.1 := by rw [hM6, e_w1s, e_uT rfl]
      have s6 : rA M6 len b y2.2 := by rw [hM6]; exact rA_82 s4 _ _
      have x6 : ∀ k, k < 10 → k ≠ 0 → k ≠ 1 → M6.1 82 k = jI (ρ k) := fun k hk w0 w1 => by rw [hM6, e_w1s, e_uF w1, (f4.1 82 (by decide)).1]; exact x3 k hk w0
      have t6 : M6.1 83 = M.1 83 := by rw [hM6, e_w1 _ _ _ (by omega), (f4.1 83 (by decide)).1]; exact t3
      rw [← hM6, k60, k61]
      refine ok_bi (r_num s6 (lo := y1.1) (hi := y2.1) (by omega) (by omega)) ?_
      rintro x3' M7 ⟨f7, g5, g6⟩
      dsimp only at f7 g5 g6
      have q7 : kq M M7 := kq_tr q6 (kq_k f7)
      cases h3 : pnum len b y1.1 y2.1 y2.2 with
      | inl e =>
        have u := g5 e h3
        rw [e_grd (by decide), e_lt, r_nume (rE_82 u _ _), e_bi, e_grd (by decide), e_lt]
        exact fail (by unfold pmin; rw [h1, sb_r, h2, sb_r, h3]; rfl) (kq_82 (kq_82 q7 _ _) _ _) (rE_82 (rE_82 u _ _) _ _)
      | inr y3 =>
        obtain ⟨rfl, s7⟩ := g6 y3 h3
        rw [e_grd (by decide), e_lt, z_2]
        obtain ⟨M9, hM9⟩ : ∃ M9, M9 = zwI M7 82 2 (nI y3.1) := ⟨_, rfl⟩
        have q9 : kq M M9 := by rw [hM9]; exact kq_82 q7 _ _
        have s9 : rA M9 len b y3.2 := by rw [hM9]; exact rA_82 s7 _ _
        rw [← hM9]
        have c4 := r_num s9 (lo := 0) (hi := 9) (by omega) (by omega)
        have c4 : ok (fX11_number (0 : Int32) (9 : Int32) M9) _ := c4
        refine ok_bi c4 ?_
        rintro x4 M10 ⟨f10, g7, g8⟩
        dsimp only at f10 g7 g8
        have q10 : kq M M10 := kq_tr q9 (kq_k f10)
        cases h4 : pnum len b 0 9 y3.2 with
        | inl e =>
          have u := g7 e h4
          rw [e_grd (by decide), e_lt]
          exact fail (by unfold pmin; rw [h1, sb_r, h2, sb_r, h3, sb_r, h4]; rfl) (kq_82 q10 _ _) (rE_82 u _ _)
        | inr y4 =>
          obtain ⟨rfl, s10⟩ := g8 y4 h4
          rw [e_grd (by decide), e_lt, z_3]
          have hs : pmin len b ρ p = .inr (setR (setR (setR (setR ρ 0 y1.1) 1 y2.1) 2 y3.1) 3 y4.1, y4.2) := by unfold pmin; rw [h1, sb_r, h2, sb_r, h3, sb_r, h4]; rfl
          refine ok_some ⟨kq_82 q10 _ _, (fun e he => by rw [hs] at he; cases he), fun y hy => ?_⟩
          rw [hs] at hy
          cases hy
          refine ⟨rA_82 s10 _ _, fun k hk => ?_, ?_⟩
          · rw [e_w1s]
            show _ = jI (if k = 3 then (y4.1 : Int) else if k = 2 then (y3.1 : Int) else if k = 1 then (y2.1 : Int) else if k = 0 then (y1.1 : Int) else ρ k)
            by_cases k3' : k = 3
            · rw [e_uT k3', if_pos k3', nI_j]
            rw [e_uF k3', if_neg k3', (f10.1 82 (by decide)).1, hM9, e_w1s]
            by_cases k2' : k = 2
            · rw [e_uT k2', if_pos k2', nI_j]
            rw [e_uF k2', if_neg k2', (f7.1 82 (by decide)).1]
            by_cases k1' : k = 1
            · rw [if_pos k1', k1', k61, nI_j]
            rw [if_neg k1']
            by_cases k0' : k = 0
            · rw [if_pos k0', k0', k60, nI_j]
            · rw [if_neg k0']
              exact x6 k hk k0' k1'
          · rw [e_w1 _ _ _ (by omega), (f10.1 83 (by decide)).1, hM9, e_w1 _ _ _ (by omega), (f7.1 83 (by decide)).1, t6]
theorem r_two {M : zM} {len : Nat} {b : Nat → Int} {p : Nat} {σ : Nat → Nat} (h : rA M len b p) (hm : ∀ k, k < 64 → M.1 83 k = nI (σ k)) (hσ : ∀ k, k < 64 → σ k ≤ 51) : ok (fX11_readTwo M) (fun M' => kq M M' ∧ (∀ e, pmix len b σ p = .inl e → rE M' len b e) ∧ ∀ y, pmix len b σ p = .inr y → rA M' len b y.2 ∧ (bdt len b y.2 = false → ∀ k, k < 64 → M'.1 83 k = nI (y.1 k)) ∧ M'.1 82 = M.1 82) := by
  have fail : ∀ {M' : zM} {e : Nat × Nat}, pmix len b σ p = .inl e → kq M M' → rE M' len b e → ok (some M') (fun M' => kq M M' ∧ (∀ e, pmix len b σ p = .inl e → rE M' len b e) ∧ ∀ y, pmix len b σ p = .inr y → rA M' len b y.2 ∧ (bdt len b y.2 = false → ∀ k, k < 64 → M'.1 83 k = nI (y.1 k)) ∧ M'.1 82 = M.1 82) := fun {M' e} hs hk he => ok_some ⟨hk, fun e' he' => by rw [hs] at he'; cases he'; exact he, fun y hy => by rw [hs] at hy; cases hy⟩
  have z0 : ∀ {M' : zM} {e : Nat × Nat}, rE M' len b e → ¬ M'.1 76 3 = (0 : Int32) := fun {M' e} he => by rw [he.2.2.2.1]; exact (nI_z he.2.1).1
  unfold fX11_readTwo
  refine ok_bi (r_let h) ?_
  rintro x1 M1 ⟨f1, g1, g2⟩
  dsimp only at f1 g1 g2
  cases h1 : plet len b p with
  | inl e =>
    have u := g1 e h1
    have hz := z0 u
    rw [r_nxe u, e_sq, r_lete u, e_bi, if_neg hz, e_sq, if_neg hz, e_sq, r_nxe u, e_sq, r_nume u, e_bi, if_neg hz]
    exact fail (by unfold pmix; rw [h1]; rfl) (kq_k f1) u
  | inr y1 =>
    obtain ⟨rfl, s1, e1, l1⟩ := g2 y1 h1
    have heb := es_bd b h.1
    refine ok_sq (r_nx s1.1 heb.2.1 s1.2.2.2.1 s1.2.2.2.2.1) ?_
    rintro M3 ⟨f3, s3⟩
    rw [← e1] at s3
    have q3 : kq M M3 := kq_tr (kq_k f1) (kq_k f3)
    refine ok_bi (r_let s3) ?_
    rintro x2 M4 ⟨f4, g3, g4⟩
    dsimp only at f4 g3 g4
    have q4 : kq M M4 := kq_tr q3 (kq_k f4)
    cases h2 : plet len b y1.2 with
    | inl e =>
      have u := g3 e h2
      have hz := z0 u
      rw [if_neg hz, e_sq, if_neg hz, e_sq, r_nxe u, e_sq, r_nume u, e_bi, if_neg hz]
      exact fail (by unfold pmix; rw [h1, sb_r, h2]; rfl) q4 u
    | inr y2 =>
      obtain ⟨rfl, s4, e2, l2⟩ := g4 y2 h2
      have heb2 := es_bd b s3.1
      have k83 : M4.1 83 (8 * y1.1 + y2.1) = nI (σ (8 * y1.1 + y2.1)) := by rw [(f4.1 83 (by decide)).1, (f3.1 83 (by decide)).1, (f1.1 83 (by decide)).1]; exact hm _ (by omega)
      have hs := hσ (8 * y1.1 + y2.1) (by omega)
      have w0 : M4.1 76 3 = (0 : Int32) := s4.2.2.2.1
      rw [if_pos w0]
      by_cases exy : y1.1 = y2.1
      · obtain ⟨M', w1, w2, w3⟩ := r_fl s4 (v := 3) (by omega)
        have w1 : fX11_fails (3 : Int32) M4 = some M' := w1
        have hz := z0 w2
        rw [nn_eqT (by omega), w1, e_sq, e_sq, if_neg hz, e_sq, r_nxe w2, e_sq, r_nume w2, e_bi, if_neg hz]
        exact fail (by unfold pmix; rw [h1, sb_r, h2, sb_r, if_pos exy]) (kq_tr q4 (kq_k w3)) w2
      · rw [nn_eqF (by omega), e_sq, if_pos w0, l_8, n_mul, n_add, e_gn (by omega), e_znn (by omega), k83, l_0]
        by_cases e0 : σ (8 * y1.1 + y2.1) = 0
        · rw [nn_leT (by omega), e_sq]
          refine ok_sq (r_nx s4.1 heb2.2.1 s4.2.2.2.1 s4.2.2.2.2.1) ?_
          rintro M10 ⟨f10, s10⟩
          rw [← e2] at s10
          have q10 : kq M M10 := kq_tr q4 (kq_k f10)
          have c4 := r_num s10 (lo := 0) (hi := 50) (by omega) (by omega)
          have c4 : ok (fX11_number (nI 0) (50 : Int32) M10) _ := c4
          refine ok_bi c4 ?_
          rintro x4 M11 ⟨f11, g7, g8⟩
          dsimp only at f11 g7 g8
          have q11 : kq M M11 := kq_tr q10 (kq_k f11)
          cases h4 : pnum len b 0 50 y2.2 with
          | inl e =>
            have u := g7 e h4
            rw [if_neg (show ¬ M11.1 76 3 = nI 0 from z0 u)]
            exact fail (by unfold pmix; rw [h1, sb_r, h2, sb_r, if_neg exy, if_neg (fun w => w e0), h4]; rfl) q11 u
          | inr y4 =>
            obtain ⟨rfl, s11⟩ := g8 y4 h4
            have hss : pmix len b σ p = .inr (setM σ (8 * y1.1 + y2.1) (y4.1 + 1), y4.2) := by unfold pmix; rw [h1, sb_r, h2, sb_r, if_neg exy, if_neg (fun w => w e0), h4]; rfl
            have e82 : M11.1 82 = M.1 82 := by rw [(f11.1 82 (by decide)).1, (f10.1 82 (by decide)).1, (f4.1 82 (by decide)).1, (f3.1 82 (by decide)).1, (f1.1 82 (by decide)).1]
            cases hb4 : bdt len b y4.2
            · have w3 := (s11.2.2 hb4).2.2.2.1
              rw [if_pos w3, e_gn (by omega), e_lt, l_1, n_add]
              refine ok_some ⟨kq_83 q11 _ _, (fun e he => by rw [hss] at he; cases he), fun y hy => ?_⟩
              rw [hss] at hy
              cases hy
              refine ⟨rA_83 s11 _ _, fun _ k hk => ?_, by rw [e_w1 _ _ _ (by omega)]; exact e82⟩
              rw [e_w1s]
              show _ = nI (if k = 8 * y1.1 + y2.1 then y4.1 + 1 else σ k)
              by_cases ek : k = 8 * y1.1 + y2.1
              · rw [e_uT ek, if_pos ek]
              · rw [e_uF ek, if_neg ek, (f11.1 83 (by decide)).1, (f10.1 83 (by decide)).1, (f4.1 83 (by decide)).1, (f3.1 83 (by decide)).1, (f1.1 83 (by decide)).1]
                exact hm k hk
            · have u := s11.2.1 hb4
              rw [if_neg (show ¬ M11.1 76 3 = nI 0 from z0 u)]
              refine ok_some ⟨q11, (fun e he => by rw [hss] at he; cases he), fun y hy => ?_⟩
              rw [hss] at hy
              cases hy
              refine ⟨s11, fun w => ?_, e82⟩
              have w : bdt len b y4.2 = false := w
              rw [hb4] at w
              cases w
        · obtain ⟨M', w1, w2, w3⟩ := r_fl s4 (v := 4) (by omega)
          have w1 : fX11_fails (4 : Int32) M4 = some M' := w1
          have hz := z0 w2
          rw [nn_leF (by omega), w1, e_sq, e_sq, r_nxe w2, e_sq, r_nume w2, e_bi, if_neg (show ¬ M'.1 76 3 = nI 0 from hz)]
          exact fail (by unfold pmix; rw [h1, sb_r, h2, sb_r, if_neg exy, if_pos e0]) (kq_tr q4 (kq_k w3)) w2
