/-! ===== an item, as the class takes it ===== -/
def cq {α : Type} (F : List Nat) (M : zM) (s : (Nat × Nat) ⊕ α) (good : α → zM → Prop) (r : Bool × zM) : Prop := zfr F M r.2 ∧ (∀ e, s = .inl e → r.1 = false ∧ cE r.2 e) ∧ ∀ y, s = .inr y → r.1 = true ∧ good y r.2
theorem cq_l {α : Type} {F : List Nat} {M M' : zM} {s : (Nat × Nat) ⊕ α} {good : α → zM → Prop} {e : Nat × Nat} (h : s = .inl e) (f : zfr F M M') (he : cE M' e) : cq F M s good (false, M') := ⟨f, fun e' he' => by rw [h] at he'; cases he'; exact ⟨rfl, he⟩, fun y hy => by rw [h] at hy; cases hy⟩
theorem cq_r {α : Type} {F : List Nat} {M M' : zM} {s : (Nat × Nat) ⊕ α} {good : α → zM → Prop} {y : α} (h : s = .inr y) (f : zfr F M M') (g : good y M') : cq F M s good (true, M') := ⟨f, (fun e' he' => by rw [h] at he'; cases he'), fun y' hy => by rw [h] at hy; cases hy; exact ⟨rfl, g⟩⟩
theorem cS_cg {M M' : zM} {len : Nat} {b : Nat → Int} {p t : Nat} (h : cS M len b p t) (e1 : M'.1 50 = M.1 50) (e2 : M'.1 51 = M.1 51) : cS M' len b p t := by
  obtain ⟨h1, h2, h3, h4, h5⟩ := h
  exact ⟨cT_fr h1 (by rw [e1]) e2, h2, by rw [e1]; exact h3, by rw [e1]; exact h4, by rw [e1]; exact h5⟩
theorem z_0 : zn (0 : Int32) = 0 := by decide
theorem z_1 : zn (1 : Int32) = 1 := by decide
theorem z_2 : zn (2 : Int32) = 2 := by decide
theorem z_3 : zn (3 : Int32) = 3 := by decide
theorem z_9 : zn (9 : Int32) = 9 := by decide
theorem c_min {M : zM} {len : Nat} {b : Nat → Int} {p t : Nat} {ρ : Nat → Int} (h : cS M len b p t) (hr : ∀ k, k < 10 → M.1 53 k = jI (ρ k)) : ok (fX9_takeMinutes 53 M) (cq [50, 53] M (pmin len b ρ p) (fun y M' => cS M' len b y.2 t ∧ ∀ k, k < 10 → M'.1 53 k = jI (y.1 k))) := by
  unfold fX9_takeMinutes
  have c1 := c_num h (lo := 0) (hi := 500) (by omega) (by omega)
  have c1 : ok (fX9_takeNumber (0 : Int32) (500 : Int32) M) _ := c1
  refine ok_bi c1 ?_
  rintro v1 M1 ⟨f1, g1, g2⟩
  dsimp only at f1 g1 g2
  have f1' : zfr [50, 53] M M1 := zfr_sub f1 (by decide)
  cases h1 : pnum len b 0 500 p with
  | inl e =>
    obtain ⟨rfl, u⟩ := g1 e h1
    rw [if_pos rfl]
    exact ok_some (cq_l (by unfold pmin; rw [h1]; rfl) f1' u)
  | inr y1 =>
    obtain ⟨rfl, s1, s7⟩ := g2 y1 h1
    have b1 := pnum_v h.2.1 h1
    rw [if_neg (by decide), e_grd (by decide), e_lt, e_grd (by decide), z_0, s7]
    obtain ⟨M3, hM3⟩ : ∃ M3, M3 = zwI M1 53 0 (nI y1.1) := ⟨_, rfl⟩
    have f3 : zfr [50, 53] M M3 := by rw [hM3]; exact zfr_I f1' (by simp)
    have k3 : M3.1 53 0 = nI y1.1 := by rw [hM3, e_w1s, e_uT rfl]
    have s3 : cS M3 len b y1.2 t := cS_cg s1 (by rw [hM3, e_w1 _ _ _ (by omega)]) (by rw [hM3, e_w1 _ _ _ (by omega)])
    have x3 : ∀ k, k < 10 → k ≠ 0 → M3.1 53 k = jI (ρ k) := fun k hk w => by rw [hM3, e_w1s, e_uF w, (f1 53 (by decide)).1]; exact hr k hk
    rw [← hM3, k3]
    have c2 := c_num s3 (lo := y1.1) (hi := 500) (by omega) (by omega)
    have c2 : ok (fX9_takeNumber (nI y1.1) (500 : Int32) M3) _ := c2
    refine ok_bi c2 ?_
    rintro v2 M4 ⟨f4, g3, g4⟩
    dsimp only at f4 g3 g4
    have f4' : zfr [50, 53] M M4 := zfr_tr f3 f4 (by decide)
    cases h2 : pnum len b y1.1 500 y1.2 with
    | inl e =>
      obtain ⟨rfl, u⟩ := g3 e h2
      rw [if_pos rfl]
      exact ok_some (cq_l (by unfold pmin; rw [h1, sb_r, h2]; rfl) f4' u)
    | inr y2 =>
      obtain ⟨rfl, s4, s47⟩ := g4 y2 h2
      have b2 := pnum_v s3.2.1 h2
      rw [if_neg (by decide), e_grd (by decide), e_lt, e_grd (by decide), e_grd (by decide), z_1, s47]
      obtain ⟨M6, hM6⟩ : ∃ M6, M6 = zwI M4 53 1 (nI y2.1) := ⟨_, rfl⟩
      have f6 : zfr [50, 53] M M6 := by rw [hM6]; exact zfr_I f4' (by simp)
      have k60 : M6.1 53 0 = nI y1.1 := by rw [hM6, e_w1s, e_uF (by omega), (f4 53 (by decide)).1]; exact k3
      have k61 : M6.1 53 1 = nI y2.1 := by rw [hM6, e_w1s, e_uT rfl]
      have s6 : cS M6 len b y2.2 t := cS_cg s4 (by rw [hM6, e_w1 _ _ _ (by omega)]) (by rw [hM6, e_w1 _ _ _ (by omega)])
      have x6 : ∀ k, k < 10 → k ≠ 0 → k ≠ 1 → M6.1 53 k = jI (ρ k) := fun k hk w0 w1 => by rw [hM6, e_w1s, e_uF w1, (f4 53 (by decide)).1]; exact x3 k hk w0
      rw [← hM6, k60, k61]
      refine ok_bi (c_num s6 (lo := y1.1) (hi := y2.1) (by omega) (by omega)) ?_
      rintro v3 M7 ⟨f7, g5, g6⟩
      dsimp only at f7 g5 g6
      have f7' : zfr [50, 53] M M7 := zfr_tr f6 f7 (by decide)
      cases h3 : pnum len b y1.1 y2.1 y2.2 with
      | inl e =>
        obtain ⟨rfl, u⟩ := g5 e h3
        rw [if_pos rfl]
        exact ok_some (cq_l (by unfold pmin; rw [h1, sb_r, h2, sb_r, h3]; rfl) f7' u)
      | inr y3 =>
        obtain ⟨rfl, s7', s77⟩ := g6 y3 h3
        have b3 := pnum_v s6.2.1 h3
        rw [if_neg (by decide), e_grd (by decide), e_lt, z_2, s77]
        obtain ⟨M9, hM9⟩ : ∃ M9, M9 = zwI M7 53 2 (nI y3.1) := ⟨_, rfl⟩
        have f9 : zfr [50, 53] M M9 := by rw [hM9]; exact zfr_I f7' (by simp)
        have s9 : cS M9 len b y3.2 t := cS_cg s7' (by rw [hM9, e_w1 _ _ _ (by omega)]) (by rw [hM9, e_w1 _ _ _ (by omega)])
        rw [← hM9]
        have c4 := c_num s9 (lo := 0) (hi := 9) (by omega) (by omega)
        have c4 : ok (fX9_takeNumber (0 : Int32) (9 : Int32) M9) _ := c4
        refine ok_bi c4 ?_
        rintro v4 M10 ⟨f10, g7, g8⟩
        dsimp only at f10 g7 g8
        have f10' : zfr [50, 53] M M10 := zfr_tr f9 f10 (by decide)
        cases h4 : pnum len b 0 9 y3.2 with
        | inl e =>
          obtain ⟨rfl, u⟩ := g7 e h4
          rw [if_pos rfl]
          exact ok_some (cq_l (by unfold pmin; rw [h1, sb_r, h2, sb_r, h3, sb_r, h4]; rfl) f10' u)
        | inr y4 =>
          obtain ⟨rfl, s10, s107⟩ := g8 y4 h4
          rw [if_neg (by decide), e_grd (by decide), e_lt, z_3, s107]
          refine ok_some (cq_r (by unfold pmin; rw [h1, sb_r, h2, sb_r, h3, sb_r, h4]; rfl) (zfr_I f10' (by simp)) ⟨cS_cg s10 (by rw [e_w1 _ _ _ (by omega)]) (by rw [e_w1 _ _ _ (by omega)]), fun k hk => ?_⟩)
          rw [e_w1s]
          show _ = jI (if k = 3 then (y4.1 : Int) else if k = 2 then (y3.1 : Int) else if k = 1 then (y2.1 : Int) else if k = 0 then (y1.1 : Int) else ρ k)
          by_cases k3' : k = 3
          · rw [e_uT k3', if_pos k3', nI_j]
          rw [e_uF k3', if_neg k3', (f10 53 (by decide)).1, hM9, e_w1s]
          by_cases k2' : k = 2
          · rw [e_uT k2', if_pos k2', nI_j]
          rw [e_uF k2', if_neg k2', (f7 53 (by decide)).1]
          by_cases k1' : k = 1
          · rw [if_pos k1', k1', k61, nI_j]
          rw [if_neg k1']
          by_cases k0' : k = 0
          · rw [if_pos k0', k0', k60, nI_j]
          · rw [if_neg k0']
            exact x6 k hk k0' k1'
theorem c_mix {M : zM} {len : Nat} {b : Nat → Int} {p t : Nat} {σ : Nat → Nat} (h : cS M len b p t) (hm : ∀ k, k < 64 → M.1 54 k = jI (mx (σ k))) (hσ : ∀ k, k < 64 → σ k ≤ 51) : ok (fX9_takeMixed 52 M) (cq [50, 54] M (pmix len b σ p) (fun y M' => cS M' len b y.2 t ∧ ∀ k, k < 64 → M'.1 54 k = jI (mx (y.1 k)))) := by
  unfold fX9_takeMixed
  refine ok_bi (c_let h) ?_
  rintro v1 M1 ⟨f1, g1, g2⟩
  dsimp only at f1 g1 g2
  have f1' : zfr [50, 54] M M1 := zfr_sub f1 (by decide)
  cases h1 : plet len b p with
  | inl e =>
    obtain ⟨rfl, u⟩ := g1 e h1
    rw [if_pos rfl]
    exact ok_some (cq_l (by unfold pmix; rw [h1]; rfl) f1' u)
  | inr y1 =>
    obtain ⟨rfl, s1, s7, _⟩ := g2 y1 h1
    have b1 := plet_v h.2.1 h1
    rw [if_neg (by decide), s7, e_lt]
    refine ok_bi (c_let s1) ?_
    rintro v2 M4 ⟨f4, g3, g4⟩
    dsimp only at f4 g3 g4
    have f4' : zfr [50, 54] M M4 := zfr_tr f1' f4 (by decide)
    cases h2 : plet len b y1.2 with
    | inl e =>
      obtain ⟨rfl, u⟩ := g3 e h2
      rw [if_pos rfl]
      exact ok_some (cq_l (by unfold pmix; rw [h1, sb_r, h2]; rfl) f4' u)
    | inr y2 =>
      obtain ⟨rfl, s4, s47, s46⟩ := g4 y2 h2
      have b2 := plet_v s1.2.1 h2
      have hq := qs_bd b s1.2.1
      have hl := h.1.2.1
      rw [if_neg (by decide), s47, e_lt]
      by_cases exy : y1.1 = y2.1
      · obtain ⟨M', w1, w2, w3⟩ := c_fl (t := t) (p := p) s4.1 (v := 3) (by omega) (show qs len b y1.2 ≤ 320 by omega) s46
        have w1 : fX9_fail (3 : Int32) M4 = some (false, M') := w1
        rw [nn_eqT (by omega), w1, e_bi]
        exact ok_some (cq_l (by unfold pmix; rw [h1, sb_r, h2, sb_r, if_pos exy]) (zfr_tr f4' w3 (by decide)) w2)
      · have k54 : M4.1 54 (8 * y1.1 + y2.1) = jI (mx (σ (8 * y1.1 + y2.1))) := by rw [(f4 54 (by decide)).1, (f1 54 (by decide)).1]; exact hm _ (by omega)
        have hs := hσ (8 * y1.1 + y2.1) (by omega)
        have hmx := mx_bd hs
        rw [nn_eqF (by omega), l_8, n_mul, n_add, Nat.mul_comm y1.1 8, e_gn (by omega), e_znn (by omega), show 52 + 2 = 54 from rfl, k54, m_4]
        by_cases e0 : σ (8 * y1.1 + y2.1) = 0
        · rw [jj_eqT (by omega)]
          have c4 := c_num s4 (lo := 0) (hi := 50) (by omega) (by omega)
          have c4 : ok (fX9_takeNumber (0 : Int32) (50 : Int32) M4) _ := c4
          refine ok_bi c4 ?_
          rintro v4 M9 ⟨f9, g7, g8⟩
          dsimp only at f9 g7 g8
          have f9' : zfr [50, 54] M M9 := zfr_tr f4' f9 (by decide)
          cases h4 : pnum len b 0 50 y2.2 with
          | inl e =>
            obtain ⟨rfl, u⟩ := g7 e h4
            rw [if_pos rfl]
            exact ok_some (cq_l (by unfold pmix; rw [h1, sb_r, h2, sb_r, if_neg exy, if_neg (fun w => w e0), h4]; rfl) f9' u)
          | inr y4 =>
            obtain ⟨rfl, s10, s107⟩ := g8 y4 h4
            rw [if_neg (by decide), e_gn (by omega), e_lt, s107]
            refine ok_some (cq_r (by unfold pmix; rw [h1, sb_r, h2, sb_r, if_neg exy, if_neg (fun w => w e0), h4]; rfl) (zfr_I f9' (by simp)) ⟨cS_cg s10 (by rw [e_w1 _ _ _ (by omega)]) (by rw [e_w1 _ _ _ (by omega)]), fun k hk => ?_⟩)
            rw [e_w1s]
            show _ = jI (mx (if k = 8 * y1.1 + y2.1 then y4.1 + 1 else σ k))
            by_cases ek : k = 8 * y1.1 + y2.1
            · rw [e_uT ek, if_pos ek, nI_j]
              unfold mx
              rw [if_neg (by omega)]
              exact congrArg jI (by omega)
            · rw [e_uF ek, if_neg ek, (f9 54 (by decide)).1, (f4 54 (by decide)).1, (f1 54 (by decide)).1]
              exact hm k hk
        · obtain ⟨M', w1, w2, w3⟩ := c_fl (t := t) (p := p) s4.1 (v := 4) (by omega) (show qs len b y1.2 ≤ 320 by omega) s46
          have w1 : fX9_fail (4 : Int32) M4 = some (false, M') := w1
          rw [jj_eqF (by omega), w1, e_bi]
          exact ok_some (cq_l (by unfold pmix; rw [h1, sb_r, h2, sb_r, if_neg exy, if_pos e0]) (zfr_tr f4' w3 (by decide)) w2)
theorem pt_x1 : ∀ n, n < 9 → 2 ≤ n → (if nI n ≤ (6 : Int32) then (((nI n - (6 : Int32)) + (8 : Int32))) else ((9 : Int32))) = nI (if n < 7 then n + 2 else 9) := by decide +kernel
theorem pt_x2 : ∀ n, n < 9 → 2 ≤ n → (if (7 : Int32) ≤ nI (if n < 7 then n + 2 else 9) then ((99 : Int32)) else ((50 : Int32))) = nI (if n < 5 then 50 else 99) := by decide +kernel
theorem c_pts2 {M : zM} {len : Nat} {b : Nat → Int} {p t n : Nat} {ρ : Nat → Int} (h : cS M len b p t) (hr : ∀ k, k < 10 → M.1 53 k = jI (ρ k)) (hn : n < 9) (hn2 : 2 ≤ n) : ok (fX9_takePoints 53 (nI n) M) (cq [50, 53] M (ppts len b ρ n p) (fun y M' => cS M' len b y.2 t ∧ ∀ k, k < 10 → M'.1 53 k = jI (y.1 k))) := by
  have hx : (if n < 7 then n + 2 else 9) < 10 := by split <;> omega
  have hy : (if n < 5 then 50 else 99) ≤ 1000 := by split <;> omega
  unfold fX9_takePoints
  rw [pt_x1 n hn hn2, e_lt, pt_x2 n hn hn2, e_lt]
  have c1 := c_num h (lo := 0) (hi := if n < 5 then 50 else 99) (by omega) hy
  have c1 : ok (fX9_takeNumber (0 : Int32) (nI (if n < 5 then 50 else 99)) M) _ := c1
  refine ok_bi c1 ?_
  rintro v1 M1 ⟨f1, g1, g2⟩
  dsimp only at f1 g1 g2
  have f1' : zfr [50, 53] M M1 := zfr_sub f1 (by decide)
  cases h1 : pnum len b 0 (if n < 5 then 50 else 99) p with
  | inl e =>
    obtain ⟨rfl, u⟩ := g1 e h1
    rw [if_pos rfl]
    exact ok_some (cq_l (by unfold ppts; rw [h1]; rfl) f1' u)
  | inr y1 =>
    obtain ⟨rfl, s1, s7⟩ := g2 y1 h1
    have hv : (if nI n = (8 : Int32) then -(nI y1.1) else nI y1.1) = jI (if n = 8 then -(y1.1 : Int) else (y1.1 : Int)) := by
      rw [l_8]
      by_cases n8 : n = 8
      · rw [nn_eqT (by omega), if_pos n8, nI_j, jI_neg]
      · rw [nn_eqF (by omega), if_neg n8, nI_j]
    rw [if_neg (by decide), s7, hv, e_lt, e_gn (by omega), e_lt, e_znn (by omega)]
    refine ok_some (cq_r (by unfold ppts; rw [h1]; rfl) (zfr_I f1' (by simp)) ⟨cS_cg s1 (by rw [e_w1 _ _ _ (by omega)]) (by rw [e_w1 _ _ _ (by omega)]), fun k hk => ?_⟩)
    rw [e_w1s]
    show _ = jI (if k = (if n < 7 then n + 2 else 9) then (if n = 8 then -(y1.1 : Int) else (y1.1 : Int)) else ρ k)
    by_cases ek : k = (if n < 7 then n + 2 else 9)
    · rw [e_uT ek, if_pos ek]
    · rw [e_uF ek, if_neg ek, (f1 53 (by decide)).1]
      exact hr k hk
theorem ky_c : ∀ n, n < 9 → (1 : Int32) <<< ((zmn (nI n) (7 : Int32)) &&& 31) = nI (2 ^ ky n) := by decide +kernel
theorem ky_lt (n : Nat) : ky n < 8 := by
  unfold ky
  split <;> omega
theorem enc_9 {x : Nat} (h : x < 9) : enc 9 x = nI x := if_neg (by omega)
theorem c_item {M : zM} {len : Nat} {b : Nat → Int} {p t : Nat} {ρ : Nat → Int} {σ : Nat → Nat} (hp : p ≤ len) (h : cS M len b (es len b p) t) (ht : t < 256) (h5 : M.1 50 5 = nI (ks len b p)) (h6 : M.1 50 6 = nI (qs len b p)) (hr : ∀ k, k < 10 → M.1 53 k = jI (ρ k)) (hm : ∀ k, k < 64 → M.1 54 k = jI (mx (σ k))) (hσ : ∀ k, k < 64 → σ k ≤ 51) : ok (fX9_takeItem 52 M) (cq [50, 53, 54] M (pbody len b ρ σ t p) (fun y M' => cS M' len b y.2 y.1.2.2 ∧ (∀ k, k < 10 → M'.1 53 k = jI (y.1.1 k)) ∧ ∀ k, k < 64 → M'.1 54 k = jI (mx (y.1.2.1 k)))) := by
  have hk := ks_le len b p
  have hq := qs_bd b hp
  have hl := h.1.2.1
  have hn := nm_le len b p
  have hfl : ∀ v : Nat, 0 < v ∧ v < 5 → pbody len b ρ σ t p = .inl (v, qs len b p) → ok (bi (fX9_fail (nI v) M) (fun (b4 : Bool) (M3 : zM) => some (b4, M3))) (cq [50, 53, 54] M (pbody len b ρ σ t p) (fun y M' => cS M' len b y.2 y.1.2.2 ∧ (∀ k, k < 10 → M'.1 53 k = jI (y.1.1 k)) ∧ ∀ k, k < 64 → M'.1 54 k = jI (mx (y.1.2.1 k)))) := fun v hv hs => by
    obtain ⟨M', w1, w2, w3⟩ := c_fl (t := t) (p := p) h.1 (v := v) hv (show qs len b p ≤ 320 by omega) h6
    rw [w1, e_bi]
    exact ok_some (cq_l hs (zfr_sub w3 (by decide)) w2)
  have hx2 : (if nI (ks len b p) = (1 : Int32) then (sq (fX9_itemNamed M) (fun (x15 : Int32) => some x15)) else (some (-4 : Int32))) = some (enc 9 (if ks len b p = 1 then nm len b p else 9)) := by
    by_cases k1 : ks len b p = 1
    · rw [l_1, nn_eqT (by omega), c_itn h.1 hp h.2.2.1 h6, e_sq, if_pos k1]
    · rw [l_1, nn_eqF (by omega), if_neg k1]; rfl
  unfold fX9_takeItem
  rw [h5, hx2, e_sq, m_4]
  by_cases k1 : ks len b p ≠ 1 ∨ nm len b p = 9
  · have e9 : (if ks len b p = 1 then nm len b p else 9) = 9 := by
      split
      · omega
      · rfl
    rw [e9, show enc 9 9 = jI (-4) from rfl, if_pos rfl]
    exact hfl 2 (by omega) (by unfold pbody; rw [if_pos k1])
  have e9 : (if ks len b p = 1 then nm len b p else 9) = nm len b p := if_pos (by omega)
  have hn9 : nm len b p < 9 := by omega
  rw [e9, enc_9 hn9, nj_eqF (by omega), l_1]
  by_cases n1 : nm len b p = 1
  · rw [nn_eqT (by omega)]
    refine ok_bi (c_mix h hm hσ) ?_
    rintro v M' ⟨f1, g1, g2⟩
    dsimp only at f1 g1 g2
    have f1' : zfr [50, 53, 54] M M' := zfr_sub f1 (by decide)
    cases h1 : pmix len b σ (es len b p) with
    | inl e =>
      obtain ⟨rfl, u⟩ := g1 e h1
      exact ok_some (cq_l (by unfold pbody; rw [if_neg k1, if_pos n1, h1]; rfl) f1' u)
    | inr y =>
      obtain ⟨rfl, s1, s2⟩ := g2 y h1
      exact ok_some (cq_r (by unfold pbody; rw [if_neg k1, if_pos n1, h1]; rfl) f1' ⟨s1, fun k hk => by rw [(f1 53 (by decide)).1]; exact hr k hk, s2⟩)
  have hky := ky_lt (nm len b p)
  have h2k : 2 ^ ky (nm len b p) ≤ 128 := Nat.pow_le_pow_right (n := 2) (by omega) (show ky (nm len b p) ≤ 7 by omega)
  have h2p := Nat.two_pow_pos (ky (nm len b p))
  rw [nn_eqF (by omega), ← l_1, ky_c _ hn9, e_lt, h.2.2.2.1, n_and, and_pw]
  by_cases tb : t.testBit (ky (nm len b p)) = true
  · rw [if_pos tb, l_0, nn_eqF (by omega)]
    exact hfl 4 (by omega) (by unfold pbody; rw [if_neg k1, if_neg n1, if_pos tb])
  rw [if_neg tb, if_pos (show nI 0 = (0 : Int32) from rfl), n_or, e_lt]
  obtain ⟨M8, hM8⟩ : ∃ M8, M8 = zwI M 50 8 (nI (t ||| 2 ^ ky (nm len b p))) := ⟨_, rfl⟩
  have f8 : zfr [50, 53, 54] M M8 := by rw [hM8]; exact zfr_I (zfr_rf _ _) (by simp)
  have s8 : cS M8 len b (es len b p) (t ||| 2 ^ ky (nm len b p)) := by
    obtain ⟨a1, a2, a3, a4, a5⟩ := h
    exact ⟨cT_fr a1 (by rw [hM8, e_w1s, e_uF (by omega)]) (by rw [hM8, e_w1 _ _ _ (by omega)]), a2, by rw [hM8, e_w1s, e_uF (by omega)]; exact a3, by rw [hM8, e_w1s, e_uT rfl], by rw [hM8, e_w1s, e_uF (by omega)]; exact a5⟩
  have r8 : ∀ k, k < 10 → M8.1 53 k = jI (ρ k) := fun k hk => by rw [hM8, e_w1 _ _ _ (by omega)]; exact hr k hk
  have m8 : ∀ k, k < 64 → M8.1 54 k = jI (mx (σ k)) := fun k hk => by rw [hM8, e_w1 _ _ _ (by omega)]; exact hm k hk
  rw [← hM8]
  by_cases n0 : nm len b p = 0
  · rw [if_pos (by rw [n0]; rfl)]
    have c1 : ok (fX9_takeMinutes (52 + 1) M8) _ := c_min s8 r8
    refine ok_bi c1 ?_
    rintro v M' ⟨f1, g1, g2⟩
    dsimp only at f1 g1 g2
    have f1' : zfr [50, 53, 54] M M' := zfr_tr f8 f1 (by decide)
    cases h1 : pmin len b ρ (es len b p) with
    | inl e =>
      obtain ⟨rfl, u⟩ := g1 e h1
      exact ok_some (cq_l (by unfold pbody; rw [if_neg k1, if_neg n1, if_neg tb, if_pos n0, h1]; rfl) f1' u)
    | inr y =>
      obtain ⟨rfl, s1, s2⟩ := g2 y h1
      exact ok_some (cq_r (by unfold pbody; rw [if_neg k1, if_neg n1, if_neg tb, if_pos n0, h1]; rfl) f1' ⟨s1, s2, fun k hk => by rw [(f1 54 (by decide)).1]; exact m8 k hk⟩)
  · rw [l_0, nn_eqF (by omega)]
    have c1 : ok (fX9_takePoints (52 + 1) (nI (nm len b p)) M8) _ := c_pts2 s8 r8 hn9 (by omega)
    refine ok_bi c1 ?_
    rintro v M' ⟨f1, g1, g2⟩
    dsimp only at f1 g1 g2
    have f1' : zfr [50, 53, 54] M M' := zfr_tr f8 f1 (by decide)
    cases h1 : ppts len b ρ (nm len b p) (es len b p) with
    | inl e =>
      obtain ⟨rfl, u⟩ := g1 e h1
      exact ok_some (cq_l (by unfold pbody; rw [if_neg k1, if_neg n1, if_neg tb, if_neg n0, h1]; rfl) f1' u)
    | inr y =>
      obtain ⟨rfl, s1, s2⟩ := g2 y h1
      exact ok_some (cq_r (by unfold pbody; rw [if_neg k1, if_neg n1, if_neg tb, if_neg n0, h1]; rfl) f1' ⟨s1, s2, fun k hk => by rw [(f1 54 (by decide)).1]; exact m8 k hk⟩)
