/-! ===== a whole text ===== -/
def vR (ρ : Nat → Int) : Prop := (0 ≤ ρ 0 ∧ ρ 0 ≤ ρ 1 ∧ ρ 1 ≤ 500) ∧ (ρ 0 ≤ ρ 2 ∧ ρ 2 ≤ ρ 1) ∧ (0 ≤ ρ 3 ∧ ρ 3 ≤ 9) ∧ (0 ≤ ρ 4 ∧ ρ 4 ≤ 50) ∧ (0 ≤ ρ 5 ∧ ρ 5 ≤ 50) ∧ (0 ≤ ρ 6 ∧ ρ 6 ≤ 50) ∧ (0 ≤ ρ 7 ∧ ρ 7 ≤ 99) ∧ (0 ≤ ρ 8 ∧ ρ 8 ≤ 99) ∧ (-99 ≤ ρ 9 ∧ ρ 9 ≤ 99)
def okS (st : (Nat → Int) × (Nat → Nat) × Nat) : Prop := st.2.2 < 256 ∧ (∀ k, k < 64 → st.2.1 k ≤ 51) ∧ vR st.1
theorem setR_e (ρ : Nat → Int) {k : Nat} (v : Int) : setR ρ k v k = v := if_pos rfl
theorem setR_n (ρ : Nat → Int) {k i : Nat} (v : Int) (h : i ≠ k) : setR ρ k v i = ρ i := if_neg h
theorem pmin_v {len : Nat} {b : Nat → Int} {ρ : Nat → Int} {p : Nat} {y : (Nat → Int) × Nat} (hp : p ≤ len) (hv : vR ρ) (h : pmin len b ρ p = .inr y) : vR y.1 ∧ p < y.2 ∧ y.2 ≤ len := by
  unfold pmin at h
  cases h1 : pnum len b 0 500 p with
  | inl e => rw [h1, sb_l] at h; cases h
  | inr y1 =>
    rw [h1, sb_r] at h
    have b1 := pnum_v hp h1
    cases h2 : pnum len b y1.1 500 y1.2 with
    | inl e => rw [h2, sb_l] at h; cases h
    | inr y2 =>
      rw [h2, sb_r] at h
      have b2 := pnum_v b1.2.2 h2
      cases h3 : pnum len b y1.1 y2.1 y2.2 with
      | inl e => rw [h3, sb_l] at h; cases h
      | inr y3 =>
        rw [h3, sb_r] at h
        have b3 := pnum_v b2.2.2 h3
        cases h4 : pnum len b 0 9 y3.2 with
        | inl e => rw [h4, sb_l] at h; cases h
        | inr y4 =>
          rw [h4, sb_r] at h
          have b4 := pnum_v b3.2.2 h4
          cases h
          refine ⟨?_, by show p < y4.2; omega, b4.2.2⟩
          show vR (setR (setR (setR (setR ρ 0 y1.1) 1 y2.1) 2 y3.1) 3 y4.1)
          have e0 : setR (setR (setR (setR ρ 0 y1.1) 1 y2.1) 2 y3.1) 3 y4.1 0 = y1.1 := by rw [setR_n _ _ (by omega), setR_n _ _ (by omega), setR_n _ _ (by omega), setR_e]
          have e1 : setR (setR (setR (setR ρ 0 y1.1) 1 y2.1) 2 y3.1) 3 y4.1 1 = y2.1 := by rw [setR_n _ _ (by omega), setR_n _ _ (by omega), setR_e]
          have e2 : setR (setR (setR (setR ρ 0 y1.1) 1 y2.1) 2 y3.1) 3 y4.1 2 = y3.1 := by rw [setR_n _ _ (by omega), setR_e]
          have e3 : setR (setR (setR (setR ρ 0 y1.1) 1 y2.1) 2 y3.1) 3 y4.1 3 = y4.1 := setR_e _ _
          have ek : ∀ k, 4 ≤ k → setR (setR (setR (setR ρ 0 y1.1) 1 y2.1) 2 y3.1) 3 y4.1 k = ρ k := fun k hk => by rw [setR_n _ _ (by omega), setR_n _ _ (by omega), setR_n _ _ (by omega), setR_n _ _ (by omega)]
          obtain ⟨v1, v2, v3, v4, v5, v6, v7, v8, v9⟩ := hv
          unfold vR
          rw [e0, e1, e2, e3, ek 4 (by omega), ek 5 (by omega), ek 6 (by omega), ek 7 (by omega), ek 8 (by omega), ek 9 (by omega)]
          refine ⟨by omega, by omega, by omega, v4, v5, v6, v7, v8, v9⟩
theorem pmix_v {len : Nat} {b : Nat → Int} {σ : Nat → Nat} {p : Nat} {y : (Nat → Nat) × Nat} (hp : p ≤ len) (hσ : ∀ k, k < 64 → σ k ≤ 51) (h : pmix len b σ p = .inr y) : (∀ k, k < 64 → y.1 k ≤ 51) ∧ p < y.2 ∧ y.2 ≤ len := by
  unfold pmix at h
  cases h1 : plet len b p with
  | inl e => rw [h1, sb_l] at h; cases h
  | inr y1 =>
    rw [h1, sb_r] at h
    have b1 := plet_v hp h1
    cases h2 : plet len b y1.2 with
    | inl e => rw [h2, sb_l] at h; cases h
    | inr y2 =>
      rw [h2, sb_r] at h
      have b2 := plet_v b1.2.2.2 h2
      by_cases e1 : y1.1 = y2.1
      · rw [if_pos e1] at h; cases h
      rw [if_neg e1] at h
      by_cases e2 : σ (8 * y1.1 + y2.1) ≠ 0
      · rw [if_pos e2] at h; cases h
      rw [if_neg e2] at h
      cases h4 : pnum len b 0 50 y2.2 with
      | inl e => rw [h4, sb_l] at h; cases h
      | inr y4 =>
        rw [h4, sb_r] at h
        have b4 := pnum_v b2.2.2.2 h4
        cases h
        refine ⟨fun k hk => ?_, by show p < y4.2; omega, b4.2.2⟩
        show (if k = 8 * y1.1 + y2.1 then y4.1 + 1 else σ k) ≤ 51
        by_cases ek : k = 8 * y1.1 + y2.1
        · rw [if_pos ek]; omega
        · rw [if_neg ek]; exact hσ k hk
theorem ppts_v {len : Nat} {b : Nat → Int} {ρ : Nat → Int} {n p : Nat} {y : (Nat → Int) × Nat} (hp : p ≤ len) (hv : vR ρ) (hn : n < 9) (hn2 : 2 ≤ n) (h : ppts len b ρ n p = .inr y) : vR y.1 ∧ p < y.2 ∧ y.2 ≤ len := by
  unfold ppts at h
  cases h1 : pnum len b 0 (if n < 5 then 50 else 99) p with
  | inl e => rw [h1, sb_l] at h; cases h
  | inr y1 =>
    rw [h1, sb_r] at h
    have b1 := pnum_v hp h1
    cases h
    refine ⟨?_, b1.2.1, b1.2.2⟩
    show vR (setR ρ (if n < 7 then n + 2 else 9) (if n = 8 then -(y1.1 : Int) else y1.1))
    obtain ⟨v1, v2, v3, v4, v5, v6, v7, v8, v9⟩ := hv
    unfold vR setR
    rcases (show n = 2 ∨ n = 3 ∨ n = 4 ∨ n = 5 ∨ n = 6 ∨ n = 7 ∨ n = 8 by omega) with rfl | rfl | rfl | rfl | rfl | rfl | rfl <;> simp at b1 ⊢ <;> omega
theorem pbody_v {len : Nat} {b : Nat → Int} {ρ : Nat → Int} {σ : Nat → Nat} {t p : Nat} {y : ((Nat → Int) × (Nat → Nat) × Nat) × Nat} (hp : p ≤ len) (hv : okS (ρ, σ, t)) (h : pbody len b ρ σ t p = .inr y) : okS y.1 ∧ p < y.2 ∧ y.2 ≤ len := by
  obtain ⟨ht, hσ, hr⟩ := hv
  have ht : t < 256 := ht
  have hσ : ∀ k, k < 64 → σ k ≤ 51 := hσ
  have hr : vR ρ := hr
  have heb := es_bd b hp
  have hqb := qs_bd b hp
  have hn := nm_le len b p
  have h2k : 2 ^ ky (nm len b p) < 2 ^ 8 := Nat.pow_lt_pow_right (by omega) (ky_lt _)
  have hor : t ||| 2 ^ ky (nm len b p) < 2 ^ 8 := Nat.or_lt_two_pow (by omega) h2k
  unfold pbody at h
  by_cases k1 : ks len b p ≠ 1 ∨ nm len b p = 9
  · rw [if_pos k1] at h; cases h
  rw [if_neg k1] at h
  by_cases n1 : nm len b p = 1
  · rw [if_pos n1] at h
    cases h1 : pmix len b σ (es len b p) with
    | inl e => rw [h1, sb_l] at h; cases h
    | inr r =>
      rw [h1, sb_r] at h
      cases h
      obtain ⟨a1, a2, a3⟩ := pmix_v heb.2.1 hσ h1
      exact ⟨⟨ht, a1, hr⟩, by show p < r.2; omega, a3⟩
  rw [if_neg n1] at h
  by_cases tb : t.testBit (ky (nm len b p)) = true
  · rw [if_pos tb] at h; cases h
  rw [if_neg tb] at h
  by_cases n0 : nm len b p = 0
  · rw [if_pos n0] at h
    cases h1 : pmin len b ρ (es len b p) with
    | inl e => rw [h1, sb_l] at h; cases h
    | inr r =>
      rw [h1, sb_r] at h
      cases h
      obtain ⟨a1, a2, a3⟩ := pmin_v heb.2.1 hr h1
      exact ⟨⟨hor, hσ, a1⟩, by show p < r.2; omega, a3⟩
  · rw [if_neg n0] at h
    cases h1 : ppts len b ρ (nm len b p) (es len b p) with
    | inl e => rw [h1, sb_l] at h; cases h
    | inr r =>
      rw [h1, sb_r] at h
      cases h
      obtain ⟨a1, a2, a3⟩ := ppts_v heb.2.1 hr (by omega) (by omega) h1
      exact ⟨⟨hor, hσ, a1⟩, by show p < r.2; omega, a3⟩
def pro (len : Nat) (b : Nat → Int) : Nat → ((Nat → Int) × (Nat → Nat) × Nat) → Nat → Nat → (Nat × Nat) ⊕ (((Nat → Int) × (Nat → Nat) × Nat) × Nat)
  | 0, _, _, _ => .inl (1, 0)
  | n + 1, st, p, it => if bdt len b p = true then .inl (1, qs len b p) else if ks len b p = 4 then .inr (st, it) else sb (pitm len b st.1 st.2.1 st.2.2 p) fun r => pro len b n r.1 r.2 (it + 1)
theorem pro_s (len : Nat) (b : Nat → Int) (n : Nat) (st : (Nat → Int) × (Nat → Nat) × Nat) (p it : Nat) : pro len b (n + 1) st p it = if bdt len b p = true then .inl (1, qs len b p) else if ks len b p = 4 then .inr (st, it) else sb (pitm len b st.1 st.2.1 st.2.2 p) fun r => pro len b n r.1 r.2 (it + 1) := rfl
/-- the class's loop -/
def tlB (rec18 : Int32 × zM → Option (Int32 × zM)) (u36 : Int32 × zM) : Option (Int32 × zM) := match u36 with | (x16, M17) => jn (α := zM) (fun (M27 : zM) => lt (zwI M27 50 1 (0 : Int32)) (fun (M28 : zM) => if (M28.1 50 2) = 0 then (some (x16, M28)) else (some (((-10 : Int32) - (M28.1 50 3)), M28)))) (fun k29 => if (320 : Int32) ≤ x16 then (k29 M17) else (bi (fX9_takeToken (5 : Int32) M17) (fun (b31 : Bool) (M30 : zM) => if b31 = false then (k29 M30) else (if (M30.1 50 5) = (4 : Int32) then (k29 M30) else (bi (fX9_takeItem 52 M30) (fun (b33 : Bool) (M32 : zM) => if b33 = false then (k29 M32) else (bi (fX9_takeToken (3 : Int32) M32) (fun (b35 : Bool) (M34 : zM) => if b35 = false then (k29 M34) else (rec18 ((x16 + (1 : Int32)), M34)))))))))) 
def tlQ (M : zM) (s : (Nat × Nat) ⊕ (((Nat → Int) × (Nat → Nat) × Nat) × Nat)) (r : Int32 × zM) : Prop := zfr [50, 53, 54] M r.2 ∧ r.2.1 50 1 = nI 0 ∧ (∀ e, s = .inl e → r.1 = jI (-10 - e.2) ∧ r.2.1 50 2 = nI e.1 ∧ e.2 ≤ 320) ∧ ∀ y, s = .inr y → r.1 = nI y.2 ∧ r.2.1 50 2 = nI 0 ∧ y.2 ≤ 160 ∧ okS y.1 ∧ (∀ k, k < 10 → r.2.1 53 k = jI (y.1.1 k)) ∧ ∀ k, k < 64 → r.2.1 54 k = jI (mx (y.1.2.1 k))
theorem tl_e {M M' : zM} {s : (Nat × Nat) ⊕ (((Nat → Int) × (Nat → Nat) × Nat) × Nat)} {e : Nat × Nat} (x : Int32) (hs : s = .inl e) (f : zfr [50, 53, 54] M M') (h : cE M' e) : ok (lt (zwI M' 50 1 (0 : Int32)) (fun (M28 : zM) => if (M28.1 50 2) = 0 then (some (x, M28)) else (some (((-10 : Int32) - (M28.1 50 3)), M28)))) (tlQ M s) := by
  obtain ⟨h1, h2, h3, h4⟩ := h
  rw [e_lt, e_w1s, e_uF (by omega), h3, if_neg (nI_z h1).1, e_uF (by omega), h4, m_10, jn_sub]
  refine ok_some ⟨zfr_I f (by simp), by rw [e_w1s, e_uT rfl]; rfl, fun e' he' => ?_, fun y hy => by rw [hs] at hy; cases hy⟩
  rw [hs] at he'
  cases he'
  exact ⟨rfl, by rw [e_w1s, e_uF (by omega)]; exact h3, h2⟩
theorem c_loop {len : Nat} {b : Nat → Int} : ∀ (n it : Nat) (M : zM) (st : (Nat → Int) × (Nat → Nat) × Nat) (p : Nat), cS M len b p st.2.2 → (∀ k, k < 10 → M.1 53 k = jI (st.1 k)) → (∀ k, k < 64 → M.1 54 k = jI (mx (st.2.1 k))) → okS st → 2 * it ≤ p → len - p < n → ok (zlp tlB n (nI it, M)) (tlQ M (pro len b n st p it))
  | 0, it, M, st, p, _, _, _, _, _, hf => absurd hf (Nat.not_lt_zero _)
  | n + 1, it, M, st, p, h, hr, hm, hv, hit, hf => by
    have hl := h.1.2.1
    have hp := h.2.1
    have hqb := qs_bd b hp
    have hk := ks_le len b p
    have ps := pro_s len b n st p it
    show ok (tlB (zlp tlB n) (nI it, M)) _
    unfold tlB
    dsimp only
    rw [e_jn, l_320, nn_leF (by omega)]
    have htk := c_tok (w := 5) h.1 hp h.2.2.1 (by omega)
    have htk : ok (fX9_takeToken (5 : Int32) M) (tokQ M len b p 5) := htk
    refine ok_bi htk ?_
    rintro v M1 hq
    have f1 : zfr [50, 53, 54] M M1 := zfr_sub hq.1 (by decide)
    cases hb : bdt len b p
    rotate_left
    · obtain ⟨u1, u2⟩ := (cE_tok h hq).1 hb
      rw [if_pos hb] at ps
      rw [u1, if_pos rfl]
      exact tl_e _ ps f1 u2
    rw [if_neg (by rw [hb]; decide)] at ps
    obtain ⟨u1, u2, _⟩ := cS_tok h hq hb (Or.inl rfl)
    have q5 : M1.1 50 5 = nI (ks len b p) := hq.2.1.1
    have q6 : M1.1 50 6 = nI (qs len b p) := hq.2.1.2.1
    have r1 : ∀ k, k < 10 → M1.1 53 k = jI (st.1 k) := fun k hk => by rw [(hq.1 53 (by decide)).1]; exact hr k hk
    have m1 : ∀ k, k < 64 → M1.1 54 k = jI (mx (st.2.1 k)) := fun k hk => by rw [(hq.1 54 (by decide)).1]; exact hm k hk
    rw [u1, if_neg (by decide), q5, l_4]
    by_cases k4 : ks len b p = 4
    · rw [if_pos k4] at ps
      rw [nn_eqT (by omega)]
      dsimp only
      rw [e_lt, e_w1s, e_uF (by omega), u2.2.2.2.2, if_pos (show nI 0 = (0 : Int32) from rfl), ps]
      refine ok_some ⟨zfr_I f1 (by simp), by rw [e_w1s, e_uT rfl]; rfl, (fun e he => by cases he), fun y hy => ?_⟩
      cases hy
      exact ⟨rfl, by rw [e_w1s, e_uF (by omega)]; exact u2.2.2.2.2, by show it ≤ 160; omega, hv, fun k hk => by rw [e_w1 _ _ _ (by omega)]; exact r1 k hk, fun k hk => by rw [e_w1 _ _ _ (by omega)]; exact m1 k hk⟩
    rw [if_neg k4] at ps
    rw [nn_eqF (by omega)]
    refine ok_bi (c_item hp u2 hv.1 q5 q6 r1 m1 hv.2.1) ?_
    rintro v2 M2 ⟨f2, g1, g2⟩
    dsimp only at f2 g1 g2
    have f2' : zfr [50, 53, 54] M M2 := zfr_tr f1 f2 (by decide)
    cases h1 : pbody len b st.1 st.2.1 st.2.2 p with
    | inl e =>
      obtain ⟨rfl, u⟩ := g1 e h1
      rw [if_pos rfl]
      exact tl_e _ (by rw [ps]; unfold pitm; rw [h1]; rfl) f2' u
    | inr y =>
      obtain ⟨rfl, s2, s3, s4⟩ := g2 y h1
      obtain ⟨v1, v2, v3⟩ := pbody_v hp hv h1
      rw [if_neg (by decide)]
      refine ok_bi (c_sem s2) ?_
      rintro v4 M3 ⟨f3, g3, g4⟩
      dsimp only at f3 g3 g4
      have f3' : zfr [50, 53, 54] M M3 := zfr_tr f2' f3 (by decide)
      cases h2 : psem len b y.2 with
      | inl e =>
        obtain ⟨rfl, u⟩ := g3 e h2
        rw [if_pos rfl]
        exact tl_e _ (by rw [ps]; unfold pitm; rw [h1, sb_r, h2]; rfl) f3' u
      | inr q =>
        obtain ⟨rfl, s5⟩ := g4 q h2
        have b2 := psem_v v3 h2
        rw [if_neg (by decide), l_1, n_add]
        have ih := c_loop n (it + 1) M3 y.1 q s5 (fun k hk => by rw [(f3 53 (by decide)).1]; exact s3 k hk) (fun k hk => by rw [(f3 54 (by decide)).1]; exact s4 k hk) v1 (by omega) (by omega)
        have hs : pro len b (n + 1) st p it = pro len b n y.1 q (it + 1) := by rw [ps]; unfold pitm; rw [h1, sb_r, h2]; rfl
        rw [hs]
        refine ok_mono ih ?_
        rintro r ⟨w1, w2, w3, w4⟩
        exact ⟨zfr_tr f3' w1 (fun c hc => hc), w2, w3, w4⟩
/-- the reference's loop -/
def rlB (rec43 : Int32 × zM → Option (Int32 × zM)) (u81 : Int32 × zM) : Option (Int32 × zM) := match u81 with | (x41, M42) => if (M42.1 76 3) = 0 then (if (M42.1 76 7) = 0 then (some (x41, M42)) else (sq (fX11_readItem M42) (fun (M48 : zM) => rec43 ((x41 + (1 : Int32)), M48)))) else (some (x41, M42))
def rlQ (M : zM) (len : Nat) (b : Nat → Int) (s : (Nat × Nat) ⊕ (((Nat → Int) × (Nat → Nat) × Nat) × Nat)) (r : Int32 × zM) : Prop := kx M r.2 ∧ (∀ e, s = .inl e → rE r.2 len b e) ∧ ∀ y, s = .inr y → r.1 = nI y.2 ∧ r.2.1 76 3 = nI 0 ∧ (∀ k, k < 10 → r.2.1 82 k = jI (y.1.1 k)) ∧ ∀ k, k < 64 → r.2.1 83 k = nI (y.1.2.1 k)
theorem kR_cg {M M' : zM} (h : kR M) (e : ∀ c, 78 ≤ c → c ≤ 80 → M'.1 c = M.1 c) : kR M' := ⟨fun k hk => by rw [e 78 (by omega) (by omega)]; exact h.1 k hk, fun k hk => by rw [e 79 (by omega) (by omega)]; exact h.2.1 k hk, fun k hk => by rw [e 80 (by omega) (by omega)]; exact h.2.2 k hk⟩
theorem pitm_v {len : Nat} {b : Nat → Int} {ρ : Nat → Int} {σ : Nat → Nat} {t p : Nat} {y : ((Nat → Int) × (Nat → Nat) × Nat) × Nat} (hp : p ≤ len) (hv : okS (ρ, σ, t)) (h : pitm len b ρ σ t p = .inr y) : okS y.1 ∧ p + 2 ≤ y.2 ∧ y.2 ≤ len := by
  unfold pitm at h
  cases h1 : pbody len b ρ σ t p with
  | inl e => rw [h1, sb_l] at h; cases h
  | inr r =>
    rw [h1, sb_r] at h
    obtain ⟨v1, v2, v3⟩ := pbody_v hp hv h1
    cases h2 : psem len b r.2 with
    | inl e => rw [h2, sb_l] at h; cases h
    | inr q =>
      rw [h2, sb_r] at h
      have b2 := psem_v v3 h2
      cases h
      exact ⟨v1, by show p + 2 ≤ q; omega, b2.2⟩
theorem r_loop {len : Nat} {b : Nat → Int} : ∀ (n it : Nat) (M : zM) (st : (Nat → Int) × (Nat → Nat) × Nat) (p : Nat), rA M len b p → kR M → M.1 76 15 = nI st.2.2 → (∀ k, k < 10 → M.1 82 k = jI (st.1 k)) → (∀ k, k < 64 → M.1 83 k = nI (st.2.1 k)) → okS st → len - p < n → ok (zlp rlB n (nI it, M)) (rlQ M len b (pro len b n st p it))
  | 0, it, M, st, p, _, _, _, _, _, _, hf => absurd hf (Nat.not_lt_zero _)
  | n + 1, it, M, st, p, h, hR, h15, hr, hm, hv, hf => by
    have hp := h.1
    have hk := ks_le len b p
    have ps := pro_s len b n st p it
    show ok (rlB (zlp rlB n) (nI it, M)) _
    unfold rlB
    dsimp only
    cases hb : bdt len b p
    rotate_left
    · have u := h.2.1 hb
      rw [if_pos hb] at ps
      rw [u.2.2.2.1, if_neg (nI_z u.2.1).1, ps]
      exact ok_some ⟨⟨zfr_rf _ _, fun _ _ => rfl⟩, fun e he => by cases he; exact u, fun y hy => by cases hy⟩
    rw [if_neg (by rw [hb]; decide)] at ps
    have hK := h.2.2 hb
    have hrt := rtk_1 hk (bd_k0 hb)
    rw [hK.2.2.2.1, if_pos (show nI 0 = (0 : Int32) from rfl), hK.2.2.2.2.2.2.1]
    by_cases k4 : ks len b p = 4
    · rw [if_pos k4] at ps
      rw [if_pos (show nI (rtk (ks len b p)) = (0 : Int32) by rw [hrt.2.2.2.1.2 k4]; rfl), ps]
      exact ok_some ⟨⟨zfr_rf _ _, fun _ _ => rfl⟩, (fun e he => by cases he), fun y hy => by cases hy; exact ⟨rfl, hK.2.2.2.1, hr, hm⟩⟩
    rw [if_neg k4] at ps
    have hql := ks_lt (len := len) (b := b) (p := p) k4
    have hqb := qs_bd b hp
    rw [l_0, nn_eqF (by omega)]
    refine ok_sq (r_item hK hR hv.1 h15 hr hm hv.2.1) ?_
    rintro M2 ⟨f2, g1, g2⟩
    have hR2 : kR M2 := kR_cg hR (fun c w1 w2 => (f2.1 c (by simp; omega)).1)
    rw [l_1, n_add]
    cases h1 : pitm len b st.1 st.2.1 st.2.2 p with
    | inl e =>
      have u := g1 e h1
      rw [h1, sb_l] at ps
      obtain ⟨m, rfl⟩ : ∃ m, n = m + 1 := ⟨n - 1, by omega⟩
      show ok (rlB (zlp rlB m) (nI (it + 1), M2)) _
      unfold rlB
      dsimp only
      rw [u.2.2.2.1, if_neg (nI_z u.2.1).1, ps]
      exact ok_some ⟨f2, fun e he => by cases he; exact u, fun y hy => by cases hy⟩
    | inr y =>
      obtain ⟨s1, s2, s3, s4⟩ := g2 y h1
      obtain ⟨v1, v2, v3⟩ := pitm_v hp hv h1
      rw [h1, sb_r] at ps
      rw [ps]
      refine ok_mono (r_loop n (it + 1) M2 y.1 y.2 s1 hR2 s4 s2 s3 v1 (by omega)) ?_
      rintro r ⟨w1, w2, w3⟩
      exact ⟨kx_tr f2 w1, w2, w3⟩
