def ptT (x2 : Int32) (M10 : zM) : Option zM := if (7 : Int32) ≤ x2 then (bi (fX11_number (0 : Int32) (99 : Int32) M10) (fun (x53 : Int32) (M52 : zM) => lt (if x2 = (7 : Int32) then (x53) else ((-x53))) (fun (x54 : Int32) => grd (zix (9 : Int32) 10) (lt (zwI M52 82 (zn (9 : Int32)) x54) (fun (M55 : zM) => some M55))))) else (lt (if (5 : Int32) ≤ x2 then ((99 : Int32)) else ((50 : Int32))) (fun (x57 : Int32) => bi (fX11_number (0 : Int32) x57 M10) (fun (x59 : Int32) (M58 : zM) => grd (zix (x2 + (2 : Int32)) 10) (lt (zwI M58 82 (zn (x2 + (2 : Int32))) x59) (fun (M60 : zM) => some M60)))))
theorem ptTe {M : zM} {len n : Nat} {b : Nat → Int} {e : Nat × Nat} (h : rE M len b e) (hn : n < 9) (hn2 : 2 ≤ n) : ok (ptT (nI n) M) (fun M' => kq M M' ∧ rE M' len b e) := by
  unfold ptT
  rw [l_7]
  by_cases y : 7 ≤ n
  · rw [nn_leT (by omega), r_nume h, e_bi, e_lt, e_grd (by decide), e_lt]
    exact ok_some ⟨kq_82 (kq_rf _) _ _, rE_82 h _ _⟩
  · rw [nn_leF (by omega), e_lt, r_nume h, e_bi, l_2, n_add, e_gn (by omega), e_lt]
    exact ok_some ⟨kq_82 (kq_rf _) _ _, rE_82 h _ _⟩
theorem ptTr {M : zM} {len n : Nat} {b : Nat → Int} {p : Nat} {ρ : Nat → Int} (h : rA M len b p) (hr : ∀ k, k < 10 → M.1 82 k = jI (ρ k)) (hn : n < 9) (hn2 : 2 ≤ n) : ok (ptT (nI n) M) (fun M' => kq M M' ∧ (∀ e, ppts len b ρ n p = .inl e → rE M' len b e) ∧ ∀ y, ppts len b ρ n p = .inr y → rA M' len b y.2 ∧ (∀ k, k < 10 → M'.1 82 k = jI (y.1 k)) ∧ M'.1 83 = M.1 83) := by
  have fin : ∀ (hi i : Nat) (M1 : zM) (x v : Int32), kp M M1 → (∀ e, pnum len b 0 hi p = .inl e → rE M1 len b e) → (∀ y, pnum len b 0 hi p = .inr y → v = jI (if n = 8 then -(y.1 : Int) else (y.1 : Int)) ∧ rA M1 len b y.2) → hi = (if n < 5 then 50 else 99) → i = (if n < 7 then n + 2 else 9) → ok (some (zwI M1 82 i v)) (fun M' => kq M M' ∧ (∀ e, ppts len b ρ n p = .inl e → rE M' len b e) ∧ ∀ y, ppts len b ρ n p = .inr y → rA M' len b y.2 ∧ (∀ k, k < 10 → M'.1 82 k = jI (y.1 k)) ∧ M'.1 83 = M.1 83) := fun hi i M1 x v f1 g1 g2 hhi hi' => by
    refine ok_some ⟨kq_82 (kq_k f1) _ _, fun e he => ?_, fun y hy => ?_⟩
    · cases h1 : pnum len b 0 hi p with
      | inl e' =>
        have hs : ppts len b ρ n p = .inl e' := by unfold ppts; rw [← hhi, h1]; rfl
        rw [hs] at he
        cases he
        exact rE_82 (g1 _ h1) _ _
      | inr y =>
        have hs : ppts len b ρ n p = .inr (setR ρ (if n < 7 then n + 2 else 9) (if n = 8 then -(y.1 : Int) else y.1), y.2) := by unfold ppts; rw [← hhi, h1]; rfl
        rw [hs] at he
        cases he
    · cases h1 : pnum len b 0 hi p with
      | inl e' =>
        have hs : ppts len b ρ n p = .inl e' := by unfold ppts; rw [← hhi, h1]; rfl
        rw [hs] at hy
        cases hy
      | inr y1 =>
        have hs : ppts len b ρ n p = .inr (setR ρ (if n < 7 then n + 2 else 9) (if n = 8 then -(y1.1 : Int) else y1.1), y1.2) := by unfold ppts; rw [← hhi, h1]; rfl
        rw [hs] at hy
        cases hy
        obtain ⟨v1, v2⟩ := g2 y1 h1
        refine ⟨rA_82 v2 _ _, fun k hk => ?_, by rw [e_w1 _ _ _ (by omega), (f1.1 83 (by decide)).1]⟩
        rw [e_w1s]
        show _ = jI (if k = (if n < 7 then n + 2 else 9) then (if n = 8 then -(y1.1 : Int) else (y1.1 : Int)) else ρ k)
        rw [← hi']
        by_cases ek : k = i
        · rw [e_uT ek, if_pos ek, v1]
        · rw [e_uF ek, if_neg ek, (f1.1 82 (by decide)).1]
          exact hr k hk
  unfold ptT
  rw [l_7]
  by_cases y : 7 ≤ n
  · rw [nn_leT (by omega)]
    have c1 := r_num h (lo := 0) (hi := 99) (by omega) (by omega)
    have c1 : ok (fX11_number (0 : Int32) (99 : Int32) M) _ := c1
    refine ok_bi c1 ?_
    rintro x1 M1 ⟨f1, g1, g2⟩
    dsimp only at f1 g1 g2
    rw [e_lt, e_grd (by decide), e_lt, z_9]
    refine fin 99 9 M1 x1 _ f1 g1 (fun y' hy => ?_) (by rw [if_neg (by omega)]) (by rw [if_neg (by omega)])
    obtain ⟨rfl, v2⟩ := g2 y' hy
    refine ⟨?_, v2⟩
    by_cases n7 : n = 7
    · rw [nn_eqT (by omega), if_neg (by omega), nI_j]
    · rw [nn_eqF (by omega), if_pos (by omega), nI_j, jI_neg]
  · have hx : (if (5 : Int32) ≤ nI n then (99 : Int32) else (50 : Int32)) = nI (if n < 5 then 50 else 99) := by
      rw [l_5]
      by_cases n5 : n < 5
      · rw [nn_leF (by omega), if_pos n5]; rfl
      · rw [nn_leT (by omega), if_neg n5]; rfl
    have hy : (if n < 5 then 50 else 99) ≤ 1000 := by split <;> omega
    rw [nn_leF (by omega), hx, e_lt]
    have c1 := r_num h (lo := 0) (hi := if n < 5 then 50 else 99) (by omega) hy
    have c1 : ok (fX11_number (0 : Int32) (nI (if n < 5 then 50 else 99)) M) _ := c1
    refine ok_bi c1 ?_
    rintro x1 M1 ⟨f1, g1, g2⟩
    dsimp only at f1 g1 g2
    rw [l_2, n_add, e_gn (by omega), e_lt, e_znn (by omega)]
    refine fin _ (n + 2) M1 x1 x1 f1 g1 (fun y' hy => ?_) rfl (by rw [if_pos (by omega)])
    obtain ⟨rfl, v2⟩ := g2 y' hy
    exact ⟨by rw [if_neg (by omega), nI_j], v2⟩
def smT (M34 : zM) : Option zM := sq (α := zM) (if (M34.1 76 3) = 0 then (if (M34.1 76 7) = (3 : Int32) then (some M34) else (sq (fX11_fails (2 : Int32) M34) (fun (M38 : zM) => some M38))) else (some M34)) (fun (M36 : zM) => sq (fX11_next M36) (fun (M37 : zM) => some M37))
theorem smTe {M : zM} {len : Nat} {b : Nat → Int} {e : Nat × Nat} (h : rE M len b e) : smT M = some M := by
  unfold smT
  rw [h.2.2.2.1, if_neg (nI_z h.2.1).1, e_sq, r_nxe h, e_sq]
theorem smTr {M : zM} {len : Nat} {b : Nat → Int} {p : Nat} (h : rA M len b p) : ok (smT M) (fun M' => kp M M' ∧ (∀ e, psem len b p = .inl e → rE M' len b e) ∧ ∀ y, psem len b p = .inr y → rA M' len b y) := by
  cases hb : bdt len b p
  rotate_left
  · have hE := h.2.1 hb
    have hp : psem len b p = .inl (1, qs len b p) := by
      unfold psem
      rw [if_pos hb]
    rw [smTe hE]
    exact ok_some ⟨kp_rf _, fun e he => by rw [hp] at he; cases he; exact hE, fun y hy => by rw [hp] at hy; cases hy⟩
  have hK := h.2.2 hb
  have hrt := rtk_1 (ks_le len b p) (bd_k0 hb)
  unfold smT
  rw [hK.2.2.2.1, if_pos (show nI 0 = (0 : Int32) from rfl), hK.2.2.2.2.2.2.1, l_3]
  by_cases k3 : ks len b p = 3
  · have hp : psem len b p = .inr (es len b p) := by
      unfold psem
      rw [if_neg (by rw [hb]; decide), if_neg (by omega)]
    rw [nn_eqT (by omega), e_sq]
    refine ok_sq (r_nx hK.1 (es_bd b h.1).2.1 hK.2.2.2.1 hK.2.2.2.2.1) ?_
    rintro M' ⟨g1, g2⟩
    exact ok_some ⟨g1, (fun e he => by rw [hp] at he; cases he), fun y hy => by rw [hp] at hy; cases hy; exact g2⟩
  · have hp : psem len b p = .inl (2, qs len b p) := by
      unfold psem
      rw [if_neg (by rw [hb]; decide), if_pos k3]
    obtain ⟨M', g1, g2, g3⟩ := r_fl hK (v := 2) (by omega)
    have g1 : fX11_fails (2 : Int32) M = some M' := g1
    rw [nn_eqF (by omega), g1, e_sq, e_sq, r_nxe g2, e_sq]
    exact ok_some ⟨g3, fun e he => by rw [hp] at he; cases he; exact g2, fun y hy => by rw [hp] at hy; cases hy⟩
def kx (M M' : zM) : Prop := zfr [76, 82, 83] M M' ∧ ∀ x, (x < 3 ∨ (8 < x ∧ x ≠ 15)) → M'.1 76 x = M.1 76 x
theorem kx_q {M M' : zM} (h : kq M M') : kx M M' := ⟨h.1, fun x hx => h.2 x (by omega)⟩
theorem kx_tr {M M' M'' : zM} (h : kx M M') (k : kx M' M'') : kx M M'' := ⟨zfr_tr h.1 k.1 (fun c hc => hc), fun x hx => by rw [k.2 x hx, h.2 x hx]⟩
theorem kx_15 {M M' : zM} (h : kx M M') (v : Int32) : kx M (zwI M' 76 15 v) := ⟨zfr_I h.1 (by simp), fun x hx => by rw [e_w1s, e_uF (by omega)]; exact h.2 x hx⟩
theorem ky_r : ∀ n, n < 9 → (if nI n ≤ (7 : Int32) then (nI n) else ((7 : Int32))) = nI (ky n) := by decide +kernel
def itQ (M : zM) (len : Nat) (b : Nat → Int) (s : (Nat × Nat) ⊕ (((Nat → Int) × (Nat → Nat) × Nat) × Nat)) (M' : zM) : Prop := kx M M' ∧ (∀ e, s = .inl e → rE M' len b e) ∧ ∀ y, s = .inr y → rA M' len b y.2 ∧ (∀ k, k < 10 → M'.1 82 k = jI (y.1.1 k)) ∧ (∀ k, k < 64 → M'.1 83 k = nI (y.1.2.1 k)) ∧ M'.1 76 15 = nI y.1.2.2
theorem r_item {M : zM} {len : Nat} {b : Nat → Int} {p t : Nat} {ρ : Nat → Int} {σ : Nat → Nat} (h : rK M len b p) (hR : kR M) (ht : t < 256) (h15 : M.1 76 15 = nI t) (hr : ∀ k, k < 10 → M.1 82 k = jI (ρ k)) (hm : ∀ k, k < 64 → M.1 83 k = nI (σ k)) (hσ : ∀ k, k < 64 → σ k ≤ 51) : ok (fX11_readItem M) (itQ M len b (pitm len b ρ σ t p)) := by
  have hk := ks_le len b p
  have hrt := rtk_1 hk (bd_k0 h.2.2.1)
  have hn := nm_le len b p
  have hp := h.2.1
  have heb := es_bd b hp
  have hl := h.1.2.1
  -- faults
  have fail : ∀ {M' : zM} {e : Nat × Nat}, pbody len b ρ σ t p = .inl e → kx M M' → rE M' len b e → itQ M len b (pitm len b ρ σ t p) M' := fun {M' e} hs hk he => by
    have hs : pitm len b ρ σ t p = .inl e := by unfold pitm; rw [hs]; rfl
    exact ⟨hk, fun e' he' => by rw [hs] at he'; cases he'; exact he, fun y hy => by rw [hs] at hy; cases hy⟩
  have fine : ∀ {M34 : zM} {y : ((Nat → Int) × (Nat → Nat) × Nat) × Nat}, pbody len b ρ σ t p = .inr y → kx M M34 → rA M34 len b y.2 → (bdt len b y.2 = false → (∀ k, k < 10 → M34.1 82 k = jI (y.1.1 k)) ∧ ∀ k, k < 64 → M34.1 83 k = nI (y.1.2.1 k)) → M34.1 76 15 = nI y.1.2.2 → ok (smT M34) (itQ M len b (pitm len b ρ σ t p)) := fun {M34 y} hs hk hA hrow h15' => by
    refine ok_mono (smTr hA) ?_
    rintro M' ⟨f1, g1, g2⟩
    cases h1 : psem len b y.2 with
    | inl e =>
      have hs : pitm len b ρ σ t p = .inl e := by unfold pitm; rw [hs, sb_r, h1]; rfl
      exact ⟨kx_tr hk (kx_q (kq_k f1)), fun e' he' => by rw [hs] at he'; cases he'; exact g1 e h1, fun y hy => by rw [hs] at hy; cases hy⟩
    | inr q =>
      have hs : pitm len b ρ σ t p = .inr (y.1, q) := by unfold pitm; rw [hs, sb_r, h1]; rfl
      have hbf : bdt len b y.2 = false := by
        cases hb : bdt len b y.2
        · rfl
        · unfold psem at h1
          rw [if_pos hb] at h1
          cases h1
      obtain ⟨w1, w2⟩ := hrow hbf
      refine ⟨kx_tr hk (kx_q (kq_k f1)), (fun e' he' => by rw [hs] at he'; cases he'), fun y' hy => ?_⟩
      rw [hs] at hy
      cases hy
      exact ⟨g2 q h1, fun k hk => by rw [(f1.1 82 (by decide)).1]; exact w1 k hk, fun k hk => by rw [(f1.1 83 (by decide)).1]; exact w2 k hk, by rw [f1.2 15 (by omega)]; exact h15'⟩
  have hx2 : (if nI (rtk (ks len b p)) = (1 : Int32) then (sq (fX11_itemName M) (fun (x67 : Int32) => some x67)) else (some (-4 : Int32))) = some (enc 9 (if ks len b p = 1 then nm len b p else 9)) := by
    by_cases k1 : ks len b p = 1
    · rw [l_1, nn_eqT (by omega), r_itn h hR, e_sq, if_pos k1]
    · rw [l_1, nn_eqF (by omega), if_neg k1]; rfl
  unfold fX11_readItem
  rw [h.2.2.2.2.2.2.1, hx2, e_sq, m_4]
  by_cases k1 : ks len b p ≠ 1 ∨ nm len b p = 9
  · have e9 : (if ks len b p = 1 then nm len b p else 9) = 9 := by
      split
      · omega
      · rfl
    obtain ⟨M', w1, w2, w3⟩ := r_fl h (v := 2) (by omega)
    have w1 : fX11_fails (2 : Int32) M = some M' := w1
    rw [e9, show enc 9 9 = jI (-4) from rfl, if_pos rfl, w1, e_sq]
    exact ok_some (fail (by unfold pbody; rw [if_pos k1]) (kx_q (kq_k w3)) w2)
  have e9 : (if ks len b p = 1 then nm len b p else 9) = nm len b p := if_pos (by omega)
  have hn9 : nm len b p < 9 := by omega
  rw [e9, enc_9 hn9, nj_eqF (by omega), ky_r _ hn9, e_lt]
  by_cases n1 : nm len b p = 1
  · rw [if_pos (show nI (nm len b p) = (1 : Int32) by rw [n1]; rfl), e_sq]
    refine ok_sq (r_nx h.1 heb.2.1 h.2.2.2.1 h.2.2.2.2.1) ?_
    rintro M10 ⟨f10, s10⟩
    rw [if_neg (show ¬ nI (nm len b p) = (0 : Int32) by rw [n1]; decide), if_pos (show nI (nm len b p) = (1 : Int32) by rw [n1]; rfl)]
    refine ok_sq (P := fun M34 => kq M10 M34 ∧ (∀ e, pmix len b σ (es len b p) = .inl e → rE M34 len b e) ∧ ∀ y, pmix len b σ (es len b p) = .inr y → rA M34 len b y.2 ∧ (bdt len b y.2 = false → ∀ k, k < 64 → M34.1 83 k = nI (y.1 k)) ∧ M34.1 82 = M10.1 82) ?_ ?_
    · exact ok_sq (r_two s10 (fun k hk => by rw [(f10.1 83 (by decide)).1]; exact hm k hk) hσ) (fun M' w => ok_some w)
    · rintro M34 ⟨f34, g1, g2⟩
      have q34 : kx M M34 := kx_q (kq_tr (kq_k f10) f34)
      cases h1 : pmix len b σ (es len b p) with
      | inl e =>
        have u := g1 e h1
        refine ⟨M34, smTe u, fail (by unfold pbody; rw [if_neg k1, if_pos n1, h1]; rfl) q34 u⟩
      | inr y =>
        obtain ⟨s1, s2, s3⟩ := g2 y h1
        refine fine (y := ((ρ, y.1, t), y.2)) (by unfold pbody; rw [if_neg k1, if_pos n1, h1]; rfl) q34 s1 (fun w => ⟨fun k hk => ?_, s2 w⟩) ?_
        · rw [s3, (f10.1 82 (by decide)).1]; exact hr k hk
        · rw [f34.2 15 (by omega), f10.2 15 (by omega)]; exact h15
  have hky := ky_lt (nm len b p)
  have esh : (1 : Int32) <<< (nI (ky (nm len b p)) &&& (31 : Int32)) = nI (2 ^ ky (nm len b p)) := by rw [l_31, n_31 (by omega), l_1, n_shl (by omega)]
  have ne1 : ¬ nI (nm len b p) = (1 : Int32) := by rw [l_1, nI_ne (by omega) (by omega)]; exact n1
  rw [if_neg ne1, h15, bit1 (by omega) (by omega), esh]
  by_cases tb : t.testBit (ky (nm len b p)) = true
  · obtain ⟨M', w1, w2, w3⟩ := r_fl h (v := 4) (by omega)
    have w1 : fX11_fails (4 : Int32) M = some M' := w1
    obtain ⟨M9, hM9⟩ : ∃ M9, M9 = zwI M' 76 15 (M'.1 76 15 ||| nI (2 ^ ky (nm len b p))) := ⟨_, rfl⟩
    have u9 : rE M9 len b (4, qs len b p) := by rw [hM9]; exact rE_cg w2 (fun x hx => by rw [e_w1s, e_uF (by omega)]) (by rw [e_w1 _ _ _ (by omega)])
    have q9 : kx M M9 := by rw [hM9]; exact kx_15 (kx_q (kq_k w3)) _
    have hs : pbody len b ρ σ t p = .inl (4, qs len b p) := by unfold pbody; rw [if_neg k1, if_neg n1, if_pos tb]
    rw [if_pos tb, w1, e_sq, e_sq, e_lt, e_sq, ← hM9, r_nxe u9, e_sq]
    by_cases n0 : nm len b p = 0
    · rw [if_pos (show nI (nm len b p) = (0 : Int32) by rw [n0]; rfl)]
      refine ok_sq (mnTe u9) ?_
      rintro M34 ⟨f34, u34⟩
      exact ⟨M34, smTe u34, fail hs (kx_tr q9 (kx_q f34)) u34⟩
    · rw [if_neg (show ¬ nI (nm len b p) = (0 : Int32) by rw [l_0, nI_ne (by omega) (by omega)]; exact n0), if_neg ne1]
      refine ok_sq (ptTe u9 hn9 (by omega)) ?_
      rintro M34 ⟨f34, u34⟩
      exact ⟨M34, smTe u34, fail hs (kx_tr q9 (kx_q f34)) u34⟩
  · obtain ⟨M9, hM9⟩ : ∃ M9, M9 = zwI M 76 15 (nI (t ||| 2 ^ ky (nm len b p))) := ⟨_, rfl⟩
    have k9 : rK M9 len b p := by rw [hM9]; exact rK_cg h (fun x hx => by rw [e_w1s, e_uF (by omega)]) (by rw [e_w1 _ _ _ (by omega)])
    have q9 : kx M M9 := by rw [hM9]; exact kx_15 (kx_q (kq_rf _)) _
    have t9 : M9.1 76 15 = nI (t ||| 2 ^ ky (nm len b p)) := by rw [hM9, e_w1s, e_uT rfl]
    have r9 : ∀ k, k < 10 → M9.1 82 k = jI (ρ k) := fun k hk => by rw [hM9, e_w1 _ _ _ (by omega)]; exact hr k hk
    have m9 : ∀ k, k < 64 → M9.1 83 k = nI (σ k) := fun k hk => by rw [hM9, e_w1 _ _ _ (by omega)]; exact hm k hk
    rw [if_neg tb, e_sq, h15, n_or, e_lt, e_sq, ← hM9]
    refine ok_sq (r_nx k9.1 heb.2.1 k9.2.2.2.1 k9.2.2.2.2.1) ?_
    rintro M10 ⟨f10, s10⟩
    have r10 : ∀ k, k < 10 → M10.1 82 k = jI (ρ k) := fun k hk => by rw [(f10.1 82 (by decide)).1]; exact r9 k hk
    have t10 : M10.1 76 15 = nI (t ||| 2 ^ ky (nm len b p)) := by rw [f10.2 15 (by omega)]; exact t9
    by_cases n0 : nm len b p = 0
    · rw [if_pos (show nI (nm len b p) = (0 : Int32) by rw [n0]; rfl)]
      refine ok_sq (mnTr s10 r10) ?_
      rintro M34 ⟨f34, g1, g2⟩
      have q34 : kx M M34 := kx_tr q9 (kx_q (kq_tr (kq_k f10) f34))
      cases h1 : pmin len b ρ (es len b p) with
      | inl e =>
        have u := g1 e h1
        exact ⟨M34, smTe u, fail (by unfold pbody; rw [if_neg k1, if_neg n1, if_neg tb, if_pos n0, h1]; rfl) q34 u⟩
      | inr y =>
        obtain ⟨s1, s2, s3⟩ := g2 y h1
        exact fine (y := ((y.1, σ, t ||| 2 ^ ky (nm len b p)), y.2)) (by unfold pbody; rw [if_neg k1, if_neg n1, if_neg tb, if_pos n0, h1]; rfl) q34 s1 (fun w => ⟨s2, fun k hk => by rw [s3, (f10.1 83 (by decide)).1]; exact m9 k hk⟩) (by rw [f34.2 15 (by omega)]; exact t10)
    · rw [if_neg (show ¬ nI (nm len b p) = (0 : Int32) by rw [l_0, nI_ne (by omega) (by omega)]; exact n0), if_neg ne1]
      refine ok_sq (ptTr s10 r10 hn9 (by omega)) ?_
      rintro M34 ⟨f34, g1, g2⟩
      have q34 : kx M M34 := kx_tr q9 (kx_q (kq_tr (kq_k f10) f34))
      cases h1 : ppts len b ρ (nm len b p) (es len b p) with
      | inl e =>
        have u := g1 e h1
        exact ⟨M34, smTe u, fail (by unfold pbody; rw [if_neg k1, if_neg n1, if_neg tb, if_neg n0, h1]; rfl) q34 u⟩
      | inr y =>
        obtain ⟨s1, s2, s3⟩ := g2 y h1
        exact fine (y := ((y.1, σ, t ||| 2 ^ ky (nm len b p)), y.2)) (by unfold pbody; rw [if_neg k1, if_neg n1, if_neg tb, if_neg n0, h1]; rfl) q34 s1 (fun w => ⟨s2, fun k hk => by rw [s3, (f10.1 83 (by decide)).1]; exact m9 k hk⟩) (by rw [f34.2 15 (by omega)]; exact t10)
