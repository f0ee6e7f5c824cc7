/-! ===== numbers, letters, semicolons ===== -/
def sb {α β : Type} (r : (Nat × Nat) ⊕ α) (k : α → (Nat × Nat) ⊕ β) : (Nat × Nat) ⊕ β := match r with
  | .inl e => .inl e
  | .inr a => k a
theorem sb_l {α β : Type} (e : Nat × Nat) (k : α → (Nat × Nat) ⊕ β) : sb (.inl e) k = .inl e := rfl
theorem sb_r {α β : Type} (a : α) (k : α → (Nat × Nat) ⊕ β) : sb (.inr a) k = k a := rfl
def vl (len : Nat) (b : Nat → Int) (p : Nat) : Nat := dv b (qs len b p) (es len b p - qs len b p)
def pnum (len : Nat) (b : Nat → Int) (lo hi p : Nat) : (Nat × Nat) ⊕ (Nat × Nat) := if bdt len b p = true then .inl (1, qs len b p) else if ks len b p ≠ 2 then .inl (2, qs len b p) else if ¬ (lo ≤ vl len b p ∧ vl len b p ≤ hi) then .inl (3, qs len b p) else .inr (vl len b p, es len b p)
def plet (len : Nat) (b : Nat → Int) (p : Nat) : (Nat × Nat) ⊕ (Nat × Nat) := if bdt len b p = true then .inl (1, qs len b p) else if ks len b p ≠ 1 then .inl (2, qs len b p) else if ¬ (es len b p - qs len b p = 1 ∧ 97 ≤ b (qs len b p) ∧ b (qs len b p) ≤ 104) then .inl (3, qs len b p) else .inr ((b (qs len b p) - 97).toNat, es len b p)
def psem (len : Nat) (b : Nat → Int) (p : Nat) : (Nat × Nat) ⊕ Nat := if bdt len b p = true then .inl (1, qs len b p) else if ks len b p ≠ 3 then .inl (2, qs len b p) else .inr (es len b p)
/-- the class reads on from p -/
def cS (M : zM) (len : Nat) (b : Nat → Int) (p t : Nat) : Prop := cT M len b ∧ p ≤ len ∧ M.1 50 4 = nI p ∧ M.1 50 8 = nI t ∧ M.1 50 2 = nI 0
def cE (M : zM) (e : Nat × Nat) : Prop := (0 < e.1 ∧ e.1 < 5) ∧ e.2 ≤ 320 ∧ M.1 50 2 = nI e.1 ∧ M.1 50 3 = nI e.2
theorem ks_lt {len : Nat} {b : Nat → Int} {p : Nat} (h : ks len b p ≠ 4) : qs len b p < len := by
  unfold ks at h
  by_cases y : qs len b p < len
  · exact y
  · rw [if_neg y] at h
    exact absurd rfl h
theorem ks_le (len : Nat) (b : Nat → Int) (p : Nat) : ks len b p ≤ 4 := by
  have := kd_lt (b (qs len b p))
  unfold ks
  split <;> omega
theorem cS_tok {M M' : zM} {len t : Nat} {b : Nat → Int} {p w : Nat} (h : cS M len b p t) {v : Bool} (hq : tokQ M len b p w (v, M')) (hb : bdt len b p = false) (hw : w = 5 ∨ ks len b p = w) : v = true ∧ cS M' len b (es len b p) t ∧ (ks len b p = 2 → M'.1 50 7 = nI (vl len b p) ∧ vl len b p ≤ 999) := by
  obtain ⟨h1, h2, h3, h4, h5⟩ := h
  obtain ⟨f1, ⟨q1, q2, q3, q4⟩, _, q6, _⟩ := hq
  obtain ⟨u1, u2, u3, u4⟩ := q6 hb hw
  have heb := es_bd b h2
  dsimp only at f1 q1 q2 q3 q4 u1 u2 u3 u4
  refine ⟨u1, ⟨cT_fr h1 q3 (f1 51 (by decide)).1, heb.2.1, u3, by rw [q4]; exact h4, by rw [u2]; exact h5⟩, fun w2 => ?_⟩
  obtain ⟨a1, a2⟩ := u4 w2
  refine ⟨a1, dv_999 ?_ a2⟩
  unfold bdt at hb
  rw [Bool.or_eq_false_iff, Bool.and_eq_false_iff] at hb
  rcases hb.2 with z | z
  · exact absurd w2 (of_decide_eq_false z)
  · have := of_decide_eq_false z
    omega
theorem cE_tok {M M' : zM} {len t : Nat} {b : Nat → Int} {p w : Nat} (h : cS M len b p t) {v : Bool} (hq : tokQ M len b p w (v, M')) : (bdt len b p = true → v = false ∧ cE M' (1, qs len b p)) ∧ (bdt len b p = false → ¬ (w = 5 ∨ ks len b p = w) → v = false ∧ cE M' (2, qs len b p)) := by
  obtain ⟨h1, h2, h3, h4, h5⟩ := h
  obtain ⟨_, _, q5, _, q7⟩ := hq
  have hqb := qs_bd b h2
  have hl := h1.2.1
  refine ⟨fun w => ?_, fun w1 w2 => ?_⟩
  · obtain ⟨u1, u2, u3⟩ := q5 w
    exact ⟨u1, ⟨by show 0 < 1 ∧ 1 < 5; omega, by show qs len b p ≤ 320; omega, u2, u3⟩⟩
  · obtain ⟨u1, u2, u3⟩ := q7 w1 w2
    exact ⟨u1, ⟨by show 0 < 2 ∧ 2 < 5; omega, by show qs len b p ≤ 320; omega, u2, u3⟩⟩
theorem c_fl {M : zM} {len t : Nat} {b : Nat → Int} {p : Nat} (h : cT M len b) {q v : Nat} (hv : 0 < v ∧ v < 5) (hq : q ≤ 320) (h6 : M.1 50 6 = nI q) : ∃ M', fX9_fail (nI v) M = some (false, M') ∧ cE M' (v, q) ∧ zfr [50] M M' := by
  obtain ⟨M', g1, g2, g3, g4, g5⟩ := c_fail (nI v) M
  exact ⟨M', g1, ⟨hv, hq, g2, by rw [g3]; exact h6⟩, g5⟩
theorem c_num {M : zM} {len t : Nat} {b : Nat → Int} {p lo hi : Nat} (h : cS M len b p t) (hlo : lo ≤ 1000) (hhi : hi ≤ 1000) : ok (fX9_takeNumber (nI lo) (nI hi) M) (fun r => zfr [50] M r.2 ∧ (∀ e, pnum len b lo hi p = .inl e → r.1 = false ∧ cE r.2 e) ∧ ∀ y, pnum len b lo hi p = .inr y → r.1 = true ∧ cS r.2 len b y.2 t ∧ r.2.1 50 7 = nI y.1) := by
  have hk := ks_le len b p
  have hqb := qs_bd b h.2.1
  have hl := h.1.2.1
  unfold fX9_takeNumber
  have htk := c_tok (w := 2) h.1 h.2.1 h.2.2.1 (by omega)
  have htk : ok (fX9_takeToken (2 : Int32) M) (tokQ M len b p 2) := htk
  refine ok_bi htk ?_
  rintro v M1 hq
  have f1 : zfr [50] M M1 := hq.1
  have q6 : M1.1 50 6 = nI (qs len b p) := hq.2.1.2.1
  cases hb : bdt len b p
  · by_cases k2 : ks len b p = 2
    · obtain ⟨u1, u2, u3⟩ := cS_tok h hq hb (Or.inr k2)
      obtain ⟨a1, a2⟩ := u3 k2
      rw [u1, if_neg (by decide), a1, nI_j (vl len b p), nI_j lo, nI_j hi, fw_eq _ _ _ (by omega) (by omega) (by omega), e_lt, e_jn]
      by_cases y : lo ≤ vl len b p ∧ vl len b p ≤ hi
      · have hp : pnum len b lo hi p = .inr (vl len b p, es len b p) := by
          unfold pnum
          rw [if_neg (by rw [hb]; decide), if_neg (by omega), if_neg (by omega)]
        rw [decide_eq_true (by omega), if_neg (by decide)]
        refine ok_some ⟨f1, fun e he => ?_, fun y hy => ?_⟩
        · rw [hp] at he; cases he
        · rw [hp] at hy
          cases hy
          exact ⟨rfl, u2, a1⟩
      · have hp : pnum len b lo hi p = .inl (3, qs len b p) := by
          unfold pnum
          rw [if_neg (by rw [hb]; decide), if_neg (by omega), if_pos (by omega)]
        obtain ⟨M', g1, g2, g3⟩ := c_fl (t := t) (p := p) u2.1 (v := 3) (by omega) (show qs len b p ≤ 320 by omega) q6
        have g1 : fX9_fail (3 : Int32) M1 = some (false, M') := g1
        rw [decide_eq_false (by omega), if_pos rfl, g1, e_bi, if_pos rfl]
        refine ok_some ⟨zfr_tr f1 g3 (fun c hc => hc), fun e he => ?_, fun y hy => ?_⟩
        · rw [hp] at he
          cases he
          exact ⟨rfl, g2⟩
        · rw [hp] at hy; cases hy
    · obtain ⟨u1, u2⟩ := (cE_tok h hq).2 hb (by omega)
      have hp : pnum len b lo hi p = .inl (2, qs len b p) := by
        unfold pnum
        rw [if_neg (by rw [hb]; decide), if_pos k2]
      rw [u1, if_pos rfl]
      refine ok_some ⟨f1, fun e he => ?_, fun y hy => ?_⟩
      · rw [hp] at he
        cases he
        exact ⟨rfl, u2⟩
      · rw [hp] at hy; cases hy
  · obtain ⟨u1, u2⟩ := (cE_tok h hq).1 hb
    have hp : pnum len b lo hi p = .inl (1, qs len b p) := by
      unfold pnum
      rw [if_pos hb]
    rw [u1, if_pos rfl]
    refine ok_some ⟨f1, fun e he => ?_, fun y hy => ?_⟩
    · rw [hp] at he
      cases he
      exact ⟨rfl, u2⟩
    · rw [hp] at hy; cases hy
theorem c_sem {M : zM} {len t : Nat} {b : Nat → Int} {p : Nat} (h : cS M len b p t) : ok (fX9_takeToken (3 : Int32) M) (fun r => zfr [50] M r.2 ∧ (∀ e, psem len b p = .inl e → r.1 = false ∧ cE r.2 e) ∧ ∀ y, psem len b p = .inr y → r.1 = true ∧ cS r.2 len b y t) := by
  have htk := c_tok (w := 3) h.1 h.2.1 h.2.2.1 (by omega)
  have htk : ok (fX9_takeToken (3 : Int32) M) (tokQ M len b p 3) := htk
  refine ok_mono htk ?_
  rintro ⟨v, M1⟩ hq
  refine ⟨hq.1, ?_⟩
  dsimp only
  cases hb : bdt len b p
  · by_cases k2 : ks len b p = 3
    · obtain ⟨u1, u2, u3⟩ := cS_tok h hq hb (Or.inr k2)
      have hp : psem len b p = .inr (es len b p) := by
        unfold psem
        rw [if_neg (by rw [hb]; decide), if_neg (by omega)]
      refine ⟨fun e he => ?_, fun y hy => ?_⟩
      · rw [hp] at he; cases he
      · rw [hp] at hy
        cases hy
        exact ⟨u1, u2⟩
    · obtain ⟨u1, u2⟩ := (cE_tok h hq).2 hb (by omega)
      have hp : psem len b p = .inl (2, qs len b p) := by
        unfold psem
        rw [if_neg (by rw [hb]; decide), if_pos k2]
      refine ⟨fun e he => ?_, fun y hy => ?_⟩
      · rw [hp] at he
        cases he
        exact ⟨u1, u2⟩
      · rw [hp] at hy; cases hy
  · obtain ⟨u1, u2⟩ := (cE_tok h hq).1 hb
    have hp : psem len b p = .inl (1, qs len b p) := by
      unfold psem
      rw [if_pos hb]
    refine ⟨fun e he => ?_, fun y hy => ?_⟩
    · rw [hp] at he
      cases he
      exact ⟨u1, u2⟩
    · rw [hp] at hy; cases hy
theorem c_let {M : zM} {len t : Nat} {b : Nat → Int} {p : Nat} (h : cS M len b p t) : ok (fX9_takeLetter M) (fun r => zfr [50] M r.2 ∧ (∀ e, plet len b p = .inl e → r.1 = false ∧ cE r.2 e) ∧ ∀ y, plet len b p = .inr y → r.1 = true ∧ cS r.2 len b y.2 t ∧ r.2.1 50 7 = nI y.1 ∧ r.2.1 50 6 = nI (qs len b p)) := by
  have hk := ks_le len b p
  have hqb := qs_bd b h.2.1
  have heb := es_bd b h.2.1
  have hl := h.1.2.1
  unfold fX9_takeLetter
  have htk := c_tok (w := 1) h.1 h.2.1 h.2.2.1 (by omega)
  have htk : ok (fX9_takeToken (1 : Int32) M) (tokQ M len b p 1) := htk
  refine ok_bi htk ?_
  rintro v M1 hq
  have f1 : zfr [50] M M1 := hq.1
  have q6 : M1.1 50 6 = nI (qs len b p) := hq.2.1.2.1
  cases hb : bdt len b p
  · by_cases k1 : ks len b p = 1
    · obtain ⟨u1, u2, u3⟩ := cS_tok h hq hb (Or.inr k1)
      have hql := ks_lt (len := len) (b := b) (p := p) (by omega)
      have hbq := h.1.2.2.2 (qs len b p)
      have k51 : M1.1 51 (qs len b p) = jI (b (qs len b p)) := u2.1.2.2.1 _ hql
      rw [u1, if_neg (by decide), q6, e_gn (by omega), e_znn (by omega), k51, show (97 : Int32) = jI 97 from rfl, jI_sub, e_lt, e_jn, e_jn]
      obtain ⟨M3, hM3⟩ : ∃ M3, M3 = zwI M1 50 7 (jI (b (qs len b p) - 97)) := ⟨_, rfl⟩
      have f3 : zfr [50] M M3 := by rw [hM3]; exact zfr_I f1 (by simp)
      have g4 : M3.1 50 4 = nI (es len b p) := by rw [hM3, e_w1s, e_uF (by omega)]; exact u2.2.2.1
      have g6 : M3.1 50 6 = nI (qs len b p) := by rw [hM3, e_w1s, e_uF (by omega)]; exact q6
      have g7 : M3.1 50 7 = jI (b (qs len b p) - 97) := by rw [hM3, e_w1s, e_uT rfl]
      have cS3 : cS M3 len b (es len b p) t := ⟨cT_fr u2.1 (by rw [hM3, e_w1s, e_uF (by omega)]) (by rw [hM3, e_w1 _ _ _ (by omega)]), u2.2.1, g4, by rw [hM3, e_w1s, e_uF (by omega)]; exact u2.2.2.2.1, by rw [hM3, e_w1s, e_uF (by omega)]; exact u2.2.2.2.2⟩
      have hw : fX10_isLetter (jI (b (qs len b p) - 97)) = decide (0 ≤ b (qs len b p) - 97 ∧ b (qs len b p) - 97 ≤ 7) := by
        unfold fX10_isLetter
        exact w0N (N := 7) (by omega) (by omega)
      obtain ⟨M', v1, v2, v3⟩ := c_fl (t := t) (p := p) cS3.1 (v := 3) (by omega) (show qs len b p ≤ 320 by omega) g6
      have v1 : fX9_fail (3 : Int32) M3 = some (false, M') := v1
      rw [← hM3, g4, g6, g7, n_sub (by omega), l_1, v1, e_bi, if_pos rfl, hw, e_lt]
      have hbad : ¬ (es len b p - qs len b p = 1 ∧ 97 ≤ b (qs len b p) ∧ b (qs len b p) ≤ 104) → ok (some (false, M')) (fun r => zfr [50] M r.2 ∧ (∀ e, plet len b p = .inl e → r.1 = false ∧ cE r.2 e) ∧ ∀ y, plet len b p = .inr y → r.1 = true ∧ cS r.2 len b y.2 t ∧ r.2.1 50 7 = nI y.1 ∧ r.2.1 50 6 = nI (qs len b p)) := fun hy => by
        have hp : plet len b p = .inl (3, qs len b p) := by
          unfold plet
          rw [if_neg (by rw [hb]; decide), if_neg (by omega), if_pos hy]
        refine ok_some ⟨zfr_tr f3 v3 (fun c hc => hc), fun e he => ?_, fun y hy => ?_⟩
        · rw [hp] at he
          cases he
          exact ⟨rfl, v2⟩
        · rw [hp] at hy; cases hy
      by_cases y1 : es len b p - qs len b p = 1
      · rw [nn_eqT (by omega)]
        by_cases y2 : 0 ≤ b (qs len b p) - 97 ∧ b (qs len b p) - 97 ≤ 7
        · have hp : plet len b p = .inr ((b (qs len b p) - 97).toNat, es len b p) := by
            unfold plet
            rw [if_neg (by rw [hb]; decide), if_neg (by omega), if_neg (by omega)]
          rw [decide_eq_true y2, if_neg (by decide)]
          refine ok_some ⟨f3, fun e he => ?_, fun y hy => ?_⟩
          · rw [hp] at he; cases he
          · rw [hp] at hy
            cases hy
            refine ⟨rfl, cS3, ?_, g6⟩
            rw [g7, nI_j]
            exact congrArg jI (by show _ = ((((b (qs len b p) - 97).toNat : Nat)) : Int); omega)
        · rw [decide_eq_false y2, if_pos rfl]
          exact hbad (by omega)
      · rw [nn_eqF (by omega)]
        exact hbad (by omega)
    · obtain ⟨u1, u2⟩ := (cE_tok h hq).2 hb (by omega)
      have hp : plet len b p = .inl (2, qs len b p) := by
        unfold plet
        rw [if_neg (by rw [hb]; decide), if_pos k1]
      rw [u1, if_pos rfl]
      refine ok_some ⟨f1, fun e he => ?_, fun y hy => ?_⟩
      · rw [hp] at he
        cases he
        exact ⟨rfl, u2⟩
      · rw [hp] at hy; cases hy
  · obtain ⟨u1, u2⟩ := (cE_tok h hq).1 hb
    have hp : plet len b p = .inl (1, qs len b p) := by
      unfold plet
      rw [if_pos hb]
    rw [u1, if_pos rfl]
    refine ok_some ⟨f1, fun e he => ?_, fun y hy => ?_⟩
    · rw [hp] at he
      cases he
      exact ⟨rfl, u2⟩
    · rw [hp] at hy; cases hy
/-! the reference: a token at hand, or a fault -/
def rE (M : zM) (len : Nat) (b : Nat → Int) (e : Nat × Nat) : Prop := rTx M len b ∧ (0 < e.1 ∧ e.1 < 5) ∧ e.2 ≤ 320 ∧ M.1 76 3 = nI e.1 ∧ M.1 76 4 = nI e.2 ∧ ∃ q, q ≤ 320 ∧ M.1 76 6 = nI q
def rK (M : zM) (len : Nat) (b : Nat → Int) (p : Nat) : Prop := rTx M len b ∧ p ≤ len ∧ bdt len b p = false ∧ M.1 76 3 = nI 0 ∧ M.1 76 5 = nI (es len b p) ∧ M.1 76 6 = nI (qs len b p) ∧ M.1 76 7 = nI (rtk (ks len b p)) ∧ (ks len b p = 2 → M.1 76 8 = nI (vl len b p) ∧ vl len b p ≤ 999)
def rA (M : zM) (len : Nat) (b : Nat → Int) (p : Nat) : Prop := p ≤ len ∧ (bdt len b p = true → rE M len b (1, qs len b p)) ∧ (bdt len b p = false → rK M len b p)
theorem rE_cg {M M' : zM} {len : Nat} {b : Nat → Int} {e : Nat × Nat} (h : rE M len b e) (e1 : ∀ x, x < 9 → M'.1 76 x = M.1 76 x) (e2 : M'.1 77 = M.1 77) : rE M' len b e := by
  obtain ⟨h1, h2, h3, h4, h5, q, h6, h7⟩ := h
  exact ⟨rTx_fr h1 (e1 1 (by omega)) e2, h2, h3, by rw [e1 3 (by omega)]; exact h4, by rw [e1 4 (by omega)]; exact h5, q, h6, by rw [e1 6 (by omega)]; exact h7⟩
theorem rK_cg {M M' : zM} {len p : Nat} {b : Nat → Int} (h : rK M len b p) (e1 : ∀ x, x < 9 → M'.1 76 x = M.1 76 x) (e2 : M'.1 77 = M.1 77) : rK M' len b p := by
  obtain ⟨h1, h2, h3, h4, h5, h6, h7, h8⟩ := h
  exact ⟨rTx_fr h1 (e1 1 (by omega)) e2, h2, h3, by rw [e1 3 (by omega)]; exact h4, by rw [e1 5 (by omega)]; exact h5, by rw [e1 6 (by omega)]; exact h6, by rw [e1 7 (by omega)]; exact h7, fun w => by rw [e1 8 (by omega)]; exact h8 w⟩
theorem rA_cg {M M' : zM} {len p : Nat} {b : Nat → Int} (h : rA M len b p) (e1 : ∀ x, x < 9 → M'.1 76 x = M.1 76 x) (e2 : M'.1 77 = M.1 77) : rA M' len b p := ⟨h.1, fun w => rE_cg (h.2.1 w) e1 e2, fun w => rK_cg (h.2.2 w) e1 e2⟩
def kp (M M' : zM) : Prop := zfr [76] M M' ∧ ∀ x, (x < 3 ∨ 8 < x) → M'.1 76 x = M.1 76 x
theorem kp_rf (M : zM) : kp M M := ⟨zfr_rf _ _, fun _ _ => rfl⟩
theorem kp_tr {M M' M'' : zM} (h : kp M M') (k : kp M' M'') : kp M M'' := ⟨zfr_tr h.1 k.1 (fun c hc => hc), fun x hx => by rw [k.2 x hx, h.2 x hx]⟩
/-- reading on from a place -/
theorem r_nx {M : zM} {len p : Nat} {b : Nat → Int} (h : rTx M len b) (hp : p ≤ len) (h3 : M.1 76 3 = nI 0) (h5 : M.1 76 5 = nI p) : ok (fX11_next M) (fun M' => kp M M' ∧ rA M' len b p) := by
  refine ok_mono (r_nxt h hp h3 h5) ?_
  rintro M' ⟨f1, x1, q6, q7, g1, g2⟩
  have hT : rTx M' len b := rTx_fr h (x1 1 (by omega)) (f1 77 (by decide)).1
  have hqb := qs_bd b hp
  have hl := h.2.1
  refine ⟨⟨f1, x1⟩, hp, fun w => ?_, fun w => ?_⟩
  · obtain ⟨u1, u2⟩ := g2 w
    exact ⟨hT, by show 0 < 1 ∧ 1 < 5; omega, by show qs len b p ≤ 320; omega, u1, u2, qs len b p, by omega, q6⟩
  · obtain ⟨u1, u2, u3⟩ := g1 w
    refine ⟨hT, hp, w, u1, u2, q6, q7, fun w2 => ?_⟩
    obtain ⟨a1, a2⟩ := u3 w2
    refine ⟨a1, dv_999 ?_ a2⟩
    unfold bdt at w
    rw [Bool.or_eq_false_iff, Bool.and_eq_false_iff] at w
    rcases w.2 with z | z
    · exact absurd w2 (of_decide_eq_false z)
    · have := of_decide_eq_false z
      omega
theorem nI_z {v : Nat} (h : 0 < v ∧ v < 5) : ¬ nI v = (0 : Int32) ∧ ¬ nI v ≤ (0 : Int32) := by
  rw [show (0 : Int32) = jI 0 from rfl, nI_j, jI_eq (by omega) (by omega), jI_le (by omega) (by omega)]
  omega
theorem r_nxe {M : zM} {len : Nat} {b : Nat → Int} {e : Nat × Nat} (h : rE M len b e) : fX11_next M = some M := by
  unfold fX11_next
  rw [h.2.2.2.1, if_neg (nI_z h.2.1).2]
theorem r_fle {M : zM} {len : Nat} {b : Nat → Int} {e : Nat × Nat} (h : rE M len b e) (v : Int32) : fX11_fails v M = some M := by
  unfold fX11_fails
  rw [h.2.2.2.1, if_neg (nI_z h.2.1).1]
theorem r_nume {M : zM} {len : Nat} {b : Nat → Int} {e : Nat × Nat} (h : rE M len b e) (p1 p2 : Int32) : fX11_number p1 p2 M = some (p1, M) := by
  have h0 := (nI_z h.2.1).1
  unfold fX11_number
  rw [h.2.2.2.1, if_neg h0, e_sq, h.2.2.2.1, if_neg h0, e_sq, h.2.2.2.1, if_neg h0, e_lt, r_nxe h, e_sq]
theorem r_lete {M : zM} {len : Nat} {b : Nat → Int} {e : Nat × Nat} (h : rE M len b e) : fX11_letter M = some ((0 : Int32), M) := by
  have h0 := (nI_z h.2.1).1
  obtain ⟨q, q1, q2⟩ := h.2.2.2.2.2
  unfold fX11_letter
  rw [h.2.2.2.1, if_neg h0, e_sq, q2, r_byte h.1 (by omega), e_sq, e_lt, h.2.2.2.1, if_neg h0, e_sq, h.2.2.2.1, if_neg h0]
theorem r_fl {M : zM} {len p : Nat} {b : Nat → Int} (h : rK M len b p) {v : Nat} (hv : 0 < v ∧ v < 5) : ∃ M', fX11_fails (nI v) M = some M' ∧ rE M' len b (v, qs len b p) ∧ kp M M' := by
  obtain ⟨M', g1, g2, g3, g4, g5⟩ := r_fail (nI v) h.2.2.2.1
  have hqb := qs_bd b h.2.1
  have hl := h.1.2.1
  exact ⟨M', g1, ⟨rTx_fr h.1 (g4 1 (by omega) (by omega)) (g5 77 (by decide)).1, hv, by show qs len b p ≤ 320; omega, g2, by rw [g3]; exact h.2.2.2.2.2.1, qs len b p, by omega, by rw [g4 6 (by omega) (by omega)]; exact h.2.2.2.2.2.1⟩, g5, fun x hx => g4 x (by omega) (by omega)⟩
theorem rtk_1 {K : Nat} (h : K ≤ 4) (h0 : K ≠ 0) : (rtk K = 1 ↔ K = 1) ∧ (rtk K = 2 ↔ K = 2) ∧ (rtk K = 3 ↔ K = 3) ∧ (rtk K = 0 ↔ K = 4) ∧ rtk K ≤ 3 := by
  unfold rtk
  split
  · omega
  · omega
theorem bd_k0 {len p : Nat} {b : Nat → Int} (h : bdt len b p = false) : ks len b p ≠ 0 := by
  unfold bdt at h
  rw [Bool.or_eq_false_iff] at h
  exact of_decide_eq_false h.1
theorem r_num {M : zM} {len : Nat} {b : Nat → Int} {p lo hi : Nat} (h : rA M len b p) (hlo : lo ≤ 1000) (hhi : hi ≤ 1000) : ok (fX11_number (nI lo) (nI hi) M) (fun r => kp M r.2 ∧ (∀ e, pnum len b lo hi p = .inl e → rE r.2 len b e) ∧ ∀ y, pnum len b lo hi p = .inr y → r.1 = nI y.1 ∧ rA r.2 len b y.2) := by
  cases hb : bdt len b p
  rotate_left
  · have hE := h.2.1 hb
    have hp : pnum len b lo hi p = .inl (1, qs len b p) := by
      unfold pnum
      rw [if_pos hb]
    rw [r_nume hE]
    refine ok_some ⟨kp_rf _, fun e he => ?_, fun y hy => ?_⟩
    · rw [hp] at he
      cases he
      exact hE
    · rw [hp] at hy; cases hy
  have hK := h.2.2 hb
  have hk := ks_le len b p
  have hk0 := bd_k0 hb
  have hrt := rtk_1 hk hk0
  unfold fX11_number
  rw [hK.2.2.2.1, if_pos (show nI 0 = (0 : Int32) from rfl), hK.2.2.2.2.2.2.1, l_2]
  by_cases k2 : ks len b p = 2
  · obtain ⟨a1, a2⟩ := hK.2.2.2.2.2.2.2 k2
    have hin : fX11_in (nI (vl len b p)).toInt64 (nI lo).toInt64 (nI hi).toInt64 = decide (lo ≤ vl len b p ∧ vl len b p ≤ hi) := by
      rw [n_l (by omega), n_l (by omega), n_l (by omega), fi_eq _ _ _ (by omega) (by omega) (by omega), decide_eq_decide]
      omega
    rw [nn_eqT (by omega), e_sq, hK.2.2.2.1, if_pos (show nI 0 = (0 : Int32) from rfl), a1, hin, e_lt]
    by_cases y : lo ≤ vl len b p ∧ vl len b p ≤ hi
    · have hp : pnum len b lo hi p = .inr (vl len b p, es len b p) := by
        unfold pnum
        rw [if_neg (by rw [hb]; decide), if_neg (by omega), if_neg (by omega)]
      rw [decide_eq_true y, if_neg (by decide), e_sq, hK.2.2.2.1, if_pos (show nI 0 = (0 : Int32) from rfl), a1, e_lt]
      refine ok_sq (r_nx hK.1 (es_bd b h.1).2.1 hK.2.2.2.1 hK.2.2.2.2.1) ?_
      rintro M' ⟨g1, g2⟩
      refine ok_some ⟨g1, fun e he => ?_, fun y hy => ?_⟩
      · rw [hp] at he; cases he
      · rw [hp] at hy
        cases hy
        exact ⟨rfl, g2⟩
    · have hp : pnum len b lo hi p = .inl (3, qs len b p) := by
        unfold pnum
        rw [if_neg (by rw [hb]; decide), if_neg (by omega), if_pos (by omega)]
      obtain ⟨M', g1, g2, g3⟩ := r_fl hK (v := 3) (by omega)
      have g1 : fX11_fails (3 : Int32) M = some M' := g1
      rw [decide_eq_false y, if_pos rfl, g1, e_sq, e_sq, g2.2.2.2.1, if_neg (nI_z (v := 3) (by omega)).1, e_lt, r_nxe g2, e_sq]
      refine ok_some ⟨g3, fun e he => ?_, fun y hy => ?_⟩
      · rw [hp] at he
        cases he
        exact g2
      · rw [hp] at hy; cases hy
  · have hp : pnum len b lo hi p = .inl (2, qs len b p) := by
      unfold pnum
      rw [if_neg (by rw [hb]; decide), if_pos k2]
    obtain ⟨M', g1, g2, g3⟩ := r_fl hK (v := 2) (by omega)
    have hz := (nI_z (v := 2) (by omega)).1
    rw [nn_eqF (by omega), g1, e_sq, e_sq, g2.2.2.2.1, if_neg hz, e_sq, g2.2.2.2.1, if_neg hz, e_lt, r_nxe g2, e_sq]
    refine ok_some ⟨g3, fun e he => ?_, fun y hy => ?_⟩
    · rw [hp] at he
      cases he
      exact g2
    · rw [hp] at hy; cases hy
theorem r_let {M : zM} {len : Nat} {b : Nat → Int} {p : Nat} (h : rA M len b p) : ok (fX11_letter M) (fun r => kp M r.2 ∧ (∀ e, plet len b p = .inl e → rE r.2 len b e) ∧ ∀ y, plet len b p = .inr y → r.1 = nI y.1 ∧ rK r.2 len b p ∧ y.2 = es len b p ∧ y.1 < 8) := by
  cases hb : bdt len b p
  rotate_left
  · have hE := h.2.1 hb
    have hp : plet len b p = .inl (1, qs len b p) := by
      unfold plet
      rw [if_pos hb]
    rw [r_lete hE]
    refine ok_some ⟨kp_rf _, fun e he => ?_, fun y hy => ?_⟩
    · rw [hp] at he
      cases he
      exact hE
    · rw [hp] at hy; cases hy
  have hK := h.2.2 hb
  have hk := ks_le len b p
  have hk0 := bd_k0 hb
  have hrt := rtk_1 hk hk0
  have hqb := qs_bd b h.1
  have heb := es_bd b h.1
  have hl := hK.1.2.1
  unfold fX11_letter
  rw [hK.2.2.2.1, if_pos (show nI 0 = (0 : Int32) from rfl), hK.2.2.2.2.2.2.1, l_1]
  by_cases k1 : ks len b p = 1
  · have hql := ks_lt (len := len) (b := b) (p := p) (by omega)
    have hbq := hK.1.2.2.2 (qs len b p)
    have hr : rbt len b (qs len b p) = b (qs len b p) % 256 := if_pos hql
    have hn : kd (b (qs len b p)) = 1 := by
      unfold ks at k1
      rw [if_pos hql] at k1
      exact k1
    have hnv := kd_v.2.1.1 hn
    have hin : fX11_in (jI (rbt len b (qs len b p) - 97)).toInt64 (0 : Int64) (7 : Int64) = decide (0 ≤ rbt len b (qs len b p) - 97 ∧ rbt len b (qs len b p) - 97 ≤ 7) := by
      rw [L_0, L_7]
      exact i0N (by omega) (by omega)
    rw [nn_eqT (by omega), e_sq, hK.2.2.2.2.2.1, r_byte hK.1 (by omega), e_sq, show (97 : Int32) = jI 97 from rfl, jI_sub, e_lt, hK.2.2.2.1, if_pos (show nI 0 = (0 : Int32) from rfl), e_jn, hK.2.2.2.2.1, n_sub (by omega), hin, e_lt]
    obtain ⟨M', g1, g2, g3⟩ := r_fl hK (v := 3) (by omega)
    have g1 : fX11_fails (3 : Int32) M = some M' := g1
    rw [g1, e_sq]
    have hbad : ¬ (es len b p - qs len b p = 1 ∧ 97 ≤ b (qs len b p) ∧ b (qs len b p) ≤ 104) → ok (sq (some M') (fun (M9 : zM) => if (M9.1 76 3) = 0 then (some (jI (rbt len b (qs len b p) - 97), M9)) else (some ((0 : Int32), M9)))) (fun r => kp M r.2 ∧ (∀ e, plet len b p = .inl e → rE r.2 len b e) ∧ ∀ y, plet len b p = .inr y → r.1 = nI y.1 ∧ rK r.2 len b p ∧ y.2 = es len b p ∧ y.1 < 8) := fun hy => by
      have hp : plet len b p = .inl (3, qs len b p) := by
        unfold plet
        rw [if_neg (by rw [hb]; decide), if_neg (by omega), if_pos hy]
      rw [e_sq, g2.2.2.2.1, if_neg (nI_z (v := 3) (by omega)).1]
      refine ok_some ⟨g3, fun e he => ?_, fun y hy => ?_⟩
      · rw [hp] at he
        cases he
        exact g2
      · rw [hp] at hy; cases hy
    by_cases y1 : es len b p - qs len b p = 1
    · rw [nn_eqT (by omega)]
      by_cases y2 : 0 ≤ rbt len b (qs len b p) - 97 ∧ rbt len b (qs len b p) - 97 ≤ 7
      · have hp : plet len b p = .inr ((b (qs len b p) - 97).toNat, es len b p) := by
          unfold plet
          rw [if_neg (by rw [hb]; decide), if_neg (by omega), if_neg (by omega)]
        rw [decide_eq_true y2, if_neg (by decide), e_sq, hK.2.2.2.1, if_pos (show nI 0 = (0 : Int32) from rfl)]
        refine ok_some ⟨kp_rf _, fun e he => ?_, fun y hy => ?_⟩
        · rw [hp] at he; cases he
        · rw [hp] at hy
          cases hy
          refine ⟨?_, hK, rfl, ?_⟩
          · rw [nI_j]
            exact congrArg jI (by show _ = ((((b (qs len b p) - 97).toNat : Nat)) : Int); omega)
          · show (b (qs len b p) - 97).toNat < 8
            omega
      · rw [decide_eq_false y2, if_pos rfl]
        exact hbad (by omega)
    · rw [nn_eqF (by omega)]
      exact hbad (by omega)
  · have hp : plet len b p = .inl (2, qs len b p) := by
      unfold plet
      rw [if_neg (by rw [hb]; decide), if_pos k1]
    obtain ⟨M', g1, g2, g3⟩ := r_fl hK (v := 2) (by omega)
    have g1 : fX11_fails (2 : Int32) M = some M' := g1
    have hz := (nI_z (v := 2) (by omega)).1
    obtain ⟨q, q1, q2⟩ := g2.2.2.2.2.2
    rw [nn_eqF (by omega), g1, e_sq, e_sq, q2, r_byte g2.1 (by omega), e_sq, e_lt, g2.2.2.2.1, if_neg hz, e_sq, g2.2.2.2.1, if_neg hz]
    refine ok_some ⟨g3, fun e he => ?_, fun y hy => ?_⟩
    · rw [hp] at he
      cases he
      exact g2
    · rw [hp] at hy; cases hy
