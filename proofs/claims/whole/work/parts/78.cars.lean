/-! ===== the fewest sets that have all ===== -/
theorem top_to {t r q : Nat} (hr : r < 2 ^ t) (hq : sub q r) : sub (2 ^ t ||| q) (2 ^ t ||| r) ∧ (2 ^ t ||| q).testBit t = true ∧ (2 ^ t ||| r) ^^^ (2 ^ t ||| q) = r ^^^ q := by
  have hrt : r.testBit t = false := tb_lt hr t (Nat.le_refl _)
  have hqt : q.testBit t = false := by
    cases e : q.testBit t
    · rfl
    · rw [hq t e] at hrt; exact hrt
  refine ⟨fun i hi => ?_, by rw [or_tb, decide_eq_true rfl, Bool.true_or], Nat.eq_of_testBit_eq fun i => ?_⟩
  · rw [or_tb] at hi ⊢
    cases e : q.testBit i
    · rw [e, Bool.or_false] at hi
      rw [hi, Bool.true_or]
    · rw [hq i e, Bool.or_true]
  · rw [Nat.testBit_xor, Nat.testBit_xor, or_tb, or_tb]
    by_cases e : t = i
    · subst e
      rw [hrt, hqt, decide_eq_true rfl]; rfl
    · rw [decide_eq_false e, Bool.false_or, Bool.false_or]
theorem top_of {t r P : Nat} (hr : r < 2 ^ t) (hP : sub P (2 ^ t ||| r)) (ht : P.testBit t = true) : ∃ q, sub q r ∧ P = 2 ^ t ||| q := by
  refine ⟨P &&& r, sub_and P r, Nat.eq_of_testBit_eq fun i => ?_⟩
  rw [or_tb, Nat.testBit_and]
  by_cases e : t = i
  · subst e
    rw [ht, decide_eq_true rfl]; rfl
  · rw [decide_eq_false e, Bool.false_or]
    cases e2 : P.testBit i
    · rfl
    · have := hP i e2
      rw [or_tb, decide_eq_false e, Bool.false_or] at this
      rw [this]; rfl
theorem sub_lt {P S n : Nat} (h : sub P S) (hS : S < n) : P < n := Nat.lt_of_le_of_lt (sub_le (P + 1) (by omega) h) hS
theorem c_parts {M : zM} {t r : Nat} {T : Nat → Nat → Bool} {G : Nat → Nat} (ht : t < 10) (hr : r < 2 ^ t) (h72 : ∀ X, X < 2 ^ (t + 1) → ∃ b, M.1 72 X = zb b ∧ (b = true ↔ clq T X)) (h73 : ∀ X, X < 2 ^ t → M.1 73 X = nI (G X) ∧ fewS (clq T) (G X) X ∧ G X ≤ t) : ok (fX1_fewestParts (nI (2 ^ t)) (nI r) M) (fun y => ∃ v, y = nI v ∧ v ≤ t + 1 ∧ fewS (clq T) v (2 ^ t ||| r)) := by
  have h2t := p2_10 (show t ≤ 10 by omega)
  have h2s := p2_10 (show t + 1 ≤ 10 by omega)
  have e2s : 2 ^ (t + 1) = 2 ^ t * 2 := Nat.pow_succ 2 t
  obtain ⟨g1, g2, g3⟩ := h73 r hr
  have hone : clq T (2 ^ t ||| 0) := (clq_top h2t.2).2 ⟨clq_0 T, fun b hb => by simp at hb⟩
  unfold fX1_fewestParts
  rw [e_gn (by omega), e_znn (by omega), g1, l_1, n_add, e_lt]
  refine ok_lp (fun x => ∃ c w, x = (nI c, nI w) ∧ c ≤ t + 1 ∧ sub w r ∧ (∃ q, sub q r ∧ clq T (2 ^ t ||| q) ∧ c = 1 + G (r ^^^ q)) ∧ ∀ q, sub q r → (w < q ∨ q = 0) → clq T (2 ^ t ||| q) → c ≤ 1 + G (r ^^^ q)) (fun x => zn x.2) ?_ zFu _ ⟨1 + G r, r, rfl, by omega, sub_rf r, ⟨0, fun i hi => by simp at hi, hone, by rw [Nat.xor_zero]⟩, fun q hq hw hc => ?_⟩ ?_
  · rintro rec x ⟨c, w, rfl, c1, hw, ⟨q0, q1, q2, q3⟩, c3⟩ hrec
    have hwr := sub_lt hw hr
    dsimp only at hrec ⊢
    rw [l_0]
    by_cases w0 : w = 0
    · rw [nn_leT (by omega)]
      refine ok_some ⟨c, rfl, c1, ?_⟩
      refine fewS_rec (F := G) (x := t) (by rw [or_tb, decide_eq_true rfl, Bool.true_or]) (fun P hP hPt => ?_) ⟨2 ^ t ||| q0, q2, (top_to hr q1).1, (top_to hr q1).2.1, by rw [(top_to hr q1).2.2]; exact q3⟩ (fun P hc hP hPt => ?_)
      · obtain ⟨q, k1, rfl⟩ := top_of hr hP hPt
        rw [(top_to hr k1).2.2]
        exact (h73 _ (Nat.xor_lt_two_pow hr (sub_lt k1 hr))).2.1
      · obtain ⟨q, k1, rfl⟩ := top_of hr hP hPt
        rw [(top_to hr k1).2.2]
        exact c3 q k1 (by omega) hc
    · have hol : 2 ^ t ||| w < 2 ^ (t + 1) := Nat.or_lt_two_pow (by omega) (by omega)
      have hxl : r ^^^ w < 2 ^ t := Nat.xor_lt_two_pow hr hwr
      obtain ⟨b, b1, b2⟩ := h72 _ hol
      obtain ⟨k1, k2, k3⟩ := h73 _ hxl
      have hnx : ((w - 1) &&& r) < w := by
        have : (w - 1) &&& r ≤ w - 1 := Nat.and_le_left
        omega
      have hmeas : ∀ c', zn (nI c', nI ((w - 1) &&& r)).2 < zn (nI w) := fun c' => by
        show zn (nI ((w - 1) &&& r)) < zn (nI w)
        rw [e_znn (by omega), e_znn (by omega)]
        exact hnx
      rw [nn_leF (by omega), n_or, e_gn (by omega), e_znn (by omega), b1]
      rcases bit_or b _ b2 with ⟨rfl, hc⟩ | ⟨rfl, hc⟩
      · rw [if_neg (show ¬ zb true = nI 0 by decide), n_xor, e_gn (by omega), e_znn (by omega), k1, n_add]
        unfold zmn
        by_cases z : 1 + G (r ^^^ w) < c
        · rw [nn_ltT (by omega), e_lt, e_sq, n_sub (by omega), n_and, e_lt]
          refine hrec _ ⟨1 + G (r ^^^ w), (w - 1) &&& r, rfl, by omega, sub_and _ _, ⟨w, hw, hc, rfl⟩, fun q hq hlt hcq => ?_⟩ (hmeas _)
          by_cases e : q = w
          · rw [e]; exact Nat.le_refl _
          · have : w < q ∨ q = 0 := by
              rcases hlt with q' | q'
              · left
                rcases Nat.lt_or_gt_of_ne e with y | y
                · have := sub_next (w + 1) (by omega) hq hw y
                  omega
                · exact y
              · exact Or.inr q'
            have := c3 q hq this hcq
            omega
        · rw [nn_ltF (by omega), e_lt, e_sq, n_sub (by omega), n_and, e_lt]
          refine hrec _ ⟨c, (w - 1) &&& r, rfl, c1, sub_and _ _, ⟨q0, q1, q2, q3⟩, fun q hq hlt hcq => ?_⟩ (hmeas _)
          by_cases e : q = w
          · rw [e]; omega
          · have : w < q ∨ q = 0 := by
              rcases hlt with q' | q'
              · left
                rcases Nat.lt_or_gt_of_ne e with y | y
                · have := sub_next (w + 1) (by omega) hq hw y
                  omega
                · exact y
              · exact Or.inr q'
            exact c3 q hq this hcq
      · rw [if_pos (show zb false = nI 0 from rfl), e_sq, n_sub (by omega), n_and, e_lt]
        refine hrec _ ⟨c, (w - 1) &&& r, rfl, c1, sub_and _ _, ⟨q0, q1, q2, q3⟩, fun q hq hlt hcq => ?_⟩ (hmeas _)
        by_cases e : q = w
        · rw [e] at hcq; exact absurd hcq hc
        · have : w < q ∨ q = 0 := by
            rcases hlt with q' | q'
            · left
              rcases Nat.lt_or_gt_of_ne e with y | y
              · have := sub_next (w + 1) (by omega) hq hw y
                omega
              · exact y
            · exact Or.inr q'
          exact c3 q hq this hcq
  · rcases hw with w | w
    · have := sub_le (q + 1) (by omega) hq
      omega
    · rw [w, Nat.xor_zero]
      exact Nat.le_refl _
  · show zn (nI r) < zFu
    rw [e_znn (by omega)]
    unfold zFu
    omega
theorem c_fewst {M : zM} {n : Nat} {T : Nat → Nat → Bool} (hn : n ≤ 10) (g : gR M n T) : ok (fX1_fewest M) (fun y => ∃ G : Nat → Nat, y.1 = nI (G (2 ^ n - 1)) ∧ ∀ X, X < 2 ^ n → fewS (clq T) (G X) X ∧ G X ≤ n) := by
  have h2n := p2_10 hn
  unfold fX1_fewest
  refine ok_sq (c_mark hn g) ?_
  rintro M1 ⟨f1, q1⟩
  have k70 : M1.1 70 0 = nI n := by rw [(f1 70 (by decide)).1]; exact g.1
  rw [l_0, e_gn (by omega), e_lt, e_znn (by omega)]
  refine ok_sq (P := fun M' => ∃ G : Nat → Nat, zfr [73] M1 M' ∧ ∀ X, X < 2 ^ n → M'.1 73 X = nI (G X) ∧ fewS (clq T) (G X) X ∧ G X ≤ n) ?_ ?_
  · refine ok_up n (fun t x => ∃ M', x = (nI t, M') ∧ ∃ G : Nat → Nat, zfr [73] M1 M' ∧ ∀ X, X < 2 ^ t → M'.1 73 X = nI (G X) ∧ fewS (clq T) (G X) X ∧ G X ≤ t) ?_ ?_ zFu 0 _ (by omega) (by unfold zFu; omega) ⟨_, rfl, fun _ => 0, zfr_I (zfr_rf _ _) (by simp), fun X hX => ?_⟩
    · rintro rec t x ht ⟨M2, rfl, G, f2, o2⟩ hrec
      have c70 : M2.1 70 0 = nI n := by rw [(f2 70 (by decide)).1]; exact k70
      have h2t := p2_10 (show t ≤ 10 by omega)
      have h2s := p2_10 (show t + 1 ≤ 10 by omega)
      have hts : 2 ^ (t + 1) ≤ 2 ^ n := Nat.pow_le_pow_right (n := 2) (by omega) (by omega)
      have e2s : 2 ^ (t + 1) = 2 ^ t * 2 := Nat.pow_succ 2 t
      have esh : (1 : Int32) <<< (nI t &&& (31 : Int32)) = nI (2 ^ t) := by rw [l_31, n_31 (by omega), l_1, n_shl (by omega)]
      (try dsimp only)
      rw [c70, nn_leF (by omega), esh]
      refine ok_sq (P := fun M' => ∃ G : Nat → Nat, zfr [73] M1 M' ∧ ∀ X, X < 2 ^ (t + 1) → M'.1 73 X = nI (G X) ∧ fewS (clq T) (G X) X ∧ G X ≤ t + 1) ?_ ?_
      · refine ok_up (2 ^ t) (fun r x => ∃ M', x = (nI r, M') ∧ ∃ G : Nat → Nat, zfr [73] M1 M' ∧ (∀ X, X < 2 ^ t → M'.1 73 X = nI (G X) ∧ fewS (clq T) (G X) X ∧ G X ≤ t) ∧ ∀ X, X < 2 ^ t + r → M'.1 73 X = nI (G X) ∧ fewS (clq T) (G X) X ∧ G X ≤ t + 1) ?_ ?_ zFu 0 _ (by omega) (by unfold zFu; omega) ⟨M2, rfl, G, f2, o2, fun X hX => by obtain ⟨a1, a2, a3⟩ := o2 X (by omega); exact ⟨a1, a2, by omega⟩⟩
        · rintro rec2 r x hr ⟨M3, rfl, G3, f3, o3, o4⟩ hrec2
          have h72 : ∀ X, X < 2 ^ (t + 1) → ∃ b, M3.1 72 X = zb b ∧ (b = true ↔ clq T X) := fun X hX => by rw [(f3 72 (by decide)).1]; exact q1 X (by omega)
          (try dsimp only)
          rw [nn_leF (by omega)]
          refine ok_sq (c_parts (by omega) hr h72 o3) ?_
          rintro y ⟨v, rfl, v1, v2⟩
          rw [n_or, or_ad hr, e_gn (by omega), e_lt, e_znn (by omega), l_1, n_add]
          rw [or_ad hr] at v2
          refine hrec2 _ ⟨_, rfl, fun X => if X = 2 ^ t + r then v else G3 X, zfr_I f3 (by simp), fun X hX => ?_, fun X hX => ?_⟩
          · rw [e_w1s, e_uF (by omega)]
            have e : (if X = 2 ^ t + r then v else G3 X) = G3 X := if_neg (by omega)
            simp only [e]
            exact o3 X hX
          · rw [e_w1s]
            by_cases e : X = 2 ^ t + r
            · have e' : (if X = 2 ^ t + r then v else G3 X) = v := if_pos e
              simp only [e']
              rw [e_uT e]
              exact ⟨rfl, by rw [e]; exact v2, v1⟩
            · have e' : (if X = 2 ^ t + r then v else G3 X) = G3 X := if_neg e
              simp only [e']
              rw [e_uF e]
              exact o4 X (by omega)
        · rintro rec2 x ⟨M3, rfl, G3, f3, o3, o4⟩
          (try dsimp only)
          rw [nn_leT (by omega)]
          exact ok_some ⟨G3, f3, fun X hX => o4 X (by omega)⟩
      · rintro M3 ⟨G3, f3, o3⟩
        rw [l_1, n_add]
        exact hrec _ ⟨M3, rfl, G3, f3, o3⟩
    · rintro rec x ⟨M2, rfl, G, f2, o2⟩
      have c70 : M2.1 70 0 = nI n := by rw [(f2 70 (by decide)).1]; exact k70
      (try dsimp only)
      rw [c70, nn_leT (by omega)]
      exact ok_some ⟨G, f2, o2⟩
    · have e0 : X = 0 := by
        have e : 2 ^ 0 = 1 := rfl
        omega
      rw [e_w1s, e_uT e0, e0]
      exact ⟨rfl, fewS_zero _, Nat.le_refl _⟩
  · rintro M2 ⟨G, f2, o2⟩
    have c70 : M2.1 70 0 = nI n := by rw [(f2 70 (by decide)).1]; exact k70
    have esh : (1 : Int32) <<< (nI n &&& (31 : Int32)) - (1 : Int32) = nI (2 ^ n - 1) := by rw [l_31, n_31 (by omega), l_1, n_shl (by omega), n_sub (by omega)]
    rw [c70, esh, e_gn (by omega), e_znn (by omega), (o2 (2 ^ n - 1) (by omega)).1]
    exact ok_some ⟨G, rfl, fun X hX => (o2 X hX).2⟩
theorem one_sy {S : Nat → Nat} {e i j : Nat} (h : one S e i j) : one S e j i := by
  obtain ⟨h1, h2⟩ := h
  refine ⟨fun w => h1 ?_, fun p hp => ?_⟩
  · unfold unl at *; omega
  · have := h2 p hp
    unfold okp at *
    omega
theorem c_fcar {M : zM} {ρ : Nat → Int} {S : Nat → Nat} {e : Nat} {T : Nat → Nat → Bool} (h1 : cR M 1 ρ S) (hV : V ρ S) (he : e < 2) (hT : ∀ a b, T a b = true ↔ one S e a b) : ok (fX10_fewestCars (2 + 4 * e) M) (fun y => ∃ G : Nat → Nat, y.1 = nI (G (2 ^ S (64 + e) - 1)) ∧ ∀ X, X < 2 ^ S (64 + e) → fewS (clq T) (G X) X ∧ G X ≤ S (64 + e)) := by
  have hS : S (64 + e) ≤ 10 := by
    rcases (show e = 0 ∨ e = 1 by omega) with rfl | rfl
    · exact hV.1.1
    · exact hV.1.2
  have hc : ∀ M', zfr [70, 71] M M' → cL M' (2 + 4 * e) e S := fun M' f => cR_L (cR_fr h1 f (fun c w1 w2 w3 => by simp only [List.mem_cons, List.not_mem_nil, or_false] at w3; omega)) he
  generalize hn : S (64 + e) = n at *
  have hl0 : ∀ M', zfr [70, 71] M M' → M'.1 (2 + 4 * e) 0 = nI n := fun M' f => by rw [(hc M' f).1, hn]
  unfold fX10_fewestCars
  rw [hl0 M (zfr_rf _ _), c_beg, e_sq]
  refine ok_sq (P := fun M' => zfr [70, 71] M M' ∧ gR M' n T) ?_ ?_
  · refine ok_up n (fun a x => ∃ M', x = (nI a, M') ∧ zfr [70, 71] M M' ∧ M'.1 70 0 = nI n ∧ ∀ i, i < 10 → M'.1 71 i = nI (if i < a then mb T i i else 0)) ?_ ?_ zFu 0 _ (by omega) (by unfold zFu; omega) ⟨_, rfl, zfr_A (zfr_I (zfr_rf _ _) (by simp)) (by simp), by rw [e_a1 _ _ (by omega), e_w1s, e_uT rfl], fun i hi => by rw [e_a1s]; unfold zfl; rw [if_pos hi, if_neg (by omega)]; rfl⟩
    · rintro rec a x ha ⟨M1, rfl, f1, k70, k71⟩ hrec
      (try dsimp only)
      rw [hl0 M1 f1, nn_leF (by omega)]
      refine ok_sq (P := fun M' => zfr [70, 71] M M' ∧ M'.1 70 0 = nI n ∧ ∀ i, i < 10 → M'.1 71 i = nI (if i < a + 1 then mb T i i else 0)) ?_ ?_
      · refine ok_up a (fun b x => ∃ M', x = (nI b, M') ∧ zfr [70, 71] M M' ∧ M'.1 70 0 = nI n ∧ ∀ i, i < 10 → M'.1 71 i = nI (if i < a then mb T i i else if i = a then mb T a b else 0)) ?_ ?_ zFu 0 _ (by omega) (by unfold zFu; omega) ⟨M1, rfl, f1, k70, fun i hi => ?_⟩
        · rintro rec2 b x hb ⟨M2, rfl, f2, q70, q71⟩ hrec2
          have es := mb_s T a b
          obtain ⟨v, v1, v2⟩ := c_one (hc M2 f2) hV he (i := a) (j := b) (by omega) (by omega)
          (try dsimp only)
          rw [nn_leF (by omega), v1, e_sq]
          cases v
          · have hf : ¬ T a b = true := fun w => absurd (v2.2 ((hT a b).1 w)) (by decide)
            rw [if_neg hf] at es
            rw [if_pos rfl, e_sq, l_1, n_add]
            exact hrec2 _ ⟨M2, rfl, f2, q70, by rw [es]; exact q71⟩
          · have ht : T a b = true := (hT a b).2 (v2.1 rfl)
            rw [if_pos ht] at es
            have q71a := q71 a (by omega)
            rw [if_neg (by omega), if_pos rfl] at q71a
            rw [if_neg (by decide), c_join (by omega) (by omega) q71a, e_sq, e_sq, l_1, n_add]
            refine hrec2 _ ⟨_, rfl, zfr_I f2 (by simp), by rw [e_w1 _ _ _ (by omega)]; exact q70, fun i hi => ?_⟩
            rw [e_w1s, es]
            by_cases e : i = a
            · rw [e_uT e, if_neg (by omega), if_pos e]
            · rw [e_uF e, q71 i hi, if_neg e, if_neg e]
        · rintro rec2 x ⟨M2, rfl, f2, q70, q71⟩
          (try dsimp only)
          rw [nn_leT (by omega)]
          refine ok_some ⟨f2, q70, fun i hi => ?_⟩
          rw [q71 i hi]
          by_cases e : i = a
          · rw [if_neg (by omega), if_pos e, if_pos (by omega), e]
          · rw [if_neg e]
            by_cases e2 : i < a
            · rw [if_pos e2, if_pos (by omega)]
            · rw [if_neg e2, if_neg (by omega)]
        · rw [k71 i hi]
          by_cases e : i = a
          · rw [if_neg (by omega), if_neg (by omega), if_pos e]; rfl
          · rw [if_neg e]
      · rintro M2 ⟨f2, q70, q71⟩
        rw [l_1, n_add]
        exact hrec _ ⟨M2, rfl, f2, q70, q71⟩
    · rintro rec x ⟨M1, rfl, f1, k70, k71⟩
      (try dsimp only)
      rw [hl0 M1 f1, nn_leT (by omega)]
      exact ok_some ⟨f1, k70, fun i hi => by rw [k71 i (by omega), if_pos hi]⟩
  · rintro M1 ⟨f1, g1⟩
    refine ok_bi (c_fewst hS g1) ?_
    rintro y M2 q
    exact ok_some q
theorem bit0 {W j : Nat} (hj : j < 31) (hW : W < 2147483648) {α : Type} (x y : α) : (if ((nI W >>> (nI j &&& (31 : Int32))) &&& (1 : Int32)) = (0 : Int32) then x else y) = if W.testBit j = true then y else x := by
  rw [l_31, n_31 (by omega), l_1, n_bit hj hW]
  by_cases q : W.testBit j = true
  · rw [if_pos q, if_pos q, if_neg (by decide)]
  · rw [if_neg q, if_neg q, if_pos (show nI 0 = (0 : Int32) from rfl)]
theorem r_ocar {M : zM} {ρ : Nat → Int} {S : Nat → Nat} {e W : Nat} {T : Nat → Nat → Bool} (h2 : rR M 0 ρ S) (hV : V ρ S) (he : e < 2) (hT : ∀ a b, T a b = true ↔ one S e a b) (hW : W < 2 ^ S (64 + e)) : ok (fX11_isOneCar (nI e) (nI W) M) (fun v => v = true ↔ clq T W) := by
  have hS : S (64 + e) ≤ 10 := by
    rcases (show e = 0 ∨ e = 1 by omega) with rfl | rfl
    · exact hV.1.1
    · exact hV.1.2
  have h2n := p2_10 hS
  have hlt : ∀ b, W.testBit b = true → b < S (64 + e) := fun b hb => by
    by_cases q : b < S (64 + e)
    · exact q
    · rw [tb_lt hW b (by omega)] at hb
      cases hb
  unfold fX11_isOneCar
  rw [l_10]
  refine ok_up 10 (fun a x => ∃ v : Bool, x = (v, nI a) ∧ ((v = true ∧ ∀ a' b, a' < b → b < 10 → a' < a → W.testBit a' = true → W.testBit b = true → T b a' = true) ∨ (v = false ∧ ¬ clq T W))) ?_ ?_ zFu 0 _ (by omega) (by unfold zFu; omega) ⟨true, rfl, Or.inl ⟨rfl, fun a' b _ _ h => absurd h (by omega)⟩⟩
  · rintro rec a x ha ⟨v, rfl, o1⟩ hrec
    (try dsimp only)
    rw [nn_leF (by omega), l_1, n_add, e_lt]
    refine ok_sq (P := fun v => (v = true ∧ ∀ a' b, a' < b → b < 10 → a' < a + 1 → W.testBit a' = true → W.testBit b = true → T b a' = true) ∨ (v = false ∧ ¬ clq T W)) ?_ ?_
    · refine ok_up 10 (fun j x => ∃ v : Bool, x = (v, nI j) ∧ a < j ∧ ((v = true ∧ ∀ a' b, a' < b → b < 10 → (a' < a ∨ a' = a ∧ b < j) → W.testBit a' = true → W.testBit b = true → T b a' = true) ∨ (v = false ∧ ¬ clq T W))) ?_ ?_ zFu (a + 1) _ (by omega) (by unfold zFu; omega) ⟨v, rfl, Nat.lt_succ_self a, ?_⟩
      · rintro rec2 j x hj ⟨v, rfl, haj, o2⟩ hrec2
        (try dsimp only)
        rw [nn_leF (by omega)]
        rcases o2 with ⟨rfl, o2⟩ | ⟨rfl, o2⟩
        rotate_left
        · rw [if_pos rfl]
          exact ok_some (Or.inr ⟨rfl, o2⟩)
        have hY : ((W.testBit a = true ∧ W.testBit j = true) → a < j → T j a = true) → ok (rec2 (true, nI (j + 1))) (fun v => (v = true ∧ ∀ a' b, a' < b → b < 10 → a' < a + 1 → W.testBit a' = true → W.testBit b = true → T b a' = true) ∨ (v = false ∧ ¬ clq T W)) := fun w => hrec2 _ ⟨true, rfl, by omega, Or.inl ⟨rfl, fun a' b h1 h2 h3 k1 k2 => by
          by_cases q : a' = a ∧ b = j
          · obtain ⟨rfl, rfl⟩ := q
            exact w ⟨k1, k2⟩ h1
          · exact o2 a' b h1 h2 (by omega) k1 k2⟩⟩
        rw [if_neg (by decide), e_jn, ← l_1, bit0 (by omega) (by omega)]
        by_cases z1 : W.testBit a = true
        rotate_left
        · rw [if_neg z1, e_sq, l_1, n_add]
          exact hY (fun w => absurd w.1 z1)
        rw [if_pos z1, bit0 (by omega) (by omega)]
        by_cases z2 : W.testBit j = true
        rotate_left
        · rw [if_neg z2, e_sq, l_1, n_add]
          exact hY (fun w => absurd w.2 z2)
        obtain ⟨v', d1, d2⟩ := r_one h2 hV he (i := a) (j := j) (hlt a z1) (hlt j z2)
        rw [if_pos z2, d1, e_sq]
        cases v'
        · rw [if_pos rfl, e_sq, l_1, n_add]
          refine hrec2 _ ⟨false, rfl, by omega, Or.inr ⟨rfl, fun w => ?_⟩⟩
          have := w j a haj z2 z1
          exact absurd (d2.2 (one_sy ((hT j a).1 this))) (by decide)
        · rw [if_neg (by decide), e_sq, l_1, n_add]
          exact hY (fun _ _ => (hT j a).2 (one_sy (d2.1 rfl)))
      · rintro rec2 x ⟨v, rfl, haj, o2⟩
        (try dsimp only)
        rw [nn_leT (by omega)]
        refine ok_some ?_
        rcases o2 with ⟨o3, o2⟩ | o2
        · exact Or.inl ⟨o3, fun a' b h1 h2 h3 k1 k2 => o2 a' b h1 h2 (by omega) k1 k2⟩
        · exact Or.inr o2
      · rcases o1 with ⟨o3, o1⟩ | o1
        · exact Or.inl ⟨o3, fun a' b h1 h2 h3 k1 k2 => o1 a' b h1 h2 (by omega) k1 k2⟩
        · exact Or.inr o1
    · rintro v' w
      exact hrec _ ⟨v', rfl, w⟩
  · rintro rec x ⟨v, rfl, o1⟩
    (try dsimp only)
    rw [nn_leT (by omega)]
    refine ok_some ?_
    rcases o1 with ⟨rfl, o1⟩ | ⟨rfl, o1⟩
    · refine ⟨fun _ a b hab ka kb => o1 b a hab ?_ ?_ kb ka, fun _ => rfl⟩
      · have := hlt a ka; omega
      · have := hlt a ka; omega
    · exact ⟨fun w => (by cases w), fun w => absurd w o1⟩
theorem low_bit : ∀ s, s < 1024 → s ≠ 0 → ∃ l, l < 10 ∧ nI s &&& (-(nI s)) = nI (2 ^ l) ∧ s.testBit l = true := by decide +kernel
theorem and_pw (p l : Nat) : p &&& 2 ^ l = if p.testBit l = true then 2 ^ l else 0 := by
  apply Nat.eq_of_testBit_eq
  intro i
  rw [Nat.testBit_and, Nat.testBit_two_pow]
  by_cases e : l = i
  · subst e
    cases c : p.testBit l
    · simp
    · simp [Nat.testBit_two_pow]
  · rw [decide_eq_false e, Bool.and_false]
    cases c : p.testBit l
    · simp
    · simp [Nat.testBit_two_pow, e]
theorem sub_an {p s : Nat} (h : sub p s) : s &&& p = p := and_eq.2 h
theorem xor_lt {p s : Nat} (h : sub p s) (hp : p ≠ 0) : s ^^^ p < s := by
  have h1 : sub (s ^^^ p) s := fun i hi => by
    rw [Nat.testBit_xor] at hi
    cases e : s.testBit i
    · cases e2 : p.testBit i
      · rw [e, e2] at hi; exact hi
      · rw [h i e2] at e; exact e.symm
    · rfl
  have h2 := sub_le ((s ^^^ p) + 1) (by omega) h1
  have h3 : s ^^^ p ≠ s := fun w => hp (by
    have : s ^^^ (s ^^^ p) = s ^^^ s := by rw [w]
    rw [← Nat.xor_assoc, Nat.xor_self, Nat.zero_xor] at this
    exact this)
  omega
theorem r_cars {M : zM} {ρ : Nat → Int} {S : Nat → Nat} {e : Nat} {T : Nat → Nat → Bool} {G : Nat → Nat} (h2 : rR M 0 ρ S) (hV : V ρ S) (he : e < 2) (hT : ∀ a b, T a b = true ↔ one S e a b) (hG : ∀ X, X < 2 ^ S (64 + e) → fewS (clq T) (G X) X ∧ G X ≤ 10) (h94 : M.1 94 0 = nI 0) : ok (fX11_cars (nI e) (nI 1) M) (fun y => y.1 = nI (G (2 ^ S (64 + e) - 1)) ∧ y.2.1 94 0 = nI 0) := by
  have hS : S (64 + e) ≤ 10 := by
    rcases (show e = 0 ∨ e = 1 by omega) with rfl | rfl
    · exact hV.1.1
    · exact hV.1.2
  have h2n := p2_10 hS
  have hlo : fX11_linesOf (nI e) (0 : Int32) M = some (nI (S (64 + e))) := by
    have := rR_s h2 (k := 64 + e) (by omega)
    unfold fX11_linesOf
    simp (disch := omega) only [e_lt, e_ltn, e_jn, e_sq, e_bi, l_0, l_1, l_2, l_3, l_4, l_5, l_6, l_7, l_8, l_9, l_10, l_11, l_12, l_13, l_14, l_15, l_16, l_17, l_18, l_19, l_20, l_21, l_22, l_23, l_24, l_25, l_26, l_27, l_28, l_29, l_30, l_31, l_32, l_33, l_34, l_35, l_36, l_37, l_38, l_39, l_40, l_41, l_48, l_50, l_56, l_57, l_59, l_60, l_63, l_64, l_70, l_97, l_99, l_122, l_128, l_190, l_220, l_255, l_320, l_500, l_999, l_1024, l_83520, l_100000, l_1000000, L_0, L_1, L_2, L_3, L_4, L_6, L_7, L_9, L_10, L_11, L_13, L_16, L_32, L_48, L_50, L_57, L_97, L_99, L_122, L_999, L_83520, L_4294967295, L_25937424601, L_1152921504606846976, ↓m_1000020, ↓m_1000012, ↓m_1000010, ↓m_1000000, ↓m_10004, ↓m_10000, ↓m_1000, ↓m_999, ↓m_99, ↓m_30, ↓m_20, ↓m_14, ↓m_12, ↓m_11, ↓m_10, ↓m_8, ↓m_4, ↓m_3, ↓m_2, ↓m_1, ↓mL_999, ↓mL_99, ↓mL_1, n_add, n_mul, nj_add, jn_add, n_sub, n_subj, nj_sub, jn_sub, nj_mul, jn_mul, if_true, if_false, jI_add, jI_sub, jI_mul, jI_neg, jL_add, jL_sub, jL_mul, jL_neg, n_l, j_l, jL_i, e_gn, e_gj, e_znn, e_znj, nn_ltT, nn_ltF, nn_leT, nn_leF, nn_eqT, nn_eqF, nj_ltT, nj_ltF, nj_leT, nj_leF, nj_eqT, nj_eqF, jn_ltT, jn_ltF, jn_leT, jn_leF, jn_eqT, jn_eqF, jj_ltT, jj_ltF, jj_leT, jj_leF, jj_eqT, jj_eqF, LL_ltT, LL_ltF, LL_leT, LL_leF, LL_eqT, LL_eqF, e_w1, e_w1s, e_w2, e_x1, e_x2, e_x2s, e_a1, e_a1s, e_a2, e_uT, e_uF, e_vT, e_vF, e_ft, e_tf, e_zbt, e_zbf, n_or, n_31, n_shl, n_bit, n_not, n_bc, this, Nat.add_zero]
  have hen : fX11_isEnd (nI e) = true := by
    rcases (show e = 0 ∨ e = 1 by omega) with rfl | rfl <;> decide
  have G0 : G 0 = 0 := fewS_un (hG 0 (by omega)).1 (fewS_zero _)
  have esh : (1 : Int32) <<< (nI (S (64 + e)) &&& (31 : Int32)) = nI (2 ^ S (64 + e)) := by rw [l_31, n_31 (by omega), l_1, n_shl (by omega)]
  unfold fX11_cars
  rw [hen, e_lt, if_neg (by decide), show fX11_in (nI 1).toInt64 (0 : Int64) (1 : Int64) = true by decide, e_lt, if_neg (by decide), hlo, e_sq, if_neg (show ¬ nI 1 = (0 : Int32) by decide), esh]
  have hro : ∀ W, W < 2 ^ S (64 + e) → ∀ M', zfr [95] M M' → ok (fX11_isOneCar (nI e) (nI W) M') (fun v => v = true ↔ clq T W) := fun W hW M' f => r_ocar (rR_fr h2 f (by decide) (by decide)) hV he hT hW
  generalize hn : S (64 + e) = n at *
  refine ok_sq (P := fun M' => zfr [95] M M' ∧ ∀ X, X < 2 ^ n → ∃ b, M'.1 95 X = zb b ∧ (b = true ↔ clq T X)) ?_ ?_
  · refine ok_up (2 ^ n) (fun s x => ∃ M', x = (nI s, M') ∧ zfr [95] M M' ∧ ∀ X, X < s → ∃ b, M'.1 95 X = zb b ∧ (b = true ↔ clq T X)) ?_ ?_ zFu 0 _ (by omega) (by unfold zFu; omega) ⟨M, rfl, zfr_rf _ _, fun X hX => absurd hX (by omega)⟩
    · rintro rec s x hs ⟨M1, rfl, f1, o1⟩ hrec
      obtain ⟨v, v1, v2⟩ := hro s hs M1 f1
      (try dsimp only)
      rw [nn_leF (by omega), v1, e_sq, e_gn (by omega), e_lt, e_znn (by omega), l_1, n_add]
      refine hrec _ ⟨_, rfl, zfr_I f1 (by simp), fun X hX => ?_⟩
      rw [e_w1s]
      by_cases q : X = s
      · rw [e_uT q, q]; exact ⟨v, rfl, v2⟩
      · rw [e_uF q]; exact o1 X (by omega)
    · rintro rec x ⟨M1, rfl, f1, o1⟩
      (try dsimp only)
      rw [nn_leT (by omega)]
      exact ok_some ⟨f1, o1⟩
  · rintro M1 ⟨f1, o1⟩
    have k94 : M1.1 94 0 = nI 0 := by rw [(f1 94 (by decide)).1]; exact h94
    refine ok_sq (P := fun M' => ∀ X, X < 2 ^ n → M'.1 94 X = nI (G X)) ?_ ?_
    · refine ok_up (2 ^ n) (fun s x => ∃ M', x = (nI s, M') ∧ 0 < s ∧ zfr [94] M1 M' ∧ ∀ X, X < s → M'.1 94 X = nI (G X)) ?_ ?_ zFu 1 _ (by omega) (by unfold zFu; omega) ⟨M1, rfl, by omega, zfr_rf _ _, fun X hX => by rw [show X = 0 by omega, G0]; exact k94⟩
      · rintro rec s x hs ⟨M2, rfl, s0, f2, o2⟩ hrec
        obtain ⟨l, l1, l2, l3⟩ := low_bit s (by omega) (by omega)
        have h2l := p2_10 (show l ≤ 10 by omega)
        (try dsimp only)
        rw [nn_leF (by omega), l2, e_lt, e_gn (by omega), e_lt, e_znn (by omega)]
        refine ok_sq (P := fun M' => zfr [94] M1 M' ∧ (∀ X, X < s → M'.1 94 X = nI (G X)) ∧ M'.1 94 s = nI (G s)) ?_ ?_
        · refine ok_lp (fun x => ∃ p M', x = (nI p, M') ∧ sub p s ∧ zfr [94] M1 M' ∧ (∀ X, X < s → M'.1 94 X = nI (G X)) ∧ ∃ c, M'.1 94 s = nI c ∧ c ≤ 11 ∧ (c = 11 ∨ ∃ q, sub q s ∧ q.testBit l = true ∧ clq T q ∧ c = 1 + G (s ^^^ q)) ∧ ∀ q, sub q s → p < q → q.testBit l = true → clq T q → c ≤ 1 + G (s ^^^ q)) (fun x => zn x.1) ?_ zFu _ ⟨s, _, rfl, sub_rf s, zfr_I f2 (by simp), fun X hX => ?_, 11, by rw [e_w1s, e_uT rfl]; rfl, by omega, Or.inl rfl, fun q hq hlt => ?_⟩ ?_
          · rintro rec2 x ⟨p, M3, rfl, hp, f3, o3, c, c0, c1, c2, c3⟩ hrec2
            have hps := sub_lt hp (show s < s + 1 by omega)
            dsimp only at hrec2 ⊢
            rw [l_0]
            by_cases p0 : p = 0
            · rw [nn_leT (by omega)]
              refine ok_some ⟨f3, o3, ?_⟩
              obtain ⟨a1, a2⟩ := hG s hs
              have hall : ∀ q, clq T q → sub q s → q.testBit l = true → c ≤ 1 + G (s ^^^ q) := fun q k1 k2 k3 => c3 q k2 (by
                have : q ≠ 0 := fun w => by rw [w] at k3; simp at k3
                omega) k3 k1
              obtain ⟨k', Q, b1, b2, b3, b4, b5⟩ := cov_pick a1.1 l3
              have hQ0 : Q ≠ 0 := fun w => by rw [w] at b4; simp at b4
              have hxQ := xor_lt b3 hQ0
              have b6 := (hG (s ^^^ Q) (by omega)).1.2 k' b5
              have b7 := hall Q b2 b3 b4
              rcases c2 with w | ⟨q, d1, d2, d3, d4⟩
              · omega
              · have hfew : fewS (clq T) c s := fewS_rec (F := G) (x := l) l3 (fun P hP hPt => (hG _ (by
                  have hP0 : P ≠ 0 := fun w => by rw [w] at hPt; simp at hPt
                  have := xor_lt hP hP0
                  omega)).1) ⟨q, d3, d1, d2, d4⟩ (fun P k1 k2 k3 => hall P k1 k2 k3)
                rw [c0, fewS_un hfew a1]
            · have hxp := xor_lt hp p0
              have hnx : ((p - 1) &&& s) < p := by
                have : (p - 1) &&& s ≤ p - 1 := Nat.and_le_left
                omega
              have hmeas : ∀ M', zn (nI ((p - 1) &&& s), (M' : zM)).1 < zn (nI p) := fun M' => by
                show zn (nI ((p - 1) &&& s)) < zn (nI p)
                rw [e_znn (by omega), e_znn (by omega)]
                exact hnx
              have hnext : ∀ q, sub q s → ((p - 1) &&& s) < q → q ≠ p → p < q := fun q hq hlt hne => by
                rcases Nat.lt_or_gt_of_ne hne with y | y
                · have := sub_next (p + 1) (by omega) hq hp y
                  omega
                · exact y
              have hfin : ∀ y : Nat, y ≤ 11 → (y = 11 ∨ (p.testBit l = true ∧ clq T p ∧ y = 1 + G (s ^^^ p))) → ((p.testBit l = true ∧ clq T p) → y ≤ 1 + G (s ^^^ p)) → ok (sq (α := Int32) (if nI c ≤ nI y then (some (nI c)) else (some (nI y))) (fun (x67 : Int32) => rec2 (nI ((p - 1) &&& s), zwI M3 94 s x67))) (fun M' => zfr [94] M1 M' ∧ (∀ X, X < s → M'.1 94 X = nI (G X)) ∧ M'.1 94 s = nI (G s)) := fun y y1 y2 y3 => by
                by_cases z : c ≤ y
                · rw [nn_leT (by omega), e_sq]
                  refine hrec2 _ ⟨_, _, rfl, sub_and _ _, zfr_I f3 (by simp), fun X hX => by rw [e_w1s, e_uF (by omega)]; exact o3 X hX, c, by rw [e_w1s, e_uT rfl], c1, c2, fun q hq hlt k1 k2 => ?_⟩ (hmeas _)
                  by_cases e' : q = p
                  · rw [e'] at k1 k2 ⊢
                    have := y3 ⟨k1, k2⟩
                    omega
                  · exact c3 q hq (hnext q hq hlt e') k1 k2
                · rw [nn_leF (by omega), e_sq]
                  refine hrec2 _ ⟨_, _, rfl, sub_and _ _, zfr_I f3 (by simp), fun X hX => by rw [e_w1s, e_uF (by omega)]; exact o3 X hX, y, by rw [e_w1s, e_uT rfl], y1, ?_, fun q hq hlt k1 k2 => ?_⟩ (hmeas _)
                  · rcases y2 with w | ⟨w1, w2, w3⟩
                    · exact Or.inl w
                    · exact Or.inr ⟨p, hp, w1, w2, w3⟩
                  · by_cases e' : q = p
                    · rw [e'] at k1 k2 ⊢
                      exact y3 ⟨k1, k2⟩
                    · have := c3 q hq (hnext q hq hlt e') k1 k2
                      omega
              obtain ⟨b, b1, b2⟩ := o1 p (by omega)
              rw [← (f3 95 (by decide)).1] at b1
              have hG10 := (hG (s ^^^ p) (by omega)).2
              have h94x := o3 (s ^^^ p) hxp
              rw [nn_leF (by omega), e_jn, n_and, and_pw]
              by_cases z1 : p.testBit l = true
              rotate_left
              · have := hfin 11 (by omega) (Or.inl rfl) (fun w => absurd w.1 z1)
                rw [if_neg z1, if_pos rfl, e_sq, e_gn (by omega), c0, l_11]
                by_cases z9 : c ≤ 11
                · rw [nn_leT (by omega), e_sq] at this
                  rw [nn_leT (by omega), e_gn (by omega), e_sq, e_gn (by omega), e_lt, l_1, n_sub (by omega), n_and, e_lt]
                  exact this
                · omega
              rw [if_pos z1, nn_eqF (by omega), e_gn (by omega), e_znn (by omega), b1]
              rcases bit_or b _ b2 with ⟨rfl, hc⟩ | ⟨rfl, hc⟩
              · have := hfin (1 + G (s ^^^ p)) (by omega) (Or.inr ⟨z1, hc, rfl⟩) (fun _ => Nat.le_refl _)
                rw [if_neg (show ¬ zb true = nI 0 by decide), m_1, n_not, sub_an hp, e_gn (by omega), e_znn (by omega), h94x, l_1, n_add, e_sq, e_gn (by omega), c0]
                by_cases z9 : c ≤ 1 + G (s ^^^ p)
                · rw [nn_leT (by omega), e_sq] at this
                  rw [nn_leT (by omega), e_gn (by omega), e_sq, e_gn (by omega), e_lt, n_sub (by omega), n_and, e_lt]
                  exact this
                · rw [nn_leF (by omega), e_sq] at this
                  rw [nn_leF (by omega), e_sq, e_gn (by omega), e_lt, n_sub (by omega), n_and, e_lt]
                  exact this
              · have := hfin 11 (by omega) (Or.inl rfl) (fun w => absurd w.2 hc)
                rw [if_pos (show zb false = nI 0 from rfl), e_sq, e_gn (by omega), c0, l_11]
                by_cases z9 : c ≤ 11
                · rw [nn_leT (by omega), e_sq] at this
                  rw [nn_leT (by omega), e_gn (by omega), e_sq, e_gn (by omega), e_lt, l_1, n_sub (by omega), n_and, e_lt]
                  exact this
                · omega
          · rw [e_w1s, e_uF (by omega)]
            exact o2 X hX
          · have := sub_le (q + 1) (by omega) hq
            omega
          · show zn (nI s) < zFu
            rw [e_znn (by omega)]
            unfold zFu
            omega
        · rintro M3 ⟨f3, o3, o4⟩
          rw [l_1, n_add]
          refine hrec _ ⟨M3, rfl, by omega, f3, fun X hX => ?_⟩
          by_cases q : X = s
          · rw [q]; exact o4
          · exact o3 X (by omega)
      · rintro rec x ⟨M2, rfl, s0, f2, o2⟩
        (try dsimp only)
        rw [nn_leT (by omega)]
        exact ok_some o2
    · rintro M2 o2
      have k0 : M2.1 94 0 = nI 0 := by rw [o2 0 (by omega), G0]
      by_cases n0 : n = 0
      · rw [if_pos (by rw [n0]; rfl)]
        refine ok_some ⟨?_, k0⟩
        rw [n0]
        show nI 0 = nI (G 0)
        rw [G0]
      · rw [l_0, nn_eqF (by omega), l_1, n_sub (by omega), e_gn (by omega), e_znn (by omega), o2 _ (by omega)]
        exact ok_some ⟨rfl, k0⟩
theorem q_cars {M : zM} (h : RR M) (h94 : M.1 94 0 = nI 0) (p q : Int32) : ∃ v M1 M2, fX10_cars p q M = some (v, M1) ∧ fX11_cars p q M1 = some (v, M2) ∧ RR M2 ∧ M2.1 94 0 = nI 0 := by
  obtain ⟨ρ, S, h1, h2, hV⟩ := h.1
  have h1 : cR M 1 ρ S := h1
  rcases en p with ⟨e, he, rfl, e1, e2, e3⟩ | ⟨e1, e2⟩
  rotate_left
  · refine ⟨jI (-1), M, M, ?_, ?_, h, h94⟩
    · unfold fX10_cars
      rw [e1]; rfl
    · unfold fX11_cars
      rw [e2]; rfl
  rcases ar q 1 1 (by omega) rfl with ⟨x, hx, rfl, e4, e5⟩ | ⟨e4, e5, _⟩
  rotate_left
  · refine ⟨jI (-1), M, M, ?_, ?_, h, h94⟩
    · unfold fX10_cars
      rw [e1, l_0, l_1, e4]; rfl
    · unfold fX11_cars
      rw [e2, L_0, L_1, e5]; rfl
  have hS : S (64 + e) ≤ 10 := by
    rcases (show e = 0 ∨ e = 1 by omega) with rfl | rfl
    · exact hV.1.1
    · exact hV.1.2
  by_cases x0 : x = 0
  · have hlo : fX11_linesOf (nI e) (0 : Int32) M = some (nI (S (64 + e))) := by
      have := rR_s h2 (k := 64 + e) (by omega)
      unfold fX11_linesOf
      simp (disch := omega) only [e_lt, e_ltn, e_jn, e_sq, e_bi, l_0, l_1, l_2, l_3, l_4, l_5, l_6, l_7, l_8, l_9, l_10, l_11, l_12, l_13, l_14, l_15, l_16, l_17, l_18, l_19, l_20, l_21, l_22, l_23, l_24, l_25, l_26, l_27, l_28, l_29, l_30, l_31, l_32, l_33, l_34, l_35, l_36, l_37, l_38, l_39, l_40, l_41, l_48, l_50, l_56, l_57, l_59, l_60, l_63, l_64, l_70, l_97, l_99, l_122, l_128, l_190, l_220, l_255, l_320, l_500, l_999, l_1024, l_83520, l_100000, l_1000000, L_0, L_1, L_2, L_3, L_4, L_6, L_7, L_9, L_10, L_11, L_13, L_16, L_32, L_48, L_50, L_57, L_97, L_99, L_122, L_999, L_83520, L_4294967295, L_25937424601, L_1152921504606846976, ↓m_1000020, ↓m_1000012, ↓m_1000010, ↓m_1000000, ↓m_10004, ↓m_10000, ↓m_1000, ↓m_999, ↓m_99, ↓m_30, ↓m_20, ↓m_14, ↓m_12, ↓m_11, ↓m_10, ↓m_8, ↓m_4, ↓m_3, ↓m_2, ↓m_1, ↓mL_999, ↓mL_99, ↓mL_1, n_add, n_mul, nj_add, jn_add, n_sub, n_subj, nj_sub, jn_sub, nj_mul, jn_mul, if_true, if_false, jI_add, jI_sub, jI_mul, jI_neg, jL_add, jL_sub, jL_mul, jL_neg, n_l, j_l, jL_i, e_gn, e_gj, e_znn, e_znj, nn_ltT, nn_ltF, nn_leT, nn_leF, nn_eqT, nn_eqF, nj_ltT, nj_ltF, nj_leT, nj_leF, nj_eqT, nj_eqF, jn_ltT, jn_ltF, jn_leT, jn_leF, jn_eqT, jn_eqF, jj_ltT, jj_ltF, jj_leT, jj_leF, jj_eqT, jj_eqF, LL_ltT, LL_ltF, LL_leT, LL_leF, LL_eqT, LL_eqF, e_w1, e_w1s, e_w2, e_x1, e_x2, e_x2s, e_a1, e_a1s, e_a2, e_uT, e_uF, e_vT, e_vF, e_ft, e_tf, e_zbt, e_zbf, n_or, n_31, n_shl, n_bit, n_not, n_bc, this, Nat.add_zero]
    refine ⟨nI (S (64 + e)), M, M, ?_, ?_, h, h94⟩
    · unfold fX10_cars
      rw [e1, l_0, l_1, e4, e_lt, if_neg (by decide), e_lt, if_neg (by decide), e3, e_lt, nn_eqT (by omega), (cR_L h1 he).1]
    · unfold fX11_cars
      rw [e2, L_0, L_1, e5, e_lt, if_neg (by decide), e_lt, if_neg (by decide), hlo, e_sq, if_pos (by rw [x0]; rfl)]
  have x1 : x = 1 := by omega
  subst x1
  obtain ⟨T, hT⟩ : ∃ T : Nat → Nat → Bool, ∀ a b, T a b = true ↔ one S e a b := ⟨fun a b => @decide (one S e a b) (Classical.propDecidable _), fun a b => @decide_eq_true_iff _ (Classical.propDecidable _)⟩
  obtain ⟨⟨v, M1⟩, c1, G, c2, c3⟩ := c_fcar h1 hV he hT
  dsimp only at c2
  have hrun : fX10_cars (nI e) (nI 1) M = some (v, M1) := by
    unfold fX10_cars
    rw [e1, l_0, l_1, e4, e_lt, if_neg (by decide), e_lt, if_neg (by decide), e3, e_lt, nn_eqF (by omega), c1, e_bi]
  have f1 := frX10_cars _ _ M _ hrun
  dsimp only at f1
  have k1 := rR_fr h2 f1 (by decide) (by decide)
  obtain ⟨⟨v2, M2⟩, d1, d2, d3⟩ := r_cars k1 hV he hT (fun X hX => ⟨(c3 X hX).1, by have := (c3 X hX).2; omega⟩) (by rw [(f1 94 (by decide)).1]; exact h94)
  dsimp only at d2 d3
  refine ⟨v, M1, M2, hrun, ?_, ?_, d3⟩
  · rw [d1, d2, c2]
  · exact RR_fr (RR_fr h f1 (by decide)) (frX11_cars _ _ M1 _ d1) (by decide)
