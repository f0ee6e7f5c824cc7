/-! ===== sets any two of which go together ===== -/
def mb (T : Nat → Nat → Bool) (a : Nat) : Nat → Nat
  | 0 => 0
  | b + 1 => if T a b = true then mb T a b ||| 2 ^ b else mb T a b
theorem mb_s (T : Nat → Nat → Bool) (a b : Nat) : mb T a (b + 1) = if T a b = true then mb T a b ||| 2 ^ b else mb T a b := rfl
theorem mb_tb (T : Nat → Nat → Bool) (a b j : Nat) : (mb T a b).testBit j = (decide (j < b) && T a j) := by
  induction b with
  | zero => simp [mb]
  | succ b ih =>
    rw [mb_s]
    by_cases z : T a b = true
    · rw [if_pos z, Nat.testBit_or, ih, Nat.testBit_two_pow]
      by_cases e : b = j
      · subst e
        simp [z]
      · have : (decide (j < b + 1)) = decide (j < b) := by
          by_cases q : j < b
          · rw [decide_eq_true q, decide_eq_true (by omega)]
          · rw [decide_eq_false q, decide_eq_false (by omega)]
        rw [this]
        simp [e]
    · rw [if_neg z, ih]
      by_cases e : j = b
      · subst e
        simp at z
        simp [z]
      · have : (decide (j < b + 1)) = decide (j < b) := by
          by_cases q : j < b
          · rw [decide_eq_true q, decide_eq_true (by omega)]
          · rw [decide_eq_false q, decide_eq_false (by omega)]
        rw [this]
theorem mb_lt (T : Nat → Nat → Bool) (a b : Nat) : mb T a b < 2 ^ b := by
  induction b with
  | zero => exact Nat.one_pos
  | succ b ih =>
    have e : 2 ^ (b + 1) = 2 ^ b * 2 := Nat.pow_succ 2 b
    rw [mb_s]
    split
    · exact Nat.or_lt_two_pow (by omega) (by have := Nat.two_pow_pos b; omega)
    · omega
theorem p2_10 {n : Nat} (h : n ≤ 10) : 2 ^ n ≤ 1024 ∧ 0 < 2 ^ n := ⟨Nat.pow_le_pow_right (n := 2) (by omega) h, Nat.two_pow_pos n⟩
theorem c_beg (n : Nat) (M : zM) : fX1_begin (nI n) M = some (zwA (zwI M 70 0 (nI n)) 71 (zfl (M.1 71) 10 (0 : Int32))) := by
  unfold fX1_begin
  rw [e_lt, pfill _ _ _ _ (by omega), e_sq, e_w1 _ _ _ (by omega)]
theorem c_join {M : zM} {a b v : Nat} (ha : a < 10) (hb : b < 10) (h : M.1 71 a = nI v) : fX1_join (nI a) (nI b) M = some (zwI M 71 a (nI (v ||| 2 ^ b))) := by
  unfold fX1_join
  simp (disch := omega) only [e_lt, e_ltn, e_jn, e_sq, e_bi, l_0, l_1, l_2, l_3, l_4, l_5, l_6, l_7, l_8, l_9, l_10, l_11, l_12, l_13, l_14, l_15, l_16, l_17, l_18, l_19, l_20, l_21, l_22, l_23, l_24, l_25, l_26, l_27, l_28, l_29, l_30, l_31, l_32, l_33, l_34, l_35, l_36, l_37, l_38, l_39, l_40, l_41, l_48, l_50, l_56, l_57, l_59, l_60, l_63, l_64, l_70, l_97, l_99, l_122, l_128, l_190, l_220, l_255, l_320, l_500, l_999, l_1024, l_83520, l_100000, l_1000000, L_0, L_1, L_2, L_3, L_4, L_6, L_7, L_9, L_10, L_11, L_13, L_16, L_32, L_48, L_50, L_57, L_97, L_99, L_122, L_999, L_83520, L_4294967295, L_25937424601, L_1152921504606846976, ↓m_1000020, ↓m_1000012, ↓m_1000010, ↓m_1000000, ↓m_10004, ↓m_10000, ↓m_1000, ↓m_999, ↓m_99, ↓m_30, ↓m_20, ↓m_14, ↓m_12, ↓m_11, ↓m_10, ↓m_8, ↓m_4, ↓m_3, ↓m_2, ↓m_1, ↓mL_999, ↓mL_99, ↓mL_1, n_add, n_mul, nj_add, jn_add, n_sub, n_subj, nj_sub, jn_sub, nj_mul, jn_mul, if_true, if_false, jI_add, jI_sub, jI_mul, jI_neg, jL_add, jL_sub, jL_mul, jL_neg, n_l, j_l, jL_i, e_gn, e_gj, e_znn, e_znj, nn_ltT, nn_ltF, nn_leT, nn_leF, nn_eqT, nn_eqF, nj_ltT, nj_ltF, nj_leT, nj_leF, nj_eqT, nj_eqF, jn_ltT, jn_ltF, jn_leT, jn_leF, jn_eqT, jn_eqF, jj_ltT, jj_ltF, jj_leT, jj_leF, jj_eqT, jj_eqF, LL_ltT, LL_ltF, LL_leT, LL_leF, LL_eqT, LL_eqF, e_w1, e_w1s, e_w2, e_x1, e_x2, e_x2s, e_a1, e_a1s, e_a2, e_uT, e_uF, e_vT, e_vF, e_ft, e_tf, e_zbt, e_zbf, n_or, n_31, n_shl, n_bit, n_not, n_bc, h]
def clq (T : Nat → Nat → Bool) (S : Nat) : Prop := ∀ a b, b < a → S.testBit a = true → S.testBit b = true → T a b = true
theorem clq_0 (T : Nat → Nat → Bool) : clq T 0 := fun a b _ h => by simp at h
theorem or_tb {t r : Nat} (j : Nat) : (2 ^ t ||| r).testBit j = (decide (t = j) || r.testBit j) := by rw [Nat.testBit_or, Nat.testBit_two_pow]
theorem clq_top {T : Nat → Nat → Bool} {t r : Nat} (hr : r < 2 ^ t) : clq T (2 ^ t ||| r) ↔ clq T r ∧ ∀ b, r.testBit b = true → T t b = true := by
  have hlt : ∀ b, r.testBit b = true → b < t := fun b hb => by
    by_cases q : b < t
    · exact q
    · rw [tb_lt hr b (by omega)] at hb
      cases hb
  constructor
  · intro h
    refine ⟨fun a b hab ha hb => h a b hab (by rw [or_tb, ha, Bool.or_true]) (by rw [or_tb, hb, Bool.or_true]), fun b hb => h t b (hlt b hb) (by rw [or_tb, decide_eq_true rfl, Bool.true_or]) (by rw [or_tb, hb, Bool.or_true])⟩
  · rintro ⟨h1, h2⟩ a b hab ha hb
    rw [or_tb] at ha hb
    by_cases ea : t = a
    · subst ea
      rw [decide_eq_false (show ¬ t = b by omega), Bool.false_or] at hb
      exact h2 b hb
    · rw [decide_eq_false ea, Bool.false_or] at ha
      have := hlt a ha
      rw [decide_eq_false (show ¬ t = b by omega), Bool.false_or] at hb
      exact h1 a b hab ha hb
theorem and_eq {x r : Nat} : x &&& r = r ↔ ∀ b, r.testBit b = true → x.testBit b = true := by
  constructor
  · intro h b hb
    have : (x &&& r).testBit b = true := by rw [h]; exact hb
    rw [Nat.testBit_and, Bool.and_eq_true] at this
    exact this.1
  · intro h
    apply Nat.eq_of_testBit_eq
    intro i
    rw [Nat.testBit_and]
    cases e : r.testBit i
    · rw [Bool.and_false]
    · rw [h i e]; rfl
theorem or_ad {t r : Nat} (h : r < 2 ^ t) : 2 ^ t ||| r = 2 ^ t + r := by
  have := Nat.two_pow_add_eq_or_of_lt h 1
  rw [Nat.mul_one] at this
  exact this.symm
def gR (M : zM) (n : Nat) (T : Nat → Nat → Bool) : Prop := M.1 70 0 = nI n ∧ ∀ i, i < n → M.1 71 i = nI (mb T i i)
theorem bit_or (b : Bool) (P : Prop) (h : b = true ↔ P) : (b = true ∧ P) ∨ (b = false ∧ ¬ P) := by
  cases b
  · exact Or.inr ⟨rfl, fun w => absurd (h.2 w) (by decide)⟩
  · exact Or.inl ⟨rfl, h.1 rfl⟩
theorem c_mark {M : zM} {n : Nat} {T : Nat → Nat → Bool} (hn : n ≤ 10) (g : gR M n T) : ok (fX1_markTogether M) (fun M' => zfr [72] M M' ∧ ∀ S, S < 2 ^ n → ∃ b, M'.1 72 S = zb b ∧ (b = true ↔ clq T S)) := by
  unfold fX1_markTogether
  rw [l_0, e_gn (by omega), e_lt, e_znn (by omega)]
  refine ok_up n (fun t x => ∃ M', x = (nI t, M') ∧ zfr [72] M M' ∧ ∀ S, S < 2 ^ t → ∃ b, M'.1 72 S = zb b ∧ (b = true ↔ clq T S)) ?_ ?_ zFu 0 _ (by omega) (by unfold zFu; omega) ⟨_, rfl, zfr_I (zfr_rf _ _) (by simp), fun S hS => ⟨true, ?_, ?_⟩⟩
  · rintro rec t x ht ⟨M', rfl, o1, o2⟩ hrec
    have k70 : M'.1 70 0 = nI n := by rw [(o1 70 (by decide)).1]; exact g.1
    have k71 : M'.1 71 t = nI (mb T t t) := by rw [(o1 71 (by decide)).1]; exact g.2 t ht
    have h2t := p2_10 (show t ≤ 10 by omega)
    have h2s := p2_10 (show t + 1 ≤ 10 by omega)
    have e2s : 2 ^ (t + 1) = 2 ^ t * 2 := Nat.pow_succ 2 t
    have hmb := mb_lt T t t
    (try dsimp only)
    rw [k70, nn_leF (by omega)]
    refine ok_sq (P := fun M2 => zfr [72] M M2 ∧ ∀ S, S < 2 ^ (t + 1) → ∃ b, M2.1 72 S = zb b ∧ (b = true ↔ clq T S)) ?_ ?_
    · refine ok_up (2 ^ t) (fun r x => ∃ M2, x = (nI r, M2) ∧ zfr [72] M M2 ∧ ∀ S, S < 2 ^ t + r → ∃ b, M2.1 72 S = zb b ∧ (b = true ↔ clq T S)) ?_ ?_ zFu 0 _ (by omega) (by unfold zFu; omega) ⟨M', rfl, o1, fun S hS => o2 S (by omega)⟩
      · rintro rec2 r x hr ⟨M2, rfl, f2, q2⟩ hrec2
        have c71 : M2.1 71 t = nI (mb T t t) := by rw [(f2 71 (by decide)).1]; exact g.2 t ht
        obtain ⟨b, b1, b2⟩ := q2 r (by omega)
        have esh : (1 : Int32) <<< (nI t &&& (31 : Int32)) = nI (2 ^ t) := by rw [l_31, n_31 (by omega), l_1, n_shl (by omega)]
        have hcl := clq_top (T := T) hr
        rw [or_ad hr] at hcl
        have han : mb T t t &&& r = r ↔ ∀ b, r.testBit b = true → T t b = true := by
          rw [and_eq]
          refine ⟨fun w b hb => ?_, fun w b hb => ?_⟩
          · have := w b hb
            rw [mb_tb, Bool.and_eq_true] at this
            exact this.2
          · rw [mb_tb, w b hb, Bool.and_true]
            by_cases q : b < t
            · exact decide_eq_true q
            · rw [tb_lt hr b (by omega)] at hb
              cases hb
        have hfin : ∀ b' : Bool, (b' = true ↔ clq T (2 ^ t + r)) → ok (rec2 (nI (r + 1), zwI M2 72 (2 ^ t + r) (zb b'))) (fun M2 => zfr [72] M M2 ∧ ∀ S, S < 2 ^ (t + 1) → ∃ b, M2.1 72 S = zb b ∧ (b = true ↔ clq T S)) := fun b' hb' => by
          refine hrec2 _ ⟨_, rfl, zfr_I f2 (by simp), fun S hS => ?_⟩
          rw [e_w1s]
          by_cases e : S = 2 ^ t + r
          · rw [e_uT e, e]
            exact ⟨b', rfl, hb'⟩
          · rw [e_uF e]
            exact q2 S (by omega)
        have hle : mb T t t &&& r ≤ r := Nat.and_le_right
        (try dsimp only)
        rw [esh, nn_leF (by omega), e_gn (by omega), e_jn, e_znn (by omega), b1, e_gn (by omega), e_znn (by omega), c71, n_and, n_or, or_ad hr]
        rcases bit_or b _ b2 with ⟨rfl, hc⟩ | ⟨rfl, hc⟩
        · rw [if_neg (show ¬ zb true = nI 0 by decide)]
          by_cases z : mb T t t &&& r = r
          · rw [nn_eqT (by omega), e_sq, e_gn (by omega), e_lt, e_znn (by omega), l_1, n_add]
            exact hfin true ⟨fun _ => hcl.2 ⟨hc, han.1 z⟩, fun _ => rfl⟩
          · rw [nn_eqF (by omega), e_sq, e_gn (by omega), e_lt, e_znn (by omega), l_1, n_add]
            exact hfin false ⟨fun w => (by cases w), fun w => absurd (han.2 (hcl.1 w).2) z⟩
        · rw [if_pos (show zb false = nI 0 from rfl), e_sq, e_gn (by omega), e_lt, e_znn (by omega), l_1, n_add]
          exact hfin false ⟨fun w => (by cases w), fun w => absurd (hcl.1 w).1 hc⟩
      · rintro rec2 x ⟨M2, rfl, f2, q2⟩
        have esh : (1 : Int32) <<< (nI t &&& (31 : Int32)) = nI (2 ^ t) := by rw [l_31, n_31 (by omega), l_1, n_shl (by omega)]
        (try dsimp only)
        rw [esh, nn_leT (by omega)]
        exact ok_some ⟨f2, fun S hS => q2 S (by omega)⟩
    · rintro M2 ⟨f2, q2⟩
      rw [l_1, n_add]
      exact hrec _ ⟨M2, rfl, f2, q2⟩
  · rintro rec x ⟨M', rfl, o1, o2⟩
    have k70 : M'.1 70 0 = nI n := by rw [(o1 70 (by decide)).1]; exact g.1
    (try dsimp only)
    rw [k70, nn_leT (by omega)]
    exact ok_some ⟨o1, o2⟩
  · have : S = 0 := by
      have e : 2 ^ 0 = 1 := rfl
      omega
    rw [e_w1s, e_uT this]
  · have : S = 0 := by
      have e : 2 ^ 0 = 1 := rfl
      omega
    rw [this]
    exact ⟨fun _ => clq_0 T, fun _ => rfl⟩
theorem c_large {M : zM} {n : Nat} {T : Nat → Nat → Bool} (hn : n ≤ 10) (g : gR M n T) : ok (fX1_largest M) (fun r => ∃ v, r.1 = nI v ∧ (∃ S, S < 2 ^ n ∧ clq T S ∧ bc S = v) ∧ ∀ S, S < 2 ^ n → clq T S → bc S ≤ v) := by
  have h2n := p2_10 hn
  unfold fX1_largest
  refine ok_sq (c_mark hn g) ?_
  rintro M1 ⟨f1, q1⟩
  have k70 : M1.1 70 0 = nI n := by rw [(f1 70 (by decide)).1]; exact g.1
  have esh : (1 : Int32) <<< (nI n &&& (31 : Int32)) = nI (2 ^ n) := by rw [l_31, n_31 (by omega), l_1, n_shl (by omega)]
  rw [k70, esh]
  refine ok_up (2 ^ n) (fun s x => ∃ v, x = (nI v, nI s) ∧ v ≤ 10 ∧ (∃ S, S < 2 ^ n ∧ clq T S ∧ bc S = v) ∧ ∀ S, S < s → clq T S → bc S ≤ v) ?_ ?_ zFu 0 _ (by omega) (by unfold zFu; omega) ⟨0, rfl, by omega, ⟨0, by omega, clq_0 T, by decide⟩, fun S hS => absurd hS (by omega)⟩
  · rintro rec s x hs ⟨v, rfl, v0, v1, v2⟩ hrec
    obtain ⟨b, b1, b2⟩ := q1 s hs
    have hbc := bc_le s (by omega)
    (try dsimp only)
    rw [nn_leF (by omega), e_gn (by omega), e_znn (by omega), b1]
    rcases bit_or b _ b2 with ⟨rfl, hc⟩ | ⟨rfl, hc⟩
    · rw [if_neg (show ¬ zb true = (0 : Int32) by decide), n_bc (by omega), e_lt, e_lt, e_sq, l_1, n_add]
      unfold zmx
      by_cases z : v < bc s
      · rw [nn_ltT (by omega)]
        refine hrec _ ⟨bc s, rfl, hbc, ⟨s, hs, hc, rfl⟩, fun S hS w => ?_⟩
        by_cases e : S = s
        · rw [e]; exact Nat.le_refl _
        · have := v2 S (by omega) w; omega
      · rw [nn_ltF (by omega)]
        refine hrec _ ⟨v, rfl, v0, v1, fun S hS w => ?_⟩
        by_cases e : S = s
        · rw [e]; omega
        · exact v2 S (by omega) w
    · rw [if_pos (show zb false = (0 : Int32) from rfl), e_sq, l_1, n_add]
      refine hrec _ ⟨v, rfl, v0, v1, fun S hS w => ?_⟩
      by_cases e : S = s
      · rw [e] at w; exact absurd w hc
      · exact v2 S (by omega) w
  · rintro rec x ⟨v, rfl, v0, v1, v2⟩
    (try dsimp only)
    rw [nn_leT (by omega)]
    exact ok_some ⟨v, rfl, v1, v2⟩
