/-! ===== the state of both, and how it is kept ===== -/
def bse (k : Nat) : Nat := if k = 0 then 1 else if k = 1 then 15 else 28
def sc (M : zM) (k : Nat) (ρ : Nat → Int) (S : Nat → Nat) : Prop := cR M (bse k) ρ S ∧ rR M k ρ S ∧ V ρ S
def imR (M : zM) (k : Nat) : Prop := ∃ b : Bool, M.1 (bse (k + 1)) 4 = zb b ∧ M.1 96 k = zb b ∧ (b = true → ∃ ρ S, sc M (k + 1) ρ S)
def shR (M : zM) (k : Nat) : Prop := ∃ b : Bool, M.1 (42 + 2 * k) 0 = zb b ∧ (b = false → M.1 97 k = jI (-4)) ∧ (b = true → ∃ la sz, la < 3 ∧ sz ≤ 64 ∧ M.1 (42 + 2 * k) 1 = nI la ∧ M.1 97 k = nI la ∧ M.1 (42 + 2 * k) 2 = nI sz ∧ M.1 98 k = nI sz ∧ ∀ i, i < sz → M.1 (42 + 2 * k + 1) i = M.1 99 (64 * k + i))
def tpR (M : zM) : Prop := ∃ len, len ≤ 320 ∧ M.1 50 1 = nI len ∧ M.1 76 1 = nI len ∧ ∀ i, i < len → ∃ b : Int, (-128 ≤ b ∧ b ≤ 127) ∧ M.1 51 i = jI b ∧ M.1 77 i = jI (b % 256)
def kCut : List Nat := [0, 7, 12, 17, 23, 29, 32, 38, 42, 47]
def kLet : List Nat := [109, 105, 110, 117, 116, 101, 115, 109, 105, 120, 101, 100, 100, 111, 117, 98, 116, 117, 110, 114, 101, 97, 100, 99, 111, 108, 111, 117, 114, 111, 102, 102, 106, 111, 105, 110, 101, 100, 108, 97, 116, 101, 101, 97, 114, 108, 121]
def kR (M : zM) : Prop := (∀ k, k < 10 → M.1 78 k = nI (kCut.getD k 0)) ∧ (∀ k, k < 47 → M.1 79 k = nI (kLet.getD k 0)) ∧ ∀ k, k < 10 → M.1 80 k = zAF k
def RR (M : zM) : Prop := (∃ ρ S, sc M 0 ρ S) ∧ imR M 0 ∧ imR M 1 ∧ (∀ k, k < 4 → shR M k) ∧ tpR M ∧ M.1 50 2 = M.1 76 2 ∧ M.1 0 11 = M.1 76 32 ∧ kR M
theorem cR_cg {M M' : zM} {a : Nat} {ρ : Nat → Int} {S : Nat → Nat} (h : cR M a ρ S) (e : ∀ c, a < c → c ≤ a + 12 → M'.1 c = M.1 c) : cR M' a ρ S := by
  obtain ⟨⟨h1, h2⟩, ⟨h3, h4⟩, ⟨h5, h6⟩, h7⟩ := h
  refine ⟨⟨by rw [e _ (by omega) (by omega)]; exact h1, fun i hi => ?_⟩, ⟨by rw [e _ (by omega) (by omega)]; exact h3, fun i hi => ?_⟩, ⟨fun k hk => by rw [e _ (by omega) (by omega)]; exact h5 k hk, fun k hk => by rw [e _ (by omega) (by omega)]; exact h6 k hk⟩, fun i hi => by rw [e _ (by omega) (by omega)]; exact h7 i hi⟩
  · rw [e _ (by omega) (by omega), e _ (by omega) (by omega), e _ (by omega) (by omega)]; exact h2 i hi
  · rw [e _ (by omega) (by omega), e _ (by omega) (by omega), e _ (by omega) (by omega)]; exact h4 i hi
theorem imR_cg {M M' : zM} {k : Nat} (hk : k < 2) (h : imR M k) (e1 : ∀ c, bse (k + 1) ≤ c → c ≤ bse (k + 1) + 12 → M'.1 c = M.1 c) (e2 : M'.1 96 k = M.1 96 k) (e3 : ∀ x, 220 ≤ x → M'.1 84 x = M.1 84 x) (e4 : ∀ x, 10 ≤ x → M'.1 81 x = M.1 81 x) : imR M' k := by
  obtain ⟨b, h1, h2, h3⟩ := h
  refine ⟨b, by rw [e1 _ (Nat.le_refl _) (by omega)]; exact h1, by rw [e2]; exact h2, fun q => ?_⟩
  obtain ⟨ρ, S, s1, s2, s3⟩ := h3 q
  exact ⟨ρ, S, cR_cg s1 (fun c q1 q2 => e1 c (by omega) q2), ⟨fun x hx => by rw [e3 _ (by omega)]; exact s2.1 x hx, fun x hx => by rw [e4 _ (by omega)]; exact s2.2 x hx⟩, s3⟩
theorem shR_cg {M M' : zM} {k : Nat} (h : shR M k) (e1 : M'.1 (42 + 2 * k) = M.1 (42 + 2 * k)) (e2 : M'.1 (42 + 2 * k + 1) = M.1 (42 + 2 * k + 1)) (e3 : M'.1 97 k = M.1 97 k) (e4 : M'.1 98 k = M.1 98 k) (e5 : ∀ i, i < 64 → M'.1 99 (64 * k + i) = M.1 99 (64 * k + i)) : shR M' k := by
  obtain ⟨b, h1, h2, h3⟩ := h
  refine ⟨b, by rw [e1]; exact h1, fun q => by rw [e3]; exact h2 q, fun q => ?_⟩
  obtain ⟨la, sz, a1, a2, a3, a4, a5, a6, a7⟩ := h3 q
  exact ⟨la, sz, a1, a2, by rw [e1]; exact a3, by rw [e3]; exact a4, by rw [e1]; exact a5, by rw [e4]; exact a6, fun i hi => by rw [e2, e5 i (by omega)]; exact a7 i hi⟩
/-- the present changes, all else stays -/
theorem RR_sc {M M' : zM} (h : RR M) (e : ∀ c, (c = 0 ∨ (14 ≤ c ∧ c ≤ 51) ∨ (76 ≤ c ∧ c ≤ 80) ∨ (96 ≤ c ∧ c ≤ 99)) → M'.1 c = M.1 c) (e3 : ∀ x, 220 ≤ x → M'.1 84 x = M.1 84 x) (e4 : ∀ x, 10 ≤ x → M'.1 81 x = M.1 81 x) (hs : ∃ ρ S, sc M' 0 ρ S) : RR M' := by
  obtain ⟨_, h2, h3, h4, h5, h6, h7, h8⟩ := h
  refine ⟨hs, imR_cg (by omega) h2 (fun c q1 q2 => e c (by unfold bse at *; simp at q1 q2; omega)) (by rw [e 96 (by omega)]) e3 e4, imR_cg (by omega) h3 (fun c q1 q2 => e c (by unfold bse at *; simp at q1 q2; omega)) (by rw [e 96 (by omega)]) e3 e4, fun k hk => shR_cg (h4 k hk) (e _ (by omega)) (e _ (by omega)) (by rw [e 97 (by omega)]) (by rw [e 98 (by omega)]) (fun i _ => by rw [e 99 (by omega)]), ?_, by rw [e 50 (by omega), e 76 (by omega)]; exact h6, by rw [e 0 (by omega), e 76 (by omega)]; exact h7, ?_⟩
  · obtain ⟨len, a1, a2, a3, a4⟩ := h5
    refine ⟨len, a1, by rw [e 50 (by omega)]; exact a2, by rw [e 76 (by omega)]; exact a3, fun i hi => ?_⟩
    rw [e 51 (by omega), e 77 (by omega)]
    exact a4 i hi
  · obtain ⟨a1, a2, a3⟩ := h8
    exact ⟨fun k hk => by rw [e 78 (by omega)]; exact a1 k hk, fun k hk => by rw [e 79 (by omega)]; exact a2 k hk, fun k hk => by rw [e 80 (by omega)]; exact a3 k hk⟩
/-- only rows of work change -/
theorem RR_fr {M M' : zM} {F : List Nat} (h : RR M) (hf : zfr F M M') (hF : ∀ c ∈ F, (52 ≤ c ∧ c ≤ 75) ∨ c = 82 ∨ c = 83 ∨ (85 ≤ c ∧ c ≤ 95)) : RR M' := by
  have e : ∀ c, ¬ ((52 ≤ c ∧ c ≤ 75) ∨ c = 82 ∨ c = 83 ∨ (85 ≤ c ∧ c ≤ 95)) → M'.1 c = M.1 c := fun c q => (hf c (fun w => q (hF c w))).1
  obtain ⟨ρ, S, s1, s2, s3⟩ := h.1
  refine RR_sc h (fun c q => e c (by omega)) (fun x _ => by rw [e 84 (by omega)]) (fun x _ => by rw [e 81 (by omega)]) ⟨ρ, S, cR_cg s1 (fun c q1 q2 => e c (by unfold bse at *; simp at q1 q2; omega)), ⟨fun x hx => by rw [e 84 (by omega)]; exact s2.1 x hx, fun x hx => by rw [e 81 (by omega)]; exact s2.2 x hx⟩, s3⟩
/-! numbers that are told -/
theorem ar (p : Int32) (N : Nat) (z : Int) (hN : N < 2147483648) (hz : z = N) : (∃ k, k ≤ N ∧ p = nI k ∧ fX10_within p (nI 0) (nI N) = true ∧ fX11_in p.toInt64 (jL 0) (jL z) = true) ∨ (fX10_within p (nI 0) (nI N) = false ∧ fX11_in p.toInt64 (jL 0) (jL z) = false ∧ ∀ k, k ≤ N → p ≠ nI k) := by
  obtain ⟨a, ha, rfl⟩ := jI_of p
  have h1 := fw_eq a 0 N ha (by omega) (by omega)
  have h2 := fi_eq a 0 z (by omega) (by omega) (by omega)
  have e0 : nI 0 = jI 0 := rfl
  rw [nI_j N, e0, jI_l ha, h1, h2]
  by_cases q : 0 ≤ a ∧ a ≤ N
  · refine Or.inl ⟨a.toNat, by omega, ?_, decide_eq_true q, decide_eq_true (by omega)⟩
    rw [nI_j]
    congr 1
    omega
  · refine Or.inr ⟨decide_eq_false q, decide_eq_false (by omega), fun k hk w => q ?_⟩
    rw [nI_j, jI_eq ha (by omega)] at w
    omega
theorem en (p : Int32) : (∃ e, e < 2 ∧ p = nI e ∧ fX10_isEnd p = true ∧ fX11_isEnd p = true ∧ fX10_linesAt p = 2 + 4 * e) ∨ (fX10_isEnd p = false ∧ fX11_isEnd p = false) := by
  have hr : ∀ b, fX11_in p.toInt64 (jL 0) (jL 1) = b → fX11_isEnd p = b := fun b h => h
  rcases ar p 1 1 (by omega) rfl with ⟨k, hk, rfl, _, e2⟩ | ⟨_, e2, e3⟩
  · refine Or.inl ⟨k, by omega, rfl, ?_, hr _ e2, ?_⟩
    · rcases (show k = 0 ∨ k = 1 by omega) with rfl | rfl <;> decide
    · rcases (show k = 0 ∨ k = 1 by omega) with rfl | rfl <;> decide
  · refine Or.inr ⟨?_, hr _ e2⟩
    unfold fX10_isEnd
    rw [if_neg (show ¬ p = (0 : Int32) from e3 0 (by omega)), if_neg (show ¬ p = (1 : Int32) from e3 1 (by omega))]
theorem cR_L {M : zM} {ρ : Nat → Int} {S : Nat → Nat} (h : cR M 1 ρ S) {e : Nat} (he : e < 2) : cL M (2 + 4 * e) e S := by
  rcases (show e = 0 ∨ e = 1 by omega) with rfl | rfl
  · exact h.1
  · exact h.2.1
/-- whether there is such a line -/
theorem hs (n : Nat) (hn : n ≤ 10) (q : Int32) : (∃ i, i < n ∧ q = nI i ∧ fX10_within q (nI 0) (nI n - nI 1) = true ∧ fX11_in q.toInt64 (jL 0) (nI n + jI (-1)).toInt64 = true) ∨ (fX10_within q (nI 0) (nI n - nI 1) = false ∧ fX11_in q.toInt64 (jL 0) (nI n + jI (-1)).toInt64 = false) := by
  by_cases z : n = 0
  · subst z
    obtain ⟨a, ha, rfl⟩ := jI_of q
    right
    have h1 := fw_eq a 0 (-1) ha (by omega) (by omega)
    have h2 := fi_eq a 0 (-1) (by omega) (by omega) (by omega)
    have e1 : nI 0 - nI 1 = jI (-1) := by decide
    have e2 : (nI 0 + jI (-1)).toInt64 = jL (-1) := by decide
    have e0 : nI 0 = jI 0 := rfl
    rw [e1, e2, jI_l ha, e0, h1, h2]
    exact ⟨decide_eq_false (by omega), decide_eq_false (by omega)⟩
  · have e1 : nI n - nI 1 = nI (n - 1) := n_sub (by omega)
    have e2 : (nI n + jI (-1)).toInt64 = jL ((n - 1 : Nat) : Int) := by
      rw [nj_add, jI_l (by omega)]
      congr 1
      omega
    rw [e1, e2]
    rcases ar q (n - 1) ((n - 1 : Nat) : Int) (by omega) rfl with ⟨k, hk, rfl, a1, a2⟩ | ⟨a1, a2, _⟩
    · exact Or.inl ⟨k, by omega, rfl, a1, a2⟩
    · exact Or.inr ⟨a1, a2⟩
theorem hl {M : zM} {ρ : Nat → Int} {S : Nat → Nat} (h : cR M 1 ρ S) (hV : V ρ S) (p q : Int32) : (∃ e i, e < 2 ∧ i < S (64 + e) ∧ p = nI e ∧ q = nI i ∧ fX10_hasLine p q M = true ∧ fX10_linesAt p = 2 + 4 * e ∧ fX10_isEnd p = true ∧ ∀ M', rR M' 0 ρ S → fX11_isLine p q M' = some true) ∨ (fX10_hasLine p q M = false ∧ ∀ M', rR M' 0 ρ S → fX11_isLine p q M' = some false) := by
  rcases en p with ⟨e, he, rfl, e1, e2, e3⟩ | ⟨e1, e2⟩
  · have hS : S (64 + e) ≤ 10 := by
      rcases (show e = 0 ∨ e = 1 by omega) with rfl | rfl
      · exact hV.1.1
      · exact hV.1.2
    have b0 := (cR_L h he).1
    have hlo : ∀ M', rR M' 0 ρ S → fX11_linesOf (nI e) (-1 : Int32) M' = some (nI (S (64 + e)) + jI (-1)) := fun M' h' => by
      have := rR_s h' (k := 64 + e) (by omega)
      unfold fX11_linesOf
      rw [l_64, n_add, e_gn (by omega), e_znn (by omega), this, m_1]
    rcases hs (S (64 + e)) hS q with ⟨i, hi, rfl, a1, a2⟩ | ⟨a1, a2⟩
    · refine Or.inl ⟨e, i, he, hi, rfl, rfl, ?_, e3, e1, fun M' h' => ?_⟩
      · unfold fX10_hasLine fX2_has
        rw [e1, e3, if_neg (by decide), e_ltn, b0, l_0, l_1, a1, if_neg (by decide)]
      · unfold fX11_isLine
        rw [e2, e_lt, if_neg (by decide), hlo M' h', e_sq, e_lt, L_0, a2, if_neg (by decide)]
    · refine Or.inr ⟨?_, fun M' h' => ?_⟩
      · unfold fX10_hasLine fX2_has
        rw [e1, e3, if_neg (by decide), e_ltn, b0, l_0, l_1, a1, if_pos rfl]
      · unfold fX11_isLine
        rw [e2, e_lt, if_neg (by decide), hlo M' h', e_sq, e_lt, L_0, a2, if_pos rfl]
  · refine Or.inr ⟨?_, fun M' h' => ?_⟩
    · unfold fX10_hasLine
      rw [e1, if_pos rfl]
    · unfold fX11_isLine
      rw [e2, e_lt, if_pos rfl]
theorem hp {M : zM} {ρ : Nat → Int} {S : Nat → Nat} (h : cR M 1 ρ S) (hV : V ρ S) (p q : Int32) : (∃ i j, i < S 64 ∧ j < S 65 ∧ p = nI i ∧ q = nI j ∧ fX10_hasPair p q M = true ∧ ∀ M', rR M' 0 ρ S → fX11_arePair p q M' = some true) ∨ (fX10_hasPair p q M = false ∧ ∀ M', rR M' 0 ρ S → fX11_arePair p q M' = some false) := by
  have h0 := hl h hV (0 : Int32) p
  have h1 := hl h hV (1 : Int32) q
  have k0 : fX10_hasLine (0 : Int32) p M = fX2_has 2 p M := by
    unfold fX10_hasLine
    rw [if_neg (by decide)]
    show (if fX2_has 2 p M = false then false else true) = _
    cases fX2_has 2 p M <;> rfl
  have k1 : fX10_hasLine (1 : Int32) q M = fX2_has 6 q M := by
    unfold fX10_hasLine
    rw [if_neg (by decide)]
    show (if fX2_has 6 q M = false then false else true) = _
    cases fX2_has 6 q M <;> rfl
  rw [k0] at h0
  rw [k1] at h1
  unfold fX10_hasPair fX11_arePair
  rcases h0 with ⟨e, i, he, hi, e0, rfl, a1, _, _, a2⟩ | ⟨a1, a2⟩
  · have : e = 0 := by
      rw [l_0, nI_j, nI_j, jI_eq (by omega) (by omega)] at e0
      omega
    subst this
    rcases h1 with ⟨e, j, he, hj, e0, rfl, b1, _, _, b2⟩ | ⟨b1, b2⟩
    · have : e = 1 := by
        rw [l_1, nI_j, nI_j, jI_eq (by omega) (by omega)] at e0
        omega
      subst this
      refine Or.inl ⟨i, j, hi, hj, rfl, rfl, ?_, fun M' h' => ?_⟩
      · rw [a1, b1, if_neg (by decide), if_neg (by decide)]
      · rw [a2 M' h', e_sq, if_neg (by decide), b2 M' h', e_sq, if_neg (by decide)]
    · refine Or.inr ⟨?_, fun M' h' => ?_⟩
      · rw [a1, b1, if_neg (by decide), if_pos rfl]
      · rw [a2 M' h', e_sq, if_neg (by decide), b2 M' h', e_sq, if_pos rfl]
  · refine Or.inr ⟨?_, fun M' h' => ?_⟩
    · rw [a1, if_pos rfl]
    · rw [a2 M' h', e_sq, if_pos rfl]
def AG1 {σ : Type} (f1 f2 : zM → Option σ) (M : zM) : Prop := ∃ v, f1 M = some v ∧ f2 M = some v
def AG2 {σ : Type} (f1 f2 : zM → Option (σ × zM)) (M : zM) : Prop := ∃ v M1 M2, f1 M = some (v, M1) ∧ f2 M1 = some (v, M2) ∧ RR M2
def AG3 {σ : Type} (f1 : zM → Option (σ × zM)) (f2 : zM → Option σ) (M : zM) : Prop := ∃ v M1, f1 M = some (v, M1) ∧ f2 M1 = some v ∧ RR M1
