/-! ===== what all seats together tell ===== -/
/-- over columns, or over rows at their columns -/
theorem reix {C n : Nat} {y : Nat → Nat} (h : HY C n y) {σ : Nat → Nat} (hσ : ∀ i, i < n → 1 ≤ σ i ∧ σ i ≤ C ∧ y (σ i) = i + 1) {G : Nat → Int} (hG : ∀ c, c < C → 0 ≤ G c) (h0 : ∀ c, c < C → y (c + 1) = 0 → G c = 0) : sm G C = sm (fun i => G (σ i - 1)) n := by
  have hs : ∀ c, c < C → y (c + 1) ≠ 0 → σ (y (c + 1) - 1) = c + 1 := by
    intro c hc hy
    have h1 := h.1 (c + 1) (by omega) (by omega)
    have h2 := hσ (y (c + 1) - 1) (by omega)
    have h3 : y (σ (y (c + 1) - 1)) = y (c + 1) := by omega
    rcases Nat.lt_trichotomy (σ (y (c + 1) - 1)) (c + 1) with q | q | q
    · have := h.2.1 _ _ h2.1 q (by omega) h3
      omega
    · exact q
    · have := h.2.1 _ _ (by omega) q h2.2.1 h3.symm
      omega
  have h1 := sm_inj (m := C) (p := fun i => σ i - 1) (n := n) (g := G) hG (fun i k a b e => by
    have e1 := hσ i (by omega)
    have e2 := hσ k b
    have : σ i = σ k := by omega
    rw [this] at e1
    omega)
  have h2 : sm (fun i => if σ i - 1 < C then G (σ i - 1) else 0) n = sm (fun i => G (σ i - 1)) n := sm_congr (fun i hi => by
    have := hσ i hi
    rw [if_pos (by omega)])
  have h3 := sm_inj (m := n) (p := fun c => if y (c + 1) = 0 then n else y (c + 1) - 1) (n := C) (g := fun i => G (σ i - 1)) (fun i hi => by
    have := hσ i hi
    exact hG _ (by omega)) (fun c d a b e => by
    have e : (if y (c + 1) = 0 then n else y (c + 1) - 1) = (if y (d + 1) = 0 then n else y (d + 1) - 1) := e
    show n ≤ (if y (c + 1) = 0 then n else y (c + 1) - 1)
    have k1 := h.1 (c + 1) (by omega) (by omega)
    have k2 := h.1 (d + 1) (by omega) (by omega)
    by_cases z : y (c + 1) = 0
    · rw [if_pos z]; omega
    · rw [if_neg z] at e ⊢
      by_cases z2 : y (d + 1) = 0
      · rw [if_pos z2] at e; omega
      · rw [if_neg z2] at e
        have := h.2.1 (c + 1) (d + 1) (by omega) (by omega) (by omega) (by omega)
        omega)
  have h4 : sm (fun c => if (if y (c + 1) = 0 then n else y (c + 1) - 1) < n then G (σ (if y (c + 1) = 0 then n else y (c + 1) - 1) - 1) else 0) C = sm G C := sm_congr (fun c hc => by
    have k1 := h.1 (c + 1) (by omega) (by omega)
    by_cases z : y (c + 1) = 0
    · rw [if_pos z, if_neg (by omega), h0 c hc z]
    · rw [if_neg z, if_pos (by omega), hs c hc z]
      rfl)
  rw [h2] at h1
  rw [h4] at h3
  exact Int.le_antisymm h3 h1
/-- all rows have seats: the sum is the least of all pairings, and these seats are such a one -/
theorem HB_opt {C n m : Nat} {W : Nat → Nat → Int} {y : Nat → Nat} {u v : Nat → Int} (hC : C ≤ 10) (hmC : m ≤ C) (hW : ∀ i j, -zBB ≤ W i j ∧ W i j ≤ 0) (hz : ∀ i j, m ≤ j → W i j = 0) (h : HB C n W y u v) :
    (∀ q, vP n m q → sm (fun c => if y (c + 1) = 0 then 0 else W (y (c + 1) - 1) c) C ≤ wS W n q) ∧ ∃ p, vP n m p ∧ wS W n p = sm (fun c => if y (c + 1) = 0 then 0 else W (y (c + 1) - 1) c) C ∧ (∀ i, i < n → p i ≠ 10 → W i (p i) < 0) ∧ ∀ i j, i < n → j < m → (p i = j ↔ y (j + 1) = i + 1 ∧ W i j < 0) := by
  obtain ⟨hy, ⟨b1, b2, b3⟩, c1, c2⟩ := h
  have h0 : ∀ i : Nat, ∃ c : Nat, i < n → 1 ≤ c ∧ c ≤ C ∧ y c = i + 1 := fun i => by
    by_cases e : i < n
    · obtain ⟨c, q1, q2, q3⟩ := hy.2.2 (i + 1) (by omega) (by omega)
      exact ⟨c, fun _ => ⟨q1, q2, q3⟩⟩
    · exact ⟨0, fun k => absurd k e⟩
  obtain ⟨σ, hσ⟩ := Classical.axiomOfChoice h0
  have r1 := reix hy hσ (G := fun c => -(if y (c + 1) = 0 then 0 else W (y (c + 1) - 1) c)) (fun c _ => by
    have := hW (y (c + 1) - 1) c
    show 0 ≤ -(if y (c + 1) = 0 then 0 else W (y (c + 1) - 1) c)
    split <;> omega) (fun c _ e => by
    show -(if y (c + 1) = 0 then 0 else W (y (c + 1) - 1) c) = 0
    rw [if_pos e]; rfl)
  have r2 := reix hy hσ (G := fun c => -v (c + 1)) (fun c hc => by
    have := (b3 (c + 1) (by omega) (by omega)).1
    show 0 ≤ -v (c + 1)
    omega) (fun c hc e => by
    have := (b3 (c + 1) (by omega) (by omega)).2 e
    show -v (c + 1) = 0
    omega)
  have ng : ∀ (f : Nat → Int) (k : Nat), sm (fun i => -f i) k = -sm f k := fun f k => by
    have := sm_mul (-1) f k
    simp only [Int.neg_mul, Int.one_mul] at this
    exact this
  rw [ng] at r1 r2
  have r1' : sm (fun c => if y (c + 1) = 0 then 0 else W (y (c + 1) - 1) c) C = sm (fun i => W i (σ i - 1)) n := by
    have : sm (fun i => -(if y (σ i - 1 + 1) = 0 then 0 else W (y (σ i - 1 + 1) - 1) (σ i - 1))) n = sm (fun i => -W i (σ i - 1)) n := sm_congr (fun i hi => by
      have := hσ i hi
      rw [show σ i - 1 + 1 = σ i by omega, this.2.2, if_neg (by omega), Nat.add_sub_cancel])
    rw [this, ng] at r1
    omega
  have r2' : sm (fun c => v (c + 1)) C = sm (fun i => v (σ i)) n := by
    have : sm (fun i => -v (σ i - 1 + 1)) n = sm (fun i => -v (σ i)) n := sm_congr (fun i hi => by
      have := hσ i hi
      rw [show σ i - 1 + 1 = σ i by omega])
    rw [this, ng] at r2
    omega
  have r3 : sm (fun i => W i (σ i - 1)) n = sm (fun i => u (i + 1)) n + sm (fun i => v (σ i)) n := by
    rw [← sm_add]
    exact sm_congr (fun i hi => by
      have k := hσ i hi
      have := b2 (σ i) k.1 k.2.1 (by omega)
      rw [k.2.2, Nat.add_sub_cancel] at this
      exact this.symm)
  rw [r1']
  refine ⟨fun q hq => ?_, fun i => if W i (σ i - 1) < 0 then σ i - 1 else 10, ⟨fun i hi => ?_, fun i k h1 h2 e => ?_⟩, ?_, fun i hi e => ?_, fun i j hi hj => ?_⟩
  · have k1 : sm (fun i => u (i + 1) + (if q i < C then v (q i + 1) else 0)) n ≤ wS W n q := sm_le (fun i hi => by
      have := c1 (i + 1) (by omega) (by omega)
      unfold gt
      rcases hq.1 i hi with e | e
      · rw [if_pos (by omega), if_neg (by omega)]
        have := b1 (i + 1) (q i + 1) (by omega) (by omega) (by omega) (by omega)
        simpa using this
      · rw [if_neg (by omega), if_pos e]
        omega)
    have k2 := sm_inj (m := C) (p := q) (n := n) (g := fun c => -v (c + 1)) (fun c hc => by
      have := (b3 (c + 1) (by omega) (by omega)).1
      show 0 ≤ -v (c + 1)
      omega) (fun i k a b e => by
      have := hq.2 i k a b e
      omega)
    have k3 : sm (fun i => if q i < C then -v (q i + 1) else 0) n = -sm (fun i => if q i < C then v (q i + 1) else 0) n := by
      rw [← ng]
      exact sm_congr (fun i _ => by split <;> simp)
    rw [k3, ng] at k2
    rw [sm_add] at k1
    omega
  · show (if W i (σ i - 1) < 0 then σ i - 1 else 10) < m ∨ (if W i (σ i - 1) < 0 then σ i - 1 else 10) = 10
    by_cases e : W i (σ i - 1) < 0
    · rw [if_pos e]
      left
      apply Classical.byContradiction
      intro q
      have := hz i (σ i - 1) (by omega)
      omega
    · rw [if_neg e]; exact Or.inr rfl
  · have e : (if W i (σ i - 1) < 0 then σ i - 1 else 10) = (if W k (σ k - 1) < 0 then σ k - 1 else 10) := e
    show (if W i (σ i - 1) < 0 then σ i - 1 else 10) = 10
    have k1 := hσ i (by omega)
    have k2 := hσ k h2
    by_cases w : W i (σ i - 1) < 0
    · rw [if_pos w] at e ⊢
      by_cases w2 : W k (σ k - 1) < 0
      · rw [if_pos w2] at e
        have : σ i = σ k := by omega
        rw [this] at k1
        omega
      · rw [if_neg w2] at e; exact e
    · rw [if_neg w]
  · exact sm_congr (fun i hi => by
      have k := hσ i hi
      have := hW i (σ i - 1)
      show gt W i (if W i (σ i - 1) < 0 then σ i - 1 else 10) = W i (σ i - 1)
      unfold gt
      by_cases w : W i (σ i - 1) < 0
      · rw [if_pos w, if_neg (by omega)]
      · rw [if_neg w, if_pos rfl]; omega)
  · have e : (if W i (σ i - 1) < 0 then σ i - 1 else 10) ≠ 10 := e
    show W i (if W i (σ i - 1) < 0 then σ i - 1 else 10) < 0
    by_cases w : W i (σ i - 1) < 0
    · rw [if_pos w]; exact w
    · rw [if_neg w] at e; exact absurd rfl e
  · show (if W i (σ i - 1) < 0 then σ i - 1 else 10) = j ↔ _
    have k := hσ i hi
    constructor
    · intro e
      by_cases w : W i (σ i - 1) < 0
      · rw [if_pos w] at e
        subst e
        rw [show σ i - 1 + 1 = σ i by omega]
        exact ⟨k.2.2, w⟩
      · rw [if_neg w] at e; omega
    · rintro ⟨e1, e2⟩
      have : σ i = j + 1 := by
        rcases Nat.lt_trichotomy (σ i) (j + 1) with q | q | q
        · have := hy.2.1 _ _ k.1 q (by omega) (by omega)
          omega
        · exact q
        · have := hy.2.1 _ _ (by omega) q k.2.1 (by omega)
          omega
      rw [this, Nat.add_sub_cancel, if_pos e2]
/-- what is above 0 is never taken -/
theorem cap_opt {n m : Nat} {al : Nat → Nat → Bool} {w W : Nat → Nat → Int} {v : Int} {p : Nat → Nat} (hm : m ≤ 10) (hal : ∀ i, i < n → al i 10 = true) (hWw : ∀ i j, i < n → j < m → W i j = if al i j = true then (if w i j < 0 then w i j else 0) else 0) (h1 : ∀ q, vP n m q → v ≤ wS W n q) (hp : vP n m p) (hs : wS W n p = v) (hn : ∀ i, i < n → p i ≠ 10 → W i (p i) < 0) : isL n m al w v ∧ aQ n m al p ∧ wS w n p = v ∧ ∀ i, i < n → p i ≠ 10 → w i (p i) < 0 := by
  have key : ∀ i, i < n → p i ≠ 10 → al i (p i) = true ∧ W i (p i) = w i (p i) := by
    intro i hi e
    have h2 := hn i hi e
    have h3 := hWw i (p i) hi (by have := hp.1 i hi; omega)
    by_cases a : al i (p i) = true
    · rw [if_pos a] at h3
      refine ⟨a, ?_⟩
      by_cases b : w i (p i) < 0
      · rw [if_pos b] at h3; exact h3
      · rw [if_neg b] at h3; omega
    · rw [if_neg a] at h3; omega
  have hA : aQ n m al p := ⟨hp, fun i hi => by
    by_cases e : p i = 10
    · rw [e]; exact hal i hi
    · exact (key i hi e).1⟩
  have hw : wS w n p = v := by
    rw [← hs]
    exact sm_congr (fun i hi => by
      unfold gt
      by_cases e : p i = 10
      · rw [if_pos e, if_pos e]
      · rw [if_neg e, if_neg e, (key i hi e).2])
  refine ⟨⟨fun q hq => Int.le_trans (h1 q hq.1) (sm_le (fun i hi => ?_)), p, hA, hw⟩, hA, hw, fun i hi e => by rw [← (key i hi e).2]; exact hn i hi e⟩
  unfold gt
  by_cases e : q i = 10
  · rw [if_pos e, if_pos e]; exact Int.le_refl _
  · rw [if_neg e, if_neg e, hWw i (q i) hi (by have := hq.1.1 i hi; omega), if_pos (hq.2 i hi)]
    split <;> omega
/-! ===== questions, by pairings ===== -/
theorem wS_upd {g : Nat → Nat → Int} {n a : Nat} {p : Nat → Nat} (c : Nat) (ha : a < n) : wS g n (fun i => if i = a then c else p i) = wS g n p + (gt g a c - gt g a (p a)) := by
  have h := sm_upd (f := fun i => gt g i (p i)) (k := a) (v := gt g a c) ha
  unfold wS
  rw [← h]
  exact sm_congr (fun i _ => by
    by_cases e : i = a
    · subst e; simp
    · simp [e])
theorem vP_upd {n m a : Nat} {p : Nat → Nat} (h : vP n m p) (c : Nat) (hc : c = 10 ∨ (c < m ∧ ∀ i, i < n → i ≠ a → p i ≠ c)) : vP n m (fun i => if i = a then c else p i) := by
  refine ⟨fun i hi => ?_, fun i k h1 h2 e => ?_⟩
  · show (if i = a then c else p i) < m ∨ (if i = a then c else p i) = 10
    by_cases e : i = a
    · rw [if_pos e]; omega
    · rw [if_neg e]; exact h.1 i hi
  · have e : (if i = a then c else p i) = (if k = a then c else p k) := e
    show (if i = a then c else p i) = 10
    by_cases ei : i = a
    · rw [if_pos ei] at e ⊢
      rw [if_neg (by omega)] at e
      rcases hc with q | ⟨_, q⟩
      · exact q
      · exact absurd e.symm (q k h2 (by omega))
    · rw [if_neg ei] at e ⊢
      by_cases ek : k = a
      · rw [if_pos ek] at e
        rcases hc with q | ⟨_, q⟩
        · omega
        · exact absurd e (q i (by omega) ei)
      · rw [if_neg ek] at e
        exact h.2 i k h1 h2 e
/-- a pair that must be -/
def alM (al : Nat → Nat → Bool) (a b : Nat) (i c : Nat) : Bool := if c = 10 then decide (i ≠ a) else al i c && ((decide (i = a) && decide (c = b)) || (decide (i ≠ a) && decide (c ≠ b)))
def alX (al : Nat → Nat → Bool) (a b : Nat) (i c : Nat) : Bool := al i c && (decide (c = 10) || (decide (i ≠ a) && decide (c ≠ b)))
def alN (al : Nat → Nat → Bool) (a b : Nat) (i c : Nat) : Bool := al i c && !(decide (i = a) && decide (c = b))
def alI (al : Nat → Nat → Bool) (x : Nat) (i c : Nat) : Bool := al i c && (decide (c = 10) || decide (i ≠ x))
def alO (al : Nat → Nat → Bool) (x : Nat) (i c : Nat) : Bool := al i c && decide (c ≠ x)
theorem must_L {n m a b : Nat} {al : Nat → Nat → Bool} {g : Nat → Nat → Int} {v : Int} (hm : m ≤ 10) (ha : a < n) (hb : b < m) (hab : al a b = true) (hal : ∀ i, i < n → al i 10 = true) (h : isL n m (alX al a b) g v) : isL n m (alM al a b) g (g a b + v) := by
  obtain ⟨h1, p, h2, h3⟩ := h
  refine ⟨fun q hq => ?_, fun i => if i = a then b else p i, ⟨vP_upd h2.1 b (Or.inr ⟨hb, fun i hi hn e => ?_⟩), fun i hi => ?_⟩, ?_⟩
  · have hqa : q a = b := by
      have := hq.2 a ha
      unfold alM at this
      by_cases e : q a = 10
      · rw [if_pos e] at this; simp at this
      · rw [if_neg e] at this; simp at this; exact this.2
    have h4 := h1 (fun i => if i = a then 10 else q i) ⟨vP_upd hq.1 10 (Or.inl rfl), fun i hi => by
      show alX al a b i (if i = a then 10 else q i) = true
      unfold alX
      by_cases e : i = a
      · rw [if_pos e]; simp [hal i hi]
      · rw [if_neg e]
        have := hq.2 i hi
        unfold alM at this
        by_cases e2 : q i = 10
        · rw [e2]; simp [hal i hi]
        · rw [if_neg e2] at this
          simp [e] at this
          simp [e, e2, this]⟩
    rw [wS_upd 10 ha, hqa] at h4
    unfold gt at h4
    rw [if_pos rfl, if_neg (by omega)] at h4
    omega
  · have := h2.2 i hi
    unfold alX at this
    rw [e] at this
    simp at this
    omega
  · show alM al a b i (if i = a then b else p i) = true
    unfold alM
    by_cases e : i = a
    · subst e
      rw [if_pos rfl, if_neg (by omega)]
      simp [hab]
    · rw [if_neg e]
      have := h2.2 i hi
      unfold alX at this
      by_cases e2 : p i = 10
      · rw [if_pos e2]; simp [e]
      · rw [if_neg e2]
        simp [e, e2] at this
        simp [e, this]
  · have hpa : p a = 10 := by
      have := h2.2 a ha
      unfold alX at this
      simp at this
      exact this.2
    rw [wS_upd b ha, hpa, h3]
    unfold gt
    rw [if_pos rfl, if_neg (by omega)]
    omega
theorem wS_lin {g : Nat → Nat → Int} {n : Nat} {p : Nat → Nat} (k : Int) (e : Nat → Nat → Int) : wS (fun i j => k * g i j + e i j) n p = k * wS g n p + wS e n p := by
  unfold wS
  rw [← sm_mul, ← sm_add]
  exact sm_congr (fun i _ => by
    unfold gt
    split <;> simp)
theorem pN_bd {n : Nat} (hn : n ≤ 10) (p : Nat → Nat) : 0 ≤ pN n p ∧ pN n p ≤ 10 := by
  have := sm_bd (f := fun i => (pc (p i) : Int)) (a := 0) (b := 1) (n := n) (fun i _ => by unfold pc; split <;> decide)
  unfold pN
  omega
theorem wS_one (n : Nat) (p : Nat → Nat) : wS (fun _ _ => 1) n p = pN n p := sm_congr (fun i _ => by unfold gt pc; split <;> rfl)
theorem wS_mone (n : Nat) (p : Nat → Nat) : wS (fun _ _ => -1) n p = -pN n p := by
  have := wS_lin (g := fun _ _ => 1) (n := n) (p := p) (-1) (fun _ _ => 0)
  have z : wS (fun _ _ => 0) n p = 0 := sm_zero (fun i _ => by unfold gt; split <;> rfl)
  rw [z, wS_one] at this
  simp at this
  exact this
theorem few_L {n m : Nat} {al : Nat → Nat → Bool} {g : Nat → Nat → Int} {v z f : Int} (hn : n ≤ 10) (h : isL n m al g v) (hf : (∀ q, aQ n m al q → wS g n q = v → f ≤ pN n q) ∧ ∃ p, aQ n m al p ∧ wS g n p = v ∧ pN n p = f) (hz : isL n m al (fun i j => 32 * g i j + 1) z) : z = 32 * v + f := by
  obtain ⟨f1, p, f2, f3, f4⟩ := hf
  refine isL_un hz ⟨fun q hq => ?_, p, f2, ?_⟩
  · rw [wS_lin (g := g) 32 (fun _ _ => 1), wS_one]
    have h1 := h.1 q hq
    have h2 := pN_bd hn q
    have h3 := pN_bd hn p
    by_cases e : wS g n q = v
    · have := f1 q hq e; omega
    · omega
  · rw [wS_lin (g := g) 32 (fun _ _ => 1), wS_one, f3, f4]
theorem most_L {n m : Nat} {al : Nat → Nat → Bool} {g : Nat → Nat → Int} {v z f : Int} (hn : n ≤ 10) (h : isL n m al g v) (hf : (∀ q, aQ n m al q → wS g n q = v → pN n q ≤ f) ∧ ∃ p, aQ n m al p ∧ wS g n p = v ∧ pN n p = f) (hz : isL n m al (fun i j => 32 * g i j + -1) z) : z = 32 * v - f := by
  obtain ⟨f1, p, f2, f3, f4⟩ := hf
  refine isL_un hz ⟨fun q hq => ?_, p, f2, ?_⟩
  · rw [wS_lin (g := g) 32 (fun _ _ => -1), wS_mone]
    have h1 := h.1 q hq
    have h2 := pN_bd hn q
    have h3 := pN_bd hn p
    by_cases e : wS g n q = v
    · have := f1 q hq e; omega
    · omega
  · rw [wS_lin (g := g) 32 (fun _ _ => -1), wS_mone, f3, f4]
    omega
