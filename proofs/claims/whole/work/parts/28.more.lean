/-! ===== fewer choices: a list's part ===== -/
def eA (e : Nat → Nat → Bool) : Nat → List Nat → Bool
  | _, [] => true
  | i, c :: l => e i c && eA e (i + 1) l
theorem flt_map {α β : Type} (f : α → β) (P : β → Bool) (L : List α) : (L.map f).filter P = (L.filter (fun l => P (f l))).map f := by
  rw [List.filter_map]
  rfl
theorem stL_flt {a : Nat → Bool} {S : Nat} {R R' : Nat → List (List Nat)} {e : Nat → Nat → Bool} {i : Nat} (hR : ∀ S, R' S = (R S).filter (eA e (i + 1))) : ∀ j : Nat, stL (fun c => a c && e i c) S R' j = (stL a S R j).filter (eA e i)
  | 0 => by
    simp only [stL]
    by_cases h : a 10 = true
    · by_cases h2 : e i 10 = true
      · simp only [h, h2, Bool.and_self, if_true, hR, flt_map, eA, Bool.true_and]
      · simp only [Bool.not_eq_true] at h2
        simp [h, h2, hR, eA]
    · simp only [Bool.not_eq_true] at h
      simp [h]
  | j + 1 => by
    simp only [stL, List.filter_append, stL_flt (a := a) hR j]
    congr 1
    by_cases h : S.testBit j = false ∧ a j = true
    · by_cases h2 : e i j = true
      · simp only [h, h2, Bool.and_self, if_true, hR, flt_map, eA, Bool.true_and, and_self]
      · simp only [Bool.not_eq_true] at h2
        simp [h, h2, hR, eA]
    · rw [if_neg h, if_neg]
      · rfl
      · rintro ⟨h1, h2⟩
        simp only [Bool.and_eq_true] at h2
        exact h ⟨h1, h2.1⟩
theorem bB_flt {m : Nat} {al e : Nat → Nat → Bool} : ∀ (k i S : Nat), bB m (fun i c => al i c && e i c) k i S = (bB m al k i S).filter (eA e i)
  | 0, _, _ => rfl
  | k + 1, i, S => by
    rw [bB, bB]
    exact stL_flt (fun S => bB_flt k (i + 1) S) m
theorem eA_lst {e : Nat → Nat → Bool} {p : Nat → Nat} : ∀ {k i : Nat}, eA e i (lst p i k) = true ↔ ∀ t, t < k → e (i + t) (p (i + t)) = true
  | 0, i => by simp [lst, eA]
  | k + 1, i => by
    rw [lst, eA, Bool.and_eq_true, eA_lst]
    constructor
    · rintro ⟨h1, h2⟩ t ht
      cases t with
      | zero => exact h1
      | succ t =>
        have := h2 t (by omega)
        rw [show i + 1 + t = i + (t + 1) by omega] at this
        exact this
    · intro h
      refine ⟨h 0 (by omega), fun t ht => ?_⟩
      have := h (t + 1) (by omega)
      rw [show i + (t + 1) = i + 1 + t by omega] at this
      exact this
theorem eA_0 {e : Nat → Nat → Bool} {p : Nat → Nat} {n : Nat} : eA e 0 (lst p 0 n) = true ↔ ∀ t, t < n → e t (p t) = true := by
  rw [eA_lst]
  simp only [Nat.zero_add]
theorem flt_len {α : Type} {P : α → Bool} {L : List α} : (L.filter P).length = L.length ↔ ∀ l, l ∈ L → P l = true := by
  induction L with
  | nil => simp
  | cons a L ih =>
    have hle : (L.filter P).length ≤ L.length := List.length_filter_le _ _
    by_cases h : P a = true
    · rw [List.filter_cons_of_pos h, List.length_cons, List.length_cons]
      constructor
      · intro e l hl
        rcases List.mem_cons.mp hl with rfl | q
        · exact h
        · exact ih.mp (by omega) l q
      · intro e
        have := ih.mpr (fun l hl => e l (List.mem_cons_of_mem _ hl))
        omega
    · rw [List.filter_cons_of_neg h, List.length_cons]
      constructor
      · intro e; omega
      · intro e
        exact absurd (e a List.mem_cons_self) h
/-- no list twice -/
theorem nd_stL {a : Nat → Bool} {S : Nat} {R : Nat → List (List Nat)} (hR : ∀ S, (R S).Nodup) : ∀ {j : Nat}, j ≤ 10 → (stL a S R j).Nodup
  | 0, _ => by
    simp only [stL]
    split
    · refine List.Pairwise.map _ (fun x y h => ?_) (hR S)
      intro e
      exact h (List.cons.inj e).2
    · exact List.Pairwise.nil
  | j + 1, hj => by
    simp only [stL]
    refine List.nodup_append.mpr ⟨nd_stL hR (by omega), ?_, ?_⟩
    · split
      · refine List.Pairwise.map _ (fun x y h => ?_) (hR _)
        intro e
        exact h (List.cons.inj e).2
      · exact List.Pairwise.nil
    · intro x hx y hy e
      subst e
      rw [mem_stL] at hx
      obtain ⟨c, l', rfl, hc⟩ := hx
      split at hy
      · obtain ⟨l2, _, e2⟩ := List.mem_map.mp hy
        have := (List.cons.inj e2).1
        rcases hc with ⟨h1, _⟩ | ⟨h1, _⟩ <;> omega
      · cases hy
theorem nd_bB {m : Nat} (hm : m ≤ 10) {al : Nat → Nat → Bool} : ∀ {k i S : Nat}, (bB m al k i S).Nodup
  | 0, _, _ => by simp [bB]
  | k + 1, i, S => by
    rw [bB]
    exact nd_stL (fun S => nd_bB hm) hm
/-! ===== who is alone ===== -/
/-- the list's counts tell whether all best ones are so -/
theorem alone_0 {n m : Nat} (hm : m ≤ 10) {al e : Nat → Nat → Bool} {g : Nat → Nat → Int} {v v' : Int} {b b' : Nat} {fw gr fw' gr' : Int} (h : sOK (bB m al n 0 0) (gS g 0) v b fw gr) (h' : sOK (bB m (fun i c => al i c && e i c) n 0 0) (gS g 0) v' b' fw' gr') : (v' = v ∧ b' = b) ↔ ∀ q, aQ n m al q → wS g n q = v → ∀ i, i < n → e i (q i) = true := by
  have hL := sOK_L hm h
  have hL' := sOK_L hm h'
  have hb := h.2.2.1
  have hb' := h'.2.2.1
  rw [bB_flt, List.filter_filter] at hb'
  have hsub : ∀ q, aQ n m (fun i c => al i c && e i c) q ↔ aQ n m al q ∧ ∀ i, i < n → e i (q i) = true := fun q => by
    unfold aQ
    constructor
    · rintro ⟨h1, h2⟩
      exact ⟨⟨h1, fun i hi => by have := h2 i hi; simp at this; exact this.1⟩, fun i hi => by have := h2 i hi; simp at this; exact this.2⟩
    · rintro ⟨⟨h1, h2⟩, h3⟩
      exact ⟨h1, fun i hi => by simp [h2 i hi, h3 i hi]⟩
  constructor
  · rintro ⟨rfl, rfl⟩ q hq hv
    have e1 : (bB m al n 0 0).filter (fun a => decide (gS g 0 a = v') && eA e 0 a) = ((bB m al n 0 0).filter (fun l => decide (gS g 0 l = v'))).filter (eA e 0) := by
      rw [List.filter_filter]
      congr 1
      funext a
      exact Bool.and_comm _ _
    rw [e1, hb, eq_comm, flt_len] at hb'
    have := hb' (lst q 0 n) (List.mem_filter.mpr ⟨(mem_b0 hm).mpr hq, by simp [gS_0, hv]⟩)
    exact eA_0.mp this
  · intro hall
    have hv : v' = v := by
      obtain ⟨h1, p, h2, h3⟩ := hL
      obtain ⟨k1, q, k2, k3⟩ := hL'
      have := k1 p ((hsub p).mpr ⟨h2, hall p h2 h3⟩)
      have := h1 q ((hsub q).mp k2).1
      omega
    refine ⟨hv, ?_⟩
    rw [hb, hb', hv]
    congr 1
    apply List.filter_congr
    intro l hl
    obtain ⟨p, rfl⟩ := b0_ex hl
    by_cases c : gS g 0 (lst p 0 n) = v
    · have : eA e 0 (lst p 0 n) = true := eA_0.mpr (hall p ((mem_b0 hm).mp hl) (by rw [← gS_0]; exact c))
      simp [c, this]
    · simp [c]
theorem alone_1 {n m : Nat} (hm : m ≤ 10) {al e : Nat → Nat → Bool} {g : Nat → Nat → Int} {v v' : Int} (h : isL n m al g v) (h' : isL n m (fun i c => al i c && e i c) g v') : v' = v ↔ ∃ q, aQ n m al q ∧ wS g n q = v ∧ ∀ i, i < n → e i (q i) = true := by
  have hsub : ∀ q, aQ n m (fun i c => al i c && e i c) q ↔ aQ n m al q ∧ ∀ i, i < n → e i (q i) = true := fun q => by
    unfold aQ
    constructor
    · rintro ⟨h1, h2⟩
      exact ⟨⟨h1, fun i hi => by have := h2 i hi; simp at this; exact this.1⟩, fun i hi => by have := h2 i hi; simp at this; exact this.2⟩
    · rintro ⟨⟨h1, h2⟩, h3⟩
      exact ⟨h1, fun i hi => by simp [h2 i hi, h3 i hi]⟩
  obtain ⟨h1, p, h2, h3⟩ := h
  obtain ⟨k1, q, k2, k3⟩ := h'
  constructor
  · intro e
    exact ⟨q, ((hsub q).mp k2).1, by omega, ((hsub q).mp k2).2⟩
  · rintro ⟨r, r1, r2, r3⟩
    have := k1 r ((hsub r).mpr ⟨r1, r3⟩)
    have := h1 q ((hsub q).mp k2).1
    omega
theorem alone_2 {n m : Nat} (hm : m ≤ 10) {al e : Nat → Nat → Bool} : (bB m (fun i c => al i c && e i c) n 0 0).length = (bB m al n 0 0).length ↔ ∀ q, aQ n m al q → ∀ i, i < n → e i (q i) = true := by
  rw [bB_flt, flt_len]
  constructor
  · intro h q hq
    exact eA_0.mp (h _ ((mem_b0 hm).mpr hq))
  · intro h l hl
    obtain ⟨p, rfl⟩ := b0_ex hl
    exact eA_0.mpr (h p ((mem_b0 hm).mp hl))
/-- a small leaning tells -/
theorem lean_p {n m : Nat} {al : Nat → Nat → Bool} {g d : Nat → Nat → Int} {v z : Int} (h : isL n m al g v) (hd : ∀ q, aQ n m al q → 0 ≤ wS d n q) (hz : isL n m al (fun i j => 2 * g i j + d i j) z) : z = 2 * v ↔ ∃ q, aQ n m al q ∧ wS g n q = v ∧ wS d n q = 0 := by
  obtain ⟨h1, p, h2, h3⟩ := h
  obtain ⟨k1, q, k2, k3⟩ := hz
  rw [wS_lin] at k3
  constructor
  · intro e
    have a1 := h1 q k2
    have a2 := hd q k2
    exact ⟨q, k2, by omega, by omega⟩
  · rintro ⟨r, r1, r2, r3⟩
    have a1 := k1 r r1
    rw [wS_lin] at a1
    have a2 := h1 q k2
    have a3 := hd q k2
    omega
theorem lean_m {n m : Nat} {al : Nat → Nat → Bool} {g d : Nat → Nat → Int} {v z : Int} (h : isL n m al g v) (hd : ∀ q, aQ n m al q → -1 ≤ wS d n q ∧ wS d n q ≤ 0) (hz : isL n m al (fun i j => 2 * g i j + d i j) z) : z = 2 * v ↔ ∀ q, aQ n m al q → wS g n q = v → wS d n q = 0 := by
  obtain ⟨h1, p, h2, h3⟩ := h
  obtain ⟨k1, q, k2, k3⟩ := hz
  constructor
  · intro e r r1 r2
    have a1 := k1 r r1
    rw [wS_lin] at a1
    have a2 := hd r r1
    omega
  · intro e
    have a1 := k1 p h2
    rw [wS_lin] at a1 k3
    have a2 := h1 q k2
    have a3 := hd q k2
    have a4 := hd p h2
    have a5 := e p h2 h3
    by_cases c : wS g n q = v
    · have := e q k2 c; omega
    · omega
theorem wS_row {n x : Nat} (hx : x < n) (s : Int) (q : Nat → Nat) : wS (fun i _ => if i = x then s else 0) n q = if q x = 10 then 0 else s := by
  unfold wS
  rw [sm_one hx (fun i _ hn => by unfold gt; simp [hn])]
  unfold gt
  simp
theorem wS_col {n m x : Nat} (hx : x < m) (hm : m ≤ 10) (s : Int) {q : Nat → Nat} (hq : vP n m q) : ((∀ i, i < n → q i ≠ x) ∧ wS (fun _ j => if j = x then s else 0) n q = 0) ∨ ((∃ i, i < n ∧ q i = x) ∧ wS (fun _ j => if j = x then s else 0) n q = s) := by
  by_cases e : ∃ i, i < n ∧ q i = x
  · obtain ⟨i, h1, h2⟩ := e
    right
    refine ⟨⟨i, h1, h2⟩, ?_⟩
    unfold wS
    rw [sm_one h1 (fun k hk hn => ?_)]
    · unfold gt
      dsimp only
      rw [if_neg (by omega), if_pos h2]
    · unfold gt
      dsimp only
      by_cases c : q k = 10
      · rw [if_pos c]
      · rw [if_neg c, if_neg]
        intro c2
        rcases Nat.lt_trichotomy k i with t | t | t
        · exact c (hq.2 k i t h1 (by omega))
        · exact hn t
        · have := hq.2 i k t hk (by omega); omega
  · have e : ∀ i, i < n → q i ≠ x := fun i hi c => e ⟨i, hi, c⟩
    left
    refine ⟨e, sm_zero (fun i hi => ?_)⟩
    unfold gt
    dsimp only
    split
    · rfl
    · rw [if_neg (e i hi)]
/-! ===== the first of the best ===== -/
def isF (n m : Nat) (al : Nat → Nat → Bool) (g : Nat → Nat → Int) (p : Nat → Nat) : Prop := aQ n m al p ∧ (∀ q, aQ n m al q → wS g n p ≤ wS g n q) ∧ ∀ q, aQ n m al q → wS g n q = wS g n p → (∀ i, i < n → p i = q i) ∨ ∃ i, i < n ∧ (∀ k, k < i → p k = q k) ∧ p i < q i
theorem isF_un {n m : Nat} {al : Nat → Nat → Bool} {g : Nat → Nat → Int} {p q : Nat → Nat} (h : isF n m al g p) (k : isF n m al g q) : ∀ i, i < n → p i = q i := by
  obtain ⟨h1, h2, h3⟩ := h
  obtain ⟨k1, k2, k3⟩ := k
  have e : wS g n q = wS g n p := Int.le_antisymm (k2 p h1) (h2 q k1)
  rcases h3 q k1 e with a | ⟨i, a1, a2, a3⟩
  · exact a
  · rcases k3 p h1 e.symm with b | ⟨j, b1, b2, b3⟩
    · have := b i a1; omega
    · rcases Nat.lt_trichotomy i j with t | t | t
      · have := b2 i t; omega
      · subst t; omega
      · have := a2 j t; omega
/-- figures to the base 11 -/
def dH (a : Nat → Nat) : Nat → Nat
  | 0 => 0
  | n + 1 => 11 * dH a n + a n
theorem dH_same {a b : Nat → Nat} : ∀ {n : Nat}, (∀ i, i < n → a i = b i) → dH a n = dH b n
  | 0, _ => rfl
  | n + 1, h => by rw [dH, dH, dH_same (fun i hi => h i (by omega)), h n (by omega)]
theorem dH_lt {a b : Nat → Nat} {i : Nat} (ha : ∀ k, a k ≤ 10) (h : ∀ k, k < i → a k = b k) (hi : a i < b i) : ∀ {n : Nat}, i < n → dH a n < dH b n
  | 0, q => absurd q (Nat.not_lt_zero _)
  | n + 1, q => by
    rw [dH, dH]
    by_cases e : i = n
    · subst e
      rw [dH_same h]
      omega
    · have := dH_lt ha h hi (n := n) (by omega)
      have := ha n
      omega
theorem dH_bd {a : Nat → Nat} (ha : ∀ k, a k ≤ 10) : ∀ n : Nat, dH a n < 11 ^ n
  | 0 => by simp [dH]
  | n + 1 => by
    have := dH_bd ha n
    have := ha n
    rw [dH, Nat.pow_succ]
    omega
theorem dH_sm {a : Nat → Nat} : ∀ {n : Nat}, n ≤ 10 → sm (fun i => (a i * 11 ^ (9 - i) : Nat)) n = (dH a n * 11 ^ (10 - n) : Nat)
  | 0, _ => by simp [sm, dH]
  | n + 1, h => by
    rw [sm, dH_sm (by omega), dH, show 10 - n = (9 - n) + 1 by omega, show 10 - (n + 1) = 9 - n by omega, Nat.pow_succ, Nat.add_mul]
    have : dH a n * (11 ^ (9 - n) * 11) = 11 * dH a n * 11 ^ (9 - n) := by
      rw [Nat.mul_comm 11 (dH a n), Nat.mul_assoc, Nat.mul_comm 11]
    rw [this]
    omega
/-- the class's way to the first -/
theorem first_C {n m : Nat} (hn : n ≤ 10) (hm : m ≤ 10) {al : Nat → Nat → Bool} {g w : Nat → Nat → Int} {z : Int} {p : Nat → Nat} (hw : ∀ i j, i < n → j < m → w i j = 25937424601 * g i j - ((10 - j) * 11 ^ (9 - i) : Nat)) (hz : isL n m al w z) (hp : aQ n m al p) (hpz : wS w n p = z) : isF n m al g p := by
  have hD : ∀ q, aQ n m al q → wS w n q = 25937424601 * wS g n q - (dH (fun i => 10 - q i) n * 11 ^ (10 - n) : Nat) := by
    intro q hq
    rw [← dH_sm hn]
    have e1 : wS w n q = sm (fun i => 25937424601 * gt g i (q i) + -1 * ((10 - q i) * 11 ^ (9 - i) : Nat)) n := sm_congr (fun i hi => by
      unfold gt
      by_cases e : q i = 10
      · rw [if_pos e, if_pos e, e]
        simp
      · rw [if_neg e, if_neg e, hw i (q i) hi (by have := hq.1.1 i hi; omega)]
        omega)
    rw [e1, sm_add, sm_mul, sm_mul]
    unfold wS
    omega
  have hB : ∀ q : Nat → Nat, dH (fun i => 10 - q i) n * 11 ^ (10 - n) < 25937424601 := by
    intro q
    have h1 := dH_bd (a := fun i => 10 - q i) (fun k => by show 10 - q k ≤ 10; omega) n
    have h2 : 11 ^ n * 11 ^ (10 - n) = 25937424601 := by
      rw [← Nat.pow_add, show n + (10 - n) = 10 by omega]
    have h3 : 0 < 11 ^ (10 - n) := Nat.pow_pos (by omega)
    have := Nat.mul_lt_mul_of_pos_right h1 h3
    omega
  have hbest : ∀ q, aQ n m al q → wS g n p ≤ wS g n q := by
    intro q hq
    have h1 := hz.1 q hq
    rw [← hpz, hD q hq, hD p hp] at h1
    have := hB p
    have := hB q
    omega
  refine ⟨hp, hbest, fun q hq e => ?_⟩
  have h1 := hz.1 q hq
  rw [← hpz, hD q hq, hD p hp] at h1
  have h2 : dH (fun i => 10 - q i) n * 11 ^ (10 - n) ≤ dH (fun i => 10 - p i) n * 11 ^ (10 - n) := by omega
  have h3 : 0 < 11 ^ (10 - n) := Nat.pow_pos (by omega)
  have h4 := Nat.le_of_mul_le_mul_right h2 h3
  apply Classical.byContradiction
  intro hno
  have hd : ∃ i, i < n ∧ p i ≠ q i ∧ ∀ k, k < i → p k = q k := by
    have : ∃ i, i < n ∧ p i ≠ q i := by
      apply Classical.byContradiction
      intro c
      exact hno (Or.inl (fun i hi => Classical.byContradiction (fun c2 => c ⟨i, hi, c2⟩)))
    obtain ⟨i, i1, i2⟩ := this
    have : ∀ k, ∀ i, i ≤ k → i < n → p i ≠ q i → ∃ i, i < n ∧ p i ≠ q i ∧ ∀ k, k < i → p k = q k := by
      intro k
      induction k with
      | zero => intro i h0 hi hn'; exact ⟨i, hi, hn', fun k hk => by omega⟩
      | succ k ih =>
        intro i h0 hi hn'
        by_cases c : ∃ k', k' < i ∧ p k' ≠ q k'
        · obtain ⟨k', c1, c2⟩ := c
          exact ih k' (by omega) (by omega) c2
        · exact ⟨i, hi, hn', fun k hk => Classical.byContradiction (fun c2 => c ⟨k, hk, c2⟩)⟩
    exact this i i (Nat.le_refl _) i1 i2
  obtain ⟨i, i1, i2, i3⟩ := hd
  have i4 : ¬ p i < q i := fun c => hno (Or.inr ⟨i, i1, i3, c⟩)
  have b1 : p i ≤ 10 := by have := hp.1.1 i i1; omega
  have := dH_lt (a := fun i => 10 - p i) (b := fun i => 10 - q i) (i := i) (fun k => by show 10 - p k ≤ 10; omega) (fun k hk => by show 10 - p k = 10 - q k; rw [i3 k hk]) (by show 10 - p i < 10 - q i; omega) (n := n) i1
  omega
theorem sm_split (f : Nat → Int) (i : Nat) : ∀ k : Nat, sm f (i + k) = sm f i + sm (fun t => f (i + t)) k
  | 0 => by simp [sm]
  | k + 1 => by
    rw [← Nat.add_assoc, sm, sm_split f i k, sm]
    omega
/-- the reference's way to the first -/
theorem first_R {n m : Nat} (hm : m ≤ 10) {al : Nat → Nat → Bool} {g : Nat → Nat → Int} {mn : Nat → Nat → Int} (hmn : ∀ i S, i ≤ n → S < 2 ^ m → (∀ l, l ∈ bB m al (n - i) i S → mn i S ≤ gS g i l) ∧ ∃ l, l ∈ bB m al (n - i) i S ∧ gS g i l = mn i S) {p S : Nat → Nat} (hS0 : S 0 = 0) (hSs : ∀ i, i < n → S (i + 1) = if p i = 10 then S i else S i ||| 2 ^ p i)
    (hp : ∀ i, i < n → (p i < m ∧ ((S i).testBit (p i) = false ∧ al i (p i) = true ∧ g i (p i) + mn (i + 1) (S i ||| 2 ^ p i) = mn i (S i)) ∧ ∀ j, j < p i → ¬ ((S i).testBit j = false ∧ al i j = true ∧ g i j + mn (i + 1) (S i ||| 2 ^ j) = mn i (S i))) ∨ (p i = 10 ∧ ∀ j, j < m → ¬ ((S i).testBit j = false ∧ al i j = true ∧ g i j + mn (i + 1) (S i ||| 2 ^ j) = mn i (S i)))) : isF n m al g p := by
  have hlt : ∀ i, i ≤ n → S i < 2 ^ m := by
    intro i
    induction i with
    | zero => intro _; rw [hS0]; exact Nat.pow_pos (by omega)
    | succ i ih =>
      intro hi
      rw [hSs i (by omega)]
      have := ih (by omega)
      split
      · exact this
      · rcases hp i (by omega) with ⟨h1, _⟩ | ⟨h1, _⟩
        · exact Nat.or_lt_two_pow this (Nat.pow_lt_pow_right (by omega) h1)
        · omega
  have hbit : ∀ i, i ≤ n → ∀ c, (S i).testBit c = true ↔ ∃ k, k < i ∧ p k = c ∧ c ≠ 10 := by
    intro i
    induction i with
    | zero =>
      intro _ c
      rw [hS0]
      simp
    | succ i ih =>
      intro hi c
      rw [hSs i (by omega)]
      have ih := ih (by omega) c
      by_cases e : p i = 10
      · rw [if_pos e, ih]
        constructor
        · rintro ⟨k, h1, h2, h3⟩; exact ⟨k, by omega, h2, h3⟩
        · rintro ⟨k, h1, h2, h3⟩
          by_cases ek : k = i
          · subst ek; omega
          · exact ⟨k, by omega, h2, h3⟩
      · rw [if_neg e, tb_or, Bool.or_eq_true, ih, decide_eq_true_eq]
        constructor
        · rintro (⟨k, h1, h2, h3⟩ | h)
          · exact ⟨k, by omega, h2, h3⟩
          · exact ⟨i, by omega, h, by omega⟩
        · rintro ⟨k, h1, h2, h3⟩
          by_cases ek : k = i
          · subst ek; exact Or.inr h2
          · exact Or.inl ⟨k, by omega, h2, h3⟩
  have hor : ∀ i j, i < n → j < m → S i ||| 2 ^ j < 2 ^ m := fun i j hi hj => Nat.or_lt_two_pow (hlt i (by omega)) (Nat.pow_lt_pow_right (by omega) hj)
  -- the sum so far and the least of the rest
  have hsum : ∀ i, i ≤ n → sm (fun k => gt g k (p k)) i + mn i (S i) = mn 0 0 := by
    intro i
    induction i with
    | zero => intro _; rw [hS0]; simp [sm]
    | succ i ih =>
      intro hi
      have ih := ih (by omega)
      rw [sm, hSs i (by omega)]
      rcases hp i (by omega) with ⟨h1, ⟨h2, h3, h4⟩, _⟩ | ⟨h1, h2⟩
      · have e : gt g i (p i) = g i (p i) := if_neg (by omega)
        rw [e, if_neg (by omega)]
        omega
      · have e : gt g i (p i) = 0 := if_pos h1
        rw [e, if_pos h1]
        have a1 := hmn i (S i) (by omega) (hlt i (by omega))
        have a2 := hmn (i + 1) (S i) (by omega) (hlt i (by omega))
        obtain ⟨l, l1, l2⟩ := a1.2
        rw [show n - i = (n - (i + 1)) + 1 by omega, bB, mem_stL] at l1
        obtain ⟨c, l', rfl, ⟨rfl, q2, q3⟩ | ⟨q1, q2, q3, q4⟩⟩ := l1
        · simp only [gS, gt, if_true] at l2
          have := a2.1 l' q3
          obtain ⟨l3, r1, r2⟩ := a2.2
          have := a1.1 (10 :: l3) (by
            rw [show n - i = (n - (i + 1)) + 1 by omega, bB, mem_stL]
            exact ⟨10, l3, rfl, Or.inl ⟨rfl, q2, r1⟩⟩)
          simp only [gS, gt, if_true] at this
          omega
        · exfalso
          apply h2 c q1
          refine ⟨q2, q3, ?_⟩
          have b1 := hmn (i + 1) (S i ||| 2 ^ c) (by omega) (hor i c (by omega) q1)
          have b2 := b1.1 l' q4
          obtain ⟨l3, r1, r2⟩ := b1.2
          have b3 := a1.1 (c :: l3) (by
            rw [show n - i = (n - (i + 1)) + 1 by omega, bB, mem_stL]
            exact ⟨c, l3, rfl, Or.inr ⟨q1, q2, q3, r1⟩⟩)
          simp only [gS, gt] at l2 b3
          rw [if_neg (by omega)] at l2 b3
          omega
  have hmn0 := hmn 0 0 (by omega) (Nat.pow_pos (by omega))
  rw [Nat.sub_zero] at hmn0
  have hbest : wS g n p = mn 0 0 := by
    have h1 := hsum n (Nat.le_refl _)
    have h2 := hmn n (S n) (Nat.le_refl _) (hlt n (Nat.le_refl _))
    rw [Nat.sub_self] at h2
    obtain ⟨l, l1, l2⟩ := h2.2
    rw [bB, List.mem_singleton] at l1
    rw [l1] at l2
    unfold wS
    simp only [gS] at l2
    omega
  -- p is allowed
  have hal : ∀ i, i < n → al i (p i) = true := by
    intro i hi
    rcases hp i hi with ⟨_, h2, _⟩ | ⟨h1, h2⟩
    · exact h2.2.1
    · have a1 := hmn i (S i) (by omega) (hlt i (by omega))
      obtain ⟨l, l1, l2⟩ := a1.2
      rw [show n - i = (n - (i + 1)) + 1 by omega, bB, mem_stL] at l1
      obtain ⟨c, l', rfl, ⟨rfl, q2, q3⟩ | ⟨q1, q2, q3, q4⟩⟩ := l1
      · rw [h1]; exact q2
      · exfalso
        apply h2 c q1
        refine ⟨q2, q3, ?_⟩
        have b1 := hmn (i + 1) (S i ||| 2 ^ c) (by omega) (hor i c (by omega) q1)
        have b2 := b1.1 l' q4
        obtain ⟨l3, r1, r2⟩ := b1.2
        have b3 := a1.1 (c :: l3) (by
          rw [show n - i = (n - (i + 1)) + 1 by omega, bB, mem_stL]
          exact ⟨c, l3, rfl, Or.inr ⟨q1, q2, q3, r1⟩⟩)
        simp only [gS, gt] at l2 b3
        rw [if_neg (by omega)] at l2 b3
        omega
  have hv : vP n m p := by
    refine ⟨fun i hi => ?_, fun i k h1 h2 e => ?_⟩
    · rcases hp i hi with ⟨h1, _⟩ | ⟨h1, _⟩
      · exact Or.inl h1
      · exact Or.inr h1
    · apply Classical.byContradiction
      intro c
      rcases hp k h2 with ⟨_, q2, _⟩ | ⟨q1, _⟩
      · have := (hbit k (by omega) (p k)).mpr ⟨i, h1, e, by omega⟩
        rw [q2.1] at this
        cases this
      · omega
  refine ⟨⟨hv, hal⟩, fun q hq => ?_, fun q hq e => ?_⟩
  · have := hmn0.1 (lst q 0 n) ((mem_b0 hm).mpr hq)
    rw [gS_0] at this
    omega
  · -- who is as good and goes with p up to i
    have key : ∀ i, i ≤ n → (∀ k, k < i → p k = q k) ∨ ∃ i', i' < n ∧ (∀ k, k < i' → p k = q k) ∧ p i' < q i' := by
      intro i
      induction i with
      | zero => intro _; exact Or.inl (fun k hk => by omega)
      | succ i ih =>
        intro hi
        rcases ih (by omega) with hag | h
        · by_cases c : p i = q i
          · refine Or.inl (fun k hk => ?_)
            by_cases ek : k = i
            · subst ek; exact c
            · exact hag k (by omega)
          · refine Or.inr ⟨i, by omega, hag, ?_⟩
            -- q i fits, so p i is below
            have htail : lst q i (n - i) ∈ bB m al (n - i) i (S i) := by
              rw [mem_bB hm]
              refine ⟨fun t ht => ⟨hq.2 _ (by omega), ?_⟩, fun s t h1 h2 h3 => hq.1.2 _ _ (by omega) (by omega) h3⟩
              rcases hq.1.1 (i + t) (by omega) with h1 | h1
              · right
                refine ⟨h1, ?_⟩
                rw [Bool.eq_false_iff]
                intro h2
                obtain ⟨k, k1, k2, k3⟩ := (hbit i (by omega) _).mp h2
                rw [hag k k1] at k2
                have := hq.1.2 k (i + t) (by omega) (by omega) k2
                omega
              · exact Or.inl h1
            have hgs : gS g i (lst q i (n - i)) = mn i (S i) := by
              have h1 := hsum i (by omega)
              have h2 := sm_split (fun k => gt g k (q k)) i (n - i)
              rw [show i + (n - i) = n by omega] at h2
              have h3 : sm (fun k => gt g k (q k)) i = sm (fun k => gt g k (p k)) i := sm_congr (fun k hk => by rw [hag k hk])
              rw [gS_lst]
              have h4 : wS g n q = sm (fun k => gt g k (q k)) n := rfl
              omega
            rw [show n - i = (n - (i + 1)) + 1 by omega, lst] at htail hgs
            rw [bB, mem_stL] at htail
            obtain ⟨d, l', h0, hd⟩ := htail
            obtain ⟨e1, rfl⟩ := List.cons.inj h0
            rcases hd with ⟨d1, _, _⟩ | ⟨d1, d2, d3, d4⟩
            · rcases hp i (by omega) with ⟨h1, _⟩ | ⟨h1, _⟩
              · omega
              · omega
            · have hfit : (S i).testBit (q i) = false ∧ al i (q i) = true ∧ g i (q i) + mn (i + 1) (S i ||| 2 ^ q i) = mn i (S i) := by
                rw [e1]
                refine ⟨d2, d3, ?_⟩
                have a1 := hmn i (S i) (by omega) (hlt i (by omega))
                have b1 := hmn (i + 1) (S i ||| 2 ^ d) (by omega) (hor i d (by omega) d1)
                have b2 := b1.1 _ d4
                obtain ⟨l3, r1, r2⟩ := b1.2
                have b3 := a1.1 (d :: l3) (by
                  rw [show n - i = (n - (i + 1)) + 1 by omega, bB, mem_stL]
                  exact ⟨d, l3, rfl, Or.inr ⟨d1, d2, d3, r1⟩⟩)
                simp only [gS, gt] at hgs b3
                rw [if_neg (by omega)] at hgs b3
                rw [e1] at hgs
                omega
              rcases hp i (by omega) with ⟨h1, _, h3⟩ | ⟨h1, h2⟩
              · have : ¬ q i < p i := fun c2 => h3 (q i) c2 hfit
                omega
              · exact absurd hfit (h2 (q i) (by omega))
        · exact Or.inr h
    exact key n (Nat.le_refl _)
/-! ===== one best alone ===== -/
theorem sm_eqt {f g : Nat → Int} : ∀ {n : Nat}, (∀ i, i < n → f i ≤ g i) → sm g n ≤ sm f n → ∀ i, i < n → f i = g i
  | 0, _, _, i, hi => by omega
  | n + 1, h, he, i, hi => by
    simp only [sm] at he
    have h1 := sm_le (n := n) (fun i hi => h i (by omega))
    have h2 := h n (by omega)
    by_cases e : i = n
    · subst e; omega
    · have h3 : sm g n ≤ sm f n := by omega
      exact sm_eqt (fun i hi => h i (by omega)) h3 i (by omega)
theorem only_C {n m : Nat} (hn : n ≤ 10) {al : Nat → Nat → Bool} {g : Nat → Nat → Int} {v z : Int} {F : Nat → Nat} (h : isL n m al g v) (hF : aQ n m al F) (hz : isL n m al (fun i j => 32 * g i j + (if j = F i then 1 else -1)) z) : z = 32 * wS g n F + pN n F ↔ wS g n F = v ∧ ∀ q, aQ n m al q → wS g n q = v → ∀ i, i < n → q i = F i := by
  have hs : ∀ q : Nat → Nat, wS (fun i j => if j = F i then 1 else -1) n q ≤ pN n F ∧ -10 ≤ wS (fun i j => if j = F i then 1 else -1) n q ∧ (pN n F ≤ wS (fun i j => if j = F i then 1 else -1) n q → ∀ i, i < n → q i = F i) := by
    intro q
    have h0 : ∀ i, i < n → gt (fun i j => if j = F i then 1 else -1) i (q i) ≤ (pc (F i) : Int) := fun i _ => by
      unfold gt pc
      dsimp only
      by_cases e : q i = 10
      · rw [if_pos e]; split <;> decide
      · rw [if_neg e]
        by_cases e2 : q i = F i
        · rw [if_pos e2, if_neg (by omega)]; decide
        · rw [if_neg e2]; split <;> decide
    refine ⟨sm_le h0, ?_, fun hle i hi => ?_⟩
    · have := sm_bd (f := fun i => gt (fun i j => if j = F i then 1 else -1) i (q i)) (a := -1) (b := 1) (n := n) (fun i _ => by
        unfold gt
        dsimp only
        split
        · decide
        · split <;> decide)
      unfold wS
      omega
    · have := sm_eqt h0 hle i hi
      unfold gt pc at this
      dsimp only at this
      by_cases e : q i = 10
      · rw [if_pos e] at this
        by_cases e2 : F i = 10
        · omega
        · rw [if_neg e2] at this; simp at this
      · rw [if_neg e] at this
        by_cases e2 : q i = F i
        · exact e2
        · rw [if_neg e2] at this
          split at this <;> simp at this
  have hFF : wS (fun i j => if j = F i then 1 else -1) n F = pN n F := sm_congr (fun i _ => by
    unfold gt pc
    split <;> simp)
  have hb := pN_bd hn F
  obtain ⟨h1, p, h2, h3⟩ := h
  constructor
  · intro e
    have a1 := h1 F hF
    have a2 := hz.1 p h2
    rw [wS_lin] at a2
    have a3 := (hs p).1
    have hG : wS g n F = v := by omega
    refine ⟨hG, fun q hq hv => (hs q).2.2 ?_⟩
    have a4 := hz.1 q hq
    rw [wS_lin] at a4
    omega
  · rintro ⟨e1, e2⟩
    refine isL_un hz ⟨fun q hq => ?_, F, hF, by rw [wS_lin, hFF]⟩
    rw [wS_lin]
    have a1 := h1 q hq
    have a2 := (hs q).2.1
    by_cases c : wS g n q = v
    · have e3 := e2 q hq c
      have : wS (fun i j => if j = F i then 1 else -1) n q = wS (fun i j => if j = F i then 1 else -1) n F := sm_congr (fun i hi => by rw [e3 i hi])
      rw [this, hFF]
      omega
    · omega
theorem only_R {n m : Nat} (hm : m ≤ 10) {al : Nat → Nat → Bool} {g : Nat → Nat → Int} {v : Int} {b : Nat} {fw gr : Int} {F p : Nat → Nat} (h : sOK (bB m al n 0 0) (gS g 0) v b fw gr) (hp : isF n m al g p) : (b = 1 ∧ ∀ i, i < n → F i = p i) ↔ wS g n F = v ∧ ∀ q, aQ n m al q → wS g n q = v → ∀ i, i < n → q i = F i := by
  have hL := sOK_L hm h
  have hpv : wS g n p = v := by
    obtain ⟨h1, q, h2, h3⟩ := hL
    have := hp.2.1 q h2
    have := h1 p hp.1
    omega
  have hb := h.2.2.1
  have hinj : ∀ (q r : Nat → Nat) (k i : Nat), lst q i k = lst r i k → ∀ t, t < k → q (i + t) = r (i + t) := by
    intro q r k
    induction k with
    | zero => intro i _ t ht; omega
    | succ k ih =>
      intro i e t ht
      rw [lst, lst] at e
      obtain ⟨e1, e2⟩ := List.cons.inj e
      cases t with
      | zero => exact e1
      | succ t =>
        have := ih (i + 1) e2 t (by omega)
        rw [show i + 1 + t = i + (t + 1) by omega] at this
        exact this
  have hsame : ∀ (q r : Nat → Nat) (k i : Nat), (∀ t, t < k → q (i + t) = r (i + t)) → lst q i k = lst r i k := by
    intro q r k
    induction k with
    | zero => intro i _; rfl
    | succ k ih =>
      intro i e
      rw [lst, lst]
      congr 1
      · exact e 0 (by omega)
      · exact ih (i + 1) (fun t ht => by
          have := e (t + 1) (by omega)
          rw [show i + (t + 1) = i + 1 + t by omega] at this
          exact this)
  have hmem : ∀ q, aQ n m al q → wS g n q = v → lst q 0 n ∈ (bB m al n 0 0).filter (fun l => decide (gS g 0 l = v)) := fun q hq e => List.mem_filter.mpr ⟨(mem_b0 hm).mpr hq, by simp [gS_0, e]⟩
  constructor
  · rintro ⟨rfl, e⟩
    have hF : wS g n F = wS g n p := sm_congr (fun i hi => by rw [e i hi])
    refine ⟨by omega, fun q hq hv i hi => ?_⟩
    obtain ⟨l0, hl0⟩ := List.length_eq_one_iff.mp hb.symm
    have m1 := hmem q hq hv
    have m2 := hmem p hp.1 hpv
    rw [hl0, List.mem_singleton] at m1 m2
    have := hinj q p n 0 (m1.trans m2.symm) i hi
    rw [Nat.zero_add] at this
    rw [this, e i hi]
  · rintro ⟨e1, e2⟩
    have ep := e2 p hp.1 hpv
    refine ⟨?_, fun i hi => (ep i hi).symm⟩
    have hnd : ((bB m al n 0 0).filter (fun l => decide (gS g 0 l = v))).Nodup := List.Pairwise.filter _ (nd_bB hm)
    have hall : ∀ l, l ∈ (bB m al n 0 0).filter (fun l => decide (gS g 0 l = v)) → l = lst p 0 n := by
      intro l hl
      obtain ⟨l1, l2⟩ := List.mem_filter.mp hl
      obtain ⟨q, rfl⟩ := b0_ex l1
      simp only [decide_eq_true_eq, gS_0] at l2
      have := e2 q ((mem_b0 hm).mp l1) l2
      exact hsame q p n 0 (fun t ht => by rw [Nat.zero_add, this t ht, ep t ht])
    have hne := hmem p hp.1 hpv
    rw [hb]
    generalize (bB m al n 0 0).filter (fun l => decide (gS g 0 l = v)) = L at *
    match L, hnd, hall, hne with
    | [], _, _, h => cases h
    | [_], _, _, _ => rfl
    | x :: y :: L, hnd, hall, _ =>
      have e3 := hall x (by simp)
      have e4 := hall y (by simp)
      rw [e3, e4] at hnd
      simp at hnd
