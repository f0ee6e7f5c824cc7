/-! ===== sums over a stretch ===== -/
def sm (f : Nat → Int) : Nat → Int
  | 0 => 0
  | n + 1 => sm f n + f n
theorem sm_congr {f g : Nat → Int} : ∀ {n : Nat}, (∀ i, i < n → f i = g i) → sm f n = sm g n
  | 0, _ => rfl
  | n + 1, h => by
    rw [sm, sm, sm_congr (fun i hi => h i (by omega)), h n (by omega)]
theorem sm_le {f g : Nat → Int} : ∀ {n : Nat}, (∀ i, i < n → f i ≤ g i) → sm f n ≤ sm g n
  | 0, _ => Int.le_refl _
  | n + 1, h => by
    have h1 := sm_le (n := n) (fun i hi => h i (by omega))
    have h2 := h n (by omega)
    simp only [sm]
    omega
theorem sm_add (f g : Nat → Int) : ∀ n : Nat, sm (fun i => f i + g i) n = sm f n + sm g n
  | 0 => rfl
  | n + 1 => by
    simp only [sm, sm_add f g n]
    omega
theorem sm_zero {f : Nat → Int} : ∀ {n : Nat}, (∀ i, i < n → f i = 0) → sm f n = 0
  | 0, _ => rfl
  | n + 1, h => by
    rw [sm, sm_zero (fun i hi => h i (by omega)), h n (by omega)]
    rfl
theorem sm_one {f : Nat → Int} {k : Nat} : ∀ {n : Nat}, k < n → (∀ i, i < n → i ≠ k → f i = 0) → sm f n = f k
  | 0, h, _ => absurd h (Nat.not_lt_zero _)
  | n + 1, h, h0 => by
    rw [sm]
    by_cases e : k = n
    · subst e
      rw [sm_zero (fun i hi => h0 i (by omega) (by omega))]
      omega
    · rw [sm_one (k := k) (by omega) (fun i hi => h0 i (by omega)), h0 n (by omega) (by omega)]
      omega
theorem sm_front (f : Nat → Int) : ∀ n : Nat, sm f (n + 1) = f 0 + sm (fun t => f (t + 1)) n
  | 0 => by simp [sm]
  | n + 1 => by
    rw [sm, sm_front f n, sm]
    omega
theorem sm_mul (c : Int) (f : Nat → Int) : ∀ n : Nat, sm (fun i => c * f i) n = c * sm f n
  | 0 => by simp [sm]
  | n + 1 => by
    simp only [sm, sm_mul c f n, Int.mul_add]
theorem sm_bd {f : Nat → Int} {a b : Int} : ∀ {n : Nat}, (∀ i, i < n → a ≤ f i ∧ f i ≤ b) → n * a ≤ sm f n ∧ sm f n ≤ n * b
  | 0, _ => by simp [sm]
  | n + 1, h => by
    have h1 := sm_bd (n := n) (fun i hi => h i (by omega))
    have h2 := h n (by omega)
    simp only [sm]
    have e1 : ((n + 1 : Nat) : Int) * a = n * a + a := by rw [Int.natCast_add, Int.add_mul]; simp
    have e2 : ((n + 1 : Nat) : Int) * b = n * b + b := by rw [Int.natCast_add, Int.add_mul]; simp
    omega
theorem sm_upd {f : Nat → Int} {k : Nat} {v : Int} {n : Nat} (hk : k < n) : sm (fun i => if i = k then v else f i) n = sm f n + (v - f k) := by
  have h : sm (fun i => (if i = k then v else f i) + (if i = k then f k - v else 0)) n = sm f n := sm_congr (fun i _ => by
    by_cases e : i = k
    · subst e; simp; omega
    · simp [e])
  rw [sm_add] at h
  have h2 : sm (fun i => if i = k then f k - v else 0) n = f k - v := by
    rw [sm_one hk (fun i _ hn => if_neg hn), if_pos rfl]
  omega
/-- rows at columns of their own have no more than all columns -/
theorem sm_inj {m : Nat} {p : Nat → Nat} : ∀ {n : Nat} {g : Nat → Int}, (∀ j, j < m → 0 ≤ g j) → (∀ i k, i < k → k < n → p i = p k → m ≤ p i) → sm (fun i => if p i < m then g (p i) else 0) n ≤ sm g m
  | 0, g, hg, _ => by
    have := sm_le (f := fun _ => 0) (g := g) (n := m) (fun j hj => hg j hj)
    rw [sm_zero (fun _ _ => rfl)] at this
    exact this
  | n + 1, g, hg, hp => by
    rw [sm]
    by_cases hc : p n < m
    · rw [if_pos hc]
      have h1 := sm_inj (n := n) (p := p) (g := fun j => if j = p n then 0 else g j) (fun j hj => by
        by_cases e : j = p n
        · simp [e]
        · simp [e]; exact hg j hj) (fun i k h1 h2 h3 => hp i k h1 (by omega) h3)
      rw [sm_upd hc] at h1
      have h2 : sm (fun i => if p i < m then (if p i = p n then 0 else g (p i)) else 0) n = sm (fun i => if p i < m then g (p i) else 0) n := sm_congr (fun i hi => by
        by_cases e : p i < m
        · rw [if_pos e, if_pos e, if_neg]
          intro q
          have := hp i n hi (by omega) q
          omega
        · rw [if_neg e, if_neg e])
      rw [h2] at h1
      omega
    · rw [if_neg hc]
      have h1 := sm_inj (n := n) hg (fun i k h1 h2 h3 => hp i k h1 (by omega) h3)
      omega
/-! ===== pairings: 10 stands for none ===== -/
def vP (n m : Nat) (p : Nat → Nat) : Prop := (∀ i, i < n → p i < m ∨ p i = 10) ∧ ∀ i k, i < k → k < n → p i = p k → p i = 10
def aQ (n m : Nat) (al : Nat → Nat → Bool) (p : Nat → Nat) : Prop := vP n m p ∧ ∀ i, i < n → al i (p i) = true
def gt (g : Nat → Nat → Int) (i c : Nat) : Int := if c = 10 then 0 else g i c
def wS (g : Nat → Nat → Int) (n : Nat) (p : Nat → Nat) : Int := sm (fun i => gt g i (p i)) n
def pc (c : Nat) : Nat := if c = 10 then 0 else 1
def pN (n : Nat) (p : Nat → Nat) : Int := sm (fun i => (pc (p i) : Int)) n
/-- v is the least sum of all pairings that are allowed -/
def isL (n m : Nat) (al : Nat → Nat → Bool) (g : Nat → Nat → Int) (v : Int) : Prop := (∀ q, aQ n m al q → v ≤ wS g n q) ∧ ∃ p, aQ n m al p ∧ wS g n p = v
theorem isL_un {n m : Nat} {al : Nat → Nat → Bool} {g : Nat → Nat → Int} {v w : Int} (h : isL n m al g v) (k : isL n m al g w) : v = w := by
  obtain ⟨h1, p, h2, h3⟩ := h
  obtain ⟨k1, q, k2, k3⟩ := k
  have := h1 q k2
  have := k1 p h2
  omega
/-- all lists of choices, row by row -/
def stL (a : Nat → Bool) (S : Nat) (R : Nat → List (List Nat)) : Nat → List (List Nat)
  | 0 => if a 10 = true then (R S).map (fun l => 10 :: l) else []
  | j + 1 => stL a S R j ++ (if S.testBit j = false ∧ a j = true then (R (S ||| 2 ^ j)).map (fun l => j :: l) else [])
def bB (m : Nat) (al : Nat → Nat → Bool) : Nat → Nat → Nat → List (List Nat)
  | 0, _, _ => [[]]
  | k + 1, i, S => stL (al i) S (fun S' => bB m al k (i + 1) S') m
def gS (g : Nat → Nat → Int) : Nat → List Nat → Int
  | _, [] => 0
  | i, c :: l => gt g i c + gS g (i + 1) l
def pS : List Nat → Nat
  | [] => 0
  | c :: l => pc c + pS l
theorem mem_stL {a : Nat → Bool} {S : Nat} {R : Nat → List (List Nat)} {l : List Nat} : ∀ {j : Nat}, l ∈ stL a S R j ↔ ∃ c l', l = c :: l' ∧ ((c = 10 ∧ a 10 = true ∧ l' ∈ R S) ∨ (c < j ∧ S.testBit c = false ∧ a c = true ∧ l' ∈ R (S ||| 2 ^ c)))
  | 0 => by
    simp only [stL]
    by_cases h : a 10 = true
    · rw [if_pos h]
      simp only [List.mem_map]
      constructor
      · rintro ⟨l', h1, rfl⟩
        exact ⟨10, l', rfl, Or.inl ⟨rfl, h, h1⟩⟩
      · rintro ⟨c, l', rfl, ⟨rfl, _, h1⟩ | ⟨h1, _⟩⟩
        · exact ⟨l', h1, rfl⟩
        · omega
    · rw [if_neg h]
      constructor
      · intro h; cases h
      · rintro ⟨c, l', rfl, ⟨rfl, h1, _⟩ | ⟨h1, _⟩⟩
        · exact absurd h1 h
        · omega
  | j + 1 => by
    simp only [stL, List.mem_append, mem_stL (j := j)]
    constructor
    · rintro (⟨c, l', h0, h1 | ⟨h1, h2⟩⟩ | h)
      · exact ⟨c, l', h0, Or.inl h1⟩
      · exact ⟨c, l', h0, Or.inr ⟨by omega, h2⟩⟩
      · by_cases e : S.testBit j = false ∧ a j = true
        · rw [if_pos e] at h
          simp only [List.mem_map] at h
          obtain ⟨l', h1, rfl⟩ := h
          exact ⟨j, l', rfl, Or.inr ⟨by omega, e.1, e.2, h1⟩⟩
        · rw [if_neg e] at h
          cases h
    · rintro ⟨c, l', h0, h1 | ⟨h1, h2, h3, h4⟩⟩
      · exact Or.inl ⟨c, l', h0, Or.inl h1⟩
      · by_cases e : c = j
        · subst e
          right
          rw [if_pos ⟨h2, h3⟩]
          exact List.mem_map.mpr ⟨l', h4, h0.symm⟩
        · exact Or.inl ⟨c, l', h0, Or.inr ⟨by omega, h2, h3, h4⟩⟩
def lst (p : Nat → Nat) : Nat → Nat → List Nat
  | _, 0 => []
  | i, k + 1 => p i :: lst p (i + 1) k
theorem tb_or (S c d : Nat) : (S ||| 2 ^ c).testBit d = (S.testBit d || decide (c = d)) := by
  rw [Nat.testBit_or, Nat.testBit_two_pow]
/-- which lists they are -/
theorem mem_bB {m : Nat} (hm : m ≤ 10) {al : Nat → Nat → Bool} {p : Nat → Nat} : ∀ {k i S : Nat}, lst p i k ∈ bB m al k i S ↔ (∀ t, t < k → al (i + t) (p (i + t)) = true ∧ (p (i + t) = 10 ∨ (p (i + t) < m ∧ S.testBit (p (i + t)) = false))) ∧ ∀ s t, s < t → t < k → p (i + s) = p (i + t) → p (i + s) = 10
  | 0, i, S => by simp [lst, bB]
  | k + 1, i, S => by
    rw [lst, bB, mem_stL]
    constructor
    · rintro ⟨c, l', h0, h⟩
      obtain ⟨rfl, rfl⟩ := List.cons.inj h0
      rcases h with ⟨h1, h2, h3⟩ | ⟨h1, h2, h3, h4⟩
      · rw [mem_bB hm] at h3
        obtain ⟨a1, a2⟩ := h3
        refine ⟨fun t ht => ?_, fun s t hs ht he => ?_⟩
        · cases t with
          | zero => simp only [Nat.add_zero]; exact ⟨h1 ▸ h2, Or.inl h1⟩
          | succ t =>
            have := a1 t (by omega)
            rw [show i + (t + 1) = i + 1 + t by omega]
            exact this
        · cases s with
          | zero => exact h1
          | succ s =>
            obtain ⟨t, rfl⟩ : ∃ t', t = t' + 1 := ⟨t - 1, by omega⟩
            have := a2 s t (by omega) (by omega)
            rw [show i + (s + 1) = i + 1 + s by omega, show i + (t + 1) = i + 1 + t by omega] at *
            exact this he
      · rw [mem_bB hm] at h4
        obtain ⟨a1, a2⟩ := h4
        refine ⟨fun t ht => ?_, fun s t hs ht he => ?_⟩
        · cases t with
          | zero => simp only [Nat.add_zero]; exact ⟨h3, Or.inr ⟨h1, h2⟩⟩
          | succ t =>
            have := a1 t (by omega)
            rw [show i + (t + 1) = i + 1 + t by omega]
            refine ⟨this.1, this.2.imp (fun h => h) (fun h => ⟨h.1, ?_⟩)⟩
            have h5 := h.2
            rw [tb_or] at h5
            simp only [Bool.or_eq_false_iff] at h5
            exact h5.1
        · cases s with
          | zero =>
            obtain ⟨t, rfl⟩ : ∃ t', t = t' + 1 := ⟨t - 1, by omega⟩
            have h6 := (a1 t (by omega)).2
            rw [show i + (t + 1) = i + 1 + t by omega] at he
            rw [Nat.add_zero] at he ⊢
            rcases h6 with h6 | ⟨_, h6⟩
            · omega
            · rw [tb_or] at h6
              simp only [Bool.or_eq_false_iff, decide_eq_false_iff_not] at h6
              exact absurd he h6.2
          | succ s =>
            obtain ⟨t, rfl⟩ : ∃ t', t = t' + 1 := ⟨t - 1, by omega⟩
            have := a2 s t (by omega) (by omega)
            rw [show i + (s + 1) = i + 1 + s by omega, show i + (t + 1) = i + 1 + t by omega] at *
            exact this he
    · rintro ⟨h1, h2⟩
      have h3 := h1 0 (by omega)
      rw [Nat.add_zero] at h3
      refine ⟨p i, lst p (i + 1) k, rfl, ?_⟩
      rcases h3.2 with e | ⟨e1, e2⟩
      · left
        refine ⟨e, e ▸ h3.1, (mem_bB hm).mpr ⟨fun t ht => ?_, fun s t hs ht he => ?_⟩⟩
        · have := h1 (t + 1) (by omega)
          rw [show i + (t + 1) = i + 1 + t by omega] at this
          exact this
        · have := h2 (s + 1) (t + 1) (by omega) (by omega)
          rw [show i + (s + 1) = i + 1 + s by omega, show i + (t + 1) = i + 1 + t by omega] at this
          exact this he
      · right
        refine ⟨e1, e2, h3.1, (mem_bB hm).mpr ⟨fun t ht => ?_, fun s t hs ht he => ?_⟩⟩
        · have := h1 (t + 1) (by omega)
          have h4 := h2 0 (t + 1) (by omega) (by omega)
          rw [Nat.add_zero] at h4
          rw [show i + (t + 1) = i + 1 + t by omega] at this h4
          refine ⟨this.1, this.2.imp (fun h => h) (fun h => ⟨h.1, ?_⟩)⟩
          rw [tb_or, h.2]
          simp only [Bool.false_or, decide_eq_false_iff_not]
          intro q
          have := h4 q
          omega
        · have := h2 (s + 1) (t + 1) (by omega) (by omega)
          rw [show i + (s + 1) = i + 1 + s by omega, show i + (t + 1) = i + 1 + t by omega] at this
          exact this he
theorem len_bB {m : Nat} {al : Nat → Nat → Bool} : ∀ {k i S : Nat} {l : List Nat}, l ∈ bB m al k i S → l.length = k
  | 0, i, S, l, h => by
    rw [bB, List.mem_singleton] at h
    rw [h]; rfl
  | k + 1, i, S, l, h => by
    rw [bB, mem_stL] at h
    obtain ⟨c, l', rfl, ⟨_, _, h1⟩ | ⟨_, _, _, h1⟩⟩ := h
    · simp [len_bB h1]
    · simp [len_bB h1]
theorem lst_of : ∀ (l : List Nat) (p : Nat → Nat) (i : Nat), (∀ t, t < l.length → p (i + t) = l.getD t 10) → l = lst p i l.length
  | [], _, _, _ => rfl
  | c :: l, p, i, h => by
    have h0 := h 0 (by simp)
    have h1 := lst_of l p (i + 1) (fun t ht => by
      have := h (t + 1) (by simp; omega)
      rw [show i + (t + 1) = i + 1 + t by omega] at this
      simpa using this)
    simp only [Nat.add_zero, List.getD_cons_zero] at h0
    rw [List.length_cons, lst, h0, ← h1]
theorem gS_lst (g : Nat → Nat → Int) (p : Nat → Nat) : ∀ (k i : Nat), gS g i (lst p i k) = sm (fun t => gt g (i + t) (p (i + t))) k
  | 0, _ => rfl
  | k + 1, i => by
    rw [lst, gS, gS_lst g p k (i + 1), sm_front]
    congr 1
    apply sm_congr
    intro t _
    rw [show i + 1 + t = i + (t + 1) by omega]
theorem pS_lst (p : Nat → Nat) : ∀ (k i : Nat), (pS (lst p i k) : Int) = sm (fun t => (pc (p (i + t)) : Int)) k
  | 0, _ => rfl
  | k + 1, i => by
    rw [lst, pS, Int.natCast_add, pS_lst p k (i + 1), sm_front]
    congr 1
    apply sm_congr
    intro t _
    rw [show i + 1 + t = i + (t + 1) by omega]
theorem mem_b0 {n m : Nat} (hm : m ≤ 10) {al : Nat → Nat → Bool} {p : Nat → Nat} : lst p 0 n ∈ bB m al n 0 0 ↔ aQ n m al p := by
  rw [mem_bB hm]
  simp only [Nat.zero_add, Nat.zero_testBit, and_true]
  constructor
  · rintro ⟨h1, h2⟩
    exact ⟨⟨fun i hi => (h1 i hi).2.symm, fun i k hk hn he => h2 i k hk hn he⟩, fun i hi => (h1 i hi).1⟩
  · rintro ⟨⟨h1, h2⟩, h3⟩
    exact ⟨fun t ht => ⟨h3 t ht, (h1 t ht).symm⟩, fun s t hs ht he => h2 s t hs ht he⟩
theorem b0_ex {n m : Nat} {al : Nat → Nat → Bool} {l : List Nat} (h : l ∈ bB m al n 0 0) : ∃ p, l = lst p 0 n := by
  have h1 := lst_of l (fun t => l.getD t 10) 0 (fun t _ => by rw [Nat.zero_add])
  rw [len_bB h] at h1
  exact ⟨_, h1⟩
theorem gS_0 (g : Nat → Nat → Int) (n : Nat) (p : Nat → Nat) : gS g 0 (lst p 0 n) = wS g n p := by
  rw [gS_lst]
  exact sm_congr (fun i _ => by rw [Nat.zero_add])
theorem pS_0 (n : Nat) (p : Nat → Nat) : (pS (lst p 0 n) : Int) = pN n p := by
  rw [pS_lst]
  exact sm_congr (fun i _ => by rw [Nat.zero_add])
