/-! ===== seats: the Hungarian way ===== -/
/-- boxes: no more in a row than there is room -/
theorem pigeon {k R : Nat} {f : Nat → Nat} (h : ∀ t, t < k → f t < R) (hi : ∀ s t, s < t → t < k → f s ≠ f t) : k ≤ R := by
  have h1 := sm_inj (m := R) (p := f) (n := k) (g := fun _ => 1) (fun _ _ => by omega) (fun s t a b c => absurd c (hi s t a b))
  have h2 : sm (fun t => if f t < R then (1 : Int) else 0) k = sm (fun _ => 1) k := sm_congr (fun t ht => if_pos (h t ht))
  have h3 : ∀ n : Nat, sm (fun _ => 1) n = n := fun n => by
    have := sm_bd (f := fun _ => 1) (a := 1) (b := 1) (n := n) (fun _ _ => by omega)
    omega
  rw [h2, h3, h3] at h1
  omega
/-- who sits where: rows 1 to R have columns 1 to C, each its own -/
def HY (C R : Nat) (y : Nat → Nat) : Prop := (∀ c, 1 ≤ c → c ≤ C → y c ≤ R) ∧ (∀ c d, 1 ≤ c → c < d → d ≤ C → y c = y d → y c = 0) ∧ ∀ r, 1 ≤ r → r ≤ R → ∃ c, 1 ≤ c ∧ c ≤ C ∧ y c = r
/-- prices -/
def HD (C R : Nat) (W : Nat → Nat → Int) (y : Nat → Nat) (u v : Nat → Int) : Prop := (∀ r c, 1 ≤ r → r ≤ R → 1 ≤ c → c ≤ C → u r + v c ≤ W (r - 1) (c - 1)) ∧ (∀ c, 1 ≤ c → c ≤ C → y c ≠ 0 → u (y c) + v c = W (y c - 1) (c - 1)) ∧ ∀ c, 1 ≤ c → c ≤ C → v c ≤ 0 ∧ (y c = 0 → v c = 0)
theorem HY_free {C R : Nat} {y : Nat → Nat} (h : HY C R y) (hR : R < C) : ∃ c, 1 ≤ c ∧ c ≤ C ∧ y c = 0 := by
  apply Classical.byContradiction
  intro hn
  have h0 : ∀ c, 1 ≤ c → c ≤ C → y c ≠ 0 := fun c h1 h2 h3 => hn ⟨c, h1, h2, h3⟩
  have := pigeon (k := C) (R := R) (f := fun t => y (t + 1) - 1) (fun t ht => by
    have := h.1 (t + 1) (by omega) (by omega)
    have := h0 (t + 1) (by omega) (by omega)
    omega) (fun s t hs ht e => by
    have h3 := h0 (s + 1) (by omega) (by omega)
    have h4 := h0 (t + 1) (by omega) (by omega)
    exact h3 (h.2.1 (s + 1) (t + 1) (by omega) (by omega) (by omega) (by omega)))
  omega
def zFAR : Int := 1152921504606846976
def zBB : Int := 8796093022208
/-- on the way: columns s 0 = 0, s 1 .. s (K - 1) are seen, s K is at hand; y 0 is the row that wants a seat -/
def HS (C R : Nat) (W : Nat → Nat → Int) (y : Nat → Nat) (u v re : Nat → Int) (bf s : Nat → Nat) (K : Nat) : Prop :=
  (HY C R y ∧ y 0 = R + 1) ∧ HD C R W y u v ∧
  (1 ≤ K → ∀ c, 1 ≤ c → c ≤ C → u (R + 1) + v c ≤ W R (c - 1)) ∧
  (s 0 = 0 ∧ (∀ t t', t < t' → t' ≤ K → s t ≠ s t') ∧ (∀ t, 1 ≤ t → t ≤ K → 1 ≤ s t ∧ s t ≤ C) ∧ ∀ t, t < K → y (s t) ≠ 0) ∧
  (∀ t, 1 ≤ t → t ≤ K → ∃ t', t' < t ∧ bf (s t) = s t' ∧ u (y (s t')) + v (s t) = W (y (s t') - 1) (s t - 1)) ∧
  (1 ≤ K → ∀ c, 1 ≤ c → c ≤ C → (∀ t, t < K → s t ≠ c) → (∃ t, t < K ∧ bf c = s t ∧ re c = W (y (s t) - 1) (c - 1) - u (y (s t)) - v c) ∧ ∀ t, t < K → re c ≤ W (y (s t) - 1) (c - 1) - u (y (s t)) - v c) ∧
  (K = 0 → (∀ c, 1 ≤ c → c ≤ C → re c = zFAR) ∧ u (R + 1) = 0)
/-- rows of seen columns -/
theorem HS_row {C R : Nat} {W : Nat → Nat → Int} {y : Nat → Nat} {u v re : Nat → Int} {bf s : Nat → Nat} {K : Nat} (h : HS C R W y u v re bf s K) {t : Nat} (ht : t ≤ K) (hy : y (s K) ≠ 0) : 1 ≤ y (s t) ∧ y (s t) ≤ R + 1 ∧ (y (s t) = R + 1 → t = 0) := by
  obtain ⟨⟨⟨a1, a2, a3⟩, a4⟩, _, _, ⟨s0, _, s2, s3⟩, _⟩ := h
  by_cases e : t = 0
  · subst e; rw [s0, a4]; omega
  · have h1 := s2 t (by omega) ht
    have h2 := a1 _ h1.1 h1.2
    have h3 : y (s t) ≠ 0 := by
      by_cases e : t = K
      · subst e; exact hy
      · exact s3 t (by omega)
    omega
theorem HS_inj {C R : Nat} {W : Nat → Nat → Int} {y : Nat → Nat} {u v re : Nat → Int} {bf s : Nat → Nat} {K : Nat} (h : HS C R W y u v re bf s K) {c d : Nat} (hc : c ≤ C) (hd : d ≤ C) (hn : y c ≠ 0) (e : y c = y d) : c = d := by
  obtain ⟨⟨⟨a1, a2, a3⟩, a4⟩, _⟩ := h
  rcases Nat.lt_trichotomy c d with q | q | q
  · by_cases c0 : c = 0
    · subst c0
      have := a1 d (by omega) hd
      omega
    · exact absurd (a2 c d (by omega) q hd e) hn
  · exact q
  · by_cases d0 : d = 0
    · subst d0
      have := a1 c (by omega) hc
      omega
    · exact absurd (a2 d c (by omega) q hc e.symm) (e ▸ hn)
theorem HS_le {C R : Nat} {W : Nat → Nat → Int} {y : Nat → Nat} {u v re : Nat → Int} {bf s : Nat → Nat} {K : Nat} (h : HS C R W y u v re bf s K) {t : Nat} (ht : t ≤ K) : s t ≤ C := by
  obtain ⟨_, _, _, ⟨s0, _, s2, _⟩, _⟩ := h
  by_cases e : t = 0
  · subst e; omega
  · exact (s2 t (by omega) ht).2
/-- no more steps than rows -/
theorem HS_K {C R : Nat} {W : Nat → Nat → Int} {y : Nat → Nat} {u v re : Nat → Int} {bf s : Nat → Nat} {K : Nat} (h : HS C R W y u v re bf s K) : K ≤ R + 1 := by
  obtain ⟨⟨⟨a1, a2, a3⟩, a4⟩, _, _, ⟨s0, s1, s2, s3⟩, _⟩ := id h
  refine pigeon (k := K) (R := R + 1) (f := fun t => y (s t) - 1) (fun t ht => ?_) (fun t t' h1 h2 e => ?_)
  · have := s3 t ht
    by_cases e : t = 0
    · subst e; show y (s 0) - 1 < R + 1; rw [s0, a4]; omega
    · have h1 := s2 t (by omega) (by omega)
      have := a1 _ h1.1 h1.2
      show y (s t) - 1 < R + 1
      omega
  · have h3 := s3 t (by omega)
    have h4 := s3 t' (by omega)
    have e : y (s t) - 1 = y (s t') - 1 := e
    exact s1 t t' h1 (by omega) (HS_inj h (HS_le h (by omega)) (HS_le h (by omega)) h3 (by omega))
/-- how great prices can be -/
theorem HS_bd {C R : Nat} {W : Nat → Nat → Int} {y : Nat → Nat} {u v re : Nat → Int} {bf s : Nat → Nat} {K : Nat} (hW : ∀ i j, -zBB ≤ W i j ∧ W i j ≤ 0) (hR : R < C) (h : HS C R W y u v re bf s K) : (∀ r, 1 ≤ r → r ≤ R + 1 → -zBB ≤ u r ∧ u r ≤ 0) ∧ ∀ c, 1 ≤ c → c ≤ C → -zBB ≤ v c ∧ v c ≤ 0 := by
  obtain ⟨⟨a, a4⟩, ⟨b1, b2, b3⟩, c1, ⟨s0, s1, s2, s3⟩, d1, d2, d3⟩ := h
  obtain ⟨f, f1, f2, f3⟩ := HY_free a hR
  have hf := (b3 f f1 f2).2 f3
  have hu : ∀ r, 1 ≤ r → r ≤ R → -zBB ≤ u r ∧ u r ≤ 0 := by
    intro r h1 h2
    obtain ⟨c, e1, e2, e3⟩ := a.2.2 r h1 h2
    have k1 := b2 c e1 e2 (by omega)
    rw [e3] at k1
    have k2 := (b3 c e1 e2).1
    have k3 := b1 r f h1 h2 f1 f2
    have k4 := hW (r - 1) (c - 1)
    have k5 := hW (r - 1) (f - 1)
    omega
  refine ⟨fun r h1 h2 => ?_, fun c h1 h2 => ?_⟩
  · by_cases e : r ≤ R
    · exact hu r h1 e
    · have e : r = R + 1 := by omega
      subst e
      by_cases k : K = 0
      · have := (d3 k).2
        unfold zBB
        omega
      · have k1 := c1 (by omega) f f1 f2
        obtain ⟨t', t1, t2, t3⟩ := d1 1 (by omega) (by omega)
        have : t' = 0 := by omega
        subst this
        rw [s0, a4] at t3
        have k2 := s2 1 (by omega) (by omega)
        have k3 := (b3 _ k2.1 k2.2).1
        have k4 := hW (R + 1 - 1) (s 1 - 1)
        have k5 := hW R (f - 1)
        omega
  · have k1 := b3 c h1 h2
    by_cases e : y c = 0
    · have := k1.2 e
      unfold zBB
      omega
    · have k2 := b2 c h1 h2 e
      have k3 := hu (y c) (by omega) (a.1 c h1 h2)
      have k4 := hW (y c - 1) (c - 1)
      omega
/-- one step -/
theorem HS_step {C R K : Nat} {W : Nat → Nat → Int} {y : Nat → Nat} {u v re : Nat → Int} {bf s : Nat → Nat} (hW : ∀ i j, -zBB ≤ W i j ∧ W i j ≤ 0) (hR : R < C) (h : HS C R W y u v re bf s K) (hy : y (s K) ≠ 0)
    {re1 : Nat → Int} {bf1 : Nat → Nat}
    (h1 : ∀ c, 1 ≤ c → c ≤ C → (∀ t, t ≤ K → s t ≠ c) → (W (y (s K) - 1) (c - 1) - u (y (s K)) - v c < re c → re1 c = W (y (s K) - 1) (c - 1) - u (y (s K)) - v c ∧ bf1 c = s K) ∧ (re c ≤ W (y (s K) - 1) (c - 1) - u (y (s K)) - v c → re1 c = re c ∧ bf1 c = bf c))
    (h1' : ∀ t, 1 ≤ t → t ≤ K → bf1 (s t) = bf (s t))
    {cs : Nat} (hcs : (1 ≤ cs ∧ cs ≤ C) ∧ (∀ t, t ≤ K → s t ≠ cs) ∧ ∀ c, 1 ≤ c → c ≤ C → (∀ t, t ≤ K → s t ≠ c) → re1 cs ≤ re1 c)
    {u1 v1 re2 : Nat → Int}
    (h2 : ∀ t, t ≤ K → u1 (y (s t)) = u (y (s t)) + re1 cs)
    (h2' : ∀ r, (∀ t, t ≤ K → y (s t) ≠ r) → u1 r = u r)
    (h3 : ∀ t, 1 ≤ t → t ≤ K → v1 (s t) = v (s t) - re1 cs)
    (h3' : ∀ c, 1 ≤ c → c ≤ C → (∀ t, t ≤ K → s t ≠ c) → v1 c = v c ∧ re2 c = re1 c - re1 cs) :
    HS C R W y u1 v1 re2 bf1 (fun t => if t = K + 1 then cs else s t) (K + 1) := by
  have hb := HS_bd hW hR h
  have hrow := fun t ht => HS_row (t := t) h ht hy
  have hinj := fun c d a b e f => HS_inj (c := c) (d := d) h a b e f
  have hle := fun t ht => HS_le (t := t) h ht
  obtain ⟨⟨a, a4⟩, ⟨b1, b2, b3⟩, c1, ⟨s0, s1, s2, s3⟩, d1, d2, d3⟩ := h
  -- how near unseen columns are
  have hnear : ∀ c, 1 ≤ c → c ≤ C → (∀ t, t ≤ K → s t ≠ c) → (∃ t, t ≤ K ∧ bf1 c = s t ∧ re1 c = W (y (s t) - 1) (c - 1) - u (y (s t)) - v c) ∧ ∀ t, t ≤ K → re1 c ≤ W (y (s t) - 1) (c - 1) - u (y (s t)) - v c := by
    intro c p1 p2 p3
    obtain ⟨q1, q2⟩ := h1 c p1 p2 p3
    by_cases k : K = 0
    · subst k
      have e1 := (d3 rfl).1 c p1 p2
      have e2 := (hb.1 _ (hrow 0 (Nat.le_refl _)).1 (hrow 0 (Nat.le_refl _)).2.1)
      have e3 := hb.2 c p1 p2
      have e4 := hW (y (s 0) - 1) (c - 1)
      have := q1 (by unfold zFAR at e1; unfold zBB at *; omega)
      refine ⟨⟨0, by omega, this.2, this.1⟩, fun t ht => ?_⟩
      have : t = 0 := by omega
      subst this
      omega
    · obtain ⟨⟨t, e1, e2, e3⟩, e4⟩ := d2 (by omega) c p1 p2 (fun t ht => p3 t (by omega))
      by_cases q : W (y (s K) - 1) (c - 1) - u (y (s K)) - v c < re c
      · have := q1 q
        refine ⟨⟨K, by omega, this.2, this.1⟩, fun t ht => ?_⟩
        by_cases e : t = K
        · subst e; omega
        · have := e4 t (by omega); omega
      · have := q2 (by omega)
        refine ⟨⟨t, by omega, by rw [this.2, e2], by rw [this.1, e3]⟩, fun t ht => ?_⟩
        by_cases e : t = K
        · subst e; omega
        · have := e4 t (by omega); omega
  -- the shift is no less than 0, but for the first
  have hpos : 1 ≤ K → 0 ≤ re1 cs := by
    intro k
    obtain ⟨⟨t, e1, e2, e3⟩, _⟩ := hnear cs hcs.1.1 hcs.1.2 hcs.2.1
    have q := hrow t e1
    rw [e3]
    by_cases e : y (s t) = R + 1
    · have := c1 k cs hcs.1.1 hcs.1.2
      rw [e]
      simp only [Nat.add_sub_cancel]
      omega
    · have := b1 (y (s t)) cs q.1 (by omega) hcs.1.1 hcs.1.2
      omega
  -- a row is at hand just where its column is
  have hseen : ∀ c, 1 ≤ c → c ≤ C → y c ≠ 0 → ((∃ t, 1 ≤ t ∧ t ≤ K ∧ s t = c) ∧ u1 (y c) = u (y c) + re1 cs ∧ v1 c = v c - re1 cs) ∨ ((∀ t, t ≤ K → s t ≠ c) ∧ u1 (y c) = u (y c) ∧ v1 c = v c) := by
    intro c p1 p2 p3
    by_cases e : ∃ t, t ≤ K ∧ s t = c
    · obtain ⟨t, t1, rfl⟩ := e
      have : t ≠ 0 := by
        rintro rfl
        omega
      exact Or.inl ⟨⟨t, by omega, t1, rfl⟩, h2 t t1, h3 t (by omega) t1⟩
    · have e : ∀ t, t ≤ K → s t ≠ c := fun t ht q => e ⟨t, ht, q⟩
      refine Or.inr ⟨e, h2' _ (fun t ht q => ?_), (h3' c p1 p2 e).1⟩
      exact e t ht (hinj _ _ (hle t ht) p2 (by omega) q)
  have hv : ∀ c, 1 ≤ c → c ≤ C → (∃ t, 1 ≤ t ∧ t ≤ K ∧ s t = c ∧ v1 c = v c - re1 cs) ∨ ((∀ t, t ≤ K → s t ≠ c) ∧ v1 c = v c) := by
    intro c p1 p2
    by_cases e : ∃ t, t ≤ K ∧ s t = c
    · obtain ⟨t, t1, rfl⟩ := e
      have : t ≠ 0 := by
        rintro rfl
        omega
      exact Or.inl ⟨t, by omega, t1, rfl, h3 t (by omega) t1⟩
    · have e : ∀ t, t ≤ K → s t ≠ c := fun t ht q => e ⟨t, ht, q⟩
      exact Or.inr ⟨e, (h3' c p1 p2 e).1⟩
  have hfeas : ∀ r c, 1 ≤ r → r ≤ R + 1 → 1 ≤ c → c ≤ C → u1 r + v1 c ≤ W (r - 1) (c - 1) := by
    intro r c p1 p2 p3 p4
    by_cases e : ∃ t, t ≤ K ∧ y (s t) = r
    · obtain ⟨t, t1, rfl⟩ := e
      rw [h2 t t1]
      rcases hv c p3 p4 with ⟨t', q1, q2, q3, q4⟩ | ⟨q1, q2⟩
      · rw [q4]
        by_cases e : y (s t) = R + 1
        · have := c1 (by omega) c p3 p4
          rw [e]
          simp only [Nat.add_sub_cancel]
          omega
        · have := b1 (y (s t)) c p1 (by omega) p3 p4
          omega
      · rw [q2]
        have k1 := (hnear c p3 p4 q1).2 t t1
        have k2 := hcs.2.2 c p3 p4 q1
        omega
    · have e : ∀ t, t ≤ K → y (s t) ≠ r := fun t ht q => e ⟨t, ht, q⟩
      rw [h2' r e]
      have hr : r ≤ R := by
        have := e 0 (by omega)
        rw [s0, a4] at this
        omega
      have k0 := b1 r c p1 hr p3 p4
      rcases hv c p3 p4 with ⟨t', q1, q2, q3, q4⟩ | ⟨q1, q2⟩
      · have := hpos (by omega)
        omega
      · omega
  refine ⟨⟨a, a4⟩, ⟨fun r c p1 p2 p3 p4 => hfeas r c p1 (by omega) p3 p4, fun c p1 p2 p3 => ?_, fun c p1 p2 => ?_⟩, fun _ c p1 p2 => ?_, ⟨?_, ?_, ?_, ?_⟩, ?_, ?_, fun k => by omega⟩
  · have := b2 c p1 p2 p3
    rcases hseen c p1 p2 p3 with ⟨_, q1, q2⟩ | ⟨_, q1, q2⟩
    · omega
    · omega
  · have k := b3 c p1 p2
    rcases hv c p1 p2 with ⟨t, q1, q2, q3, q4⟩ | ⟨_, q2⟩
    · have := hpos (by omega)
      refine ⟨by omega, fun e => ?_⟩
      subst q3
      by_cases e1 : t = K
      · subst e1; exact absurd e hy
      · exact absurd e (s3 t (by omega))
    · rw [q2]; exact k
  · have := hfeas (R + 1) c (by omega) (by omega) p1 p2
    simpa using this
  · show (if 0 = K + 1 then cs else s 0) = 0
    rw [if_neg (by omega), s0]
  · intro t t' p1 p2
    show (if t = K + 1 then cs else s t) ≠ (if t' = K + 1 then cs else s t')
    rw [if_neg (by omega)]
    by_cases e : t' = K + 1
    · rw [if_pos e]; exact hcs.2.1 t (by omega)
    · rw [if_neg e]; exact s1 t t' p1 (by omega)
  · intro t p1 p2
    show 1 ≤ (if t = K + 1 then cs else s t) ∧ (if t = K + 1 then cs else s t) ≤ C
    by_cases e : t = K + 1
    · rw [if_pos e]; exact hcs.1
    · rw [if_neg e]; exact s2 t p1 (by omega)
  · intro t p1
    show y (if t = K + 1 then cs else s t) ≠ 0
    rw [if_neg (by omega)]
    by_cases e : t = K
    · subst e; exact hy
    · exact s3 t (by omega)
  · intro t p1 p2
    show ∃ t', t' < t ∧ bf1 (if t = K + 1 then cs else s t) = (if t' = K + 1 then cs else s t') ∧ u1 (y (if t' = K + 1 then cs else s t')) + v1 (if t = K + 1 then cs else s t) = W (y (if t' = K + 1 then cs else s t') - 1) ((if t = K + 1 then cs else s t) - 1)
    by_cases e : t = K + 1
    · obtain ⟨⟨t', q1, q2, q3⟩, _⟩ := hnear cs hcs.1.1 hcs.1.2 hcs.2.1
      refine ⟨t', by omega, ?_⟩
      rw [if_pos e, if_neg (by omega)]
      refine ⟨q2, ?_⟩
      rw [h2 t' q1, (h3' cs hcs.1.1 hcs.1.2 hcs.2.1).1]
      omega
    · obtain ⟨t', q1, q2, q3⟩ := d1 t p1 (by omega)
      refine ⟨t', q1, ?_⟩
      rw [if_neg e, if_neg (by omega)]
      refine ⟨by rw [h1' t p1 (by omega), q2], ?_⟩
      rw [h2 t' (by omega), h3 t p1 (by omega)]
      omega
  · intro _ c p1 p2 p3
    have p3' : ∀ t, t ≤ K → s t ≠ c := fun t ht => by
      have this : (if t = K + 1 then cs else s t) ≠ c := p3 t (by omega)
      rw [if_neg (by omega)] at this
      exact this
    obtain ⟨⟨t, q1, q2, q3⟩, q4⟩ := hnear c p1 p2 p3'
    obtain ⟨r1, r2⟩ := h3' c p1 p2 p3'
    refine ⟨⟨t, by omega, ?_⟩, fun t ht => ?_⟩
    · show bf1 c = (if t = K + 1 then cs else s t) ∧ re2 c = W (y (if t = K + 1 then cs else s t) - 1) (c - 1) - u1 (y (if t = K + 1 then cs else s t)) - v1 c
      rw [if_neg (by omega), h2 t q1, r1, r2]
      exact ⟨q2, by omega⟩
    · show re2 c ≤ W (y (if t = K + 1 then cs else s t) - 1) (c - 1) - u1 (y (if t = K + 1 then cs else s t)) - v1 c
      rw [if_neg (by omega), h2 t (by omega), r1, r2]
      have := q4 t (by omega)
      omega
/-- seats change along the way back: the seat s t is open -/
def HA (C R : Nat) (W : Nat → Nat → Int) (u v : Nat → Int) (y : Nat → Nat) (s : Nat → Nat) (t : Nat) (yy : Nat → Nat) : Prop :=
  (∀ t', t' < t → yy (s t') = y (s t')) ∧ (∀ c d, c ≤ C → d ≤ C → c ≠ d → c ≠ s t → d ≠ s t → yy c = yy d → yy c = 0) ∧
  (∀ r, 1 ≤ r → r ≤ R + 1 → ∃ c, c ≤ C ∧ c ≠ s t ∧ yy c = r) ∧ (∀ c, 1 ≤ c → c ≤ C → c ≠ s t → yy c ≠ 0 → u (yy c) + v c = W (yy c - 1) (c - 1)) ∧
  (∀ c, c ≤ C → yy c ≤ R + 1) ∧ ∀ c, 1 ≤ c → c ≤ C → c ≠ s t → yy c = 0 → y c = 0
theorem HA_begin {C R : Nat} {W : Nat → Nat → Int} {y : Nat → Nat} {u v re : Nat → Int} {bf s : Nat → Nat} {K : Nat} (h : HS C R W y u v re bf s K) (hy : y (s K) = 0) : HA C R W u v y s K y := by
  have hinj := fun c d a b e f => HS_inj (c := c) (d := d) h a b e f
  have hKl := HS_le h (Nat.le_refl K)
  obtain ⟨⟨a, a4⟩, ⟨b1, b2, b3⟩, c1, ⟨s0, s1, s2, s3⟩, d1, d2, d3⟩ := h
  refine ⟨fun _ _ => rfl, fun c d p1 p2 p3 _ _ e => ?_, fun r p1 p2 => ?_, fun c p1 p2 _ p4 => b2 c p1 p2 p4, fun c p1 => ?_, fun _ _ _ _ e => e⟩
  · apply Classical.byContradiction
    intro q
    exact p3 (hinj c d p1 p2 q e)
  · by_cases e : r = R + 1
    · refine ⟨0, by omega, ?_, by omega⟩
      intro q
      rw [← q] at hy
      omega
    · obtain ⟨c, q1, q2, q3⟩ := a.2.2 r p1 (by omega)
      refine ⟨c, q2, ?_, q3⟩
      intro q
      rw [← q] at hy
      omega
  · by_cases e : c = 0
    · subst e; omega
    · have := a.1 c (by omega) p1
      omega
theorem HA_step {C R : Nat} {W : Nat → Nat → Int} {y : Nat → Nat} {u v re : Nat → Int} {bf s : Nat → Nat} {K t t' : Nat} {yy yy1 : Nat → Nat} (h : HS C R W y u v re bf s K) (ht : t ≤ K) (h1 : 1 ≤ t) (ht' : t' < t) (hti : u (y (s t')) + v (s t) = W (y (s t') - 1) (s t - 1)) (hA : HA C R W u v y s t yy) (e1 : yy1 (s t) = yy (s t')) (e2 : ∀ c, c ≠ s t → yy1 c = yy c) : HA C R W u v y s t' yy1 := by
  have hl := HS_le h ht
  have hl' := HS_le (t := t') h (by omega)
  obtain ⟨⟨a, a4⟩, ⟨b1, b2, b3⟩, c1, ⟨s0, s1, s2, s3⟩, d1, d2, d3⟩ := h
  obtain ⟨k1, k2, k3, k4, k5, k6⟩ := hA
  have hne : s t' ≠ s t := s1 t' t ht' ht
  have hyy : yy (s t') = y (s t') := k1 t' ht'
  have hy0 : y (s t') ≠ 0 := s3 t' (by omega)
  refine ⟨fun q hq => ?_, fun c d p1 p2 p3 p4 p5 e => ?_, fun r p1 p2 => ?_, fun c p1 p2 p3 p4 => ?_, fun c p1 => ?_, fun c p1 p2 p3 e => ?_⟩
  · rw [e2 _ (s1 q t (by omega) ht)]
    exact k1 q (by omega)
  · by_cases ec : c = s t
    · subst ec
      rw [e1, e2 d (by omega)] at e
      rw [e1]
      have := k2 (s t') d hl' p2 (by omega) hne (by omega) e
      omega
    · by_cases ed : d = s t
      · subst ed
        rw [e1, e2 c ec] at e
        rw [e2 c ec]
        exact k2 c (s t') p1 hl' (by omega) ec hne e
      · rw [e2 c ec, e2 d ed] at e
        rw [e2 c ec]
        exact k2 c d p1 p2 p3 ec ed e
  · obtain ⟨c, q1, q2, q3⟩ := k3 r p1 p2
    by_cases e : c = s t'
    · refine ⟨s t, hl, by omega, ?_⟩
      rw [e1, ← e, q3]
    · exact ⟨c, q1, e, by rw [e2 c q2, q3]⟩
  · by_cases e : c = s t
    · subst e
      rw [e1, hyy]
      exact hti
    · rw [e2 c e] at p4 ⊢
      exact k4 c p1 p2 e p4
  · by_cases e : c = s t
    · subst e
      rw [e1]
      exact k5 _ hl'
    · rw [e2 c e]
      exact k5 c p1
  · by_cases ec : c = s t
    · subst ec
      rw [e1, hyy] at e
      exact absurd e hy0
    · rw [e2 c ec] at e
      exact k6 c p1 p2 ec e
/-- the boundary between rows -/
def HB (C R : Nat) (W : Nat → Nat → Int) (y : Nat → Nat) (u v : Nat → Int) : Prop := HY C R y ∧ HD C R W y u v ∧ (∀ r, 1 ≤ r → r ≤ R → u r ≤ 0) ∧ ∀ r, R < r → r ≤ 10 → u r = 0
theorem HA_end {C R : Nat} {W : Nat → Nat → Int} {y : Nat → Nat} {u v re : Nat → Int} {bf s : Nat → Nat} {K : Nat} {yy : Nat → Nat} (hW : ∀ i j, -zBB ≤ W i j ∧ W i j ≤ 0) (hR : R < C) (h : HS C R W y u v re bf s K) (hK : 1 ≤ K) (hA : HA C R W u v y s 0 yy) (hu : ∀ r, R + 1 < r → r ≤ 10 → u r = 0) : HB C (R + 1) W yy u v := by
  have hb := HS_bd hW hR h
  obtain ⟨⟨a, a4⟩, ⟨b1, b2, b3⟩, c1, ⟨s0, s1, s2, s3⟩, d1, d2, d3⟩ := h
  obtain ⟨k1, k2, k3, k4, k5, k6⟩ := hA
  rw [s0] at *
  refine ⟨⟨fun c _ p2 => k5 c p2, fun c d p1 p2 p3 e => k2 c d (by omega) p3 (by omega) (by omega) (by omega) e, fun r p1 p2 => ?_⟩, ⟨fun r c p1 p2 p3 p4 => ?_, fun c p1 p2 p3 => k4 c p1 p2 (by omega) p3, fun c p1 p2 => ⟨(b3 c p1 p2).1, fun e => (b3 c p1 p2).2 (k6 c p1 p2 (by omega) e)⟩⟩, fun r p1 p2 => (hb.1 r p1 p2).2, hu⟩
  · obtain ⟨c, q1, q2, q3⟩ := k3 r p1 p2
    exact ⟨c, by omega, q1, q3⟩
  · by_cases e : r = R + 1
    · subst e
      have := c1 hK c p3 p4
      simpa using this
    · exact b1 r c p1 (by omega) p3 p4
theorem HB_begin (C : Nat) (W : Nat → Nat → Int) : HB C 0 W (fun _ => 0) (fun _ => 0) (fun _ => 0) :=
  ⟨⟨fun _ _ _ => Nat.le_refl _, fun _ _ _ _ _ _ => rfl, fun r h1 h2 => by omega⟩, ⟨fun r c h1 h2 => by omega, fun c _ _ h => absurd rfl h, fun _ _ _ => ⟨Int.le_refl _, fun _ => rfl⟩⟩, fun r h1 h2 => by omega, fun _ _ _ => rfl⟩
theorem HS_begin {C R : Nat} {W : Nat → Nat → Int} {y yy : Nat → Nat} {u v re : Nat → Int} {bf : Nat → Nat} (h : HB C R W y u v) (hR : R < 10) (hre : ∀ c, 1 ≤ c → c ≤ C → re c = zFAR) (e0 : yy 0 = R + 1) (e1 : ∀ c, 1 ≤ c → yy c = y c) : HS C R W yy u v re bf (fun _ => 0) 0 := by
  obtain ⟨⟨a1, a2, a3⟩, ⟨b1, b2, b3⟩, c1, c2⟩ := h
  refine ⟨⟨⟨fun c p1 p2 => by rw [e1 c p1]; exact a1 c p1 p2, fun c d p1 p2 p3 e => ?_, fun r p1 p2 => ?_⟩, e0⟩, ⟨b1, fun c p1 p2 p3 => ?_, fun c p1 p2 => ?_⟩, fun k => by omega, ⟨rfl, fun t t' p1 p2 => by omega, fun t p1 p2 => by omega, fun t p1 => by omega⟩, fun t p1 p2 => by omega, fun k => by omega, fun _ => ⟨hre, c2 _ (by omega) (by omega)⟩⟩
  · rw [e1 c p1, e1 d (by omega)] at e
    rw [e1 c p1]
    exact a2 c d p1 p2 p3 e
  · obtain ⟨c, q1, q2, q3⟩ := a3 r p1 p2
    exact ⟨c, q1, q2, by rw [e1 c q1, q3]⟩
  · rw [e1 c p1] at p3 ⊢
    exact b2 c p1 p2 p3
  · rw [e1 c p1]
    exact b3 c p1 p2
