/-! ===== what the reference keeps of a list of pairings ===== -/
/-- of a list that has some: the least, how many have it, the fewest and most pairs of these -/
def sOK (L : List (List Nat)) (f : List Nat → Int) (v : Int) (b : Nat) (fw gr : Int) : Prop :=
  (∀ l, l ∈ L → v ≤ f l) ∧ (∃ l, l ∈ L ∧ f l = v) ∧ b = (L.filter (fun l => decide (f l = v))).length ∧
  ((∀ l, l ∈ L → f l = v → fw ≤ pS l) ∧ ∃ l, l ∈ L ∧ f l = v ∧ (pS l : Int) = fw) ∧
  ((∀ l, l ∈ L → f l = v → (pS l : Int) ≤ gr) ∧ ∃ l, l ∈ L ∧ f l = v ∧ (pS l : Int) = gr)
theorem sOK_map {L : List (List Nat)} {f f' : List Nat → Int} {v : Int} {b : Nat} {fw gr : Int} (c : Nat) (d : Int) (hf : ∀ l, f' (c :: l) = d + f l) (h : sOK L f v b fw gr) : sOK (L.map (fun l => c :: l)) f' (d + v) b (fw + pc c) (gr + pc c) := by
  obtain ⟨h1, ⟨l2, h2, h2'⟩, h3, ⟨h4, l4, h4', h4'', h4'''⟩, ⟨h5, l5, h5', h5'', h5'''⟩⟩ := h
  refine ⟨?_, ⟨c :: l2, List.mem_map.mpr ⟨l2, h2, rfl⟩, by rw [hf, h2']⟩, ?_, ⟨?_, c :: l4, List.mem_map.mpr ⟨l4, h4', rfl⟩, by rw [hf, h4''], by simp only [pS]; omega⟩, ⟨?_, c :: l5, List.mem_map.mpr ⟨l5, h5', rfl⟩, by rw [hf, h5''], by simp only [pS]; omega⟩⟩
  · intro l hl
    obtain ⟨l', q, rfl⟩ := List.mem_map.mp hl
    have := h1 l' q
    rw [hf]
    omega
  · rw [h3, List.filter_map, List.length_map]
    congr 2
    funext l
    simp only [Function.comp, hf]
    congr 1
    apply propext
    omega
  · intro l hl e
    obtain ⟨l', q, rfl⟩ := List.mem_map.mp hl
    rw [hf] at e
    have := h4 l' q (by omega)
    simp only [pS]
    omega
  · intro l hl e
    obtain ⟨l', q, rfl⟩ := List.mem_map.mp hl
    rw [hf] at e
    have := h5 l' q (by omega)
    simp only [pS]
    omega
theorem flt_nil {L : List (List Nat)} {P : List Nat → Prop} [DecidablePred P] (h : ∀ l, l ∈ L → ¬ P l) : L.filter (fun l => decide (P l)) = [] := by
  apply List.filter_eq_nil_iff.mpr
  intro l hl
  simpa using h l hl
theorem sOK_lt {L1 L2 : List (List Nat)} {f : List Nat → Int} {v1 v2 : Int} {b2 : Nat} {fw2 gr2 : Int} (h1 : ∀ l, l ∈ L1 → v1 ≤ f l) (h2 : sOK L2 f v2 b2 fw2 gr2) (hv : v2 < v1) : sOK (L1 ++ L2) f v2 b2 fw2 gr2 := by
  obtain ⟨k1, ⟨l2, k2, k2'⟩, k3, ⟨k4, l4, k4'⟩, ⟨k5, l5, k5'⟩⟩ := h2
  refine ⟨fun l hl => ?_, ⟨l2, List.mem_append_right _ k2, k2'⟩, ?_, ⟨fun l hl e => ?_, l4, List.mem_append_right _ k4'.1, k4'.2⟩, ⟨fun l hl e => ?_, l5, List.mem_append_right _ k5'.1, k5'.2⟩⟩
  · rcases List.mem_append.mp hl with q | q
    · have := h1 l q; omega
    · exact k1 l q
  · rw [List.filter_append, flt_nil (L := L1) (fun l hl e => by have := h1 l hl; omega), List.nil_append, k3]
  · rcases List.mem_append.mp hl with q | q
    · have := h1 l q; omega
    · exact k4 l q e
  · rcases List.mem_append.mp hl with q | q
    · have := h1 l q; omega
    · exact k5 l q e
theorem sOK_gt {L1 L2 : List (List Nat)} {f : List Nat → Int} {v1 v2 : Int} {b1 : Nat} {fw1 gr1 : Int} (h1 : sOK L1 f v1 b1 fw1 gr1) (h2 : ∀ l, l ∈ L2 → v2 ≤ f l) (hv : v1 < v2) : sOK (L1 ++ L2) f v1 b1 fw1 gr1 := by
  obtain ⟨k1, ⟨l2, k2, k2'⟩, k3, ⟨k4, l4, k4'⟩, ⟨k5, l5, k5'⟩⟩ := h1
  refine ⟨fun l hl => ?_, ⟨l2, List.mem_append_left _ k2, k2'⟩, ?_, ⟨fun l hl e => ?_, l4, List.mem_append_left _ k4'.1, k4'.2⟩, ⟨fun l hl e => ?_, l5, List.mem_append_left _ k5'.1, k5'.2⟩⟩
  · rcases List.mem_append.mp hl with q | q
    · exact k1 l q
    · have := h2 l q; omega
  · rw [List.filter_append, flt_nil (L := L2) (fun l hl e => by have := h2 l hl; omega), List.append_nil, k3]
  · rcases List.mem_append.mp hl with q | q
    · exact k4 l q e
    · have := h2 l q; omega
  · rcases List.mem_append.mp hl with q | q
    · exact k5 l q e
    · have := h2 l q; omega
theorem sOK_eq {L1 L2 : List (List Nat)} {f : List Nat → Int} {v : Int} {b1 b2 : Nat} {fw1 gr1 fw2 gr2 : Int} (h1 : sOK L1 f v b1 fw1 gr1) (h2 : sOK L2 f v b2 fw2 gr2) : sOK (L1 ++ L2) f v (b1 + b2) (if fw2 < fw1 then fw2 else fw1) (if gr1 < gr2 then gr2 else gr1) := by
  obtain ⟨k1, ⟨l2, k2, k2'⟩, k3, ⟨k4, l4, k4', k4'', k4'''⟩, ⟨k5, l5, k5', k5'', k5'''⟩⟩ := h1
  obtain ⟨m1, _, m3, ⟨m4, n4, m4', m4'', m4'''⟩, ⟨m5, n5, m5', m5'', m5'''⟩⟩ := h2
  refine ⟨fun l hl => ?_, ⟨l2, List.mem_append_left _ k2, k2'⟩, ?_, ⟨fun l hl e => ?_, ?_⟩, ⟨fun l hl e => ?_, ?_⟩⟩
  · rcases List.mem_append.mp hl with q | q
    · exact k1 l q
    · exact m1 l q
  · rw [List.filter_append, List.length_append, k3, m3]
  · rcases List.mem_append.mp hl with q | q
    · have := k4 l q e; split <;> omega
    · have := m4 l q e; split <;> omega
  · by_cases c : fw2 < fw1
    · rw [if_pos c]; exact ⟨n4, List.mem_append_right _ m4', m4'', m4'''⟩
    · rw [if_neg c]; exact ⟨l4, List.mem_append_left _ k4', k4'', k4'''⟩
  · rcases List.mem_append.mp hl with q | q
    · have := k5 l q e; split <;> omega
    · have := m5 l q e; split <;> omega
  · by_cases c : gr1 < gr2
    · rw [if_pos c]; exact ⟨n5, List.mem_append_right _ m5', m5'', m5'''⟩
    · rw [if_neg c]; exact ⟨l5, List.mem_append_left _ k5', k5'', k5'''⟩
/-- a cell of the reference: least, ways, bests, fewest, greatest -/
def cOK (L : List (List Nat)) (f : List Nat → Int) (base a : Int) (w b : Nat) (fw gr : Int) : Prop :=
  w = L.length ∧ (L = [] → a = 1000000 ∧ b = 0) ∧ (L ≠ [] → a < 1000000 ∧ sOK L f (a - base) b fw gr)
theorem cOK_nil (f : List Nat → Int) (base fw gr : Int) : cOK [] f base 1000000 0 0 fw gr := ⟨rfl, fun _ => ⟨rfl, rfl⟩, fun h => absurd rfl h⟩
/-- one more way: takeIn -/
theorem cOK_in {L1 L2 : List (List Nat)} {f f2 : List Nat → Int} {base base2 a1 a2 : Int} {w1 w2 b1 b2 : Nat} {fw1 fw2 gr1 gr2 : Int} (c : Nat) (d co : Int) (hf : ∀ l, f (c :: l) = d + f2 l) (hb : co + base2 = base + d) (hlt : 0 < w2 → co + a2 < 1000000) (h1 : cOK L1 f base a1 w1 b1 fw1 gr1) (h2 : cOK L2 f2 base2 a2 w2 b2 fw2 gr2) :
    (0 < w2 → co + a2 < a1 → cOK (L1 ++ L2.map (fun l => c :: l)) f base (co + a2) (w1 + w2) b2 (fw2 + pc c) (gr2 + pc c)) ∧
    (0 < w2 → co + a2 = a1 → cOK (L1 ++ L2.map (fun l => c :: l)) f base a1 (w1 + w2) (b1 + b2) (if fw2 + pc c < fw1 then fw2 + pc c else fw1) (if gr1 < gr2 + pc c then gr2 + pc c else gr1)) ∧
    ((w2 = 0 ∨ a1 < co + a2) → cOK (L1 ++ L2.map (fun l => c :: l)) f base a1 (w1 + w2) b1 fw1 gr1) := by
  obtain ⟨p1, p2, p3⟩ := h1
  obtain ⟨q1, q2, q3⟩ := h2
  have hlen : w1 + w2 = (L1 ++ L2.map (fun l => c :: l)).length := by rw [List.length_append, List.length_map, p1, q1]
  by_cases e2 : L2 = []
  · subst e2
    have : w2 = 0 := q1
    refine ⟨fun h => by omega, fun h => by omega, fun _ => ?_⟩
    rw [List.map_nil, List.append_nil, this, Nat.add_zero]
    exact ⟨p1, p2, p3⟩
  · have hw2 : 0 < w2 := by
      rw [q1]
      exact List.length_pos_iff.mpr e2
    obtain ⟨_, q4⟩ := q3 e2
    have r2 := sOK_map (f' := f) c d hf q4
    rw [show d + (a2 - base2) = co + a2 - base by omega] at r2
    have hne : L1 ++ L2.map (fun l => c :: l) ≠ [] := by
      intro h
      rw [List.append_eq_nil_iff] at h
      exact e2 (List.map_eq_nil_iff.mp h.2)
    have hl := hlt hw2
    by_cases e1 : L1 = []
    · subst e1
      obtain ⟨p4, p5⟩ := p2 rfl
      refine ⟨fun _ _ => ⟨hlen, fun h => absurd h hne, fun _ => ⟨hl, r2⟩⟩, fun _ h => by omega, fun h => by omega⟩
    · obtain ⟨p4, p5⟩ := p3 e1
      refine ⟨fun _ h => ⟨hlen, fun h => absurd h hne, fun _ => ⟨hl, sOK_lt p5.1 r2 (by omega)⟩⟩, fun _ h => ⟨hlen, fun h => absurd h hne, fun _ => ⟨p4, ?_⟩⟩, fun h => ⟨hlen, fun h => absurd h hne, fun _ => ⟨p4, sOK_gt p5 r2.1 (by omega)⟩⟩⟩
      rw [h] at r2
      exact sOK_eq p5 r2
/-- at the end -/
theorem cOK_end (f : List Nat → Int) (hf : f [] = 0) (base : Int) (hb : base < 1000000) : cOK [[]] f base base 1 1 0 0 := by
  refine ⟨rfl, fun h => (by cases h), fun _ => ⟨hb, ?_⟩⟩
  rw [Int.sub_self]
  refine ⟨fun l hl => ?_, ⟨[], List.mem_singleton.mpr rfl, hf⟩, ?_, ⟨fun l hl _ => ?_, [], List.mem_singleton.mpr rfl, hf, rfl⟩, ⟨fun l hl _ => ?_, [], List.mem_singleton.mpr rfl, hf, rfl⟩⟩
  · rw [List.mem_singleton.mp hl, hf]; exact Int.le_refl _
  · simp [hf]
  · rw [List.mem_singleton.mp hl]; exact Int.le_refl _
  · rw [List.mem_singleton.mp hl]; exact Int.le_refl _
/-- the whole, by pairings -/
theorem sOK_L {n m : Nat} (hm : m ≤ 10) {al : Nat → Nat → Bool} {g : Nat → Nat → Int} {v : Int} {b : Nat} {fw gr : Int} (h : sOK (bB m al n 0 0) (gS g 0) v b fw gr) : isL n m al g v := by
  obtain ⟨h1, ⟨l, h2, h3⟩, _⟩ := h
  refine ⟨fun q hq => ?_, ?_⟩
  · have := h1 _ ((mem_b0 hm).mpr hq)
    rw [gS_0] at this
    exact this
  · obtain ⟨p, rfl⟩ := b0_ex h2
    rw [gS_0] at h3
    exact ⟨p, (mem_b0 hm).mp h2, h3⟩
theorem sOK_few {n m : Nat} (hm : m ≤ 10) {al : Nat → Nat → Bool} {g : Nat → Nat → Int} {v : Int} {b : Nat} {fw gr : Int} (h : sOK (bB m al n 0 0) (gS g 0) v b fw gr) : ((∀ q, aQ n m al q → wS g n q = v → fw ≤ pN n q) ∧ ∃ p, aQ n m al p ∧ wS g n p = v ∧ pN n p = fw) ∧ ((∀ q, aQ n m al q → wS g n q = v → pN n q ≤ gr) ∧ ∃ p, aQ n m al p ∧ wS g n p = v ∧ pN n p = gr) := by
  obtain ⟨_, _, _, ⟨h4, l4, a1, a2, a3⟩, ⟨h5, l5, b1, b2, b3⟩⟩ := h
  refine ⟨⟨fun q hq e => ?_, ?_⟩, ⟨fun q hq e => ?_, ?_⟩⟩
  · have := h4 _ ((mem_b0 hm).mpr hq) (by rw [gS_0]; exact e)
    rw [pS_0] at this
    exact this
  · obtain ⟨p, rfl⟩ := b0_ex a1
    rw [gS_0] at a2
    rw [pS_0] at a3
    exact ⟨p, (mem_b0 hm).mp a1, a2, a3⟩
  · have := h5 _ ((mem_b0 hm).mpr hq) (by rw [gS_0]; exact e)
    rw [pS_0] at this
    exact this
  · obtain ⟨p, rfl⟩ := b0_ex b1
    rw [gS_0] at b2
    rw [pS_0] at b3
    exact ⟨p, (mem_b0 hm).mp b1, b2, b3⟩
