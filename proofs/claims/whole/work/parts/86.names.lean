/-! ===== names of items ===== -/
def nl (i : Nat) : Nat := kCut.getD (i + 1) 0 - kCut.getD i 0
def nc (i j : Nat) : Nat := kLet.getD (kCut.getD i 0 + j) 0
theorem nm_all : ∀ i, i < 9 → zsl.getD i 0 = nl i ∧ nl i ≤ 7 ∧ kCut.getD i 0 + nl i = kCut.getD (i + 1) 0 ∧ kCut.getD (i + 1) 0 ≤ 47 ∧ fX9_nameOf (nI i) = 1010 + i ∧ ∀ j, j < nl i → zsch (1010 + i) j = nI (nc i j) ∧ 97 ≤ nc i j ∧ nc i j ≤ 122 := by decide +kernel
def mtq (len : Nat) (b : Nat → Int) (p i j : Nat) : Bool := decide (b (qs len b p + j) ≠ (nc i j : Int))
def mt (len : Nat) (b : Nat → Int) (p i : Nat) : Bool := decide (es len b p - qs len b p = nl i) && !hj (mtq len b p i) (nl i)
def nm (len : Nat) (b : Nat → Int) (p : Nat) : Nat := fs (mt len b p) 9 0
theorem nm_le (len : Nat) (b : Nat → Int) (p : Nat) : nm len b p ≤ 9 := (fs_bd (mt len b p) (A := 9) (i := 0) (by omega)).2
theorem hj_mo {q : Nat → Bool} {j m : Nat} (h : hj q j = true) (hm : j ≤ m) : hj q m = true := by
  cases e : hj q m
  · have := hj_f.1 e
    have : hj q j = false := hj_f.2 (fun i hi => this i (by omega))
    rw [this] at h
    exact h
  · rfl
theorem c_isn {M : zM} {len p i : Nat} {b : Nat → Int} (h : cT M len b) (hp : p ≤ len) (h4 : M.1 50 4 = nI (es len b p)) (h6 : M.1 50 6 = nI (qs len b p)) (hi : i < 9) : fX9_isNamed (1010 + i) M = some (mt len b p i) := by
  obtain ⟨n1, n2, n3, n4, _, n5⟩ := nm_all i hi
  obtain ⟨h1, hl, h51, hb⟩ := h
  have hqb := qs_bd b hp
  have heb := es_bd b hp
  have e1 : zsln (1010 + i) = nl i := by
    unfold zsln
    rw [show 1010 + i - 1010 = i by omega]
    exact n1
  have e2 : zslen (1010 + i) = nI (nl i) := by
    unfold zslen
    rw [e1]
    rfl
  apply ok_eq
  unfold fX9_isNamed
  rw [e2, e1, h4, h6, n_sub heb.1]
  by_cases y : es len b p - qs len b p = nl i
  rotate_left
  · rw [nn_eqF (by omega)]
    refine ok_some ?_
    unfold mt
    rw [decide_eq_false y]; rfl
  rw [nn_eqT (by omega)]
  refine ok_up (nl i) (fun j x => x = nI j ∧ hj (mtq len b p i) j = false) ?_ ?_ zFu 0 _ (by omega) (by unfold zFu; omega) ⟨rfl, rfl⟩
  · rintro rec j x hj' ⟨rfl, o1⟩ hrec
    obtain ⟨m1, m2, m3⟩ := n5 j hj'
    have hbj := hb (qs len b p + j)
    have k51 := h51 (qs len b p + j) (by omega)
    (try dsimp only)
    rw [nn_leF (by omega), e_gn (by omega), n_add, e_gn (by omega), e_znn (by omega), e_znn (by omega), m1, k51]
    by_cases z : b (qs len b p + j) = (nc i j : Int)
    · rw [nj_eqT (by omega), l_1, n_add]
      refine hrec _ ⟨rfl, ?_⟩
      show (hj (mtq len b p i) j || mtq len b p i j) = false
      rw [o1, show mtq len b p i j = false from decide_eq_false (fun w => w z)]; rfl
    · rw [nj_eqF (by omega)]
      refine ok_some ?_
      unfold mt
      rw [hj_t hj' (show mtq len b p i j = true from decide_eq_true z), Bool.not_true, Bool.and_false]
  · rintro rec x ⟨rfl, o1⟩
    (try dsimp only)
    rw [nn_leT (by omega)]
    refine ok_some ?_
    unfold mt
    rw [decide_eq_true y, o1]; rfl
theorem c_itn {M : zM} {len p : Nat} {b : Nat → Int} (h : cT M len b) (hp : p ≤ len) (h4 : M.1 50 4 = nI (es len b p)) (h6 : M.1 50 6 = nI (qs len b p)) : fX9_itemNamed M = some (enc 9 (nm len b p)) := by
  apply ok_eq
  unfold fX9_itemNamed nm
  refine ok_up 9 (fun i x => x = nI i ∧ fs (mt len b p) 9 0 = fs (mt len b p) 9 i) ?_ ?_ zFu 0 _ (by omega) (by unfold zFu; omega) ⟨rfl, rfl⟩
  · rintro rec i x hi ⟨rfl, o1⟩ hrec
    have es' := fs_s (p := mt len b p) (A := 9) (i := i) hi
    (try dsimp only)
    rw [l_9, nn_leF (by omega), (nm_all i hi).2.2.2.2.1, e_lt, c_isn h hp h4 h6 hi, e_sq]
    cases hm : mt len b p i
    · rw [if_neg (by rw [hm]; decide)] at es'
      rw [if_pos rfl, l_1, n_add]
      exact hrec _ ⟨rfl, by rw [o1, es']⟩
    · rw [if_pos hm] at es'
      rw [if_neg (by decide)]
      refine ok_some ?_
      rw [o1, es']
      exact (if_neg (by omega)).symm
  · rintro rec x ⟨rfl, o1⟩
    (try dsimp only)
    rw [l_9, nn_leT (by omega)]
    refine ok_some ?_
    rw [o1, fs_A]
    exact (if_pos rfl).symm
theorem r_itn {M : zM} {len p : Nat} {b : Nat → Int} (h : rK M len b p) (hR : kR M) : fX11_itemName M = some (enc 9 (nm len b p)) := by
  obtain ⟨hT, hp, hbd, h3, h5, h6, h7, h8⟩ := h
  have hqb := qs_bd b hp
  have heb := es_bd b hp
  have hl := hT.2.1
  apply ok_eq
  unfold fX11_itemName nm
  rw [h5, h6, n_sub heb.1]
  refine ok_up 9 (fun i x => x = nI i ∧ fs (mt len b p) 9 0 = fs (mt len b p) 9 i) ?_ ?_ zFu 0 _ (by omega) (by unfold zFu; omega) ⟨rfl, rfl⟩
  · rintro rec i x hi ⟨rfl, o1⟩ hrec
    have es' := fs_s (p := mt len b p) (A := 9) (i := i) hi
    obtain ⟨n1, n2, n3, n4, _, n5⟩ := nm_all i hi
    have k0 := hR.1 i (by omega)
    have k1 := hR.1 (i + 1) (by omega)
    have hb24 : (if nI (es len b p - qs len b p) = nI (nl i) then true else false) = (decide (es len b p - qs len b p = nl i) && !hj (mtq len b p i) 0) := by
      by_cases y : es len b p - qs len b p = nl i
      · rw [nn_eqT (by omega), decide_eq_true y]; rfl
      · rw [nn_eqF (by omega), decide_eq_false y]; rfl
    (try dsimp only)
    rw [l_9, nn_leF (by omega), l_1, n_add, e_gn (by omega), e_gn (by omega), e_znn (by omega), e_znn (by omega), k0, k1, n_sub (by omega), show kCut.getD (i + 1) 0 - kCut.getD i 0 = nl i from rfl, hb24, e_lt]
    refine ok_sq (P := fun v => v = mt len b p i) ?_ ?_
    · refine ok_up (es len b p - qs len b p) (fun j x => x = ((decide (es len b p - qs len b p = nl i) && !hj (mtq len b p i) j), nI j)) ?_ ?_ zFu 0 _ (by omega) (by unfold zFu; omega) rfl
      · rintro rec2 j x hj' rfl hrec2
        (try dsimp only)
        cases hB : (decide (es len b p - qs len b p = nl i) && !hj (mtq len b p i) j)
        · rw [if_pos rfl]
          refine ok_some ?_
          unfold mt
          rw [Bool.and_eq_false_iff] at hB
          rcases hB with w | w
          · rw [w]; rfl
          · have e : es len b p - qs len b p = nl i ∨ ¬ es len b p - qs len b p = nl i := Decidable.em _
            rcases e with e | e
            · have w : hj (mtq len b p i) j = true := by simpa using w
              rw [hj_mo w (by omega), Bool.not_true, Bool.and_false]
            · rw [decide_eq_false e]; rfl
        · rw [Bool.and_eq_true] at hB
          have ee := of_decide_eq_true hB.1
          have hh : hj (mtq len b p i) j = false := by simpa using hB.2
          obtain ⟨m1, m2, m3⟩ := n5 j (by omega)
          have hbj := hT.2.2.2 (qs len b p + j)
          have hr : rbt len b (qs len b p + j) = b (qs len b p + j) % 256 := if_pos (by omega)
          have k79 := hR.2.1 (kCut.getD i 0 + j) (by omega)
          have k79 : M.1 79 (kCut.getD i 0 + j) = nI (nc i j) := k79
          have hcm : (if jI (rbt len b (qs len b p + j)) = nI (nc i j) then true else false) = (decide (es len b p - qs len b p = nl i) && !hj (mtq len b p i) (j + 1)) := by
            have es2 : hj (mtq len b p i) (j + 1) = (hj (mtq len b p i) j || mtq len b p i j) := rfl
            rw [es2, hh, hB.1]
            unfold mtq
            by_cases z : b (qs len b p + j) = (nc i j : Int)
            · rw [jn_eqT (by omega), decide_eq_false (fun w => w z)]; rfl
            · rw [jn_eqF (by omega), decide_eq_true z]; rfl
          rw [if_neg (by decide), nn_leF (by omega), n_add, r_byte hT (by omega), e_sq, e_gn (by omega), n_add, e_gn (by omega), e_znn (by omega), k79, hcm, e_lt, n_add]
          exact hrec2 _ rfl
      · rintro rec2 x rfl
        (try dsimp only)
        have hfin : (decide (es len b p - qs len b p = nl i) && !hj (mtq len b p i) (es len b p - qs len b p)) = mt len b p i := by
          unfold mt
          by_cases e : es len b p - qs len b p = nl i
          · rw [e]
          · rw [decide_eq_false e]; rfl
        rw [hfin]
        cases hm : mt len b p i
        · rw [if_pos rfl]
          exact ok_some rfl
        · rw [if_neg (by decide), nn_leT (by omega)]
          exact ok_some rfl
    · rintro v rfl
      cases hm : mt len b p i
      · rw [if_neg (by rw [hm]; decide)] at es'
        rw [if_pos rfl]
        exact hrec _ ⟨rfl, by rw [o1, es']⟩
      · rw [if_pos hm] at es'
        rw [if_neg (by decide)]
        refine ok_some ?_
        rw [o1, es']
        exact (if_neg (by omega)).symm
  · rintro rec x ⟨rfl, o1⟩
    (try dsimp only)
    rw [l_9, nn_leT (by omega)]
    refine ok_some ?_
    rw [o1, fs_A]
    exact (if_pos rfl).symm
/-! ===== what an item tells ===== -/
def setR (ρ : Nat → Int) (k : Nat) (v : Int) : Nat → Int := fun i => if i = k then v else ρ i
def setM (σ : Nat → Nat) (k v : Nat) : Nat → Nat := fun i => if i = k then v else σ i
def pmin (len : Nat) (b : Nat → Int) (ρ : Nat → Int) (p : Nat) : (Nat × Nat) ⊕ ((Nat → Int) × Nat) := sb (pnum len b 0 500 p) fun r1 => sb (pnum len b r1.1 500 r1.2) fun r2 => sb (pnum len b r1.1 r2.1 r2.2) fun r3 => sb (pnum len b 0 9 r3.2) fun r4 => .inr (setR (setR (setR (setR ρ 0 r1.1) 1 r2.1) 2 r3.1) 3 r4.1, r4.2)
def pmix (len : Nat) (b : Nat → Int) (σ : Nat → Nat) (p : Nat) : (Nat × Nat) ⊕ ((Nat → Nat) × Nat) := sb (plet len b p) fun r1 => sb (plet len b r1.2) fun r2 => if r1.1 = r2.1 then .inl (3, qs len b r1.2) else if σ (8 * r1.1 + r2.1) ≠ 0 then .inl (4, qs len b r1.2) else sb (pnum len b 0 50 r2.2) fun r3 => .inr (setM σ (8 * r1.1 + r2.1) (r3.1 + 1), r3.2)
def ppts (len : Nat) (b : Nat → Int) (ρ : Nat → Int) (n p : Nat) : (Nat × Nat) ⊕ ((Nat → Int) × Nat) := sb (pnum len b 0 (if n < 5 then 50 else 99) p) fun r => .inr (setR ρ (if n < 7 then n + 2 else 9) (if n = 8 then -(r.1 : Int) else r.1), r.2)
def ky (n : Nat) : Nat := if n < 7 then n else 7
def pbody (len : Nat) (b : Nat → Int) (ρ : Nat → Int) (σ : Nat → Nat) (t p : Nat) : (Nat × Nat) ⊕ (((Nat → Int) × (Nat → Nat) × Nat) × Nat) :=
  if ks len b p ≠ 1 ∨ nm len b p = 9 then .inl (2, qs len b p) else if nm len b p = 1 then sb (pmix len b σ (es len b p)) fun r => .inr ((ρ, r.1, t), r.2) else if t.testBit (ky (nm len b p)) = true then .inl (4, qs len b p) else if nm len b p = 0 then sb (pmin len b ρ (es len b p)) fun r => .inr ((r.1, σ, t ||| 2 ^ ky (nm len b p)), r.2) else sb (ppts len b ρ (nm len b p) (es len b p)) fun r => .inr ((r.1, σ, t ||| 2 ^ ky (nm len b p)), r.2)
def pitm (len : Nat) (b : Nat → Int) (ρ : Nat → Int) (σ : Nat → Nat) (t p : Nat) : (Nat × Nat) ⊕ (((Nat → Int) × (Nat → Nat) × Nat) × Nat) := sb (pbody len b ρ σ t p) fun r => sb (psem len b r.2) fun q => .inr (r.1, q)
theorem pnum_v {len : Nat} {b : Nat → Int} {lo hi p : Nat} {y : Nat × Nat} (hp : p ≤ len) (h : pnum len b lo hi p = .inr y) : (lo ≤ y.1 ∧ y.1 ≤ hi) ∧ p < y.2 ∧ y.2 ≤ len := by
  have hqb := qs_bd b hp
  have heb := es_bd b hp
  unfold pnum at h
  by_cases h1 : bdt len b p = true
  · rw [if_pos h1] at h; cases h
  rw [if_neg h1] at h
  by_cases h2 : ks len b p ≠ 2
  · rw [if_pos h2] at h; cases h
  rw [if_neg h2] at h
  by_cases h3 : ¬ (lo ≤ vl len b p ∧ vl len b p ≤ hi)
  · rw [if_pos h3] at h; cases h
  rw [if_neg h3] at h
  cases h
  have hql := ks_lt (len := len) (b := b) (p := p) (by omega)
  refine ⟨by show lo ≤ vl len b p ∧ vl len b p ≤ hi; omega, ?_, heb.2.1⟩
  show p < es len b p
  have := heb.2.2 hql
  omega
theorem plet_v {len : Nat} {b : Nat → Int} {p : Nat} {y : Nat × Nat} (hp : p ≤ len) (h : plet len b p = .inr y) : y.1 < 8 ∧ y.2 = es len b p ∧ p < y.2 ∧ y.2 ≤ len := by
  have hqb := qs_bd b hp
  have heb := es_bd b hp
  unfold plet at h
  by_cases h1 : bdt len b p = true
  · rw [if_pos h1] at h; cases h
  rw [if_neg h1] at h
  by_cases h2 : ks len b p ≠ 1
  · rw [if_pos h2] at h; cases h
  rw [if_neg h2] at h
  by_cases h3 : ¬ (es len b p - qs len b p = 1 ∧ 97 ≤ b (qs len b p) ∧ b (qs len b p) ≤ 104)
  · rw [if_pos h3] at h; cases h
  rw [if_neg h3] at h
  cases h
  have hql := ks_lt (len := len) (b := b) (p := p) (by omega)
  refine ⟨by show (b (qs len b p) - 97).toNat < 8; omega, rfl, ?_, heb.2.1⟩
  show p < es len b p
  have := heb.2.2 hql
  omega
theorem psem_v {len : Nat} {b : Nat → Int} {p y : Nat} (hp : p ≤ len) (h : psem len b p = .inr y) : p < y ∧ y ≤ len := by
  have hqb := qs_bd b hp
  have heb := es_bd b hp
  unfold psem at h
  by_cases h1 : bdt len b p = true
  · rw [if_pos h1] at h; cases h
  rw [if_neg h1] at h
  by_cases h2 : ks len b p ≠ 3
  · rw [if_pos h2] at h; cases h
  rw [if_neg h2] at h
  cases h
  have hql := ks_lt (len := len) (b := b) (p := p) (by omega)
  have := heb.2.2 hql
  exact ⟨by omega, heb.2.1⟩
