/-! ===== the first that is so ===== -/
def fsk (p : Nat → Bool) : Nat → Nat → Nat
  | 0, s => s
  | k + 1, s => if p s = true then s else fsk p k (s + 1)
def fs (p : Nat → Bool) (A i : Nat) : Nat := fsk p (A - i) i
theorem fs_A (p : Nat → Bool) (A : Nat) : fs p A A = A := by
  unfold fs
  rw [Nat.sub_self]
  rfl
theorem fs_s {p : Nat → Bool} {A i : Nat} (hi : i < A) : fs p A i = if p i = true then i else fs p A (i + 1) := by
  unfold fs
  rw [show A - i = (A - (i + 1)) + 1 by omega]
  rfl
theorem fsk_bd (p : Nat → Bool) : ∀ k s, s ≤ fsk p k s ∧ fsk p k s ≤ s + k
  | 0, s => ⟨Nat.le_refl _, Nat.le_refl _⟩
  | k + 1, s => by
    have := fsk_bd p k (s + 1)
    show s ≤ (if p s = true then s else fsk p k (s + 1)) ∧ (if p s = true then s else fsk p k (s + 1)) ≤ s + (k + 1)
    split <;> omega
theorem fs_bd (p : Nat → Bool) {A i : Nat} (hi : i ≤ A) : i ≤ fs p A i ∧ fs p A i ≤ A := by
  have := fsk_bd p (A - i) i
  unfold fs
  omega
theorem fsk_none {p : Nat → Bool} : ∀ k s, (∀ x, s ≤ x → x < s + k → p x = false) → fsk p k s = s + k
  | 0, s, _ => rfl
  | k + 1, s, h => by
    show (if p s = true then s else fsk p k (s + 1)) = s + (k + 1)
    rw [if_neg (by rw [h s (Nat.le_refl _) (by omega)]; decide), fsk_none k (s + 1) (fun x h1 h2 => h x (by omega) (by omega))]
    omega
theorem fs_none {p : Nat → Bool} {A i : Nat} (hi : i ≤ A) (h : ∀ x, i ≤ x → x < A → p x = false) : fs p A i = A := by
  unfold fs
  rw [fsk_none (A - i) i (fun x h1 h2 => h x h1 (by omega))]
  omega
theorem fsk_all {p : Nat → Bool} : ∀ k s, fsk p k s = s + k → ∀ x, s ≤ x → x < s + k → p x = false
  | 0, s, _, x, h1, h2 => by omega
  | k + 1, s, h, x, h1, h2 => by
    have h : (if p s = true then s else fsk p k (s + 1)) = s + (k + 1) := h
    by_cases z : p s = true
    · rw [if_pos z] at h
      omega
    · rw [if_neg z] at h
      by_cases e : x = s
      · subst e
        simpa using z
      · exact fsk_all k (s + 1) (by omega) x (by omega) (by omega)
theorem fs_all {p : Nat → Bool} {A i : Nat} (hi : i ≤ A) (h : fs p A i = A) (x : Nat) (h1 : i ≤ x) (h2 : x < A) : p x = false := fsk_all (A - i) i (by unfold fs at h; omega) x h1 (by omega)
def enc (A x : Nat) : Int32 := if x = A then jI (-4) else nI x
theorem enc_b {A U O : Nat} (hA : A ≤ 20) (hU : U ≤ A) (hO : O ≤ A) : (if enc A U = jI (-4) then (if enc A O = jI (-4) then true else false) else false) = decide (U = A ∧ O = A) := by
  have key : ∀ x, x ≤ A → (enc A x = jI (-4) ↔ x = A) := fun x hx => by
    unfold enc
    by_cases e : x = A
    · rw [if_pos e]; exact ⟨fun _ => e, fun _ => rfl⟩
    · rw [if_neg e, nI_j, jI_eq (by omega) (by omega)]
      exact ⟨fun w => by omega, fun w => absurd w e⟩
  by_cases a : U = A
  · by_cases b : O = A
    · rw [if_pos ((key U hU).2 a), if_pos ((key O hO).2 b), decide_eq_true ⟨a, b⟩]
    · rw [if_pos ((key U hU).2 a), if_neg (fun w => b ((key O hO).1 w)), decide_eq_false (fun w => b w.2)]
  · rw [if_neg (fun w => a ((key U hU).1 w)), decide_eq_false (fun w => a w.1)]
def hj (q : Nat → Bool) : Nat → Bool
  | 0 => false
  | j + 1 => hj q j || q j
theorem hj_f {q : Nat → Bool} {m : Nat} : hj q m = false ↔ ∀ j, j < m → q j = false := by
  induction m with
  | zero => exact ⟨fun _ j hj => absurd hj (by omega), fun _ => rfl⟩
  | succ m ih =>
    show (hj q m || q m) = false ↔ _
    rw [Bool.or_eq_false_iff, ih]
    refine ⟨fun h j hj => ?_, fun h => ⟨fun j hj => h j (by omega), h m (by omega)⟩⟩
    by_cases e : j = m
    · subst e; exact h.2
    · exact h.1 j (by omega)
theorem hj_t {q : Nat → Bool} {m j : Nat} (hjm : j < m) (h : q j = true) : hj q m = true := by
  cases e : hj q m
  · rw [hj_f.1 e j hjm] at h
    cases h
  · rfl
/-! ===== prices ===== -/
def bdp (f : Int) (sz : Nat) (z : Nat → Int) (w : Nat) : Bool := !(decide (0 ≤ f ∧ f + w < sz) && decide (-999 ≤ z w ∧ z w ≤ 999))
def refv (f : Int) (sz : Nat) (F : Nat) : Int32 := if 0 ≤ f ∧ f + F < sz then jI (-1000020 - F) else jI (-1000012)
theorem w999 {a : Int} (h : rg a) : fX10_within (jI a) (-999 : Int32) (999 : Int32) = decide (-999 ≤ a ∧ a ≤ 999) := by
  rw [m_999, show (999 : Int32) = jI 999 from rfl]
  exact fw_eq a (-999) 999 h (by omega) (by omega)
theorem i999 {a : Int} (h : rg a) : fX11_in (jI a).toInt64 (-999 : Int64) (999 : Int64) = decide (-999 ≤ a ∧ a ≤ 999) := by
  rw [jI_l h, mL_999, L_999]
  exact fi_eq a (-999) 999 (by omega) (by omega) (by omega)
theorem jn_N {f : Int} {w : Nat} (h : 0 ≤ f) : jI f + nI w = nI (f.toNat + w) := by
  rw [jn_add, nI_j]
  exact congrArg jI (by omega)
theorem c_copy {M : zM} {k la sz n m : Nat} {f : Int} {z : Nat → Int} (hk : k < 4) (hla : la < 3) (hsz : sz ≤ 64) (hn : n ≤ 10) (hm : m ≤ 10) (b0 : M.1 (42 + 2 * k) 0 = zb true) (b1 : M.1 (42 + 2 * k) 1 = nI la) (b2 : M.1 (42 + 2 * k) 2 = nI sz) (c2 : M.1 2 0 = nI n) (c6 : M.1 6 0 = nI m) (hf : rg f) (hz : ∀ w : Nat, 0 ≤ f → f + w < sz → M.1 (42 + 2 * k + 1) (f.toNat + w) = jI (z w) ∧ rg (z w)) :
    ok (fX10_copyPrices (42 + 2 * k) (nI la) (jI f) M) (fun r => (fs (bdp f sz z) (n + m) 0 = n + m → r.1 = nI 0 ∧ zfr [74] M r.2 ∧ ∀ j, j < n + m → r.2.1 74 j = jI (z j)) ∧ (fs (bdp f sz z) (n + m) 0 ≠ n + m → r.1 = refv f sz (fs (bdp f sz z) (n + m) 0))) := by
  have hfa : fX8_faultAs (42 + 2 * k) (nI la) M = (0 : Int32) := by
    unfold fX8_faultAs
    rw [b0, b1, if_neg (by decide), if_pos rfl]
  unfold fX10_copyPrices
  rw [hfa, e_lt, if_pos rfl, c2, c6, n_add, e_lt]
  refine ok_up (n + m) (fun w x => ∃ M', x = (nI w, M') ∧ zfr [74] M M' ∧ (∀ j, j < w → M'.1 74 j = jI (z j)) ∧ fs (bdp f sz z) (n + m) 0 = fs (bdp f sz z) (n + m) w) ?_ ?_ zFu 0 _ (by omega) (by unfold zFu; omega) ⟨M, rfl, zfr_rf _ _, fun j hj => absurd hj (by omega), rfl⟩
  · rintro rec w x hw ⟨M', rfl, o1, o2, o3⟩ hrec
    have es := fs_s (p := bdp f sz z) (A := n + m) (i := w) hw
    have k2 : M'.1 (42 + 2 * k) 2 = nI sz := by rw [(o1 (42 + 2 * k) (by simp; omega)).1]; exact b2
    have hne : w ≠ n + m := by omega
    have hbad : bdp f sz z w = true → ∀ v M'', v = refv f sz w → (fun r : Int32 × zM => (fs (bdp f sz z) (n + m) 0 = n + m → r.1 = nI 0 ∧ zfr [74] M r.2 ∧ ∀ j, j < n + m → r.2.1 74 j = jI (z j)) ∧ (fs (bdp f sz z) (n + m) 0 ≠ n + m → r.1 = refv f sz (fs (bdp f sz z) (n + m) 0))) (v, M'') := fun hb v M'' hv => by
      rw [if_pos hb] at es
      (try dsimp only)
      rw [o3, es]
      exact ⟨fun q => absurd q hne, fun _ => hv⟩
    (try dsimp only)
    rw [nn_leF (by omega), e_jn, l_0]
    by_cases f0 : 0 ≤ f
    · rw [jn_ltF (by omega), k2, show nI sz - nI w = jI ((sz : Int) - w) by rw [nI_j, nI_j, jI_sub]]
      by_cases q : f + w < sz
      · obtain ⟨z1, z2⟩ := hz w f0 q
        have k3 : M'.1 (42 + 2 * k + 1) (f.toNat + w) = jI (z w) := by rw [(o1 (42 + 2 * k + 1) (by simp; omega)).1]; exact z1
        rw [jj_ltT (by omega), jn_N f0, e_gn (by omega), e_lt, e_znn (by omega), k3, w999 z2, e_lt]
        by_cases y : -999 ≤ z w ∧ z w ≤ 999
        · have hb : bdp f sz z w = false := by
            unfold bdp
            rw [decide_eq_true ⟨f0, q⟩, decide_eq_true y]; rfl
          rw [decide_eq_true y, if_neg (by decide), e_gn (by omega), e_lt, e_znn (by omega), l_1, n_add]
          rw [if_neg (by rw [hb]; decide)] at es
          refine hrec _ ⟨zwI M' 74 w (jI (z w)), rfl, zfr_I o1 (by simp), fun j hj => ?_, by rw [o3, es]⟩
          rw [e_w1s]
          by_cases e : j = w
          · rw [e_uT e, e]
          · rw [e_uF e]; exact o2 j (by omega)
        · have hb : bdp f sz z w = true := by
            unfold bdp
            rw [decide_eq_true ⟨f0, q⟩, decide_eq_false y]; rfl
          rw [decide_eq_false y, if_pos rfl, m_1000020, jn_sub]
          exact ok_some (hbad hb _ _ (if_pos ⟨f0, q⟩).symm)
      · have hb : bdp f sz z w = true := by
          unfold bdp
          rw [decide_eq_false (fun w => q w.2)]; rfl
        rw [jj_ltF (by omega)]
        exact ok_some (hbad hb _ _ (if_neg (fun w => q w.2)).symm)
    · have hb : bdp f sz z w = true := by
        unfold bdp
        rw [decide_eq_false (fun w => f0 w.1)]; rfl
      rw [jn_ltT (by omega)]
      exact ok_some (hbad hb _ _ (if_neg (fun w => f0 w.1)).symm)
  · rintro rec x ⟨M', rfl, o1, o2, o3⟩
    (try dsimp only)
    rw [nn_leT (by omega)]
    refine ok_some ⟨fun _ => ⟨rfl, o1, o2⟩, fun q => absurd ?_ q⟩
    rw [o3, fs_A]
def unq (c : Nat → Nat → Int) (z : Nat → Int) (n i j : Nat) : Bool := decide (c i j ≠ -4 ∧ c i j < z i + z (n + j))
def unp (c : Nat → Nat → Int) (z : Nat → Int) (n m i : Nat) : Bool := decide (i < n) && hj (unq c z n i) m
def ovp (ρ : Nat → Int) (z : Nat → Int) (n x : Nat) : Bool := decide (ρ (if x < n then 7 else 8) < z x)
theorem c_under {M : zM} {n m : Nat} {c : Nat → Nat → Int} {T sv : Int} {z : Nat → Int} (h : pR M n m c T sv) (hV : pV n m c T sv) (h74 : ∀ j, j < n + m → M.1 74 j = jI (z j)) (hz : ∀ j, j < n + m → -999 ≤ z j ∧ z j ≤ 999) : fX10_firstUnderpriced M = some (enc (n + m) (fs (unp c z n m) (n + m) 0)) := by
  have hn := hV.1
  have hm := hV.2.1
  apply ok_eq
  unfold fX10_firstUnderpriced
  rw [h.1, h.2.1]
  refine ok_up n (fun i x => x = nI i ∧ fs (unp c z n m) (n + m) 0 = fs (unp c z n m) (n + m) i) ?_ ?_ zFu 0 _ (by omega) (by unfold zFu; omega) ⟨rfl, rfl⟩
  · rintro rec i x hi ⟨rfl, o1⟩ hrec
    have es := fs_s (p := unp c z n m) (A := n + m) (i := i) (by omega)
    (try dsimp only)
    rw [nn_leF (by omega)]
    refine ok_up m (fun j x => x = nI j ∧ ∀ j', j' < j → unq c z n i j' = false) ?_ ?_ zFu 0 _ (by omega) (by unfold zFu; omega) ⟨rfl, fun j hj => absurd hj (by omega)⟩
    · rintro rec2 j x hj' ⟨rfl, o2⟩ hrec2
      have hc := hV.2.2.2.2 i j hi hj'
      have hco : fX5_costOf (nI i) (nI j) M = some (jI (c i j)) := by
        have := h.2.2.2.2 i j hi hj'
        unfold fX5_costOf
        rw [l_10, n_mul, n_add, e_gn (by omega), e_znn (by omega), this]
      have z1 := hz i (by omega)
      have z2 := hz (n + j) (by omega)
      have hstep : unq c z n i j = false → ok (rec2 (nI (j + 1))) (fun x => x = enc (n + m) (fs (unp c z n m) (n + m) 0)) := fun q => hrec2 _ ⟨rfl, fun j' hj2 => by
        by_cases e : j' = j
        · rw [e]; exact q
        · exact o2 j' (by omega)⟩
      (try dsimp only)
      rw [nn_leF (by omega), c_may h hV hi hj', e_sq, e_jn, l_1, n_add]
      by_cases y : c i j = -4
      · rw [decide_eq_false (fun w => w y), if_pos rfl]
        exact hstep (decide_eq_false (fun w => w.1 y))
      · rw [decide_eq_true y, if_neg (by decide), e_gn (by omega), n_add, e_gn (by omega), e_znn (by omega), e_znn (by omega), hco, e_sq, h74 i (by omega), h74 (n + j) (by omega), jI_add]
        by_cases y2 : z i + z (n + j) ≤ c i j
        · rw [jj_leT (by omega)]
          exact hstep (decide_eq_false (fun w => by omega))
        · rw [jj_leF (by omega)]
          refine ok_some ?_
          have hu : unp c z n m i = true := by
            unfold unp
            rw [decide_eq_true hi, hj_t hj' (decide_eq_true ⟨y, by omega⟩)]; rfl
          rw [o1, es, if_pos hu]
          exact (if_neg (by omega)).symm
    · rintro rec2 x ⟨rfl, o2⟩
      have hu : unp c z n m i = false := by
        unfold unp
        rw [hj_f.2 o2, Bool.and_false]
      (try dsimp only)
      rw [nn_leT (by omega), l_1, n_add]
      exact hrec _ ⟨rfl, by rw [o1, es, if_neg (by rw [hu]; decide)]⟩
  · rintro rec x ⟨rfl, o1⟩
    (try dsimp only)
    rw [nn_leT (by omega)]
    refine ok_some ?_
    rw [o1, fs_none (by omega) (fun x h1 h2 => by unfold unp; rw [decide_eq_false (by omega)]; rfl)]
    exact (if_pos rfl).symm
theorem c_over {M : zM} {n m : Nat} {ρ : Nat → Int} {z : Nat → Int} (hn : n ≤ 10) (hm : m ≤ 10) (h0 : M.1 55 0 = nI n) (h1 : M.1 55 1 = nI m) (h7 : M.1 11 7 = jI (ρ 7)) (h8 : M.1 11 8 = jI (ρ 8)) (b7 : 0 ≤ ρ 7 ∧ ρ 7 ≤ 99) (b8 : 0 ≤ ρ 8 ∧ ρ 8 ≤ 99) (h74 : ∀ j, j < n + m → M.1 74 j = jI (z j)) (hz : ∀ j, j < n + m → -999 ≤ z j ∧ z j ≤ 999) : fX10_firstOverpriced M = some (enc (n + m) (fs (ovp ρ z n) (n + m) 0)) := by
  apply ok_eq
  unfold fX10_firstOverpriced
  rw [h0, h1, n_add]
  refine ok_up (n + m) (fun i x => x = nI i ∧ fs (ovp ρ z n) (n + m) 0 = fs (ovp ρ z n) (n + m) i) ?_ ?_ zFu 0 _ (by omega) (by unfold zFu; omega) ⟨rfl, rfl⟩
  · rintro rec i x hi ⟨rfl, o1⟩ hrec
    have es := fs_s (p := ovp ρ z n) (A := n + m) (i := i) (by omega)
    have z1 := hz i hi
    have fin : ∀ r : Int, (r = ρ (if i < n then 7 else 8)) → (0 ≤ r ∧ r ≤ 99) → ok (if jI (z i) ≤ jI r then rec (nI i + 1) else some (nI i)) (fun x => x = enc (n + m) (fs (ovp ρ z n) (n + m) 0)) := fun r hr hb => by
      by_cases y : z i ≤ r
      · rw [jj_leT (by omega), l_1, n_add]
        refine hrec _ ⟨rfl, ?_⟩
        rw [o1, es, if_neg]
        rw [show ovp ρ z n i = false from decide_eq_false (by rw [← hr]; omega)]
        decide
      · rw [jj_leF (by omega)]
        refine ok_some ?_
        rw [o1, es, if_pos (show ovp ρ z n i = true from decide_eq_true (by rw [← hr]; omega))]
        exact (if_neg (by omega)).symm
    (try dsimp only)
    rw [nn_leF (by omega), e_gn (by omega), e_lt, e_znn (by omega), h74 i hi]
    by_cases y : i < n
    · rw [nn_leF (by omega), l_7, e_gn (by omega), e_znn (by omega), h7]
      exact fin (ρ 7) (by rw [if_pos y]) b7
    · rw [nn_leT (by omega), l_8, e_gn (by omega), e_znn (by omega), h8]
      exact fin (ρ 8) (by rw [if_neg y]) b8
  · rintro rec x ⟨rfl, o1⟩
    (try dsimp only)
    rw [nn_leT (by omega)]
    refine ok_some ?_
    rw [o1, fs_A]
    exact (if_pos rfl).symm
theorem sm_999 {z : Nat → Int} {A : Nat} (hz : ∀ j, j < A → -999 ≤ z j ∧ z j ≤ 999) : ∀ w, w ≤ A → -999 * (w : Int) ≤ sm z w ∧ sm z w ≤ 999 * (w : Int)
  | 0, _ => by
    show -999 * ((0 : Nat) : Int) ≤ 0 ∧ (0 : Int) ≤ 999 * ((0 : Nat) : Int)
    omega
  | w + 1, h => by
    have h1 := sm_999 hz w (by omega)
    have h2 := hz w (by omega)
    show -999 * ((w + 1 : Nat) : Int) ≤ sm z w + z w ∧ sm z w + z w ≤ 999 * ((w + 1 : Nat) : Int)
    omega
theorem c_sumP {M : zM} {n m : Nat} {z : Nat → Int} (hn : n ≤ 10) (hm : m ≤ 10) (h0 : M.1 55 0 = nI n) (h1 : M.1 55 1 = nI m) (h74 : ∀ j, j < n + m → M.1 74 j = jI (z j)) : fX10_sumOfPrices M = some (jI (sm z (n + m))) := by
  apply ok_eq
  unfold fX10_sumOfPrices
  rw [h0, h1, n_add]
  refine ok_up (n + m) (fun i x => x = (jI (sm z i), nI i)) ?_ ?_ zFu 0 _ (by omega) (by unfold zFu; omega) rfl
  · rintro rec i x hi rfl hrec
    (try dsimp only)
    rw [nn_leF (by omega), e_gn (by omega), e_znn (by omega), h74 i hi, jI_add, e_lt, l_1, n_add]
    exact hrec _ rfl
  · rintro rec x rfl
    (try dsimp only)
    rw [nn_leT (by omega)]
    exact ok_some rfl
def pfin (x A U O : Nat) (s t : Int) : Int32 := if x = 0 then (if U = A ∧ O = A then nI 1 else nI 0) else if x = 1 then enc A U else if x = 2 then enc A O else if U = A ∧ O = A then (if x = 3 then jI s else jI (t - s)) else jI (-4)
theorem in_n {k N : Nat} {z : Int} (hN : N < 2147483648) (hz : z = N) (h : k ≤ N) : fX11_in (nI k).toInt64 (jL 0) (jL z) = true := by
  rw [nI_j, jI_l (by omega), fi_eq _ _ _ (by omega) (by omega) (by omega)]
  exact decide_eq_true (by omega)
theorem at_N {k w : Nat} {f : Int} (h : 0 ≤ f) : ((64 : Int32) * nI k + jI f) + nI w = nI (64 * k + (f.toNat + w)) := by
  rw [l_64, n_mul, nj_add, jn_add, nI_j]
  exact congrArg jI (by omega)
theorem at_N2 {k n w : Nat} {f : Int} (h : 0 ≤ f) : (((64 : Int32) * nI k + jI f) + nI n) + nI w = nI (64 * k + (f.toNat + (n + w))) := by
  rw [l_64, n_mul, nj_add, jn_add, jn_add, nI_j]
  exact congrArg jI (by omega)
theorem r_prc {M : zM} {ρ : Nat → Int} {S : Nat → Nat} {k la sz x : Nat} {f : Int} {z : Nat → Int} (h2 : rR M 0 ρ S) (hV : V ρ S) (hk : k < 4) (hla : la < 3) (hsz : sz ≤ 64) (hx : x ≤ 4) (a4 : M.1 97 k = nI la) (a6 : M.1 98 k = nI sz) (hf : rg f) (hz : ∀ w : Nat, 0 ≤ f → f + w < sz → M.1 99 (64 * k + (f.toNat + w)) = jI (z w) ∧ rg (z w)) {v : Int} (hv : isL (S 64) (S 65) (alP (co ρ S 15)) (gP (co ρ S 15) (ρ 7 + ρ 8)) v) :
    ok (fX11_prices (nI k) (nI la) (jI f) (nI x) M) (fun r => r.1 = if fs (bdp f sz z) (S 64 + S 65) 0 = S 64 + S 65 then pfin x (S 64 + S 65) (fs (unp (co ρ S 15) z (S 64) (S 65)) (S 64 + S 65) 0) (fs (ovp ρ z (S 64)) (S 64 + S 65) 0) (sm z (S 64 + S 65)) ((ρ 7 * S 64 + ρ 8 * S 65) + v) else refv f sz (fs (bdp f sz z) (S 64 + S 65) 0)) := by
  have hS := hV.1
  have hpv := V_pV hV 15
  obtain ⟨v1, v2, v3, v4, v5, v6, v7, v8, v9, v10, v11, v12, v13⟩ := id hV
  obtain ⟨A, hA⟩ : ∃ A, A = S 64 + S 65 := ⟨_, rfl⟩
  have hl0 : fX11_linesOf (0 : Int32) (0 : Int32) M = some (nI (S 64)) := (r_lines h2).1
  have hl1 : fX11_linesOf (1 : Int32) (0 : Int32) M = some (nI (S 65)) := (r_lines h2).2
  rw [← hA]
  unfold fX11_prices
  rw [L_0, L_3, L_2, L_4, in_n (N := 3) (z := 3) (by omega) rfl (by omega), e_lt, e_jn, if_neg (by decide), in_n (N := 2) (z := 2) (by omega) rfl (by omega), e_lt, if_neg (by decide), in_n (N := 4) (z := 4) (by omega) rfl (by omega), e_lt, if_neg (by decide), e_gn (by omega), e_jn, e_znn (by omega), a4, m_4, nj_eqF (by omega), e_gn (by omega), if_pos rfl, hl0, e_sq, hl1, e_sq, n_add, e_lt, ← hA]
  refine ok_up A (fun w x => x = nI w ∧ fs (bdp f sz z) A 0 = fs (bdp f sz z) A w ∧ (w = 0 ∨ 0 ≤ f)) ?_ ?_ zFu 0 _ (by omega) (by unfold zFu; omega) ⟨rfl, rfl, Or.inl rfl⟩
  · rintro rec w u hw ⟨rfl, o1, o2⟩ hrec
    have es := fs_s (p := bdp f sz z) (A := A) (i := w) hw
    have hs1 : (nI sz - (1 : Int32)).toInt64 = jL ((sz : Int) - 1) := by
      rw [l_1, nI_j, nI_j, jI_sub, jI_l (by omega)]
      rfl
    have hbad : bdp f sz z w = true → (if fs (bdp f sz z) A 0 = A then pfin x A (fs (unp (co ρ S 15) z (S 64) (S 65)) A 0) (fs (ovp ρ z (S 64)) A 0) (sm z A) ((ρ 7 * S 64 + ρ 8 * S 65) + v) else refv f sz (fs (bdp f sz z) A 0)) = refv f sz w := fun hb => by
      rw [if_pos hb] at es
      rw [o1, es, if_neg (by omega)]
    (try dsimp only)
    rw [nn_leF (by omega), e_gn (by omega), a6, hs1, j_l hf, n_l (by omega), jL_add, fi_eq _ _ _ (by omega) (by omega) (by omega), e_lt]
    by_cases q : 0 ≤ f ∧ f + w < sz
    · obtain ⟨z1, z2⟩ := hz w q.1 q.2
      rw [decide_eq_true (show 0 ≤ f + (w : Int) ∧ f + (w : Int) ≤ (sz : Int) - 1 by omega), if_neg (by decide), at_N q.1, e_gn (by omega), e_znn (by omega), z1, i999 z2, e_lt]
      by_cases y : -999 ≤ z w ∧ z w ≤ 999
      · have hb : bdp f sz z w = false := by
          unfold bdp
          rw [decide_eq_true q, decide_eq_true y]; rfl
        rw [decide_eq_true y, if_neg (by decide), l_1, n_add]
        rw [if_neg (by rw [hb]; decide)] at es
        exact hrec _ ⟨rfl, by rw [o1, es], Or.inr q.1⟩
      · have hb : bdp f sz z w = true := by
          unfold bdp
          rw [decide_eq_true q, decide_eq_false y]; rfl
        rw [decide_eq_false y, if_pos rfl, m_1000020, jn_sub]
        refine ok_some ?_
        (try dsimp only)
        rw [hbad hb]
        exact (if_pos q).symm
    · have hb : bdp f sz z w = true := by
        unfold bdp
        rw [decide_eq_false q]; rfl
      rw [decide_eq_false (show ¬ (0 ≤ f + (w : Int) ∧ f + (w : Int) ≤ (sz : Int) - 1) by omega), if_pos rfl]
      refine ok_some ?_
      (try dsimp only)
      rw [hbad hb]
      exact (if_neg q).symm
  · rintro rec u ⟨rfl, o1, o2⟩
    (try dsimp only)
    rw [nn_leT (by omega)]
    refine ok_sq (r_layAll h2 hV) ?_
    rintro M2 ⟨⟨c2, t2⟩, f2⟩
    obtain ⟨v', b', fw', gr', s1, _, _, _, _, s6, s7, _⟩ := r_sum hV t2 (aQ_none (fun i _ => alP_10 _ i))
    rw [← isL_un hv (sOK_L hS.2 s6)] at s1 s7
    have k2 := rR_fr h2 f2 (by decide) (by decide)
    have ml1 : fX11_linesOf (1 : Int32) (0 : Int32) M2 = some (nI (S 65)) := (r_lines k2).2
    have r7 := rR_r k2 (k := 7) (by omega)
    have r8 := rR_r k2 (k := 8) (by omega)
    have hG : fs (bdp f sz z) A 0 = A := by rw [o1, fs_A]
    have hall : ∀ w, w < A → (0 ≤ f ∧ f + w < sz) ∧ (-999 ≤ z w ∧ z w ≤ 999) := fun w hw => by
      have := fs_all (by omega) hG w (by omega) hw
      unfold bdp at this
      simpa using this
    have h99 : ∀ w, w < A → M2.1 99 (64 * k + (f.toNat + w)) = jI (z w) := fun w hw => by
      rw [(f2 99 (by decide)).1]
      exact (hz w (hall w hw).1.1 (hall w hw).1.2).1
    have hsm := sm_999 (z := z) (A := A) (fun w hw => (hall w hw).2)
    rw [if_pos hG, e_lt, e_lt]
    refine ok_sq (P := fun u => u = (enc A (fs (unp (co ρ S 15) z (S 64) (S 65)) A 0), enc A (fs (ovp ρ z (S 64)) A 0), jI (sm z A))) ?_ ?_
    · refine ok_up A (fun i u => u = (enc A (fs (unp (co ρ S 15) z (S 64) (S 65)) A (A - i)), enc A (fs (ovp ρ z (S 64)) A (A - i)), jI (sm z A - sm z (A - i)), jI ((A : Int) - 1 - i))) ?_ ?_ zFu 0 _ (by omega) (by unfold zFu; omega) ?_
      · rintro rec2 i u hi rfl hrec2
        obtain ⟨s, hs⟩ : ∃ s, A = s + 1 + i := ⟨A - 1 - i, by omega⟩
        have hsA : s < A := by omega
        rw [show A - i = s + 1 by omega, show jI ((A : Int) - 1 - i) = nI s by rw [nI_j]; exact congrArg jI (by omega)]
        rw [show A - (i + 1) = s by omega, show jI ((A : Int) - 1 - ((i + 1 : Nat) : Int)) = jI ((s : Int) - 1) from congrArg jI (by omega)] at hrec2
        have hf0 := (hall s hsA).1.1
        have hfs := (hall s hsA).1.2
        have hzs := (hall s hsA).2
        have eo := fs_s (p := ovp ρ z (S 64)) (A := A) (i := s) hsA
        have eu := fs_s (p := unp (co ρ S 15) z (S 64) (S 65)) (A := A) (i := s) hsA
        have hov : ∀ r : Int, (r = ρ (if s < S 64 then 7 else 8)) → (0 ≤ r ∧ r ≤ 99) → (if jI (z s) ≤ jI r then enc A (fs (ovp ρ z (S 64)) A (s + 1)) else nI s) = enc A (fs (ovp ρ z (S 64)) A s) := fun r hr hb => by
          by_cases y : z s ≤ r
          · rw [jj_leT (by omega), eo, if_neg]
            rw [show ovp ρ z (S 64) s = false from decide_eq_false (by rw [← hr]; omega)]
            decide
          · rw [jj_leF (by omega), eo, if_pos (show ovp ρ z (S 64) s = true from decide_eq_true (by rw [← hr]; omega))]
            exact (if_neg (by omega)).symm
        have esum : jI (sm z A - sm z (s + 1)) + jI (z s) = jI (sm z A - sm z s) := by
          rw [jI_add]
          refine congrArg jI ?_
          show sm z A - (sm z s + z s) + z s = _
          omega
        have edec : nI s + (-1 : Int32) = jI ((s : Int) - 1) := by rw [m_1, nj_add]; rfl
        (try dsimp only)
        rw [l_0, nn_ltF (by omega), at_N hf0, e_gn (by omega), e_lt, e_znn (by omega), h99 s hsA, esum, e_lt, edec]
        by_cases y : s < S 64
        · rw [nn_leF (by omega), l_7, e_lt, e_gn (by omega), e_znn (by omega), r7, hov (ρ 7) (by rw [if_pos y]) v11, e_lt]
          refine ok_sq (P := fun v => v = enc A (fs (unp (co ρ S 15) z (S 64) (S 65)) A s)) ?_ ?_
          · refine ok_up (S 65) (fun j u => u = ((if hj (unq (co ρ S 15) z (S 64) s) j = true then nI s else enc A (fs (unp (co ρ S 15) z (S 64) (S 65)) A (s + 1))), nI j)) ?_ ?_ zFu 0 _ (by omega) (by unfold zFu; omega) rfl
            · rintro rec3 j u hj' rfl hrec3
              have hc := hpv.2.2.2.2 s j y hj'
              have hcm := c2 s j y hj'
              have hnj : S 64 + j < A := by omega
              have hz2 := (hall _ hnj).2
              have hf2 := (hall _ hnj).1.2
              (try dsimp only)
              rw [← l_0, ml1, e_sq, nn_leF (by omega), nn_leF (by omega), l_10, n_mul, n_add, e_gn (by omega), e_jn, e_znn (by omega), hcm]
              by_cases y2 : co ρ S 15 s j = -4
              · have hq : unq (co ρ S 15) z (S 64) s j = false := decide_eq_false (fun w => w.1 y2)
                rw [y2, if_pos rfl, e_sq, l_1, n_add]
                refine hrec3 _ ?_
                show _ = ((if (hj (unq (co ρ S 15) z (S 64) s) j || unq (co ρ S 15) z (S 64) s j) = true then _ else _), _)
                rw [hq, Bool.or_false]
              · rw [jj_eqF (by omega), at_N2 hf0, e_gn (by omega), e_gn (by omega), e_znn (by omega), h99 _ hnj, jI_add]
                by_cases y3 : z s + z (S 64 + j) ≤ co ρ S 15 s j
                · have hq : unq (co ρ S 15) z (S 64) s j = false := decide_eq_false (fun w => by omega)
                  rw [jj_leT (by omega), e_sq, l_1, n_add]
                  refine hrec3 _ ?_
                  show _ = ((if (hj (unq (co ρ S 15) z (S 64) s) j || unq (co ρ S 15) z (S 64) s j) = true then _ else _), _)
                  rw [hq, Bool.or_false]
                · have hq : unq (co ρ S 15) z (S 64) s j = true := decide_eq_true ⟨y2, by omega⟩
                  rw [jj_leF (by omega), e_sq, l_1, n_add]
                  refine hrec3 _ ?_
                  show _ = ((if (hj (unq (co ρ S 15) z (S 64) s) j || unq (co ρ S 15) z (S 64) s j) = true then _ else _), _)
                  rw [hq, Bool.or_true, if_pos rfl]
            · rintro rec3 u rfl
              (try dsimp only)
              rw [← l_0, ml1, e_sq, nn_leT (by omega)]
              refine ok_some ?_
              have hun : unp (co ρ S 15) z (S 64) (S 65) s = hj (unq (co ρ S 15) z (S 64) s) (S 65) := by
                unfold unp
                rw [decide_eq_true y, Bool.true_and]
              rw [eu, hun]
              cases hj (unq (co ρ S 15) z (S 64) s) (S 65)
              · rw [if_neg (by decide), if_neg (by decide)]
              · rw [if_pos rfl, if_pos rfl]
                exact (if_neg (by omega)).symm
          · rintro v' rfl
            exact hrec2 _ rfl
        · have hun : unp (co ρ S 15) z (S 64) (S 65) s = false := by
            unfold unp
            rw [decide_eq_false y, Bool.false_and]
          rw [nn_leT (by omega), l_8, e_lt, e_gn (by omega), e_znn (by omega), r8, hov (ρ 8) (by rw [if_neg y]) v12, e_lt]
          refine ok_sq (P := fun v => v = enc A (fs (unp (co ρ S 15) z (S 64) (S 65)) A s)) ?_ ?_
          · rw [eu, if_neg (by rw [hun]; decide)]
            refine ok_up 0 (fun j u => u = (enc A (fs (unp (co ρ S 15) z (S 64) (S 65)) A (s + 1)), nI 0)) (fun _ i _ hi => absurd hi (by omega)) ?_ zFu 0 _ (by omega) (by unfold zFu; omega) rfl
            rintro rec3 u rfl
            (try dsimp only)
            rw [← l_0, ml1, e_sq, l_0]
            by_cases y4 : S 65 = 0
            · rw [nn_leT (by omega)]
              exact ok_some rfl
            · rw [nn_leF (by omega), nn_leT (by omega)]
              exact ok_some rfl
          · rintro v' rfl
            exact hrec2 _ rfl
      · rintro rec2 u rfl
        (try dsimp only)
        rw [l_0, jn_ltT (by omega), Nat.sub_self]
        refine ok_some ?_
        rw [show sm z 0 = 0 from rfl, Int.sub_zero]
      · rw [Nat.sub_zero, fs_A, fs_A, show enc A A = jI (-4) from if_pos rfl, Int.sub_self, l_1, nI_j, nI_j, jI_sub, show (A : Int) - ((1 : Nat) : Int) = (A : Int) - 1 - ((0 : Nat) : Int) by omega]
        rfl
    · rintro u rfl
      have hU := fs_bd (unp (co ρ S 15) z (S 64) (S 65)) (A := A) (i := 0) (by omega)
      have hO := fs_bd (ovp ρ z (S 64)) (A := A) (i := 0) (by omega)
      have hsA := hsm A (Nat.le_refl _)
      (try dsimp only)
      rw [enc_b (by omega) hU.2 hO.2, e_lt]
      generalize fs (unp (co ρ S 15) z (S 64) (S 65)) A 0 = U
      generalize fs (ovp ρ z (S 64)) A 0 = O
      unfold pfin
      by_cases x0 : x = 0
      · rw [if_pos (by rw [x0]; rfl), if_pos x0]
        by_cases y : U = A ∧ O = A
        · rw [decide_eq_true y, if_neg (by decide), if_pos y]
          exact ok_some rfl
        · rw [decide_eq_false y, if_pos rfl, if_neg y]
          exact ok_some rfl
      rw [l_0, nn_eqF (by omega), if_neg x0, l_1]
      by_cases x1 : x = 1
      · rw [nn_eqT (by omega), if_pos x1]
        exact ok_some rfl
      rw [nn_eqF (by omega), if_neg x1, l_2]
      by_cases x2 : x = 2
      · rw [nn_eqT (by omega), if_pos x2]
        exact ok_some rfl
      rw [nn_eqF (by omega), if_neg x2]
      by_cases y : U = A ∧ O = A
      · rw [decide_eq_true y, if_neg (by decide), if_pos y, l_3]
        by_cases x3 : x = 3
        · rw [nn_eqT (by omega), if_pos x3]
          exact ok_some rfl
        · rw [nn_eqF (by omega), if_neg x3, e_gn (by omega), e_znn (by omega), s1, jI_sub]
          exact ok_some rfl
      · rw [decide_eq_false y, if_pos rfl, if_neg y]
        exact ok_some rfl
theorem q_prices {M : zM} (h : RR M) (p q r s : Int32) : AG2 (fX10_prices p q r s) (fX11_prices p q r s) M := by
  obtain ⟨ρ, S, h1, h2, hV⟩ := h.1
  have h1 : cR M 1 ρ S := h1
  have hS := hV.1
  have hpv := V_pV hV 15
  have x3 : (Int32.ofNat 4) - (1 : Int32) = nI 3 := by decide
  rcases ar p 3 3 (by omega) rfl with ⟨k, hk, rfl, e1, e2⟩ | ⟨e1, e2, _⟩
  rotate_left
  · refine ⟨jI (-1000000), M, M, ?_, ?_, h⟩
    · unfold fX10_prices fX10_isSheet
      rw [x3, l_0, e1]; rfl
    · unfold fX11_prices
      rw [L_0, L_3, e2]; rfl
  rcases ar q 2 2 (by omega) rfl with ⟨la', hla', rfl, e3, e4⟩ | ⟨e3, e4, _⟩
  rotate_left
  · refine ⟨jI (-1000000), M, M, ?_, ?_, h⟩
    · unfold fX10_prices fX10_isSheet fX10_isLane
      rw [x3, l_0, l_2, e1, e3]; rfl
    · unfold fX11_prices
      rw [L_0, L_3, L_2, e2, e4]; rfl
  rcases ar s 4 4 (by omega) rfl with ⟨x, hx, rfl, e5, e6⟩ | ⟨e5, e6, _⟩
  rotate_left
  · refine ⟨jI (-1000000), M, M, ?_, ?_, h⟩
    · unfold fX10_prices fX10_isSheet fX10_isLane
      rw [x3, l_0, l_2, l_4, e1, e3, e5]; rfl
    · unfold fX11_prices
      rw [L_0, L_3, L_2, L_4, e2, e4, e6]; rfl
  obtain ⟨f, hf, rfl⟩ := jI_of r
  obtain ⟨b, b0, b1, b2⟩ := h.2.2.2.1 k (by omega)
  have hcf : ∀ y, fX8_faultAs (42 + 2 * k) (nI la') M = y → y ≠ (0 : Int32) → ((-1000010 : Int32) - y) ≠ 0 → fX10_prices (nI k) (nI la') (jI f) (nI x) M = some ((-1000010 : Int32) - y, M) := fun y hy hy0 hy1 => by
    have hcp : fX10_copyPrices (42 + 2 * k) (nI la') (jI f) M = some ((-1000010 : Int32) - y, M) := by
      unfold fX10_copyPrices
      rw [hy, e_lt, if_neg hy0]
    unfold fX10_prices fX10_isSheet fX10_isLane
    rw [x3]
    have e1 : fX10_within (nI k) (0 : Int32) (nI 3) = true := e1
    have e3 : fX10_within (nI la') (0 : Int32) (2 : Int32) = true := e3
    have e5 : fX10_within (nI x) (0 : Int32) (4 : Int32) = true := e5
    rw [e1, e_lt, e_jn, if_neg (by decide), e3, e_lt, if_neg (by decide), e5, e_lt, if_neg (by decide), e_gn (by omega), e_znn (by omega), e_lt, hcp, e_bi, if_neg hy1]
  cases b
  · have b1 := b1 rfl
    refine ⟨(-1000010 : Int32) - (1 : Int32), M, M, hcf (1 : Int32) ?_ (by decide) (by decide), ?_, h⟩
    · unfold fX8_faultAs
      rw [b0]; rfl
    · unfold fX11_prices
      rw [L_0, L_3, L_2, L_4, e2, e_lt, e_jn, if_neg (by decide), e4, e_lt, if_neg (by decide), e6, e_lt, if_neg (by decide), e_gn (by omega), e_jn, e_znn (by omega), b1, m_4, if_pos rfl, e_gn (by omega), if_pos rfl, e_lt]
  obtain ⟨la, sz, a1, a2, a3, a4, a5, a6, a7⟩ := b2 rfl
  by_cases el : la = la'
  rotate_left
  · refine ⟨(-1000010 : Int32) - (3 : Int32), M, M, hcf (3 : Int32) ?_ (by decide) (by decide), ?_, h⟩
    · unfold fX8_faultAs
      rw [b0, a3, if_neg (by decide), nn_eqF (by omega)]
    · unfold fX11_prices
      rw [L_0, L_3, L_2, L_4, e2, e_lt, e_jn, if_neg (by decide), e4, e_lt, if_neg (by decide), e6, e_lt, if_neg (by decide), e_gn (by omega), e_jn, e_znn (by omega), a4, m_4, nj_eqF (by omega), e_gn (by omega), nn_eqF (by omega), e_gn (by omega), nj_eqF (by omega), e_lt]
  subst el
  obtain ⟨z, hz0⟩ : ∃ z : Nat → Int, z = fun w => (M.1 99 (64 * k + (f.toNat + w))).toInt := ⟨_, rfl⟩
  have hz99 : ∀ w : Nat, M.1 99 (64 * k + (f.toNat + w)) = jI (z w) ∧ rg (z w) := fun w => by
    have ez : z w = (M.1 99 (64 * k + (f.toNat + w))).toInt := by rw [hz0]
    have e1 := Int32.le_toInt (M.1 99 (64 * k + (f.toNat + w)))
    have e2 := Int32.toInt_lt (M.1 99 (64 * k + (f.toNat + w)))
    exact ⟨by rw [ez]; exact (Int32.ofInt_toInt _).symm, by omega⟩
  obtain ⟨Ml, l1, l2, l3⟩ := c_look h1 hV (pl := 15) (by omega)
  obtain ⟨⟨_, _⟩, _, ⟨v, _, hv⟩, _⟩ := c_lt l2 hpv
  obtain ⟨A, hA⟩ : ∃ A, A = S 64 + S 65 := ⟨_, rfl⟩
  have c2 : M.1 2 0 = nI (S 64) := h1.1.1
  have c6 : M.1 6 0 = nI (S 65) := h1.2.1.1
  refine ag2 (v := if fs (bdp f sz z) (S 64 + S 65) 0 = S 64 + S 65 then pfin x (S 64 + S 65) (fs (unp (co ρ S 15) z (S 64) (S 65)) (S 64 + S 65) 0) (fs (ovp ρ z (S 64)) (S 64 + S 65) 0) (sm z (S 64 + S 65)) ((ρ 7 * S 64 + ρ 8 * S 65) + v) else refv f sz (fs (bdp f sz z) (S 64 + S 65) 0)) h h2 ?_ (frX10_prices _ _ _ _ M) (by unfold scr; decide) (fun M1 k1 f1 => ?_) (fun M1 => frX11_prices _ _ _ _ M1) (by unfold scr; decide)
  rotate_left
  · exact r_prc k1 hV (by omega) a1 a2 hx (by rw [(f1 97 (by decide)).1]; exact a4) (by rw [(f1 98 (by decide)).1]; exact a6) hf (fun w _ _ => by rw [(f1 99 (by decide)).1]; exact hz99 w) hv
  · unfold fX10_prices fX10_isSheet fX10_isLane
    rw [x3]
    have e1 : fX10_within (nI k) (0 : Int32) (nI 3) = true := e1
    have e3 : fX10_within (nI la) (0 : Int32) (2 : Int32) = true := e3
    have e5 : fX10_within (nI x) (0 : Int32) (4 : Int32) = true := e5
    rw [e1, e_lt, e_jn, if_neg (by decide), e3, e_lt, if_neg (by decide), e5, e_lt, if_neg (by decide), e_gn (by omega), e_znn (by omega), e_lt]
    refine ok_bi (c_copy (n := S 64) (m := S 65) (z := z) (by omega) a1 a2 hS.1 hS.2 b0 a3 a5 c2 c6 hf (fun w q1 q2 => ⟨by rw [a7 _ (by omega)]; exact (hz99 w).1, (hz99 w).2⟩)) ?_
    rintro y M1 ⟨y1, y2⟩
    dsimp only at y1 y2
    by_cases G : fs (bdp f sz z) (S 64 + S 65) 0 = S 64 + S 65
    rotate_left
    · have hF := fs_bd (bdp f sz z) (A := S 64 + S 65) (i := 0) (by omega)
      have hne : refv f sz (fs (bdp f sz z) (S 64 + S 65) 0) ≠ nI 0 := by
        unfold refv
        split
        · rw [nI_j, Ne, jI_eq (by omega) (by omega)]
          omega
        · rw [nI_j, Ne, jI_eq (by omega) (by omega)]
          omega
      rw [y2 G, if_neg (show ¬ refv f sz (fs (bdp f sz z) (S 64 + S 65) 0) = (0 : Int32) from hne), if_neg G]
      exact ok_some rfl
    obtain ⟨y3, f1, y4⟩ := y1 G
    have h11 : cR M1 1 ρ S := cR_fr h1 f1 (fun c w1 w2 w3 => by simp only [List.mem_cons, List.not_mem_nil, or_false] at w3; omega)
    have hall : ∀ w, w < S 64 + S 65 → -999 ≤ z w ∧ z w ≤ 999 := fun w hw => by
      have := fs_all (by omega) G w (by omega) hw
      unfold bdp at this
      simp at this
      exact this.2
    rw [y3, if_pos (show nI 0 = (0 : Int32) from rfl), if_pos G]
    refine ok_sq (c_look h11 hV (pl := 15) (by omega)) ?_
    rintro M2 ⟨p2, f2⟩
    have h74 : ∀ j, j < S 64 + S 65 → M2.1 74 j = jI (z j) := fun j hj => by rw [(f2 74 (by decide)).1]; exact y4 j hj
    have h12 : cR M2 1 ρ S := cR_fr h11 f2 (fun c w1 w2 w3 => by simp only [List.mem_cons, List.not_mem_nil, or_false] at w3; omega)
    obtain ⟨v1, v2, v3, v4, v5, v6, v7, v8, v9, v10, v11, v12, v13⟩ := id hV
    have hU := fs_bd (unp (co ρ S 15) z (S 64) (S 65)) (A := S 64 + S 65) (i := 0) (by omega)
    have hO := fs_bd (ovp ρ z (S 64)) (A := S 64 + S 65) (i := 0) (by omega)
    have hsA := sm_999 hall (S 64 + S 65) (Nat.le_refl _)
    rw [c_under p2 hpv h74 hall, e_sq, c_over hS.1 hS.2 p2.1 p2.2.1 (h12.2.2.1.1 7 (by omega)) (h12.2.2.1.1 8 (by omega)) v11 v12 h74 hall, e_sq, m_4, enc_b (by omega) hU.2 hO.2, e_lt]
    generalize fs (unp (co ρ S 15) z (S 64) (S 65)) (S 64 + S 65) 0 = U
    generalize fs (ovp ρ z (S 64)) (S 64 + S 65) 0 = O
    unfold pfin
    by_cases x0 : x = 0
    · rw [if_pos (by rw [x0]; rfl), if_pos x0]
      by_cases y : U = S 64 + S 65 ∧ O = S 64 + S 65
      · rw [decide_eq_true y, if_neg (by decide), if_pos y]
        exact ok_some rfl
      · rw [decide_eq_false y, if_pos rfl, if_neg y]
        exact ok_some rfl
    rw [l_0, nn_eqF (by omega), if_neg x0, l_1]
    by_cases x1 : x = 1
    · rw [nn_eqT (by omega), if_pos x1]
      exact ok_some rfl
    rw [nn_eqF (by omega), if_neg x1, l_2]
    by_cases x2 : x = 2
    · rw [nn_eqT (by omega), if_pos x2]
      exact ok_some rfl
    rw [nn_eqF (by omega), if_neg x2, l_3]
    by_cases x3 : x = 3
    · rw [nn_eqT (by omega)]
      by_cases y : U = S 64 + S 65 ∧ O = S 64 + S 65
      · rw [decide_eq_true y, if_neg (by decide), if_pos y, if_pos x3, c_sumP hS.1 hS.2 p2.1 p2.2.1 h74, e_sq]
        exact ok_some rfl
      · rw [decide_eq_false y, if_pos rfl, if_neg y]
        exact ok_some rfl
    · rw [nn_eqF (by omega)]
      by_cases y : U = S 64 + S 65 ∧ O = S 64 + S 65
      · rw [decide_eq_true y, if_neg (by decide), if_pos y, if_neg x3]
        refine ok_bi (ok_fr (c_lt p2 hpv) (frX4_leastTotal M2)) ?_
        rintro t M3 ⟨⟨⟨v', t1, t2⟩, p3⟩, f3⟩
        dsimp only at t1 p3 f3
        rw [c_sumP hS.1 hS.2 p3.1 p3.2.1 (fun j hj => by rw [(f3 74 (by decide)).1]; exact h74 j hj), e_sq, t1, isL_un t2 hv, jI_l (by omega), jL_sub, jL_i]
        exact ok_some rfl
      · rw [decide_eq_false y, if_pos rfl, if_neg y]
        exact ok_some rfl
