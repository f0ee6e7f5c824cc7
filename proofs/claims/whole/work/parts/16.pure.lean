/-! ===== pure: computations that come to something ===== -/
def ok {σ : Type} (r : Option σ) (Q : σ → Prop) : Prop := ∃ x, r = some x ∧ Q x
theorem ok_some {σ : Type} {x : σ} {Q : σ → Prop} (h : Q x) : ok (some x) Q := ⟨x, rfl, h⟩
theorem ok_mono {σ : Type} {r : Option σ} {P Q : σ → Prop} (h : ok r P) (hm : ∀ x, P x → Q x) : ok r Q := let ⟨x, h1, h2⟩ := h; ⟨x, h1, hm x h2⟩
theorem ok_grd {σ : Type} {c : Prop} [Decidable c] {r : Option σ} {Q : σ → Prop} (hc : c) (h : ok r Q) : ok (grd c r) Q := by
  unfold grd
  rw [if_pos hc]
  exact h
theorem ok_lt {α σ : Type} {v : α} {k : α → Option σ} {Q : σ → Prop} (h : ok (k v) Q) : ok (lt v k) Q := h
theorem ok_sq {α σ : Type} {r : Option α} {k : α → Option σ} {P : α → Prop} {Q : σ → Prop} (h : ok r P) (hk : ∀ x, P x → ok (k x) Q) : ok (sq r k) Q := by
  obtain ⟨x, rfl, h2⟩ := h
  exact hk x h2
theorem ok_bi {α β σ : Type} {r : Option (α × β)} {k : α → β → Option σ} {P : α × β → Prop} {Q : σ → Prop} (h : ok r P) (hk : ∀ a b, P (a, b) → ok (k a b) Q) : ok (bi r k) Q := by
  obtain ⟨⟨a, b⟩, rfl, h2⟩ := h
  exact hk a b h2
theorem ok_ite {σ : Type} {c : Prop} [Decidable c] {a b : Option σ} {Q : σ → Prop} (ha : c → ok a Q) (hb : ¬ c → ok b Q) : ok (if c then a else b) Q := by
  by_cases h : c
  · rw [if_pos h]; exact ha h
  · rw [if_neg h]; exact hb h
theorem ok_pos {σ : Type} {c : Prop} [Decidable c] {a b : Option σ} {Q : σ → Prop} (hc : c) (ha : ok a Q) : ok (if c then a else b) Q := by rw [if_pos hc]; exact ha
theorem ok_neg {σ : Type} {c : Prop} [Decidable c] {a b : Option σ} {Q : σ → Prop} (hc : ¬ c) (hb : ok b Q) : ok (if c then a else b) Q := by rw [if_neg hc]; exact hb
theorem ok_jn {α σ : Type} {k : α → Option σ} {b : (α → Option σ) → Option σ} {Q : σ → Prop} (h : ok (b k) Q) : ok (jn k b) Q := h
theorem ok_eq {σ : Type} {r : Option σ} {y : σ} (h : ok r (fun x => x = y)) : r = some y := by
  obtain ⟨x, h1, rfl⟩ := h
  exact h1
theorem ok_of {σ : Type} {r : Option σ} {y : σ} (h : r = some y) : ok r (fun x => x = y) := ⟨y, h, rfl⟩
theorem ok_sqe {α σ : Type} {r : Option α} {k : α → Option σ} {y : α} {Q : σ → Prop} (h : r = some y) (hk : ok (k y) Q) : ok (sq r k) Q := by rw [h]; exact hk
theorem ok_bie {α β σ : Type} {r : Option (α × β)} {k : α → β → Option σ} {a : α} {b : β} {Q : σ → Prop} (h : r = some (a, b)) (hk : ok (k a b) Q) : ok (bi r k) Q := by rw [h]; exact hk
/-- a loop, by a measure -/
theorem ok_lp {α β : Type} {b : (α → Option β) → α → Option β} {Q : β → Prop} (I : α → Prop) (μ : α → Nat) (hs : ∀ (rec : α → Option β) (x : α), I x → (∀ x', I x' → μ x' < μ x → ok (rec x') Q) → ok (b rec x) Q) : ∀ (n : Nat) (x : α), I x → μ x < n → ok (zlp b n x) Q
  | 0, _, _, h => absurd h (Nat.not_lt_zero _)
  | n + 1, x, hx, h => hs (zlp b n) x hx (fun x' h1 h2 => ok_lp I μ hs n x' h1 (by omega))
/-- a loop that counts up to N -/
theorem ok_up {α β : Type} {b : (α → Option β) → α → Option β} {Q : β → Prop} (N : Nat) (I : Nat → α → Prop) (hs : ∀ (rec : α → Option β) (i : Nat) (x : α), i < N → I i x → (∀ x', I (i + 1) x' → ok (rec x') Q) → ok (b rec x) Q) (he : ∀ (rec : α → Option β) (x : α), I N x → ok (b rec x) Q) : ∀ (n i : Nat) (x : α), i ≤ N → N - i < n → I i x → ok (zlp b n x) Q
  | 0, _, _, _, h, _ => absurd h (Nat.not_lt_zero _)
  | n + 1, i, x, hi, h, hx => by
    by_cases e : i = N
    · subst e
      exact he (zlp b n) x hx
    · exact hs (zlp b n) i x (by omega) hx (fun x' h1 => ok_up N I hs he n (i + 1) x' (by omega) (by omega) h1)
theorem zn_nI {n : Nat} (h : n < 2 ^ 31) : zn (nI n) = n := nI_clamp h
theorem zix_nI {i n : Nat} (h : i < n) (hn : n < 2 ^ 31) : zix (nI i) n := by
  have := nI_toInt (n := i) (by omega)
  exact ⟨by omega, by omega⟩
theorem nI_lit (n : Nat) : Int32.ofNat n = nI n := rfl
/-- a row's cells up to i set, the rest as before -/
def zfl (f : Nat → Int32) (i : Nat) (v : Int32) : Nat → Int32 := fun j => if j < i then v else f j
theorem zwA_self (M : zM) (a : Nat) : zwA M a (M.1 a) = M := by
  unfold zwA
  refine Prod.ext ?_ rfl
  funext k
  by_cases h : k = a
  · subst h; exact zup_s _ _ _
  · exact zup_n _ _ h
theorem zwA_wI (M : zM) (a i : Nat) (f : Nat → Int32) (v : Int32) : zwI (zwA M a f) a i v = zwA M a (upd f i v) := by
  unfold zwI zwA
  refine Prod.ext ?_ rfl
  funext k
  by_cases h : k = a
  · subst h; simp [va_up]
  · simp [va_up, h]
theorem zwA_at (M : zM) (a : Nat) (f : Nat → Int32) : (zwA M a f).1 a = f := zup_s _ _ _
theorem zwA_ne (M : zM) {a b : Nat} (f : Nat → Int32) (h : b ≠ a) : (zwA M a f).1 b = M.1 b := zup_n _ _ h
theorem zfl_up (f : Nat → Int32) (i : Nat) (v : Int32) : upd (zfl f i v) i v = zfl f (i + 1) v := by
  funext j
  unfold upd zfl
  by_cases h : j = i
  · subst h; simp
  · rw [if_neg h]
    by_cases h2 : j < i
    · rw [if_pos h2, if_pos (by omega)]
    · rw [if_neg h2, if_neg (by omega)]
theorem pfill (a n : Nat) (v : Int32) (M : zM) (hn : n < 4000) : fJ7_fill_53178 a n v M = some (zwA M a (zfl (M.1 a) n v)) := by
  apply ok_eq
  unfold fJ7_fill_53178
  refine ok_lt (ok_up n (fun i x => x = (nI i, zwA M a (zfl (M.1 a) i v))) ?_ ?_ zFu 0 _ (Nat.zero_le _) (by unfold zFu; omega) ?_)
  · rintro rec i x hi rfl hr
    dsimp only
    refine ok_neg (nI_ge hi (by omega)) (ok_grd (zix_nI hi (by omega)) (ok_lt (hr _ ?_)))
    rw [zn_nI (by omega), zwA_wI, zfl_up, nI_succ]
  · rintro rec x rfl
    exact ok_pos (nI_le (Nat.le_refl _) (by omega)) (ok_some rfl)
  · have : zfl (M.1 a) 0 v = M.1 a := by funext j; simp [zfl]
    rw [this, zwA_self]
    rfl
/-- the road as at first -/
def paf (f : Nat → Int32) : Nat → Int32 := va_cpy zAF f 0 0 10
def pset (a : Nat) (M : zM) : zM := zwA (zwA M (a + 1) (paf (M.1 (a + 1)))) (a + 2) (zfl (M.1 (a + 2)) 64 (-4))
theorem psetAsAtFirst (a : Nat) (M : zM) : fX6_setAsAtFirst a M = some (pset a M) := by
  unfold fX6_setAsAtFirst grd
  rw [if_pos (by decide)]
  unfold lt
  dsimp only
  rw [pfill _ _ _ _ (by decide), zwA_ne _ _ (by omega)]
  rfl
