/-! ===== which cells a computation leaves as they were ===== -/
def zfr (S : List Nat) (M M' : zM) : Prop := ∀ c, c ∉ S → M'.1 c = M.1 c ∧ M'.2 c = M.2 c
theorem zfr_rf (S : List Nat) (M : zM) : zfr S M M := fun _ _ => ⟨rfl, rfl⟩
theorem zfr_I {S : List Nat} {M N : zM} (h : zfr S M N) {a i : Nat} {v : Int32} (ha : a ∈ S) : zfr S M (zwI N a i v) := fun c hc => by
  obtain ⟨h1, h2⟩ := h c hc
  refine ⟨?_, h2⟩
  rw [← h1]
  exact zup_n _ _ (fun e => hc (e ▸ ha))
theorem zfr_L {S : List Nat} {M N : zM} (h : zfr S M N) {a i : Nat} {v : Int64} (ha : a ∈ S) : zfr S M (zwL N a i v) := fun c hc => by
  obtain ⟨h1, h2⟩ := h c hc
  refine ⟨h1, ?_⟩
  rw [← h2]
  exact zup_n _ _ (fun e => hc (e ▸ ha))
theorem zfr_A {S : List Nat} {M N : zM} (h : zfr S M N) {a : Nat} {g : Nat → Int32} (ha : a ∈ S) : zfr S M (zwA N a g) := fun c hc => by
  obtain ⟨h1, h2⟩ := h c hc
  refine ⟨?_, h2⟩
  rw [← h1]
  exact zup_n _ _ (fun e => hc (e ▸ ha))
theorem zfr_tr {S T : List Nat} {M N K : zM} (h : zfr S M N) (h2 : zfr T N K) (hT : ∀ c ∈ T, c ∈ S) : zfr S M K := fun c hc => by
  obtain ⟨a1, a2⟩ := h c hc
  obtain ⟨b1, b2⟩ := h2 c (fun q => hc (hT c q))
  exact ⟨b1.trans a1, b2.trans a2⟩
theorem zfr_sub {S T : List Nat} {M N : zM} (h : zfr T M N) (hT : ∀ c ∈ T, c ∈ S) : zfr S M N := zfr_tr (zfr_rf S M) h hT
def zof {α : Type} (r : Option α) (π : α → zM) (S : List Nat) (M : zM) : Prop := ∀ x, r = some x → zfr S M (π x)
section ZOF
variable {α β γ : Type} {π : α → zM} {S : List Nat} {M : zM}
theorem f_grd {c : Prop} [Decidable c] {r : Option α} (h : zof r π S M) : zof (grd c r) π S M := fun x hx => by
  unfold grd at hx
  by_cases hc : c
  · rw [if_pos hc] at hx; exact h x hx
  · rw [if_neg hc] at hx; cases hx
theorem f_ite {c : Prop} [Decidable c] {a b : Option α} (ha : zof a π S M) (hb : zof b π S M) : zof (if c then a else b) π S M := fun x hx => by
  by_cases hc : c
  · rw [if_pos hc] at hx; exact ha x hx
  · rw [if_neg hc] at hx; exact hb x hx
theorem f_lt {v : β} {k : β → Option α} (h : ∀ y, zof (k y) π S M) : zof (lt v k) π S M := h v
theorem f_ltM {v : zM} {k : zM → Option α} (hv : zfr S M v) (h : ∀ N, zfr S M N → zof (k N) π S M) : zof (lt v k) π S M := h v hv
theorem f_sq {r : Option β} {k : β → Option α} (h : ∀ y, zof (k y) π S M) : zof (sq r k) π S M := fun x hx => by
  cases r with
  | none => cases hx
  | some y => exact h y x hx
theorem f_sqM {r : Option β} {k : β → Option α} {ρ : β → zM} (hr : zof r ρ S M) (h : ∀ y, zfr S M (ρ y) → zof (k y) π S M) : zof (sq r k) π S M := fun x hx => by
  cases r with
  | none => cases hx
  | some y => exact h y (hr y rfl) x hx
theorem f_bi {r : Option (β × zM)} {k : β → zM → Option α} (hr : zof r (fun y => y.2) S M) (h : ∀ y N, zfr S M N → zof (k y N) π S M) : zof (bi r k) π S M := fun x hx => by
  cases r with
  | none => cases hx
  | some y => exact h y.1 y.2 (hr y rfl) x hx
theorem f_jn {k : β → Option α} {b : (β → Option α) → Option α} {ρ : β → zM} (hk : ∀ y, zfr S M (ρ y) → zof (k y) π S M) (h : ∀ k', (∀ y, zfr S M (ρ y) → zof (k' y) π S M) → zof (b k') π S M) : zof (jn k b) π S M := h k hk
theorem f_jn0 {k : β → Option α} {b : (β → Option α) → Option α} (hk : ∀ y, zof (k y) π S M) (h : ∀ k', (∀ y, zof (k' y) π S M) → zof (b k') π S M) : zof (jn k b) π S M := h k hk
theorem f_some {x : α} (h : zfr S M (π x)) : zof (some x) π S M := fun y hy => by cases hy; exact h
theorem f_zlp {b : (β → Option α) → β → Option α} {ρ : β → zM} (h : ∀ rec : β → Option α, (∀ y, zfr S M (ρ y) → zof (rec y) π S M) → ∀ y, zfr S M (ρ y) → zof (b rec y) π S M) : ∀ (n : Nat) (y : β), zfr S M (ρ y) → zof (zlp b n y) π S M
  | 0, y, _ => fun x hx => by cases hx
  | n + 1, y, hy => h (zlp b n) (fun y' h' => f_zlp h n y' h') y hy
theorem f_zlp0 {b : (β → Option α) → β → Option α} (h : ∀ rec : β → Option α, (∀ y, zof (rec y) π S M) → ∀ y, zof (b rec y) π S M) : ∀ (n : Nat) (y : β), zof (zlp b n y) π S M
  | 0, y => fun x hx => by cases hx
  | n + 1, y => h (zlp b n) (fun y' => f_zlp0 h n y') y
theorem f_call {T : List Nat} {r : Option α} {N : zM} (hN : zfr S M N) (h : zof r π T N) (hT : ∀ c ∈ T, c ∈ S) : zof r π S M := fun x hx => zfr_tr hN (h x hx) hT
end ZOF
