/-! ===== rules: names, meetings, rows of objects, texts ===== -/
/-- a name inside a value -/
def ltn {α β : Type} (v : α) (k : α → β) : β := k v
/-- how far a loop may go -/
def zFu : Nat := 4096
section ZO
variable {E : zE} {d : zD} {post : Option Value → zS → Prop} {L : List (Option Value)} {S : List Value} {Y : zY} {M : zM} {σ : Type} {res : Option σ} {κ : σ → Prop} {d' : zD} {pc : Nat}
theorem zk_nmI {v : Int32} {st : zS} {k : Int32 → Option σ} (h : ∀ x, zK E d post pc L (.int x :: S) st (k x) κ) : zK E d post pc L (.int v :: S) st (lt v k) κ := h v
theorem zk_nmL {v : Int64} {st : zS} {k : Int64 → Option σ} (h : ∀ x, zK E d post pc L (.long x :: S) st (k x) κ) : zK E d post pc L (.long v :: S) st (lt v k) κ := h v
theorem zk_nmM {k : zM → Option σ} (h : ∀ M', zK E d post pc L S (Y, M') (k M') κ) : zK E d post pc L S (Y, M) (lt M k) κ := h M
/-- the value below the top -/
theorem zk_nmI2 {v : Int32} {w : Value} {st : zS} {k : Int32 → Option σ} (h : ∀ x, zK E d post pc L (w :: .int x :: S) st (k x) κ) : zK E d post pc L (w :: .int v :: S) st (lt v k) κ := h v
theorem zk_nvI {β : Type} {v : Int32} {st : zS} {k : Int32 → β} {g : β → Option σ} (h : ∀ x, zK E d post pc L (.int x :: S) st (lt (k x) g) κ) : zK E d post pc L (.int v :: S) st (lt (ltn v k) g) κ := h v
theorem zk_nvL {β : Type} {v : Int64} {st : zS} {k : Int64 → β} {g : β → Option σ} (h : ∀ x, zK E d post pc L (.long x :: S) st (lt (k x) g) κ) : zK E d post pc L (.long v :: S) st (lt (ltn v k) g) κ := h v
theorem zk_ltj {α : Type} {v : α} {k : α → Option σ} {st : zS} (pcj : Nat) (Lj : α → List (Option Value)) (Sj : α → List Value) (stj : α → zS) (hj : ∀ a, zK E d post pcj (Lj a) (Sj a) (stj a) (k a) κ)
    (h : ∀ k' : α → Option σ, (∀ a, zK E d post pcj (Lj a) (Sj a) (stj a) (k' a) κ) → zK E d post pc L S st (lt v k') κ) : zK E d post pc L S st (lt v k) κ := h k hj
theorem z_aaloadP (pc : Nat) {a n t : Nat} {C : String} {i : Int32} {rs : List (Option Nat)} {r : Nat → Nat} {P : Nat → Prop} {k : Nat → Option σ} (hd : decode d.2.1 pc = .ok (.aaload, 1)) (ht : 4 ≤ t) (htt : (zty E)[t]? = some (E.2.2.2.2.1 t, .object C)) (hY : Y[a]? = some (.inr (t, n, rs))) (hr : ∀ j, j < n → rs.getD j none = some (r j)) (hP : ∀ j, j < n → P (r j))
    (h : ∀ s, P s → zK E d post (pc + 1) L (.ref s :: S) (Y, M) (k s) κ) : zK E d post pc L (.int i :: .ref a :: S) (Y, M) (grd (zix i n) (lt (r (zn i)) k)) κ := by
  intro hq
  have hi : zix i n := by
    by_cases hi : zix i n
    · exact hi
    · obtain ⟨x, h1, -⟩ := hq
      simp [grd, hi] at h1
  have hlt : zn i < n := Nat.not_le.mp fun q => (zix_in hi) (Or.inr q)
  exact z_aaload pc hd ht htt hY hr (h (r (zn i)) (hP _ hlt)) hq
theorem z_ctaP {S0 As : List Value} {v : Nat} {P : Nat → Prop} {k : Nat → Option σ} (ha : zAt E d pc S0 L S (Y, M) d' As) (hM : zFa E d' As Y M (some v)) (hP : P v) (hk : ∀ s, P s → zK E d post (pc + 3) L (.ref s :: S) (Y, M) (k s) κ) : zK E d post pc L S0 (Y, M) (lt v k) κ := z_cta ha hM (hk v hP)
/-! values without a name -/
theorem z_cti0 {S0 As : List Value} {v : Int32} (ha : zAt E d pc S0 L S (Y, M) d' As) (hM : zFi E d' As Y M (some v)) (hk : zK E d post (pc + 3) L (.int v :: S) (Y, M) res κ) : zK E d post pc L S0 (Y, M) res κ :=
  fun hq => ha post (fun w st' => w = some (.int v) ∧ st' = (Y, M)) (hM _ ⟨v, rfl, rfl, rfl⟩) (by rintro w st' ⟨rfl, rfl⟩; exact hk hq)
theorem z_ctb0 {S0 As : List Value} {v : Bool} (ha : zAt E d pc S0 L S (Y, M) d' As) (hM : zFb E d' As Y M (some v)) (hk : zK E d post (pc + 3) L (.int (zb v) :: S) (Y, M) res κ) : zK E d post pc L S0 (Y, M) res κ :=
  fun hq => ha post (fun w st' => w = some (.int (zb v)) ∧ st' = (Y, M)) (hM _ ⟨v, rfl, rfl, rfl⟩) (by rintro w st' ⟨rfl, rfl⟩; exact hk hq)
theorem z_ctj0 {S0 As : List Value} {v : Int64} (ha : zAt E d pc S0 L S (Y, M) d' As) (hM : zFj E d' As Y M (some v)) (hk : zK E d post (pc + 3) L (.long v :: S) (Y, M) res κ) : zK E d post pc L S0 (Y, M) res κ :=
  fun hq => ha post (fun w st' => w = some (.long v) ∧ st' = (Y, M)) (hM _ ⟨v, rfl, rfl, rfl⟩) (by rintro w st' ⟨rfl, rfl⟩; exact hk hq)
/-! the script -/
theorem z_sld (pc : Nat) {i : Int32} (hd : decode d.2.1 pc = .ok (.iaload, 1)) (h : zK E d post (pc + 1) L (.int (E.2.2.2.2.2.2 (zn i)) :: S) (Y, M) res κ) : zK E d post pc L (.int i :: .ref 1000 :: S) (Y, M) (grd (zix i E.2.2.2.2.2.1) res) κ :=
  zk_grd fun hi => zk_row (fun C _ _ hS _ k => va_sld C.1 C.2.1 C.2.2.2.2.2.2.1.1.1 C.2.2.2.2.2.2.1.1.2.1 C.2.2.2.2.2.2.1.1.2.2 hS (zix_in hi) hd k) h
theorem z_slen (pc : Nat) (hd : decode d.2.1 pc = .ok (.arraylength, 1)) (h : zK E d post (pc + 1) L (.int (Int32.ofNat E.2.2.2.2.2.1) :: S) (Y, M) res κ) : zK E d post pc L (.ref 1000 :: S) (Y, M) res κ :=
  zk_row (fun C _ _ hS _ k => va_slen C.1 C.2.1 C.2.2.2.2.2.2.1.1.1 C.2.2.2.2.2.2.1.1.2.1 C.2.2.2.2.2.2.1.1.2.2 hS hd k) h
/-! Strings -/
theorem z_ldcS (pc : Nat) {i idx : Nat} (hi : i < 9) (hx : idx = 119 + 2 * i) (hown : d.1.cls = "HalfNumber$Tape") (hd : decode d.2.1 pc = .ok (.ldc idx, 2)) (h : zK E d post (pc + 2) L (.ref (1010 + i) :: S) (Y, M) res κ) : zK E d post pc L S (Y, M) res κ := by
  subst hx
  refine zk_row (fun C _ _ _ _ k => ?_) h
  have h1 := C.2.2.2.2.2.2.1.2.2.2.1 i hi
  have h2 := C.2.2.2.1
  rw [hown] at h2
  exact va_ldcS C.1 C.2.1 h2 h1 hd k
/-- a String's byte row, its kind -/
theorem z_sval (pc : Nat) {i idx : Nat} (hi : i < 9) (hl : Cond.fieldLink d.1.cls idx "java/lang/String" "value" "[B" ∈ zT) (hd : decode d.2.1 pc = .ok (.getfield idx, 3)) (h : zK E d post (pc + 3) L (.ref (1030 + i) :: S) (Y, M) res κ) : zK E d post pc L (.ref (1010 + i) :: S) (Y, M) res κ :=
  zk_row (fun C _ _ hS _ k => vk_getf C.1 C.2.1 (C.2.2.2.2.2.2.1.2.2.1.1.1 i hi).2.2.1 hS C.2.2.2.1 (C.2.2.2.2.1 _ hl) (fun _ h => h) hd k) h
theorem z_scod (pc : Nat) {i idx : Nat} (hi : i < 9) (hl : Cond.fieldLink d.1.cls idx "java/lang/String" "coder" "B" ∈ zT) (hd : decode d.2.1 pc = .ok (.getfield idx, 3)) (h : zK E d post (pc + 3) L (.int 0 :: S) (Y, M) res κ) : zK E d post pc L (.ref (1010 + i) :: S) (Y, M) res κ :=
  zk_row (fun C _ _ hS _ k => vk_getf C.1 C.2.1 (C.2.2.2.2.2.2.1.2.2.1.1.1 i hi).2.1 hS C.2.2.2.1 (C.2.2.2.2.1 _ hl) (fun _ h => h) hd k) h
theorem z_scom (pc : Nat) {idx : Nat} (hl : Cond.fieldLink d.1.cls idx "java/lang/String" "COMPACT_STRINGS" "Z" ∈ zT) (hd : decode d.2.1 pc = .ok (.getstatic idx, 3)) (h : zK E d post (pc + 3) L (.int 1 :: S) (Y, M) res κ) : zK E d post pc L S (Y, M) res κ :=
  zk_row (fun C _ _ hS _ k => va_gets C.1 C.2.1 C.2.2.2.2.2.2.1.2.2.1.2.1 hS C.2.2.2.1 (C.2.2.2.2.1 _ hl) (fun _ h => h) hd k) h
/-- the road's first rules -/
theorem z_gaf (pc : Nat) {idx : Nat} (hl : Cond.fieldLink d.1.cls idx "HalfNumber$Road" "AT_FIRST" "[I" ∈ zT) (hd : decode d.2.1 pc = .ok (.getstatic idx, 3)) (h : zK E d post (pc + 3) L (.ref 1001 :: S) (Y, M) res κ) : zK E d post pc L S (Y, M) res κ :=
  zk_row (fun C _ _ hS _ k => va_gets C.1 C.2.1 C.2.2.2.2.2.2.1.2.1.1 hS C.2.2.2.1 (C.2.2.2.2.1 _ hl) (fun _ h => h) hd k) h
/-! what a text answers -/
def zstr (a : Nat) : Prop := 1010 ≤ a ∧ a < 1019
def zsln (a : Nat) : Nat := zsl.getD (a - 1010) 0
def zslen (a : Nat) : Int32 := Int32.ofNat (zsln a)
def zsch (a k : Nat) : Int32 := (zsb.getD (a - 1010) []).getD k 0
def zAF (j : Nat) : Int32 := ([10, 60, 30, 1, 4, 2, 5, 12, 12, 0] : List Int32).getD j 0
end ZO
