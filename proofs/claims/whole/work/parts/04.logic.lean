/-! ===== a small logic over the machine: one memory, whole worlds, no frame rule ===== -/
/-- a method: name, code, its locals, type of its answer, frames and words of locals that its callees may take -/
abbrev zD : Type := MethodName × ByteArray × Nat × Option FieldType × Nat × Nat
/-- memory: ints by cell and place, longs by cell and place -/
abbrev zM : Type := (Nat → Nat → Int32) × (Nat → Nat → Int64)
/-- a cell's shape: an object (class; fields: none is an int, some a reference), or an array (type, length, references) -/
abbrev zC : Type := (Nat × List (Option (Option Nat))) ⊕ (Nat × Nat × List (Option Nat))
abbrev zY : Type := List zC
abbrev zS : Type := zY × zM
/-- launch, addresses, which cells may change, classes, array classes, the script, Strings' byte rows -/
abbrev zE : Type := Launch × (Nat → Nat) × (Nat → Prop) × va_G × (Nat → ClassId) × Nat × (Nat → Int32)
def zcv (E : zE) : Value → Value
  | .ref k => .ref (E.2.1 k)
  | v => v
def zTy : Nat → FieldType
  | 0 => .int
  | 1 => .long
  | 2 => .byte
  | 3 => .boolean
  | 4 => .object "HalfNumber$Scene"
  | _ => .object "HalfNumber$Sheet"
def zty (E : zE) : List (ClassId × FieldType) := [(E.2.2.2.2.1 0, .int), (E.2.2.2.2.1 1, .long), (E.2.2.2.2.1 2, .byte), (E.2.2.2.2.1 3, .boolean), (E.2.2.2.2.1 4, .object "HalfNumber$Scene"), (E.2.2.2.2.1 5, .object "HalfNumber$Sheet")]
def zfv (E : zE) (f : Nat → Int32) (j : Nat) : Option (Option Nat) → Value
  | none => .int (f j)
  | some none => .null
  | some (some r) => .ref (E.2.1 r)
def zfs (E : zE) (f : Nat → Int32) : Nat → List (Option (Option Nat)) → List Value
  | _, [] => []
  | j, o :: l => zfv E f j o :: zfs E f (j + 1) l
def zac (E : zE) (M : zM) (k t : Nat) (rs : List (Option Nat)) : (Nat → Int32) ⊕ (Nat → Int64) ⊕ (Nat → UInt32) ⊕ (Nat → UInt64) ⊕ (Nat → Option Nat) :=
  if t = 1 then .inr (.inl (M.2 k)) else if 4 ≤ t then .inr (.inr (.inr (.inr (fun j => (rs.getD j none).map E.2.1)))) else .inl (M.1 k)
def zel (E : zE) (M : zM) (k : Nat) : zC → va_E
  | .inl o => .inr (o.1, zfs E (M.1 k) 0 o.2)
  | .inr a => .inl (E.2.2.2.2.1 a.1, a.2.1, zac E M k a.1 a.2.2)
def zws (E : zE) (M : zM) : Nat → zY → va_W
  | _, [] => []
  | k, c :: l => (E.2.1 k, zel E M k c) :: zws E M (k + 1) l
def zW (E : zE) (st : zS) : va_W := zws E st.2 0 st.1
theorem zfs_get (E : zE) (f : Nat → Int32) : ∀ (l : List (Option (Option Nat))) (j i : Nat), (zfs E f j l)[i]? = (l[i]?).map (zfv E f (j + i))
  | [], j, i => by simp [zfs]
  | o :: l, j, 0 => by simp [zfs]
  | o :: l, j, i + 1 => by
    simp only [zfs, List.getElem?_cons_succ]
    rw [zfs_get E f l (j + 1) i, show j + 1 + i = j + (i + 1) by omega]
theorem zws_get (E : zE) (M : zM) : ∀ (Y : zY) (k i : Nat), (zws E M k Y)[i]? = (Y[i]?).map (fun c => (E.2.1 (k + i), zel E M (k + i) c))
  | [], k, i => by simp [zws]
  | o :: l, k, 0 => by simp [zws]
  | o :: l, k, i + 1 => by
    simp only [zws, List.getElem?_cons_succ]
    rw [zws_get E M l (k + 1) i, show k + 1 + i = k + (i + 1) by omega]
theorem zW_get {E : zE} {Y : zY} {M : zM} {k : Nat} {c : zC} (h : Y[k]? = some c) : (zW E (Y, M))[k]? = some (E.2.1 k, zel E M k c) := by
  rw [zW, zws_get, h]
  simp
theorem zW_set {E : zE} {Y : zY} {M M' : zM} {k : Nat} {c : zC} (h : Y[k]? = some c) (h1 : ∀ j, j ≠ k → M'.1 j = M.1 j) (h2 : ∀ j, j ≠ k → M'.2 j = M.2 j) : (zW E (Y, M)).set k (E.2.1 k, zel E M' k c) = zW E (Y, M') := by
  apply List.ext_getElem?
  intro i
  have hk : k < (zW E (Y, M)).length := (List.getElem?_eq_some_iff.mp (zW_get (E := E) (M := M) h)).1
  by_cases hi : k = i
  · subst hi
    rw [List.getElem?_set_self hk, zW_get h]
  · rw [List.getElem?_set_ne hi]
    simp only [zW, zws_get]
    cases hc : Y[i]? with
    | none => rfl
    | some c' =>
      have e1 := h1 i (fun q => hi q.symm)
      have e2 := h2 i (fun q => hi q.symm)
      cases c' with
      | inl o => simp [zel, e1]
      | inr a => simp [zel, zac, e1, e2]
/-- writes -/
def zwI (M : zM) (a i : Nat) (v : Int32) : zM := (va_up M.1 a (upd (M.1 a) i v), M.2)
def zwL (M : zM) (a i : Nat) (v : Int64) : zM := (M.1, va_up M.2 a (vp_updL (M.2 a) i v))
def zwA (M : zM) (a : Nat) (g : Nat → Int32) : zM := (va_up M.1 a g, M.2)
theorem zup_s {α : Type} (f : Nat → α) (k : Nat) (v : α) : va_up f k v k = v := by simp [va_up]
theorem zup_n {α : Type} (f : Nat → α) {k j : Nat} (v : α) (h : j ≠ k) : va_up f k v j = f j := by simp [va_up, h]
/-- the words that every method takes -/
def zT : List Cond := lw_tbl.filter goodWord
theorem zmem {w : Cond} (i : Nat) (h : lw_tbl[i]? = some w) (hg : goodWord w = true) : w ∈ zT := List.mem_filter.mpr ⟨List.mem_of_getElem? h, hg⟩
theorem zT_good : ∀ w ∈ zT, (w.onTables && w.keeps) = true ∨ ∃ ty, w = .arrayClass ty := fun _ h => good_of_word (List.mem_filter.mp h).2
def zwd (d : zD) : List Cond := Cond.code d.1 d.2.1 d.2.2.1 d.2.2.2.1 :: zT
def zrm (d : zD) : Room := { frames := d.2.2.2.2.1, cells := 0, slots := 0, locals := d.2.2.2.2.2 }
/-- Strings: constants' lengths and bytes, by their places -/
def zsl : List Nat := [7, 5, 5, 6, 6, 3, 6, 4, 5]
def zsb : List (List Int32) := [[109, 105, 110, 117, 116, 101, 115], [109, 105, 120, 101, 100], [100, 111, 117, 98, 116], [117, 110, 114, 101, 97, 100], [99, 111, 108, 111, 117, 114], [111, 102, 102], [106, 111, 105, 110, 101, 100], [108, 97, 116, 101], [101, 97, 114, 108, 121]]
def zst : List String := ["minutes", "mixed", "doubt", "unread", "colour", "off", "joined", "late", "early"]
/-- calls to a nest mate's private static -/
def zNs : List (String × Nat × MethodName) := [(RX9, 64, yX10_isLetter), (RX9, 60, yX10_within), (RX2, 25, yX10_within), (RX5, 66, yX10_within), (RX8, 32, yX10_within)]
/-- what stands outside: 1000 the script, 1001 the row AT_FIRST, 1010 + i Strings, 1030 + i their bytes -/
def zX (E : zE) (U : State) (H : Heap) : Prop :=
  (va_X (E.2.1 1000) E.2.2.2.2.2.1 E.2.2.2.2.2.2 U H ∧ E.2.1 1000 < H.size ∧ ¬ E.2.2.1 (E.2.1 1000)) ∧
  (va_Z "HalfNumber$Road" "AT_FIRST" "[I" (.ref (E.2.1 1001)) E.2.2.1 U H ∧ va_T .int (E.2.1 1001) 10 (fun j => .int (([10, 60, 30, 1, 4, 2, 5, 12, 12, 0] : List Int32).getD j 0)) E.2.2.1 U H) ∧
  (vk_S 9 zsl zsb (fun i => E.2.1 (1010 + i)) (fun i => E.2.1 (1030 + i)) E.2.2.1 U H ∧ va_Z "java/lang/String" "COMPACT_STRINGS" "Z" (.int 1) E.2.2.1 U H ∧ (va_Z "jdk/internal/util/Preconditions" "SIOOBE_FORMATTER" "Ljava/util/function/BiFunction;" .null E.2.2.1 U H ∨ va_Z "jdk/internal/util/Preconditions" "SIOOBE_FORMATTER" "Ljava/util/function/BiFunction;" (.ref (E.2.1 1002)) E.2.2.1 U H)) ∧
  (∀ i : Nat, i < 9 → vk_R "HalfNumber$Tape" (119 + 2 * i) (zst.getD i "") (E.2.1 (1010 + i)) U) ∧
  ∀ q ∈ zNs, va_Nw (.methodLinkNest q.1 q.2.1 q.2.2 "HalfNumber") U
theorem zX.to {E : zE} {s U : State} {H H1 : Heap} {locs : List Loc} (h : zX E s H) (hW : s.WarmedH U.vm) (hS : va_S E.2.2.1 H H1 locs) : zX E U H1 := by
  obtain ⟨⟨a1, a2, a3⟩, ⟨b1, b2⟩, ⟨c1, c2, c3⟩, d1, n1⟩ := h
  have hv := hW.alike
  exact ⟨⟨(a1.moved hv).kept (hS.2.1 _ a2 a3), Nat.lt_of_lt_of_le a2 hS.1, a3⟩, ⟨(b1.moved hv).kept hS.2.1, (b2.moved hv).kept hS.2.1⟩, ⟨(c1.moved hv).kept hS.2.1, (c2.moved hv).kept hS.2.1, c3.imp (fun c => (c.moved hv).kept hS.2.1) (fun c => (c.moved hv).kept hS.2.1)⟩, fun i hi => (d1 i hi).warm hW, fun q hq => (n1 q hq).warmM hW⟩
theorem zX.same {E : zE} {s U : State} {H : Heap} (h : zX E s H) (hv : U.vm = s.vm) : zX E U H := by
  obtain ⟨⟨a1, a2, a3⟩, ⟨b1, b2⟩, ⟨c1, c2, c3⟩, d1, n1⟩ := h
  have ha : s.vm.Alike U.vm := by rw [hv]; exact Vm.Alike.refl _
  exact ⟨⟨a1.moved ha, a2, a3⟩, ⟨b1.moved ha, b2.moved ha⟩, ⟨c1.moved ha, c2.moved ha, c3.imp (fun c => c.moved ha) (fun c => c.moved ha)⟩, fun i hi => (d1 i hi).same hv, fun q hq => (n1 q hq).same rfl hv.symm⟩
/-- the world: the heap holds the memory -/
def zP (E : zE) (st : zS) (H : Heap) : Prop := va_P E.2.2.2.1 vwCl (zW E st) H ∧ va_D E.2.2.1 (zW E st)
def zPre (E : zE) (st : zS) (U : State) : Prop := zP E st U.heap ∧ va_K E.2.2.2.1 vwCl (zty E) U ∧ zX E U U.heap
def zQc (E : zE) (post : Option Value → zS → Prop) : Array Value → State → Outcome → State → Prop := fun _ st o t => ∃ (v : Option Value) (st' : zS), o = .returned (v.map (zcv E)) ∧ post v st' ∧ zP E st' t.heap ∧ va_F E.2.2.1 st t
/-- a method's contract at a start and an end -/
def zMt (E : zE) (d : zD) (As : List Value) (st : zS) (post : Option Value → zS → Prop) : Prop :=
  Met E.1 d.1 (zwd d) (zrm d) (va_Pc (As.map (zcv E)) (zPre E st)) (zQc E post) 0 0 E.2.2.1
/-- what holds in a frame -/
def zCx (E : zE) (d : zD) (p : Program) (R : Room) (s : State) (m : MethodId) (args : Array Value) (meth : Method) (c : Code) : Prop :=
  p.tables.exec = Jvm.exec ∧ c.code = d.2.1 ∧ c.maxLocals = d.2.2.1 ∧ s.vm.findClass d.1.cls = some m.cls ∧ (∀ w ∈ zT, w.before args s = true) ∧ va_K E.2.2.2.1 vwCl (zty E) s ∧ zX E s s.heap ∧ d.2.2.2.2.1 ≤ R.frames ∧ d.2.2.2.2.2 ≤ R.locals
/-- locals: a list, a place each; none: not known -/
def zla (E : zE) : Nat → List (Option Value) → List (Nat × Value)
  | _, [] => []
  | i, none :: L => zla E (i + 1) L
  | i, some v :: L => (i, zcv E v) :: zla E (i + 1) L
/-- an instruction that returns v -/
def zRet (d : zD) (pc : Nat) : Option Value → Prop
  | some (.int x) => decode d.2.1 pc = .ok (.ireturn, 1) ∧ ∃ ty, d.2.2.2.1 = some ty ∧ narrow ty (.int x) = .int x
  | some (.long _) => decode d.2.1 pc = .ok (.lreturn, 1) ∧ d.2.2.2.1 = some .long
  | some (.ref _) => decode d.2.1 pc = .ok (.areturn, 1) ∧ ∃ n, d.2.2.2.1 = some (.object n)
  | none => decode d.2.1 pc = .ok (.return_, 1) ∧ d.2.2.2.1 = none
  | _ => False
/-- from this place on the method comes to an end with post -/
def zG (E : zE) (d : zD) (post : Option Value → zS → Prop) (pc : Nat) (L : List (Option Value)) (S : List Value) (st : zS) : Prop :=
  ∀ (p : Program) (e : Env) (R : Room) (s : State) (m : MethodId) (args : Array Value) (below : List Frame) (meth : Method) (c : Code) (H : Heap) (locs : List Loc) (cells slots : Nat) (Q : State → Prop) (ls : Array Slot),
    zCx E d p R s m args meth c → (cells ≤ R.cells ∧ slots ≤ R.slots) → zP E st H → va_S E.2.2.1 s.heap H locs → lv_has ls d.2.2.1 (zla E 0 L) →
    (∀ (v : Option Value) (st' : zS) (H' : Heap) (locs' : List Loc) (pc' : Nat) (ls' : Array Slot), post v st' → zP E st' H' → va_S E.2.2.1 s.heap H' locs' → zRet d pc' v → W p E.1 e R s m args below meth c H' locs' cells slots Q (F0 m pc' ls' ((v.map (zcv E)).toList))) →
    W p E.1 e R s m args below meth c H locs cells slots Q (F0 m pc ls (S.map (zcv E)))
/-- the same, if a computation comes to something of which κ holds -/
def zK (E : zE) (d : zD) (post : Option Value → zS → Prop) (pc : Nat) (L : List (Option Value)) (S : List Value) (st : zS) {σ : Type} (res : Option σ) (κ : σ → Prop) : Prop :=
  (∃ x, res = some x ∧ κ x) → zG E d post pc L S st
/-- a contract by a computation -/
def zF (E : zE) (d : zD) (As : List Value) (st : zS) {σ : Type} (res : Option σ) (enc : σ → Option Value × zS) : Prop :=
  ∀ post : Option Value → zS → Prop, (∃ x, res = some x ∧ post (enc x).1 (enc x).2) → zMt E d As st post
/-! words of text -/
/-- a guard -/
def grd {σ : Type} (c : Prop) [Decidable c] (r : Option σ) : Option σ := if c then r else none
/-- a name -/
def lt {α σ : Type} (v : α) (k : α → Option σ) : Option σ := k v
/-- one behind another -/
def sq {α σ : Type} (r : Option α) (k : α → Option σ) : Option σ := match r with
  | none => none
  | some a => k a
def bi {α β σ : Type} (r : Option (α × β)) (k : α → β → Option σ) : Option σ := match r with
  | none => none
  | some (a, b) => k a b
/-- a place where ways meet -/
def jn {α σ : Type} (k : α → Option σ) (b : (α → Option σ) → Option σ) : Option σ := b k
/-- a loop -/
def zlp {α β : Type} (b : (α → Option β) → α → Option β) : Nat → α → Option β
  | 0, _ => none
  | n + 1, x => b (zlp b n) x
/-- a truth as an int -/
def zb (b : Bool) : Int32 := if b then 1 else 0
def zmx (x y : Int32) : Int32 := if x < y then y else x
def zmn (x y : Int32) : Int32 := if y < x then y else x
def zab (x : Int32) : Int32 := if 0 ≤ x then x else 0 - x
def zmnl (x y : Int64) : Int64 := if y < x then y else x
def zrm_i (x y : Int32) : Int32 := x - x / y * y
def zrm_l (x y : Int64) : Int64 := x - x / y * y
def zush (x y : Int32) : Int32 := (x.toUInt32 >>> (y.toUInt32 &&& Int32.toUInt32 31)).toInt32
section ZG
variable {E : zE} {d : zD} {post : Option Value → zS → Prop} {pc : Nat} {L : List (Option Value)} {S : List Value} {st : zS} {σ : Type} {res : Option σ} {κ : σ → Prop}
theorem zk_grd {c : Prop} [Decidable c] (h : c → zK E d post pc L S st res κ) : zK E d post pc L S st (grd c res) κ := by
  rintro ⟨x, h1, h2⟩
  by_cases hc : c
  · exact h hc ⟨x, by rw [← h1]; simp [grd, hc], h2⟩
  · simp [grd, hc] at h1
theorem zk_ite {c : Prop} [Decidable c] {a b : Option σ} (h1 : zK E d post pc L S st a κ) (h2 : zK E d post pc L S st b κ) : zK E d post pc L S st (if c then a else b) κ := by
  by_cases hc : c
  · rw [if_pos hc]; exact h1
  · rw [if_neg hc]; exact h2
theorem zk_sq {α : Type} {r : Option α} {k : α → Option σ} (h : zK E d post pc L S st r (fun a => ∃ x, k a = some x ∧ κ x)) : zK E d post pc L S st (sq r k) κ := by
  rintro ⟨x, h1, h2⟩
  cases r with
  | none => cases h1
  | some a => exact h ⟨a, rfl, x, h1, h2⟩
theorem zk_none : zK E d post pc L S st (none : Option σ) κ := by
  rintro ⟨x, h1, -⟩
  cases h1
/-- an end of a piece: the machine stands where the rest goes on -/
theorem zk_exit {x : σ} (h : κ x → zG E d post pc L S st) : zK E d post pc L S st (some x) κ := by
  rintro ⟨y, h1, h2⟩
  cases h1
  exact h h2
/-- a piece, and the rest behind it -/
theorem zk_sqj {α : Type} {r : Option α} {k : α → Option σ} (pcj : Nat) (Lj : α → List (Option Value)) (Sj : α → List Value) (stj : α → zS) (hj : ∀ a, zK E d post pcj (Lj a) (Sj a) (stj a) (k a) κ)
    (h : zK E d post pc L S st r (fun a => zG E d post pcj (Lj a) (Sj a) (stj a))) : zK E d post pc L S st (sq r k) κ := by
  rintro ⟨x, h1, h2⟩
  cases r with
  | none => cases h1
  | some a => exact h ⟨a, rfl, hj a ⟨x, h1, h2⟩⟩
/-- ways that meet -/
theorem zk_jn {α : Type} {k : α → Option σ} {b : (α → Option σ) → Option σ} (pcj : Nat) (Lj : α → List (Option Value)) (Sj : α → List Value) (stj : α → zS) (hj : ∀ a, zK E d post pcj (Lj a) (Sj a) (stj a) (k a) κ)
    (h : ∀ k' : α → Option σ, (∀ a, zK E d post pcj (Lj a) (Sj a) (stj a) (k' a) κ) → zK E d post pc L S st (b k') κ) : zK E d post pc L S st (jn k b) κ := h k hj
theorem zk_lt {α : Type} {v : α} {k : α → Option σ} (h : zK E d post pc L S st (k v) κ) : zK E d post pc L S st (lt v k) κ := h
/-- a loop, by what holds at its head -/
theorem zk_lp {α β : Type} {b : (α → Option β) → α → Option β} {κ : β → Prop} (pch : Nat) (Lh : α → List (Option Value)) (sth : α → zS)
    (h : ∀ rec : α → Option β, (∀ a, zK E d post pch (Lh a) [] (sth a) (rec a) κ) → ∀ a, zK E d post pch (Lh a) [] (sth a) (b rec a) κ) : ∀ (n : Nat) (a : α), zK E d post pch (Lh a) [] (sth a) (zlp b n a) κ
  | 0, a => zk_none
  | n + 1, a => h (zlp b n) (fun x => zk_lp pch Lh sth h n x) a
/-- fewer known locals -/
def zLe (A B : List (Option Value)) : Prop := ∀ (i : Nat) (v : Value), A[i]? = some (some v) → B[i]? = some (some v)
theorem zLe_nl {B : List (Option Value)} : zLe [] B := fun i v h => by simp at h
theorem zLe_n {A B : List (Option Value)} {o : Option Value} (h : zLe A B) : zLe (none :: A) (o :: B) := by
  intro i v hi
  cases i with
  | zero => simp at hi
  | succ i => exact h i v hi
theorem zLe_s {A B : List (Option Value)} {o : Option Value} (h : zLe A B) : zLe (o :: A) (o :: B) := by
  intro i v hi
  cases i with
  | zero => exact hi
  | succ i => exact h i v hi
theorem zla_mem : ∀ (L : List (Option Value)) (j : Nat) (q : Nat × Value), q ∈ zla E j L ↔ ∃ (i : Nat) (v : Value), L[i]? = some (some v) ∧ q = (j + i, zcv E v)
  | [], j, q => by simp [zla]
  | none :: L, j, q => by
    rw [zla, zla_mem L (j + 1) q]
    constructor
    · rintro ⟨i, v, h1, rfl⟩
      exact ⟨i + 1, v, by simpa using h1, by rw [show j + 1 + i = j + (i + 1) by omega]⟩
    · rintro ⟨i, v, h1, rfl⟩
      cases i with
      | zero => simp at h1
      | succ i => exact ⟨i, v, by simpa using h1, by rw [show j + 1 + i = j + (i + 1) by omega]⟩
  | some w :: L, j, q => by
    rw [zla, List.mem_cons, zla_mem L (j + 1) q]
    constructor
    · rintro (rfl | ⟨i, v, h1, rfl⟩)
      · exact ⟨0, w, rfl, rfl⟩
      · exact ⟨i + 1, v, by simpa using h1, by rw [show j + 1 + i = j + (i + 1) by omega]⟩
    · rintro ⟨i, v, h1, rfl⟩
      cases i with
      | zero =>
        simp at h1
        subst h1
        exact Or.inl rfl
      | succ i => exact Or.inr ⟨i, v, by simpa using h1, by rw [show j + 1 + i = j + (i + 1) by omega]⟩
theorem zlv_mono {ls : Array Slot} {n : Nat} {l l' : List (Nat × Value)} (h : lv_has ls n l) (hm : ∀ q ∈ l', q ∈ l) : lv_has ls n l' := ⟨h.1, h.2.1, fun q hq => h.2.2 q (hm q hq)⟩
theorem zG_weak {L' : List (Option Value)} (hL : zLe L' L) (h : zG E d post pc L' S st) : zG E d post pc L S st := by
  intro p e R s m args below meth c H locs cells slots Q ls C hc hP hS hl hQ
  refine h p e R s m args below meth c H locs cells slots Q ls C hc hP hS (zlv_mono hl ?_) hQ
  intro q hq
  obtain ⟨i, v, h1, rfl⟩ := (zla_mem L' 0 q).mp hq
  exact (zla_mem L 0 _).mpr ⟨i, v, hL i v h1, rfl⟩
theorem zk_exitw {x : σ} {L' : List (Option Value)} (hL : zLe L' L) (h : κ x → zG E d post pc L' S st) : zK E d post pc L S st (some x) κ := zk_exit (fun q => zG_weak hL (h q))
theorem zk_weak {L' : List (Option Value)} (hL : zLe L' L) (h : zK E d post pc L' S st res κ) : zK E d post pc L S st res κ := fun q => zG_weak hL (h q)
theorem zla_at {ls : Array Slot} {n i : Nat} {v : Value} (h : lv_has ls n (zla E 0 L)) (hi : L[i]? = some (some v)) : ls[i]? = some (.val (zcv E v)) := by
  have := h.2.2 (0 + i, zcv E v) ((zla_mem L 0 _).mpr ⟨i, v, hi, rfl⟩)
  simpa using this
theorem zcv_cat (v : Value) : (zcv E v).category = v.category := by cases v <;> rfl
theorem zcv_sum (l : List Value) : ((l.map (zcv E)).map fun v => v.category).sum = (l.map fun v => v.category).sum := by
  induction l with
  | nil => rfl
  | cons a l ih =>
    simp only [List.map_cons, List.sum_cons, zcv_cat]
    omega
end ZG
/-- stores -/
def zk1 : Option Value → Option Value
  | some (.long _) => none
  | some (.double _) => none
  | o => o
def zs1 : List (Option Value) → Nat → Value → List (Option Value)
  | [], _, _ => []
  | _ :: L, 0, v => some v :: L
  | o :: L, 1, v => zk1 o :: zs1 L 0 v
  | o :: L, n + 2, v => o :: zs1 L (n + 1) v
def zs2 : List (Option Value) → Nat → Value → List (Option Value)
  | [], _, _ => []
  | [_], 0, _ => [none]
  | _ :: _ :: L, 0, v => some v :: none :: L
  | o :: L, 1, v => zk1 o :: zs2 L 0 v
  | o :: L, n + 2, v => o :: zs2 L (n + 1) v
theorem zk1_some {o : Option Value} {w : Value} (h : zk1 o = some w) : o = some w ∧ ¬ w.category = 2 := by
  cases o with
  | none => simp [zk1] at h
  | some x => cases x <;> simp [zk1] at h <;> subst h <;> simp [Value.category]
theorem zs1_get : ∀ (L : List (Option Value)) (i : Nat) (v : Value) (k : Nat) (w : Value), (zs1 L i v)[k]? = some (some w) → (k = i ∧ w = v) ∨ (k ≠ i ∧ L[k]? = some (some w) ∧ ¬ (k + 1 = i ∧ w.category = 2))
  | [], i, v, k, w, h => by simp [zs1] at h
  | o :: L, 0, v, 0, w, h => by simp [zs1] at h; exact Or.inl ⟨rfl, h.symm⟩
  | o :: L, 0, v, k + 1, w, h => by simp [zs1] at h; exact Or.inr ⟨by omega, by simpa using h, by omega⟩
  | o :: L, 1, v, 0, w, h => by
    simp [zs1] at h
    obtain ⟨h1, h2⟩ := zk1_some h
    exact Or.inr ⟨by omega, by simp [h1], fun q => h2 q.2⟩
  | o :: L, 1, v, k + 1, w, h => by
    simp [zs1] at h
    rcases zs1_get L 0 v k w h with ⟨h1, h2⟩ | ⟨h1, h2, h3⟩
    · exact Or.inl ⟨by omega, h2⟩
    · exact Or.inr ⟨by omega, by simpa using h2, fun q => h3 ⟨by omega, q.2⟩⟩
  | o :: L, n + 2, v, 0, w, h => by simp [zs1] at h; exact Or.inr ⟨by omega, by simp [h], fun q => by omega⟩
  | o :: L, n + 2, v, k + 1, w, h => by
    simp [zs1] at h
    rcases zs1_get L (n + 1) v k w h with ⟨h1, h2⟩ | ⟨h1, h2, h3⟩
    · exact Or.inl ⟨by omega, h2⟩
    · exact Or.inr ⟨by omega, by simpa using h2, fun q => h3 ⟨by omega, q.2⟩⟩
theorem zs2_get : ∀ (L : List (Option Value)) (i : Nat) (v : Value) (k : Nat) (w : Value), (zs2 L i v)[k]? = some (some w) → (k = i ∧ w = v) ∨ (k ≠ i ∧ k ≠ i + 1 ∧ L[k]? = some (some w) ∧ ¬ (k + 1 = i ∧ w.category = 2))
  | [], i, v, k, w, h => by simp [zs2] at h
  | [o], 0, v, k, w, h => by
    cases k with
    | zero => simp [zs2] at h
    | succ k => simp [zs2] at h
  | o :: o2 :: L, 0, v, 0, w, h => by simp [zs2] at h; exact Or.inl ⟨rfl, h.symm⟩
  | o :: o2 :: L, 0, v, 1, w, h => by simp [zs2] at h
  | o :: o2 :: L, 0, v, k + 2, w, h => by simp [zs2] at h; exact Or.inr ⟨by omega, by omega, by simpa using h, by omega⟩
  | o :: L, 1, v, 0, w, h => by
    simp [zs2] at h
    obtain ⟨h1, h2⟩ := zk1_some h
    exact Or.inr ⟨by omega, by omega, by simp [h1], fun q => h2 q.2⟩
  | o :: L, 1, v, k + 1, w, h => by
    simp [zs2] at h
    rcases zs2_get L 0 v k w h with ⟨h1, h2⟩ | ⟨h1, h0, h2, h3⟩
    · exact Or.inl ⟨by omega, h2⟩
    · exact Or.inr ⟨by omega, by omega, by simpa using h2, fun q => h3 ⟨by omega, q.2⟩⟩
  | o :: L, n + 2, v, 0, w, h => by simp [zs2] at h; exact Or.inr ⟨by omega, by omega, by simp [h], fun q => by omega⟩
  | o :: L, n + 2, v, k + 1, w, h => by
    simp [zs2] at h
    rcases zs2_get L (n + 1) v k w h with ⟨h1, h2⟩ | ⟨h1, h0, h2, h3⟩
    · exact Or.inl ⟨by omega, h2⟩
    · exact Or.inr ⟨by omega, by omega, by simpa using h2, fun q => h3 ⟨by omega, q.2⟩⟩
theorem zs1_has {E : zE} {L L' : List (Option Value)} {i n : Nat} {v : Value} {ls : Array Slot} (h : lv_has ls n ((i, zcv E v) :: (zla E 0 L).filter (fun q => !(q.1 == i) && !(q.1 + 1 == i && q.2.category == 2)))) (e : zs1 L i v = L') : lv_has ls n (zla E 0 L') := by
  refine zlv_mono h fun q hq => ?_
  obtain ⟨k, w, h1, rfl⟩ := (zla_mem L' 0 q).mp hq
  rw [← e] at h1
  rcases zs1_get L i v k w h1 with ⟨rfl, rfl⟩ | ⟨a1, a2, a3⟩
  · simp
  · refine List.mem_cons_of_mem _ (List.mem_filter.mpr ⟨(zla_mem L 0 _).mpr ⟨k, w, a2, rfl⟩, ?_⟩)
    simp only [Nat.zero_add, zcv_cat, Bool.and_eq_true, Bool.not_eq_true', beq_eq_false_iff_ne, ne_eq, Bool.and_eq_false_iff]
    refine ⟨a1, ?_⟩
    by_cases hz : k + 1 = i
    · exact Or.inr (fun q => a3 ⟨hz, q⟩)
    · exact Or.inl hz
theorem zs2_has {E : zE} {L L' : List (Option Value)} {i n : Nat} {v : Value} {ls : Array Slot} (h : lv_has ls n ((i, zcv E v) :: (zla E 0 L).filter (fun q => !(q.1 == i) && (!(q.1 == i + 1) && !(q.1 + 1 == i && q.2.category == 2))))) (e : zs2 L i v = L') : lv_has ls n (zla E 0 L') := by
  refine zlv_mono h fun q hq => ?_
  obtain ⟨k, w, h1, rfl⟩ := (zla_mem L' 0 q).mp hq
  rw [← e] at h1
  rcases zs2_get L i v k w h1 with ⟨rfl, rfl⟩ | ⟨a1, a0, a2, a3⟩
  · simp
  · refine List.mem_cons_of_mem _ (List.mem_filter.mpr ⟨(zla_mem L 0 _).mpr ⟨k, w, a2, rfl⟩, ?_⟩)
    simp only [Nat.zero_add, zcv_cat, Bool.and_eq_true, Bool.not_eq_true', beq_eq_false_iff_ne, ne_eq, Bool.and_eq_false_iff]
    refine ⟨a1, a0, ?_⟩
    by_cases hz : k + 1 = i
    · exact Or.inr (fun q => a3 ⟨hz, q⟩)
    · exact Or.inl hz
