/-! ===== making cells: the addresses grow, the layout grows ===== -/
def zEa (E : zE) (ad : Nat → Nat) : zE := (E.1, ad, E.2.2)
/-- calls to nest mates' private constructors -/
def zNi : List (String × Nat × MethodName) := [(RX7, 11, yX2_init), (RX10, 22, yX8_init), (RX10, 29, yX9_init), (RX10, 43, yX5_init), (RX4, 11, yX3_init), (RX10, 59, yX0_init), (RX10, 66, yX1_init)]
def zXn (U : State) : Prop := (va_AO "HalfNumber$Scene" U ∧ va_AO "HalfNumber$Sheet" U) ∧ ∀ q ∈ zNi, va_Nw (.methodLinkNest q.1 q.2.1 q.2.2 "HalfNumber") U
theorem zXn.to {s U : State} (h : zXn s) (hW : s.WarmedH U.vm) : zXn U := ⟨⟨h.1.1.moved hW.alike, h.1.2.moved hW.alike⟩, fun q hq => (h.2 q hq).warmM hW⟩
theorem zXn.same {s U : State} (h : zXn s) (hv : U.vm = s.vm) : zXn U := by
  have ha : s.vm.Alike U.vm := by rw [hv]; exact Vm.Alike.refl _
  exact ⟨⟨h.1.1.moved ha, h.1.2.moved ha⟩, fun q hq => (h.2 q hq).same rfl hv.symm⟩
def zPn (E : zE) (st : zS) (U : State) : Prop := zPre E st U ∧ zXn U ∧ ∀ q, U.heap.size ≤ q → E.2.2.1 q
def zCn (E : zE) (d : zD) (p : Program) (R : Room) (s : State) (m : MethodId) (args : Array Value) (meth : Method) (c : Code) : Prop :=
  zCx E d p R s m args meth c ∧ zXn s ∧ (∀ q, s.heap.size ≤ q → E.2.2.1 q) ∧ (d.1.name = "<init>" → meth.name = "<init>")
def zN (E : zE) (d : zD) (fin : Nat → List (Option Value) → zS → Prop) (pc : Nat) (L : List (Option Value)) (S : List Value) (st : zS) (k n : Nat) : Prop :=
  ∀ (ad : Nat → Nat), (∀ j, 1000 ≤ j → ad j = E.2.1 j) → ∀ (p : Program) (e : Env) (R : Room) (s : State) (m : MethodId) (args : Array Value) (below : List Frame) (meth : Method) (c : Code) (H : Heap) (locs : List Loc) (cells slots : Nat) (Q : State → Prop) (ls : Array Slot),
    zCn (zEa E ad) d p R s m args meth c → (cells + k ≤ R.cells ∧ slots + n ≤ R.slots) → zP (zEa E ad) st H → va_S E.2.2.1 s.heap H locs → lv_has ls d.2.2.1 (zla (zEa E ad) 0 L) →
    (∀ (ad' : Nat → Nat) (pc' : Nat) (L' : List (Option Value)) (st' : zS) (H' : Heap) (locs' : List Loc) (ls' : Array Slot), (∀ j, 1000 ≤ j → ad' j = E.2.1 j) → (∀ j, j < st.1.length → ad' j = ad j) → fin pc' L' st' → zP (zEa E ad') st' H' → va_S E.2.2.1 s.heap H' locs' → lv_has ls' d.2.2.1 (zla (zEa E ad') 0 L') → W p E.1 e R s m args below meth c H' locs' (cells + k) (slots + n) Q (F0 m pc' ls' [])) →
    W p E.1 e R s m args below meth c H locs cells slots Q (F0 m pc ls (S.map (zcv (zEa E ad))))
def zrn (d : zD) (k n : Nat) : Room := { frames := d.2.2.2.2.1, cells := k, slots := n, locals := d.2.2.2.2.2 }
/-- a constructor's contract -/
def zMn (E : zE) (d : zD) (As : List Value) (st st' : zS) (k n : Nat) : Prop :=
  ∀ (ad : Nat → Nat), (∀ j, 1000 ≤ j → ad j = E.2.1 j) → Met E.1 d.1 (zwd d) (zrn d k n) (va_Pc (As.map (zcv (zEa E ad))) (zPn (zEa E ad) st))
    (fun _ s0 o t => o = .returned none ∧ (∃ ad' : Nat → Nat, (∀ j, 1000 ≤ j → ad' j = E.2.1 j) ∧ (∀ j, j < st.1.length → ad' j = ad j) ∧ zP (zEa E ad') st' t.heap) ∧ va_F E.2.2.1 s0 t) k n E.2.2.1
/-- references below a bound (or outside) -/
def zlo (n r : Nat) : Bool := decide (r < n) || decide (1000 ≤ r)
def zvo (n : Nat) : Value → Bool
  | .ref r => zlo n r
  | _ => true
def zLo (n : Nat) (L : List (Option Value)) : Bool := L.all (fun o => match o with | some v => zvo n v | none => true)
def zSo (n : Nat) (S : List Value) : Bool := S.all (zvo n)
def zco (n : Nat) : zC → Bool
  | .inl o => o.2.all (fun f => match f with | some (some r) => zlo n r | _ => true)
  | .inr a => a.2.2.all (fun f => match f with | some r => zlo n r | none => true)
def zYo (n : Nat) (Y : zY) : Bool := Y.all (zco n)
theorem zlo_ag {n r : Nat} {E : zE} {ad ad' : Nat → Nat} (h : zlo n r = true) (h1 : ∀ j, 1000 ≤ j → ad j = E.2.1 j) (h2 : ∀ j, 1000 ≤ j → ad' j = E.2.1 j) (h3 : ∀ j, j < n → ad' j = ad j) : ad' r = ad r := by
  simp only [zlo, Bool.or_eq_true, decide_eq_true_eq] at h
  rcases h with h | h
  · exact h3 r h
  · rw [h1 r h, h2 r h]
section ZA
variable {E : zE} {n : Nat} {ad ad' : Nat → Nat} (h1 : ∀ j, 1000 ≤ j → ad j = E.2.1 j) (h2 : ∀ j, 1000 ≤ j → ad' j = E.2.1 j) (h3 : ∀ j, j < n → ad' j = ad j)
theorem zvo_ag {v : Value} (h : zvo n v = true) (h1 : ∀ j, 1000 ≤ j → ad j = E.2.1 j) (h2 : ∀ j, 1000 ≤ j → ad' j = E.2.1 j) (h3 : ∀ j, j < n → ad' j = ad j) : zcv (zEa E ad') v = zcv (zEa E ad) v := by
  cases v with
  | ref r => exact congrArg Value.ref (zlo_ag (r := r) h h1 h2 h3)
  | _ => rfl
theorem zSo_ag {S : List Value} (h : zSo n S = true) (h1 : ∀ j, 1000 ≤ j → ad j = E.2.1 j) (h2 : ∀ j, 1000 ≤ j → ad' j = E.2.1 j) (h3 : ∀ j, j < n → ad' j = ad j) : S.map (zcv (zEa E ad')) = S.map (zcv (zEa E ad)) :=
  List.map_congr_left fun v hv => zvo_ag (List.all_eq_true.mp h v hv) h1 h2 h3
theorem zLo_ag (h1 : ∀ j, 1000 ≤ j → ad j = E.2.1 j) (h2 : ∀ j, 1000 ≤ j → ad' j = E.2.1 j) (h3 : ∀ j, j < n → ad' j = ad j) : ∀ (L : List (Option Value)) (i : Nat), zLo n L = true → zla (zEa E ad') i L = zla (zEa E ad) i L
  | [], i, _ => rfl
  | none :: L, i, h => by
    simp only [zLo, List.all_cons, Bool.and_eq_true] at h
    rw [zla, zla]
    exact zLo_ag h1 h2 h3 L (i + 1) h.2
  | some v :: L, i, h => by
    simp only [zLo, List.all_cons, Bool.and_eq_true] at h
    rw [zla, zla, zvo_ag h.1 h1 h2 h3, zLo_ag h1 h2 h3 L (i + 1) h.2]
theorem zfs_ag (f : Nat → Int32) (h1 : ∀ j, 1000 ≤ j → ad j = E.2.1 j) (h2 : ∀ j, 1000 ≤ j → ad' j = E.2.1 j) (h3 : ∀ j, j < n → ad' j = ad j) : ∀ (l : List (Option (Option Nat))) (i : Nat), l.all (fun f => match f with | some (some r) => zlo n r | _ => true) = true → zfs (zEa E ad') f i l = zfs (zEa E ad) f i l
  | [], i, _ => rfl
  | none :: l, i, h => by
    simp only [List.all_cons, Bool.and_eq_true] at h
    rw [zfs, zfs, zfs_ag f h1 h2 h3 l (i + 1) h.2]
    rfl
  | some none :: l, i, h => by
    simp only [List.all_cons, Bool.and_eq_true] at h
    rw [zfs, zfs, zfs_ag f h1 h2 h3 l (i + 1) h.2]
    rfl
  | some (some r) :: l, i, h => by
    simp only [List.all_cons, Bool.and_eq_true] at h
    rw [zfs, zfs, zfs_ag f h1 h2 h3 l (i + 1) h.2]
    have e := zlo_ag (r := r) h.1 h1 h2 h3
    show Value.ref (ad' r) :: _ = Value.ref (ad r) :: _
    rw [e]
theorem zel_ag {M M' : zM} {k : Nat} {c : zC} (hc : zco n c = true) (hm1 : M'.1 k = M.1 k) (hm2 : M'.2 k = M.2 k) (h1 : ∀ j, 1000 ≤ j → ad j = E.2.1 j) (h2 : ∀ j, 1000 ≤ j → ad' j = E.2.1 j) (h3 : ∀ j, j < n → ad' j = ad j) : zel (zEa E ad') M' k c = zel (zEa E ad) M k c := by
  cases c with
  | inl o =>
    show Sum.inr (o.1, zfs (zEa E ad') (M'.1 k) 0 o.2) = Sum.inr (o.1, zfs (zEa E ad) (M.1 k) 0 o.2)
    rw [hm1, zfs_ag (M.1 k) h1 h2 h3 o.2 0 hc]
  | inr a =>
    have e : ∀ j, (a.2.2.getD j none).map ad' = (a.2.2.getD j none).map ad := by
      intro j
      cases hj : a.2.2.getD j none with
      | none => rfl
      | some r =>
        have hmem : some r ∈ a.2.2 := by
          rw [List.getD_eq_getElem?_getD] at hj
          cases hq : a.2.2[j]? with
          | none => rw [hq] at hj; cases hj
          | some x => rw [hq] at hj; simp at hj; subst hj; exact List.mem_of_getElem? hq
        have := List.all_eq_true.mp hc _ hmem
        exact congrArg some (zlo_ag (r := r) this h1 h2 h3)
    show Sum.inl (_, a.2.1, zac (zEa E ad') M' k a.1 a.2.2) = Sum.inl (_, a.2.1, zac (zEa E ad) M k a.1 a.2.2)
    have e2 : zac (zEa E ad') M' k a.1 a.2.2 = zac (zEa E ad) M k a.1 a.2.2 := by
      unfold zac
      rw [hm1, hm2]
      have e3 : (fun j => (a.2.2.getD j none).map (zEa E ad').2.1) = (fun j => (a.2.2.getD j none).map (zEa E ad).2.1) := funext e
      rw [e3]
    rw [e2]
    rfl
theorem zws_ag {M M' : zM} (h1 : ∀ j, 1000 ≤ j → ad j = E.2.1 j) (h2 : ∀ j, 1000 ≤ j → ad' j = E.2.1 j) (h3 : ∀ j, j < n → ad' j = ad j) : ∀ (Y : zY) (k : Nat), zYo n Y = true → k + Y.length ≤ n → (∀ j, j < n → M'.1 j = M.1 j) → (∀ j, j < n → M'.2 j = M.2 j) → zws (zEa E ad') M' k Y = zws (zEa E ad) M k Y
  | [], k, _, _, _, _ => rfl
  | c :: Y, k, hY, hk, m1, m2 => by
    simp only [zYo, List.all_cons, Bool.and_eq_true] at hY
    simp only [List.length_cons] at hk
    rw [zws, zws, zel_ag hY.1 (m1 k (by omega)) (m2 k (by omega)) h1 h2 h3, zws_ag h1 h2 h3 Y (k + 1) hY.2 (by omega) m1 m2]
    have e := h3 k (by omega)
    show (ad' k, _) :: _ = (ad k, _) :: _
    rw [e]
theorem zws_app {M : zM} : ∀ (Y : zY) (k : Nat) (c : zC), zws E M k (Y ++ [c]) = zws E M k Y ++ [(E.2.1 (k + Y.length), zel E M (k + Y.length) c)]
  | [], k, c => by simp [zws]
  | a :: Y, k, c => by
    rw [List.cons_append, zws, zws, zws_app Y (k + 1) c]
    simp only [List.length_cons, List.cons_append]
    rw [show k + 1 + Y.length = k + (Y.length + 1) by omega]
/-- a world with one cell more -/
theorem zW_push {Y : zY} {M M' : zM} {q : Nat} {c : zC} {e : va_E} (hY : zYo Y.length Y = true) (hlt : Y.length < 1000) (m1 : ∀ j, j < Y.length → M'.1 j = M.1 j) (m2 : ∀ j, j < Y.length → M'.2 j = M.2 j) (h1 : ∀ j, 1000 ≤ j → ad j = E.2.1 j) (he : zel (zEa E (va_up ad Y.length q)) M' Y.length c = e) : zW (zEa E ad) (Y, M) ++ [(q, e)] = zW (zEa E (va_up ad Y.length q)) (Y ++ [c], M') := by
  subst he
  have h3 : ∀ j, j < Y.length → va_up ad Y.length q j = ad j := fun j hj => zup_n _ _ (by omega)
  have h2 : ∀ j, 1000 ≤ j → va_up ad Y.length q j = E.2.1 j := fun j hj => by rw [zup_n _ _ (by omega), h1 j hj]
  unfold zW
  dsimp only
  rw [zws_app, zws_ag h1 h2 h3 Y 0 hY (by omega) m1 m2]
  simp only [Nat.zero_add]
  show _ = _ ++ [((va_up ad Y.length q) Y.length, _)]
  rw [zup_s]
end ZA
/-- a cell's shape changes -/
theorem zW_shape {E : zE} {Y : zY} {M : zM} {a : Nat} {c c' : zC} (h : Y[a]? = some c) : (zW E (Y, M)).set a (E.2.1 a, zel E M a c') = zW E (Y.set a c', M) := by
  have hl : a < Y.length := (List.getElem?_eq_some_iff.mp h).1
  apply List.ext_getElem?
  intro i
  have hk : a < (zW E (Y, M)).length := (List.getElem?_eq_some_iff.mp (zW_get (E := E) (M := M) h)).1
  by_cases hi : a = i
  · subst hi
    rw [List.getElem?_set_self hk]
    exact (zW_get (by rw [List.getElem?_set_self hl])).symm
  · rw [List.getElem?_set_ne hi]
    simp only [zW, zws_get]
    rw [List.getElem?_set_ne hi]
section ZNN
variable {E : zE} {d : zD} {fin : Nat → List (Option Value) → zS → Prop} {L : List (Option Value)} {S : List Value} {Y : zY} {M : zM} {k n : Nat}
theorem zn_row {pc pc' : Nat} {S' : List Value} {st : zS} (row : ∀ {ad : Nat → Nat} {p : Program} {e : Env} {R : Room} {s : State} {m : MethodId} {args : Array Value} {below : List Frame} {meth : Method} {c : Code} {H : Heap} {locs : List Loc} {cells slots : Nat} {Q : State → Prop} {ls : Array Slot},
      zCn (zEa E ad) d p R s m args meth c → zP (zEa E ad) st H → lv_has ls d.2.2.1 (zla (zEa E ad) 0 L) → W p E.1 e R s m args below meth c H locs cells slots Q (F0 m pc' ls (S'.map (zcv (zEa E ad)))) → W p E.1 e R s m args below meth c H locs cells slots Q (F0 m pc ls (S.map (zcv (zEa E ad)))))
    (h : zN E d fin pc' L S' st k n) : zN E d fin pc L S st k n :=
  fun ad hx p e R s m args below meth c H locs cells slots Q ls C hc hP hS hl hQ => row C hP hl (h ad hx p e R s m args below meth c H locs cells slots Q ls C hc hP hS hl hQ)
theorem n_end (pc : Nat) {st : zS} (hf : fin pc L st) : zN E d fin pc L [] st 0 0 :=
  fun ad hx p e R s m args below meth c H locs cells slots Q ls C hc hP hS hl hQ => hQ ad pc L st H locs ls hx (fun _ _ => rfl) hf hP hS hl
theorem n_aload (pc : Nat) {i : Fin 4} {x : Nat} {st : zS} (hd : decode d.2.1 pc = .ok (.aload_n i, 1)) (hi : L[(i : Nat)]? = some (some (.ref x))) (h : zN E d fin (pc + 1) L (.ref x :: S) st k n) : zN E d fin pc L S st k n :=
  zn_row (fun C _ hl k => lv_aload_n C.1.1 C.1.2.1 hd rfl (zla_at hl hi) k) h
theorem n_iconst (pc : Nat) {z : Int} {v : Int32} {st : zS} (hd : decode d.2.1 pc = .ok (.iconst z, 1)) (hv : Int32.ofInt z = v) (h : zN E d fin (pc + 1) L (.int v :: S) st k n) : zN E d fin pc L S st k n :=
  zn_row (fun C _ _ k => lv_iconst C.1.1 C.1.2.1 hd hv k) h
theorem n_bipush (pc : Nat) {z : Int} {v : Int32} {st : zS} (hd : decode d.2.1 pc = .ok (.bipush z, 2)) (hv : (Int8.ofInt z).toInt32 = v) (h : zN E d fin (pc + 2) L (.int v :: S) st k n) : zN E d fin pc L S st k n :=
  zn_row (fun C _ _ k => lv_bipush C.1.1 C.1.2.1 hd hv k) h
theorem n_sipush (pc : Nat) {z : Int} {v : Int32} {st : zS} (hd : decode d.2.1 pc = .ok (.sipush z, 3)) (hv : (Int16.ofInt z).toInt32 = v) (h : zN E d fin (pc + 3) L (.int v :: S) st k n) : zN E d fin pc L S st k n :=
  zn_row (fun C _ _ k => lv_sipush C.1.1 C.1.2.1 hd hv k) h
theorem n_dup (pc : Nat) {v : Value} {st : zS} (hd : decode d.2.1 pc = .ok (.dup, 1)) (hv : v.category = 1) (h : zN E d fin (pc + 1) L (v :: v :: S) st k n) : zN E d fin pc L (v :: S) st k n :=
  zn_row (fun C _ _ k => lv_dup C.1.1 C.1.2.1 hd ((zcv_cat v).trans hv) k) h
theorem n_astore (pc : Nat) {i : Fin 4} {x : Nat} {L' : List (Option Value)} {st : zS} (hd : decode d.2.1 pc = .ok (.astore_n i, 1)) (hn : (i : Nat) < d.2.2.1) (hL : zs1 L (i : Nat) (.ref x) = L') (h : zN E d fin (pc + 1) L' S st k n) : zN E d fin pc L (.ref x :: S) st k n :=
  fun ad hx p e R s m args below meth c H locs cells slots Q ls C hc hP hS hl hQ => lv_astore_n C.1.1 C.1.2.1 hd rfl hl hn rfl (fun ls' hl' => h ad hx p e R s m args below meth c H locs cells slots Q ls' C hc hP hS (zs1_has (v := .ref x) hl' hL) hQ)
theorem n_getR (pc : Nat) {idx ci j a r : Nat} {fs : List (Option (Option Nat))} (hd : decode d.2.1 pc = .ok (.getfield idx, 3)) (hf : zFl d.1.cls idx ci j) (hY : Y[a]? = some (.inl (ci, fs))) (hj : fs[j]? = some (some (some r)))
    (h : zN E d fin (pc + 3) L (.ref r :: S) (Y, M) k n) : zN E d fin pc L (.ref a :: S) (Y, M) k n := by
  obtain ⟨q, h1, h2, h3, h4⟩ := hf
  refine zn_row (fun {ad p e R s m args below meth c H locs cells slots Q ls} C hP _ k => ?_) h
  refine va_get (C := q.1) (T := q.2.1) (N := q.2.2) (ref := (q.2.1 j).1) C.1.1 C.1.2.1 C.1.2.2.2.2.1 h3 C.1.2.2.2.1 C.1.2.2.2.2.2.1 hP.1 a (zW_get hY) h1 j h2 (C.1.2.2.2.2.1 _ h4) (fun _ h => h) (v := zcv (zEa E ad) (.ref r)) ?_ hd k
  rw [zfs_get, hj]
  rfl
theorem n_obj (pc : Nat) {idx a : Nat} {st : zS} (hd : decode d.2.1 pc = .ok (.invokespecial idx, 3)) (hl : Cond.methodLink d.1.cls idx Lib.objectInit ∈ zT) (h1 : Cond.instanceMethod Lib.objectInit ∈ zT) (h2 : Cond.code Lib.objectInit ⟨#[0xb1]⟩ 1 none ∈ zT) (hr : 1 ≤ d.2.2.2.2.1 ∧ (S.map fun v => v.category).sum + 12 ≤ d.2.2.2.2.2)
    (h : zN E d fin (pc + 3) L S st k n) : zN E d fin pc L (.ref a :: S) st k n :=
  zn_row (fun C _ hl0 k => W.objInit C.1.1 C.1.2.1 C.1.2.2.2.1 (C.1.2.2.2.2.1 _ hl) (C.1.2.2.2.2.1 _ h1) (C.1.2.2.2.2.1 _ h2) rfl (by rw [C.1.2.2.1]; exact hl0.1) rfl hd (Nat.le_trans hr.1 C.1.2.2.2.2.2.2.2.1) (by show 2 * 0 + _ + 12 ≤ _; rw [zcv_sum]; have := C.1.2.2.2.2.2.2.2.2; omega) k) h
theorem zn_hQ {st st' : zS} {ad ad1 : Nat → Nat} {p : Program} {e : Env} {R : Room} {s : State} {m : MethodId} {args : Array Value} {below : List Frame} {meth : Method} {c : Code} {cells slots k0 n0 k n : Nat} {Q : State → Prop} (hlen : st.1.length ≤ st'.1.length) (hag : ∀ j, j < st.1.length → ad1 j = ad j)
    (hQ : ∀ (ad' : Nat → Nat) (pc' : Nat) (L' : List (Option Value)) (st' : zS) (H' : Heap) (locs' : List Loc) (ls' : Array Slot), (∀ j, 1000 ≤ j → ad' j = E.2.1 j) → (∀ j, j < st.1.length → ad' j = ad j) → fin pc' L' st' → zP (zEa E ad') st' H' → va_S E.2.2.1 s.heap H' locs' → lv_has ls' d.2.2.1 (zla (zEa E ad') 0 L') → W p E.1 e R s m args below meth c H' locs' (cells + (k0 + k)) (slots + (n0 + n)) Q (F0 m pc' ls' [])) :
    ∀ (ad' : Nat → Nat) (pc' : Nat) (L' : List (Option Value)) (st'' : zS) (H' : Heap) (locs' : List Loc) (ls' : Array Slot), (∀ j, 1000 ≤ j → ad' j = E.2.1 j) → (∀ j, j < st'.1.length → ad' j = ad1 j) → fin pc' L' st'' → zP (zEa E ad') st'' H' → va_S E.2.2.1 s.heap H' locs' → lv_has ls' d.2.2.1 (zla (zEa E ad') 0 L') → W p E.1 e R s m args below meth c H' locs' (cells + k0 + k) (slots + n0 + n) Q (F0 m pc' ls' []) := by
  intro ad' pc' L' st'' H' locs' ls' g1 g2 g3 g4 g5 g6
  rw [Nat.add_assoc, Nat.add_assoc]
  exact hQ ad' pc' L' st'' H' locs' ls' g1 (fun j hj => (g2 j (Nat.lt_of_lt_of_le hj hlen)).trans (hag j hj)) g3 g4 g5 g6
theorem zCn_ag {ad ad1 : Nat → Nat} {p : Program} {R : Room} {s : State} {m : MethodId} {args : Array Value} {meth : Method} {c : Code} (h1 : ∀ j, 1000 ≤ j → ad j = E.2.1 j) (h2 : ∀ j, 1000 ≤ j → ad1 j = E.2.1 j) (C : zCn (zEa E ad) d p R s m args meth c) : zCn (zEa E ad1) d p R s m args meth c := by
  obtain ⟨⟨a1, a2, a3, a4, a5, a6, a7, a8, a9⟩, b1, b2, b3⟩ := C
  refine ⟨⟨a1, a2, a3, a4, a5, a6, ?_, a8, a9⟩, b1, b2, b3⟩
  have e : ∀ j, 1000 ≤ j → ad1 j = ad j := fun j hj => (h2 j hj).trans (h1 j hj).symm
  obtain ⟨⟨x1, x2, x3⟩, ⟨y1, y2⟩, ⟨z1, z2, z3⟩, w1, w2⟩ := a7
  have e0 : (zEa E ad1).2.1 1000 = (zEa E ad).2.1 1000 := e 1000 (by omega)
  have e1 : (zEa E ad1).2.1 1001 = (zEa E ad).2.1 1001 := e 1001 (by omega)
  have e2 : (zEa E ad1).2.1 1002 = (zEa E ad).2.1 1002 := e 1002 (by omega)
  have f1 : (fun i => (zEa E ad1).2.1 (1010 + i)) = (fun i => (zEa E ad).2.1 (1010 + i)) := funext fun i => e (1010 + i) (by omega)
  have f2 : (fun i => (zEa E ad1).2.1 (1030 + i)) = (fun i => (zEa E ad).2.1 (1030 + i)) := funext fun i => e (1030 + i) (by omega)
  refine ⟨⟨?_, ?_, ?_⟩, ⟨?_, ?_⟩, ⟨?_, z2, ?_⟩, fun i hi => ?_, w2⟩
  · rw [e0]; exact x1
  · rw [e0]; exact x2
  · rw [e0]; exact x3
  · rw [e1]; exact y1
  · rw [e1]; exact y2
  · rw [f1, f2]; exact z1
  · rw [e2]; exact z3
  · have e3 : (zEa E ad1).2.1 (1010 + i) = (zEa E ad).2.1 (1010 + i) := e (1010 + i) (by omega)
    rw [e3]; exact w1 i hi
end ZNN
