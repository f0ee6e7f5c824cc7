/-! ===== making cells: rules ===== -/
def zwZ (M : zM) (a : Nat) : zM := (va_up M.1 a (fun _ => 0), va_up M.2 a (fun _ => 0))
def zFf (own : String) (idx ci j : Nat) : Prop := ∃ (q : vw_C) (ty0 : Nat → FieldType) (ty : FieldType), vwCl[ci]? = some q ∧ j < q.2.2 ∧ (∀ w ∈ u_ws q.1 q.2.1 q.2.2, w ∈ zT) ∧ Cond.fieldLink own idx (q.2.1 j).1 (q.2.1 j).2.1 (q.2.1 j).2.2.1 ∈ zT ∧
  (∀ k, k < q.2.2 → parseFieldDescriptor (q.2.1 k).2.2.1 = some (ty0 k)) ∧ (∀ a, a < q.2.2 → ∀ b, b < q.2.2 → a ≠ b → (q.2.1 a).2.1 ≠ (q.2.1 b).2.1) ∧ (q.2.1 j).2.2.2 = true ∧ (q.2.1 j).1 = own ∧ parseFieldDescriptor (q.2.1 j).2.2.1 = some ty ∧ ∀ x, narrow ty (.ref x) = .ref x ∧ fits ty (.ref x) = true
theorem zn_nn {N : Nat} {v : Int32} (h : v.toNatClampNeg = N) : v.toNatClampNeg = N := h
section ZNM
variable {E : zE} {d : zD} {fin : Nat → List (Option Value) → zS → Prop} {L : List (Option Value)} {S : List Value} {Y : zY} {M : zM} {k n : Nat}
theorem n_new (pc : Nat) {idx ci N a : Nat} {C : String} {T : u_T} {ty : Nat → FieldType} {fs0 : List (Option (Option Nat))} {fsv : List Value} {Y' : zY} (hd : decode d.2.1 pc = .ok (.new idx, 3)) (hq : vwCl[ci]? = some (C, T, N)) (hin : ∀ w ∈ u_ws C T N, w ∈ zT) (hty : ∀ k, k < N → parseFieldDescriptor (T k).2.2.1 = some (ty k)) (hcl : Cond.classLink d.1.cls idx C ∈ zT) (hinst : Cond.instantiable C N ∈ zT) (hini : Cond.initialized C ∈ zT)
    (hz : ∀ E' : zE, zfs E' (fun _ => 0) 0 fs0 = fsv) (hfs : ∀ j, j < N → defaultValue (ty j) = vp_V fsv j) (ha : Y.length = a) (hlt : a < 1000) (hY : zYo a Y = true) (hL : zLo a L = true) (hS : zSo a S = true) (hY' : Y ++ [.inl (ci, fs0)] = Y')
    (h : zN E d fin (pc + 3) L (.ref a :: S) (Y', zwZ M a) k n) : zN E d fin pc L S (Y, M) (1 + k) (N + n) := by
  subst hY'
  subst ha
  intro ad hx p e R s m args below meth c H locs cells slots Q ls C0 hc hP hSS hl hQ
  have hts := C0.1.2.2.2.2.1
  refine va_new (ci := ci) (fs := fsv) C0.1.1 C0.1.2.1 hts hin ty hty C0.1.2.2.2.1 (hts _ hcl) (hts _ hinst) (hts _ hini) C0.1.2.2.2.2.2.1 hP.1 hP.2 hSS C0.2.2.1 hq hfs (by omega) (by omega) hd (fun q H1 hP1 hD1 hS1 => ?_)
  have h3 : ∀ j, j < Y.length → va_up ad Y.length q j = ad j := fun j hj => zup_n _ _ (by omega)
  have h2 : ∀ j, 1000 ≤ j → va_up ad Y.length q j = E.2.1 j := fun j hj => by rw [zup_n _ _ (by omega), hx j hj]
  have ew := zW_push (E := E) (ad := ad) (q := q) (M := M) (M' := zwZ M Y.length) (c := .inl (ci, fs0)) (e := .inr (ci, fsv)) hY hlt (fun j hj => zup_n _ _ (by omega)) (fun j hj => zup_n _ _ (by omega)) hx (by
    show Sum.inr (ci, zfs _ ((zwZ M Y.length).1 Y.length) 0 fs0) = _
    rw [show (zwZ M Y.length).1 Y.length = (fun _ => 0) from zup_s _ _ _, hz])
  rw [ew] at hP1 hD1
  have hl1 : lv_has ls d.2.2.1 (zla (zEa E (va_up ad Y.length q)) 0 L) := by rw [zLo_ag hx h2 h3 L 0 hL]; exact hl
  have hst : ((.ref Y.length :: S : List Value)).map (zcv (zEa E (va_up ad Y.length q))) = .ref q :: S.map (zcv (zEa E ad)) := by
    rw [List.map_cons, zSo_ag hS hx h2 h3]
    show Value.ref (va_up ad Y.length q Y.length) :: _ = _
    rw [zup_s]
  have := h (va_up ad Y.length q) h2 p e R s m args below meth c H1 locs (cells + 1) (slots + N) Q ls (zCn_ag hx h2 C0) ⟨by omega, by omega⟩ ⟨hP1, hD1⟩ hS1 hl1 (zn_hQ (st := (Y, M)) (by simp) h3 hQ)
  rw [hst] at this
  exact this
theorem n_newa (pc : Nat) {t N a : Nat} {v : Int32} {atype : ArrayType} {Y' : zY} (hd : decode d.2.1 pc = .ok (.newarray atype, 2)) (ht : t < 4) (hty : newarray.typeOf atype = zTy t) (hw : Cond.arrayClass (zTy t) ∈ zT) (hv : ¬ v < 0) (hN : v.toNatClampNeg = N) (hb : N * 8 ≤ 536870912) (ha : Y.length = a) (hlt : a < 1000) (hY : zYo a Y = true) (hL : zLo a L = true) (hS : zSo a S = true) (hY' : Y ++ [.inr (t, N, [])] = Y')
    (h : zN E d fin (pc + 2) L (.ref a :: S) (Y', zwZ M a) k n) : zN E d fin pc L (.int v :: S) (Y, M) (1 + k) (N + n) := by
  subst hY'
  subst ha
  intro ad hx p e R s m args below meth c H locs cells slots Q ls C0 hc hP hSS hl hQ
  have hts := C0.1.2.2.2.2.1
  have hK := C0.1.2.2.2.2.2.1
  have hwt := hts _ hw
  rw [← hty] at hwt
  have key : ∀ (a0 : (Nat → Int32) ⊕ (Nat → Int64) ⊕ (Nat → UInt32) ⊕ (Nat → UInt64) ⊕ (Nat → Option Nat)), (∀ cA : ClassId, vp_cell cA (N, a0) = arrV cA N (fun _ => defaultValue (zTy t))) → N * componentBytes (zTy t) ≤ 536870912 → (zty (zEa E ad))[t]? = some (E.2.2.2.2.1 t, zTy t) → (∀ cA cB : ClassId, va_RA s cA (zTy t) → va_RA s cB (zTy t) → cA = cB) → (∀ q : Nat, zac (zEa E (va_up ad Y.length q)) (zwZ M Y.length) Y.length t [] = a0) → W p E.1 e R s m args below meth c H locs cells slots Q (F0 m pc ls ((.int v :: S).map (zcv (zEa E ad)))) := by
    intro a0 hc0 hbb htt huni hza
    refine va_newa (a0 := (N, a0)) C0.1.1 C0.1.2.1 hwt hty hK hP.1 hP.2 hSS C0.2.2.1 hc0 hv hN hbb (by omega) (by omega) hd (fun q cA H1 hK1 hP1 hD1 hS1 => ?_)
    have e1 : cA = E.2.2.2.2.1 t := huni _ _ (hK1.2 (zty (zEa E ad)).length (cA, zTy t) (by rw [List.getElem?_append_right (Nat.le_refl _), Nat.sub_self]; rfl)).2 (hK.2 t _ htt).2
    subst e1
    have h3 : ∀ j, j < Y.length → va_up ad Y.length q j = ad j := fun j hj => zup_n _ _ (by omega)
    have h2 : ∀ j, 1000 ≤ j → va_up ad Y.length q j = E.2.1 j := fun j hj => by rw [zup_n _ _ (by omega), hx j hj]
    have ew := zW_push (E := E) (ad := ad) (q := q) (M := M) (M' := zwZ M Y.length) (c := .inr (t, N, [])) (e := .inl (E.2.2.2.2.1 t, N, a0)) hY hlt (fun j hj => zup_n _ _ (by omega)) (fun j hj => zup_n _ _ (by omega)) hx (by
      show Sum.inl (E.2.2.2.2.1 t, N, zac (zEa E (va_up ad Y.length q)) (zwZ M Y.length) Y.length t []) = _
      rw [hza])
    rw [ew] at hP1 hD1
    have hl1 : lv_has ls d.2.2.1 (zla (zEa E (va_up ad Y.length q)) 0 L) := by rw [zLo_ag hx h2 h3 L 0 hL]; exact hl
    have hst : ((.ref Y.length :: S : List Value)).map (zcv (zEa E (va_up ad Y.length q))) = .ref q :: S.map (zcv (zEa E ad)) := by
      rw [List.map_cons, zSo_ag hS hx h2 h3]
      show Value.ref (va_up ad Y.length q Y.length) :: _ = _
      rw [zup_s]
    have := h (va_up ad Y.length q) h2 p e R s m args below meth c H1 locs (cells + 1) (slots + N) Q ls (zCn_ag hx h2 C0) ⟨by omega, by omega⟩ ⟨hP1, hD1⟩ hS1 hl1 (zn_hQ (st := (Y, M)) (by simp) h3 hQ)
    rw [hst] at this
    exact this
  have z1 : (zwZ M Y.length).1 Y.length = (fun _ => 0) := zup_s _ _ _
  have z2 : (zwZ M Y.length).2 Y.length = (fun _ => 0) := zup_s _ _ _
  rcases (show t = 0 ∨ t = 1 ∨ t = 2 ∨ t = 3 by omega) with rfl | rfl | rfl | rfl
  · exact key (.inl (fun _ => 0)) (fun _ => rfl) (by show N * 4 ≤ _; omega) rfl (fun _ _ h1 h2 => Option.some.inj (h1.symm.trans h2)) (fun q => by simp [zac, z1])
  · exact key (.inr (.inl (fun _ => 0))) (fun _ => rfl) (by show N * 8 ≤ _; omega) rfl (fun _ _ h1 h2 => Option.some.inj (h1.symm.trans h2)) (fun q => by simp [zac, z2])
  · exact key (.inl (fun _ => 0)) (fun _ => rfl) (by show N * 1 ≤ _; omega) rfl (fun _ _ h1 h2 => Option.some.inj (h1.symm.trans h2)) (fun q => by simp [zac, z1])
  · exact key (.inl (fun _ => 0)) (fun _ => rfl) (by show N * 1 ≤ _; omega) rfl (fun _ _ h1 h2 => Option.some.inj (h1.symm.trans h2)) (fun q => by simp [zac, z1])
/-- an array of references -/
theorem n_newq (pc : Nat) {idx t N a : Nat} {C : String} {v : Int32} {Y' : zY} (hd : decode d.2.1 pc = .ok (.anewarray idx, 3)) (ht : 4 ≤ t) (htt : ∀ E' : zE, (zty E')[t]? = some (E'.2.2.2.2.1 t, .object C)) (hcl : Cond.classLink d.1.cls idx C ∈ zT) (hao : ∀ s, zXn s → va_AO C s) (hv : ¬ v < 0) (hN : v.toNatClampNeg = N) (hb : N * 4 ≤ 536870912) (ha : Y.length = a) (hlt : a < 1000) (hY : zYo a Y = true) (hL : zLo a L = true) (hS : zSo a S = true) (hY' : Y ++ [.inr (t, N, List.replicate N none)] = Y')
    (h : zN E d fin (pc + 3) L (.ref a :: S) (Y', zwZ M a) k n) : zN E d fin pc L (.int v :: S) (Y, M) (1 + k) (N + n) := by
  subst hY'
  subst ha
  intro ad hx p e R s m args below meth c H locs cells slots Q ls C0 hc hP hSS hl hQ
  have hts := C0.1.2.2.2.2.1
  have hK := C0.1.2.2.2.2.2.1
  refine va_newq C0.1.1 C0.1.2.1 C0.1.2.2.2.1 (hts _ hcl) (hao s C0.2.1) hK hP.1 hP.2 hSS C0.2.2.1 hv hN hb (by omega) (by omega) hd (fun q cA H1 hK1 hP1 hD1 hS1 => ?_)
  have e1 : cA = E.2.2.2.2.1 t := by
    obtain ⟨_, _, _, _, _, g1⟩ := (hK1.2 (zty (zEa E ad)).length (cA, .object C) (by rw [List.getElem?_append_right (Nat.le_refl _), Nat.sub_self]; rfl)).2
    obtain ⟨_, _, _, _, _, g2⟩ := (hK.2 t _ (htt (zEa E ad))).2
    exact Option.some.inj (g1.symm.trans g2)
  subst e1
  have h3 : ∀ j, j < Y.length → va_up ad Y.length q j = ad j := fun j hj => zup_n _ _ (by omega)
  have h2 : ∀ j, 1000 ≤ j → va_up ad Y.length q j = E.2.1 j := fun j hj => by rw [zup_n _ _ (by omega), hx j hj]
  have ew := zW_push (E := E) (ad := ad) (q := q) (M := M) (M' := zwZ M Y.length) (c := .inr (t, N, List.replicate N none)) (e := .inl (E.2.2.2.2.1 t, N, .inr (.inr (.inr (.inr (fun _ => none)))))) hY hlt (fun j hj => zup_n _ _ (by omega)) (fun j hj => zup_n _ _ (by omega)) hx (by
    show Sum.inl (E.2.2.2.2.1 t, N, zac (zEa E (va_up ad Y.length q)) (zwZ M Y.length) Y.length t (List.replicate N none)) = _
    have : zac (zEa E (va_up ad Y.length q)) (zwZ M Y.length) Y.length t (List.replicate N none) = .inr (.inr (.inr (.inr (fun _ => none)))) := by
      unfold zac
      rw [if_neg (by omega), if_pos ht]
      congr 4
      funext j
      rw [List.getD_eq_getElem?_getD, List.getElem?_replicate]
      split <;> rfl
    rw [this])
  rw [ew] at hP1 hD1
  have hl1 : lv_has ls d.2.2.1 (zla (zEa E (va_up ad Y.length q)) 0 L) := by rw [zLo_ag hx h2 h3 L 0 hL]; exact hl
  have hst : ((.ref Y.length :: S : List Value)).map (zcv (zEa E (va_up ad Y.length q))) = .ref q :: S.map (zcv (zEa E ad)) := by
    rw [List.map_cons, zSo_ag hS hx h2 h3]
    show Value.ref (va_up ad Y.length q Y.length) :: _ = _
    rw [zup_s]
  have := h (va_up ad Y.length q) h2 p e R s m args below meth c H1 locs (cells + 1) (slots + N) Q ls (zCn_ag hx h2 C0) ⟨by omega, by omega⟩ ⟨hP1, hD1⟩ hS1 hl1 (zn_hQ (st := (Y, M)) (by simp) h3 hQ)
  rw [hst] at this
  exact this
theorem zfs_setR {E : zE} {f : Nat → Int32} {fs : List (Option (Option Nat))} {j r : Nat} (hj : j < fs.length) : (zfs E f 0 fs).set j (.ref (E.2.1 r)) = zfs E f 0 (fs.set j (some (some r))) := by
  apply List.ext_getElem?
  intro i
  have hl : (zfs E f 0 fs).length = fs.length := by
    have : ∀ (l : List (Option (Option Nat))) (i : Nat), (zfs E f i l).length = l.length := by
      intro l
      induction l with
      | nil => intro i; rfl
      | cons o l ih => intro i; simp [zfs, ih]
    exact this fs 0
  by_cases hi : j = i
  · subst hi
    rw [List.getElem?_set_self (by omega), zfs_get, List.getElem?_set_self hj]
    rfl
  · rw [List.getElem?_set_ne hi, zfs_get, zfs_get, List.getElem?_set_ne hi]
theorem n_putF (pc : Nat) {idx ci j a r : Nat} {fs fs' : List (Option (Option Nat))} {Y' : zY} (hd : decode d.2.1 pc = .ok (.putfield idx, 3)) (hi : d.1.name = "<init>") (hf : zFf d.1.cls idx ci j) (hY : Y[a]? = some (.inl (ci, fs))) (hj : j < fs.length) (hfs : fs.set j (some (some r)) = fs') (hY' : Y.set a (.inl (ci, fs')) = Y')
    (h : zN E d fin (pc + 3) L S (Y', M) k n) : zN E d fin pc L (.ref r :: .ref a :: S) (Y, M) k n := by
  obtain ⟨q, ty0, ty, h1, h2, h3, h4, h5, h6, h7, h8, h9, h10⟩ := hf
  subst hfs
  subst hY'
  intro ad hx p e R s m args below meth c H locs cells slots Q ls C hc hP hS hl hQ
  have hz : (zfs (zEa E ad) (M.1 a) 0 fs).length = fs.length := by
    have : ∀ (l : List (Option (Option Nat))) (i : Nat), (zfs (zEa E ad) (M.1 a) i l).length = l.length := by
      intro l
      induction l with
      | nil => intro i; rfl
      | cons o l ih => intro i; simp [zfs, ih]
    exact this fs 0
  refine va_putF (C := q.1) (T := q.2.1) (N := q.2.2) (ref := (q.2.1 j).1) C.1.1 C.1.2.1 C.1.2.2.2.2.1 h3 ty0 h5 h6 C.1.2.2.2.1 C.1.2.2.2.2.2.1 hP.1 hP.2 hS a (zW_get hY) h1 j h2 (C.1.2.2.2.2.1 _ h4) (fun _ h => h) h7 (C.2.2.2 hi) h8 h9 (h10 _).1 (h10 _).2 (by show j < (zfs _ _ 0 fs).length; omega) hd (fun H1 locs1 hP1 hD1 hS1 => ?_)
  have e1 : (zel (zEa E ad) M a (.inl (ci, fs.set j (some (some r))))) = .inr (ci, (zfs (zEa E ad) (M.1 a) 0 fs).set j (.ref ((zEa E ad).2.1 r))) := by
    rw [zfs_setR hj]
    rfl
  have e2 := zW_shape (E := zEa E ad) (M := M) (c' := .inl (ci, fs.set j (some (some r)))) hY
  rw [e1] at e2
  have hP2 : va_P E.2.2.2.1 vwCl ((zW (zEa E ad) (Y, M)).set a ((zEa E ad).2.1 a, .inr (ci, (zfs (zEa E ad) (M.1 a) 0 fs).set j (.ref ((zEa E ad).2.1 r))))) H1 := hP1
  have hD2 : va_D E.2.2.1 ((zW (zEa E ad) (Y, M)).set a ((zEa E ad).2.1 a, .inr (ci, (zfs (zEa E ad) (M.1 a) 0 fs).set j (.ref ((zEa E ad).2.1 r))))) := hD1
  rw [e2] at hP2 hD2
  exact h ad hx p e R s m args below meth c H1 locs1 cells slots Q ls C hc ⟨hP2, hD2⟩ hS1 hl (fun ad' pc' L' st' H' locs' ls' g1 g2 => hQ ad' pc' L' st' H' locs' ls' g1 (fun j hj => g2 j (by simpa using hj)))
theorem n_putI (pc : Nat) {idx ci j a : Nat} {v : Int32} {fs : List (Option (Option Nat))} (hd : decode d.2.1 pc = .ok (.putfield idx, 3)) (hf : zFp d.1.cls idx ci j .int) (hY : Y[a]? = some (.inl (ci, fs))) (hj : fs[j]? = some none)
    (h : zN E d fin (pc + 3) L S (Y, zwI M a j v) k n) : zN E d fin pc L (.int v :: .ref a :: S) (Y, M) k n := by
  obtain ⟨q, ty0, h1, h2, h3, h4, h5, h6, h7, h8⟩ := hf
  intro ad hx p e R s m args below meth c H locs cells slots Q ls C hc hP hS hl hQ
  have hlen : j < (zfs (zEa E ad) (M.1 a) 0 fs).length := by
    have : (zfs (zEa E ad) (M.1 a) 0 fs)[j]? = some (zfv (zEa E ad) (M.1 a) (0 + j) none) := by rw [zfs_get, hj]; rfl
    exact (List.getElem?_eq_some_iff.mp this).1
  refine va_put (C := q.1) (T := q.2.1) (N := q.2.2) (ref := (q.2.1 j).1) C.1.1 C.1.2.1 C.1.2.2.2.2.1 h3 ty0 h5 h6 C.1.2.2.2.1 C.1.2.2.2.2.2.1 hP.1 hP.2 hS a (zW_get hY) h1 j h2 (C.1.2.2.2.2.1 _ h4) (fun _ h => h) h7 h8 (v := .int v) rfl rfl hlen hd (fun H1 locs1 hP1 hD1 hS1 => h ad hx p e R s m args below meth c H1 locs1 cells slots Q ls C hc (zP_set (E := zEa E ad) (M' := zwI M a j v) hY (fun i hi => zup_n _ _ hi) (fun _ _ => rfl) ?_ hP1 hD1) hS1 hl hQ)
  show Sum.inr (ci, zfs (zEa E ad) ((zwI M a j v).1 a) 0 fs) = Sum.inr (ci, (zfs (zEa E ad) (M.1 a) 0 fs).set j (.int v))
  rw [zfs_set hj]
  simp [zwI, zup_s]
theorem n_iastore (pc : Nat) {a N : Nat} {i v : Int32} {rs : List (Option Nat)} (hd : decode d.2.1 pc = .ok (.iastore, 1)) (hY : Y[a]? = some (.inr (0, N, rs))) (hi : zix i N)
    (h : zN E d fin (pc + 1) L S (Y, zwI M a (zn i) v) k n) : zN E d fin pc L (.int v :: .int i :: .ref a :: S) (Y, M) k n :=
  fun ad hx p e R s m args below meth c H locs cells slots Q ls C hc hP hS hl hQ => va_iast C.1.1 C.1.2.1 C.1.2.2.2.2.2.1 hP.1 hP.2 hS a 0 (zW_get hY) rfl (zix_in hi) hd (fun H1 locs1 hP1 hD1 hS1 => h ad hx p e R s m args below meth c H1 locs1 cells slots Q ls C hc (zP_set (E := zEa E ad) (M' := zwI M a (zn i) v) hY (fun _ hj => zup_n _ _ hj) (fun _ _ => rfl) (zel_I (by decide) (by decide)) hP1 hD1) hS1 hl hQ)
theorem n_aastore (pc : Nat) {a N t r ci i' : Nat} {i : Int32} {rs rs' : List (Option Nat)} {fs : List (Option (Option Nat))} {q : vw_C} {Y' : zY} (hd : decode d.2.1 pc = .ok (.aastore, 1)) (ht : 4 ≤ t) (htt : ∀ E' : zE, (zty E')[t]? = some (E'.2.2.2.2.1 t, .object q.1)) (hY : Y[a]? = some (.inr (t, N, rs))) (hr : Y[r]? = some (.inl (ci, fs))) (hq : vwCl[ci]? = some q) (hi : zix i N) (hi' : zn i = i') (hlt : i' < rs.length) (hrs : rs.set i' (some r) = rs') (hY' : Y.set a (.inr (t, N, rs')) = Y')
    (h : zN E d fin (pc + 1) L S (Y', M) k n) : zN E d fin pc L (.ref r :: .int i :: .ref a :: S) (Y, M) k n := by
  subst hi'
  subst hrs
  subst hY'
  intro ad hx p e R s m args below meth c H locs cells slots Q ls C hc hP hS hl hQ
  have zz : ∀ l : List (Option Nat), zac (zEa E ad) M a t l = .inr (.inr (.inr (.inr (fun j => (l.getD j none).map (zEa E ad).2.1)))) := by
    intro l
    unfold zac
    rw [if_neg (by omega), if_pos ht]
  have w0 : (zW (zEa E ad) (Y, M))[a]? = some ((zEa E ad).2.1 a, .inl (E.2.2.2.2.1 t, N, .inr (.inr (.inr (.inr (fun j => (rs.getD j none).map (zEa E ad).2.1)))))) := by
    rw [zW_get hY, ← zz rs]
    rfl
  refine va_astq C.1.1 C.1.2.1 C.1.2.2.2.2.2.1 hP.1 hP.2 hS a t r ci (r := q) w0 (htt (zEa E ad)) (zW_get hr) hq (zix_in hi) hd (fun H1 locs1 hP1 hD1 hS1 => ?_)
  have e1 : zel (zEa E ad) M a (.inr (t, N, rs.set (zn i) (some r))) = .inl (E.2.2.2.2.1 t, N, .inr (.inr (.inr (.inr (va_up (fun j => (rs.getD j none).map (zEa E ad).2.1) i.toNatClampNeg (some ((zEa E ad).2.1 r))))))) := by
    show Sum.inl (E.2.2.2.2.1 t, N, zac (zEa E ad) M a t (rs.set (zn i) (some r))) = _
    rw [zz]
    congr 7
    funext j
    by_cases hj : j = zn i
    · subst hj
      rw [List.getD_eq_getElem?_getD, List.getElem?_set_self hlt]
      exact (zup_s _ _ _).symm
    · rw [List.getD_eq_getElem?_getD, List.getElem?_set_ne (Ne.symm hj), ← List.getD_eq_getElem?_getD]
      exact (zup_n (fun j => (rs.getD j none).map (zEa E ad).2.1) _ hj).symm
  have e2 := zW_shape (E := zEa E ad) (M := M) (c' := .inr (t, N, rs.set (zn i) (some r))) hY
  rw [e1] at e2
  have hP2 : va_P E.2.2.2.1 vwCl ((zW (zEa E ad) (Y, M)).set a ((zEa E ad).2.1 a, .inl (E.2.2.2.2.1 t, N, .inr (.inr (.inr (.inr (va_up (fun j => (rs.getD j none).map (zEa E ad).2.1) i.toNatClampNeg (some ((zEa E ad).2.1 r))))))))) H1 := hP1
  have hD2 : va_D E.2.2.1 ((zW (zEa E ad) (Y, M)).set a ((zEa E ad).2.1 a, .inl (E.2.2.2.2.1 t, N, .inr (.inr (.inr (.inr (va_up (fun j => (rs.getD j none).map (zEa E ad).2.1) i.toNatClampNeg (some ((zEa E ad).2.1 r))))))))) := hD1
  rw [e2] at hP2 hD2
  exact h ad hx p e R s m args below meth c H1 locs1 cells slots Q ls C hc ⟨hP2, hD2⟩ hS1 hl (fun ad' pc' L' st' H' locs' ls' g1 g2 => hQ ad' pc' L' st' H' locs' ls' g1 (fun j hj => g2 j (by simpa using hj)))
/-! calls while cells are made -/
theorem n_callV (pc : Nat) {idx a ci : Nat} {d' : zD} {M1 : zM} {fs : List (Option (Option Nat))} {q : vw_C} (hd : decode d.2.1 pc = .ok (.invokevirtual idx, 3)) (hl : zLv d.1.cls idx d' 0) (hY : Y[a]? = some (.inl (ci, fs))) (hc : vwCl[ci]? = some q) (hq : q.1 = d'.1.cls) (hr : zRm d d') (hs : (S.map fun v => v.category).sum ≤ 8) (hM : ∀ E' : zE, zFV E' d' [.ref a] Y M (some M1))
    (h : zN E d fin (pc + 3) L S (Y, M1) k n) : zN E d fin pc L (.ref a :: S) (Y, M) k n := by
  intro ad hx p e R s m args below meth c H locs cells slots Q ls C0 hcs hP hS hl0 hQ
  have C := C0.1
  obtain ⟨hx1, hb, hml, hown, hts, hK, hX, hf, hlo⟩ := id C
  have hM1 := hM (zEa E ad) (fun v st' => v = none ∧ st' = (Y, M1)) ⟨M1, rfl, rfl, rfl⟩
  have cw : CallW R s args d.1.cls d'.1.cls idx d'.1 d'.2.1 d'.2.2.1 d'.2.2.2.1 (zwd d') (zrm d') 0 0 0 := ⟨callB_of 0 hts (zwd_good hl.1) rfl rfl rfl (hts _ hl.1.1) (hts _ hl.2.1) hl.1.2.2 ⟨Nat.le_trans hr.1 hf, Nat.le_trans hr.2 hlo⟩, hts _ hl.2.2.1, hts _ hl.2.2.2⟩
  have hrec := va_recv (q0 := a) hK hP.1 hc (zW_get hY)
  rw [hq] at hrec
  refine zcall (E := zEa E ad) (va_runV (As := []) (rest := S.map (zcv (zEa E ad))) (b := (zEa E ad).2.1 a) ⟨hx1, hb, hml, hown, hts⟩ hM1 cw ⟨zpre_blind, hrec, fun U hU hW => ⟨rfl, zpre_of hP hK hX hS hU hW⟩⟩ rfl rfl hl0.1 rfl (lv_room (by rw [zcv_sum]; exact hs)) hd ⟨by have := hcs.1; omega, by have := hcs.2; omega⟩) hS (fun v st' H1 locs1 hp hP1 hS1 => ?_)
  obtain ⟨rfl, rfl⟩ := hp
  exact h ad hx p e R s m args below meth c H1 locs1 cells slots Q ls C0 hcs hP1 hS1 hl0 hQ
theorem n_callS2 (pc : Nat) {idx : Nat} {d' : zD} {M1 : zM} {v1 v2 : Value} (hd : decode d.2.1 pc = .ok (.invokestatic idx, 3)) (hl : zLs d.1.cls idx d' 2) (hr : zRm d d') (hs : (S.map fun v => v.category).sum ≤ 8) (hM : ∀ E' : zE, zFV E' d' [v1, v2] Y M (some M1))
    (h : zN E d fin (pc + 3) L S (Y, M1) k n) : zN E d fin pc L (v2 :: v1 :: S) (Y, M) k n := by
  intro ad hx p e R s m args below meth c H locs cells slots Q ls C0 hcs hP hS hl0 hQ
  have C := C0.1
  obtain ⟨hx1, hb, hml, hown, hts, hK, hX, hf, hlo⟩ := id C
  have hM1 := hM (zEa E ad) (fun v st' => v = none ∧ st' = (Y, M1)) ⟨M1, rfl, rfl, rfl⟩
  have cw : CallB R s args d.1.cls idx d'.1 d'.2.1 d'.2.2.1 d'.2.2.2.1 (zwd d') (zrm d') 0 0 2 := callB_of 2 hts (zwd_good hl.1) rfl rfl rfl (hts _ hl.1.1) (hts _ hl.2.1) hl.1.2.2 ⟨Nat.le_trans hr.1 hf, Nat.le_trans hr.2 hlo⟩
  refine zcall (E := zEa E ad) (va_runS (As := [zcv (zEa E ad) v1, zcv (zEa E ad) v2]) (rest := S.map (zcv (zEa E ad))) ⟨hx1, hb, hml, hown, hts⟩ hM1 ⟨cw, hts _ hl.2.2⟩ ⟨zpre_blind, fun U hU hW => ⟨rfl, zpre_of hP hK hX hS hU hW⟩⟩ rfl rfl hl0.1 rfl (lv_room (by rw [zcv_sum]; exact hs)) hd ⟨by have := hcs.1; omega, by have := hcs.2; omega⟩) hS (fun v st' H1 locs1 hp hP1 hS1 => ?_)
  obtain ⟨rfl, rfl⟩ := hp
  exact h ad hx p e R s m args below meth c H1 locs1 cells slots Q ls C0 hcs hP1 hS1 hl0 hQ
end ZNM
