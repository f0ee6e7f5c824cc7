/-! ===== rules: fields, arrays, constants, calls, ends ===== -/
def zn (i : Int32) : Nat := i.toNatClampNeg
abbrev zix (i : Int32) (n : Nat) : Prop := 0 ≤ i.toInt ∧ i.toInt < n
theorem zix_in {i : Int32} {n : Nat} (h : zix i n) : vp_in i n := vp_in_iff.mpr h
/-- a field that a class's code reads; that it writes -/
def zFl (own : String) (idx ci j : Nat) : Prop := ∃ q : vw_C, vwCl[ci]? = some q ∧ j < q.2.2 ∧ (∀ w ∈ u_ws q.1 q.2.1 q.2.2, w ∈ zT) ∧ Cond.fieldLink own idx (q.2.1 j).1 (q.2.1 j).2.1 (q.2.1 j).2.2.1 ∈ zT
def zFp (own : String) (idx ci j : Nat) (ty : FieldType) : Prop := ∃ (q : vw_C) (ty0 : Nat → FieldType), vwCl[ci]? = some q ∧ j < q.2.2 ∧ (∀ w ∈ u_ws q.1 q.2.1 q.2.2, w ∈ zT) ∧ Cond.fieldLink own idx (q.2.1 j).1 (q.2.1 j).2.1 (q.2.1 j).2.2.1 ∈ zT ∧
  (∀ k, k < q.2.2 → parseFieldDescriptor (q.2.1 k).2.2.1 = some (ty0 k)) ∧ (∀ a, a < q.2.2 → ∀ b, b < q.2.2 → a ≠ b → (q.2.1 a).2.1 ≠ (q.2.1 b).2.1) ∧ (q.2.1 j).2.2.2 = false ∧ parseFieldDescriptor (q.2.1 j).2.2.1 = some ty
theorem zfs_set {E : zE} {f : Nat → Int32} {fs : List (Option (Option Nat))} {j : Nat} {v : Int32} (hj : fs[j]? = some none) : (zfs E f 0 fs).set j (.int v) = zfs E (upd f j v) 0 fs := by
  apply List.ext_getElem?
  intro i
  have hk : j < (zfs E f 0 fs).length := by
    have : (zfs E f 0 fs)[j]? = some (zfv E f (0 + j) none) := by rw [zfs_get, hj]; rfl
    exact (List.getElem?_eq_some_iff.mp this).1
  by_cases hi : j = i
  · subst hi
    rw [List.getElem?_set_self hk, zfs_get, hj]
    simp [zfv, upd]
  · rw [List.getElem?_set_ne hi, zfs_get, zfs_get]
    cases hc : fs[i]? with
    | none => rfl
    | some o =>
      cases o with
      | none => simp [zfv, upd, Ne.symm hi]
      | some r => cases r <;> rfl
section ZN
variable {E : zE} {d : zD} {post : Option Value → zS → Prop} {L : List (Option Value)} {S : List Value} {Y : zY} {M : zM} {σ : Type} {res : Option σ} {κ : σ → Prop}
theorem zP_set {M' : zM} {a : Nat} {c : zC} {e : va_E} {H1 : Heap} (hY : Y[a]? = some c) (h1 : ∀ j, j ≠ a → M'.1 j = M.1 j) (h2 : ∀ j, j ≠ a → M'.2 j = M.2 j) (he : zel E M' a c = e) (hP : va_P E.2.2.2.1 vwCl ((zW E (Y, M)).set a (E.2.1 a, e)) H1) (hD : va_D E.2.2.1 ((zW E (Y, M)).set a (E.2.1 a, e))) : zP E (Y, M') H1 := by
  subst he
  rw [zW_set hY h1 h2] at hP hD
  exact ⟨hP, hD⟩
theorem zk_get (pc : Nat) {idx ci j a : Nat} {fs : List (Option (Option Nat))} {o : Option (Option Nat)} {v : Value} (hd : decode d.2.1 pc = .ok (.getfield idx, 3)) (hf : zFl d.1.cls idx ci j) (hY : Y[a]? = some (.inl (ci, fs))) (hj : fs[j]? = some o) (hv : zcv E v = zfv E (M.1 a) j o)
    (h : zK E d post (pc + 3) L (v :: S) (Y, M) res κ) : zK E d post pc L (.ref a :: S) (Y, M) res κ := by
  obtain ⟨q, h1, h2, h3, h4⟩ := hf
  refine zk_row (fun {p e R s m args below meth c H locs cells slots Q ls} C _ hP _ _ k => ?_) h
  refine va_get (C := q.1) (T := q.2.1) (N := q.2.2) (ref := (q.2.1 j).1) C.1 C.2.1 C.2.2.2.2.1 h3 C.2.2.2.1 C.2.2.2.2.2.1 hP.1 a (zW_get hY) h1 j h2 (C.2.2.2.2.1 _ h4) (fun _ h => h) (v := zcv E v) ?_ hd k
  rw [zfs_get, hj, hv]
  simp
theorem z_getI (pc : Nat) {idx ci j a : Nat} {fs : List (Option (Option Nat))} (hd : decode d.2.1 pc = .ok (.getfield idx, 3)) (hf : zFl d.1.cls idx ci j) (hY : Y[a]? = some (.inl (ci, fs))) (hj : fs[j]? = some none)
    (h : zK E d post (pc + 3) L (.int (M.1 a j) :: S) (Y, M) res κ) : zK E d post pc L (.ref a :: S) (Y, M) res κ := zk_get pc hd hf hY hj rfl h
theorem z_getR (pc : Nat) {idx ci j a r : Nat} {fs : List (Option (Option Nat))} (hd : decode d.2.1 pc = .ok (.getfield idx, 3)) (hf : zFl d.1.cls idx ci j) (hY : Y[a]? = some (.inl (ci, fs))) (hj : fs[j]? = some (some (some r)))
    (h : zK E d post (pc + 3) L (.ref r :: S) (Y, M) res κ) : zK E d post pc L (.ref a :: S) (Y, M) res κ := zk_get pc hd hf hY hj rfl h
theorem z_put (pc : Nat) {idx ci j a : Nat} {fs : List (Option (Option Nat))} {ty : FieldType} {v : Int32} (hd : decode d.2.1 pc = .ok (.putfield idx, 3)) (hf : zFp d.1.cls idx ci j ty) (hY : Y[a]? = some (.inl (ci, fs))) (hj : fs[j]? = some none) (hv : narrow ty (.int v) = .int v ∧ fits ty (.int v) = true)
    (h : zK E d post (pc + 3) L S (Y, zwI M a j v) res κ) : zK E d post pc L (.int v :: .ref a :: S) (Y, M) res κ := by
  obtain ⟨q, ty0, h1, h2, h3, h4, h5, h6, h7, h8⟩ := hf
  intro q0 p e R s m args below meth c H locs cells slots Q ls C hc hP hS hl hQ
  refine va_put (C := q.1) (T := q.2.1) (N := q.2.2) (ref := (q.2.1 j).1) C.1 C.2.1 C.2.2.2.2.1 h3 ty0 h5 h6 C.2.2.2.1 C.2.2.2.2.2.1 hP.1 hP.2 hS a (zW_get hY) h1 j h2 (C.2.2.2.2.1 _ h4) (fun _ h => h) h7 h8 hv.1 hv.2 ?_ hd (fun H1 locs1 hP1 hD1 hS1 => h q0 p e R s m args below meth c H1 locs1 cells slots Q ls C hc (zP_set (M' := zwI M a j v) hY (fun i hi => zup_n _ _ hi) (fun _ _ => rfl) ?_ hP1 hD1) hS1 hl hQ)
  · have : (zfs E (M.1 a) 0 fs)[j]? = some (zfv E (M.1 a) (0 + j) none) := by rw [zfs_get, hj]; rfl
    exact (List.getElem?_eq_some_iff.mp this).1
  · show Sum.inr (ci, zfs E ((zwI M a j v).1 a) 0 fs) = Sum.inr (ci, (zfs E (M.1 a) 0 fs).set j (.int v))
    rw [zfs_set hj]
    simp [zwI, zup_s]
theorem zput_i (v : Int32) : narrow .int (.int v) = .int v ∧ fits .int (.int v) = true := ⟨rfl, rfl⟩
theorem zput_b (b : Bool) : narrow .boolean (.int (zb b)) = .int (zb b) ∧ fits .boolean (.int (zb b)) = true := by cases b <;> exact ⟨by decide, by decide⟩
/-! arrays -/
theorem z_iaload (pc : Nat) {a n : Nat} {i : Int32} {rs : List (Option Nat)} (hd : decode d.2.1 pc = .ok (.iaload, 1)) (hY : Y[a]? = some (.inr (0, n, rs)))
    (h : zK E d post (pc + 1) L (.int (M.1 a (zn i)) :: S) (Y, M) res κ) : zK E d post pc L (.int i :: .ref a :: S) (Y, M) (grd (zix i n) res) κ :=
  zk_grd fun hi => zk_row (fun C _ hP _ _ k => va_iald C.1 C.2.1 C.2.2.2.2.2.1 hP.1 a 0 (zW_get hY) rfl (zix_in hi) hd k) h
theorem z_laload (pc : Nat) {a n : Nat} {i : Int32} {rs : List (Option Nat)} (hd : decode d.2.1 pc = .ok (.laload, 1)) (hY : Y[a]? = some (.inr (1, n, rs)))
    (h : zK E d post (pc + 1) L (.long (M.2 a (zn i)) :: S) (Y, M) res κ) : zK E d post pc L (.int i :: .ref a :: S) (Y, M) (grd (zix i n) res) κ :=
  zk_grd fun hi => zk_row (fun C _ hP _ _ k => va_lald C.1 C.2.1 C.2.2.2.2.2.1 hP.1 a 1 (zW_get hY) rfl (zix_in hi) hd k) h
theorem z_baload (pc : Nat) {a n : Nat} {i : Int32} {rs : List (Option Nat)} (hd : decode d.2.1 pc = .ok (.baload, 1)) (hY : Y[a]? = some (.inr (2, n, rs)))
    (h : zK E d post (pc + 1) L (.int (M.1 a (zn i)) :: S) (Y, M) res κ) : zK E d post pc L (.int i :: .ref a :: S) (Y, M) (grd (zix i n) res) κ :=
  zk_grd fun hi => zk_row (fun C _ hP _ _ k => va_bald C.1 C.2.1 C.2.2.2.2.2.1 hP.1 a 2 (zW_get hY) rfl (zix_in hi) hd k) h
theorem z_zaload (pc : Nat) {a n : Nat} {i : Int32} {rs : List (Option Nat)} (hd : decode d.2.1 pc = .ok (.baload, 1)) (hY : Y[a]? = some (.inr (3, n, rs)))
    (h : zK E d post (pc + 1) L (.int (M.1 a (zn i)) :: S) (Y, M) res κ) : zK E d post pc L (.int i :: .ref a :: S) (Y, M) (grd (zix i n) res) κ :=
  zk_grd fun hi => zk_row (fun C _ hP _ _ k => va_zald C.1 C.2.1 C.2.2.2.2.2.1 hP.1 a 3 (zW_get hY) rfl (zix_in hi) hd k) h
/-- an array of references, none of them null -/
theorem z_aaload (pc : Nat) {a n t : Nat} {C : String} {i : Int32} {rs : List (Option Nat)} {r : Nat → Nat} (hd : decode d.2.1 pc = .ok (.aaload, 1)) (ht : 4 ≤ t) (htt : (zty E)[t]? = some (E.2.2.2.2.1 t, .object C)) (hY : Y[a]? = some (.inr (t, n, rs))) (hr : ∀ j, j < n → rs.getD j none = some (r j))
    (h : zK E d post (pc + 1) L (.ref (r (zn i)) :: S) (Y, M) res κ) : zK E d post pc L (.int i :: .ref a :: S) (Y, M) (grd (zix i n) res) κ :=
  zk_grd fun hi => zk_row (fun C0 _ hP _ _ k => by
    have hz : zac E M a t rs = .inr (.inr (.inr (.inr (fun j => (rs.getD j none).map E.2.1)))) := by
      unfold zac
      rw [if_neg (by omega), if_pos ht]
    have hg : (zW E (Y, M))[a]? = some (E.2.1 a, .inl (E.2.2.2.2.1 t, n, .inr (.inr (.inr (.inr (fun j => (rs.getD j none).map E.2.1)))))) := by
      rw [zW_get hY, ← hz]
      rfl
    refine va_aldq C0.1 C0.2.1 C0.2.2.2.2.2.1 hP.1 a t hg htt (zix_in hi) hd ?_
    have hlt : i.toNatClampNeg < n := Nat.not_le.mp fun q => (zix_in hi) (Or.inr q)
    rw [hr _ hlt]
    exact k) h
theorem zel_I {a i n t : Nat} {x : Int32} {rs : List (Option Nat)} (h1 : ¬ t = 1) (h2 : ¬ 4 ≤ t) : zel E (zwI M a i x) a (.inr (t, n, rs)) = .inl (E.2.2.2.2.1 t, n, .inl (upd (M.1 a) i x)) := by
  simp [zel, zac, zwI, zup_s, h1, h2]
theorem zel_A {a n t : Nat} {g : Nat → Int32} {rs : List (Option Nat)} (h1 : ¬ t = 1) (h2 : ¬ 4 ≤ t) : zel E (zwA M a g) a (.inr (t, n, rs)) = .inl (E.2.2.2.2.1 t, n, .inl g) := by
  simp [zel, zac, zwA, zup_s, h1, h2]
theorem zel_L {a i n : Nat} {x : Int64} {rs : List (Option Nat)} : zel E (zwL M a i x) a (.inr (1, n, rs)) = .inl (E.2.2.2.2.1 1, n, .inr (.inl (vp_updL (M.2 a) i x))) := by
  simp [zel, zac, zwL, zup_s]
theorem z_iastore (pc : Nat) {a n : Nat} {i v : Int32} {rs : List (Option Nat)} (hd : decode d.2.1 pc = .ok (.iastore, 1)) (hY : Y[a]? = some (.inr (0, n, rs)))
    (h : zK E d post (pc + 1) L S (Y, zwI M a (zn i) v) res κ) : zK E d post pc L (.int v :: .int i :: .ref a :: S) (Y, M) (grd (zix i n) res) κ :=
  zk_grd fun hi q0 p e R s m args below meth c H locs cells slots Q ls C hc hP hS hl hQ => va_iast C.1 C.2.1 C.2.2.2.2.2.1 hP.1 hP.2 hS a 0 (zW_get hY) rfl (zix_in hi) hd (fun H1 locs1 hP1 hD1 hS1 => h q0 p e R s m args below meth c H1 locs1 cells slots Q ls C hc (zP_set (M' := zwI M a (zn i) v) hY (fun _ hj => zup_n _ _ hj) (fun _ _ => rfl) (zel_I (by decide) (by decide)) hP1 hD1) hS1 hl hQ)
theorem z_bastore (pc : Nat) {a n : Nat} {i v : Int32} {rs : List (Option Nat)} (hd : decode d.2.1 pc = .ok (.bastore, 1)) (hY : Y[a]? = some (.inr (2, n, rs)))
    (h : zK E d post (pc + 1) L S (Y, zwI M a (zn i) (vp_nar .byte v)) res κ) : zK E d post pc L (.int v :: .int i :: .ref a :: S) (Y, M) (grd (zix i n) res) κ :=
  zk_grd fun hi q0 p e R s m args below meth c H locs cells slots Q ls C hc hP hS hl hQ => va_bast C.1 C.2.1 C.2.2.2.2.2.1 hP.1 hP.2 hS a 2 (zW_get hY) rfl (zix_in hi) hd (fun H1 locs1 hP1 hD1 hS1 => h q0 p e R s m args below meth c H1 locs1 cells slots Q ls C hc (zP_set (M' := zwI M a (zn i) (vp_nar .byte v)) hY (fun _ hj => zup_n _ _ hj) (fun _ _ => rfl) (zel_I (by decide) (by decide)) hP1 hD1) hS1 hl hQ)
theorem znar_b (b : Bool) : vp_nar .boolean (zb b) = zb b := by cases b <;> decide
theorem z_zastore (pc : Nat) {a n : Nat} {i : Int32} {b : Bool} {rs : List (Option Nat)} (hd : decode d.2.1 pc = .ok (.bastore, 1)) (hY : Y[a]? = some (.inr (3, n, rs)))
    (h : zK E d post (pc + 1) L S (Y, zwI M a (zn i) (zb b)) res κ) : zK E d post pc L (.int (zb b) :: .int i :: .ref a :: S) (Y, M) (grd (zix i n) res) κ :=
  zk_grd fun hi q0 p e R s m args below meth c H locs cells slots Q ls C hc hP hS hl hQ => va_zast C.1 C.2.1 C.2.2.2.2.2.1 hP.1 hP.2 hS a 3 (zW_get hY) rfl (zix_in hi) hd (fun H1 locs1 hP1 hD1 hS1 => h q0 p e R s m args below meth c H1 locs1 cells slots Q ls C hc (zP_set (M' := zwI M a (zn i) (zb b)) hY (fun _ hj => zup_n _ _ hj) (fun _ _ => rfl) (by rw [znar_b]; exact zel_I (by decide) (by decide)) hP1 hD1) hS1 hl hQ)
theorem z_lastore (pc : Nat) {a n : Nat} {i : Int32} {v : Int64} {rs : List (Option Nat)} (hd : decode d.2.1 pc = .ok (.lastore, 1)) (hY : Y[a]? = some (.inr (1, n, rs)))
    (h : zK E d post (pc + 1) L S (Y, zwL M a (zn i) v) res κ) : zK E d post pc L (.long v :: .int i :: .ref a :: S) (Y, M) (grd (zix i n) res) κ :=
  zk_grd fun hi q0 p e R s m args below meth c H locs cells slots Q ls C hc hP hS hl hQ => va_last C.1 C.2.1 C.2.2.2.2.2.1 hP.1 hP.2 hS a 1 (zW_get hY) rfl (zix_in hi) hd (fun H1 locs1 hP1 hD1 hS1 => h q0 p e R s m args below meth c H1 locs1 cells slots Q ls C hc (zP_set (M := M) (M' := zwL M a (zn i) v) hY (fun _ _ => rfl) (fun _ hj => zup_n _ _ hj) zel_L hP1 hD1) hS1 hl hQ)
theorem z_alen (pc : Nat) {a n t : Nat} {rs : List (Option Nat)} (hd : decode d.2.1 pc = .ok (.arraylength, 1)) (hY : Y[a]? = some (.inr (t, n, rs))) (ht : t < 6)
    (h : zK E d post (pc + 1) L (.int (Int32.ofNat n) :: S) (Y, M) res κ) : zK E d post pc L (.ref a :: S) (Y, M) res κ := by
  have htt : ∃ ty, (zty E)[t]? = some (E.2.2.2.2.1 t, ty) := by
    rcases (show t = 0 ∨ t = 1 ∨ t = 2 ∨ t = 3 ∨ t = 4 ∨ t = 5 by omega) with rfl | rfl | rfl | rfl | rfl | rfl <;> exact ⟨_, rfl⟩
  obtain ⟨ty, htt⟩ := htt
  exact zk_row (fun C _ hP _ _ k => va_alen C.1 C.2.1 C.2.2.2.2.2.1 hP.1 a t (zW_get hY) htt rfl hd k) h
abbrev zcp (sp dp n : Int32) (n0 n1 : Nat) : Prop := 0 ≤ sp.toInt ∧ 0 ≤ dp.toInt ∧ 0 ≤ n.toInt ∧ zn sp + zn n ≤ n0 ∧ zn dp + zn n ≤ n1
theorem znn {x : Int32} (h : 0 ≤ x.toInt) : ¬ x < 0 := by
  rw [Int32.lt_iff_toInt_lt]
  simpa using h
theorem z_copyi (pc : Nat) {idx a b n0 n1 : Nat} {sp dp n : Int32} {r0 r1 : List (Option Nat)} (hd : decode d.2.1 pc = .ok (.invokestatic idx, 3)) (hl : Cond.methodLink d.1.cls idx arraycopyName ∈ zT) (hnat : Cond.native arraycopyName ∈ zT) (hsta : Cond.static arraycopyName ∈ zT) (hini : Cond.initialized "java/lang/System" ∈ zT)
    (hY0 : Y[a]? = some (.inr (0, n0, r0))) (hY1 : Y[b]? = some (.inr (0, n1, r1))) (hr : 1 ≤ d.2.2.2.2.1 ∧ (S.map fun v => v.category).sum + 18 ≤ d.2.2.2.2.2)
    (h : zK E d post (pc + 3) L S (Y, zwA M b (va_cpy (M.1 a) (M.1 b) (zn sp) (zn dp) (zn n))) res κ) : zK E d post pc L (.int n :: .int dp :: .ref b :: .int sp :: .ref a :: S) (Y, M) (grd (zcp sp dp n n0 n1) res) κ :=
  zk_grd fun hi q0 p e R s m args below meth c H locs cells slots Q ls C hc hP hS hl0 hQ => by
    have hts := C.2.2.2.2.1
    refine va_copyi C.1 C.2.1 (C.2.2.1.trans hl0.1.symm) C.2.2.2.1 (hts _ hl) (hts _ hnat) (hts _ hsta) (hts _ hini) C.2.2.2.2.2.1 hP.1 hP.2 hS a b 0 0 (ty := .int) (zW_get hY0) (zW_get hY1) rfl rfl rfl (znn hi.1) (znn hi.2.1) (znn hi.2.2.1) hi.2.2.2.1 hi.2.2.2.2 (fun _ _ => rfl) (Nat.le_trans hr.1 C.2.2.2.2.2.2.2.1) ?_ hd
      (fun H1 locs1 hP1 hD1 hS1 => h q0 p e R s m args below meth c H1 locs1 cells slots Q ls C hc (zP_set (M' := zwA M b (va_cpy (M.1 a) (M.1 b) (zn sp) (zn dp) (zn n))) hY1 (fun _ hj => zup_n _ _ hj) (fun _ _ => rfl) (zel_A (by decide) (by decide)) hP1 hD1) hS1 hl0 hQ)
    rw [zcv_sum]
    exact Nat.le_trans hr.2 C.2.2.2.2.2.2.2.2
/-! constants -/
theorem z_ldc (pc : Nat) {idx : Nat} {v : Int32} (hd : decode d.2.1 pc = .ok (.ldc idx, 2)) (hw : Cond.constant d.1.cls idx v ∈ zT) (h : zK E d post (pc + 2) L (.int v :: S) (Y, M) res κ) : zK E d post pc L S (Y, M) res κ :=
  zk_row (fun C _ _ _ _ k => lv_ldc C.1 C.2.1 C.2.2.2.1 (C.2.2.2.2.1 _ hw) hd k) h
theorem z_ldcw (pc : Nat) {idx : Nat} {v : Int32} (hd : decode d.2.1 pc = .ok (.ldc_w idx, 3)) (hw : Cond.constant d.1.cls idx v ∈ zT) (h : zK E d post (pc + 3) L (.int v :: S) (Y, M) res κ) : zK E d post pc L S (Y, M) res κ :=
  zk_row (fun C _ _ _ _ k => lv_ldcw C.1 C.2.1 C.2.2.2.1 (C.2.2.2.2.1 _ hw) hd k) h
theorem z_ldc2 (pc : Nat) {idx : Nat} {v : Int64} (hd : decode d.2.1 pc = .ok (.ldc2_w idx, 3)) (hw : Cond.constantLong d.1.cls idx v ∈ zT) (h : zK E d post (pc + 3) L (.long v :: S) (Y, M) res κ) : zK E d post pc L S (Y, M) res κ :=
  zk_row (fun C _ _ _ _ k => lv_ldc2 C.1 C.2.1 C.2.2.2.1 (C.2.2.2.2.1 _ hw) hd k) h
/-! the JDK's small functions -/
theorem z_mmax (pc : Nat) {idx : Nat} {x y : Int32} (hd : decode d.2.1 pc = .ok (.invokestatic idx, 3)) (hl : Cond.methodLink d.1.cls idx Lib.Math.max.name ∈ zT) (h1 : Cond.static Lib.Math.max.name ∈ zT) (h2 : Cond.initialized "java/lang/Math" ∈ zT) (h3 : Cond.code Lib.Math.max.name Lib.Math.max.code 2 (some .int) ∈ zT) (hr : 1 ≤ d.2.2.2.2.1 ∧ (S.map fun v => v.category).sum + 15 ≤ d.2.2.2.2.2)
    (h : zK E d post (pc + 3) L (.int (zmx x y) :: S) (Y, M) res κ) : zK E d post pc L (.int y :: .int x :: S) (Y, M) res κ :=
  zk_row (fun C hc _ _ hl0 k => va_mmax C.1 C.2.1 (C.2.2.1.trans hl0.1.symm) C.2.2.2.1 (C.2.2.2.2.1 _ hl) (C.2.2.2.2.1 _ h1) (C.2.2.2.2.1 _ h2) (C.2.2.2.2.1 _ h3) (Nat.le_trans hr.1 C.2.2.2.2.2.2.2.1) (by rw [zcv_sum]; have := C.2.2.2.2.2.2.2.2; omega) hc.1 hc.2 hd k) h
theorem z_mmin (pc : Nat) {idx : Nat} {x y : Int32} (hd : decode d.2.1 pc = .ok (.invokestatic idx, 3)) (hl : Cond.methodLink d.1.cls idx Lib.Math.min.name ∈ zT) (h1 : Cond.static Lib.Math.min.name ∈ zT) (h2 : Cond.initialized "java/lang/Math" ∈ zT) (h3 : Cond.code Lib.Math.min.name Lib.Math.min.code 2 (some .int) ∈ zT) (hr : 1 ≤ d.2.2.2.2.1 ∧ (S.map fun v => v.category).sum + 15 ≤ d.2.2.2.2.2)
    (h : zK E d post (pc + 3) L (.int (zmn x y) :: S) (Y, M) res κ) : zK E d post pc L (.int y :: .int x :: S) (Y, M) res κ :=
  zk_row (fun C hc _ _ hl0 k => va_mmin C.1 C.2.1 (C.2.2.1.trans hl0.1.symm) C.2.2.2.1 (C.2.2.2.2.1 _ hl) (C.2.2.2.2.1 _ h1) (C.2.2.2.2.1 _ h2) (C.2.2.2.2.1 _ h3) (Nat.le_trans hr.1 C.2.2.2.2.2.2.2.1) (by rw [zcv_sum]; have := C.2.2.2.2.2.2.2.2; omega) hc.1 hc.2 hd k) h
theorem z_mabs (pc : Nat) {idx : Nat} {x : Int32} (hd : decode d.2.1 pc = .ok (.invokestatic idx, 3)) (hl : Cond.methodLink d.1.cls idx Lib.Math.abs.name ∈ zT) (h1 : Cond.static Lib.Math.abs.name ∈ zT) (h2 : Cond.initialized "java/lang/Math" ∈ zT) (h3 : Cond.code Lib.Math.abs.name Lib.Math.abs.code 1 (some .int) ∈ zT) (hr : 1 ≤ d.2.2.2.2.1 ∧ (S.map fun v => v.category).sum + 15 ≤ d.2.2.2.2.2)
    (h : zK E d post (pc + 3) L (.int (zab x) :: S) (Y, M) res κ) : zK E d post pc L (.int x :: S) (Y, M) res κ :=
  zk_row (fun C hc _ _ hl0 k => va_mabs C.1 C.2.1 (C.2.2.1.trans hl0.1.symm) C.2.2.2.1 (C.2.2.2.2.1 _ hl) (C.2.2.2.2.1 _ h1) (C.2.2.2.2.1 _ h2) (C.2.2.2.2.1 _ h3) (Nat.le_trans hr.1 C.2.2.2.2.2.2.2.1) (by rw [zcv_sum]; have := C.2.2.2.2.2.2.2.2; omega) hc.1 hc.2 hd k) h
theorem z_mminl (pc : Nat) {idx : Nat} {x y : Int64} (hd : decode d.2.1 pc = .ok (.invokestatic idx, 3)) (hl : Cond.methodLink d.1.cls idx Lib.MathLoose.min_long.x ∈ zT) (h1 : Cond.static Lib.MathLoose.min_long.x ∈ zT) (h2 : Cond.initialized "java/lang/Math" ∈ zT) (h3 : Cond.code Lib.MathLoose.min_long.x Lib.MathLoose.min_long.code 4 (some .long) ∈ zT) (hr : 1 ≤ d.2.2.2.2.1 ∧ (S.map fun v => v.category).sum + 15 ≤ d.2.2.2.2.2)
    (h : zK E d post (pc + 3) L (.long (zmnl x y) :: S) (Y, M) res κ) : zK E d post pc L (.long y :: .long x :: S) (Y, M) res κ :=
  zk_row (fun C hc _ _ hl0 k => va_mmin_long C.1 C.2.1 (C.2.2.1.trans hl0.1.symm) C.2.2.2.1 (C.2.2.2.2.1 _ hl) (C.2.2.2.2.1 _ h1) (C.2.2.2.2.1 _ h2) (C.2.2.2.2.1 _ h3) (Nat.le_trans hr.1 C.2.2.2.2.2.2.2.1) (by rw [zcv_sum]; have := C.2.2.2.2.2.2.2.2; omega) hc.1 hc.2 hd k) h
/-! ends -/
theorem z_ireturn (pc : Nat) {v : Int32} {ty : FieldType} {x : σ} {st : zS} (hd : decode d.2.1 pc = .ok (.ireturn, 1)) (hr : d.2.2.2.1 = some ty) (hn : narrow ty (.int v) = .int v) (hx : κ x → post (some (.int v)) st) : zK E d post pc L [.int v] st (some x) κ := by
  rintro ⟨y, h1, h2⟩ p e R s m args below meth c H locs cells slots Q ls C hc hP hS hl hQ
  cases h1
  exact hQ (some (.int v)) st H locs pc ls (hx h2) hP hS ⟨hd, ty, hr, hn⟩
theorem z_lreturn (pc : Nat) {v : Int64} {x : σ} {st : zS} (hd : decode d.2.1 pc = .ok (.lreturn, 1)) (hr : d.2.2.2.1 = some .long) (hx : κ x → post (some (.long v)) st) : zK E d post pc L [.long v] st (some x) κ := by
  rintro ⟨y, h1, h2⟩ p e R s m args below meth c H locs cells slots Q ls C hc hP hS hl hQ
  cases h1
  exact hQ (some (.long v)) st H locs pc ls (hx h2) hP hS ⟨hd, hr⟩
theorem z_areturn (pc : Nat) {v : Nat} {n : String} {x : σ} {st : zS} (hd : decode d.2.1 pc = .ok (.areturn, 1)) (hr : d.2.2.2.1 = some (.object n)) (hx : κ x → post (some (.ref v)) st) : zK E d post pc L [.ref v] st (some x) κ := by
  rintro ⟨y, h1, h2⟩ p e R s m args below meth c H locs cells slots Q ls C hc hP hS hl hQ
  cases h1
  exact hQ (some (.ref v)) st H locs pc ls (hx h2) hP hS ⟨hd, n, hr⟩
theorem z_return (pc : Nat) {x : σ} {st : zS} (hd : decode d.2.1 pc = .ok (.return_, 1)) (hr : d.2.2.2.1 = none) (hx : κ x → post none st) : zK E d post pc L [] st (some x) κ := by
  rintro ⟨y, h1, h2⟩ p e R s m args below meth c H locs cells slots Q ls C hc hP hS hl hQ
  cases h1
  exact hQ none st H locs pc ls (hx h2) hP hS ⟨hd, hr⟩
/-- a method's contract out of its walk -/
theorem zMt_of {As : List Value} {st : zS} (hpl : plainName d.1.cls = true) (hlen : (lg_sl (As.map (zcv E))).length ≤ d.2.2.1) (hL : zla E 0 L = lv_args 0 (As.map (zcv E))) (h : zG E d post 0 L [] st) : zMt E d As st post := by
  refine Met.ofW (cc := d.2.1) (maxL := d.2.2.1) (ret := d.2.2.2.1) hpl rfl ?_
  intro p e s m args below meth c s₁ B hml hv
  obtain ⟨rfl, hP, hK, hX⟩ := hv
  have hts := atoms_spec (ws := zwd d) B.pre
  have hown : s.vm.findClass d.1.cls = some m.cls := findClass_of_methodNamed B.named
  have hlocks := B.notSynchronized
  have hx := B.exec
  have hb := B.bytes
  have hr := B.returns
  have hl := lv_entry (As.map (zcv E)) (n := d.2.2.1) hlen
  rw [lg_entry_eq]
  generalize (lg_sl (As.map (zcv E)) ++ List.replicate (d.2.2.1 - (lg_sl (As.map (zcv E))).length) Slot.unset).toArray = ls at hl ⊢
  rw [← hL] at hl
  refine h p e _ s m _ below meth c s.heap [] 0 0 _ ls ⟨hx, hb, hml, hown, fun w hw => hts w (List.mem_cons_of_mem _ hw), hK, hX, Nat.le_refl _, Nat.le_refl _⟩ ⟨Nat.zero_le _, Nat.zero_le _⟩ hP va_S.rf hl ?_
  intro v st' H' locs' pc' ls' hp hP' hS' hret
  have hq : ∀ t : State, t.heap = H' → s.WarmedH t.vm → zQc E post (As.map (zcv E)).toArray s (.returned (v.map (zcv E))) t := fun t ht _ => ⟨v, st', rfl, hp, by rw [ht]; exact hP', hS'.F ht⟩
  cases v with
  | none => exact W.vret hx hb (hr.trans hret.2) hq hS'.2.2 hret.1
  | some w =>
    cases w with
    | int x =>
      obtain ⟨h1, ty, h2, h3⟩ := hret
      exact W.zret hx hb (hr.trans h2) h3 hq hS'.2.2 h1
    | long x => exact W.lret hx hb (hr.trans hret.2) hq hS'.2.2 hret.1
    | ref a =>
      obtain ⟨h1, n, h2⟩ := hret
      exact W.aret hx hb (hr.trans h2) (Or.inl ⟨n, rfl⟩) (Or.inr ⟨_, rfl⟩) hq hS'.2.2 h1
    | float x => exact absurd hret id
    | double x => exact absurd hret id
    | null => exact absurd hret id
    | retAddr x => exact absurd hret id
theorem zF_of {As : List Value} {α : Type} {r : Option α} {enc : α → Option Value × zS} (hpl : plainName d.1.cls = true) (hlen : (lg_sl (As.map (zcv E))).length ≤ d.2.2.1) (hL : zla E 0 L = lv_args 0 (As.map (zcv E))) (h : ∀ post, zK E d post 0 L [] (Y, M) r (fun x => post (enc x).1 (enc x).2)) : zF E d As (Y, M) r enc :=
  fun post q => zMt_of hpl hlen hL (h post q)
end ZN
