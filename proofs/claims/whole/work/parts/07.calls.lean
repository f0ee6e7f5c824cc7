/-! ===== rules: calls ===== -/
def zLk (d' : zD) (n : Nat) : Prop := Cond.initialized d'.1.cls ∈ zT ∧ Cond.code d'.1 d'.2.1 d'.2.2.1 d'.2.2.2.1 ∈ zT ∧ d'.1.cls ≠ "java/lang/invoke/MethodHandle" ∧ d'.1.cls ≠ "java/lang/invoke/VarHandle" ∧ (parseMethodDescriptor d'.1.desc).map (fun x => x.parameters.length) = some n
def zLv (own : String) (idx : Nat) (d' : zD) (n : Nat) : Prop := zLk d' n ∧ Cond.methodLink own idx d'.1 ∈ zT ∧ Cond.instanceMethod d'.1 ∈ zT ∧ Cond.selects d'.1.cls d'.1 d'.1 ∈ zT
def zLs (own : String) (idx : Nat) (d' : zD) (n : Nat) : Prop := zLk d' n ∧ Cond.methodLink own idx d'.1 ∈ zT ∧ Cond.static d'.1 ∈ zT
def zLn (own : String) (idx : Nat) (d' : zD) (n : Nat) : Prop := zLk d' n ∧ (own, idx, d'.1) ∈ zNs ∧ Cond.static d'.1 ∈ zT
def zRm (d d' : zD) : Prop := d'.2.2.2.2.1 + 1 ≤ d.2.2.2.2.1 ∧ 8 + (d'.2.2.1 + 11) + d'.2.2.2.2.2 ≤ d.2.2.2.2.2
theorem zwd_good {d' : zD} {n : Nat} (h : zLk d' n) : GoodIn zT (zwd d') := fun w hw => (List.mem_cons.mp hw).elim (fun e => by rw [e]; exact ⟨h.2.1, zT_good _ h.2.1⟩) (fun h => ⟨h, zT_good _ h⟩)
/-- a call: from here the callee runs, and behind it stands the rest -/
def zAt (E : zE) (d : zD) (pc : Nat) (S0 : List Value) (L : List (Option Value)) (S : List Value) (st : zS) (d' : zD) (As : List Value) : Prop :=
  ∀ post post' : Option Value → zS → Prop, zMt E d' As st post' → (∀ (v : Option Value) (st' : zS), post' v st' → zG E d post (pc + 3) L (v.toList ++ S) st') → zG E d post pc L S0 st
theorem zcall {E : zE} {p : Program} {e : Env} {R : Room} {s : State} {m : MethodId} {args : Array Value} {below : List Frame} {meth : Method} {c : Code} {H : Heap} {locs : List Loc} {cells slots : Nat} {Q : State → Prop} {pc : Nat} {ls : Array Slot} {st0 rest : List Value} {post' : Option Value → zS → Prop} {a : Array Value}
    (hr : va_Run p E.1 e R s m args below meth c H locs cells slots 0 0 (F0 m pc ls st0) rest (zQc E post' a) E.2.2.1) (hS : va_S E.2.2.1 s.heap H locs)
    (kk : ∀ (v : Option Value) (st' : zS) (H1 : Heap) (locs1 : List Loc), post' v st' → zP E st' H1 → va_S E.2.2.1 s.heap H1 locs1 → W p E.1 e R s m args below meth c H1 locs1 cells slots Q (F0 m (pc + 3) ls ((v.map (zcv E)).toList ++ rest))) : W p E.1 e R s m args below meth c H locs cells slots Q (F0 m pc ls st0) := by
  intro T hT X
  obtain ⟨v, st₀, t, T', L, h0, X', hL, e1, e2, ⟨v', st', hv, hp, hP, hz, hk⟩, st⟩ := hr T hT X
  cases hv
  rw [h0] at hz hk
  obtain ⟨t2, a1, b1⟩ := kk v' st' T'.heap (locs ++ L) hp (by rw [e1]; exact hP)
    ⟨Nat.le_trans hS.1 (by rw [e1]; exact hz), fun q h1 h2 => by rw [e1, hk q (Nat.lt_of_lt_of_le h1 hS.1) h2]; exact hS.2.1 q h1 h2, fun q hq => by
      rcases List.mem_append.mp hq with h | h
      · exact hS.2.2 q h
      · exact hL q h⟩ T' rfl X'
  exact ⟨t2, st t2 a1, b1⟩
theorem zpre_blind {E : zE} {av : List Value} {st : zS} : FrameBlind (va_Pc av (zPre E st)) := fun a U g mk ⟨h1, h2, h3, h4⟩ => ⟨h1, h2, va_K.moved (u := U) (U := U.calling g mk a) (Vm.Alike.refl U.vm) h3, zX.same (s := U) (U := U.calling g mk a) h4 rfl⟩
theorem zpre_of {E : zE} {st : zS} {s U : State} {H : Heap} {locs : List Loc} (hP : zP E st H) (hK : va_K E.2.2.2.1 vwCl (zty E) s) (hX : zX E s s.heap) (hS : va_S E.2.2.1 s.heap H locs) (hU : U.heap = H) (hW : s.WarmedH U.vm) : zPre E st U := ⟨by rw [hU]; exact hP, va_K.moved hW.alike hK, by rw [hU]; exact hX.to hW hS⟩
section ZC
variable {E : zE} {d : zD} {post : Option Value → zS → Prop} {L : List (Option Value)} {S : List Value} {Y : zY} {M : zM} {σ : Type} {res : Option σ} {κ : σ → Prop} {d' : zD}
theorem zat_V (pc : Nat) {idx n a ci : Nat} {fs : List (Option (Option Nat))} {q : vw_C} {As : List Value} (hd : decode d.2.1 pc = .ok (.invokevirtual idx, 3)) (hl : zLv d.1.cls idx d' n) (hn : As.length = n) (hY : Y[a]? = some (.inl (ci, fs))) (hc : vwCl[ci]? = some q) (hq : q.1 = d'.1.cls) (hr : zRm d d') (hs : (S.map fun v => v.category).sum ≤ 8) : zAt E d pc (As.reverse ++ .ref a :: S) L S (Y, M) d' (.ref a :: As) := by
  intro post post' hM hk p e R s m args below meth c H locs cells slots Q ls C hcs hP hS hl0 hQ
  obtain ⟨hx, hb, hml, hown, hts, hK, hX, hf, hlo⟩ := id C
  have cw : CallW R s args d.1.cls d'.1.cls idx d'.1 d'.2.1 d'.2.2.1 d'.2.2.2.1 (zwd d') (zrm d') 0 0 n := ⟨callB_of n hts (zwd_good hl.1) rfl rfl rfl (hts _ hl.1.1) (hts _ hl.2.1) hl.1.2.2 ⟨Nat.le_trans hr.1 hf, Nat.le_trans hr.2 hlo⟩, hts _ hl.2.2.1, hts _ hl.2.2.2⟩
  have hrec := va_recv (q0 := a) hK hP.1 hc (zW_get hY)
  rw [hq] at hrec
  have hst : (As.reverse ++ .ref a :: S).map (zcv E) = (As.map (zcv E)).reverse ++ .ref (E.2.1 a) :: S.map (zcv E) := by simp [zcv]
  rw [hst]
  refine zcall (va_runV (As := As.map (zcv E)) (rest := S.map (zcv E)) (b := E.2.1 a) ⟨hx, hb, hml, hown, hts⟩ hM cw ⟨zpre_blind, hrec, fun U hU hW => ⟨rfl, zpre_of hP hK hX hS hU hW⟩⟩ rfl (by simpa using hn) hl0.1 rfl (lv_room (by rw [zcv_sum]; exact hs)) hd hcs) hS (fun v st' H1 locs1 hp hP1 hS1 => ?_)
  have h1 := hk v st' hp p e R s m args below meth c H1 locs1 cells slots Q ls C hcs hP1 hS1 hl0 hQ
  have h2 : (v.toList ++ S).map (zcv E) = (v.map (zcv E)).toList ++ S.map (zcv E) := by cases v <;> simp
  rw [h2] at h1
  exact h1
theorem zat_S (pc : Nat) {idx n : Nat} {As : List Value} (hd : decode d.2.1 pc = .ok (.invokestatic idx, 3)) (hl : zLs d.1.cls idx d' n) (hn : As.length = n) (hr : zRm d d') (hs : (S.map fun v => v.category).sum ≤ 8) : zAt E d pc (As.reverse ++ S) L S (Y, M) d' As := by
  intro post post' hM hk p e R s m args below meth c H locs cells slots Q ls C hcs hP hS hl0 hQ
  obtain ⟨hx, hb, hml, hown, hts, hK, hX, hf, hlo⟩ := id C
  have cw : CallB R s args d.1.cls idx d'.1 d'.2.1 d'.2.2.1 d'.2.2.2.1 (zwd d') (zrm d') 0 0 n := callB_of n hts (zwd_good hl.1) rfl rfl rfl (hts _ hl.1.1) (hts _ hl.2.1) hl.1.2.2 ⟨Nat.le_trans hr.1 hf, Nat.le_trans hr.2 hlo⟩
  have hst : (As.reverse ++ S).map (zcv E) = (As.map (zcv E)).reverse ++ S.map (zcv E) := by simp
  rw [hst]
  refine zcall (va_runS (As := As.map (zcv E)) (rest := S.map (zcv E)) ⟨hx, hb, hml, hown, hts⟩ hM ⟨cw, hts _ hl.2.2⟩ ⟨zpre_blind, fun U hU hW => ⟨rfl, zpre_of hP hK hX hS hU hW⟩⟩ rfl (by simpa using hn) hl0.1 rfl (lv_room (by rw [zcv_sum]; exact hs)) hd hcs) hS (fun v st' H1 locs1 hp hP1 hS1 => ?_)
  have h1 := hk v st' hp p e R s m args below meth c H1 locs1 cells slots Q ls C hcs hP1 hS1 hl0 hQ
  have h2 : (v.toList ++ S).map (zcv E) = (v.map (zcv E)).toList ++ S.map (zcv E) := by cases v <;> simp
  rw [h2] at h1
  exact h1
theorem zat_N (pc : Nat) {idx n : Nat} {As : List Value} (hd : decode d.2.1 pc = .ok (.invokestatic idx, 3)) (hl : zLn d.1.cls idx d' n) (hn : As.length = n) (hr : zRm d d') (hs : (S.map fun v => v.category).sum ≤ 8) : zAt E d pc (As.reverse ++ S) L S (Y, M) d' As := by
  intro post post' hM hk p e R s m args below meth c H locs cells slots Q ls C hcs hP hS hl0 hQ
  obtain ⟨hx, hb, hml, hown, hts, hK, hX, hf, hlo⟩ := id C
  obtain ⟨hl1, hl2, hl3⟩ := hl
  have hnw : va_Nw (.methodLinkNest d.1.cls idx d'.1 "HalfNumber") s := hX.2.2.2.2 _ hl2
  have cw : va_CN R s args d.1.cls idx d'.1 "HalfNumber" d'.2.1 d'.2.2.1 d'.2.2.2.1 (zwd d') (zrm d') 0 0 n := va_cnB n hts (zwd_good hl1) rfl rfl rfl hnw (hts _ hl1.1) hl1.2.2 ⟨Nat.le_trans hr.1 hf, Nat.le_trans hr.2 hlo⟩
  have hst : (As.reverse ++ S).map (zcv E) = (As.map (zcv E)).reverse ++ S.map (zcv E) := by simp
  rw [hst]
  refine zcall (va_runSN (As := As.map (zcv E)) (rest := S.map (zcv E)) ⟨hx, hb, hml, hown, hts⟩ hM ⟨cw, hts _ hl3, trivial⟩ ⟨zpre_blind, fun U hU hW => ⟨rfl, zpre_of hP hK hX hS hU hW⟩⟩ rfl (by simpa using hn) hl0.1 rfl (lv_room (by rw [zcv_sum]; exact hs)) hd hcs) hS (fun v st' H1 locs1 hp hP1 hS1 => ?_)
  have h1 := hk v st' hp p e R s m args below meth c H1 locs1 cells slots Q ls C hcs hP1 hS1 hl0 hQ
  have h2 : (v.toList ++ S).map (zcv E) = (v.map (zcv E)).toList ++ S.map (zcv E) := by cases v <;> simp
  rw [h2] at h1
  exact h1
/-! contracts by kind of answer: I int, B truth, J long, V nothing, each with a new memory; i, b, j, a: the memory stays -/
def zFI (E : zE) (d : zD) (As : List Value) (Y : zY) (M : zM) (r : Option (Int32 × zM)) : Prop := zF E d As (Y, M) r (fun x => (some (.int x.1), (Y, x.2)))
def zFB (E : zE) (d : zD) (As : List Value) (Y : zY) (M : zM) (r : Option (Bool × zM)) : Prop := zF E d As (Y, M) r (fun x => (some (.int (zb x.1)), (Y, x.2)))
def zFJ (E : zE) (d : zD) (As : List Value) (Y : zY) (M : zM) (r : Option (Int64 × zM)) : Prop := zF E d As (Y, M) r (fun x => (some (.long x.1), (Y, x.2)))
def zFV (E : zE) (d : zD) (As : List Value) (Y : zY) (M : zM) (r : Option zM) : Prop := zF E d As (Y, M) r (fun x => (none, (Y, x)))
def zFi (E : zE) (d : zD) (As : List Value) (Y : zY) (M : zM) (r : Option Int32) : Prop := zF E d As (Y, M) r (fun x => (some (.int x), (Y, M)))
def zFb (E : zE) (d : zD) (As : List Value) (Y : zY) (M : zM) (r : Option Bool) : Prop := zF E d As (Y, M) r (fun x => (some (.int (zb x)), (Y, M)))
def zFj (E : zE) (d : zD) (As : List Value) (Y : zY) (M : zM) (r : Option Int64) : Prop := zF E d As (Y, M) r (fun x => (some (.long x), (Y, M)))
def zFa (E : zE) (d : zD) (As : List Value) (Y : zY) (M : zM) (r : Option Nat) : Prop := zF E d As (Y, M) r (fun x => (some (.ref x), (Y, M)))
def zFv (E : zE) (d : zD) (As : List Value) (Y : zY) (M : zM) (r : Option Unit) : Prop := zF E d As (Y, M) r (fun _ => (none, (Y, M)))
theorem zk_call {st : zS} {pc : Nat} {S0 As : List Value} {α : Type} {r : Option α} {enc : α → Option Value × zS} {k : α → Option σ} (ha : zAt E d pc S0 L S st d' As) (hM : zF E d' As st r enc) (hk : ∀ x, zK E d post (pc + 3) L ((enc x).1.toList ++ S) (enc x).2 (k x) κ) : zK E d post pc L S0 st (sq r k) κ := by
  rintro ⟨x, h1, h2⟩
  cases r with
  | none => cases h1
  | some y =>
    refine ha post (fun v st' => v = (enc y).1 ∧ st' = (enc y).2) (hM _ ⟨y, rfl, rfl, rfl⟩) ?_
    rintro v st' ⟨rfl, rfl⟩
    exact hk y ⟨x, h1, h2⟩
theorem zbi_sq {α β : Type} (r : Option (α × β)) (k : α → β → Option σ) : bi r k = sq r (fun x => k x.1 x.2) := by
  cases r with
  | none => rfl
  | some x => rfl
theorem z_cI {pc : Nat} {S0 As : List Value} {r : Option (Int32 × zM)} {k : Int32 → zM → Option σ} (ha : zAt E d pc S0 L S (Y, M) d' As) (hM : zFI E d' As Y M r) (hk : ∀ x M', zK E d post (pc + 3) L (.int x :: S) (Y, M') (k x M') κ) : zK E d post pc L S0 (Y, M) (bi r k) κ := by
  rw [zbi_sq]; exact zk_call ha hM (fun x => hk x.1 x.2)
theorem z_cB {pc : Nat} {S0 As : List Value} {r : Option (Bool × zM)} {k : Bool → zM → Option σ} (ha : zAt E d pc S0 L S (Y, M) d' As) (hM : zFB E d' As Y M r) (hk : ∀ x M', zK E d post (pc + 3) L (.int (zb x) :: S) (Y, M') (k x M') κ) : zK E d post pc L S0 (Y, M) (bi r k) κ := by
  rw [zbi_sq]; exact zk_call ha hM (fun x => hk x.1 x.2)
theorem z_cJ {pc : Nat} {S0 As : List Value} {r : Option (Int64 × zM)} {k : Int64 → zM → Option σ} (ha : zAt E d pc S0 L S (Y, M) d' As) (hM : zFJ E d' As Y M r) (hk : ∀ x M', zK E d post (pc + 3) L (.long x :: S) (Y, M') (k x M') κ) : zK E d post pc L S0 (Y, M) (bi r k) κ := by
  rw [zbi_sq]; exact zk_call ha hM (fun x => hk x.1 x.2)
theorem z_cV {pc : Nat} {S0 As : List Value} {r : Option zM} {k : zM → Option σ} (ha : zAt E d pc S0 L S (Y, M) d' As) (hM : zFV E d' As Y M r) (hk : ∀ M', zK E d post (pc + 3) L S (Y, M') (k M') κ) : zK E d post pc L S0 (Y, M) (sq r k) κ := zk_call ha hM hk
theorem z_ci {pc : Nat} {S0 As : List Value} {r : Option Int32} {k : Int32 → Option σ} (ha : zAt E d pc S0 L S (Y, M) d' As) (hM : zFi E d' As Y M r) (hk : ∀ x, zK E d post (pc + 3) L (.int x :: S) (Y, M) (k x) κ) : zK E d post pc L S0 (Y, M) (sq r k) κ := zk_call ha hM hk
theorem z_cb {pc : Nat} {S0 As : List Value} {r : Option Bool} {k : Bool → Option σ} (ha : zAt E d pc S0 L S (Y, M) d' As) (hM : zFb E d' As Y M r) (hk : ∀ x, zK E d post (pc + 3) L (.int (zb x) :: S) (Y, M) (k x) κ) : zK E d post pc L S0 (Y, M) (sq r k) κ := zk_call ha hM hk
theorem z_cj {pc : Nat} {S0 As : List Value} {r : Option Int64} {k : Int64 → Option σ} (ha : zAt E d pc S0 L S (Y, M) d' As) (hM : zFj E d' As Y M r) (hk : ∀ x, zK E d post (pc + 3) L (.long x :: S) (Y, M) (k x) κ) : zK E d post pc L S0 (Y, M) (sq r k) κ := zk_call ha hM hk
theorem z_ca {pc : Nat} {S0 As : List Value} {r : Option Nat} {k : Nat → Option σ} (ha : zAt E d pc S0 L S (Y, M) d' As) (hM : zFa E d' As Y M r) (hk : ∀ x, zK E d post (pc + 3) L (.ref x :: S) (Y, M) (k x) κ) : zK E d post pc L S0 (Y, M) (sq r k) κ := zk_call ha hM hk
theorem z_cv {pc : Nat} {S0 As : List Value} {r : Option Unit} {k : Unit → Option σ} (ha : zAt E d pc S0 L S (Y, M) d' As) (hM : zFv E d' As Y M r) (hk : ∀ x, zK E d post (pc + 3) L S (Y, M) (k x) κ) : zK E d post pc L S0 (Y, M) (sq r k) κ := zk_call ha hM hk
/-! answers without a guard: a value -/
theorem z_cti {pc : Nat} {S0 As : List Value} {v : Int32} {k : Int32 → Option σ} (ha : zAt E d pc S0 L S (Y, M) d' As) (hM : zFi E d' As Y M (some v)) (hk : ∀ x, zK E d post (pc + 3) L (.int x :: S) (Y, M) (k x) κ) : zK E d post pc L S0 (Y, M) (lt v k) κ := zk_call (k := k) ha hM hk
theorem z_ctb {pc : Nat} {S0 As : List Value} {v : Bool} {k : Bool → Option σ} (ha : zAt E d pc S0 L S (Y, M) d' As) (hM : zFb E d' As Y M (some v)) (hk : ∀ x, zK E d post (pc + 3) L (.int (zb x) :: S) (Y, M) (k x) κ) : zK E d post pc L S0 (Y, M) (lt v k) κ := zk_call (k := k) ha hM hk
theorem z_ctj {pc : Nat} {S0 As : List Value} {v : Int64} {k : Int64 → Option σ} (ha : zAt E d pc S0 L S (Y, M) d' As) (hM : zFj E d' As Y M (some v)) (hk : ∀ x, zK E d post (pc + 3) L (.long x :: S) (Y, M) (k x) κ) : zK E d post pc L S0 (Y, M) (lt v k) κ := zk_call (k := k) ha hM hk
theorem z_cta {pc : Nat} {S0 As : List Value} {v : Nat} (ha : zAt E d pc S0 L S (Y, M) d' As) (hM : zFa E d' As Y M (some v)) (hk : zK E d post (pc + 3) L (.ref v :: S) (Y, M) res κ) : zK E d post pc L S0 (Y, M) res κ :=
  fun hq => ha post (fun w st' => w = some (.ref v) ∧ st' = (Y, M)) (hM _ ⟨v, rfl, rfl, rfl⟩) (by rintro w st' ⟨rfl, rfl⟩; exact hk hq)
theorem zat_V0 (pc : Nat) {idx a ci : Nat} {fs : List (Option (Option Nat))} {q : vw_C} (hd : decode d.2.1 pc = .ok (.invokevirtual idx, 3)) (hl : zLv d.1.cls idx d' 0) (hY : Y[a]? = some (.inl (ci, fs))) (hc : vwCl[ci]? = some q) (hq : q.1 = d'.1.cls) (hr : zRm d d') (hs : (S.map fun v => v.category).sum ≤ 8) : zAt E d pc (.ref a :: S) L S (Y, M) d' [.ref a] := zat_V pc (As := []) hd hl rfl hY hc hq hr hs
theorem zat_S0 (pc : Nat) {idx : Nat} (hd : decode d.2.1 pc = .ok (.invokestatic idx, 3)) (hl : zLs d.1.cls idx d' 0) (hr : zRm d d') (hs : (S.map fun v => v.category).sum ≤ 8) : zAt E d pc (S) L S (Y, M) d' [] := zat_S pc (As := []) hd hl rfl hr hs
theorem zat_N0 (pc : Nat) {idx : Nat} (hd : decode d.2.1 pc = .ok (.invokestatic idx, 3)) (hl : zLn d.1.cls idx d' 0) (hr : zRm d d') (hs : (S.map fun v => v.category).sum ≤ 8) : zAt E d pc (S) L S (Y, M) d' [] := zat_N pc (As := []) hd hl rfl hr hs
theorem zat_V1 (pc : Nat) {idx a ci : Nat} {fs : List (Option (Option Nat))} {q : vw_C} {v1 : Value} (hd : decode d.2.1 pc = .ok (.invokevirtual idx, 3)) (hl : zLv d.1.cls idx d' 1) (hY : Y[a]? = some (.inl (ci, fs))) (hc : vwCl[ci]? = some q) (hq : q.1 = d'.1.cls) (hr : zRm d d') (hs : (S.map fun v => v.category).sum ≤ 8) : zAt E d pc (v1 :: .ref a :: S) L S (Y, M) d' [.ref a, v1] := zat_V pc (As := [v1]) hd hl rfl hY hc hq hr hs
theorem zat_S1 (pc : Nat) {idx : Nat} {v1 : Value} (hd : decode d.2.1 pc = .ok (.invokestatic idx, 3)) (hl : zLs d.1.cls idx d' 1) (hr : zRm d d') (hs : (S.map fun v => v.category).sum ≤ 8) : zAt E d pc (v1 :: S) L S (Y, M) d' [v1] := zat_S pc (As := [v1]) hd hl rfl hr hs
theorem zat_N1 (pc : Nat) {idx : Nat} {v1 : Value} (hd : decode d.2.1 pc = .ok (.invokestatic idx, 3)) (hl : zLn d.1.cls idx d' 1) (hr : zRm d d') (hs : (S.map fun v => v.category).sum ≤ 8) : zAt E d pc (v1 :: S) L S (Y, M) d' [v1] := zat_N pc (As := [v1]) hd hl rfl hr hs
theorem zat_V2 (pc : Nat) {idx a ci : Nat} {fs : List (Option (Option Nat))} {q : vw_C} {v1 v2 : Value} (hd : decode d.2.1 pc = .ok (.invokevirtual idx, 3)) (hl : zLv d.1.cls idx d' 2) (hY : Y[a]? = some (.inl (ci, fs))) (hc : vwCl[ci]? = some q) (hq : q.1 = d'.1.cls) (hr : zRm d d') (hs : (S.map fun v => v.category).sum ≤ 8) : zAt E d pc (v2 :: v1 :: .ref a :: S) L S (Y, M) d' [.ref a, v1, v2] := zat_V pc (As := [v1, v2]) hd hl rfl hY hc hq hr hs
theorem zat_S2 (pc : Nat) {idx : Nat} {v1 v2 : Value} (hd : decode d.2.1 pc = .ok (.invokestatic idx, 3)) (hl : zLs d.1.cls idx d' 2) (hr : zRm d d') (hs : (S.map fun v => v.category).sum ≤ 8) : zAt E d pc (v2 :: v1 :: S) L S (Y, M) d' [v1, v2] := zat_S pc (As := [v1, v2]) hd hl rfl hr hs
theorem zat_N2 (pc : Nat) {idx : Nat} {v1 v2 : Value} (hd : decode d.2.1 pc = .ok (.invokestatic idx, 3)) (hl : zLn d.1.cls idx d' 2) (hr : zRm d d') (hs : (S.map fun v => v.category).sum ≤ 8) : zAt E d pc (v2 :: v1 :: S) L S (Y, M) d' [v1, v2] := zat_N pc (As := [v1, v2]) hd hl rfl hr hs
theorem zat_V3 (pc : Nat) {idx a ci : Nat} {fs : List (Option (Option Nat))} {q : vw_C} {v1 v2 v3 : Value} (hd : decode d.2.1 pc = .ok (.invokevirtual idx, 3)) (hl : zLv d.1.cls idx d' 3) (hY : Y[a]? = some (.inl (ci, fs))) (hc : vwCl[ci]? = some q) (hq : q.1 = d'.1.cls) (hr : zRm d d') (hs : (S.map fun v => v.category).sum ≤ 8) : zAt E d pc (v3 :: v2 :: v1 :: .ref a :: S) L S (Y, M) d' [.ref a, v1, v2, v3] := zat_V pc (As := [v1, v2, v3]) hd hl rfl hY hc hq hr hs
theorem zat_S3 (pc : Nat) {idx : Nat} {v1 v2 v3 : Value} (hd : decode d.2.1 pc = .ok (.invokestatic idx, 3)) (hl : zLs d.1.cls idx d' 3) (hr : zRm d d') (hs : (S.map fun v => v.category).sum ≤ 8) : zAt E d pc (v3 :: v2 :: v1 :: S) L S (Y, M) d' [v1, v2, v3] := zat_S pc (As := [v1, v2, v3]) hd hl rfl hr hs
theorem zat_N3 (pc : Nat) {idx : Nat} {v1 v2 v3 : Value} (hd : decode d.2.1 pc = .ok (.invokestatic idx, 3)) (hl : zLn d.1.cls idx d' 3) (hr : zRm d d') (hs : (S.map fun v => v.category).sum ≤ 8) : zAt E d pc (v3 :: v2 :: v1 :: S) L S (Y, M) d' [v1, v2, v3] := zat_N pc (As := [v1, v2, v3]) hd hl rfl hr hs
theorem zat_V4 (pc : Nat) {idx a ci : Nat} {fs : List (Option (Option Nat))} {q : vw_C} {v1 v2 v3 v4 : Value} (hd : decode d.2.1 pc = .ok (.invokevirtual idx, 3)) (hl : zLv d.1.cls idx d' 4) (hY : Y[a]? = some (.inl (ci, fs))) (hc : vwCl[ci]? = some q) (hq : q.1 = d'.1.cls) (hr : zRm d d') (hs : (S.map fun v => v.category).sum ≤ 8) : zAt E d pc (v4 :: v3 :: v2 :: v1 :: .ref a :: S) L S (Y, M) d' [.ref a, v1, v2, v3, v4] := zat_V pc (As := [v1, v2, v3, v4]) hd hl rfl hY hc hq hr hs
theorem zat_S4 (pc : Nat) {idx : Nat} {v1 v2 v3 v4 : Value} (hd : decode d.2.1 pc = .ok (.invokestatic idx, 3)) (hl : zLs d.1.cls idx d' 4) (hr : zRm d d') (hs : (S.map fun v => v.category).sum ≤ 8) : zAt E d pc (v4 :: v3 :: v2 :: v1 :: S) L S (Y, M) d' [v1, v2, v3, v4] := zat_S pc (As := [v1, v2, v3, v4]) hd hl rfl hr hs
theorem zat_N4 (pc : Nat) {idx : Nat} {v1 v2 v3 v4 : Value} (hd : decode d.2.1 pc = .ok (.invokestatic idx, 3)) (hl : zLn d.1.cls idx d' 4) (hr : zRm d d') (hs : (S.map fun v => v.category).sum ≤ 8) : zAt E d pc (v4 :: v3 :: v2 :: v1 :: S) L S (Y, M) d' [v1, v2, v3, v4] := zat_N pc (As := [v1, v2, v3, v4]) hd hl rfl hr hs
theorem zat_V5 (pc : Nat) {idx a ci : Nat} {fs : List (Option (Option Nat))} {q : vw_C} {v1 v2 v3 v4 v5 : Value} (hd : decode d.2.1 pc = .ok (.invokevirtual idx, 3)) (hl : zLv d.1.cls idx d' 5) (hY : Y[a]? = some (.inl (ci, fs))) (hc : vwCl[ci]? = some q) (hq : q.1 = d'.1.cls) (hr : zRm d d') (hs : (S.map fun v => v.category).sum ≤ 8) : zAt E d pc (v5 :: v4 :: v3 :: v2 :: v1 :: .ref a :: S) L S (Y, M) d' [.ref a, v1, v2, v3, v4, v5] := zat_V pc (As := [v1, v2, v3, v4, v5]) hd hl rfl hY hc hq hr hs
theorem zat_S5 (pc : Nat) {idx : Nat} {v1 v2 v3 v4 v5 : Value} (hd : decode d.2.1 pc = .ok (.invokestatic idx, 3)) (hl : zLs d.1.cls idx d' 5) (hr : zRm d d') (hs : (S.map fun v => v.category).sum ≤ 8) : zAt E d pc (v5 :: v4 :: v3 :: v2 :: v1 :: S) L S (Y, M) d' [v1, v2, v3, v4, v5] := zat_S pc (As := [v1, v2, v3, v4, v5]) hd hl rfl hr hs
theorem zat_N5 (pc : Nat) {idx : Nat} {v1 v2 v3 v4 v5 : Value} (hd : decode d.2.1 pc = .ok (.invokestatic idx, 3)) (hl : zLn d.1.cls idx d' 5) (hr : zRm d d') (hs : (S.map fun v => v.category).sum ≤ 8) : zAt E d pc (v5 :: v4 :: v3 :: v2 :: v1 :: S) L S (Y, M) d' [v1, v2, v3, v4, v5] := zat_N pc (As := [v1, v2, v3, v4, v5]) hd hl rfl hr hs
theorem zat_V6 (pc : Nat) {idx a ci : Nat} {fs : List (Option (Option Nat))} {q : vw_C} {v1 v2 v3 v4 v5 v6 : Value} (hd : decode d.2.1 pc = .ok (.invokevirtual idx, 3)) (hl : zLv d.1.cls idx d' 6) (hY : Y[a]? = some (.inl (ci, fs))) (hc : vwCl[ci]? = some q) (hq : q.1 = d'.1.cls) (hr : zRm d d') (hs : (S.map fun v => v.category).sum ≤ 8) : zAt E d pc (v6 :: v5 :: v4 :: v3 :: v2 :: v1 :: .ref a :: S) L S (Y, M) d' [.ref a, v1, v2, v3, v4, v5, v6] := zat_V pc (As := [v1, v2, v3, v4, v5, v6]) hd hl rfl hY hc hq hr hs
theorem zat_S6 (pc : Nat) {idx : Nat} {v1 v2 v3 v4 v5 v6 : Value} (hd : decode d.2.1 pc = .ok (.invokestatic idx, 3)) (hl : zLs d.1.cls idx d' 6) (hr : zRm d d') (hs : (S.map fun v => v.category).sum ≤ 8) : zAt E d pc (v6 :: v5 :: v4 :: v3 :: v2 :: v1 :: S) L S (Y, M) d' [v1, v2, v3, v4, v5, v6] := zat_S pc (As := [v1, v2, v3, v4, v5, v6]) hd hl rfl hr hs
theorem zat_N6 (pc : Nat) {idx : Nat} {v1 v2 v3 v4 v5 v6 : Value} (hd : decode d.2.1 pc = .ok (.invokestatic idx, 3)) (hl : zLn d.1.cls idx d' 6) (hr : zRm d d') (hs : (S.map fun v => v.category).sum ≤ 8) : zAt E d pc (v6 :: v5 :: v4 :: v3 :: v2 :: v1 :: S) L S (Y, M) d' [v1, v2, v3, v4, v5, v6] := zat_N pc (As := [v1, v2, v3, v4, v5, v6]) hd hl rfl hr hs
/-! switches -/
theorem z_tsc {st : zS} (pc tgt : Nat) {dflt lo hi off : Int} {offs : Array Int} {len : Nat} {x k : Int32} {ra rb : Option σ} (hd : decode d.2.1 pc = .ok (.tableswitch dflt lo hi offs, len)) (h1 : ¬ k.toInt < lo) (h2 : ¬ hi < k.toInt) (ho : offs[(k.toInt - lo).toNat]? = some off) (ht : (pc : Int) + off = (tgt : Int))
    (ha : zK E d post tgt L S st ra κ) (hb : ¬ x = k → zK E d post pc L (.int x :: S) st rb κ) : zK E d post pc L (.int x :: S) st (if x = k then ra else rb) κ := by
  by_cases hx : x = k
  · rw [if_pos hx]
    subst hx
    exact zk_row (fun C _ _ _ _ k => lv_tableIn C.1 C.2.1 hd h1 h2 ho ht k) ha
  · rw [if_neg hx]
    exact hb hx
theorem z_tsd {st : zS} (pc tgt : Nat) {dflt lo hi : Int} {offs : Array Int} {len : Nat} {x : Int32} (hd : decode d.2.1 pc = .ok (.tableswitch dflt lo hi offs, len)) (h : x.toInt < lo ∨ hi < x.toInt) (ht : (pc : Int) + dflt = (tgt : Int)) (ha : zK E d post tgt L S st res κ) : zK E d post pc L (.int x :: S) st res κ :=
  zk_row (fun C _ _ _ _ k => lv_tableOut C.1 C.2.1 hd h ht k) ha
theorem z_lsw {st : zS} (pc tgt : Nat) {dflt off : Int} {ps : Array (Int × Int)} {len : Nat} {x : Int32} (hd : decode d.2.1 pc = .ok (.lookupswitch dflt ps, len)) (hp : (ps.toList.zip (ps.toList.drop 1)).all (fun (a, next) => a.1 < next.1) = true) (ho : Op.lookupswitch.offset ps.toList dflt x.toInt = off) (ht : (pc : Int) + off = (tgt : Int)) (ha : zK E d post tgt L S st res κ) : zK E d post pc L (.int x :: S) st res κ :=
  zk_row (fun C _ _ _ _ k => lv_lookup C.1 C.2.1 hd hp ho ht k) ha
theorem z_lsc {st : zS} (pc tgt : Nat) {dflt off : Int} {ps : Array (Int × Int)} {len : Nat} {x k : Int32} {ra rb : Option σ} (hd : decode d.2.1 pc = .ok (.lookupswitch dflt ps, len)) (hp : (ps.toList.zip (ps.toList.drop 1)).all (fun (a, next) => a.1 < next.1) = true) (ho : Op.lookupswitch.offset ps.toList dflt k.toInt = off) (ht : (pc : Int) + off = (tgt : Int))
    (ha : zK E d post tgt L S st ra κ) (hb : ¬ x = k → zK E d post pc L (.int x :: S) st rb κ) : zK E d post pc L (.int x :: S) st (if x = k then ra else rb) κ := by
  by_cases hx : x = k
  · rw [if_pos hx]
    subst hx
    exact z_lsw pc tgt hd hp ho ht ha
  · rw [if_neg hx]
    exact hb hx
theorem z_tscv {st : zS} (pc tgt : Nat) {dflt lo hi off : Int} {offs : Array Int} {len : Nat} {x k : Int32} {α : Type} {va vb : α} {g : α → Option σ} (hd : decode d.2.1 pc = .ok (.tableswitch dflt lo hi offs, len)) (h1 : ¬ k.toInt < lo) (h2 : ¬ hi < k.toInt) (ho : offs[(k.toInt - lo).toNat]? = some off) (ht : (pc : Int) + off = (tgt : Int))
    (ha : zK E d post tgt L S st (lt va g) κ) (hb : ¬ x = k → zK E d post pc L (.int x :: S) st (lt vb g) κ) : zK E d post pc L (.int x :: S) st (lt (if x = k then va else vb) g) κ := by
  by_cases hx : x = k
  · rw [if_pos hx]
    subst hx
    exact zk_row (fun C _ _ _ _ k => lv_tableIn C.1 C.2.1 hd h1 h2 ho ht k) ha
  · rw [if_neg hx]
    exact hb hx
theorem zne {x k : Int32} {a : Int} (h : ¬ x = k) (hk : k.toInt = a) : ¬ x.toInt = a := fun q => h (Int32.toInt_inj.mp (q.trans hk.symm))
end ZC
