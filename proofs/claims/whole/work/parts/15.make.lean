/-! ===== constructors: contracts and calls ===== -/
theorem zcalln {E : zE} {ad : Nat → Nat} {st st' : zS} {p : Program} {e : Env} {R : Room} {s : State} {m : MethodId} {args : Array Value} {below : List Frame} {meth : Method} {c : Code} {H : Heap} {locs : List Loc} {cells slots k' n' : Nat} {Q : State → Prop} {pc : Nat} {ls : Array Slot} {st0 rest : List Value}
    (hr : va_Run p E.1 e R s m args below meth c H locs cells slots k' n' (F0 m pc ls st0) rest (fun s0 o t => o = .returned none ∧ (∃ ad' : Nat → Nat, (∀ j, 1000 ≤ j → ad' j = E.2.1 j) ∧ (∀ j, j < st.1.length → ad' j = ad j) ∧ zP (zEa E ad') st' t.heap) ∧ va_F E.2.2.1 s0 t) E.2.2.1) (hS : va_S E.2.2.1 s.heap H locs)
    (kk : ∀ (ad' : Nat → Nat) (H1 : Heap) (locs1 : List Loc), (∀ j, 1000 ≤ j → ad' j = E.2.1 j) → (∀ j, j < st.1.length → ad' j = ad j) → zP (zEa E ad') st' H1 → va_S E.2.2.1 s.heap H1 locs1 → W p E.1 e R s m args below meth c H1 locs1 (cells + k') (slots + n') Q (F0 m (pc + 3) ls rest)) : W p E.1 e R s m args below meth c H locs cells slots Q (F0 m pc ls st0) := by
  intro T hT X
  obtain ⟨v, st₀, t, T', L, h0, X', hL, e1, e2, ⟨hv, ⟨ad', g1, g2, g3⟩, hz, hk⟩, stp⟩ := hr T hT X
  cases hv
  rw [h0] at hz hk
  obtain ⟨t2, a1, b1⟩ := kk ad' T'.heap (locs ++ L) g1 g2 (by rw [e1]; exact g3)
    ⟨Nat.le_trans hS.1 (by rw [e1]; exact hz), fun q h1 h2 => by rw [e1, hk q (Nat.lt_of_lt_of_le h1 hS.1) h2]; exact hS.2.1 q h1 h2, fun q hq => by
      rcases List.mem_append.mp hq with h | h
      · exact hS.2.2 q h
      · exact hL q h⟩ T' rfl X'
  exact ⟨t2, stp t2 a1, b1⟩
theorem zpn_blind {E : zE} {av : List Value} {st : zS} : FrameBlind (va_Pc av (zPn E st)) := fun a U g mk ⟨h1, ⟨h2, h3, h4⟩, h5, h6⟩ => ⟨h1, ⟨h2, va_K.moved (u := U) (U := U.calling g mk a) (Vm.Alike.refl U.vm) h3, zX.same (s := U) (U := U.calling g mk a) h4 rfl⟩, zXn.same (s := U) (U := U.calling g mk a) h5 rfl, h6⟩
def zLi (own : String) (idx : Nat) (d' : zD) (n : Nat) : Prop := zLk d' n ∧ Cond.methodLink own idx d'.1 ∈ zT ∧ Cond.instanceMethod d'.1 ∈ zT ∧ d'.1.name = "<init>"
def zLin (own : String) (idx : Nat) (d' : zD) (n : Nat) : Prop := zLk d' n ∧ (own, idx, d'.1) ∈ zNi ∧ Cond.instanceMethod d'.1 ∈ zT ∧ d'.1.name = "<init>"
section ZNC
variable {E : zE} {d : zD} {fin : Nat → List (Option Value) → zS → Prop} {L : List (Option Value)} {S : List Value} {k n : Nat} {d' : zD}
theorem zMn_of {As : List Value} {st st' : zS} (hpl : plainName d.1.cls = true) (hnm : d.1.name = "<init>") (hret : d.2.2.2.1 = none) (hlen : ∀ E' : zE, (lg_sl (As.map (zcv E'))).length ≤ d.2.2.1) (hL : ∀ E' : zE, zla E' 0 L = lv_args 0 (As.map (zcv E')))
    (h : zN E d (fun pc _ st2 => decode d.2.1 pc = .ok (.return_, 1) ∧ st2 = st') 0 L [] st k n) : zMn E d As st st' k n := by
  intro ad hx
  refine Met.ofW (cc := d.2.1) (maxL := d.2.2.1) (ret := d.2.2.2.1) hpl rfl ?_
  intro p e s m args below meth c s₁ B hml hv
  obtain ⟨rfl, ⟨hP, hK, hX⟩, hXn, hA⟩ := hv
  have hts := atoms_spec (ws := zwd d) B.pre
  have hown : s.vm.findClass d.1.cls = some m.cls := findClass_of_methodNamed B.named
  have hlocks := B.notSynchronized
  have hx1 := B.exec
  have hb := B.bytes
  have hr := B.returns
  have hin : meth.name = d.1.name := (name_of_methodNamed B.named B.method).1
  have hl := lv_entry (As.map (zcv (zEa E ad))) (n := d.2.2.1) (hlen _)
  rw [lg_entry_eq]
  generalize (lg_sl (As.map (zcv (zEa E ad))) ++ List.replicate (d.2.2.1 - (lg_sl (As.map (zcv (zEa E ad)))).length) Slot.unset).toArray = ls at hl ⊢
  rw [← hL] at hl
  refine h ad hx p e _ s m _ below meth c s.heap [] 0 0 _ ls ⟨⟨hx1, hb, hml, hown, fun w hw => hts w (List.mem_cons_of_mem _ hw), hK, hX, Nat.le_refl _, Nat.le_refl _⟩, hXn, hA, fun h => hin.trans h⟩ ⟨by rw [Nat.zero_add]; exact Nat.le_refl _, by rw [Nat.zero_add]; exact Nat.le_refl _⟩ hP va_S.rf hl ?_
  intro ad' pc' L' st2 H' locs' ls' g1 g2 g3 hP' hS' _
  obtain ⟨g3, rfl⟩ := g3
  rw [Nat.zero_add, Nat.zero_add]
  exact W.vret hx1 hb (hr.trans hret) (fun t ht _ => ⟨rfl, ⟨ad', g1, g2, by rw [ht]; exact hP'⟩, hS'.F ht⟩) hS'.2.2 g3
theorem n_callI (pc : Nat) {idx a k' n' na : Nat} {As : List Value} {st st' : zS} (hd : decode d.2.1 pc = .ok (.invokespecial idx, 3)) (hl : zLi d.1.cls idx d' na) (hret : d'.2.2.2.1 = none) (hn : As.length = na) (hr : zRm d d') (hs : (S.map fun v => v.category).sum ≤ 8) (hM : zMn E d' (.ref a :: As) st st' k' n') (hlen : st.1.length ≤ st'.1.length) (hLo : zLo st.1.length L = true) (hSo : zSo st.1.length S = true)
    (h : zN E d fin (pc + 3) L S st' k n) : zN E d fin pc L (As.reverse ++ .ref a :: S) st (k' + k) (n' + n) := by
  intro ad hx p e R s m args below meth c H locs cells slots Q ls C0 hcs hP hS hl0 hQ
  have C := C0.1
  obtain ⟨hx1, hb, hml, hown, hts, hK, hX, hf, hlo⟩ := id C
  have cw : CallB R s args d.1.cls idx d'.1 d'.2.1 d'.2.2.1 none (zwd d') (zrn d' k' n') k' n' na := callB_of na hts (zwd_good hl.1) (by rw [← hret]; rfl) rfl rfl (hts _ hl.1.1) (hts _ hl.2.1) hl.1.2.2 ⟨Nat.le_trans hr.1 hf, Nat.le_trans hr.2 hlo⟩
  have hst : (As.reverse ++ .ref a :: S).map (zcv (zEa E ad)) = (As.map (zcv (zEa E ad))).reverse ++ .ref ((zEa E ad).2.1 a) :: S.map (zcv (zEa E ad)) := by simp [zcv]
  rw [hst]
  refine zcalln (E := E) (ad := ad) (st := st) (st' := st') (va_runI (As := As.map (zcv (zEa E ad))) (rest := S.map (zcv (zEa E ad))) (b := (zEa E ad).2.1 a) ⟨hx1, hb, hml, hown, hts⟩ (hM ad hx) ⟨cw, hl.2.2.2, hts _ hl.2.2.1⟩ ⟨zpn_blind, fun U hU hW => ⟨rfl, zpre_of hP hK hX hS hU hW, C0.2.1.to hW, fun q hq => C0.2.2.1 q (Nat.le_trans hS.1 (by rw [hU] at hq; exact hq))⟩⟩ rfl (by simpa using hn) hl0.1 rfl (lv_room (by rw [zcv_sum]; exact hs)) hd ⟨by have := hcs.1; omega, by have := hcs.2; omega⟩) hS (fun ad' H1 locs1 g1 g2 hP1 hS1 => ?_)
  have hl1 : lv_has ls d.2.2.1 (zla (zEa E ad') 0 L) := by rw [zLo_ag hx g1 g2 L 0 hLo]; exact hl0
  have := h ad' g1 p e R s m args below meth c H1 locs1 (cells + k') (slots + n') Q ls (zCn_ag hx g1 C0) ⟨by have := hcs.1; omega, by have := hcs.2; omega⟩ hP1 hS1 hl1 (zn_hQ (st := st) (st' := st') (ad1 := ad') hlen g2 hQ)
  rw [zSo_ag hSo hx g1 g2] at this
  exact this
theorem n_callIn (pc : Nat) {idx a k' n' na : Nat} {As : List Value} {st st' : zS} (hd : decode d.2.1 pc = .ok (.invokespecial idx, 3)) (hl : zLin d.1.cls idx d' na) (hret : d'.2.2.2.1 = none) (hn : As.length = na) (hr : zRm d d') (hs : (S.map fun v => v.category).sum ≤ 8) (hM : zMn E d' (.ref a :: As) st st' k' n') (hlen : st.1.length ≤ st'.1.length) (hLo : zLo st.1.length L = true) (hSo : zSo st.1.length S = true)
    (h : zN E d fin (pc + 3) L S st' k n) : zN E d fin pc L (As.reverse ++ .ref a :: S) st (k' + k) (n' + n) := by
  intro ad hx p e R s m args below meth c H locs cells slots Q ls C0 hcs hP hS hl0 hQ
  have C := C0.1
  obtain ⟨hx1, hb, hml, hown, hts, hK, hX, hf, hlo⟩ := id C
  have hnw : va_Nw (.methodLinkNest d.1.cls idx d'.1 "HalfNumber") s := C0.2.1.2 _ hl.2.1
  have cw : va_CN R s args d.1.cls idx d'.1 "HalfNumber" d'.2.1 d'.2.2.1 none (zwd d') (zrn d' k' n') k' n' na := va_cnB na hts (zwd_good hl.1) (by rw [← hret]; rfl) rfl rfl hnw (hts _ hl.1.1) hl.1.2.2 ⟨Nat.le_trans hr.1 hf, Nat.le_trans hr.2 hlo⟩
  have hst : (As.reverse ++ .ref a :: S).map (zcv (zEa E ad)) = (As.map (zcv (zEa E ad))).reverse ++ .ref ((zEa E ad).2.1 a) :: S.map (zcv (zEa E ad)) := by simp [zcv]
  rw [hst]
  refine zcalln (E := E) (ad := ad) (st := st) (st' := st') (va_runIN (As := As.map (zcv (zEa E ad))) (rest := S.map (zcv (zEa E ad))) (b := (zEa E ad).2.1 a) ⟨hx1, hb, hml, hown, hts⟩ (hM ad hx) ⟨cw, hl.2.2.2, hts _ hl.2.2.1⟩ ⟨zpn_blind, fun U hU hW => ⟨rfl, zpre_of hP hK hX hS hU hW, C0.2.1.to hW, fun q hq => C0.2.2.1 q (Nat.le_trans hS.1 (by rw [hU] at hq; exact hq))⟩⟩ rfl (by simpa using hn) hl0.1 rfl (lv_room (by rw [zcv_sum]; exact hs)) hd ⟨by have := hcs.1; omega, by have := hcs.2; omega⟩) hS (fun ad' H1 locs1 g1 g2 hP1 hS1 => ?_)
  have hl1 : lv_has ls d.2.2.1 (zla (zEa E ad') 0 L) := by rw [zLo_ag hx g1 g2 L 0 hLo]; exact hl0
  have := h ad' g1 p e R s m args below meth c H1 locs1 (cells + k') (slots + n') Q ls (zCn_ag hx g1 C0) ⟨by have := hcs.1; omega, by have := hcs.2; omega⟩ hP1 hS1 hl1 (zn_hQ (st := st) (st' := st') (ad1 := ad') hlen g2 hQ)
  rw [zSo_ag hSo hx g1 g2] at this
  exact this
end ZNC
