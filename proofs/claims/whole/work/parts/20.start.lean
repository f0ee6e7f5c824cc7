/-! ===== the start: from the Statement's words to the law's loop ===== -/
theorem zT_sub : ∀ w ∈ zT, w ∈ lw_tbl := fun _ h => (List.mem_filter.mp h).1
theorem st_cls {s : State} {args : Array Value} (hts : ∀ w ∈ lw_tbl, w.before args s = true) : ∃ DD : va_G, ∀ (k : Nat) (q : vw_C), vwCl[k]? = some q → u_Kn s q.1 q.2.1 q.2.2 (DD.1 k) (DD.2 k) := by
  have kn : ∀ {C : String} {T : u_T} {N n : Nat}, (∀ w ∈ u_ws C T N, w ∈ zT) → Cond.instantiable C n ∈ zT → ∃ y : ClassId × (Nat → Nat), u_Kn s C T N y.1 y.2 := by
    intro C T N n h1 h2
    obtain ⟨c, i, h⟩ := u_known (C := C) (T := T) (N := N) (n := n) hts (fun w hw => zT_sub w (h1 w hw)) (hts _ (zT_sub _ h2))
    exact ⟨(c, i), h⟩
  have h0 : ∀ k : Nat, ∃ y : ClassId × (Nat → Nat), ∀ q : vw_C, vwCl[k]? = some q → u_Kn s q.1 q.2.1 q.2.2 y.1 y.2 := by
    intro k
    match k with
    | 0 => obtain ⟨y, h⟩ := kn zinX0 ninst_X0; exact ⟨y, fun q hq => by cases hq; exact h⟩
    | 1 => obtain ⟨y, h⟩ := kn zinX1 ninst_X1; exact ⟨y, fun q hq => by cases hq; exact h⟩
    | 2 => obtain ⟨y, h⟩ := kn zinX2 ninst_X2; exact ⟨y, fun q hq => by cases hq; exact h⟩
    | 3 => obtain ⟨y, h⟩ := kn zinX3 ninst_X3; exact ⟨y, fun q hq => by cases hq; exact h⟩
    | 4 => obtain ⟨y, h⟩ := kn zinX4 ninst_X4; exact ⟨y, fun q hq => by cases hq; exact h⟩
    | 5 => obtain ⟨y, h⟩ := kn zinX5 ninst_X5; exact ⟨y, fun q hq => by cases hq; exact h⟩
    | 6 => obtain ⟨y, h⟩ := kn zinX6 ninst_X6; exact ⟨y, fun q hq => by cases hq; exact h⟩
    | 7 => obtain ⟨y, h⟩ := kn zinX7 ninst_X7; exact ⟨y, fun q hq => by cases hq; exact h⟩
    | 8 => obtain ⟨y, h⟩ := kn zinX8 ninst_X8; exact ⟨y, fun q hq => by cases hq; exact h⟩
    | 9 => obtain ⟨y, h⟩ := kn zinX9 ninst_X9; exact ⟨y, fun q hq => by cases hq; exact h⟩
    | 10 => obtain ⟨y, h⟩ := kn zinX10 ninst_X10; exact ⟨y, fun q hq => by cases hq; exact h⟩
    | 11 => obtain ⟨y, h⟩ := kn zinX11 ninst_X11; exact ⟨y, fun q hq => by cases hq; exact h⟩
    | k + 12 => exact ⟨(0, fun _ => 0), fun q hq => by simp [vwCl] at hq⟩
  obtain ⟨f, hf⟩ := Classical.axiomOfChoice h0
  exact ⟨(fun k => (f k).1, fun k => (f k).2), hf⟩
theorem st_arr1 {s : State} {args : Array Value} {ty : FieldType} (h : (Cond.arrayClass ty).before args s = true) (hp : ∀ cA : ClassId, s.vm.findClass ("[" ++ ty.toString) = some cA → va_RA s cA ty) : ∃ cA : ClassId, ArrOfT s cA ty ∧ va_RA s cA ty := by
  obtain ⟨c, k, comp, h1, h2, h3⟩ := Cond.arrayClass_spec h
  exact ⟨c, fun n z => ⟨fun k h => (by cases h), k, h2, comp, h3⟩, hp c h1⟩
theorem st_arr2 {s : State} {args : Array Value} {C : String} (h : (Cond.arrayOver (.object C)).before args s = true) : ∃ cA : ClassId, ArrOfT s cA (.object C) ∧ va_RA s cA (.object C) := by
  obtain ⟨comp, c, k, h1, -, h2, h3, h4⟩ := Cond.arrayOver_spec h
  exact ⟨c, fun n z => ⟨fun k h => (by cases h), k, h2, comp, h3⟩, k, comp, h2, h3, h1, h4⟩
theorem st_arr {s : State} {args : Array Value} (hts : ∀ w ∈ lw_tbl, w.before args s = true) : ∃ cA : Nat → ClassId, ∀ t, t < 6 → ArrOfT s (cA t) (zTy t) ∧ va_RA s (cA t) (zTy t) := by
  have h0 : ∀ t : Nat, ∃ cA : ClassId, t < 6 → ArrOfT s cA (zTy t) ∧ va_RA s cA (zTy t) := by
    intro t
    match t with
    | 0 => obtain ⟨c, h⟩ := st_arr1 (ty := .int) (hts _ (zT_sub _ narr_0)) (fun _ h => h); exact ⟨c, fun _ => h⟩
    | 1 => obtain ⟨c, h⟩ := st_arr1 (ty := .long) (hts _ (zT_sub _ narr_1)) (fun _ h => h); exact ⟨c, fun _ => h⟩
    | 2 => obtain ⟨c, h⟩ := st_arr1 (ty := .byte) (hts _ (zT_sub _ narr_2)) (fun _ h => h); exact ⟨c, fun _ => h⟩
    | 3 => obtain ⟨c, h⟩ := st_arr1 (ty := .boolean) (hts _ (zT_sub _ narr_3)) (fun _ h => h); exact ⟨c, fun _ => h⟩
    | 4 => obtain ⟨c, h⟩ := st_arr2 (C := "HalfNumber$Scene") (hts _ (List.mem_of_getElem? (i := 204) (by decide +kernel))); exact ⟨c, fun _ => h⟩
    | 5 => obtain ⟨c, h⟩ := st_arr2 (C := "HalfNumber$Sheet") (hts _ (List.mem_of_getElem? (i := 206) (by decide +kernel))); exact ⟨c, fun _ => h⟩
    | t + 6 => exact ⟨0, fun h => absurd h (by omega)⟩
  exact Classical.axiomOfChoice h0
theorem st_af_el : ∀ j, j < 10 → Cond.eq (.elem (.static "HalfNumber$Road" "AT_FIRST" "[I") (.int (Int32.ofNat j))) (.int (([10, 60, 30, 1, 4, 2, 5, 12, 12, 0] : List Int32).getD j 0)) ∈ flatC (Jvm.Cond.and given_1 narrow_1) := by decide +kernel
theorem st_s_ex : ∀ i, i < 9 → Cond.exactly (.string "HalfNumber$Tape" (119 + 2 * i)) "java/lang/String" ∈ flatC (Jvm.Cond.and given_1 narrow_1) := by decide +kernel
theorem st_s_co : ∀ i, i < 9 → Cond.eq (.field (.string "HalfNumber$Tape" (119 + 2 * i)) "java/lang/String" "coder" "B") (.int 0) ∈ flatC (Jvm.Cond.and given_1 narrow_1) := by decide +kernel
theorem st_s_ar : ∀ i, i < 9 → Cond.arrayOf (.field (.string "HalfNumber$Tape" (119 + 2 * i)) "java/lang/String" "value" "[B") .byte ∈ flatC (Jvm.Cond.and given_1 narrow_1) := by decide +kernel
theorem st_s_le : ∀ i, i < 9 → Cond.eq (.length (.field (.string "HalfNumber$Tape" (119 + 2 * i)) "java/lang/String" "value" "[B")) (.int (Int32.ofNat (zsl.getD i 0))) ∈ flatC (Jvm.Cond.and given_1 narrow_1) := by decide +kernel
theorem st_s_el : ∀ i, i < 9 → ∀ j, j < zsl.getD i 0 → Cond.eq (.elem (.field (.string "HalfNumber$Tape" (119 + 2 * i)) "java/lang/String" "value" "[B") (.int (Int32.ofNat j))) (.int ((zsb.getD i []).getD j 0)) ∈ flatC (Jvm.Cond.and given_1 narrow_1) := by decide +kernel
theorem st_s_ne : ∀ i, i < 9 → ∀ j, j < 9 → i ≠ j → (Cond.not (Cond.eq (.string "HalfNumber$Tape" (119 + 2 * i)) (.string "HalfNumber$Tape" (119 + 2 * j))) ∈ flatC (Jvm.Cond.and given_1 narrow_1) ∨ Cond.not (Cond.eq (.string "HalfNumber$Tape" (119 + 2 * j)) (.string "HalfNumber$Tape" (119 + 2 * i))) ∈ flatC (Jvm.Cond.and given_1 narrow_1)) := by decide +kernel
theorem st_s_rf : ∀ i, i < 9 → lw_tbl[466 + i]? = some (Cond.stringRef "HalfNumber$Tape" (119 + 2 * i) (zst.getD i "")) := by decide +kernel
/-- what stands outside, at the law's start -/
theorem st_ext {s : State} {b L : Nat} {xs : Nat → Int32} (hts : ∀ w ∈ lw_tbl, w.before #[Value.ref b] s = true) (hX : va_X b L xs s s.heap) (hbl : b < s.heap.size) (hgv : (Jvm.Cond.and given_1 narrow_1).before #[Value.ref b] s = true) :
    ∃ ad : Nat → Nat, ad 1000 = b ∧ ∀ (l : Launch) (DD : va_G) (cA : Nat → ClassId), zX (l, ad, (fun q : Nat => s.heap.size ≤ q), DD, cA, L, xs) s s.heap := by
  have hs := flat_of_before _ hgv
  have hA : ∀ a : Nat, a < s.heap.size → ¬ (fun q : Nat => s.heap.size ≤ q) a := fun a h => Nat.not_le.mpr h
  have hw : ∀ {w : Cond} (i : Nat), lw_tbl[i]? = some w → w.before #[Value.ref b] s = true := fun i h => hts _ (List.mem_of_getElem? h)
  -- the row AT_FIRST
  obtain ⟨tF, hF1, hF2⟩ := va_Tof (ty := .int) (tm := .static "HalfNumber$Road" "AT_FIRST" "[I") (N := 10) (f := fun j => .int (([10, 60, 30, 1, 4, 2, 5, 12, 12, 0] : List Int32).getD j 0)) (by decide) (hs _ (by decide +kernel)) (va_eqt (z := 10) (hs (Cond.eq (.length (.static "HalfNumber$Road" "AT_FIRST" "[I")) (.int 10)) (by decide +kernel))) (fun j hj => va_eqt (hs _ (st_af_el j hj))) hA
  have zF := va_Zof (hw 161 (by decide +kernel)) (hts _ (zT_sub _ ninit_X6)) hF1 hA
  -- Strings
  obtain ⟨adK, adV, hS1, hS2⟩ := vk_Sof (N := 9) (tm := fun i => .string "HalfNumber$Tape" (119 + 2 * i)) (len := zsl) (byt := zsb) (by decide) (fun i hi => hs _ (st_s_ex i hi)) (fun i hi => hs _ (st_s_co i hi)) (fun i hi => hs _ (st_s_ar i hi)) (fun i hi => hs _ (st_s_le i hi)) (fun i hi j hj => hs _ (st_s_el i hi j hj)) (fun i j hi hj hne => (st_s_ne i hi j hj hne).imp (fun h => hs _ h) (fun h => hs _ h)) hA
  have zC := va_Zof (v := .int 1) (hw 488 (by decide +kernel)) (hw 101 (by decide +kernel)) (va_eqt (hs (Cond.eq (.static "java/lang/String" "COMPACT_STRINGS" "Z") (.int 1)) (by decide +kernel))) hA
  have zQ := va_Zqof (hw 504 (by decide +kernel)) (hw 103 (by decide +kernel)) (hs (Cond.isRef (.static "jdk/internal/util/Preconditions" "SIOOBE_FORMATTER" "Ljava/util/function/BiFunction;")) (by decide +kernel)) hA
  obtain ⟨tQ, hQ⟩ : ∃ tQ : Nat, va_Z "jdk/internal/util/Preconditions" "SIOOBE_FORMATTER" "Ljava/util/function/BiFunction;" .null (fun q : Nat => s.heap.size ≤ q) s s.heap ∨ va_Z "jdk/internal/util/Preconditions" "SIOOBE_FORMATTER" "Ljava/util/function/BiFunction;" (.ref tQ) (fun q : Nat => s.heap.size ≤ q) s s.heap := by
    rcases zQ with h | ⟨t, h⟩
    · exact ⟨0, Or.inl h⟩
    · exact ⟨t, Or.inr h⟩
  obtain ⟨ad, a0, a1, a2, a3, a4⟩ : ∃ ad : Nat → Nat, ad 1000 = b ∧ ad 1001 = tF ∧ ad 1002 = tQ ∧ (∀ i, i < 9 → ad (1010 + i) = adK i) ∧ (∀ i, i < 9 → ad (1030 + i) = adV i) := by
    refine ⟨fun k => if k = 1000 then b else if k = 1001 then tF else if k = 1002 then tQ else if k < 1030 then adK (k - 1010) else adV (k - 1030), by simp, by simp, by simp, fun i hi => ?_, fun i hi => ?_⟩
    · show (if 1010 + i = 1000 then _ else _) = _
      rw [if_neg (by omega), if_neg (by omega), if_neg (by omega), if_pos (by omega), Nat.add_sub_cancel_left]
    · show (if 1030 + i = 1000 then _ else _) = _
      rw [if_neg (by omega), if_neg (by omega), if_neg (by omega), if_neg (by omega), Nat.add_sub_cancel_left]
  refine ⟨ad, a0, fun l DD cA => ⟨⟨?_, ?_, ?_⟩, ⟨?_, ?_⟩, ⟨⟨fun i hi => ?_, fun i j hi hj e => ?_⟩, zC, ?_⟩, fun i hi => ?_, fun q hq => ?_⟩⟩
  · show va_X (ad 1000) L xs s s.heap
    rw [a0]; exact hX
  · show ad 1000 < _
    rw [a0]; exact hbl
  · show ¬ s.heap.size ≤ ad 1000
    rw [a0]; omega
  · show va_Z _ _ _ (.ref (ad 1001)) _ _ _
    rw [a1]; exact zF
  · show va_T _ (ad 1001) _ _ _ _ _
    rw [a1]; exact hF2
  · show va_O _ (ad (1010 + i)) _ _ _ ∧ va_OF _ _ _ _ (ad (1010 + i)) _ _ _ ∧ va_OF _ _ _ (.ref (ad (1030 + i))) (ad (1010 + i)) _ _ _ ∧ va_T _ (ad (1030 + i)) _ _ _ _ _
    rw [a3 i hi, a4 i hi]
    exact hS1.1 i hi
  · have e1 : ad (1010 + i) = ad (1010 + j) := e
    rw [a3 i hi, a3 j hj] at e1
    exact hS1.2 i j hi hj e1
  · show _ ∨ va_Z _ _ _ (.ref (ad 1002)) _ _ _
    rw [a2]; exact hQ
  · show vk_R _ _ _ (ad (1010 + i)) _
    rw [a3 i hi]
    exact vk_R.of (hts _ (List.mem_of_getElem? (st_s_rf i hi))) (hS2 i hi)
  · have h5 : ∀ q ∈ zNs, Cond.methodLinkNest q.1 q.2.1 q.2.2 "HalfNumber" ∈ lw_tbl := by
      intro q hq
      simp only [zNs, List.mem_cons, List.not_mem_nil, or_false] at hq
      rcases hq with rfl | rfl | rfl | rfl | rfl
      · exact List.mem_of_getElem? (i := 535) (by decide +kernel)
      · exact List.mem_of_getElem? (i := 542) (by decide +kernel)
      · exact List.mem_of_getElem? (i := 607) (by decide +kernel)
      · exact List.mem_of_getElem? (i := 678) (by decide +kernel)
      · exact List.mem_of_getElem? (i := 1128) (by decide +kernel)
    exact va_Nw.of rfl (hts _ (h5 q hq))
theorem st_new {s : State} {args : Array Value} (hts : ∀ w ∈ lw_tbl, w.before args s = true) : zXn s := by
  refine ⟨⟨va_AO.of (hts _ (List.mem_of_getElem? (i := 204) (by decide +kernel))), va_AO.of (hts _ (List.mem_of_getElem? (i := 206) (by decide +kernel)))⟩, fun q hq => ?_⟩
  have h5 : ∀ q ∈ zNi, Cond.methodLinkNest q.1 q.2.1 q.2.2 "HalfNumber" ∈ lw_tbl := by
    intro q hq
    simp only [zNi, List.mem_cons, List.not_mem_nil, or_false] at hq
    rcases hq with rfl | rfl | rfl | rfl | rfl | rfl | rfl
    · exact List.mem_of_getElem? (i := 123) (by decide +kernel)
    · exact List.mem_of_getElem? (i := 208) (by decide +kernel)
    · exact List.mem_of_getElem? (i := 230) (by decide +kernel)
    · exact List.mem_of_getElem? (i := 269) (by decide +kernel)
    · exact List.mem_of_getElem? (i := 308) (by decide +kernel)
    · exact List.mem_of_getElem? (i := 352) (by decide +kernel)
    · exact List.mem_of_getElem? (i := 365) (by decide +kernel)
  exact va_Nw.of rfl (hts _ (h5 q hq))
set_option maxHeartbeats 4000000 in
/-- the law from its entry, out of the law as a function -/
theorem start_of {p : Program} {e : Env} {s : State} {m : MethodId} {below : List Frame} {meth : Method} {c : Code} (l : Launch) {b L : Nat} {xs : Nat → Int32} (hpure : ∀ M : zM, fL_law L xs (mm_0 M) = some true) (C0 : lw_At p s m meth c b L xs) : W p l e room_1 s m #[Value.ref b] below meth c s.heap [] 0 0 (lw_Z below #[Value.ref b] s) (entryFrame m ([Value.ref b] : List Value).toArray 4) := by
  obtain ⟨hx, hb, hr, hml, hown, hts, hX, hbl, hlocks, hgv⟩ := C0
  obtain ⟨DD, hDD⟩ := st_cls hts
  obtain ⟨cA, hcA⟩ := st_arr hts
  obtain ⟨ad, had, hext⟩ := st_ext hts hX hbl hgv
  have hXn := st_new hts
  have hK : va_K DD vwCl (zty (l, ad, (fun q : Nat => s.heap.size ≤ q), DD, cA, L, xs)) s := by
    refine ⟨hDD, fun k q hq => ?_⟩
    match k, hq with
    | 0, hq => cases hq; exact hcA 0 (by decide)
    | 1, hq => cases hq; exact hcA 1 (by decide)
    | 2, hq => cases hq; exact hcA 2 (by decide)
    | 3, hq => cases hq; exact hcA 3 (by decide)
    | 4, hq => cases hq; exact hcA 4 (by decide)
    | 5, hq => cases hq; exact hcA 5 (by decide)
    | k + 6, hq => simp [zty] at hq
  have hl := lv_entry ([.ref b]) (n := 4) (Nat.le_of_ble_eq_true rfl)
  rw [lg_entry_eq]
  generalize (lg_sl ([.ref b]) ++ List.replicate (4 - (lg_sl ([.ref b])).length) Slot.unset).toArray = ls at hl ⊢
  have hl2 : lv_has ls 4 (zla (l, ad, (fun q : Nat => s.heap.size ≤ q), DD, cA, L, xs) 0 [some (.ref 1000), none, none, none]) := by
    show lv_has ls 4 [(0, .ref (ad 1000))]
    rw [had]
    exact hl
  have hCx : ∀ ad' : Nat → Nat, (∀ j, 1000 ≤ j → ad' j = ad j) → zCn (l, ad', (fun q : Nat => s.heap.size ≤ q), DD, cA, L, xs) mL_law p room_1 s m #[Value.ref b] meth c := by
    intro ad' hj
    have h1 : zCn (zEa (l, ad, (fun q : Nat => s.heap.size ≤ q), DD, cA, L, xs) ad) mL_law p room_1 s m #[Value.ref b] meth c := ⟨⟨hx, hb, hml, hown, fun w hw => hts w (zT_sub w hw), hK, hext l DD cA, Nat.le_refl _, Nat.le_refl _⟩, hXn, fun q h => h, fun h => absurd h (by decide)⟩
    exact zCn_ag (E := (l, ad, (fun q : Nat => s.heap.size ≤ q), DD, cA, L, xs)) (ad := ad) (ad1 := ad') (fun _ _ => rfl) hj h1
  have key := nt_law (l, ad, (fun q : Nat => s.heap.size ≤ q), DD, cA, L, xs) (fun _ _ => 0, fun _ _ => 0) ad (fun _ _ => rfl) p e room_1 s m #[Value.ref b] below meth c s.heap [] 0 0 (lw_Z below #[Value.ref b] s) ls (hCx ad (fun _ _ => rfl)) ⟨Nat.le_of_ble_eq_true rfl, Nat.le_of_ble_eq_true rfl⟩ ⟨fun k q h => by simp [zW, zws, yy_0] at h, fun i j p q h => by simp [zW, zws, yy_0] at h, fun k q h => by simp [zW, zws, yy_0] at h⟩ va_S.rf hl2 ?_
  · exact key
  · intro ad' pc' L' st' H' locs' ls' g1 _ g3 g4 g5 g6
    obtain ⟨rfl, rfl, h1, h2⟩ := g3
    obtain ⟨Y', M'⟩ := st'
    dsimp only at h1 h2
    subst h1
    subst h2
    have hK2 := tL_law (zEa (l, ad, (fun q : Nat => s.heap.size ≤ q), DD, cA, L, xs) ad') (mm_0 (fun _ _ => 0, fun _ _ => 0)) (fun v _ => v = some (.int 1)) ⟨true, hpure _, fun _ => rfl⟩
    refine hK2 p e room_1 s m #[Value.ref b] below meth c H' locs' (0 + 100) (0 + 66892) (lw_Z below #[Value.ref b] s) ls' (hCx ad' g1).1 ⟨Nat.le_of_ble_eq_true rfl, Nat.le_of_ble_eq_true rfl⟩ g4 g5 g6 ?_
    intro v st2 H2 locs2 pc2 ls2 hv hP2 hS2 hret
    subst hv
    refine va_forget (fun q hq => hS2.2.2 q hq) ?_
    exact lw_ret hx hb hr hlocks hret.1
