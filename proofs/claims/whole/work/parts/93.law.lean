/-! ===== what the class's calls leave as it was ===== -/
def W76 : List Nat := List.range 76
theorem w76 {c : Nat} (h : c < 76) : c ∈ W76 := List.mem_range.2 h
theorem f_gr {α : Type} {π : α → zM} {S : List Nat} {M : zM} {c : Prop} [Decidable c] {r : Option α} (h : c → zof r π S M) : zof (grd c r) π S M := fun x hx => by
  unfold grd at hx
  by_cases hc : c
  · rw [if_pos hc] at hx; exact h hc x hx
  · rw [if_neg hc] at hx; cases hx
theorem zix_lt {p : Int32} {n : Nat} (h : zix p n) : zn p < n := by
  have h1 : 0 ≤ p.toInt ∧ p.toInt < n := h
  show p.toInt.toNat < n
  omega
theorem la_6 (p : Int32) : fX10_linesAt p ≤ 6 := by
  unfold fX10_linesAt
  split <;> omega
theorem fz_line (p1 p2 p3 p4 : Int32) (M : zM) : zof (fX10_line p1 p2 p3 p4 M) (fun y => y.2) W76 M := by
  have hl := la_6 p1
  have hM := zfr_rf W76 M
  unfold fX10_line
  refine f_lt (fun b1 => f_ite (f_some hM) (f_lt (fun b2 => f_ite (f_some hM) (f_lt (fun b3 => f_ite (f_some hM) (f_lt (fun b4 => f_ite (f_some hM) ?_)))))))
  rw [e_lt]
  refine f_ite (f_bi (f_call hM (frX2_append _ _ _ M) (fun c hc => ?_)) (fun x7 M6 h6 => f_sqM (ρ := fun y => y) (f_call h6 (frX2_setPlate _ _ _ M6) (fun c hc => ?_)) (fun M8 h8 => f_some h8))) (f_some hM)
  · simp only [List.mem_cons, List.not_mem_nil, or_false] at hc; exact w76 (by omega)
  · simp only [List.mem_cons, List.not_mem_nil, or_false] at hc; exact w76 (by omega)
theorem fz_drop (p1 p2 : Int32) (M : zM) : zof (fX10_drop p1 p2 M) (fun y => y.2) W76 M := by
  have hl := la_6 p1
  have hM := zfr_rf W76 M
  unfold fX10_drop
  refine f_lt (fun b1 => f_ite (f_some hM) ?_)
  rw [e_lt]
  refine f_sqM (ρ := fun y => y) (f_call hM (frX2_remove _ _ M) (fun c hc => ?_)) (fun M3 h3 => f_some h3)
  simp only [List.mem_cons, List.not_mem_nil, or_false] at hc
  exact w76 (by omega)
theorem fz_sign (p1 p2 p3 p4 : Int32) (M : zM) : zof (fX10_sign p1 p2 p3 p4 M) (fun y => y.2) W76 M := by
  have hl := la_6 p1
  have hM := zfr_rf W76 M
  unfold fX10_sign
  refine f_lt (fun b1 => f_ite (f_some hM) (f_lt (fun b2 => f_ite (f_some hM) (f_lt (fun b3 => f_ite (f_some hM) ?_)))))
  rw [e_lt]
  refine f_grd (f_lt (fun x5 => f_grd (f_ltM (zfr_I hM (w76 (by omega))) (fun M6 h6 => f_some h6))))
theorem fz_keep (p1 : Int32) (M : zM) : zof (fX10_keep p1 M) (fun y => y.2) W76 M := by
  have hM := zfr_rf W76 M
  unfold fX10_keep
  refine f_lt (fun b1 => f_ite (f_some hM) (f_gr (fun hc => ?_)))
  have hz := zix_lt hc
  rw [e_lt]
  refine f_lt (fun b3 => f_grd ?_)
  rw [e_lt]
  refine f_sqM (ρ := fun y => y) (f_call hM (frX7_copyFrom _ _ M) (fun c hc => ?_)) (fun M5 h5 => f_grd ?_)
  · simp only [List.mem_cons, List.not_mem_nil, or_false] at hc
    exact w76 (by omega)
  · rw [e_lt]
    exact f_ltM (zfr_I h5 (w76 (by omega))) (fun M7 h7 => f_some h7)
theorem fz_sheet (p1 p2 p3 : Int32) (M : zM) : zof (fX10_sheet p1 p2 p3 M) (fun y => y.2) W76 M := by
  have hM := zfr_rf W76 M
  unfold fX10_sheet
  refine f_lt (fun b1 => f_ite (f_some hM) (f_lt (fun b2 => f_ite (f_some hM) (f_ite (f_ite (f_gr (fun hc => ?_)) (f_some hM)) (f_some hM)))))
  have hz := zix_lt hc
  rw [e_lt]
  refine f_sqM (ρ := fun y => y) (f_call hM (frX8_renew _ _ _ M) (fun c hc => ?_)) (fun M5 h5 => f_some h5)
  simp only [List.mem_cons, List.not_mem_nil, or_false] at hc
  exact w76 (by omega)
theorem fz_lay (p1 p2 p3 : Int32) (M : zM) : zof (fX10_lay p1 p2 p3 M) (fun y => y.2) W76 M := by
  have hM := zfr_rf W76 M
  unfold fX10_lay
  refine f_lt (fun b1 => f_ite (f_some hM) (f_gr (fun hc => ?_)))
  have hz := zix_lt hc
  rw [e_lt]
  refine f_ite (f_some hM) (f_lt (fun b3 => f_ite (f_some hM) (f_sqM (ρ := fun y => y) (f_call hM (frX8_put _ _ _ M) (fun c hc => ?_)) (fun M5 h5 => f_some h5))))
  simp only [List.mem_cons, List.not_mem_nil, or_false] at hc
  exact w76 (by omega)
theorem fz_read (p1 p2 p3 p4 p5 : Int32) (M : zM) : zof (fX10_read p1 p2 p3 p4 p5 M) (fun y => y.2) W76 M := by
  have hl := la_6 p5
  have hM := zfr_rf W76 M
  unfold fX10_read
  refine f_lt (fun b1 => f_ite (f_some hM) (f_lt (fun b2 => f_ite (f_some hM) (f_lt (fun b3 => f_ite (f_some hM) (f_lt (fun b4 => f_ite (f_some hM) (f_grd (f_lt (fun s5 => f_sq (fun x7 => f_sq (fun x9 => f_lt (fun x10 => ?_))))))))))))) 
  rw [e_lt]
  refine f_sq (fun x12 => f_ite (f_sqM (ρ := fun y => y) ?_ (fun M25 h25 => f_ltM (zfr_I h25 (w76 (by omega))) (fun M27 h27 => f_some h27))) (f_some hM))
  refine f_zlp (ρ := fun y => y.2) ?_ _ _ hM
  intro rec hrec u hu
  obtain ⟨x20, M21⟩ := u
  dsimp only at hu ⊢
  refine f_ite (f_some hu) (f_sqM (ρ := fun y => y) (f_call hu (frX8_appendLine _ _ _ M21) (fun c hc => ?_)) (fun M26 h26 => hrec _ h26))
  simp only [List.mem_cons, List.not_mem_nil, or_false] at hc
  exact w76 (by omega)
/-! ===== the law ===== -/
def RZ (M : zM) : Prop := RR M ∧ M.1 94 0 = nI 0
theorem l_ag2 {σ : Type} [DecidableEq σ] {f1 f2 : zM → Option (σ × zM)} {M : zM} {k : zM → Option Bool} {Q : Bool → Prop} (h : RZ M) (ha : AG2 f1 f2 M) (z1 : ∀ x, f1 M = some x → x.2.1 94 = M.1 94) (z2 : ∀ M1 x, f2 M1 = some x → x.2.1 94 = M1.1 94) (hk : ∀ M2, RZ M2 → ok (k M2) Q) : ok (bi (f1 M) (fun x M1 => bi (f2 M1) (fun y M2 => if x = y then k M2 else some false))) Q := by
  obtain ⟨v, M1, M2, e1, e2, h2⟩ := ha
  rw [e1, e_bi, e2, e_bi, if_pos rfl]
  refine hk M2 ⟨h2, ?_⟩
  have a1 := z1 _ e1
  have a2 := z2 _ _ e2
  dsimp only at a1 a2
  rw [a2, a1]
  exact h.2
theorem l_ag3 {σ : Type} [DecidableEq σ] {f1 : zM → Option (σ × zM)} {f2 : zM → Option σ} {M : zM} {k : zM → Option Bool} {Q : Bool → Prop} (h : RZ M) (ha : AG3 f1 f2 M) (z1 : ∀ x, f1 M = some x → x.2.1 94 = M.1 94) (hk : ∀ M2, RZ M2 → ok (k M2) Q) : ok (bi (f1 M) (fun x M1 => sq (f2 M1) (fun y => if x = y then k M1 else some false))) Q := by
  obtain ⟨v, M1, e1, e2, h2⟩ := ha
  rw [e1, e_bi, e2, e_sq, if_pos rfl]
  refine hk M1 ⟨h2, ?_⟩
  have a1 := z1 _ e1
  dsimp only at a1
  rw [a1]
  exact h.2
theorem l_ag1 {σ : Type} [DecidableEq σ] {f1 f2 : zM → Option σ} {M : zM} {k : zM → Option Bool} {Q : Bool → Prop} (h : RZ M) (ha : AG1 f1 f2 M) (hk : ∀ M2, RZ M2 → ok (k M2) Q) : ok (sq (f1 M) (fun x => sq (f2 M) (fun y => if x = y then k M else some false))) Q := by
  obtain ⟨v, e1, e2⟩ := ha
  rw [e1, e_sq, e2, e_sq, if_pos rfl]
  exact hk M h
theorem l_agv {σ : Type} [DecidableEq σ] {f1 f2 : zM → σ} {M : zM} {k : zM → Option Bool} {Q : Bool → Prop} (h : RZ M) (ha : f1 M = f2 M) (hk : ∀ M2, RZ M2 → ok (k M2) Q) : ok (lt (f1 M) (fun x => lt (f2 M) (fun y => if x = y then k M else some false))) Q := by
  rw [e_lt, e_lt, if_pos ha]
  exact hk M h
theorem l_agc {σ : Type} [DecidableEq σ] {f1 f2 : zM → Option (σ × zM)} {M : zM} {k : zM → Option Bool} {Q : Bool → Prop} (ha : ∃ v M1 M2, f1 M = some (v, M1) ∧ f2 M1 = some (v, M2) ∧ RR M2 ∧ M2.1 94 0 = nI 0) (hk : ∀ M2, RZ M2 → ok (k M2) Q) : ok (bi (f1 M) (fun x M1 => bi (f2 M1) (fun y M2 => if x = y then k M2 else some false))) Q := by
  obtain ⟨v, M1, M2, e1, e2, h2⟩ := ha
  rw [e1, e_bi, e2, e_bi, if_pos rfl]
  exact hk M2 h2
set_option maxHeartbeats 4000000 in
set_option maxRecDepth 100000 in
theorem law_ok (L : Nat) (hL : L ≤ 384) (xs : Nat → Int32) {M : zM} (h : RZ M) : fL_law L xs M = some true := by
  apply ok_eq
  unfold fL_law
  have hc : (Int32.ofNat L) - (6 : Int32) = jI ((L : Int) - 6) := by
    rw [l_6, nI_j, jI_n, jI_sub]
    rfl
  rw [hc]
  refine ok_up (L / 6) (fun t x => ∃ M', x = (nI (6 * t), M') ∧ RZ M') ?_ ?_ zFu 0 _ (by omega) (by unfold zFu; omega) ⟨M, rfl, h⟩
  · rintro rec t x ht ⟨M1, rfl, hz⟩ hrec
    have hk : ∀ M2, RZ M2 → ok (rec (nI (6 * t) + (6 : Int32), M2)) (fun r => r = true) := fun M2 h2 => hrec _ ⟨M2, by rw [l_6, n_add]; rfl, h2⟩
    have hg0 : ∀ (σ : Type) (r : Option σ), grd (zix (nI (6 * t)) L) r = r := fun σ r => e_gn (by omega)
    have hg1 : ∀ (σ : Type) (r : Option σ), grd (zix (nI (6 * t) + (1 : Int32)) L) r = r := fun σ r => by rw [l_1, n_add]; exact e_gn (by omega)
    have hg2 : ∀ (σ : Type) (r : Option σ), grd (zix (nI (6 * t) + (2 : Int32)) L) r = r := fun σ r => by rw [l_2, n_add]; exact e_gn (by omega)
    have hg3 : ∀ (σ : Type) (r : Option σ), grd (zix (nI (6 * t) + (3 : Int32)) L) r = r := fun σ r => by rw [l_3, n_add]; exact e_gn (by omega)
    have hg4 : ∀ (σ : Type) (r : Option σ), grd (zix (nI (6 * t) + (4 : Int32)) L) r = r := fun σ r => by rw [l_4, n_add]; exact e_gn (by omega)
    have hg5 : ∀ (σ : Type) (r : Option σ), grd (zix (nI (6 * t) + (5 : Int32)) L) r = r := fun σ r => by rw [l_5, n_add]; exact e_gn (by omega)
    dsimp only
    rw [jn_ltF (by omega)]
    simp only [hg0, hg1, hg2, hg3, hg4, hg5]
    rw [e_lt, e_jn]
    refine ok_ite (fun _ => ?_) (fun _ => ?_)
    · exact l_ag2 hz (q_feed hz.1 _) (fun x e => (frX10_feed _ M1 x e 94 (by decide)).1) (fun M2 x e => (frX11_feed _ M2 x e 94 (by decide)).1) hk
    refine ok_ite (fun _ => ?_) (fun _ => ?_)
    · exact l_ag2 hz (q_end hz.1 _) (fun x e => (frX10_end _ M1 x e 94 (by decide)).1) (fun M2 x e => (frX11_end _ M2 x e 94 (by decide)).1) hk
    refine ok_ite (fun _ => ?_) (fun _ => ?_)
    · exact l_ag2 hz (q_road hz.1) (fun x e => (frX10_road M1 x e 94 (by decide)).1) (fun M2 x e => (frX11_road M2 x e 94 (by decide)).1) hk
    refine ok_ite (fun _ => ?_) (fun _ => ?_)
    · exact l_agv hz (q_fault hz.1) hk
    refine ok_ite (fun _ => ?_) (fun _ => ?_)
    · exact l_ag1 hz (q_rule hz.1 _) hk
    refine ok_ite (fun _ => ?_) (fun _ => ?_)
    · exact l_ag1 hz (q_mixed hz.1 _ _) hk
    refine ok_ite (fun _ => ?_) (fun _ => ?_)
    · exact l_ag2 hz (q_clockset hz.1 _) (fun x e => (frX10_setClock _ M1 x e 94 (by decide)).1) (fun M2 x e => (frX11_setClock _ M2 x e 94 (by decide)).1) hk
    refine ok_ite (fun _ => ?_) (fun _ => ?_)
    · exact l_ag2 hz (q_line hz.1 _ _ _ _) (fun x e => (fz_line _ _ _ _ M1 x e 94 (by unfold W76; decide)).1) (fun M2 x e => (frX11_line _ _ _ _ M2 x e 94 (by decide)).1) hk
    refine ok_ite (fun _ => ?_) (fun _ => ?_)
    · exact l_ag2 hz (q_drop hz.1 _ _) (fun x e => (fz_drop _ _ M1 x e 94 (by unfold W76; decide)).1) (fun M2 x e => (frX11_drop _ _ M2 x e 94 (by decide)).1) hk
    refine ok_ite (fun _ => ?_) (fun _ => ?_)
    · exact l_ag1 hz (q_of hz.1 _ _ _) hk
    refine ok_ite (fun _ => ?_) (fun _ => ?_)
    · exact l_ag2 hz (q_sign hz.1 _ _ _ _) (fun x e => (fz_sign _ _ _ _ M1 x e 94 (by unfold W76; decide)).1) (fun M2 x e => (frX11_sign _ _ _ _ M2 x e 94 (by decide)).1) hk
    refine ok_ite (fun _ => ?_) (fun _ => ?_)
    · exact l_ag1 hz (q_took hz.1 _ _) hk
    refine ok_ite (fun _ => ?_) (fun _ => ?_)
    · exact l_ag3 hz (q_cost hz.1 _ _) (fun x e => (frX10_cost _ _ M1 x e 94 (by decide)).1) hk
    refine ok_ite (fun _ => ?_) (fun _ => ?_)
    · exact l_ag1 hz (q_why hz.1 _ _) hk
    refine ok_ite (fun _ => ?_) (fun _ => ?_)
    · exact l_ag2 hz (q_best hz.1 _) (fun x e => (frX10_best _ M1 x e 94 (by decide)).1) (fun M2 x e => (frX11_best _ M2 x e 94 (by decide)).1) hk
    refine ok_ite (fun _ => ?_) (fun _ => ?_)
    · exact l_ag2 hz (q_first hz.1 _) (fun x e => (frX10_first _ M1 x e 94 (by decide)).1) (fun M2 x e => (frX11_first _ M2 x e 94 (by decide)).1) hk
    refine ok_ite (fun _ => ?_) (fun _ => ?_)
    · exact l_ag2 hz (q_sure hz.1 _ _) (fun x e => (frX10_sure _ _ M1 x e 94 (by decide)).1) (fun M2 x e => (frX11_sure _ _ M2 x e 94 (by decide)).1) hk
    refine ok_ite (fun _ => ?_) (fun _ => ?_)
    · exact l_ag2 hz (q_share hz.1 _ _ _) (fun x e => (frX10_share _ _ _ M1 x e 94 (by decide)).1) (fun M2 x e => (frX11_share _ _ _ M2 x e 94 (by decide)).1) hk
    refine ok_ite (fun _ => ?_) (fun _ => ?_)
    · simp only [e_lt]
      exact l_ag2 hz (q_must hz.1 _ _ _) (fun x e => (frX10_ifMust _ _ _ M1 x e 94 (by decide)).1) (fun M2 x e => (frX11_ifMust _ _ _ M2 x e 94 (by decide)).1) hk
    refine ok_ite (fun _ => ?_) (fun _ => ?_)
    · exact l_ag2 hz (q_alone hz.1 _ _) (fun x e => (frX10_alone _ _ M1 x e 94 (by decide)).1) (fun M2 x e => (frX11_alone _ _ M2 x e 94 (by decide)).1) hk
    refine ok_ite (fun _ => ?_) (fun _ => ?_)
    · exact l_ag2 hz (q_many hz.1 _) (fun x e => (frX10_many _ M1 x e 94 (by decide)).1) (fun M2 x e => (frX11_many _ M2 x e 94 (by decide)).1) hk
    refine ok_ite (fun _ => ?_) (fun _ => ?_)
    · exact l_ag2 hz (q_ways hz.1 _) (fun x e => (frX10_ways _ M1 x e 94 (by decide)).1) (fun M2 x e => (frX11_ways _ M2 x e 94 (by decide)).1) hk
    refine ok_ite (fun _ => ?_) (fun _ => ?_)
    · exact l_ag2 hz (q_tell hz.1 _ _) (fun x e => (frX10_tell _ _ M1 x e 94 (by decide)).1) (fun M2 x e => (frX11_tell _ _ M2 x e 94 (by decide)).1) hk
    refine ok_ite (fun _ => ?_) (fun _ => ?_)
    · exact l_ag2 hz (q_adopt hz.1) (fun x e => (frX10_adopt M1 x e 94 (by decide)).1) (fun M2 x e => (frX11_adopt M2 x e 94 (by decide)).1) hk
    refine ok_ite (fun _ => ?_) (fun _ => ?_)
    · exact l_ag2 hz (q_judge hz.1 _) (fun x e => (frX10_judge _ M1 x e 94 (by decide)).1) (fun M2 x e => (frX11_judge _ M2 x e 94 (by decide)).1) hk
    refine ok_ite (fun _ => ?_) (fun _ => ?_)
    · exact l_ag2 hz (q_prices hz.1 _ _ _ _) (fun x e => (frX10_prices _ _ _ _ M1 x e 94 (by decide)).1) (fun M2 x e => (frX11_prices _ _ _ _ M2 x e 94 (by decide)).1) hk
    refine ok_ite (fun _ => ?_) (fun _ => ?_)
    · exact l_ag2 hz (q_times hz.1 _) (fun x e => (frX10_times _ M1 x e 94 (by decide)).1) (fun M2 x e => (frX11_times _ M2 x e 94 (by decide)).1) hk
    refine ok_ite (fun _ => ?_) (fun _ => ?_)
    · exact l_ag2 hz (q_clock hz.1 _) (fun x e => (frX10_clock _ M1 x e 94 (by decide)).1) (fun M2 x e => (frX11_clock _ M2 x e 94 (by decide)).1) hk
    refine ok_ite (fun _ => ?_) (fun _ => ?_)
    · exact l_ag2 hz (q_passed hz.1 _) (fun x e => (frX10_passed _ M1 x e 94 (by decide)).1) (fun M2 x e => (frX11_passed _ M2 x e 94 (by decide)).1) hk
    refine ok_ite (fun _ => ?_) (fun _ => ?_)
    · exact l_ag2 hz (q_reads hz.1 _ _) (fun x e => (frX10_reads _ _ M1 x e 94 (by decide)).1) (fun M2 x e => (frX11_reads _ _ M2 x e 94 (by decide)).1) hk
    refine ok_ite (fun _ => ?_) (fun _ => ?_)
    · exact l_ag2 hz (q_blame hz.1 _) (fun x e => (frX10_blame _ M1 x e 94 (by decide)).1) (fun M2 x e => (frX11_blame _ M2 x e 94 (by decide)).1) hk
    refine ok_ite (fun _ => ?_) (fun _ => ?_)
    · exact l_ag2 hz (q_learn hz.1 _) (fun x e => (frX10_learn _ M1 x e 94 (by decide)).1) (fun M2 x e => (frX11_learn _ M2 x e 94 (by decide)).1) hk
    refine ok_ite (fun _ => ?_) (fun _ => ?_)
    · exact l_ag2 hz (q_enough hz.1 _) (fun x e => (frX10_enough _ M1 x e 94 (by decide)).1) (fun M2 x e => (frX11_enough _ M2 x e 94 (by decide)).1) hk
    refine ok_ite (fun _ => ?_) (fun _ => ?_)
    · exact l_ag1 hz (q_round hz.1 _ _ _) hk
    refine ok_ite (fun _ => ?_) (fun _ => ?_)
    · exact l_agc (q_cars hz.1 hz.2 _ _) hk
    refine ok_ite (fun _ => ?_) (fun _ => ?_)
    · exact l_ag2 hz (q_keep hz.1 _) (fun x e => (fz_keep _ M1 x e 94 (by unfold W76; decide)).1) (fun M2 x e => (frX11_keep _ M2 x e 94 (by decide)).1) hk
    refine ok_ite (fun _ => ?_) (fun _ => ?_)
    · exact l_ag2 hz (q_back hz.1 _) (fun x e => (frX10_back _ M1 x e 94 (by decide)).1) (fun M2 x e => (frX11_back _ M2 x e 94 (by decide)).1) hk
    refine ok_ite (fun _ => ?_) (fun _ => ?_)
    · exact l_ag2 hz (q_sheet hz.1 _ _ _) (fun x e => (fz_sheet _ _ _ M1 x e 94 (by unfold W76; decide)).1) (fun M2 x e => (frX11_sheet _ _ _ M2 x e 94 (by decide)).1) hk
    refine ok_ite (fun _ => ?_) (fun _ => ?_)
    · exact l_ag2 hz (q_lay hz.1 _ _ _) (fun x e => (fz_lay _ _ _ M1 x e 94 (by unfold W76; decide)).1) (fun M2 x e => (frX11_lay _ _ _ M2 x e 94 (by decide)).1) hk
    refine ok_ite (fun _ => ?_) (fun _ => ?_)
    · exact l_ag2 hz (q_read hz.1 _ _ _ _ _) (fun x e => (fz_read _ _ _ _ _ M1 x e 94 (by unfold W76; decide)).1) (fun M2 x e => (frX11_read _ _ _ _ _ M2 x e 94 (by decide)).1) hk
    refine ok_ite (fun _ => ?_) (fun _ => ?_)
    · exact l_agv hz (q_torn hz.1) hk
    refine ok_ite (fun _ => ?_) (fun _ => ?_)
    · exact l_ag3 hz (q_count hz.1 _) (fun x e => (frX10_count _ M1 x e 94 (by decide)).1) hk
    exact hk M1 hz
  · rintro rec x ⟨M1, rfl, hz⟩
    dsimp only
    rw [jn_ltT (by omega)]
    exact ok_some rfl
theorem law_true (L : Nat) (hL : L ≤ 384) (xs : Nat → Int32) (M : zM) : fL_law L xs (mm_0 M) = some true := law_ok L hL xs ⟨RR_0 M, by rw [i_94]; rfl⟩
