/-- what tore the reading changes, and nothing else -/
theorem RR_tn {M M' : zM} (h : RR M) (e : ∀ c, c ≠ 0 → c ≠ 76 → M'.1 c = M.1 c) (e1 : ∀ x, x ≠ 32 → M'.1 76 x = M.1 76 x) (e2 : M'.1 0 11 = M'.1 76 32) : RR M' := by
  obtain ⟨⟨ρ, S, s1, s2, s3⟩, h2, h3, h4, h5, h6, h7, h8⟩ := h
  have e84 : M'.1 84 = M.1 84 := e 84 (by omega) (by omega)
  have e81 : M'.1 81 = M.1 81 := e 81 (by omega) (by omega)
  have e96 : M'.1 96 = M.1 96 := e 96 (by omega) (by omega)
  refine ⟨⟨ρ, S, cR_cg s1 (fun c q1 q2 => e c (by unfold bse at *; simp at q1 q2; omega) (by unfold bse at *; simp at q1 q2; omega)), ⟨fun x hx => by rw [e84]; exact s2.1 x hx, fun x hx => by rw [e81]; exact s2.2 x hx⟩, s3⟩, imR_cg (by omega) h2 (fun c q1 q2 => e c (by unfold bse at *; simp at q1 q2; omega) (by unfold bse at *; simp at q1 q2; omega)) (by rw [e96]) (fun x _ => by rw [e84]) (fun x _ => by rw [e81]), imR_cg (by omega) h3 (fun c q1 q2 => e c (by unfold bse at *; simp at q1 q2; omega) (by unfold bse at *; simp at q1 q2; omega)) (by rw [e96]) (fun x _ => by rw [e84]) (fun x _ => by rw [e81]), fun k hk => shR_cg (h4 k hk) (e _ (by omega) (by omega)) (e _ (by omega) (by omega)) (by rw [e 97 (by omega) (by omega)]) (by rw [e 98 (by omega) (by omega)]) (fun i _ => by rw [e 99 (by omega) (by omega)]), ?_, by rw [e 50 (by omega) (by omega), e1 2 (by omega)]; exact h6, e2, ?_⟩
  · obtain ⟨len, a1, a2, a3, a4⟩ := h5
    refine ⟨len, a1, by rw [e 50 (by omega) (by omega)]; exact a2, by rw [e1 1 (by omega)]; exact a3, fun i hi => ?_⟩
    rw [e 51 (by omega) (by omega), e 77 (by omega) (by omega)]
    exact a4 i hi
  · obtain ⟨a1, a2, a3⟩ := h8
    exact ⟨fun k hk => by rw [e 78 (by omega) (by omega)]; exact a1 k hk, fun k hk => by rw [e 79 (by omega) (by omega)]; exact a2 k hk, fun k hk => by rw [e 80 (by omega) (by omega)]; exact a3 k hk⟩
def wlf (f : Int) (sz : Nat) : Nat := if 0 ≤ f ∧ f ≤ sz then (sz - f.toNat) / 6 else 0
theorem nj_N {f : Int} {s : Nat} (h : 0 ≤ f ∧ f ≤ s) : nI s - jI f = nI (s - f.toNat) := by
  rw [nj_sub, nI_j]
  exact congrArg jI (by omega)
theorem c_wl {M : zM} {a sz : Nat} {f : Int} (hf : rg f) (hsz : sz ≤ 64) (h : M.1 a 2 = nI sz) : fX8_wholeLines a (jI f) M = nI (wlf f sz) := by
  unfold fX8_wholeLines wlf
  rw [h, l_0, w0N hf (by omega)]
  by_cases y : 0 ≤ f ∧ f ≤ sz
  · rw [decide_eq_true y, if_neg (by decide), if_pos y, nj_N y, l_6, n_dv (by omega) (by omega) (by omega)]
  · rw [decide_eq_false y, if_pos rfl, if_neg y]
theorem wl_nn (a : Nat) (p : Int32) (M : zM) : ¬ fX8_wholeLines a p M < nI 0 := by
  obtain ⟨f, hf, rfl⟩ := jI_of p
  obtain ⟨s, hs, es⟩ := jI_of (M.1 a 2)
  have key : ∀ x : Nat, x < 2147483648 → ¬ nI x < nI 0 := fun x hx => by
    rw [nI_j, nI_j, jI_lt (by omega) (by omega)]
    omega
  unfold fX8_wholeLines
  rw [es, show (0 : Int32) = jI 0 from rfl, fw_eq f 0 s hf (by omega) hs]
  by_cases y : 0 ≤ f ∧ f ≤ s
  · obtain ⟨t, rfl⟩ : ∃ t : Nat, s = t := ⟨s.toNat, by omega⟩
    rw [decide_eq_true y, if_neg (by decide), ← nI_j, nj_N y, l_6, n_dv (by omega) (by omega) (by omega)]
    refine key _ ?_
    have : (t - f.toNat) / 6 ≤ t - f.toNat := Nat.div_le_self _ _
    omega
  · rw [decide_eq_false y, if_pos rfl]
    exact key 0 (by omega)
theorem wtn {a N : Nat} (hN : N < 2147483648) (h : a ≤ N) : fX10_within (nI a) (nI 0) (nI N) = true := by
  rw [nI_j a, w0N (by omega) hN]
  exact decide_eq_true (by omega)
def cdQ (M : zM) (k e s0 W : Nat) (f : Int) (b : Int32) (r : Int32 × zM) : Prop := r.1 = nI W ∧ (∀ c, c ≠ 0 → c ≠ 2 + 4 * e → c ≠ 2 + 4 * e + 1 → c ≠ 2 + 4 * e + 2 → c ≠ 2 + 4 * e + 3 → r.2.1 c = M.1 c) ∧ r.2.1 0 11 = b ∧ r.2.1 (2 + 4 * e) 0 = nI (s0 + W) ∧ (∀ x, x < s0 → r.2.1 (2 + 4 * e + 1) x = M.1 (2 + 4 * e + 1) x ∧ r.2.1 (2 + 4 * e + 2) x = M.1 (2 + 4 * e + 2) x ∧ ∀ p, p < 4 → r.2.1 (2 + 4 * e + 3) (x * 4 + p) = M.1 (2 + 4 * e + 3) (x * 4 + p)) ∧ ∀ i, i < W → r.2.1 (2 + 4 * e + 1) (s0 + i) = M.1 (42 + 2 * k + 1) (f.toNat + (6 * i + 0)) ∧ r.2.1 (2 + 4 * e + 2) (s0 + i) = M.1 (42 + 2 * k + 1) (f.toNat + (6 * i + 5)) ∧ ∀ p, p < 4 → r.2.1 (2 + 4 * e + 3) ((s0 + i) * 4 + p) = M.1 (42 + 2 * k + 1) (f.toNat + (6 * i + (p + 1)))
theorem rdv_0 {z : Nat → Int} {F W : Nat} (hF : F ≤ W) (hW : W ≤ 10) : rdv z F W = (0 : Int32) ↔ F = W := by
  unfold rdv
  by_cases y : F = W
  · rw [if_pos y]; exact ⟨fun _ => y, fun _ => rfl⟩
  · rw [if_neg y]
    refine ⟨fun w => ?_, fun w => absurd w y⟩
    exfalso
    revert w
    split
    · decide
    · rw [show (0 : Int32) = jI 0 from rfl, jI_eq (by omega) (by omega)]
      omega
theorem bd_10 {z : Nat → Int} {s0 W : Nat} (hs0 : s0 ≤ 10) (h : fs (bdl z s0) W 0 = W) : s0 + W ≤ 10 ∧ ∀ i, i < W → tdB z i = true := by
  have hall : ∀ i, i < W → tdB z i = true ∧ s0 + i < 10 := fun i hi => by
    have := fs_all (by omega) h i (by omega) hi
    unfold bdl at this
    rw [Bool.or_eq_false_iff] at this
    have h1 := of_decide_eq_false this.2
    have h2 := this.1
    exact ⟨by simpa using h2, by omega⟩
  refine ⟨?_, fun i hi => (hall i hi).1⟩
  by_cases w0 : W = 0
  · omega
  · have := (hall (W - 1) (by omega)).2
    omega
theorem c_rdd {M : zM} {k e n la s0 W B c7 : Nat} {f : Int} {z : Nat → Int} (hk : k < 4) (hla : la < 3) (hn : n ≤ 10) (he : e < 2) (hs0 : s0 ≤ 10) (hW : W ≤ n) (h0 : M.1 (2 + 4 * e) 0 = nI s0) (hf : 0 < W → 0 ≤ f ∧ f.toNat + 6 * W ≤ 64) (hz : ∀ j, j < 6 * W → M.1 (42 + 2 * k + 1) (f.toNat + j) = jI (z j) ∧ rg (z j))
    (h7 : (if nI n = 0 then (some (0 : Int32)) else (lt (fX8_faultAs (42 + 2 * k) (nI la) M) (fun (x32 : Int32) => some x32))) = some (nI c7))
    (h9 : (if nI c7 = 0 then (lt (fX8_wholeLines (42 + 2 * k) (jI f) M) (fun (x31 : Int32) => some (zmn (nI n) x31))) else (some (0 : Int32))) = some (nI W))
    (h10 : (if nI c7 = 0 then (if nI n ≤ nI W then (nI c7) else ((2 : Int32))) else (nI c7)) = nI B) :
    ok (fX10_read (nI k) (nI la) (jI f) (nI n) (nI e) M) (fun r => (fs (bdl z s0) W 0 = W → cdQ M k e s0 W f (nI B) r) ∧ (fs (bdl z s0) W 0 ≠ W → r = (rdv z (fs (bdl z s0) W 0) W, M))) := by
  have x3 : (Int32.ofNat 4) - (1 : Int32) = nI 3 := by decide
  have e1 : fX10_within (nI k) (0 : Int32) (nI 3) = true := wtn (by omega) (by omega)
  have e2 : fX10_within (nI la) (0 : Int32) (2 : Int32) = true := wtn (N := 2) (by omega) (by omega)
  have e3 : fX10_within (nI n) (0 : Int32) (10 : Int32) = true := wtn (N := 10) (by omega) (by omega)
  have e4 : fX10_isEnd (nI e) = true := by
    rcases (show e = 0 ∨ e = 1 by omega) with rfl | rfl <;> decide
  have e5 : fX10_linesAt (nI e) = 2 + 4 * e := by
    rcases (show e = 0 ∨ e = 1 by omega) with rfl | rfl <;> decide
  have hF := fs_bd (bdl z s0) (A := W) (i := 0) (by omega)
  unfold fX10_read fX10_isSheet fX10_isLane
  rw [x3, e1, e_lt, if_neg (by decide), e2, e_lt, if_neg (by decide), e3, e_lt, if_neg (by decide), e4, e_lt, if_neg (by decide), e_gn (by omega), e_znn (by omega), e_lt, h7, e_sq, h9, e_sq, h10, e_lt, e5, e_lt, c_ref hs0 (by omega) hf hz h0, e_sq]
  by_cases y : fs (bdl z s0) W 0 = W
  · rw [if_pos ((rdv_0 hF.2 (by omega)).2 y)]
    refine ok_sq (c_cpl (M := M) (k := k) (e := e) (W := W) (s0 := s0) (f := f) hk he (bd_10 hs0 y).1 hf h0) ?_
    rintro M1 ⟨o1, o2, o3, o4⟩
    rw [e_lt]
    refine ok_some ⟨fun _ => ⟨rfl, fun c w0 w1 w2 w3 w4 => by rw [e_w1 _ _ _ w0]; exact o1 c w1 w2 w3 w4, by rw [e_w1s, e_uT rfl], by rw [e_w1 _ _ _ (by omega)]; exact o2, fun x hx => ?_, fun i hi => ?_⟩, fun q => absurd y q⟩
    · rw [e_w1 _ _ _ (by omega), e_w1 _ _ _ (by omega), e_w1 _ _ _ (by omega)]
      exact o3 x hx
    · rw [e_w1 _ _ _ (by omega), e_w1 _ _ _ (by omega), e_w1 _ _ _ (by omega)]
      exact o4 i hi
  · rw [if_neg (fun w => y ((rdv_0 hF.2 (by omega)).1 w))]
    exact ok_some ⟨fun q => absurd q y, fun _ => rfl⟩
theorem tdB_v {z : Nat → Int} {i : Nat} (h : tdB z i = true) : (0 ≤ z (6 * i + 0) ∧ z (6 * i + 0) ≤ 999) ∧ (0 ≤ z (6 * i + 5) ∧ z (6 * i + 5) ≤ 6) ∧ ∀ p, p < 4 → 0 ≤ z (6 * i + (p + 1)) ∧ z (6 * i + (p + 1)) ≤ 16 := by
  unfold tdB tdm at h
  rw [Bool.and_eq_true, Bool.and_eq_true] at h
  obtain ⟨⟨h1, h2⟩, h3⟩ := h
  have h3 : hj (tdq z i) 4 = false := by simpa using h3
  refine ⟨of_decide_eq_true h1, of_decide_eq_true h2, fun p hp => ?_⟩
  have := hj_f.1 h3 p hp
  unfold tdq at this
  simpa using this
theorem rd_fin {M : zM} (h : RR M) {ρ : Nat → Int} {S : Nat → Nat} (hsc : sc M 0 ρ S) {k e n la W B c7 : Nat} {f : Int} {z : Nat → Int} {bf : Nat → Nat} (hk : k < 4) (hla : la < 3) (hn : n ≤ 10) (he : e < 2) (hW : W ≤ n) (hf : 0 < W → 0 ≤ f ∧ f.toNat + 6 * W ≤ 64) (hz : ∀ j, j < 6 * W → M.1 99 (64 * k + (f.toNat + j)) = jI (z j) ∧ M.1 (42 + 2 * k + 1) (f.toNat + j) = jI (z j) ∧ rg (z j)) (hbf : ∀ i, bf i < 4)
    (hb : ∀ M' : zM, M'.1 97 = M.1 97 → M'.1 98 = M.1 98 → ∀ i : Nat, i < 60 → (if (M'.1 97 (zn (nI k))) = (-4 : Int32) then (some (1 : Int32)) else (grd (zix (nI k) 4) (if (M'.1 97 (zn (nI k))) = nI la then (grd (zix (nI k) 4) (lt (fX11_in ((jI f).toInt64 + (nI i).toInt64) (0 : Int64) (((M'.1 98 (zn (nI k))) - (1 : Int32))).toInt64) (fun (b107 : Bool) => if b107 = false then (some (2 : Int32)) else (some (0 : Int32))))) else (some (3 : Int32))))) = some (nI (bf i)))
    (H1 : ∀ i, i < 6 * n → (∀ i', i' < i → bf i' = 0) → bf i = 0 → i % 6 = 5 → i / 6 < W) (H2 : ∀ i, i < 6 * n → (∀ i', i' < i → bf i' = 0) → bf i ≠ 0 → bf i = B ∧ i / 6 = W) (H3 : (∀ i, i < 6 * n → bf i = 0) → B = 0 ∧ W = n)
    (h7 : (if nI n = 0 then (some (0 : Int32)) else (lt (fX8_faultAs (42 + 2 * k) (nI la) M) (fun (x32 : Int32) => some x32))) = some (nI c7))
    (h9 : (if nI c7 = 0 then (lt (fX8_wholeLines (42 + 2 * k) (jI f) M) (fun (x31 : Int32) => some (zmn (nI n) x31))) else (some (0 : Int32))) = some (nI W))
    (h10 : (if nI c7 = 0 then (if nI n ≤ nI W then (nI c7) else ((2 : Int32))) else (nI c7)) = nI B) :
    AG2 (fX10_read (nI k) (nI la) (jI f) (nI n) (nI e)) (fX11_read (nI k) (nI la) (jI f) (nI n) (nI e)) M := by
  obtain ⟨h1, h2, hV⟩ := id hsc
  have h1 : cR M 1 ρ S := h1
  have v1 := hV.1
  have hS10 : ∀ e', e' < 2 → S (64 + e') ≤ 10 := fun e' he' => by
    rcases (show e' = 0 ∨ e' = 1 by omega) with rfl | rfl
    · exact v1.1
    · exact v1.2
  obtain ⟨s0, hs⟩ : ∃ s0, s0 = S (64 + e) := ⟨_, rfl⟩
  have hs0 : s0 ≤ 10 := by rw [hs]; exact hS10 e he
  have c0 : M.1 (2 + 4 * e) 0 = nI s0 := by rw [hs]; exact (cR_L h1 he).1
  obtain ⟨⟨v, M1⟩, c1, c2, c3⟩ := c_rdd (B := B) hk hla hn he hs0 hW c0 hf (fun j hj => (hz j hj).2) h7 h9 h10
  by_cases y : fs (bdl z s0) W 0 = W
  rotate_left
  · have r0 : M.1 84 (64 + e) = nI s0 := by rw [hs]; exact rR_s h2 (by omega)
    obtain ⟨⟨v2, M2⟩, d1, d2, d3⟩ := r_rd (B := B) hk hla hn he hs0 hW r0 hf (fun j hj => ⟨(hz j hj).1, (hz j hj).2.2⟩) hbf (hb M rfl rfl) H1 H2 H3
    refine ⟨rdv z (fs (bdl z s0) W 0) W, M, M, ?_, ?_, h⟩
    · rw [c1, c3 y]
    · rw [d1, d3 y]
  obtain ⟨a1, a2, a3, a4, a5, a6⟩ := c2 y
  dsimp only at a1 a2 a3 a4 a5 a6
  obtain ⟨hsW, htd⟩ := bd_10 hs0 y
  have k84 : M1.1 84 = M.1 84 := a2 84 (by omega) (by omega) (by omega) (by omega) (by omega)
  have k99 : M1.1 99 = M.1 99 := a2 99 (by omega) (by omega) (by omega) (by omega) (by omega)
  have r0 : M1.1 84 (64 + e) = nI s0 := by rw [k84, hs]; exact rR_s h2 (by omega)
  obtain ⟨⟨v2, M2⟩, d1, d2, _⟩ := r_rd (M := M1) (B := B) hk hla hn he hs0 hW r0 hf (fun j hj => ⟨by rw [k99]; exact (hz j hj).1, (hz j hj).2.2⟩) hbf (hb M1 (a2 97 (by omega) (by omega) (by omega) (by omega) (by omega)) (a2 98 (by omega) (by omega) (by omega) (by omega) (by omega))) H1 H2 H3
  obtain ⟨b1, b2, b3, b4, b5, b6, b7⟩ := d2 y
  dsimp only at b1 b2 b3 b4 b5 b6 b7
  refine ⟨nI W, M1, M2, by rw [c1, a1], by rw [d1, b1], ?_⟩
  -- the new scene
  have hzn : ∀ i j, i < W → j < 6 → jI (z (6 * i + j)) = nI (z (6 * i + j)).toNat ∧ 0 ≤ z (6 * i + j) := fun i j hi hj => by
    have h0' : 0 ≤ z (6 * i + j) := by
      obtain ⟨t1, t2, t3⟩ := tdB_v (htd i hi)
      by_cases j0 : j = 0
      · rw [j0]; exact t1.1
      · by_cases j5 : j = 5
        · rw [j5]; exact t2.1
        · have := (t3 (j - 1) (by omega)).1
          rw [show j - 1 + 1 = j by omega] at this
          exact this
    refine ⟨?_, h0'⟩
    rw [nI_j]
    exact congrArg jI (by omega)
  obtain ⟨S', q1, q2, q3⟩ : ∃ S' : Nat → Nat, (∀ x, x ≠ 64 + e → (x < 70 + 60 * e + 6 * s0 ∨ 70 + 60 * e + 6 * (s0 + W) ≤ x) → S' x = S x) ∧ S' (64 + e) = s0 + W ∧ ∀ i j, i < W → j < 6 → S' (70 + 60 * e + 6 * (s0 + i) + j) = (z (6 * i + j)).toNat := by
    refine ⟨fun x => if x = 64 + e then s0 + W else if 70 + 60 * e + 6 * s0 ≤ x ∧ x < 70 + 60 * e + 6 * (s0 + W) then (z (x - (70 + 60 * e + 6 * s0))).toNat else S x, fun x w1 w2 => ?_, ?_, fun i j hi hj => ?_⟩
    · (try dsimp only); rw [if_neg w1, if_neg (by omega)]
    · (try dsimp only); rw [if_pos rfl]
    · (try dsimp only); rw [if_neg (by omega), if_pos (by omega), show 70 + 60 * e + 6 * (s0 + i) + j - (70 + 60 * e + 6 * s0) = 6 * i + j by omega]
  have h43 : ∀ i j, i < W → j < 6 → M.1 (42 + 2 * k + 1) (f.toNat + (6 * i + j)) = nI (S' (70 + 60 * e + 6 * (s0 + i) + j)) := fun i j hi hj => by
    rw [(hz (6 * i + j) (by omega)).2.1, (hzn i j hi hj).1, q3 i j hi hj]
  have hM2 : ∀ c, c ≠ 84 → c ≠ 76 → M2.1 c = M1.1 c := b2
  have hend : ∀ e', e' < 2 → cL M2 (2 + 4 * e') e' S' := fun e' he' => by
    obtain ⟨b1', b2'⟩ := cR_L h1 he'
    have hS10' := hS10 e' he'
    by_cases ee : e' = e
    · subst ee
      refine ⟨by rw [q2, hM2 _ (by omega) (by omega)]; exact a4, fun i' hi' => ?_⟩
      rw [q2] at hi'
      by_cases zz : i' < s0
      · obtain ⟨c1', c2', c3'⟩ := b2' i' (by omega)
        obtain ⟨g1, g2, g3⟩ := a5 i' zz
        refine ⟨?_, ?_, fun p hp => ?_⟩
        · rw [q1 _ (by omega) (by omega), hM2 _ (by omega) (by omega), g1]; exact c1'
        · rw [q1 _ (by omega) (by omega), hM2 _ (by omega) (by omega), g2]; exact c2'
        · rw [q1 _ (by omega) (by omega), hM2 _ (by omega) (by omega), g3 p hp]; exact c3' p hp
      · obtain ⟨i, rfl⟩ : ∃ i, i' = s0 + i := ⟨i' - s0, by omega⟩
        obtain ⟨g1, g2, g3⟩ := a6 i (by omega)
        refine ⟨?_, ?_, fun p hp => ?_⟩
        · rw [hM2 _ (by omega) (by omega), g1, h43 i 0 (by omega) (by omega)]
        · rw [hM2 _ (by omega) (by omega), g2, h43 i 5 (by omega) (by omega)]
        · rw [hM2 _ (by omega) (by omega), g3 p hp, h43 i (p + 1) (by omega) (by omega)]
    · have hca : ∀ c, 2 + 4 * e' ≤ c → c ≤ 2 + 4 * e' + 3 → M2.1 c = M.1 c := fun c w1 w2 => by
        rw [hM2 c (by omega) (by omega), a2 c (by omega) (by omega) (by omega) (by omega) (by omega)]
      refine ⟨?_, fun i' hi' => ?_⟩
      · rw [q1 _ (by omega) (by omega), hca _ (by omega) (by omega)]
        exact b1'
      · rw [q1 _ (by omega) (by omega)] at hi'
        obtain ⟨c1', c2', c3'⟩ := b2' i' hi'
        refine ⟨?_, ?_, fun p hp => ?_⟩
        · rw [q1 _ (by omega) (by omega), hca _ (by omega) (by omega)]; exact c1'
        · rw [q1 _ (by omega) (by omega), hca _ (by omega) (by omega)]; exact c2'
        · rw [q1 _ (by omega) (by omega), hca _ (by omega) (by omega)]; exact c3' p hp
  obtain ⟨Mx, hMx⟩ : ∃ Mx, Mx = zwA (zwA M2 0 (M.1 0)) 76 (M.1 76) := ⟨_, rfl⟩
  have x0 : Mx.1 0 = M.1 0 := by rw [hMx, e_a1 _ _ (by omega), e_a1s]
  have x76 : Mx.1 76 = M.1 76 := by rw [hMx, e_a1s]
  have xc : ∀ c, c ≠ 0 → c ≠ 76 → Mx.1 c = M2.1 c := fun c w1 w2 => by rw [hMx, e_a1 _ _ w2, e_a1 _ _ w1]
  have xm : ∀ c, c ≠ 84 → ¬ (2 ≤ c ∧ c ≤ 9) → Mx.1 c = M.1 c := fun c w1 w2 => by
    by_cases w3 : c = 0
    · rw [w3]; exact x0
    · by_cases w4 : c = 76
      · rw [w4]; exact x76
      · rw [xc c w3 w4, hM2 c w1 w4, a2 c w3 (by omega) (by omega) (by omega) (by omega)]
  have x84 : Mx.1 84 = M2.1 84 := xc 84 (by omega) (by omega)
  have xend : ∀ e', e' < 2 → cL Mx (2 + 4 * e') e' S' := fun e' he' => by
    obtain ⟨g1, g2⟩ := hend e' he'
    refine ⟨by rw [xc _ (by omega) (by omega)]; exact g1, fun i hi => ?_⟩
    rw [xc _ (by omega) (by omega), xc _ (by omega) (by omega), xc _ (by omega) (by omega)]
    exact g2 i hi
  have hRx : RR Mx := by
    refine RR_sc h (fun c w => xm c (by omega) (by omega)) (fun x hx => ?_) (fun x hx => by rw [xm 81 (by omega) (by omega)]) ⟨ρ, S', sc_lines hsc (xend 0 (by omega)) (xend 1 (by omega)) (fun c w1 w2 => xm c (by omega) (by omega)) (xm 81 (by omega) (by omega)) (fun x hx => ?_) (fun x hx => q1 x (by omega) (by omega)) ?_ (fun e' i' he' hi' => ?_)⟩
    · rw [x84, b6 x (by omega) (by omega), k84]
    · rw [x84]
      by_cases w1 : x = 64 + e
      · rw [w1, q2]; exact b5
      · by_cases w2 : x < 70 + 60 * e + 6 * s0 ∨ 70 + 60 * e + 6 * (s0 + W) ≤ x
        · rw [q1 x w1 w2, b6 x w1 w2, k84]
          exact rR_s h2 hx
        · obtain ⟨i, j, hi, hj, rfl⟩ : ∃ i j, i < W ∧ j < 6 ∧ x = 70 + 60 * e + 6 * (s0 + i) + j := ⟨(x - (70 + 60 * e + 6 * s0)) / 6, (x - (70 + 60 * e + 6 * s0)) % 6, by omega, by omega, by omega⟩
          rw [b7 i j hi hj, k99, (hz (6 * i + j) (by omega)).1, (hzn i j hi hj).1, q3 i j hi hj]
    · rcases (show e = 0 ∨ e = 1 by omega) with rfl | rfl
      · refine ⟨by have : S' 64 = s0 + W := q2; omega, ?_⟩
        rw [q1 65 (by omega) (by omega)]; exact v1.2
      · refine ⟨?_, by have : S' 65 = s0 + W := q2; omega⟩
        rw [q1 64 (by omega) (by omega)]; exact v1.1
    · have hS10' := hS10 e' he'
      by_cases ee : e' = e
      · subst ee
        rw [q2] at hi'
        by_cases zz : i' < s0
        · obtain ⟨c1', c2', c3'⟩ := hV.2.1 e' i' he' (by omega)
          exact ⟨by rw [q1 _ (by omega) (by omega)]; exact c1', by rw [q1 _ (by omega) (by omega)]; exact c2', fun p hp => by rw [q1 _ (by omega) (by omega)]; exact c3' p hp⟩
        · obtain ⟨i, rfl⟩ : ∃ i, i' = s0 + i := ⟨i' - s0, by omega⟩
          obtain ⟨t1, t2, t3⟩ := tdB_v (htd i (by omega))
          exact ⟨by rw [q3 i 0 (by omega) (by omega)]; omega, by rw [q3 i 5 (by omega) (by omega)]; omega, fun p hp => by rw [q3 i (p + 1) (by omega) (by omega)]; have := t3 p hp; omega⟩
      · rw [q1 _ (by omega) (by omega)] at hi'
        obtain ⟨c1', c2', c3'⟩ := hV.2.1 e' i' he' hi'
        exact ⟨by rw [q1 _ (by omega) (by omega)]; exact c1', by rw [q1 _ (by omega) (by omega)]; exact c2', fun p hp => by rw [q1 _ (by omega) (by omega)]; exact c3' p hp⟩
  refine RR_tn hRx (fun c w1 w2 => (xc c w1 w2).symm) (fun x hx => ?_) ?_
  · rw [b3 x hx, a2 76 (by omega) (by omega) (by omega) (by omega) (by omega), x76]
  · rw [hM2 0 (by omega) (by omega), a3, b4]
theorem q_read {M : zM} (h : RR M) (p q r s u : Int32) : AG2 (fX10_read p q r s u) (fX11_read p q r s u) M := by
  obtain ⟨ρ, S, hsc⟩ := h.1
  have x3 : (Int32.ofNat 4) - (1 : Int32) = nI 3 := by decide
  rcases ar p 3 3 (by omega) rfl with ⟨k, hk, rfl, e1, e2⟩ | ⟨e1, e2, _⟩
  rotate_left
  · refine ⟨jI (-1), M, M, ?_, ?_, h⟩
    · unfold fX10_read fX10_isSheet
      rw [x3, l_0, e1]; rfl
    · unfold fX11_read
      rw [L_0, L_3, e2]; rfl
  rcases ar q 2 2 (by omega) rfl with ⟨la', hla', rfl, e3, e4⟩ | ⟨e3, e4, _⟩
  rotate_left
  · refine ⟨jI (-1), M, M, ?_, ?_, h⟩
    · unfold fX10_read fX10_isSheet fX10_isLane
      rw [x3, l_0, l_2, e1, e3]; rfl
    · unfold fX11_read
      rw [L_0, L_3, L_2, e2, e4]; rfl
  rcases ar s 10 10 (by omega) rfl with ⟨n, hn, rfl, e5, e6⟩ | ⟨e5, e6, _⟩
  rotate_left
  · refine ⟨jI (-1), M, M, ?_, ?_, h⟩
    · unfold fX10_read fX10_isSheet fX10_isLane
      rw [x3, l_0, l_2, l_10, e1, e3, e5]; rfl
    · unfold fX11_read
      rw [L_0, L_3, L_2, L_10, e2, e4, e6]; rfl
  rcases en u with ⟨e, he, rfl, e7, e8, _⟩ | ⟨e7, e8⟩
  rotate_left
  · refine ⟨jI (-1), M, M, ?_, ?_, h⟩
    · unfold fX10_read fX10_isSheet fX10_isLane
      rw [x3, l_0, l_2, l_10, e1, e3, e5, e7]; rfl
    · unfold fX11_read
      rw [L_0, L_3, L_2, L_10, e2, e4, e6, e8]; rfl
  obtain ⟨f, hf, rfl⟩ := jI_of r
  obtain ⟨b, b0, b1, b2⟩ := h.2.2.2.1 k (by omega)
  -- a fault of the sheet as a whole
  have hflt : ∀ y : Nat, 0 < y → y < 4 → fX8_faultAs (42 + 2 * k) (nI la') M = nI y → (∀ M' : zM, M'.1 97 = M.1 97 → M'.1 98 = M.1 98 → ∀ i : Nat, i < 60 → (if (M'.1 97 (zn (nI k))) = (-4 : Int32) then (some (1 : Int32)) else (grd (zix (nI k) 4) (if (M'.1 97 (zn (nI k))) = nI la' then (grd (zix (nI k) 4) (lt (fX11_in ((jI f).toInt64 + (nI i).toInt64) (0 : Int64) (((M'.1 98 (zn (nI k))) - (1 : Int32))).toInt64) (fun (b107 : Bool) => if b107 = false then (some (2 : Int32)) else (some (0 : Int32))))) else (some (3 : Int32))))) = some (nI y)) → AG2 (fX10_read (nI k) (nI la') (jI f) (nI n) (nI e)) (fX11_read (nI k) (nI la') (jI f) (nI n) (nI e)) M := fun y y1 y2 hfa hb => by
    by_cases n0 : n = 0
    · refine rd_fin h hsc (W := 0) (B := 0) (c7 := 0) (z := fun _ => 0) (bf := fun _ => y) (by omega) (by omega) hn he (by omega) (fun w => absurd w (by omega)) (fun j hj => absurd hj (by omega)) (fun _ => y2) hb (fun i hi => absurd hi (by omega)) (fun i hi => absurd hi (by omega)) (fun _ => ⟨rfl, n0.symm⟩) ?_ ?_ ?_
      · rw [n0, if_pos (show nI 0 = (0 : Int32) from rfl)]; rfl
      · rw [if_pos (show nI 0 = (0 : Int32) from rfl), e_lt]
        unfold zmn
        rw [n0, if_neg (wl_nn _ _ _)]
      · rw [if_pos (show nI 0 = (0 : Int32) from rfl), n0, nn_leT (by omega)]
    · have hy0 : ¬ nI y = (0 : Int32) := by rw [l_0, nI_ne (by omega) (by omega)]; omega
      refine rd_fin h hsc (W := 0) (B := y) (c7 := y) (z := fun _ => 0) (bf := fun _ => y) (by omega) (by omega) hn he (by omega) (fun w => absurd w (by omega)) (fun j hj => absurd hj (by omega)) (fun _ => y2) hb (fun i hi w1 w2 => absurd w2 (by omega)) (fun i hi w1 w2 => ⟨rfl, ?_⟩) (fun w => absurd (w 0 (by omega)) (by omega)) ?_ ?_ ?_
      · by_cases i0 : i = 0
        · rw [i0]
        · exact absurd (w1 0 (by omega)) (by omega)
      · rw [if_neg (show ¬ nI n = (0 : Int32) by rw [l_0, nI_ne (by omega) (by omega)]; exact n0), hfa, e_lt]
      · rw [if_neg hy0]; rfl
      · rw [if_neg hy0]
  cases b
  · have b1 := b1 rfl
    refine hflt 1 (by omega) (by omega) ?_ (fun M' w1 w2 i hi => ?_)
    · unfold fX8_faultAs
      rw [b0]; rfl
    · rw [w1, e_znn (by omega), b1, m_4, if_pos rfl]; rfl
  obtain ⟨la, sz, a1, a2, a3, a4, a5, a6, a7⟩ := b2 rfl
  by_cases el : la = la'
  rotate_left
  · refine hflt 3 (by omega) (by omega) ?_ (fun M' w1 w2 i hi => ?_)
    · unfold fX8_faultAs
      rw [b0, a3, if_neg (by decide), nn_eqF (by omega)]; rfl
    · rw [w1, e_znn (by omega), a4, m_4, nj_eqF (by omega), e_gn (by omega), nn_eqF (by omega)]; rfl
  subst el
  have hwl : wlf f sz = (if 0 ≤ f ∧ f ≤ sz then (sz - f.toNat) / 6 else 0) := rfl
  obtain ⟨W, hWe⟩ : ∃ W, W = (if wlf f sz < n then wlf f sz else n) := ⟨_, rfl⟩
  have hWb : W ≤ n ∧ W ≤ wlf f sz ∧ (W = n ∨ W = wlf f sz) := by
    rw [hWe]
    split <;> omega
  obtain ⟨z, hz0⟩ : ∃ z : Nat → Int, z = fun w => (M.1 99 (64 * k + (f.toNat + w))).toInt := ⟨_, rfl⟩
  have hz99 : ∀ w : Nat, M.1 99 (64 * k + (f.toNat + w)) = jI (z w) ∧ rg (z w) := fun w => by
    have ez : z w = (M.1 99 (64 * k + (f.toNat + w))).toInt := by rw [hz0]
    have e1 := Int32.le_toInt (M.1 99 (64 * k + (f.toNat + w)))
    have e2 := Int32.toInt_lt (M.1 99 (64 * k + (f.toNat + w)))
    exact ⟨by rw [ez]; exact (Int32.ofInt_toInt _).symm, by omega⟩
  have hfW : 0 < W → (0 ≤ f ∧ f ≤ sz) ∧ f.toNat + 6 * W ≤ sz := fun w => by
    by_cases y : 0 ≤ f ∧ f ≤ sz
    · rw [if_pos y] at hwl
      exact ⟨y, by omega⟩
    · rw [if_neg y] at hwl
      omega
  have hfa : fX8_faultAs (42 + 2 * k) (nI la) M = (0 : Int32) := by
    unfold fX8_faultAs
    rw [b0, a3, if_neg (by decide), if_pos rfl]
  refine rd_fin h hsc (W := W) (B := if W < n then 2 else 0) (c7 := 0) (z := z) (bf := fun i => if 0 ≤ f + (i : Int) ∧ f + (i : Int) < sz then 0 else 2) (by omega) a1 hn he hWb.1 (fun w => ⟨(hfW w).1.1, by have := (hfW w).2; omega⟩) (fun j hj => ⟨(hz99 j).1, by rw [a7 _ (by have := (hfW (by omega)).2; omega)]; exact (hz99 j).1, (hz99 j).2⟩) (fun i => by (try dsimp only); split <;> omega) (fun M' w1 w2 i hi => ?_) (fun i hi w1 w2 w3 => ?_) (fun i hi w1 w2 => ?_) (fun w => ?_) ?_ ?_ ?_
  · have hs1 : (nI sz - (1 : Int32)).toInt64 = jL ((sz : Int) - 1) := by
      rw [l_1, nI_j, nI_j, jI_sub, jI_l (by omega)]
      rfl
    rw [w1, w2, e_znn (by omega), a4, a6, m_4, nj_eqF (by omega), e_gn (by omega), if_pos rfl, e_gn (by omega), hs1, j_l hf, n_l (by omega), jL_add, L_0, fi_eq _ _ _ (by omega) (by omega) (by omega), e_lt]
    by_cases y : 0 ≤ f + (i : Int) ∧ f + (i : Int) < sz
    · rw [decide_eq_true (by omega), if_neg (by decide), if_pos y]; rfl
    · rw [decide_eq_false (by omega), if_pos rfl, if_neg y]; rfl
  · have f0 : 0 ≤ f := by
      by_cases i0 : i = 0
      · omega
      · have := w1 0 (by omega)
        (try dsimp only at this)
        by_cases y : 0 ≤ f + ((0 : Nat) : Int) ∧ f + ((0 : Nat) : Int) < sz
        · omega
        · rw [if_neg y] at this; omega
    (try dsimp only at w2)
    by_cases y : 0 ≤ f + (i : Int) ∧ f + (i : Int) < sz
    · rw [if_pos (show 0 ≤ f ∧ f ≤ sz by omega)] at hwl
      omega
    · rw [if_neg y] at w2; omega
  · (try dsimp only at w2)
    by_cases y : 0 ≤ f + (i : Int) ∧ f + (i : Int) < sz
    · rw [if_pos y] at w2; omega
    · have hW : i / 6 = W := by
        by_cases i0 : i = 0
        · by_cases y2 : 0 ≤ f ∧ f ≤ sz
          · rw [if_pos y2] at hwl
            omega
          · rw [if_neg y2] at hwl
            omega
        · have g0 := w1 0 (by omega)
          have g1 := w1 (i - 1) (by omega)
          (try dsimp only at g0 g1)
          by_cases y0 : 0 ≤ f + ((0 : Nat) : Int) ∧ f + ((0 : Nat) : Int) < sz
          · by_cases y1 : 0 ≤ f + ((i - 1 : Nat) : Int) ∧ f + ((i - 1 : Nat) : Int) < sz
            · rw [if_pos (show 0 ≤ f ∧ f ≤ sz by omega)] at hwl
              omega
            · rw [if_neg y1] at g1; omega
          · rw [if_neg y0] at g0; omega
      refine ⟨?_, hW⟩
      (try dsimp only)
      rw [if_neg y, if_pos (by omega)]
  · have hW : W = n := by
      by_cases n0 : n = 0
      · omega
      · have g0 := w 0 (by omega)
        have g1 := w (6 * n - 1) (by omega)
        (try dsimp only at g0 g1)
        by_cases y0 : 0 ≤ f + ((0 : Nat) : Int) ∧ f + ((0 : Nat) : Int) < sz
        · by_cases y1 : 0 ≤ f + ((6 * n - 1 : Nat) : Int) ∧ f + ((6 * n - 1 : Nat) : Int) < sz
          · rw [if_pos (show 0 ≤ f ∧ f ≤ sz by omega)] at hwl
            omega
          · rw [if_neg y1] at g1; omega
        · rw [if_neg y0] at g0; omega
    exact ⟨if_neg (by omega), hW⟩
  · by_cases n0 : n = 0
    · rw [n0, if_pos (show nI 0 = (0 : Int32) from rfl)]; rfl
    · rw [if_neg (show ¬ nI n = (0 : Int32) by rw [l_0, nI_ne (by omega) (by omega)]; exact n0), hfa, e_lt]; rfl
  · have hwb : wlf f sz ≤ 64 := by
      rw [hwl]
      split <;> omega
    rw [if_pos (show nI 0 = (0 : Int32) from rfl), c_wl hf a2 a5, e_lt]
    unfold zmn
    rw [hWe]
    by_cases y : wlf f sz < n
    · rw [nn_ltT (by omega), if_pos y]
    · rw [nn_ltF (by omega), if_neg y]
  · rw [if_pos (show nI 0 = (0 : Int32) from rfl)]
    by_cases y : W < n
    · rw [nn_leF (by omega), if_pos y]; rfl
    · rw [nn_leT (by omega), if_neg y]
