theorem at_R {k w j : Nat} {f : Int} (h : 0 ≤ f) : (((64 : Int32) * nI k + jI f) + ((6 : Int32) * nI w)) + nI j = nI (64 * k + (f.toNat + (6 * w + j))) := by
  rw [l_6, n_mul, at_N2 h]
theorem r_lo {M : zM} {e n c : Nat} (he : e < 2) (h : M.1 84 (64 + e) = nI n) : fX11_linesOf (nI e) (nI c) M = some (nI (n + c)) := by
  unfold fX11_linesOf
  rw [l_64, n_add, e_gn (by omega), e_znn (by omega), h, n_add]
def rdQ (M : zM) (k e s0 W : Nat) (f : Int) (b : Int32) (r : Int32 × zM) : Prop := r.1 = nI W ∧ (∀ c, c ≠ 84 → c ≠ 76 → r.2.1 c = M.1 c) ∧ (∀ x, x ≠ 32 → r.2.1 76 x = M.1 76 x) ∧ r.2.1 76 32 = b ∧ r.2.1 84 (64 + e) = nI (s0 + W) ∧ (∀ x, x ≠ 64 + e → (x < 70 + 60 * e + 6 * s0 ∨ 70 + 60 * e + 6 * (s0 + W) ≤ x) → r.2.1 84 x = M.1 84 x) ∧ ∀ i j, i < W → j < 6 → r.2.1 84 (70 + 60 * e + 6 * (s0 + i) + j) = M.1 99 (64 * k + (f.toNat + (6 * i + j)))
theorem r_exit {M : zM} {k e s0 W : Nat} {f : Int} (b : Int32) (hk : k < 4) (he : e < 2) (hs0 : s0 + W ≤ 10) (hf : 0 < W → 0 ≤ f ∧ f.toNat + 6 * W ≤ 64) (h0 : M.1 84 (64 + e) = nI s0) : ok (sq (α := zM) (zlp (α := Int32 × zM) (β := zM) (fun rec79 => (fun (u96 : Int32 × zM) => match u96 with | (x77, M78) => if nI W ≤ x77 then (some M78) else (sq (α := zM) (zlp (α := Int32 × zM) (β := zM) (fun rec85 => (fun (u93 : Int32 × zM) => match u93 with | (x83, M84) => if (6 : Int32) ≤ x83 then (some M84) else (sq (fX11_linesOf (nI e) (0 : Int32) M84) (fun (x89 : Int32) => grd (zix (((((64 : Int32) * nI k) + jI f) + ((6 : Int32) * x77)) + x83) 256) (sq (fX11_setIts (nI e) x89 x83 (M84.1 99 (zn (((((64 : Int32) * nI k) + jI f) + ((6 : Int32) * x77)) + x83))) M84) (fun (M90 : zM) => rec85 ((x83 + (1 : Int32)), M90))))))) zFu ((0 : Int32), M78)) (fun (M88 : zM) => lt (((64 : Int32) + nI e)) (fun (x91 : Int32) => grd (zix x91 660) (grd (zix x91 660) (lt (zwI M88 84 (zn x91) ((M88.1 84 (zn x91)) + (1 : Int32))) (fun (M92 : zM) => rec79 ((x77 + (1 : Int32)), M92))))))))) zFu ((0 : Int32), M)) (fun (M82 : zM) => lt (zwI M82 76 32 b) (fun (M95 : zM) => some (nI W, M95)))) (rdQ M k e s0 W f b) := by
  refine ok_sq (P := fun M' => (∀ c, c ≠ 84 → M'.1 c = M.1 c) ∧ M'.1 84 (64 + e) = nI (s0 + W) ∧ (∀ x, x ≠ 64 + e → (x < 70 + 60 * e + 6 * s0 ∨ 70 + 60 * e + 6 * (s0 + W) ≤ x) → M'.1 84 x = M.1 84 x) ∧ ∀ i j, i < W → j < 6 → M'.1 84 (70 + 60 * e + 6 * (s0 + i) + j) = M.1 99 (64 * k + (f.toNat + (6 * i + j)))) ?_ ?_
  · refine ok_up W (fun w x => ∃ M', x = (nI w, M') ∧ (∀ c, c ≠ 84 → M'.1 c = M.1 c) ∧ M'.1 84 (64 + e) = nI (s0 + w) ∧ (∀ x, x ≠ 64 + e → (x < 70 + 60 * e + 6 * s0 ∨ 70 + 60 * e + 6 * (s0 + w) ≤ x) → M'.1 84 x = M.1 84 x) ∧ ∀ i j, i < w → j < 6 → M'.1 84 (70 + 60 * e + 6 * (s0 + i) + j) = M.1 99 (64 * k + (f.toNat + (6 * i + j)))) ?_ ?_ zFu 0 _ (by omega) (by unfold zFu; omega) ⟨M, rfl, fun _ _ => rfl, h0, fun _ _ _ => rfl, fun i j hi => absurd hi (by omega)⟩
    · rintro rec w x hw ⟨M1, rfl, o1, o2, o3, o4⟩ hrec
      obtain ⟨f0, f1⟩ := hf (by omega)
      (try dsimp only)
      rw [nn_leF (by omega)]
      refine ok_sq (P := fun M' => (∀ c, c ≠ 84 → M'.1 c = M.1 c) ∧ M'.1 84 (64 + e) = nI (s0 + w) ∧ (∀ x, x ≠ 64 + e → (x < 70 + 60 * e + 6 * s0 ∨ 70 + 60 * e + 6 * (s0 + (w + 1)) ≤ x) → M'.1 84 x = M.1 84 x) ∧ ∀ i j, i < w + 1 → j < 6 → M'.1 84 (70 + 60 * e + 6 * (s0 + i) + j) = M.1 99 (64 * k + (f.toNat + (6 * i + j)))) ?_ ?_
      · refine ok_up 6 (fun y x => ∃ M', x = (nI y, M') ∧ (∀ c, c ≠ 84 → M'.1 c = M.1 c) ∧ M'.1 84 (64 + e) = nI (s0 + w) ∧ (∀ x, x ≠ 64 + e → (x < 70 + 60 * e + 6 * s0 ∨ 70 + 60 * e + 6 * (s0 + w) + y ≤ x) → M'.1 84 x = M.1 84 x) ∧ (∀ i j, i < w → j < 6 → M'.1 84 (70 + 60 * e + 6 * (s0 + i) + j) = M.1 99 (64 * k + (f.toNat + (6 * i + j)))) ∧ ∀ j, j < y → M'.1 84 (70 + 60 * e + 6 * (s0 + w) + j) = M.1 99 (64 * k + (f.toNat + (6 * w + j)))) ?_ ?_ zFu 0 _ (by omega) (by unfold zFu; omega) ⟨M1, rfl, o1, o2, fun x w1 w2 => o3 x w1 (by omega), o4, fun j hj => absurd hj (by omega)⟩
        · rintro rec2 y x hy ⟨M2, rfl, q1, q2, q3, q4, q5⟩ hrec2
          have hlo := r_lo (c := 0) he q2
          have hlo : fX11_linesOf (nI e) (0 : Int32) M2 = some (nI (s0 + w)) := hlo
          (try dsimp only)
          rw [l_6, nn_leF (by omega), ← l_6, hlo, e_sq, at_R f0, e_gn (by omega), e_znn (by omega), q1 99 (by omega), r_set _ he (by omega) hy, e_sq, l_1, n_add]
          refine hrec2 _ ⟨_, rfl, fun c hc => by rw [e_w1 _ _ _ hc]; exact q1 c hc, by rw [e_w1s, e_uF (by omega)]; exact q2, fun x w1 w2 => by rw [e_w1s, e_uF (by omega)]; exact q3 x w1 (by omega), fun i j hi hj => by rw [e_w1s, e_uF (by omega)]; exact q4 i j hi hj, fun j hj => ?_⟩
          rw [e_w1s]
          by_cases z : j = y
          · rw [e_uT (by omega), z]
          · rw [e_uF (by omega)]
            exact q5 j (by omega)
        · rintro rec2 x ⟨M2, rfl, q1, q2, q3, q4, q5⟩
          (try dsimp only)
          rw [l_6, nn_leT (by omega)]
          refine ok_some ⟨q1, q2, fun x w1 w2 => q3 x w1 (by omega), fun i j hi hj => ?_⟩
          by_cases z : i = w
          · rw [z]; exact q5 j hj
          · exact q4 i j (by omega) hj
      · rintro M2 ⟨q1, q2, q3, q4⟩
        rw [l_64, n_add, e_lt, e_gn (by omega), e_gn (by omega), e_znn (by omega), q2, l_1, n_add, e_lt, n_add]
        refine hrec _ ⟨_, rfl, fun c hc => by rw [e_w1 _ _ _ hc]; exact q1 c hc, by rw [e_w1s, e_uT rfl]; exact congrArg nI (by omega), fun x w1 w2 => by rw [e_w1s, e_uF w1]; exact q3 x w1 w2, fun i j hi hj => by rw [e_w1s, e_uF (by omega)]; exact q4 i j hi hj⟩
    · rintro rec x ⟨M1, rfl, o1, o2, o3, o4⟩
      (try dsimp only)
      rw [nn_leT (by omega)]
      exact ok_some ⟨o1, o2, o3, o4⟩
  · rintro M1 ⟨o1, o2, o3, o4⟩
    rw [e_lt]
    refine ok_some ⟨rfl, fun c w1 w2 => by rw [e_w1 _ _ _ w2]; exact o1 c w1, fun x hx => by rw [e_w1s, e_uF hx, o1 76 (by omega)], by rw [e_w1s, e_uT rfl], by rw [e_w1 _ _ _ (by omega)]; exact o2, fun x w1 w2 => by rw [e_w1 _ _ _ (by omega)]; exact o3 x w1 w2, fun i j hi hj => by rw [e_w1 _ _ _ (by omega)]; exact o4 i j hi hj⟩
theorem r_rd {M : zM} {k e n la s0 W B : Nat} {f : Int} {z : Nat → Int} {bf : Nat → Nat} (hk : k < 4) (hla : la < 3) (hn : n ≤ 10) (he : e < 2) (hs0 : s0 ≤ 10) (hW : W ≤ n) (h0 : M.1 84 (64 + e) = nI s0) (hf : 0 < W → 0 ≤ f ∧ f.toNat + 6 * W ≤ 64) (hz : ∀ j, j < 6 * W → M.1 99 (64 * k + (f.toNat + j)) = jI (z j) ∧ rg (z j)) (hbf : ∀ i, bf i < 4)
    (hb : ∀ i : Nat, i < 60 → (if (M.1 97 (zn (nI k))) = (-4 : Int32) then (some (1 : Int32)) else (grd (zix (nI k) 4) (if (M.1 97 (zn (nI k))) = nI la then (grd (zix (nI k) 4) (lt (fX11_in ((jI f).toInt64 + (nI i).toInt64) (0 : Int64) (((M.1 98 (zn (nI k))) - (1 : Int32))).toInt64) (fun (b107 : Bool) => if b107 = false then (some (2 : Int32)) else (some (0 : Int32))))) else (some (3 : Int32))))) = some (nI (bf i)))
    (H1 : ∀ i, i < 6 * n → (∀ i', i' < i → bf i' = 0) → bf i = 0 → i % 6 = 5 → i / 6 < W) (H2 : ∀ i, i < 6 * n → (∀ i', i' < i → bf i' = 0) → bf i ≠ 0 → bf i = B ∧ i / 6 = W) (H3 : (∀ i, i < 6 * n → bf i = 0) → B = 0 ∧ W = n) :
    ok (fX11_read (nI k) (nI la) (jI f) (nI n) (nI e) M) (fun r => (fs (bdl z s0) W 0 = W → rdQ M k e s0 W f (nI B) r) ∧ (fs (bdl z s0) W 0 ≠ W → r = (rdv z (fs (bdl z s0) W 0) W, M))) := by
  have hen : fX11_isEnd (nI e) = true := by
    rcases (show e = 0 ∨ e = 1 by omega) with rfl | rfl <;> decide
  have hin : ∀ {a N : Nat} {y : Int64}, N < 100 → y = jL (N : Int) → a ≤ N → fX11_in (nI a).toInt64 (0 : Int64) y = true := fun {a N y} h1 h2 h3 => by
    rw [h2, L_0]
    exact in_n (N := N) (by omega) rfl h3
  have hex : ∀ b : Nat, fs (bdl z s0) W 0 = W → b = B → (rdQ M k e s0 W f (nI b)) = (rdQ M k e s0 W f (nI B)) := fun b _ h => by rw [h]
  have hsW : fs (bdl z s0) W 0 = W → s0 + W ≤ 10 := fun h => by
    by_cases w0 : W = 0
    · omega
    · have := fs_all (by omega) h (W - 1) (by omega) (by omega)
      unfold bdl at this
      rw [Bool.or_eq_false_iff] at this
      have := of_decide_eq_false this.2
      omega
  have h6 : (6 : Int32) * nI n = nI (6 * n) := by rw [l_6, n_mul]
  unfold fX11_read
  rw [hin (N := 3) (y := (3 : Int64)) (by omega) rfl (by omega), e_lt, if_neg (by decide), hin (N := 2) (y := (2 : Int64)) (by omega) rfl (by omega), e_lt, if_neg (by decide), hin (N := 10) (y := (10 : Int64)) (by omega) rfl hn, e_lt, if_neg (by decide), hen, e_lt, if_neg (by decide), h6]
  refine ok_up (6 * n) (fun i x => (x = (nI 0, nI (i / 6), nI i) ∧ (∀ i', i' < i → bf i' = 0) ∧ i / 6 ≤ W ∧ fs (bdl z s0) W 0 = fs (bdl z s0) W (i / 6)) ∨ (x = (nI B, nI W, nI i) ∧ (B ≠ 0 ∧ B < 4) ∧ fs (bdl z s0) W 0 = W)) ?_ ?_ zFu 0 _ (by omega) (by unfold zFu; omega) (Or.inl ⟨rfl, fun i hi => absurd hi (by omega), by omega, rfl⟩)
  · rintro rec i x hi hI hrec
    rcases hI with ⟨rfl, o1, o2, o3⟩ | ⟨rfl, o1, o2⟩
    rotate_left
    · have := r_exit (M := M) (k := k) (e := e) (s0 := s0) (W := W) (f := f) (nI B) hk he (hsW o2) hf h0
      (try dsimp only)
      rw [e_jn, nn_leF (by omega), if_neg (show ¬ nI B = (0 : Int32) by rw [l_0, nI_ne (by omega) (by omega)]; omega)]
      exact ok_mono this (fun r w => ⟨fun _ => w, fun q => absurd o2 q⟩)
    · have hbi := hb i (by omega)
      have hbl := hbf i
      (try dsimp only)
      rw [e_jn, nn_leF (by omega), if_pos (show nI 0 = (0 : Int32) from rfl), e_gn (by omega), hbi, e_sq, e_jn]
      by_cases y0 : bf i = 0
      rotate_left
      · obtain ⟨b1, b2⟩ := H2 i hi o1 y0
        rw [if_neg (show ¬ nI (bf i) = (0 : Int32) by rw [l_0, nI_ne (by omega) (by omega)]; omega), l_1, n_add]
        refine hrec _ (Or.inr ⟨by rw [b1, b2], by omega, ?_⟩)
        rw [o3, b2, fs_A]
      rw [y0, if_pos (show nI 0 = (0 : Int32) from rfl), show zrm_i (nI i) (6 : Int32) = nI (i % 6) from n_rm (b := 6) (by omega) (by omega) (by omega), l_5]
      by_cases y5 : i % 6 = 5
      rotate_left
      · rw [nn_eqF (by omega), l_1, n_add]
        refine hrec _ (Or.inl ⟨by rw [show (i + 1) / 6 = i / 6 by omega], fun i' hi' => ?_, by omega, by rw [show (i + 1) / 6 = i / 6 by omega]; exact o3⟩)
        by_cases q : i' = i
        · rw [q]; exact y0
        · exact o1 i' (by omega)
      have hjW := H1 i hi o1 y0 y5
      obtain ⟨f0, f1⟩ := hf (by omega)
      have es := fs_s (p := bdl z s0) (A := W) (i := i / 6) hjW
      have hat : (((64 : Int32) * nI k + jI f) + nI i) - nI 5 = nI (64 * k + (f.toNat + 6 * (i / 6))) := by
        rw [at_N f0, n_sub (by omega)]
        exact congrArg nI (by omega)
      have htd := r_tld (M := M) (c := 64 * k + (f.toNat + 6 * (i / 6))) (i := i / 6) (z := z) (by omega) (fun j hj => by
        have := hz (6 * (i / 6) + j) (by omega)
        rw [show 64 * k + (f.toNat + (6 * (i / 6) + j)) = 64 * k + (f.toNat + 6 * (i / 6)) + j by omega] at this
        exact this)
      have hlo := r_lo (c := i / 6) he h0
      rw [nn_eqT (by omega), hat, htd, e_sq]
      cases ht : tdB z (i / 6)
      · have hbd : bdl z s0 (i / 6) = true := by unfold bdl; rw [ht]; rfl
        rw [if_pos hbd] at es
        rw [if_pos rfl, m_20, jn_sub]
        refine ok_some ⟨fun q => ?_, fun _ => ?_⟩
        · rw [o3, es] at q; omega
        · rw [o3, es]
          unfold rdv
          rw [if_neg (by omega), if_neg (by rw [ht]; decide)]
      · rw [if_neg (by decide), hlo, e_sq, l_10]
        by_cases y10 : s0 + i / 6 = 10
        · have hbd : bdl z s0 (i / 6) = true := by unfold bdl; rw [ht, decide_eq_true (by omega)]; rfl
          rw [if_pos hbd] at es
          rw [nn_eqT (by omega), m_3]
          refine ok_some ⟨fun q => ?_, fun _ => ?_⟩
          · rw [o3, es] at q; omega
          · rw [o3, es]
            unfold rdv
            rw [if_neg (by omega), if_pos ht]
        · have hle : s0 + i / 6 < 10 := by
            by_cases q : i / 6 = 0
            · omega
            · -- the line before it came in
              have : fs (bdl z s0) W (i / 6) ≥ i / 6 := (fs_bd (bdl z s0) (A := W) (i := i / 6) (by omega)).1
              by_cases q2 : s0 + (i / 6 - 1) < 10
              · omega
              · have hbd : bdl z s0 (i / 6 - 1) = true := by unfold bdl; rw [decide_eq_true (by omega), Bool.or_true]
                have hle2 : fs (bdl z s0) W 0 ≤ i / 6 - 1 := by
                  have key : ∀ d, d ≤ i / 6 - 1 → fs (bdl z s0) W (i / 6 - 1 - d) ≤ i / 6 - 1 := fun d => by
                    induction d with
                    | zero =>
                      intro _
                      rw [Nat.sub_zero, fs_s (by omega), if_pos hbd]
                      exact Nat.le_refl _
                    | succ d ih =>
                      intro hd
                      rw [fs_s (by omega)]
                      split
                      · omega
                      · rw [show i / 6 - 1 - (d + 1) + 1 = i / 6 - 1 - d by omega]
                        exact ih (by omega)
                  have := key (i / 6 - 1) (Nat.le_refl _)
                  rw [Nat.sub_self] at this
                  exact this
                omega
          have hbd : bdl z s0 (i / 6) = false := by unfold bdl; rw [ht, decide_eq_false (by omega)]; rfl
          rw [if_neg (by rw [hbd]; decide)] at es
          rw [nn_eqF (by omega), l_1, n_add, n_add]
          refine hrec _ (Or.inl ⟨by rw [show (i + 1) / 6 = i / 6 + 1 by omega], fun i' hi' => ?_, by omega, by rw [show (i + 1) / 6 = i / 6 + 1 by omega, o3, es]⟩)
          by_cases q : i' = i
          · rw [q]; exact y0
          · exact o1 i' (by omega)
  · rintro rec x hI
    rcases hI with ⟨rfl, o1, o2, o3⟩ | ⟨rfl, o1, o2⟩
    · obtain ⟨b1, b2⟩ := H3 o1
      subst b1
      have eW : 6 * n / 6 = W := by omega
      have hF : fs (bdl z s0) W 0 = W := by rw [o3, eW, fs_A]
      have := r_exit (M := M) (k := k) (e := e) (s0 := s0) (W := W) (f := f) (nI 0) hk he (hsW hF) hf h0
      rw [eW]
      (try dsimp only)
      rw [e_jn, nn_leT (by omega)]
      exact ok_mono this (fun r w => ⟨fun _ => w, fun q => absurd hF q⟩)
    · have := r_exit (M := M) (k := k) (e := e) (s0 := s0) (W := W) (f := f) (nI B) hk he (hsW o2) hf h0
      (try dsimp only)
      rw [e_jn, nn_leT (by omega)]
      exact ok_mono this (fun r w => ⟨fun _ => w, fun q => absurd o2 q⟩)
