/-! ===== who passed whom ===== -/
def psd (S P : Nat → Nat) (a b : Nat) : Bool := decide (P a ≠ 10 ∧ P b ≠ 10 ∧ S (70 + 60 * 0 + 6 * b + 0) < S (70 + 60 * 0 + 6 * a + 0) ∧ S (70 + 60 * 1 + 6 * P a + 0) < S (70 + 60 * 1 + 6 * P b + 0))
theorem psd_s (S P : Nat → Nat) (a : Nat) : psd S P a a = false := decide_eq_false (fun w => by omega)
theorem c_hp {M : zM} {ρ : Nat → Int} {S P : Nat → Nat} (h1 : cR M 1 ρ S) (hV : V ρ S) (h66 : ∀ i, i < 10 → M.1 66 i = pv (P i)) (hP : ∀ i, i < S 64 → P i = 10 ∨ P i < S 65) {a b : Nat} (ha : a < S 64) (hb : b < S 64) : fX10_hasPassed (nI a) (nI b) M = some (psd S P a b) := by
  have hS := hV.1
  have a3 : M.1 3 a = nI (S (70 + 60 * 0 + 6 * a + 0)) := (h1.1.2 a ha).1
  have b3 : M.1 3 b = nI (S (70 + 60 * 0 + 6 * b + 0)) := (h1.1.2 b hb).1
  have va := (hV.2.1 0 a (by omega) ha).1
  have vb := (hV.2.1 0 b (by omega) hb).1
  have ka := h66 a (by omega)
  have kb := h66 b (by omega)
  unfold fX10_hasPassed psd
  rw [e_gn (by omega), e_lt, e_gn (by omega), e_lt, e_znn (by omega), e_znn (by omega), ka, kb, m_4]
  by_cases z1 : P a = 10
  · rw [show pv (P a) = jI (-4) from if_pos z1, if_pos rfl, decide_eq_false (fun w => w.1 z1)]
  rw [show pv (P a) = nI (P a) from if_neg z1]
  have pa : P a < S 65 := by rcases hP a ha with q | q; exact absurd q z1; exact q
  rw [nj_eqF (by omega)]
  by_cases z2 : P b = 10
  · rw [show pv (P b) = jI (-4) from if_pos z2, if_pos rfl, decide_eq_false (fun w => w.2.1 z2)]
  rw [show pv (P b) = nI (P b) from if_neg z2]
  have pb : P b < S 65 := by rcases hP b hb with q | q; exact absurd q z2; exact q
  have a7 : M.1 7 (P a) = nI (S (70 + 60 * 1 + 6 * P a + 0)) := (h1.2.1.2 (P a) pa).1
  have b7 : M.1 7 (P b) = nI (S (70 + 60 * 1 + 6 * P b + 0)) := (h1.2.1.2 (P b) pb).1
  have wa := (hV.2.1 1 (P a) (by omega) pa).1
  have wb := (hV.2.1 1 (P b) (by omega) pb).1
  rw [nj_eqF (by omega), e_gn (by omega), e_gn (by omega), a3, b3]
  by_cases z3 : S (70 + 60 * 0 + 6 * a + 0) ≤ S (70 + 60 * 0 + 6 * b + 0)
  · rw [nn_leT (by omega), decide_eq_false (fun w => by omega)]
  rw [nn_leF (by omega), e_gn (by omega), e_gn (by omega), e_znn (by omega), e_znn (by omega), a7, b7]
  by_cases z4 : S (70 + 60 * 1 + 6 * P b + 0) ≤ S (70 + 60 * 1 + 6 * P a + 0)
  · rw [nn_leT (by omega), decide_eq_false (fun w => by omega)]
  · rw [nn_leF (by omega), decide_eq_true ⟨z1, z2, by omega, by omega⟩]
theorem r_hp {M : zM} {ρ : Nat → Int} {S P : Nat → Nat} (h2 : rR M 0 ρ S) (hV : V ρ S) (h91 : ∀ i, i < 10 → M.1 91 i = pv (P i)) (hP : ∀ i, i < S 64 → P i = 10 ∨ P i < S 65) {a b : Nat} (ha : a < S 64) (hb : b < S 64) : fX11_didPass (nI a) (nI b) M = some (psd S P a b) := by
  have hS := hV.1
  have ia := r_its h2 (e := 0) (i := a) (w := 0) (by omega) (by omega) (by omega)
  have ib := r_its h2 (e := 0) (i := b) (w := 0) (by omega) (by omega) (by omega)
  have va := (hV.2.1 0 a (by omega) ha).1
  have vb := (hV.2.1 0 b (by omega) hb).1
  have ka := h91 a (by omega)
  have kb := h91 b (by omega)
  unfold fX11_didPass psd
  rw [e_gn (by omega), e_znn (by omega), e_znn (by omega), ka, kb, m_4]
  by_cases z1 : P a = 10
  · rw [show pv (P a) = jI (-4) from if_pos z1, if_pos rfl, decide_eq_false (fun w => w.1 z1)]
  rw [show pv (P a) = nI (P a) from if_neg z1]
  have pa : P a < S 65 := by rcases hP a ha with q | q; exact absurd q z1; exact q
  rw [nj_eqF (by omega), e_gn (by omega)]
  by_cases z2 : P b = 10
  · rw [show pv (P b) = jI (-4) from if_pos z2, if_pos rfl, decide_eq_false (fun w => w.2.1 z2)]
  rw [show pv (P b) = nI (P b) from if_neg z2]
  have pb : P b < S 65 := by rcases hP b hb with q | q; exact absurd q z2; exact q
  have oa := r_its h2 (e := 1) (i := P a) (w := 0) (by omega) (by omega) (by omega)
  have ob := r_its h2 (e := 1) (i := P b) (w := 0) (by omega) (by omega) (by omega)
  have wa := (hV.2.1 1 (P a) (by omega) pa).1
  have wb := (hV.2.1 1 (P b) (by omega) pb).1
  rw [nj_eqF (by omega), l_0, l_1, ia, e_sq, ib, e_sq]
  by_cases z3 : S (70 + 60 * 0 + 6 * a + 0) ≤ S (70 + 60 * 0 + 6 * b + 0)
  · rw [nn_leT (by omega), decide_eq_false (fun w => by omega)]
  rw [nn_leF (by omega), e_gn (by omega), oa, e_sq, e_gn (by omega), ob, e_sq]
  by_cases z4 : S (70 + 60 * 1 + 6 * P b + 0) ≤ S (70 + 60 * 1 + 6 * P a + 0)
  · rw [nn_leT (by omega), decide_eq_false (fun w => by omega)]
  · rw [nn_leF (by omega), decide_eq_true ⟨z1, z2, by omega, by omega⟩]
theorem tcn_le (g : Nat → Bool) (i : Nat) : tcn g i ≤ i := (t_bd (g := g) (t := fun _ => 0) (fun _ => Nat.zero_le _) i).1
theorem zb_if (b : Bool) : zb (if b = false then false else true) = nI (if b = true then 1 else 0) := by cases b <;> rfl
def psm (f : Nat → Nat) : Nat → Nat
  | 0 => 0
  | i + 1 => psm f i + f i
theorem psm_le {f : Nat → Nat} (hf : ∀ i, f i ≤ 10) (i : Nat) : psm f i ≤ 10 * i := by
  induction i with
  | zero => exact Nat.le_refl _
  | succ i ih =>
    have := hf i
    show psm f i + f i ≤ 10 * (i + 1)
    omega
theorem c_pof {M : zM} {n a : Nat} {T : Nat → Nat → Bool} (hn : n ≤ 10) (h55 : M.1 55 0 = nI n) (hT : ∀ a b, a < n → b < n → fX10_hasPassed (nI a) (nI b) M = some (T a b)) (ha : a < n) : fX10_passingsOf (nI a) M = some (nI (tcn (T a) n)) := by
  apply ok_eq
  unfold fX10_passingsOf
  rw [h55]
  refine ok_up n (fun i x => x = (nI (tcn (T a) i), nI i)) ?_ ?_ zFu 0 _ (by omega) (by unfold zFu; omega) rfl
  · rintro rec i x hi rfl hrec
    (try dsimp only)
    rw [nn_leF (by omega), hT a i ha hi, e_sq, e_lt, zb_if, n_add, e_lt, l_1, n_add]
    exact hrec _ rfl
  · rintro rec x rfl
    (try dsimp only)
    rw [nn_leT (by omega)]
    exact ok_some rfl
theorem c_allp {M : zM} {n : Nat} {f : Nat → Nat} (hn : n ≤ 10) (h55 : M.1 55 0 = nI n) (hf : ∀ a, a < n → fX10_passingsOf (nI a) M = some (nI (f a))) : fX10_allPassings M = some (nI (psm f n)) := by
  apply ok_eq
  unfold fX10_allPassings
  rw [h55]
  refine ok_up n (fun i x => x = (nI (psm f i), nI i)) ?_ ?_ zFu 0 _ (by omega) (by unfold zFu; omega) rfl
  · rintro rec i x hi rfl hrec
    (try dsimp only)
    rw [nn_leF (by omega), hf i hi, e_sq, n_add, e_lt, l_1, n_add]
    exact hrec _ rfl
  · rintro rec x rfl
    (try dsimp only)
    rw [nn_leT (by omega)]
    exact ok_some rfl
theorem c_grp {M : zM} {n : Nat} {f : Nat → Nat} (hn : n ≤ 10) (hf10 : ∀ i, f i ≤ 10) (h55 : M.1 55 0 = nI n) (hf : ∀ a, a < n → fX10_passingsOf (nI a) M = some (nI (f a))) : fX10_greatestPasser M = some (md (mst f n).1) := by
  apply ok_eq
  unfold fX10_greatestPasser
  rw [h55]
  refine ok_up n (fun i x => x = (md (mst f i).1, nI (mst f i).2, nI i)) ?_ ?_ zFu 0 _ (by omega) (by unfold zFu; omega) rfl
  · rintro rec i x hi rfl hrec
    have hb := mst_le (g := f) (fun k => by have := hf10 k; omega) i
    have hfi := hf10 i
    have es := mst_s f i
    (try dsimp only)
    rw [nn_leF (by omega), hf i hi, e_sq]
    by_cases z : f i ≤ (mst f i).2
    · rw [nn_leT (by omega), e_sq, l_1, n_add]
      rw [if_pos z] at es
      exact hrec _ (by rw [es])
    · rw [nn_leF (by omega), e_sq, l_1, n_add]
      rw [if_neg z] at es
      refine hrec _ ?_
      rw [es]
      have : md i = nI i := if_neg (by omega)
      rw [← this]
  · rintro rec x rfl
    (try dsimp only)
    rw [nn_leT (by omega)]
    exact ok_some rfl
def tog (T : Nat → Nat → Bool) (a b : Nat) : Bool := !T a b && !T b a
theorem c_fwp {M : zM} {ρ : Nat → Int} {S P : Nat → Nat} (h1 : cR M 1 ρ S) (hV : V ρ S) (h55 : M.1 55 0 = nI (S 64)) (h66 : ∀ i, i < 10 → M.1 66 i = pv (P i)) (hP : ∀ i, i < S 64 → P i = 10 ∨ P i < S 65) : ok (fX10_fewestWithoutPassing M) (fun r => ∃ v, r.1 = nI (S 64 - v) ∧ v ≤ S 64 ∧ (∃ X, X < 2 ^ S 64 ∧ clq (tog (psd S P)) X ∧ bc X = v) ∧ ∀ X, X < 2 ^ S 64 → clq (tog (psd S P)) X → bc X ≤ v) := by
  have hS := hV.1
  unfold fX10_fewestWithoutPassing
  rw [h55, c_beg, e_sq]
  refine ok_sq (P := fun M' => zfr [70, 71] M M' ∧ gR M' (S 64) (tog (psd S P))) ?_ ?_
  · refine ok_up (S 64) (fun a x => ∃ M', x = (nI a, M') ∧ zfr [70, 71] M M' ∧ M'.1 70 0 = nI (S 64) ∧ ∀ i, i < 10 → M'.1 71 i = nI (if i < a then mb (tog (psd S P)) i i else 0)) ?_ ?_ zFu 0 _ (by omega) (by unfold zFu; omega) ⟨_, rfl, zfr_A (zfr_I (zfr_rf _ _) (by simp)) (by simp), by rw [e_a1 _ _ (by omega), e_w1s, e_uT rfl], fun i hi => by rw [e_a1s]; unfold zfl; rw [if_pos hi, if_neg (by omega)]; rfl⟩
    · rintro rec a x ha ⟨M1, rfl, f1, k70, k71⟩ hrec
      have c55 : M1.1 55 0 = nI (S 64) := by rw [(f1 55 (by decide)).1]; exact h55
      (try dsimp only)
      rw [c55, nn_leF (by omega)]
      refine ok_sq (P := fun M' => zfr [70, 71] M M' ∧ M'.1 70 0 = nI (S 64) ∧ ∀ i, i < 10 → M'.1 71 i = nI (if i < a + 1 then mb (tog (psd S P)) i i else 0)) ?_ ?_
      · refine ok_up a (fun b x => ∃ M', x = (nI b, M') ∧ zfr [70, 71] M M' ∧ M'.1 70 0 = nI (S 64) ∧ ∀ i, i < 10 → M'.1 71 i = nI (if i < a then mb (tog (psd S P)) i i else if i = a then mb (tog (psd S P)) a b else 0)) ?_ ?_ zFu 0 _ (by omega) (by unfold zFu; omega) ⟨M1, rfl, f1, k70, fun i hi => ?_⟩
        · rintro rec2 b x hb ⟨M2, rfl, f2, q70, q71⟩ hrec2
          have hc : cR M2 1 ρ S := cR_fr h1 f2 (fun c w1 w2 w3 => by simp only [List.mem_cons, List.not_mem_nil, or_false] at w3; omega)
          have k66 : ∀ i, i < 10 → M2.1 66 i = pv (P i) := fun i hi => by rw [(f2 66 (by decide)).1]; exact h66 i hi
          have es := mb_s (tog (psd S P)) a b
          have hno : tog (psd S P) a b = false → ok (rec2 (nI (b + 1), M2)) (fun M' => zfr [70, 71] M M' ∧ M'.1 70 0 = nI (S 64) ∧ ∀ i, i < 10 → M'.1 71 i = nI (if i < a + 1 then mb (tog (psd S P)) i i else 0)) := fun q => by
            rw [if_neg (by rw [q]; decide)] at es
            exact hrec2 _ ⟨M2, rfl, f2, q70, by rw [es]; exact q71⟩
          (try dsimp only)
          rw [nn_leF (by omega), c_hp hc hV k66 hP ha (by omega), e_sq]
          cases z1 : psd S P a b
          rotate_left
          · rw [if_neg (by decide), e_sq, l_1, n_add]
            exact hno (by unfold tog; rw [z1]; rfl)
          rw [if_pos rfl, c_hp hc hV k66 hP (by omega) ha, e_sq]
          cases z2 : psd S P b a
          rotate_left
          · rw [if_neg (by decide), e_sq, l_1, n_add]
            exact hno (by unfold tog; rw [z1, z2]; rfl)
          have ht : tog (psd S P) a b = true := by unfold tog; rw [z1, z2]; rfl
          rw [if_pos ht] at es
          have q71a := q71 a (by omega)
          rw [if_neg (by omega), if_pos rfl] at q71a
          rw [if_pos rfl, c_join (by omega) (by omega) q71a, e_sq, e_sq, l_1, n_add]
          refine hrec2 _ ⟨_, rfl, zfr_I f2 (by simp), by rw [e_w1 _ _ _ (by omega)]; exact q70, fun i hi => ?_⟩
          rw [e_w1s, es]
          by_cases e : i = a
          · rw [e_uT e, if_neg (by omega), if_pos e]
          · rw [e_uF e, q71 i hi, if_neg e, if_neg e]
        · rintro rec2 x ⟨M2, rfl, f2, q70, q71⟩
          (try dsimp only)
          rw [nn_leT (by omega)]
          refine ok_some ⟨f2, q70, fun i hi => ?_⟩
          rw [q71 i hi]
          by_cases e : i = a
          · rw [if_neg (by omega), if_pos e, if_pos (by omega), e]
          · rw [if_neg e]
            by_cases e2 : i < a
            · rw [if_pos e2, if_pos (by omega)]
            · rw [if_neg e2, if_neg (by omega)]
        · rw [k71 i hi]
          by_cases e : i = a
          · rw [if_neg (by omega), if_neg (by omega), if_pos e]; rfl
          · rw [if_neg e]
      · rintro M2 ⟨f2, q70, q71⟩
        rw [l_1, n_add]
        exact hrec _ ⟨M2, rfl, f2, q70, q71⟩
    · rintro rec x ⟨M1, rfl, f1, k70, k71⟩
      have c55 : M1.1 55 0 = nI (S 64) := by rw [(f1 55 (by decide)).1]; exact h55
      (try dsimp only)
      rw [c55, nn_leT (by omega)]
      exact ok_some ⟨f1, k70, fun i hi => by rw [k71 i (by omega), if_pos hi]⟩
  · rintro M1 ⟨f1, g1⟩
    have c55 : M1.1 55 0 = nI (S 64) := by rw [(f1 55 (by decide)).1]; exact h55
    refine ok_bi (c_large hS.1 g1) ?_
    rintro y M2 ⟨v, v1, ⟨X, x1, x2, x3⟩, v3⟩
    dsimp only at v1
    have hv : v ≤ S 64 := by rw [← x3]; exact bc_m hS.1 x1
    rw [c55, v1, n_sub hv]
    exact ok_some ⟨v, rfl, hv, ⟨X, x1, x2, x3⟩, v3⟩
def clm (T : Nat → Nat → Bool) (n W : Nat) : Prop := ∀ a b, a < n → b < n → W.testBit a = true ∨ W.testBit b = true ∨ T a b = false
theorem clm_cl {T : Nat → Nat → Bool} {n W : Nat} (hn : n ≤ 10) (hT : ∀ a, T a a = false) (hW : W < 2 ^ n) : clm T n W ↔ clq (tog T) (2 ^ n - 1 - W) := by
  have hb := (bc_not n (by omega) W hW).2
  have hlt : 2 ^ n - 1 - W < 2 ^ n := by have := Nat.two_pow_pos n; omega
  have hin : ∀ i, (2 ^ n - 1 - W).testBit i = true ↔ i < n ∧ W.testBit i = false := fun i => by
    by_cases q : i < n
    · rw [hb i (by omega), decide_eq_true q, Bool.true_and]
      cases W.testBit i <;> simp [q]
    · rw [tb_lt hlt i (by omega)]
      exact ⟨fun w => (by cases w), fun w => absurd w.1 q⟩
  constructor
  · intro h a b hab ha hb'
    obtain ⟨a1, a2⟩ := (hin a).1 ha
    obtain ⟨b1, b2⟩ := (hin b).1 hb'
    have k1 : T a b = false := by
      rcases h a b a1 b1 with w | w | w
      · rw [a2] at w; cases w
      · rw [b2] at w; cases w
      · exact w
    have k2 : T b a = false := by
      rcases h b a b1 a1 with w | w | w
      · rw [b2] at w; cases w
      · rw [a2] at w; cases w
      · exact w
    unfold tog
    rw [k1, k2]; rfl
  · intro h a b a1 b1
    cases a2 : W.testBit a
    · cases b2 : W.testBit b
      · right; right
        have ka := (hin a).2 ⟨a1, a2⟩
        have kb := (hin b).2 ⟨b1, b2⟩
        rcases Nat.lt_trichotomy a b with q | q | q
        · have := h b a q kb ka
          unfold tog at this
          simp at this
          exact this.2
        · rw [q]; exact hT b
        · have := h a b q ka kb
          unfold tog at this
          simp at this
          exact this.1
      · right; left; rfl
    · left; rfl
theorem bit1 {W j : Nat} (hj : j < 31) (hW : W < 2147483648) {α : Type} (x y : α) : (if ((nI W >>> (nI j &&& (31 : Int32))) &&& (1 : Int32)) = (1 : Int32) then x else y) = if W.testBit j = true then x else y := by
  rw [l_31, n_31 (by omega), l_1, n_bit hj hW]
  by_cases q : W.testBit j = true
  · rw [if_pos q, if_pos q, if_pos rfl]
  · rw [if_neg q, if_neg q, if_neg (by decide)]
theorem r_clm {M : zM} {n W : Nat} {T : Nat → Nat → Bool} (hn : n ≤ 10) (hW : W < 1024) (hl : fX11_linesOf (0 : Int32) (0 : Int32) M = some (nI n)) (hT : ∀ a b, a < n → b < n → fX11_didPass (nI a) (nI b) M = some (T a b)) : ok (fX11_isCalm (nI W) M) (fun v => v = true ↔ clm T n W) := by
  unfold fX11_isCalm
  refine ok_up n (fun i x => ∃ v : Bool, x = (v, nI i) ∧ (v = true ↔ ∀ a b, a < i → b < n → W.testBit a = true ∨ W.testBit b = true ∨ T a b = false)) ?_ ?_ zFu 0 _ (by omega) (by unfold zFu; omega) ⟨true, rfl, fun _ a b ha => absurd ha (by omega), fun _ => rfl⟩
  · rintro rec i x hi ⟨v, rfl, o1⟩ hrec
    (try dsimp only)
    rw [hl, e_sq, nn_leF (by omega)]
    refine ok_sq (P := fun v => (v = true ↔ ∀ a b, a < i + 1 → b < n → W.testBit a = true ∨ W.testBit b = true ∨ T a b = false)) ?_ ?_
    · refine ok_up n (fun j x => ∃ v : Bool, x = (v, nI j) ∧ (v = true ↔ (∀ a b, a < i → b < n → W.testBit a = true ∨ W.testBit b = true ∨ T a b = false) ∧ ∀ b, b < j → W.testBit i = true ∨ W.testBit b = true ∨ T i b = false)) ?_ ?_ zFu 0 _ (by omega) (by unfold zFu; omega) ⟨v, rfl, fun w => ⟨o1.1 w, fun b hb => absurd hb (by omega)⟩, fun w => o1.2 w.1⟩
      · rintro rec2 j x hj ⟨v, rfl, o2⟩ hrec2
        have hY : (v = true ∧ (W.testBit i = true ∨ W.testBit j = true ∨ T i j = false)) → ok (rec2 (true, nI (j + 1))) (fun v => (v = true ↔ ∀ a b, a < i + 1 → b < n → W.testBit a = true ∨ W.testBit b = true ∨ T a b = false)) := fun w => hrec2 _ ⟨true, rfl, fun _ => ⟨(o2.1 w.1).1, fun b hb => by
          by_cases e : b = j
          · rw [e]; exact w.2
          · exact (o2.1 w.1).2 b (by omega)⟩, fun _ => rfl⟩
        have hN : (v = false ∨ ¬ (W.testBit i = true ∨ W.testBit j = true ∨ T i j = false)) → ok (rec2 (false, nI (j + 1))) (fun v => (v = true ↔ ∀ a b, a < i + 1 → b < n → W.testBit a = true ∨ W.testBit b = true ∨ T a b = false)) := fun w => hrec2 _ ⟨false, rfl, fun q => (by cases q), fun q => by
          rcases w with w | w
          · have := o2.2 ⟨q.1, fun b hb => q.2 b (by omega)⟩
            rw [w] at this
            cases this
          · exact absurd (q.2 j (by omega)) w⟩
        (try dsimp only)
        rw [e_sq, nn_leF (by omega), e_jn]
        cases hv : v
        · rw [if_pos rfl, e_sq, l_1, n_add]
          exact hN (Or.inl hv)
        · rw [if_neg (by decide), e_jn, bit1 (by omega) (by omega)]
          by_cases z1 : W.testBit i = true
          · rw [if_pos z1, e_sq, l_1, n_add]
            exact hY ⟨hv, Or.inl z1⟩
          rw [if_neg z1, bit1 (by omega) (by omega)]
          by_cases z2 : W.testBit j = true
          · rw [if_pos z2, e_sq, l_1, n_add]
            exact hY ⟨hv, Or.inr (Or.inl z2)⟩
          rw [if_neg z2, hT i j hi hj, e_sq]
          cases z3 : T i j
          · rw [if_pos rfl, e_sq, l_1, n_add]
            exact hY ⟨hv, Or.inr (Or.inr z3)⟩
          · rw [if_neg (by decide), e_sq, l_1, n_add]
            refine hN (Or.inr ?_)
            rintro (w | w | w)
            · exact z1 w
            · exact z2 w
            · rw [z3] at w; cases w
      · rintro rec2 x ⟨v, rfl, o2⟩
        (try dsimp only)
        rw [e_sq, nn_leT (by omega)]
        refine ok_some ⟨fun w a b ha hb => ?_, fun w => o2.2 ⟨fun a b ha hb => w a b (by omega) hb, fun b hb => w i b (by omega) hb⟩⟩
        by_cases e : a = i
        · rw [e]; exact (o2.1 w).2 b hb
        · exact (o2.1 w).1 a b (by omega) hb
    · rintro v' w
      rw [l_1, n_add]
      exact hrec _ ⟨v', rfl, w⟩
  · rintro rec x ⟨v, rfl, o1⟩
    (try dsimp only)
    rw [hl, e_sq, nn_leT (by omega)]
    exact ok_some o1
theorem q_passed {M : zM} (h : RR M) (p : Int32) : AG2 (fX10_passed p) (fX11_passed p) M := by
  obtain ⟨ρ, S, h1, h2, hV⟩ := h.1
  have h1 : cR M 1 ρ S := h1
  have hS := hV.1
  rcases ar p 2 2 (by omega) rfl with ⟨x, hx, rfl, e1, e2⟩ | ⟨e1, e2, _⟩
  rotate_left
  · refine ⟨jI (-1), M, M, ?_, ?_, h⟩
    · unfold fX10_passed
      rw [l_0, l_2, e1]; rfl
    · unfold fX11_passed
      rw [L_0, L_2, e2]; rfl
  obtain ⟨P, hF, hP10, g3, g4⟩ := cr_first h1 hV
  have hP : ∀ i, i < S 64 → P i = 10 ∨ P i < S 65 := fun i hi => (hF.1.1.1 i hi).symm
  obtain ⟨f, hf⟩ : ∃ f : Nat → Nat, f = fun a => tcn (psd S P a) (S 64) := ⟨_, rfl⟩
  have hf10 : ∀ i, f i ≤ 10 := fun i => by
    rw [hf]
    have := tcn_le (psd S P i) (S 64)
    show tcn (psd S P i) (S 64) ≤ 10
    omega
  have h2n := p2_10 hS.1
  -- the class's least number, and the reference's
  obtain ⟨M2, d1, p2, k66, f2⟩ := g3
  have h12 : cR M2 1 ρ S := cR_fr h1 f2 (fun c w1 w2 w3 => by simp only [List.mem_cons, List.not_mem_nil, or_false] at w3; omega)
  have hpo : ∀ a, a < S 64 → fX10_passingsOf (nI a) M2 = some (nI (f a)) := fun a ha => by
    rw [hf]
    exact c_pof hS.1 p2.1 (fun a b ha hb => c_hp h12 hV k66 hP ha hb) ha
  obtain ⟨⟨fv, Mf⟩, y1, v, y2, y3, ⟨X, y4, y5, y6⟩, y7⟩ := c_fwp h12 hV p2.1 k66 hP
  dsimp only at y2
  refine ag2 (v := if x = 0 then nI (psm f (S 64)) else if x = 1 then nI (S 64 - v) else md (mst f (S 64)).1) h h2 ?_ (frX10_passed _ M) (by unfold scr; decide) (fun M1 k1 _ => ?_) (fun M1 => frX11_passed _ M1) (by unfold scr; decide)
  · unfold fX10_passed
    rw [l_0, l_2, e1, e_lt, if_neg (by decide), d1, e_sq]
    by_cases x0 : x = 0
    · rw [nn_eqT (by omega), c_allp hS.1 p2.1 hpo, e_sq, if_pos x0]
      exact ok_some rfl
    rw [nn_eqF (by omega), if_neg x0, l_1]
    by_cases x1 : x = 1
    · rw [nn_eqT (by omega), y1, e_bi, if_pos x1]
      exact ok_some y2
    · rw [nn_eqF (by omega), c_grp hS.1 hf10 p2.1 hpo, e_sq, if_neg x1]
      exact ok_some rfl
  · unfold fX11_passed
    rw [L_0, L_2, e2, e_lt, if_neg (by decide)]
    refine ok_sq (g4 M1 k1) (fun M3 w => ok_sq w ?_)
    rintro M4 ⟨_, k91, k4⟩
    have hl : fX11_linesOf (0 : Int32) (0 : Int32) M4 = some (nI (S 64)) := (r_lines k4).1
    have hT : ∀ a b, a < S 64 → b < S 64 → fX11_didPass (nI a) (nI b) M4 = some (psd S P a b) := fun a b ha hb => r_hp k4 hV k91 hP ha hb
    refine ok_sq (P := fun u => u = (nI (psm f (S 64)), md (mst f (S 64)).1)) ?_ ?_
    · refine ok_up (S 64) (fun i u => u = (nI (psm f i), md (mst f i).1, nI (mst f i).2, nI i)) ?_ ?_ zFu 0 _ (by omega) (by unfold zFu; omega) rfl
      · rintro rec i u hi rfl hrec
        have hb := mst_le (g := f) (fun k => by have := hf10 k; omega) i
        have hfi := hf10 i
        have es := mst_s f i
        (try dsimp only)
        rw [hl, e_sq, nn_leF (by omega)]
        refine ok_sq (P := fun y => y = nI (f i)) ?_ ?_
        · refine ok_up (S 64) (fun j u => u = (nI (tcn (psd S P i) j), nI j)) ?_ ?_ zFu 0 _ (by omega) (by unfold zFu; omega) rfl
          · rintro rec2 j u hj rfl hrec2
            (try dsimp only)
            rw [e_sq, nn_leF (by omega), hT i j hi hj, e_sq, e_lt, zb_if, n_add, e_lt, l_1, n_add]
            exact hrec2 _ rfl
          · rintro rec2 u rfl
            (try dsimp only)
            rw [e_sq, nn_leT (by omega)]
            exact ok_some (by rw [hf])
        · rintro y rfl
          rw [n_add, e_lt]
          by_cases z : f i ≤ (mst f i).2
          · rw [nn_leT (by omega), e_lt, nn_leT (by omega), e_lt, l_1, n_add]
            rw [if_pos z] at es
            exact hrec _ (by rw [es]; rfl)
          · rw [nn_leF (by omega), e_lt, nn_leF (by omega), e_lt, l_1, n_add]
            rw [if_neg z] at es
            refine hrec _ ?_
            rw [es]
            have : md i = nI i := if_neg (by omega)
            rw [← this]
            rfl
      · rintro rec u rfl
        (try dsimp only)
        rw [hl, e_sq, nn_leT (by omega)]
        exact ok_some rfl
    · rintro u rfl
      (try dsimp only)
      rw [l_1]
      by_cases x1 : x = 1
      rotate_left
      · rw [nn_eqF (by omega)]
        by_cases x0 : x = 0
        · rw [if_pos (by rw [x0]; rfl), if_pos x0]
          exact ok_some rfl
        · rw [l_0, nn_eqF (by omega), if_neg x0, if_neg x1]
          exact ok_some rfl
      rw [nn_eqT (by omega), if_neg (show ¬ x = 0 by omega), if_pos x1]
      have esh : nI 1 <<< (nI (S 64) &&& (31 : Int32)) = nI (2 ^ S 64) := by rw [l_31, n_31 (by omega), n_shl (by omega)]
      refine ok_up (2 ^ S 64) (fun s u => ∃ c, u = (nI c, nI s) ∧ c ≤ 10 ∧ (c = 10 ∨ ∃ W, W < 2 ^ S 64 ∧ clm (psd S P) (S 64) W ∧ bc W = c) ∧ ∀ W, W < s → clm (psd S P) (S 64) W → c ≤ bc W) ?_ ?_ zFu 0 _ (by omega) (by unfold zFu; omega) ⟨10, rfl, by omega, Or.inl rfl, fun W hW => absurd hW (by omega)⟩
      · rintro rec s u hs ⟨c, rfl, c1, c2, c3⟩ hrec
        have hbc := bc_le s (by omega)
        have hkeep : (clm (psd S P) (S 64) s → c ≤ bc s) → ok (rec (nI c, nI (s + 1))) (fun r => r.1 = nI (S 64 - v)) := fun q => hrec _ ⟨c, rfl, c1, c2, fun W hW w => by
          by_cases e : W = s
          · rw [e] at w ⊢; exact q w
          · exact c3 W (by omega) w⟩
        (try dsimp only)
        rw [← l_1, hl, e_sq, l_1, esh, nn_leF (by omega), r_bits (by omega), e_sq, e_jn]
        by_cases z : c ≤ bc s
        · rw [nn_leT (by omega), e_sq, n_add]
          exact hkeep (fun _ => z)
        rw [nn_leF (by omega)]
        obtain ⟨b, b1, b2⟩ := r_clm hS.1 (W := s) (by omega) hl hT
        rw [b1, e_sq]
        rcases bit_or b _ b2 with ⟨rfl, hc⟩ | ⟨rfl, hc⟩
        · rw [if_neg (by decide), e_sq, e_sq, n_add]
          refine hrec _ ⟨bc s, rfl, hbc, Or.inr ⟨s, hs, hc, rfl⟩, fun W hW w => ?_⟩
          by_cases e : W = s
          · rw [e]; exact Nat.le_refl _
          · have := c3 W (by omega) w; omega
        · rw [if_pos rfl, e_sq, n_add]
          exact hkeep (fun w => absurd w hc)
      · rintro rec u ⟨c, rfl, c1, c2, c3⟩
        (try dsimp only)
        rw [← l_1, hl, e_sq, l_1, esh, nn_leT (by omega)]
        refine ok_some ?_
        have hX := bc_not (S 64) (by omega) X y4
        have hXW : 2 ^ S 64 - 1 - (2 ^ S 64 - 1 - X) = X := by omega
        have k1 := c3 (2 ^ S 64 - 1 - X) (by omega) ((clm_cl hS.1 (psd_s S P) (by omega)).2 (by rw [hXW]; exact y5))
        have k2 : S 64 - v ≤ c := by
          rcases c2 with w | ⟨W, w1, w2, w3⟩
          · omega
          · have := y7 (2 ^ S 64 - 1 - W) (by omega) ((clm_cl hS.1 (psd_s S P) w1).1 w2)
            have := (bc_not (S 64) (by omega) W w1).1
            omega
        exact congrArg nI (by omega)
