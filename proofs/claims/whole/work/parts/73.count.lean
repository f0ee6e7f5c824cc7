def cj (c : Nat → Nat → Int) (i : Nat) : Nat → Nat
  | 0 => 0
  | j + 1 => cj c i j + (if c i j = -4 then 0 else 1)
def ci (c : Nat → Nat → Int) (m : Nat) : Nat → Nat
  | 0 => 0
  | i + 1 => ci c m i + cj c i m
theorem cj_le (c : Nat → Nat → Int) (i j : Nat) : cj c i j ≤ j := by
  induction j with
  | zero => exact Nat.le_refl _
  | succ j ih =>
    show cj c i j + (if c i j = -4 then 0 else 1) ≤ j + 1
    split <;> omega
theorem ci_le (c : Nat → Nat → Int) {m : Nat} (hm : m ≤ 10) (i : Nat) : ci c m i ≤ 10 * i := by
  induction i with
  | zero => exact Nat.le_refl _
  | succ i ih =>
    have := cj_le c i m
    show ci c m i + cj c i m ≤ 10 * (i + 1)
    omega
theorem zb_one (c : Nat → Nat → Int) (i j : Nat) : zb (if (decide (c i j ≠ -4)) = false then false else true) = nI (if c i j = -4 then 0 else 1) := by
  by_cases z : c i j = -4
  · rw [decide_eq_false (fun w => w z), if_pos rfl, if_pos z]; rfl
  · rw [decide_eq_true z, if_neg (by decide), if_neg z]; rfl
theorem c_prs {M : zM} {ρ : Nat → Int} {S : Nat → Nat} (h1 : cR M 1 ρ S) (hV : V ρ S) : ok (fX10_countPairs M) (fun v => v.1 = nI (ci (co ρ S 15) (S 65) (S 64))) := by
  have hS := hV.1
  have hp := V_pV hV 15
  unfold fX10_countPairs
  refine ok_sq (c_look h1 hV (pl := 15) (by omega)) ?_
  rintro M1 ⟨k1, _⟩
  rw [k1.1, k1.2.1]
  refine ok_up (S 64) (fun i s => s = (nI (ci (co ρ S 15) (S 65) i), nI i)) ?_ ?_ zFu 0 _ (by omega) (by unfold zFu; omega) rfl
  · rintro rec i s hi rfl hrec
    have hb := ci_le (co ρ S 15) hS.2 i
    dsimp only
    rw [nn_leF (by omega)]
    refine ok_sq (P := fun v => v = nI (ci (co ρ S 15) (S 65) (i + 1))) ?_ ?_
    · refine ok_up (S 65) (fun j s => s = (nI (ci (co ρ S 15) (S 65) i + cj (co ρ S 15) i j), nI j)) ?_ ?_ zFu 0 _ (by omega) (by unfold zFu; omega) rfl
      · rintro rec2 j s hj rfl hrec2
        have hb2 := cj_le (co ρ S 15) i j
        dsimp only
        rw [nn_leF (by omega), c_may k1 hp hi hj, e_sq, e_lt, zb_one, n_add, e_lt, l_1, n_add]
        refine hrec2 _ ?_
        show (_, _) = (nI (ci (co ρ S 15) (S 65) i + (cj (co ρ S 15) i j + (if co ρ S 15 i j = -4 then 0 else 1))), _)
        exact congrArg (fun t => (nI t, nI (j + 1))) (Nat.add_assoc _ _ _)
      · rintro rec2 s rfl
        dsimp only
        rw [nn_leT (by omega)]
        exact ok_some rfl
    · rintro v rfl
      rw [l_1, n_add]
      exact hrec _ rfl
  · rintro rec s rfl
    dsimp only
    rw [nn_leT (by omega)]
    exact ok_some rfl
theorem zb_one2 {z : Int} (hz : z = -4 ∨ (0 ≤ z ∧ z ≤ 5000)) : zb (if jI z = jI (-4) then false else true) = nI (if z = -4 then 0 else 1) := by
  by_cases w : z = -4
  · rw [w, if_pos rfl, if_pos rfl]; rfl
  · rw [jj_eqF (by omega), if_neg w]; rfl
theorem r_prs {M : zM} {ρ : Nat → Int} {S : Nat → Nat} (h2 : rR M 0 ρ S) (hV : V ρ S) : ok (zlp (α := Int32 × Int32) (β := Int32) (fun rec59 => (fun (u83 : Int32 × Int32) => match u83 with | (x57, x58) => sq (fX11_linesOf (0 : Int32) (0 : Int32) M) (fun (x63 : Int32) => if x63 ≤ x58 then (some x57) else (sq (α := Int32) (zlp (α := Int32 × Int32) (β := Int32) (fun rec66 => (fun (u75 : Int32 × Int32) => match u75 with | (x64, x65) => sq (fX11_linesOf (1 : Int32) (0 : Int32) M) (fun (x70 : Int32) => if x70 ≤ x65 then (some x64) else (sq (fX11_costOf x58 x65 (15 : Int32) M) (fun (x71 : Int32) => lt (if x71 = (-4 : Int32) then (false) else (true)) (fun (b72 : Bool) => lt ((x64 + (zb b72))) (fun (x73 : Int32) => rec66 (x73, (x65 + (1 : Int32)))))))))) zFu (x57, (0 : Int32))) (fun (x69 : Int32) => rec59 (x69, (x58 + (1 : Int32)))))))) zFu ((0 : Int32), (0 : Int32))) (fun v => v = nI (ci (co ρ S 15) (S 65) (S 64))) := by
  have hS := hV.1
  obtain ⟨l0, l1⟩ := r_lines h2
  have l0 : fX11_linesOf (0 : Int32) (0 : Int32) M = some (nI (S 64)) := l0
  have l1 : fX11_linesOf (1 : Int32) (0 : Int32) M = some (nI (S 65)) := l1
  refine ok_up (S 64) (fun i s => s = (nI (ci (co ρ S 15) (S 65) i), nI i)) ?_ ?_ zFu 0 _ (by omega) (by unfold zFu; omega) rfl
  · rintro rec i s hi rfl hrec
    have hb := ci_le (co ρ S 15) hS.2 i
    dsimp only
    rw [l0, e_sq, nn_leF (by omega)]
    refine ok_sq (P := fun v => v = nI (ci (co ρ S 15) (S 65) (i + 1))) ?_ ?_
    · refine ok_up (S 65) (fun j s => s = (nI (ci (co ρ S 15) (S 65) i + cj (co ρ S 15) i j), nI j)) ?_ ?_ zFu 0 _ (by omega) (by unfold zFu; omega) rfl
      · rintro rec2 j s hj rfl hrec2
        have hb2 := cj_le (co ρ S 15) i j
        have hc : fX11_costOf (nI i) (nI j) (15 : Int32) M = some (jI (co ρ S 15 i j)) := r_cost h2 hV (pl := 15) (by omega) hi hj
        dsimp only
        rw [l1, e_sq, nn_leF (by omega), hc, e_sq, m_4, e_lt, zb_one2 (co_bd hV 15 i j), n_add, e_lt, l_1, n_add]
        refine hrec2 _ ?_
        show (_, _) = (nI (ci (co ρ S 15) (S 65) i + (cj (co ρ S 15) i j + (if co ρ S 15 i j = -4 then 0 else 1))), _)
        exact congrArg (fun t => (nI t, nI (j + 1))) (Nat.add_assoc _ _ _)
      · rintro rec2 s rfl
        dsimp only
        rw [l1, e_sq, nn_leT (by omega)]
        exact ok_some rfl
    · rintro v rfl
      rw [l_1, n_add]
      exact hrec _ rfl
  · rintro rec s rfl
    dsimp only
    rw [l0, e_sq, nn_leT (by omega)]
    exact ok_some rfl
theorem q_count {M : zM} (h : RR M) (p : Int32) : AG3 (fX10_count p) (fX11_count p) M := by
  obtain ⟨ρ, S, h1, h2, hV⟩ := h.1
  have h1 : cR M 1 ρ S := h1
  have c0 : M.1 2 0 = nI (S 64) := h1.1.1
  have c1 : M.1 6 0 = nI (S 65) := h1.2.1.1
  obtain ⟨l0, l1⟩ := r_lines h2
  have l0 : fX11_linesOf (0 : Int32) (0 : Int32) M = some (nI (S 64)) := l0
  have l1 : fX11_linesOf (1 : Int32) (0 : Int32) M = some (nI (S 65)) := l1
  obtain ⟨w, w1, w2⟩ := r_prs h2 hV
  unfold AG3 fX10_count fX11_count
  by_cases p0 : p = (0 : Int32)
  · subst p0
    refine ⟨nI (S 64), M, ?_, ?_, h⟩
    · rw [if_pos rfl, c0]
    · rw [w1, e_sq, if_pos rfl, l0, e_sq]
  by_cases p1 : p = (1 : Int32)
  · subst p1
    refine ⟨nI (S 65), M, ?_, ?_, h⟩
    · rw [if_neg p0, if_pos rfl, c1]
    · rw [w1, e_sq, if_neg p0, if_pos rfl, l1, e_sq]
  by_cases p2 : p = (2 : Int32)
  · subst p2
    obtain ⟨⟨v, M1⟩, v1, v2⟩ := c_prs h1 hV
    have fr := frX10_countPairs M _ v1
    have r1 : rR M1 0 ρ S := rR_fr h2 fr (by decide) (by decide)
    obtain ⟨u, u1, u2⟩ := r_prs r1 hV
    refine ⟨v, M1, ?_, ?_, RR_fr h fr (by decide)⟩
    · rw [if_neg p0, if_neg p1, if_pos rfl, v1, e_bi]
    · rw [u1, e_sq, if_neg p0, if_neg p1, if_pos rfl, u2, ← v2]
  by_cases p3 : p = (3 : Int32)
  · subst p3
    obtain ⟨b, b1, b2, _⟩ := h.2.1
    obtain ⟨d, d1, d2, _⟩ := h.2.2.1
    have b1 : M.1 15 4 = zb b := b1
    have d1 : M.1 28 4 = zb d := d1
    have hb : (if zb b = (0 : Int32) then false else true) = b := hzb b
    have hd : (if zb d = (0 : Int32) then false else true) = d := hzb d
    have z0 : zn (0 : Int32) = 0 := by decide
    have z1 : zn (1 : Int32) = 1 := by decide
    refine ⟨zb b + zb d, M, ?_, ?_, h⟩
    · rw [if_neg p0, if_neg p1, if_neg p2, if_pos rfl, e_grd (by decide), e_lt, z0, b1, hb, e_lt, e_grd (by decide), e_lt, z1, d1, hd, e_lt]
    · rw [w1, e_sq, if_neg p0, if_neg p1, if_neg p2, if_pos rfl, e_grd (by decide), z0, b2, hb, e_lt, e_grd (by decide), z1, d2, hd, e_lt]
  by_cases p4 : p = (4 : Int32)
  · subst p4
    obtain ⟨len, _, a2, a3, _⟩ := h.2.2.2.2.1
    refine ⟨nI len, M, ?_, ?_, h⟩
    · rw [if_neg p0, if_neg p1, if_neg p2, if_neg p3, if_pos rfl, a2]
    · rw [w1, e_sq, if_neg p0, if_neg p1, if_neg p2, if_neg p3, if_pos rfl, a3]
  by_cases p5 : p = (5 : Int32)
  · subst p5
    have z0 : zn (0 : Int32) = 0 := by decide
    obtain ⟨b, s1, s2, s3⟩ := h.2.2.2.1 0 (by omega)
    have s1 : M.1 42 0 = zb b := s1
    cases b
    · have s2 := s2 rfl
      refine ⟨jI (-4), M, ?_, ?_, h⟩
      · rw [if_neg p0, if_neg p1, if_neg p2, if_neg p3, if_neg p4, if_pos rfl, e_grd (by decide), e_lt, z0, s1]; rfl
      · rw [w1, e_sq, if_neg p0, if_neg p1, if_neg p2, if_neg p3, if_neg p4, if_pos rfl, e_grd (by decide), z0, s2]; rfl
    · obtain ⟨la, sz, a1, a2, a3, a4, a5, a6, a7⟩ := s3 rfl
      have a5 : M.1 42 2 = nI sz := a5
      refine ⟨nI sz, M, ?_, ?_, h⟩
      · rw [if_neg p0, if_neg p1, if_neg p2, if_neg p3, if_neg p4, if_pos rfl, e_grd (by decide), e_lt, z0, s1, if_neg (by decide), e_grd (by decide), e_lt, a5]
      · rw [w1, e_sq, if_neg p0, if_neg p1, if_neg p2, if_neg p3, if_neg p4, if_pos rfl, e_grd (by decide), z0, a4, m_4, nj_eqF (by omega), e_grd (by decide), a6]
  · refine ⟨jI (-1), M, ?_, ?_, h⟩
    · rw [if_neg p0, if_neg p1, if_neg p2, if_neg p3, if_neg p4, if_neg p5]; rfl
    · rw [w1, e_sq, if_neg p0, if_neg p1, if_neg p2, if_neg p3, if_neg p4, if_neg p5]; rfl
