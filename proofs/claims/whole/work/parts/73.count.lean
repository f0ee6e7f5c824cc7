def cj (c : Nat → Nat → Int) (i : Nat) : Nat → Nat
  | 0 => 0
  | j + 1 => cj c i j + (if c i j = -4 then 0 else 1)
def ci (c : Nat → Nat → Int) (m : Nat) : Nat → Nat
  | 0 => 0
  | i + 1 => ci c m i + cj c i m
theorem cj_le (c : Nat → Nat → Int) (i j : Nat) : cj c i j ≤ j := by
  induction j with
  | zero => exact Nat.le_refl _
  | succ j ih =>
    show cj c i j + (if c i j = -4 then 0 else 1) ≤ j + 1
    split <;> omega
theorem ci_le (c : Nat → Nat → Int) {m : Nat} (hm : m ≤ 10) (i : Nat) : ci c m i ≤ 10 * i := by
  induction i with
  | zero => exact Nat.le_refl _
  | succ i ih =>
    have := cj_le c i m
    show ci c m i + cj c i m ≤ 10 * (i + 1)
    omega
theorem zb_one (c : Nat → Nat → Int) (i j : Nat) : zb (if (decide (c i j ≠ -4)) = false then false else true) = nI (if c i j = -4 then 0 else 1) := by
  by_cases z : c i j = -4
  · rw [decide_eq_false (fun w => w z), if_pos rfl, if_pos z]; rfl
  · rw [decide_eq_true z, if_neg (by decide), if_neg z]; rfl
theorem c_prs {M : zM} {ρ : Nat → Int} {S : Nat → Nat} (h1 : cR M 1 ρ S) (hV : V ρ S) : ok (fX10_countPairs M) (fun v => v.1 = nI (ci (co ρ S 15) (S 65) (S 64))) := by
  have hS := hV.1
  have hp := V_pV hV 15
  unfold fX10_countPairs
  refine ok_sq (c_look h1 hV (pl := 15) (by omega)) ?_
  rintro M1 ⟨k1, _⟩
  rw [k1.1, k1.2.1]
  refine ok_up (S 64) (fun i s => s = (nI (ci (co ρ S 15) (S 65) i), nI i)) ?_ ?_ zFu 0 _ (by omega) (by unfold zFu; omega) rfl
  · rintro rec i s hi rfl hrec
    have hb := ci_le (co ρ S 15) hS.2 i
    dsimp only
    rw [nn_leF (by omega)]
    refine ok_sq (P := fun v => v = nI (ci (co ρ S 15) (S 65) (i + 1))) ?_ ?_
    · refine ok_up (S 65) (fun j s => s = (nI (ci (co ρ S 15) (S 65) i + cj (co ρ S 15) i j), nI j)) ?_ ?_ zFu 0 _ (by omega) (by unfold zFu; omega) rfl
      · rintro rec2 j s hj rfl hrec2
        have hb2 := cj_le (co ρ S 15) i j
        dsimp only
        rw [nn_leF (by omega), c_may k1 hp hi hj, e_sq, e_lt, zb_one, n_add, e_lt, l_1, n_add]
        refine hrec2 _ ?_
        show (_, _) = (nI (ci (co ρ S 15) (S 65) i + (cj (co ρ S 15) i j + (if co ρ S 15 i j = -4 then 0 else 1))), _)
        exact congrArg (fun t => (nI t, nI (j + 1))) (Nat.add_assoc _ _ _)
      · rintro rec2 s rfl
        dsimp only
        rw [nn_leT (by omega)]
        exact ok_some rfl
    · rintro v rfl
      rw [l_1, n_add]
      exact hrec _ rfl
  · rintro rec s rfl
    dsimp only
    rw [nn_leT (by omega)]
    exact ok_some rfl
theorem zb_one2 {z : Int} (hz : z = -4 ∨ (0 ≤ z ∧ z ≤ 5000)) : zb (if jI z = jI (-4) then false else true) = nI (if z = -4 then 0 else 1) := by
  by_cases w : z = -4
  · rw [w, if_pos rfl, if_pos rfl]; rfl
  · rw [jj_eqF (by omega), if_neg w]; rfl
theorem r_prs {M : zM} {ρ : Nat → Int} {S : Nat → Nat} (h2 : rR M 0 ρ S) (hV : V ρ S) : ok (zlp (α := Int32 × Int32) (β := Int32) (fun rec59 => (fun (u83 : Int32 × Int32) => match u83 with | (x57, x58) => sq (fX11_linesOf (0 : Int32) (0 : Int32) M) (fun (x63 : Int32) => if x63 ≤ x58 then (some x57) else (sq (α := Int32) (zlp (α := Int32 × Int32) (β := Int32) (fun rec66 => (fun (u75 : Int32 × Int32) => match u75 with | (x64, x65) => sq (fX11_linesOf (1 : Int32) (0 : Int32) M) (fun (x70 : Int32) => if x70 ≤ x65 then (some x64) else (sq (fX11_costOf x58 x65 (15 : Int32) M) (fun (x71 : Int32) => lt (if x71 = (-4 : Int32) then (false) else (true)) (fun (b72 : Bool) => lt ((x64 + (zb b72))) (fun (x73 : Int32) => rec66 (x73, (x65 + (1 : Int32)))))))))) zFu (x57, (0 : Int32))) (fun (x69 : Int32) => rec59 (x69, (x58 + (1 : Int32)))))))) zFu ((0 : Int32), (0 : Int32))) (fun v => v = nI (ci (co ρ S 15) (S 65) (S 64))) := by
  have hS := hV.1
  obtain ⟨l0, l1⟩ := r_lines h2
  have l0 : fX11_linesOf (0 : Int32) (0 : Int32) M = some (nI (S 64)) := l0
  have l1 : fX11_linesOf (1 : Int32) (0 : Int32) M = some (nI (S 65)) := l1
  refine ok_up (S 64) (fun i s => s = (nI (ci (co ρ S 15) (S 65) i), nI i)) ?_ ?_ zFu 0 _ (by omega) (by unfold zFu; omega) rfl
  · rintro rec i s hi rfl hrec
    have hb := ci_le (co ρ S 15) hS.2 i
    dsimp only
    rw [l0, e_sq, nn_leF (by omega)]
    refine ok_sq (P := fun v => v = nI (ci (co ρ S 15) (S 65) (i + 1))) ?_ ?_
    · refine ok_up (S 65) (fun j s => s = (nI (ci (co ρ S 15) (S 65) i + cj (co ρ S 15) i j), nI j)) ?_ ?_ zFu 0 _ (by omega) (by unfold zFu; omega) rfl
      · rintro rec2 j s hj rfl hrec2
        have hb2 := cj_le (co ρ S 15) i j
        have hc : fX11_costOf (nI i) (nI j) (15 : Int32) M = some (jI (co ρ S 15 i j)) := r_cost h2 hV (pl := 15) (by omega) hi hj
        dsimp only
        rw [l1, e_sq, nn_leF (by omega), hc, e_sq, m_4, e_lt, zb_one2 (co_bd hV 15 i j), n_add, e_lt, l_1, n_add]
        refine hrec2 _ ?_
        show (_, _) = (nI (ci (co ρ S 15) (S 65) i + (cj (co ρ S 15) i j + (if co ρ S 15 i j = -4 then 0 else 1))), _)
        exact congrArg (fun t => (nI t, nI (j + 1))) (Nat.add_assoc _ _ _)
      · rintro rec2 s rfl
        dsimp only
        rw [l1, e_sq, nn_leT (by omega)]
        exact ok_some rfl
    · rintro v rfl
      rw [l_1, n_add]
      exact hrec _ rfl
  · rintro rec s rfl
    dsimp only
    rw [l0, e_sq, nn_leT (by omega)]
    exact ok_some rfl
