/-! ===== the pure statement, and the claim ===== -/
theorem law_true (L : Nat) (hL : L ≤ 384) (xs : Nat → Int32) (M : zM) : fL_law L xs (mm_0 M) = some true := sorry
theorem whole_start {p : Program} {e : Env} {s : State} {m : MethodId} {below : List Frame} {meth : Method} {c : Code} (l : Launch) (hflags : l.flags = flags0) {b L : Nat} {xs : Nat → Int32} (hL : L ≤ 384) (C0 : lw_At p s m meth c b L xs) : W p l e room_1 s m #[Value.ref b] below meth c s.heap [] 0 0 (lw_Z below #[Value.ref b] s) (entryFrame m ([Value.ref b] : List Value).toArray 4) := start_of l (law_true L hL xs) C0
