/-- THE PURE LAW (Layer 2): on every script of at most 2048 ints, with fuel enough, class and reference answer alike -/
theorem pure_law (L : Nat) (hL : L ≤ 2048) (xs : Nat → Int32) : ∃ (N : Nat) (r : Int32), law_fn N L xs = some r := law_holds L hL xs
theorem whole_start {p : Program} {e : Env} {s : State} {m : MethodId} {below : List Frame} {meth : Method} {c : Code} (l : Launch) {b L : Nat} {xs : Nat → Int32} (hL : L ≤ 2048) (C0 : lw_At p s m meth c b L xs) : W p l e room_1 s m #[Value.ref b] below meth c s.heap [] 0 0 (lw_Z below #[Value.ref b] s) (entryFrame m ([Value.ref b] : List Value).toArray 4) := by
  obtain ⟨N, r, h⟩ := pure_law L hL xs
  exact start_of l h C0
