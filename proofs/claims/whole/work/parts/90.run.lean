/-! THE LAW's RUN, of my machine: what is still owed -/
theorem law_run (L : Nat) (hL : L ≤ 3584) (xs : Nat → Int) (hx : ∀ j, inI (xs j)) : ∃ n σ', am_run PP MLL n 100 278 0 (am_ent 4 [qr (0, 24, L)]) [] (st0 L xs) = some (some (qi 1), σ') ∧ sN σ' ≤ 600002 ∧ sU σ' ≤ 7302250 := by
  sorry
/-- from the entry, for every script of at most 3584 ints, the law comes to its end with true -/
theorem whole_start {p : Program} {e : Env} {s : State} {m : MethodId} {below : List Frame} {meth : Method} {c : Code} (l : Launch) {b L : Nat} {xs : Nat → Int32} (hL : L ≤ 3584) (C0 : lw_At p s m meth c b L xs) : W p l e room_1 s m #[Value.ref b] below meth c s.heap [] 0 0 (lw_Z below #[Value.ref b] s) (entryFrame m ([Value.ref b] : List Value).toArray 4) :=
  law_tie l hL C0 (law_run L hL (fun j => (xs j).toInt) (fun j => n_r (xs j)))
