/-! THE LAW's RUN, of my machine -/
theorem v_L_law_0 (d : Nat) (p0 n_p0 : Nat) (σ : am_S) (K : Int → am_S → Prop) (h :
  am_Calls PP MLL (d + 8) m_C_init [qr (sN σ, 11, 10)] (newC σ 11 10) (kV fun s1 =>
    am_Calls PP MLL (d + 8) m_M_init [qr (sN s1, 12, 89)] (newC s1 12 89) (kV fun s2 =>
      am_Runs PP MLL (d + 8) m_L_law 10 [some (qr (p0, 24, n_p0)), some (qr (sN σ, 11, 10)), some (qr (sN s1, 12, 89)), some (qi 0)] [] s2 (kI K)))) : am_Runs PP MLL (d + 8) m_L_law 0 [some (qr (p0, 24, n_p0)), none, none, none] [] σ (kI K) := am_wEF_ok (orc []) 200 (⟨rfl, (am_cV h fun s1 h1 => ⟨rfl, (am_cV h1 fun s2 h2 => h2)⟩)⟩)

theorem ILP_0 (L : Nat) (xs : Nat → Int) : ILP xs (st0 L xs) 2 0 [] [] := by
  refine ⟨⟨rfl, rfl, Nat.le_refl _⟩, ⟨fun q hq => (by cases hq), fun q hq => (by cases hq)⟩, fun a j => rfl, fun a j ha => ?_, rfl, ⟨rfl, rfl, rfl, rfl, rfl, rfl, rfl⟩⟩
  show (if a = 0 then xs j else if a = 1 then aboveI j else 0) = 0
  rw [if_neg (by omega), if_neg (by omega)]
theorem law_run (L : Nat) (hL : L ≤ 3584) (xs : Nat → Int) (hx : ∀ j, inI (xs j)) : ∃ n σ', am_run PP MLL n 100 278 0 (am_ent 4 [qr (0, 24, L)]) [] (st0 L xs) = some (some (qi 1), σ') ∧ sN σ' ≤ 544002 ∧ sU σ' ≤ 2410000 := by
  have R : am_Runs PP MLL (92 + 8) m_L_law 0 [some (qr (0, 24, L)), none, none, none] [] (st0 L xs) (kI fun x s => x = 1 ∧ sN s ≤ 544002 ∧ sU s ≤ 2410000) := by
    refine v_L_law_0 92 0 L (st0 L xs) _ ?_
    have h := ILP_0 L xs
    rw [show sN (st0 L xs) = 2 from rfl]
    refine i_C 97 (P_N h) (fun s h => ?_)
    rw [show sN s = 31 from h.1.1]
    refine i_M 99 (P_N h) (fun t h => ?_)
    have w := law_loop 70 hL 512 0 t (INV_ini h) (by decide) (by omega)
    rw [show (7 * ((0 : Nat) : Int)) = 0 from rfl] at w
    exact w
  obtain ⟨n, ⟨rv, s⟩, h1, h2⟩ := R
  rcases rv with _ | x | y
  · exact False.elim h2
  · obtain ⟨e1, e2, e3⟩ := h2
    rw [e1] at h1
    exact ⟨n, s, h1, e2, e3⟩
  · exact False.elim h2
/-- from the entry, for every script of at most 3584 ints, the law comes to its end with true -/
theorem whole_start {p : Program} {e : Env} {s : State} {m : MethodId} {below : List Frame} {meth : Method} {c : Code} (l : Launch) {b L : Nat} {xs : Nat → Int32} (hL : L ≤ 3584) (C0 : lw_At p s m meth c b L xs) : W p l e room_1 s m #[Value.ref b] below meth c s.heap [] 0 0 (lw_Z below #[Value.ref b] s) (entryFrame m ([Value.ref b] : List Value).toArray 4) :=
  law_tie l hL C0 (law_run L hL (fun j => (xs j).toInt) (fun j => n_r (xs j)))
