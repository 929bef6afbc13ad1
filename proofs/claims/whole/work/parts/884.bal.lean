/-! the calls in pairs: balance -/
theorem v_C_balance_0 (d : Nat) (β μ κ ρ : Nat → Nat) (me : Nat → Nat → Nat) (n : Nat) (p1 : Int) (σ : am_S) (K : Int → am_S → Prop) (hC : CF σ) (hB : BS σ β μ κ ρ me n) (h :
  ((p1 < 0 →
    K (-1001) σ) ∧
  (¬ (p1 < 0) →
    ((p1 < 6 →
      (((sI σ 2 5) < 12 →
        am_Calls PP MLL (d + 7) m_Balance_init [qr (sN σ, 0, 9), qi p1, qr (sN (newC σ 0 9), 22, 0), qo (sR (newC (newC σ 0 9) 22 0) 2 2)] (newC (newC σ 0 9) 22 0) (kV fun s4 =>
          (CF s4 ∧ BS s4 β μ κ ρ me n) ∧
          am_Calls PP MLL (d + 7) m_C_keep [qr (2, 11, 10), qr (sN σ, 0, 9)] s4 (kI fun x5 s5 =>
            (CF s5 ∧ BS s5 β μ κ ρ me n) ∧
            K x5 s5))) ∧
      (¬ ((sI σ 2 5) < 12) →
        K (-1003) σ))) ∧
    (¬ (p1 < 6) →
      K (-1001) σ))))) : am_Runs PP MLL (d + 7) m_C_balance 0 [some (qr (2, 11, 10)), some (qi p1)] [] σ (kI K) := am_wEF_ok (orc []) 200 (⟨fun c1 => (h.1 c1), fun c1 => ⟨fun c2 => ⟨rfl, ⟨fun c3 => ⟨⟨(by decide : (0 : Int) ≤ 0), (by decide : (0 : Int) ≤ 1000000)⟩, ⟨rfl, ⟨rfl, (am_cV (((h.2 c1).1 c2).1 c3) fun s4 h4 => ⟨rfl, (am_cI h4.2 fun x5 s5 h5 => h5.2)⟩)⟩⟩⟩, fun c3 => (((h.2 c1).1 c2).2 c3)⟩⟩, fun c2 => ((h.2 c1).2 c2)⟩⟩)

theorem v_M_balance_0 (d : Nat) (p1 : Int) (σ : am_S) (K : Int → am_S → Prop) (hF : MF σ) (hT : sI σ 31 26 = 0) (h :
  ((p1 < 0 →
    K (-1001) σ) ∧
  (¬ (p1 < 0) →
    ((5 < p1 →
      K (-1001) σ) ∧
    (¬ (5 < p1) →
      (((sI σ 31 16) = 12 →
        K (-1003) σ) ∧
      (¬ ((sI σ 31 16) = 12) →
        (0 ≤ (sI σ 31 16) ∧ (sI σ 31 16) < 12 ∧ -2147483648 ≤ 2 * (sI σ 31 16) ∧ 2 * (sI σ 31 16) < 2147483648 ∧ 0 ≤ (2 * (sI σ 31 16)) ∧ (2 * (sI σ 31 16)) < 24 ∧ -2147483648 ≤ (2 * (sI σ 31 16)) + 1 ∧ (2 * (sI σ 31 16)) + 1 < 2147483648 ∧ 0 ≤ ((2 * (sI σ 31 16)) + 1) ∧ ((2 * (sI σ 31 16)) + 1) < 24 ∧ -2147483648 ≤ (sI σ 31 16) + 1 ∧ (sI σ 31 16) + 1 < 2147483648) ∧
        (-2147483648 ≤ ((sI σ 31 16) + 1) - 1 ∧ ((sI σ 31 16) + 1) - 1 < 2147483648) ∧
        K (((sI σ 31 16) + 1) - 1) (putI (putI (putI (putI (putI (putI σ 41 (Int.toNat (sI σ 31 16)) p1) 42 (Int.toNat (sI σ 31 16)) 0) 43 (Int.toNat (sI σ 31 16)) 0) 44 (Int.toNat (2 * (sI σ 31 16))) (-1)) 44 (Int.toNat ((2 * (sI σ 31 16)) + 1)) (-1)) 31 16 ((sI σ 31 16) + 1))))))))) : am_Runs PP MLL (d + 1) m_M_balance 0 [some (qr (31, 12, 89)), some (qi p1)] [] σ (kI K) := am_wEF_ok (orc []) 200 (am_wEF_ok (orc []) 200 (⟨fun c1 => ⟨(Or.inl rfl), ⟨fun _ => (h.1 c1), fun c => absurd (by decide : (0 : Int) = 0) c⟩⟩, fun c1 => ⟨fun c2 => ⟨(Or.inl rfl), ⟨fun _ => ((h.2 c1).1 c2), fun c => absurd (by decide : (0 : Int) = 0) c⟩⟩, fun c2 => ⟨(Or.inr rfl), ⟨fun c => absurd c (by decide : ¬ ((1 : Int) = 0)), fun _ => ⟨rfl, ⟨fun c3 => (((h.2 c1).2 c2).1 c3), fun c3 => ⟨rfl, am_wEF_ok (orc [(1, 41, 20, 12), (7, 42, 20, 12), (13, 43, 20, 12), (19, 44, 20, 24), (27, 44, 20, 24)]) 200 (⟨⟨rfl, (hF 17)⟩, ⟨rfl, ⟨⟨rfl, (((h.2 c1).2 c2).2 c3).1.1, (((h.2 c1).2 c2).2 c3).1.2.1⟩, ⟨⟨rfl, (hF 18)⟩, ⟨rfl, ⟨⟨rfl, (((h.2 c1).2 c2).2 c3).1.1, (((h.2 c1).2 c2).2 c3).1.2.1⟩, ⟨⟨rfl, (hF 19)⟩, ⟨rfl, ⟨⟨rfl, (((h.2 c1).2 c2).2 c3).1.1, (((h.2 c1).2 c2).2 c3).1.2.1⟩, ⟨⟨rfl, (hF 20)⟩, ⟨rfl, ⟨⟨(((h.2 c1).2 c2).2 c3).1.2.2.1, (((h.2 c1).2 c2).2 c3).1.2.2.2.1⟩, ⟨⟨rfl, (((h.2 c1).2 c2).2 c3).1.2.2.2.2.1, (((h.2 c1).2 c2).2 c3).1.2.2.2.2.2.1⟩, ⟨⟨rfl, (hF 20)⟩, ⟨rfl, ⟨⟨(((h.2 c1).2 c2).2 c3).1.2.2.1, (((h.2 c1).2 c2).2 c3).1.2.2.2.1⟩, ⟨⟨(((h.2 c1).2 c2).2 c3).1.2.2.2.2.2.2.1, (((h.2 c1).2 c2).2 c3).1.2.2.2.2.2.2.2.1⟩, ⟨⟨rfl, (((h.2 c1).2 c2).2 c3).1.2.2.2.2.2.2.2.2.1, (((h.2 c1).2 c2).2 c3).1.2.2.2.2.2.2.2.2.2.1⟩, ⟨rfl, ⟨⟨(((h.2 c1).2 c2).2 c3).1.2.2.2.2.2.2.2.2.2.2.1, (((h.2 c1).2 c2).2 c3).1.2.2.2.2.2.2.2.2.2.2.2⟩, ⟨rfl, ⟨rfl, ⟨⟨(((h.2 c1).2 c2).2 c3).2.1.1, (((h.2 c1).2 c2).2 c3).2.1.2⟩, (((h.2 c1).2 c2).2 c3).2.2⟩⟩⟩⟩⟩⟩⟩⟩⟩⟩⟩⟩⟩⟩⟩⟩⟩⟩⟩⟩⟩⟩⟩)⟩⟩⟩⟩⟩⟩⟩))

theorem v_C_keep_0 (d : Nat) (β μ κ ρ : Nat → Nat) (me : Nat → Nat → Nat) (p1 n : Nat) (σ : am_S) (K : Int → am_S → Prop) (hC : CF σ) (hB : BS σ β μ κ ρ me n) (h :
  (0 ≤ (sI σ 2 5) ∧ (sI σ 2 5) < 12 ∧ -2147483648 ≤ (sI σ 2 5) + 1 ∧ (sI σ 2 5) + 1 < 2147483648 ∧ -2147483648 ≤ ((sI σ 2 5) + 1) - 1 ∧ ((sI σ 2 5) + 1) - 1 < 2147483648) ∧
  K (((sI σ 2 5) + 1) - 1) (putI (putR σ 9 (Int.toNat (sI σ 2 5)) (some (p1, 0, 9))) 2 5 ((sI σ 2 5) + 1))) : am_Runs PP MLL d m_C_keep 0 [some (qr (2, 11, 10)), some (qr (p1, 0, 9))] [] σ (kI K) := am_wEF_ok (orc [(1, 9, 22, 12)]) 200 (⟨⟨rfl, (hC 2 1 _ rfl)⟩, ⟨rfl, ⟨⟨rfl, h.1.1, h.1.2.1, rfl⟩, ⟨rfl, ⟨⟨h.1.2.2.1, h.1.2.2.2.1⟩, ⟨rfl, ⟨rfl, ⟨⟨h.1.2.2.2.2.1, h.1.2.2.2.2.2⟩, h.2⟩⟩⟩⟩⟩⟩⟩⟩)

theorem p_balance (d : Nat) {xs : Nat → Int} {c : Nat} {σ : am_S} {p1 : Int} (hI : INV xs σ c) (hc : c + 1 ≤ 600) : PR d xs m_C_balance m_M_balance [qi p1] σ c := by
  have hs := INV_s hI hc
  obtain ⟨own, β, μ, κ, ρ, me, n, aH, nH, aL, nL, aY, nY, aS, nS, N, l, m, T, W, kd, aR, nR, aV, nV, aI, nI, aQ, nQ, g, w, hx⟩ := hI
  have hx0 := hx
  obtain ⟨⟨hF, hab, hxs⟩, it, il, ib, im, ij, sc, rz, is, ir, hc6⟩ := hx
  have it0 := it
  obtain ⟨hR, ow, ti, kt, ks, ⟨w1, w2, w3, w4, w5, w6, w7, w8⟩, ⟨l1, l2, l3, l4⟩, lz, ⟨q1, q2, q3, q4⟩, h87⟩ := it
  have o1 := ow.1
  have ib0 := ib
  obtain ⟨a1, a2, a3, ⟨n12, a4, a5⟩, bd, a6, a7, a8, a9, a10⟩ := ib
  obtain ⟨m1, ⟨m2, T26⟩, m3, m4, m5, m6⟩ := im
  have tN := ti.2.2.2.2.1
  have tT := ti.2.2.2.2.2.2.1
  have T4 := ti.2.2.2.2.2.2.2.2.1
  have t0 : Int.toNat (n : Int) = n := Int.toNat_natCast n
  have t1 : Int.toNat (2 * (n : Int)) = 2 * n := by omega
  have t2 : Int.toNat (2 * (n : Int) + 1) = 2 * n + 1 := by omega
  have rf : ∀ v : Int, ((v = -1001 ∧ (p1 < 0 ∨ 5 < p1)) ∨ (v = -1003 ∧ 0 ≤ p1 ∧ p1 ≤ 5 ∧ n = 12)) → am_Calls PP MLL (d + 30) m_M_balance [qr (31, 12, 89), qi p1] σ (kI fun y t => v = y ∧ INV xs t (c + 1)) := fun v hv => by
    refine v_M_balance_0 (d + 28) p1 σ _ hF T26 ?_
    rw [a5]
    exact ⟨fun c1 => ⟨by omega, hs⟩, fun c1 => ⟨fun c2 => ⟨by omega, hs⟩, fun c2 => ⟨fun c3 => ⟨by omega, hs⟩, fun c3 => by omega⟩⟩⟩
  refine v_C_balance_0 (d + 22) β μ κ ρ me n p1 σ _ hR.1 a1 ?_
  rw [a4]
  refine ⟨fun c1 => ⟨hxs, rf _ (by omega)⟩, fun c1 => ⟨fun c2 => ⟨fun c3 => ?_, fun c3 => ⟨hxs, rf _ (by omega)⟩⟩, fun c2 => ⟨hxs, rf _ (by omega)⟩⟩⟩
  have hn : n < 12 := by omega
  obtain ⟨s1, e1⟩ : ∃ s1, s1 = newC (newC σ 0 9) 22 0 := ⟨_, rfl⟩
  have N1 : sN s1 = sN σ + 2 := by rw [e1]; rfl
  have U1 : sU s1 = sU σ + 9 := by rw [e1]; rfl
  have f1 : ∀ x, x < sN σ → sI s1 x = sI σ x ∧ ∀ j, sR s1 x j = sR σ x j := fun x hx' => by
    rw [e1]
    refine ⟨?_, fun j => ?_⟩
    · funext j
      rw [nwI, nwN, if_neg (by omega), nwI, if_neg (by omega)]
    · rw [nwR, nwN, if_neg (by omega), nwR, if_neg (by omega)]
  have fa : ∀ j, sI s1 (sN σ) j = 0 := fun j => by
    rw [e1, nwI, nwN, if_neg (by omega), nwI, if_pos rfl]
  have r22 : sR s1 2 2 = some (10, 7, 3) := by
    rw [(f1 2 (by omega)).2]
    exact hR.1 2 2 _ rfl
  have C1 : CF s1 := fun y j r hr => by
    have z1 : y < 31 := (cref_dec _ (crefF_mem _ y j r hr)).1
    rw [(f1 y (by omega)).2]
    exact hR.1 y j r hr
  have B1 : BS s1 β μ κ ρ me n := BS_fr a1 (fun b _ => (f1 9 (by omega)).2 b) (fun b hb j => by
    have hb3 := a3 b hb
    exact ⟨(f1 _ (by omega)).2 j, (f1 _ (by omega)).2 j, (f1 _ (by omega)).2 j, (f1 _ (by omega)).2 j⟩)
  rw [← e1, r22, show sN (newC σ 0 9) = sN σ + 1 from rfl]
  refine c_init (d + 22) (q := fun _ => 0) (by omega) C1 B1 (fun b hb => by have hb3 := a3 b hb; exact ⟨by omega, by omega, by omega, by omega, by omega, by omega, by omega⟩) (by omega) (by omega) (by omega) (by omega) (by rw [(f1 10 (by omega)).1]; exact m2) (fun e => absurd e (by omega)) (fun s bip => ?_)
  rw [if_neg (by omega)] at bip
  have lo : ∀ x, x < sN σ → sI s x = sI σ x ∧ ∀ j, sR s x j = sR σ x j := fun x hx' => by
    obtain ⟨-, -, -, -, -, -, -, -, -, -, -, -, b13, -, -⟩ := bip
    obtain ⟨g1, g2⟩ := b13 x (by omega) (by omega)
    exact ⟨by rw [g1]; exact (f1 x hx').1, fun j => by rw [g2]; exact (f1 x hx').2 j⟩
  have C2 : CF s := fun y j r hr => by
    have z1 : y < 31 := (cref_dec _ (crefF_mem _ y j r hr)).1
    rw [(lo y (by omega)).2]
    exact hR.1 y j r hr
  have B2 : BS s β μ κ ρ me n := BS_fr a1 (fun b _ => (lo 9 (by omega)).2 b) (fun b hb j => by
    have hb3 := a3 b hb
    exact ⟨(lo _ (by omega)).2 j, (lo _ (by omega)).2 j, (lo _ (by omega)).2 j, (lo _ (by omega)).2 j⟩)
  refine ⟨⟨C2, B2⟩, v_C_keep_0 (d + 28) β μ κ ρ me (sN σ) n s _ C2 B2 ?_⟩
  rw [(lo 2 (by omega)).1, a4, Int.toNat_natCast]
  obtain ⟨s5, e5⟩ : ∃ s5, s5 = putI (putR s 9 n (some (sN σ, 0, 9))) 2 5 ((n : Int) + 1) := ⟨_, rfl⟩
  rw [← e5]
  have R5 : ∀ x, x ≠ 9 → ∀ j, sR s5 x j = sR s x j := fun x hx' j => by
    rw [e5, ptR, sR_putR, if_neg (fun e => hx' e.1)]
  have R9 : ∀ j, j ≠ n → sR s5 9 j = sR s 9 j := fun j hj => by
    rw [e5, ptR, sR_putR, if_neg (fun e => hj e.2)]
  have I5 : ∀ x, x ≠ 2 → sI s5 x = sI s x := fun x hx' => by
    rw [e5, put_ne hx']
    rfl
  have C5 : CF s5 := fun y j r hr => by
    have z := (cref_dec _ (crefF_mem _ y j r hr)).2.2.2.2.2.1
    rw [R5 y z]
    exact C2 y j r hr
  have o9 := o1 9 (by decide)
  have B5 : BS s5 β μ κ ρ me n := BS_fr B2 (fun b hb => R9 b (by omega)) (fun b hb j => by
    obtain ⟨y1, y2, y3⟩ := a2 b hb
    have y30 := y3 0 (by decide)
    have y32 := y3 2 (by decide)
    rw [Nat.add_zero] at y30
    exact ⟨R5 _ (fun e => by rw [e] at y1; omega) j, R5 _ (fun e => by rw [e] at y30; omega) j, R5 _ (fun e => by rw [e] at y32; omega) j, R5 _ (fun e => by rw [e] at y2; omega) j⟩)
  refine ⟨by omega, ⟨C5, B5⟩, by rw [I5 0 (by decide), (lo 0 (by omega)).1]; exact hxs, ?_⟩
  have i31 : sI s5 31 = sI σ 31 := by
    rw [I5 31 (by decide)]
    exact (lo 31 (by omega)).1
  have MF5 : MF s5 := fun j => by
    rw [R5 31 (by decide), (lo 31 (by omega)).2]
    exact hF j
  have T5 : sI s5 31 26 = 0 := by rw [i31]; exact T26
  refine v_M_balance_0 (d + 28) p1 s5 _ MF5 T5 ?_
  rw [i31, a5, t0, t1, t2]
  obtain ⟨Z, eZ⟩ : ∃ Z, Z = putI (putI (putI (putI (putI (putI (s5) 41 n p1) 42 n 0) 43 n 0) 44 (2 * n) (-1)) 44 (2 * n + 1) (-1)) 31 16 ((n : Int) + 1) := ⟨_, rfl⟩
  have Zt : ∀ x, x ≠ 2 → x ≠ 31 → (x < 41 ∨ 47 < x ∨ x = 45) → sI Z x = sI s x := fun x y2 y31 y4 => by
    rw [eZ, put_ne y31, put_ne (by omega), put_ne (by omega), put_ne (by omega), put_ne (by omega), put_ne (by omega)]
    exact I5 x y2
  have Z2 : ∀ j, sI Z 2 j = if j = 5 then (n : Int) + 1 else sI s 2 j := fun j => by
    rw [eZ, put_ne (by decide), put_ne (by decide), put_ne (by decide), put_ne (by decide), put_ne (by decide), put_ne (by decide), e5, put_at]
    rfl
  have Z31 : ∀ j, sI Z 31 j = if j = 16 then (n : Int) + 1 else sI s 31 j := fun j => by rw [eZ, put_at, put_ne (by decide), put_ne (by decide), put_ne (by decide), put_ne (by decide), put_ne (by decide), I5 31 (by decide)]
  have Z41 : ∀ j, sI Z 41 j = if j = n then p1 else sI s 41 j := fun j => by rw [eZ, put_ne (by decide), put_ne (by decide), put_ne (by decide), put_ne (by decide), put_ne (by decide), put_at, I5 41 (by decide)]
  have Z42 : ∀ j, sI Z 42 j = if j = n then 0 else sI s 42 j := fun j => by rw [eZ, put_ne (by decide), put_ne (by decide), put_ne (by decide), put_ne (by decide), put_at, put_ne (by decide), I5 42 (by decide)]
  have Z43 : ∀ j, sI Z 43 j = if j = n then 0 else sI s 43 j := fun j => by rw [eZ, put_ne (by decide), put_ne (by decide), put_ne (by decide), put_at, put_ne (by decide), put_ne (by decide), I5 43 (by decide)]
  have Z44 : ∀ j, sI Z 44 j = if j = 2 * n ∨ j = 2 * n + 1 then -1 else sI s 44 j := fun j => by
    rw [eZ, put_ne (by decide), put_at, put_at, put_ne (by decide), put_ne (by decide), put_ne (by decide), I5 44 (by decide)]
    (repeat' split) <;> omega
  have Z46 : ∀ j, sI Z 46 j = sI s 46 j := fun j => by rw [eZ, put_ne (by decide), put_ne (by decide), put_ne (by decide), put_ne (by decide), put_ne (by decide), put_ne (by decide), I5 46 (by decide)]
  have Z47 : ∀ j, sI Z 47 j = sI s 47 j := fun j => by rw [eZ, put_ne (by decide), put_ne (by decide), put_ne (by decide), put_ne (by decide), put_ne (by decide), put_ne (by decide), I5 47 (by decide)]
  rw [← eZ]
  refine ⟨fun q' => by omega, fun _ => ⟨fun q' => by omega, fun _ => ⟨fun q' => by omega, fun _ => ⟨by omega, by omega, rfl, ?_⟩⟩⟩⟩
  exact INV_nb hx0 hc hn (s1 := s1) (s := s) (a := sN σ) (u := sN σ + 1) (k := 0) (q := fun _ => 0) (p := p1) ⟨by omega, by omega, by omega, by omega, by omega⟩ N1 (by omega) f1 fa (fun i hi => absurd hi (Nat.not_lt_zero _)) (by rw [if_neg (by omega)]; exact bip) (by rw [eZ, e5]; rfl) Zt Z2 Z31 Z41 Z42 Z43 Z44 (fun i _ => Z46 i) (fun i _ => Z47 i) (by omega) (fun _ => rfl) (fun e => absurd e (by omega))
