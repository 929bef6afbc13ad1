/-! the law: its loop -/
theorem l_law (d : Nat) {L : Nat} {xs : Nat → Int} {σ : am_S} {c : Nat} {K : Int → am_S → Prop} {i : Int} (hI : INV xs σ c) (hc : c + 1 ≤ 600) (hL : L ≤ 3584) (h0 : 0 ≤ i) (h1 : (L : Int) - 7 < i → K 1 σ) (h2 : ¬ ((L : Int) - 7 < i) → ∀ t, INV xs t (c + 1) → am_Runs PP MLL (d + 30) m_L_law 10 [some (qr (0, 24, L)), some (qr (2, 11, 10)), some (qr (31, 12, 89)), some (qi (i + 7))] [] t (kI K)) : am_Runs PP MLL (d + 30) m_L_law 10 [some (qr (0, 24, L)), some (qr (2, 11, 10)), some (qr (31, 12, 89)), some (qi i)] [] σ (kI K) := by
  by_cases e0 : a_and (xs (Int.toNat i)) 63 = 0
  · exact l_law0 d hI hc hL h0 h1 h2 e0
  by_cases e1 : a_and (xs (Int.toNat i)) 63 = 1
  · exact l_law1 d hI hc hL h0 h1 h2 e1
  by_cases e2 : a_and (xs (Int.toNat i)) 63 = 2
  · exact l_law2 d hI hc hL h0 h1 h2 e2
  by_cases e3 : a_and (xs (Int.toNat i)) 63 = 3
  · exact l_law3 d hI hc hL h0 h1 h2 e3
  by_cases e4 : a_and (xs (Int.toNat i)) 63 = 4
  · exact l_law4 d hI hc hL h0 h1 h2 e4
  by_cases e5 : a_and (xs (Int.toNat i)) 63 = 5
  · exact l_law5 d hI hc hL h0 h1 h2 e5
  by_cases e6 : a_and (xs (Int.toNat i)) 63 = 6
  · exact l_law6 d hI hc hL h0 h1 h2 e6
  by_cases e7 : a_and (xs (Int.toNat i)) 63 = 7
  · exact l_law7 d hI hc hL h0 h1 h2 e7
  by_cases e8 : a_and (xs (Int.toNat i)) 63 = 8
  · exact l_law8 d hI hc hL h0 h1 h2 e8
  by_cases e9 : a_and (xs (Int.toNat i)) 63 = 9
  · exact l_law9 d hI hc hL h0 h1 h2 e9
  by_cases e10 : a_and (xs (Int.toNat i)) 63 = 10
  · exact l_law10 d hI hc hL h0 h1 h2 e10
  by_cases e11 : a_and (xs (Int.toNat i)) 63 = 11
  · exact l_law11 d hI hc hL h0 h1 h2 e11
  by_cases e12 : a_and (xs (Int.toNat i)) 63 = 12
  · exact l_law12 d hI hc hL h0 h1 h2 e12
  by_cases e13 : a_and (xs (Int.toNat i)) 63 = 13
  · exact l_law13 d hI hc hL h0 h1 h2 e13
  by_cases e14 : a_and (xs (Int.toNat i)) 63 = 14
  · exact l_law14 d hI hc hL h0 h1 h2 e14
  by_cases e15 : a_and (xs (Int.toNat i)) 63 = 15
  · exact l_law15 d hI hc hL h0 h1 h2 e15
  by_cases e16 : a_and (xs (Int.toNat i)) 63 = 16
  · exact l_law16 d hI hc hL h0 h1 h2 e16
  by_cases e17 : a_and (xs (Int.toNat i)) 63 = 17
  · exact l_law17 d hI hc hL h0 h1 h2 e17
  by_cases e18 : a_and (xs (Int.toNat i)) 63 = 18
  · exact l_law18 d hI hc hL h0 h1 h2 e18
  by_cases e19 : a_and (xs (Int.toNat i)) 63 = 19
  · exact l_law19 d hI hc hL h0 h1 h2 e19
  by_cases e20 : a_and (xs (Int.toNat i)) 63 = 20
  · exact l_law20 d hI hc hL h0 h1 h2 e20
  by_cases e21 : a_and (xs (Int.toNat i)) 63 = 21
  · exact l_law21 d hI hc hL h0 h1 h2 e21
  by_cases e22 : a_and (xs (Int.toNat i)) 63 = 22
  · exact l_law22 d hI hc hL h0 h1 h2 e22
  by_cases e23 : a_and (xs (Int.toNat i)) 63 = 23
  · exact l_law23 d hI hc hL h0 h1 h2 e23
  by_cases e24 : a_and (xs (Int.toNat i)) 63 = 24
  · exact l_law24 d hI hc hL h0 h1 h2 e24
  by_cases e25 : a_and (xs (Int.toNat i)) 63 = 25
  · exact l_law25 d hI hc hL h0 h1 h2 e25
  by_cases e26 : a_and (xs (Int.toNat i)) 63 = 26
  · exact l_law26 d hI hc hL h0 h1 h2 e26
  by_cases e27 : a_and (xs (Int.toNat i)) 63 = 27
  · exact l_law27 d hI hc hL h0 h1 h2 e27
  by_cases e28 : a_and (xs (Int.toNat i)) 63 = 28
  · exact l_law28 d hI hc hL h0 h1 h2 e28
  by_cases e29 : a_and (xs (Int.toNat i)) 63 = 29
  · exact l_law29 d hI hc hL h0 h1 h2 e29
  by_cases e30 : a_and (xs (Int.toNat i)) 63 = 30
  · exact l_law30 d hI hc hL h0 h1 h2 e30
  by_cases e31 : a_and (xs (Int.toNat i)) 63 = 31
  · exact l_law31 d hI hc hL h0 h1 h2 e31
  by_cases e32 : a_and (xs (Int.toNat i)) 63 = 32
  · exact l_law32 d hI hc hL h0 h1 h2 e32
  by_cases e33 : a_and (xs (Int.toNat i)) 63 = 33
  · exact l_law33 d hI hc hL h0 h1 h2 e33
  by_cases e34 : a_and (xs (Int.toNat i)) 63 = 34
  · exact l_law34 d hI hc hL h0 h1 h2 e34
  by_cases e35 : a_and (xs (Int.toNat i)) 63 = 35
  · exact l_law35 d hI hc hL h0 h1 h2 e35
  by_cases e36 : a_and (xs (Int.toNat i)) 63 = 36
  · exact l_law36 d hI hc hL h0 h1 h2 e36
  by_cases e37 : a_and (xs (Int.toNat i)) 63 = 37
  · exact l_law37 d hI hc hL h0 h1 h2 e37
  exact l_lawN d hI hc hL h0 h1 h2 e0 e1 e2 e3 e4 e5 e6 e7 e8 e9 e10 e11 e12 e13 e14 e15 e16 e17 e18 e19 e20 e21 e22 e23 e24 e25 e26 e27 e28 e29 e30 e31 e32 e33 e34 e35 e36 e37
theorem rg_l {o : Option am_R} {a t n : Nat} (h : o = some (a, t, n)) : (rg o).2.2 = n := by
  rw [h]
  rfl
theorem INV_room {xs : Nat → Int} {σ : am_S} {c : Nat} (h : INV xs σ c) (hc : c ≤ 512) : sN σ ≤ 544002 ∧ sU σ ≤ 2410000 := by
  obtain ⟨own, β, μ, κ, ρ, me, n, aH, nH, aL, nL, aY, nY, aS, nS, N, l, m, T, W, kd, aR, nR, aV, nV, aI, nI, aQ, nQ, g, w, hx⟩ := h
  obtain ⟨-, it, -, -, -, ij, sc, -, -, ir, -⟩ := hx
  obtain ⟨-, -, -, -, -, -, -, lz, -, -⟩ := it
  obtain ⟨-, -, -, -, -, -, j7, j8, -⟩ := ij
  obtain ⟨⟨-, -, -, k4⟩, -, gw, -, -, v1, v2, v3⟩ := sc
  obtain ⟨⟨x1, y1, x2, y2, u1, u2, -, -, -, -, u3, u4, -, -⟩, -⟩ := v1
  obtain ⟨⟨x3, y3, x4, y4, u5, u6, -, -, -, -, u7, u8, -, -⟩, -⟩ := v2
  obtain ⟨⟨x5, y5, u9, -, -, -, u10⟩, -⟩ := v3
  have z1 : (rg (sR σ 18 0)).2.2 ≤ 144000 := by
    rw [rg_l u9]
    exact u10
  have zg : (rg (sR σ g 0)).2.2 ≤ 1200 ∧ (rg (sR σ g 1)).2.2 ≤ 1200 := by
    rw [rg_l u1, rg_l u2]
    exact ⟨u3, u4⟩
  have zw : (rg (sR σ w 0)).2.2 ≤ 1200 ∧ (rg (sR σ w 1)).2.2 ≤ 1200 := by
    rw [rg_l u5, rg_l u6]
    exact ⟨u7, u8⟩
  have z2 : zl σ ≤ 144000 + 4800 := by
    unfold zl
    rcases gw with ⟨e1, e2⟩ | ⟨e1, e2⟩
    · rw [e1] at zg
      rw [e2] at zw
      omega
    · rw [e1] at zg
      rw [e2] at zw
      omega
  unfold IR at ir
  omega
theorem law_loop (d : Nat) {L : Nat} {xs : Nat → Int} (hL : L ≤ 3584) : ∀ (r c : Nat) (σ : am_S), INV xs σ c → c + r ≤ 512 → L ≤ 7 * c + 7 * r + 6 → am_Runs PP MLL (d + 30) m_L_law 10 [some (qr (0, 24, L)), some (qr (2, 11, 10)), some (qr (31, 12, 89)), some (qi (7 * (c : Int)))] [] σ (kI fun x s => x = 1 ∧ sN s ≤ 544002 ∧ sU s ≤ 2410000)
  | 0, c, σ, hI, hc, hl => l_law d hI (by omega) hL (by omega) (fun _ => ⟨rfl, INV_room hI (by omega)⟩) (fun h => absurd (show (L : Int) - 7 < 7 * (c : Int) by omega) h)
  | r + 1, c, σ, hI, hc, hl => by
    refine l_law d hI (by omega) hL (by omega) (fun _ => ⟨rfl, INV_room hI (by omega)⟩) (fun h t ht => ?_)
    have e : 7 * (c : Int) + 7 = 7 * ((c + 1 : Nat) : Int) := by omega
    rw [e]
    exact law_loop d hL r (c + 1) t ht (by omega) (by omega)
