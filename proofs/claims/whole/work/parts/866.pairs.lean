/-! the calls in pairs: take, alike, count, digest -/
theorem v_C_alikeT_0 (d : Nat) (β μ κ ρ : Nat → Nat) (me : Nat → Nat → Nat) (aH nH aL nL aY nY aS nS n : Nat) (p1 p2 : Int) (σ : am_S) (K : Int → am_S → Prop) (hR : TR σ aH nH aL nL aY nY aS nS) (hB : BS σ β μ κ ρ me n) (h :
  ((p1 < 0 →
    K (-1001) σ) ∧
  (¬ (p1 < 0) →
    (((sI σ 3 0) ≤ p1 →
      K (-1001) σ) ∧
    (¬ ((sI σ 3 0) ≤ p1) →
      ((p2 < 0 →
        K (-1001) σ) ∧
      (¬ (p2 < 0) →
        (((sI σ 3 0) ≤ p2 →
          K (-1001) σ) ∧
        (¬ ((sI σ 3 0) ≤ p2) →
          am_Calls PP MLL (d + 5) m_Truths_exchangeable [qr (3, 9, 11), qi p1, qi p2] σ (kI fun x5 s5 =>
            (TR s5 aH nH aL nL aY nY aS nS ∧ BS s5 β μ κ ρ me n) ∧
            K (if x5 = 0 then (0 : Int) else 1) s5)))))))))) : am_Runs PP MLL (d + 5) m_C_alike 0 [some (qr (2, 11, 10)), some (qi p1), some (qi p2)] [] σ (kI K) := am_wEC_ok (orc [(11, 3, 9, 11)]) [19] 200 (⟨rfl, am_wEF_ok (orc [(4, 3, 9, 11)]) 200 (⟨fun c1 => ⟨(Or.inl rfl), ⟨fun _ => (h.1 c1), fun c => absurd (by decide : (0 : Int) = 0) c⟩⟩, fun c1 => ⟨⟨rfl, (hR.1 2 0 _ rfl)⟩, ⟨rfl, ⟨fun c2 => ⟨(Or.inl rfl), ⟨fun _ => ((h.2 c1).1 c2), fun c => absurd (by decide : (0 : Int) = 0) c⟩⟩, fun c2 => ⟨(Or.inr rfl), ⟨fun c => absurd c (by decide : ¬ ((1 : Int) = 0)), fun _ => ⟨rfl, am_wEF_ok (orc [(4, 3, 9, 11)]) 200 (⟨fun c3 => ⟨(Or.inl rfl), ⟨fun _ => (((h.2 c1).2 c2).1 c3), fun c => absurd (by decide : (0 : Int) = 0) c⟩⟩, fun c3 => ⟨⟨rfl, (hR.1 2 0 _ rfl)⟩, ⟨rfl, ⟨fun c4 => ⟨(Or.inl rfl), ⟨fun _ => ((((h.2 c1).2 c2).2 c3).1 c4), fun c => absurd (by decide : (0 : Int) = 0) c⟩⟩, fun c4 => ⟨(Or.inr rfl), ⟨fun c => absurd c (by decide : ¬ ((1 : Int) = 0)), fun _ => ⟨⟨rfl, (hR.1 2 0 _ rfl)⟩, ⟨rfl, (am_cI ((((h.2 c1).2 c2).2 c3).2 c4) fun x5 s5 h5 => am_use (fun H7 => ⟨fun c6 => (Eq.mp (congrArg (fun z => am_Runs _ _ _ _ _ _ (qi z :: _) _ _) (if_pos c6 : (if x5 = 0 then (0 : Int) else 1) = 0)) H7), fun c6 => (Eq.mp (congrArg (fun z => am_Runs _ _ _ _ _ _ (qi z :: _) _ _) (if_neg c6 : (if x5 = 0 then (0 : Int) else 1) = 1)) H7)⟩) (am_wEC_ok (orc []) [19] 200 (h5.2)))⟩⟩⟩⟩⟩⟩⟩⟩)⟩⟩⟩⟩⟩⟩⟩)⟩)

theorem v_M_alikeU_0 (d : Nat) (p1 p2 : Int) (σ : am_S) (K : Int → am_S → Prop) (hF : MF σ) (hT : sI σ 31 26 = 0) (h :
  (-2147483648 ≤ (sI σ 31 2) - 1 ∧ (sI σ 31 2) - 1 < 2147483648) ∧
  ((p1 < 0 →
    K (-1001) σ) ∧
  (¬ (p1 < 0) →
    ((((sI σ 31 2) - 1) < p1 →
      K (-1001) σ) ∧
    (¬ (((sI σ 31 2) - 1) < p1) →
      ((p2 < 0 →
        K (-1001) σ) ∧
      (¬ (p2 < 0) →
        ((((sI σ 31 2) - 1) < p2 →
          K (-1001) σ) ∧
        (¬ (((sI σ 31 2) - 1) < p2) →
          am_Runs PP MLL (d + 3) m_M_alike 14 [some (qr (31, 12, 89)), some (qi p1), some (qi p2), some (qi 1), some (qi 0), none] [] σ (kI K)))))))))) : am_Runs PP MLL (d + 3) m_M_alike 0 [some (qr (31, 12, 89)), some (qi p1), some (qi p2), none, none, none] [] σ (kI K) := am_wEF_ok (orc []) 200 (⟨rfl, am_wEF_ok (orc []) 200 (⟨rfl, ⟨⟨h.1.1, h.1.2⟩, am_wEF_ok (orc []) 200 (⟨fun c1 => ⟨(Or.inl rfl), ⟨(Or.inl rfl), ⟨fun _ => (h.2.1 c1), fun c => absurd (by decide : (0 : Int) = 0) c⟩⟩⟩, fun c1 => ⟨fun c2 => ⟨(Or.inl rfl), ⟨(Or.inl rfl), ⟨fun _ => ((h.2.2 c1).1 c2), fun c => absurd (by decide : (0 : Int) = 0) c⟩⟩⟩, fun c2 => ⟨(Or.inr rfl), ⟨(Or.inr rfl), ⟨fun c => absurd c (by decide : ¬ ((1 : Int) = 0)), fun _ => ⟨rfl, am_wEF_ok (orc []) 200 (⟨rfl, ⟨⟨h.1.1, h.1.2⟩, am_wEF_ok (orc []) 200 (⟨fun c3 => ⟨(Or.inl rfl), ⟨(Or.inl rfl), ⟨fun _ => (((h.2.2 c1).2 c2).1 c3), fun c => absurd (by decide : (0 : Int) = 0) c⟩⟩⟩, fun c3 => ⟨fun c4 => ⟨(Or.inl rfl), ⟨(Or.inl rfl), ⟨fun _ => ((((h.2.2 c1).2 c2).2 c3).1 c4), fun c => absurd (by decide : (0 : Int) = 0) c⟩⟩⟩, fun c4 => ⟨(Or.inr rfl), ⟨(Or.inr rfl), ⟨fun c => absurd c (by decide : ¬ ((1 : Int) = 0)), fun _ => ((((h.2.2 c1).2 c2).2 c3).2 c4)⟩⟩⟩⟩⟩)⟩⟩)⟩⟩⟩⟩⟩⟩)⟩⟩)⟩)

theorem v_C_count_0 (d : Nat) (β μ κ ρ : Nat → Nat) (me : Nat → Nat → Nat) (aH nH aL nL aY nY aS nS n : Nat) (p1 : Int) (σ : am_S) (K : Int → am_S → Prop) (hR : TR σ aH nH aL nL aY nY aS nS) (hB : BS σ β μ κ ρ me n) (h :
  ((p1 = 0 →
    K (sI σ 3 0) σ) ∧
  (¬ (p1 = 0) →
  ((p1 = 1 →
    K (sI σ 3 1) σ) ∧
  (¬ (p1 = 1) →
  ((p1 = 2 →
    K (sI σ 3 2) σ) ∧
  (¬ (p1 = 2) →
  ((p1 = 3 →
    K (sI σ 2 5) σ) ∧
  (¬ (p1 = 3) →
  ((p1 = 4 →
    am_Calls PP MLL (d + 2) m_C_balancesThere [qr (2, 11, 10)] σ (kI fun x6 s6 =>
      (TR s6 aH nH aL nL aY nY aS nS ∧ BS s6 β μ κ ρ me n) ∧
      K x6 s6)) ∧
  (¬ (p1 = 4) →
  ((p1 = 5 →
    K (sI σ 3 3) σ) ∧
  (¬ (p1 = 5) →
  ((p1 = 6 →
    K (sI σ 2 6) σ) ∧
  (¬ (p1 = 6) →
  ((p1 = 7 →
    (((sR σ 12 6) = none →
      K 0 σ) ∧
    (¬ ((sR σ 12 6) = none) →
      K (sI σ 12 15) σ))) ∧
  (¬ (p1 = 7) →
  ((p1 = 8 →
    K (sI σ 2 7) σ) ∧
  (¬ (p1 = 8) →
  ((p1 = 9 →
    am_Calls PP MLL (d + 2) m_Search_rowsShown [qr (12, 5, 18)] σ (kI fun x13 s13 =>
      (TR s13 aH nH aL nL aY nY aS nS ∧ BS s13 β μ κ ρ me n) ∧
      K x13 s13)) ∧
  (¬ (p1 = 9) →
  ((p1 = 10 →
    K (sI σ 2 9) σ) ∧
  (¬ (p1 = 10) →
  K (-1001) σ))))))))))))))))))))))) : am_Runs PP MLL (d + 2) m_C_count 0 [some (qr (2, 11, 10)), some (qi p1)] [] σ (kI K) := am_wEF_ok (orc [(3, 3, 9, 11), (7, 3, 9, 11), (11, 3, 9, 11), (21, 3, 9, 11), (28, 12, 5, 18), (32, 12, 5, 18), (41, 12, 5, 18)]) 200 (⟨fun c1 => ⟨⟨rfl, (hR.1 2 0 _ rfl)⟩, ⟨rfl, (h.1 c1)⟩⟩, fun c1 => ⟨fun c2 => ⟨⟨rfl, (hR.1 2 0 _ rfl)⟩, ⟨rfl, ((h.2 c1).1 c2)⟩⟩, fun c2 => ⟨fun c3 => ⟨⟨rfl, (hR.1 2 0 _ rfl)⟩, ⟨rfl, (((h.2 c1).2 c2).1 c3)⟩⟩, fun c3 => ⟨fun c4 => ⟨rfl, ((((h.2 c1).2 c2).2 c3).1 c4)⟩, fun c4 => ⟨fun c5 => ⟨rfl, (am_cI (((((h.2 c1).2 c2).2 c3).2 c4).1 c5) fun x6 s6 h6 => h6.2)⟩, fun c5 => ⟨fun c7 => ⟨⟨rfl, (hR.1 2 0 _ rfl)⟩, ⟨rfl, ((((((h.2 c1).2 c2).2 c3).2 c4).2 c5).1 c7)⟩⟩, fun c7 => ⟨fun c8 => ⟨rfl, (((((((h.2 c1).2 c2).2 c3).2 c4).2 c5).2 c7).1 c8)⟩, fun c8 => ⟨fun c9 => ⟨⟨rfl, (hR.1 2 3 _ rfl)⟩, ⟨rfl, am_wEF_ok (orc []) 200 (⟨rfl, ⟨fun c10 => ⟨(Or.inl rfl), ⟨fun _ => (((((((((h.2 c1).2 c2).2 c3).2 c4).2 c5).2 c7).2 c8).1 c9).1 c10), fun c => absurd (by decide : (0 : Int) = 0) c⟩⟩, fun c10 => ⟨(Or.inr rfl), ⟨fun c => absurd c (by decide : ¬ ((1 : Int) = 0)), fun _ => ⟨⟨rfl, (hR.1 2 3 _ rfl)⟩, ⟨rfl, (((((((((h.2 c1).2 c2).2 c3).2 c4).2 c5).2 c7).2 c8).1 c9).2 c10)⟩⟩⟩⟩⟩⟩)⟩⟩, fun c9 => ⟨fun c11 => ⟨rfl, (((((((((h.2 c1).2 c2).2 c3).2 c4).2 c5).2 c7).2 c8).2 c9).1 c11)⟩, fun c11 => ⟨fun c12 => ⟨⟨rfl, (hR.1 2 3 _ rfl)⟩, ⟨rfl, (am_cI ((((((((((h.2 c1).2 c2).2 c3).2 c4).2 c5).2 c7).2 c8).2 c9).2 c11).1 c12) fun x13 s13 h13 => h13.2)⟩⟩, fun c12 => ⟨fun c14 => ⟨rfl, (((((((((((h.2 c1).2 c2).2 c3).2 c4).2 c5).2 c7).2 c8).2 c9).2 c11).2 c12).1 c14)⟩, fun c14 => (((((((((((h.2 c1).2 c2).2 c3).2 c4).2 c5).2 c7).2 c8).2 c9).2 c11).2 c12).2 c14)⟩⟩⟩⟩⟩⟩⟩⟩⟩⟩⟩)

theorem v_M_countT_0 (d : Nat) (p1 : Int) (σ : am_S) (K : Int → am_S → Prop) (hF : MF σ) (hT : sI σ 31 26 = 0) (h :
  ((p1 = 0 →
    K (sI σ 31 2) σ) ∧
  (¬ (p1 = 0) →
  ((p1 = 1 →
    K (sI σ 31 5) σ) ∧
  (¬ (p1 = 1) →
  ((p1 = 2 →
    am_Calls PP MLL (d + 2) m_M_left [qr (31, 12, 89)] σ (kI fun x4 s4 =>
      (MF s4 ∧ sI s4 31 26 = 0) ∧
      K x4 s4)) ∧
  (¬ (p1 = 2) →
  ((p1 = 3 →
    K (sI σ 31 16) σ) ∧
  (¬ (p1 = 3) →
  ((p1 = 4 →
    am_Runs PP MLL (d + 2) m_M_count 18 [some (qr (31, 12, 89)), some (qi p1), some (qi 0), some (qi 0)] [] σ (kI K)) ∧
  (¬ (p1 = 4) →
  ((p1 = 5 →
    K (sI σ 31 13) σ) ∧
  (¬ (p1 = 5) →
  ((p1 = 6 →
    K (sI σ 31 4) σ) ∧
  (¬ (p1 = 6) →
  ((p1 = 7 →
    K (if (sI σ 31 33) = 0 then (0 : Int) else (sI σ 31 37)) σ) ∧
  (¬ (p1 = 7) →
  ((p1 = 8 →
    K (sI σ 31 38) σ) ∧
  (¬ (p1 = 8) →
  ((p1 = 9 →
    K (sI σ 31 76) σ) ∧
  (¬ (p1 = 9) →
  ((p1 = 10 →
    K (sI σ 31 1) σ) ∧
  (¬ (p1 = 10) →
  K (-1001) σ))))))))))))))))))))))) : am_Runs PP MLL (d + 2) m_M_count 0 [some (qr (31, 12, 89)), some (qi p1), none, none] [] σ (kI K) := am_wEC_ok (orc []) [49] 200 (⟨fun c1 => ⟨rfl, (h.1 c1)⟩, fun c1 => ⟨fun c2 => ⟨rfl, ((h.2 c1).1 c2)⟩, fun c2 => ⟨fun c3 => ⟨rfl, (am_cI (((h.2 c1).2 c2).1 c3) fun x4 s4 h4 => h4.2)⟩, fun c3 => ⟨fun c5 => ⟨rfl, ((((h.2 c1).2 c2).2 c3).1 c5)⟩, fun c5 => ⟨fun c6 => (((((h.2 c1).2 c2).2 c3).2 c5).1 c6), fun c6 => ⟨fun c7 => ⟨rfl, ((((((h.2 c1).2 c2).2 c3).2 c5).2 c6).1 c7)⟩, fun c7 => ⟨fun c8 => ⟨rfl, (((((((h.2 c1).2 c2).2 c3).2 c5).2 c6).2 c7).1 c8)⟩, fun c8 => ⟨fun c9 => ⟨rfl, am_use (fun H11 => ⟨fun c10 => (Eq.mp (congrArg (fun z => am_Runs _ _ _ _ _ _ (qi z :: _) _ _) (if_pos c10 : (if (sI σ 31 33) = 0 then (0 : Int) else sI σ 31 37) = 0)) H11), fun c10 => ⟨rfl, (Eq.mp (congrArg (fun z => am_Runs _ _ _ _ _ _ (qi z :: _) _ _) (if_neg c10 : (if (sI σ 31 33) = 0 then (0 : Int) else sI σ 31 37) = sI σ 31 37)) H11)⟩⟩) (am_wEC_ok (orc []) [49] 200 (((((((((h.2 c1).2 c2).2 c3).2 c5).2 c6).2 c7).2 c8).1 c9)))⟩, fun c9 => ⟨fun c12 => ⟨rfl, (((((((((h.2 c1).2 c2).2 c3).2 c5).2 c6).2 c7).2 c8).2 c9).1 c12)⟩, fun c12 => ⟨fun c13 => ⟨rfl, ((((((((((h.2 c1).2 c2).2 c3).2 c5).2 c6).2 c7).2 c8).2 c9).2 c12).1 c13)⟩, fun c13 => ⟨fun c14 => ⟨rfl, (((((((((((h.2 c1).2 c2).2 c3).2 c5).2 c6).2 c7).2 c8).2 c9).2 c12).2 c13).1 c14)⟩, fun c14 => (((((((((((h.2 c1).2 c2).2 c3).2 c5).2 c6).2 c7).2 c8).2 c9).2 c12).2 c13).2 c14)⟩⟩⟩⟩⟩⟩⟩⟩⟩⟩⟩)

theorem p_take (d : Nat) {xs : Nat → Int} {c : Nat} {σ : am_S} {p1 : Int} (hI : INV xs σ c) (hc : c + 1 ≤ 600) : PR d xs m_C_take m_M_take [qi p1] σ c := by
  have hs := INV_s hI hc
  obtain ⟨own, β, μ, κ, ρ, me, n, aH, nH, aL, nL, aY, nY, aS, nS, N, l, m, T, W, kd, aR, nR, aV, nV, aI, nI, aQ, nQ, g, w, hx⟩ := hI
  have hx0 := hx
  obtain ⟨⟨hF, hab, hxs⟩, it, il, ib, im, ij, sc, rz, is, ir, hc6⟩ := hx
  have it0 := it
  obtain ⟨hR, ow, ti, kt, ks, ⟨w1, w2, w3, w4, w5, w6, w7, w8⟩, ⟨l1, l2, l3, l4⟩, lz, ⟨q1, q2, q3, q4⟩, h87⟩ := it
  have o1 := ow.1
  have ib0 := ib
  obtain ⟨a1, a2, a3, ⟨n12, a4, a5⟩, bd, a6, a7, a8, a9, a10⟩ := ib
  have im0 := im
  obtain ⟨m1, ⟨m2, T26⟩, m3, m4, m5, m6⟩ := im
  have tN := ti.2.2.2.2.1
  have tT := ti.2.2.2.2.2.2.1
  have T4 := ti.2.2.2.2.2.2.2.2.1
  have nB : ∀ b, b < n → ∀ x, x < 87 → x ≠ β b := fun b hb x hx' e => by
    have := (a2 b hb).1
    rw [← e, o1 x hx'] at this
    omega
  have fd : ∀ (b : Nat) (f : Int) (K : Int → am_S → Prop) (e : Nat), b < n → 0 ≤ f ∧ f ≤ 6 → (TR (fdC σ β b f) aH nH aL nL aY nY aS nS → BS (fdC σ β b f) β μ κ ρ me n → K (-1010 - f) (fdC σ β b f)) → am_Calls PP MLL (e + 1) m_C_found [qr (2, 11, 10), qi (b : Int), qi f] σ (kI K) := fun b f K e hb hf h => c_found e hR.1 a1 n12 hb (nB b hb 2 (by decide)).symm (by omega) (by omega) (h (TR_2 fdC_2 hR) (BS_2 fdC_2 a1))
  have fe : ∀ (b : Nat) (f : Int) (e : Nat), b < n → 0 ≤ f ∧ f ≤ 6 → am_Calls PP MLL (e + 2) m_M_finds [qr (31, 12, 89), qi (b : Int), qi f] (fdC σ β b f) (kI fun x s => (MF s ∧ sI s 31 26 = 0) ∧ -1010 - f = x ∧ INV xs s (c + 1)) := fun b f e hb hf => by
    have e31 : sI (fdC σ β b f) 31 = sI σ 31 := fdC_o (by decide) (nB b hb 31 (by decide))
    refine c_M_finds e (MF_I hF fdC_2) (by omega) (by omega) (by rw [e31]; omega) ⟨⟨MF_I hF (show (mFinds (fdC σ β b f) b f).2 = σ.2 from fdC_2), by rw [mF_31, if_neg (by decide), if_neg (by decide), e31]; exact T26⟩, rfl, INV_fd hx0 hc hb hf⟩
  have fx : ∀ b f, b < n → sI (fdC σ β b f) 0 = xs := fun b f hb => by rw [fdC_o (by decide) (nB b hb 0 (by decide))]; exact hxs
  have fr : ∀ b f x, b < n → x < 87 → x ≠ 2 → sI (fdC σ β b f) x = sI σ x := fun b f x hb hx' h2 => fdC_o h2 (nB b hb x hx')
  have bad : (p1 < 0 ∨ (n : Int) ≤ p1) → am_Calls PP MLL (d + 30) m_M_take [qr (31, 12, 89), qi p1] σ (kI fun y t => -1001 = y ∧ INV xs t (c + 1)) := by
    intro hp
    refine v_M_take_0 (d + 27) p1 σ _ hF T26 ?_
    rw [a5]
    exact ⟨by omega, fun c1 => ⟨rfl, hs⟩, fun c1 => ⟨fun c2 => ⟨rfl, hs⟩, fun c2 => by omega⟩⟩
  refine v_C_take_0 (d + 28) β μ κ ρ me aH nH aL nL aY nY aS nS n p1 σ _ hR a1 ?_
  rw [a4]
  refine ⟨fun c1 => ⟨hxs, bad (by omega)⟩, fun c1 => ⟨fun c2 => ⟨hxs, bad (by omega)⟩, fun c2 => ⟨by omega, ?_⟩⟩⟩
  obtain ⟨b, eb⟩ : ∃ b : Nat, p1 = b := ⟨p1.toNat, by omega⟩
  subst eb
  have hb : b < n := by omega
  rw [Int.toNat_natCast]
  obtain ⟨d1, d2, d3, _⟩ := bd b hb
  have nb := nB b hb
  refine ⟨fun e6 => ?_, fun e6 => ?_⟩
  · rw [if_pos e6] at d3
    have s0 : ∀ x, x < 87 → x ≠ 12 → sI (putI (putR (putI σ (β b) 6 1) 12 6 none) 12 13 0) x = sI σ x := fun x hx' h12 => by
      rw [put_ne h12]
      show sI (putI σ (β b) 6 1) x = _
      rw [put_ne (nb x hx')]
    have sb : sI (putI (putR (putI σ (β b) 6 1) 12 6 none) 12 13 0) (β b) 0 = sI σ (β b) 0 := by
      rw [put_ne (nb 12 (by decide)).symm]
      show sI (putI σ (β b) 6 1) (β b) 0 = _
      rw [put_at, if_neg (by decide)]
    rw [sb]
    refine ⟨by rw [s0 0 (by decide) (by decide)]; exact hxs, ?_⟩
    refine v_M_take_0 (d + 27) (b : Int) _ _ (fun j => hF j) (by rw [s0 31 (by decide) (by decide)]; exact T26) ?_
    rw [s0 31 (by decide) (by decide), s0 41 (by decide) (by decide), a5, Int.toNat_natCast, d3]
    refine ⟨by omega, fun c1 => by omega, fun c1 => ⟨fun c2 => by omega, fun c2 => ⟨by omega, fun _ => ⟨rfl, ?_⟩, fun q => by omega⟩⟩⟩
    simp only [pR_I]
    obtain ⟨Z, eZ⟩ : ∃ Z, Z = putI (putI (putI (putI (putI (putI (putI (putI (putI (putI (putI σ (β b) 6 1) 12 13 0) 41 b (-1)) 31 33 0) 31 34 0) 31 35 (-1000)) 31 37 0) 31 73 0) 31 76 0) 31 77 0) 31 78 0 := ⟨_, rfl⟩
    rw [← eZ]
    have Z2 : Z.2 = σ.2 := by rw [eZ]; rfl
    have Zo : ∀ x, x ≠ β b → x ≠ 12 → x ≠ 31 → x ≠ 41 → sI Z x = sI σ x := fun x h1 h2 h3 h4 => by rw [eZ, put_ne h3, put_ne h3, put_ne h3, put_ne h3, put_ne h3, put_ne h3, put_ne h3, put_ne h3, put_ne h4, put_ne h2, put_ne h1]
    have Z31 : ∀ j, sI Z 31 j = if j = 78 then 0 else if j = 77 then 0 else if j = 76 then 0 else if j = 73 then 0 else if j = 37 then 0 else if j = 35 then -1000 else if j = 34 then 0 else if j = 33 then 0 else sI σ 31 j := fun j => by rw [eZ, put_at, put_at, put_at, put_at, put_at, put_at, put_at, put_at, put_ne (by decide), put_ne (by decide), put_ne (nb 31 (by decide))]
    have z31 : ∀ j, (j < 33 ∨ 78 < j ∨ (37 < j ∧ j < 73)) → sI Z 31 j = sI σ 31 j := fun j h2 => by rw [Z31, if_neg (by omega), if_neg (by omega), if_neg (by omega), if_neg (by omega), if_neg (by omega), if_neg (by omega), if_neg (by omega), if_neg (by omega)]
    have Zb : ∀ j, sI Z (β b) j = if j = 6 then 1 else sI σ (β b) j := fun j => by rw [eZ, put_ne (nb 31 (by decide)).symm, put_ne (nb 31 (by decide)).symm, put_ne (nb 31 (by decide)).symm, put_ne (nb 31 (by decide)).symm, put_ne (nb 31 (by decide)).symm, put_ne (nb 31 (by decide)).symm, put_ne (nb 31 (by decide)).symm, put_ne (nb 31 (by decide)).symm, put_ne (nb 41 (by decide)).symm, put_ne (nb 12 (by decide)).symm, put_at]
    have Z41 : ∀ j, sI Z 41 j = if j = b then -1 else sI σ 41 j := fun j => by rw [eZ, put_ne (by decide), put_ne (by decide), put_ne (by decide), put_ne (by decide), put_ne (by decide), put_ne (by decide), put_ne (by decide), put_ne (by decide), put_at, put_ne (by decide), put_ne (nb 41 (by decide))]
    have ob := (a2 b hb).1
    have Zf : ∀ x, x < sN σ → own x ≠ 1000 + 8 * b → own x ≠ 12 → own x ≠ 31 → own x ≠ 41 → sI Z x = sI σ x := fun x hx' r1 r2 r3 r4 => Zo x (fun e => by rw [e, ob] at r1; omega) (fun e => by rw [e, o1 12 (by decide)] at r2; omega) (fun e => by rw [e, o1 31 (by decide)] at r3; omega) (fun e => by rw [e, o1 41 (by decide)] at r4; omega)
    have row : ∀ x, x < 87 → x ≠ 12 → x ≠ 31 → x ≠ 41 → sI Z x = sI σ x := fun x hx' h2 h3 h4 => Zo x (nb x hx') h2 h3 h4
    refine INV_off (INVp_g hx0 hc Z2 (row 0 (by decide) (by decide) (by decide) (by decide)) (row 1 (by decide) (by decide) (by decide) (by decide)) (row 64 (by decide) (by decide) (by decide) (by decide)) (row 65 (by decide) (by decide) (by decide) (by decide)) (IT_g Z2 (fun x hx' hr => Zf x hx' (by omega) (by omega) (by omega) (by omega)) (fun j hj => z31 j (by omega)) it0) ?_ ?_ (IM_K (row 10 (by decide) (by decide) (by decide) (by decide)) (row 11 (by decide) (by decide) (by decide) (by decide)) (row 48 (by decide) (by decide) (by decide) (by decide)) (fun j _ => by rw [row 2 (by decide) (by decide) (by decide) (by decide)]) (fun j hj => z31 j (by omega)) im0) (IJ_K Z2 (fun x hx' hr => Zf x hx' (by omega) (by omega) (by omega) (by omega)) o1 h87 (fun j hj => z31 j (by omega)) ij)) ?_
    · intro t ht
      rw [row 36 (by decide) (by decide) (by decide) (by decide), z31 4 (by omega)]
      exact il t ht
    · obtain ⟨r1, r2, r3⟩ := R2 Z2
      have Zg : ∀ g', g' < n → ∀ j, j ≠ 6 → sI Z (β g') j = sI σ (β g') j := fun g' hg' j hj => by
        by_cases e : g' = b
        · rw [e, Zb, if_neg hj]
        · rw [Zf _ (a3 g' hg').1 (by rw [(a2 g' hg').1]; omega) (by rw [(a2 g' hg').1]; omega) (by rw [(a2 g' hg').1]; omega) (by rw [(a2 g' hg').1]; omega)]
      refine ⟨BS_2 Z2 a1, a2, fun b' hb' => by have := a3 b' hb'; omega, by rw [row 2 (by decide) (by decide) (by decide) (by decide), z31 16 (by omega)]; exact ⟨n12, a4, a5⟩, fun b' hb' => ?_, fun b' hb' => by rw [Z41, if_neg (by omega)]; exact a6 b' hb', by rw [row 44 (by decide) (by decide) (by decide) (by decide)]; exact a7, by rw [row 45 (by decide) (by decide) (by decide) (by decide)]; exact a8, fun j hj => by rw [r1]; exact a9 j hj, by rw [row 42 (by decide) (by decide) (by decide) (by decide)]; exact a10⟩
      have hρ : ∀ k, k < 4 → sI Z (ρ b' + k) = sI σ (ρ b' + k) := fun k hk => Zf _ (by have := a3 b' hb'; omega) (by rw [(a2 b' hb').2.2 k hk]; omega) (by rw [(a2 b' hb').2.2 k hk]; omega) (by rw [(a2 b' hb').2.2 k hk]; omega) (by rw [(a2 b' hb').2.2 k hk]; omega)
      have e0 : sI Z (ρ b') = sI σ (ρ b') := hρ 0 (by decide)
      have e1 := hρ 1 (by decide)
      have e2 := hρ 2 (by decide)
      have e3 := hρ 3 (by decide)
      have r4 : ∀ x, 42 ≤ x → x ≤ 47 → sI Z x = sI σ x := fun x x1 x2 => row x (by omega) (by omega) (by omega) (by omega)
      obtain ⟨d1, d2, d3', d4, d5, d6, d7, d8, d9⟩ := bd b' hb'
      have y := Zg b' hb'
      refine ⟨by rw [y 0 (by decide)]; exact d1, ?_, ?_, by rw [y 7 (by decide), r4 42 (by decide) (by decide)]; omega, by rw [y 8 (by decide), r4 43 (by decide) (by decide)]; exact d5, by unfold PV at d6 ⊢; rw [e0, e1, e2, e3]; exact d6, by rw [e0, e1, e2, e3, r4 44 (by decide) (by decide), r4 45 (by decide) (by decide)]; exact d7, by rw [y 0 (by decide), y 5 (by decide)]; exact d8, fun h6 => ?_⟩
      · by_cases e : b' = b
        · rw [e, Zb, if_pos rfl]; exact Or.inr rfl
        · rw [Zf _ (a3 b' hb').1 (by rw [(a2 b' hb').1]; omega) (by rw [(a2 b' hb').1]; omega) (by rw [(a2 b' hb').1]; omega) (by rw [(a2 b' hb').1]; omega)]; exact d2
      · by_cases e : b' = b
        · rw [e, Z41, if_pos rfl, Zb, if_pos rfl, if_neg (by decide)]
        · rw [Z41, if_neg e, Zf _ (a3 b' hb').1 (by rw [(a2 b' hb').1]; omega) (by rw [(a2 b' hb').1]; omega) (by rw [(a2 b' hb').1]; omega) (by rw [(a2 b' hb').1]; omega)]; exact d3'
      · rw [y 0 (by decide)] at h6
        obtain ⟨v1, v2, v3, v4, v5⟩ := d9 h6
        refine ⟨v1, v2, by rw [r4 47 (by decide) (by decide)]; exact v3, fun i hi => ?_, ?_⟩
        · obtain ⟨z1, z2, z3⟩ := v4 i hi
          exact ⟨z1, by rw [r4 46 (by decide) (by decide)]; exact z2, by rw [Zg _ z1 0 (by decide)]; exact z3⟩
        · rw [y 5 (by decide), v5]
          have hc' : ∀ k, k ≤ κ b' → mxQ Z β (me b') k = mxQ σ β (me b') k := by
            intro k
            induction k with
            | zero => intro _; rfl
            | succ k ih =>
              intro hk
              have u1 : mxQ Z β (me b') (k + 1) = if mo (sI Z (β (me b' k)) 0) ≤ mxQ Z β (me b') k then mxQ Z β (me b') k else mo (sI Z (β (me b' k)) 0) := rfl
              have u2 : mxQ σ β (me b') (k + 1) = if mo (sI σ (β (me b' k)) 0) ≤ mxQ σ β (me b') k then mxQ σ β (me b') k else mo (sI σ (β (me b' k)) 0) := rfl
              rw [u1, u2, ih (by omega), Zg _ (v4 k (by omega)).1 0 (by decide)]
          exact (hc' _ (Nat.le_refl _)).symm
    · refine ⟨?_, ?_, ?_, ?_, ?_, ?_, ?_, ?_, ?_⟩
      · rw [eZ, put_ne (by decide), put_ne (by decide), put_ne (by decide), put_ne (by decide), put_ne (by decide), put_ne (by decide), put_ne (by decide), put_ne (by decide), put_ne (by decide), put_at, if_pos rfl]
      all_goals (rw [Z31]; rfl)
  · rw [if_neg e6] at d3
    refine fd b 1 _ (d + 28) hb (by omega) (fun t1 t2 => ⟨⟨t1, t2⟩, fx b 1 hb, ?_⟩)
    refine v_M_take_0 (d + 27) (b : Int) _ _ (MF_I hF fdC_2) (by rw [fr b 1 31 hb (by decide) (by decide)]; exact T26) ?_
    rw [fr b 1 31 hb (by decide) (by decide), fr b 1 41 hb (by decide) (by decide), a5, Int.toNat_natCast, d3]
    exact ⟨by omega, fun c1 => by omega, fun c1 => ⟨fun c2 => by omega, fun c2 => ⟨by omega, fun q => by omega, fun _ => fe b 1 (d + 27) hb (by omega)⟩⟩⟩
/-- rows of the reference that nothing looks at -/
theorem INV_39 {xs : Nat → Int} {σ t : am_S} {c : Nat} (h : INV xs σ c) (hc : c + 1 ≤ 600) (h2 : t.2 = σ.2) (ho : ∀ x, x ≠ 39 → x ≠ 40 → sI t x = sI σ x) : INV xs t (c + 1) := by
  obtain ⟨own, β, μ, κ, ρ, me, n, aH, nH, aL, nL, aY, nY, aS, nS, N, l, m, T, W, kd, aR, nR, aV, nV, aI, nI, aQ, nQ, g, w, h⟩ := h
  have hx := h
  obtain ⟨hF, it, il, ib, im, ij, sc, rz, is, ir, _⟩ := h
  have o1 := it.2.1.1
  have h87 := it.2.2.2.2.2.2.2.2.2
  have hf : ∀ x, own x ≠ 39 → own x ≠ 40 → sI t x = sI σ x := fun x r1 r2 => ho x (fun e => by rw [e, o1 39 (by decide)] at r1; omega) (fun e => by rw [e, o1 40 (by decide)] at r2; omega)
  have e31 := ho 31 (by decide) (by decide)
  refine INV_mk hx hc ⟨h2, fun x _ hr => hf x (by omega) (by omega), fun x g' _ hr => by rw [hf x (by omega) (by omega)]; exact ⟨rfl, rfl⟩, by rw [ho 10 (by decide) (by decide)], fun j _ => by rw [e31], by rw [e31]; exact Int.le_refl _, fun b _ => by rw [ho 41 (by decide) (by decide), ho 47 (by decide) (by decide)]; exact ⟨rfl, rfl⟩, fun i _ => by rw [ho 46 (by decide) (by decide)]⟩ (IB_K h2 (fun x _ hr => hf x (by omega) (by omega)) (fun x x1 x2 => ho x (by omega) (by omega)) (by rw [ho 2 (by decide) (by decide)]) (by rw [e31]) ib) (IM_K (ho 10 (by decide) (by decide)) (ho 11 (by decide) (by decide)) (ho 48 (by decide) (by decide)) (fun j _ => by rw [ho 2 (by decide) (by decide)]) (fun j _ => by rw [e31]) im) (IJ_K h2 (fun x _ hr => hf x (by omega) (by omega)) o1 h87 (fun j _ => by rw [e31]) ij)
theorem gd_same {σ : am_S} {n l m a t u T : Nat} {kd : Int} (hT : TI σ n l m kd T) (ht : t < T) (h : XR σ n l m kd a a t u) : gd σ t u := by
  obtain ⟨f, x, y, z, w, hv, hN, hc⟩ := hT.2.2.2.2.2.2.2.2.2.2 t ht
  have e : XR σ n l m kd a a t t := EX_all hv hc ⟨x, y, z, w, hv, hN, fun c => by
    have : ex a a c = c := by
      unfold ex
      (repeat' split) <;> omega
    rw [this]⟩
  have : u = t := XR_u hT.2.1 h e
  subst this
  exact ⟨Iff.rfl, fun _ => rfl⟩
theorem p_alike (d : Nat) {xs : Nat → Int} {c : Nat} {σ : am_S} {p1 p2 : Int} (hI : INV xs σ c) (hc : c + 1 ≤ 600) : PR d xs m_C_alike m_M_alike [qi p1, qi p2] σ c := by
  have hs := INV_s hI hc
  have hI0 := hI
  obtain ⟨own, β, μ, κ, ρ, me, n, aH, nH, aL, nL, aY, nY, aS, nS, N, l, m, T, W, kd, aR, nR, aV, nV, aI, nI, aQ, nQ, g, w, hx⟩ := hI
  have hx0 := hx
  obtain ⟨⟨hF, hab, hxs⟩, it, il, ib, im, ij, sc, rz, is, ir, hc6⟩ := hx
  have it0 := it
  obtain ⟨hR, ow, ti, kt, ks, ⟨w1, w2, w3, w4, w5, w6, w7, w8⟩, ⟨l1, l2, l3, l4⟩, lz, ⟨q1, q2, q3, q4⟩, h87⟩ := it
  have o1 := ow.1
  have ib0 := ib
  obtain ⟨a1, a2, a3, ⟨n12, a4, a5⟩, bd, a6, a7, a8, a9, a10⟩ := ib
  have im0 := im
  obtain ⟨m1, ⟨m2, T26⟩, m3, m4, m5, m6⟩ := im
  have tN := ti.2.2.2.2.1
  have tT := ti.2.2.2.2.2.2.1
  have T4 := ti.2.2.2.2.2.2.2.2.1
  have n40 := ti.1
  have ref : ∀ x : Int, ((p1 < 0 ∨ (N : Int) ≤ p1) ∨ (p2 < 0 ∨ (N : Int) ≤ p2) → x = -1001) → (∀ a b : Nat, p1 = a → p2 = b → a < N → b < N → (x = 1 ∧ (a = b ∨ ∀ t, t < T → ∃ u, XR σ N l m kd a b t u ∧ gd σ t u)) ∨ (x = 0 ∧ ∃ t, t < T ∧ ∃ u, XR σ N l m kd a b t u ∧ ¬ gd σ t u)) → am_Calls PP MLL (d + 30) m_M_alike [qr (31, 12, 89), qi p1, qi p2] σ (kI fun y t => x = y ∧ INV xs t (c + 1)) := by
    intro x h1 h2
    refine v_M_alikeU_0 (d + 26) p1 p2 σ _ hF T26 ?_
    rw [tN]
    refine ⟨by omega, fun c1 => ⟨h1 (by omega), hs⟩, fun c1 => ⟨fun c2 => ⟨h1 (by omega), hs⟩, fun c2 => ⟨fun c3 => ⟨h1 (by omega), hs⟩, fun c3 => ⟨fun c4 => ⟨h1 (by omega), hs⟩, fun c4 => ?_⟩⟩⟩⟩
    obtain ⟨a, ea⟩ : ∃ a : Nat, p1 = a := ⟨p1.toNat, by omega⟩
    obtain ⟨b, eb⟩ : ∃ b : Nat, p2 = b := ⟨p2.toNat, by omega⟩
    have hh := h2 a b ea eb (by omega) (by omega)
    subst ea
    subst eb
    have uniq : ∀ t u u', t < T → XR σ N l m kd a b t u → XR σ N l m kd a b t u' → u = u' := fun t u u' ht h h' => XR_u ti.2.1 h h'
    refine l_M_alike (d + 26) (a := a) (b := b) hF ti (by omega) (by omega) (fun s hs' hy => ?_) (fun s hs' hne hn => ?_) _
    · refine ⟨?_, INV_39 hI0 hc hs'.1 hs'.2⟩
      rcases hh with h | ⟨e0, t, ht, u, h3, h4⟩
      · exact h.1
      · rcases hy with e | hy
        · subst e
          exact absurd (gd_same ti ht h3) h4
        · obtain ⟨u', h5, h6⟩ := hy t ht
          rw [uniq t u' u ht h5 h3] at h6
          exact absurd h6 h4
    · refine ⟨?_, INV_39 hI0 hc hs'.1 hs'.2⟩
      rcases hh with ⟨e1, h | h⟩ | h
      · exact absurd h hne
      · obtain ⟨t, ht, u, h3, h4⟩ := hn
        obtain ⟨u', h5, h6⟩ := h t ht
        rw [uniq t u' u ht h5 h3] at h6
        exact absurd h6 h4
      · exact h.1
  refine v_C_alikeT_0 (d + 24) β μ κ ρ me aH nH aL nL aY nY aS nS n p1 p2 σ _ hR a1 ?_
  rw [w2]
  refine ⟨fun c1 => ⟨hxs, ref _ (fun _ => rfl) (fun a b _ _ _ _ => by omega)⟩, fun c1 => ⟨fun c2 => ⟨hxs, ref _ (fun _ => rfl) (fun a b _ _ _ _ => by omega)⟩, fun c2 => ⟨fun c3 => ⟨hxs, ref _ (fun _ => rfl) (fun a b _ _ _ _ => by omega)⟩, fun c3 => ⟨fun c4 => ⟨hxs, ref _ (fun _ => rfl) (fun a b _ _ _ _ => by omega)⟩, fun c4 => ?_⟩⟩⟩⟩
  obtain ⟨a, ea⟩ : ∃ a : Nat, p1 = a := ⟨p1.toNat, by omega⟩
  obtain ⟨b, eb⟩ : ∃ b : Nat, p2 = b := ⟨p2.toNat, by omega⟩
  subst ea
  subst eb
  refine c_exchangeable (d + 24) hR hF ti kt ks w1 w2 w3 w7 w8 l1 l2 l3 l4 (by omega) (by omega) (fun h => ⟨⟨hR, a1⟩, hxs, ref _ (fun _ => by omega) (fun a' b' ea' eb' _ _ => ?_)⟩) (fun h => ⟨⟨hR, a1⟩, hxs, ref _ (fun _ => by omega) (fun a' b' ea' eb' _ _ => ?_)⟩)
  · have e1 : a' = a := by omega
    have e2 : b' = b := by omega
    rw [e1, e2]
    exact Or.inl ⟨rfl, Or.inr h⟩
  · have e1 : a' = a := by omega
    have e2 : b' = b := by omega
    rw [e1, e2]
    exact Or.inr ⟨rfl, h⟩
