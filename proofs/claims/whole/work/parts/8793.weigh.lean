/-! the calls in pairs: weigh -/
theorem v_C_weigh_0 (d : Nat) (β μ κ ρ : Nat → Nat) (me : Nat → Nat → Nat) (aH nH aL nL aY nY aS nS n : Nat) (p1 p2 : Int) (σ : am_S) (K : Int → am_S → Prop) (hR : TR σ aH nH aL nL aY nY aS nS) (hB : BS σ β μ κ ρ me n) (h :
  am_Calls PP MLL (d + 5) m_C_refusalToWeigh [qr (2, 11, 10), qi p1, qi p2] σ (kI fun x1 s1 =>
    (TR s1 aH nH aL nL aY nY aS nS ∧ BS s1 β μ κ ρ me n) ∧
    ((x1 = 0 →
      (((sI s1 3 3) < 30 →
        (0 ≤ p1 ∧ p1 < 12 ∧ (Int.toNat p1) < n) ∧
        am_Calls PP MLL (d + 5) m_Balance_weigherAt [qr (β (Int.toNat p1), 0, 9), qi (sI s1 3 3)] s1 (kO fun x4 s4 =>
          (TR s4 aH nH aL nL aY nY aS nS ∧ BS s4 β μ κ ρ me n) ∧
          am_Calls PP MLL (d + 5) m_Truths_judgeBy [qr (3, 9, 11), qo x4, qi p2, qi (sI s4 2 6)] s4 (kV fun s5 =>
            (TR s5 aH nH aL nL aY nY aS nS ∧ BS s5 β μ κ ρ me n) ∧
            ((rg x4).2.1 = 0 ∧ -2147483648 ≤ (sI s5 ((rg x4).1) 7) + 1 ∧ (sI s5 ((rg x4).1) 7) + 1 < 2147483648) ∧
            (((sI (putI s5 ((rg x4).1) 7 ((sI s5 ((rg x4).1) 7) + 1)) (β (Int.toNat p1)) 0) = 6 →
              (-2147483648 ≤ (sI (putI s5 ((rg x4).1) 7 ((sI s5 ((rg x4).1) 7) + 1)) (β (Int.toNat p1)) 7) + 1 ∧ (sI (putI s5 ((rg x4).1) 7 ((sI s5 ((rg x4).1) 7) + 1)) (β (Int.toNat p1)) 7) + 1 < 2147483648) ∧
              K (sI (putI (putI s5 ((rg x4).1) 7 ((sI s5 ((rg x4).1) 7) + 1)) (β (Int.toNat p1)) 7 ((sI (putI s5 ((rg x4).1) 7 ((sI s5 ((rg x4).1) 7) + 1)) (β (Int.toNat p1)) 7) + 1)) 3 2) (putI (putR (putI (putI s5 ((rg x4).1) 7 ((sI s5 ((rg x4).1) 7) + 1)) (β (Int.toNat p1)) 7 ((sI (putI s5 ((rg x4).1) 7 ((sI s5 ((rg x4).1) 7) + 1)) (β (Int.toNat p1)) 7) + 1)) 12 6 none) 12 13 0)) ∧
            (¬ ((sI (putI s5 ((rg x4).1) 7 ((sI s5 ((rg x4).1) 7) + 1)) (β (Int.toNat p1)) 0) = 6) →
              K (sI (putI s5 ((rg x4).1) 7 ((sI s5 ((rg x4).1) 7) + 1)) 3 2) (putI (putR (putI s5 ((rg x4).1) 7 ((sI s5 ((rg x4).1) 7) + 1)) 12 6 none) 12 13 0)))))) ∧
      (¬ ((sI s1 3 3) < 30) →
        K (-1003) s1))) ∧
    (¬ (x1 = 0) →
      K x1 s1)))) : am_Runs PP MLL (d + 5) m_C_weigh 0 [some (qr (2, 11, 10)), some (qi p1), some (qi p2), none, none, none] [] σ (kI K) := am_wEF_ok (orc [(10, 3, 9, 11), (17, 9, 22, 12), (19, β (Int.toNat p1), 0, 9), (23, 3, 9, 11), (28, 3, 9, 11), (51, 12, 5, 18), (54, 3, 9, 11)]) 200 (⟨rfl, (am_cI h fun x1 s1 h1 => ⟨fun c2 => ⟨⟨rfl, (h1.1.1.1 2 0 _ rfl)⟩, ⟨rfl, ⟨fun c3 => ⟨⟨rfl, (h1.1.1.1 2 1 _ rfl)⟩, ⟨⟨rfl, ((h1.2.1 c2).1 c3).1.1, ((h1.2.1 c2).1 c3).1.2.1, (h1.1.2 (Int.toNat p1) ((h1.2.1 c2).1 c3).1.2.2).1⟩, ⟨⟨rfl, (h1.1.1.1 2 0 _ rfl)⟩, ⟨rfl, ⟨rfl, (am_cO ((h1.2.1 c2).1 c3).2 fun x4 s4 h4 => ⟨⟨rfl, (h4.1.1.1 2 0 _ rfl)⟩, ⟨rfl, ⟨rfl, (am_cV h4.2 fun s5 h5 => ⟨h5.2.1.1, ⟨⟨h5.2.1.2.1, h5.2.1.2.2⟩, ⟨h5.2.1.1, ⟨rfl, ⟨fun c7 => ⟨rfl, ⟨⟨(h5.2.2.1 c7).1.1, (h5.2.2.1 c7).1.2⟩, ⟨rfl, ⟨⟨rfl, (h5.1.1.1 2 3 _ rfl)⟩, ⟨rfl, am_wEF_ok (orc []) 200 (⟨rfl, ⟨⟨rfl, (Or.inl rfl)⟩, ⟨⟨rfl, (h5.1.1.1 2 0 _ rfl)⟩, ⟨rfl, (h5.2.2.1 c7).2⟩⟩⟩⟩)⟩⟩⟩⟩⟩, fun c7 => ⟨⟨rfl, (h5.1.1.1 2 3 _ rfl)⟩, ⟨rfl, am_wEF_ok (orc []) 200 (⟨rfl, ⟨⟨rfl, (Or.inl rfl)⟩, ⟨⟨rfl, (h5.1.1.1 2 0 _ rfl)⟩, ⟨rfl, (h5.2.2.2 c7)⟩⟩⟩⟩)⟩⟩⟩⟩⟩⟩⟩)⟩⟩⟩)⟩⟩⟩⟩⟩, fun c3 => ((h1.2.1 c2).2 c3)⟩⟩⟩, fun c2 => (h1.2.2 c2)⟩)⟩)

theorem v_M_weighT_0 (d : Nat) (p1 p2 : Int) (σ : am_S) (K : Int → am_S → Prop) (hF : MF σ) (hT : sI σ 31 26 = 0) (h :
  (-2147483648 ≤ (sI σ 31 16) - 1 ∧ (sI σ 31 16) - 1 < 2147483648) ∧
  ((p1 < 0 →
    K (-1001) σ) ∧
  (¬ (p1 < 0) →
    ((((sI σ 31 16) - 1) < p1 →
      K (-1001) σ) ∧
    (¬ (((sI σ 31 16) - 1) < p1) →
      ((p2 < (-3) →
        K (-1001) σ) ∧
      (¬ (p2 < (-3)) →
        ((3 < p2 →
          K (-1001) σ) ∧
        (¬ (3 < p2) →
          (((sI σ 31 2) = 0 →
            K (-1002) σ) ∧
          (¬ ((sI σ 31 2) = 0) →
            am_Calls PP MLL (d + 3) m_M_weighFault [qr (31, 12, 89), qi p1] σ (kI fun x6 s6 =>
              (MF s6 ∧ sI s6 31 26 = 0) ∧
              ((x6 ≤ 0 →
                ((0 ≤ x6 →
                  (((sI s6 31 13) = 30 →
                    K (-1003) s6) ∧
                  (¬ ((sI s6 31 13) = 30) →
                    (0 ≤ (sI s6 31 28) ∧ (sI s6 31 28) < 12) ∧
                    am_Runs PP MLL (d + 3) m_M_weigh 45 [some (qr (31, 12, 89)), some (qi p1), some (qi p2), some (qi x6), some (qi (sI s6 41 (Int.toNat (sI s6 31 28)))), some (qi 0), none] [] s6 (kI K)))) ∧
                (¬ (0 ≤ x6) →
                  K (-1002) s6))) ∧
              (¬ (x6 ≤ 0) →
                am_Calls PP MLL (d + 3) m_M_finds [qr (31, 12, 89), qi p1, qi x6] s6 (kI fun x10 s10 =>
                  (MF s10 ∧ sI s10 31 26 = 0) ∧
                  K x10 s10))))))))))))))) : am_Runs PP MLL (d + 3) m_M_weigh 0 [some (qr (31, 12, 89)), some (qi p1), some (qi p2), none, none, none, none] [] σ (kI K) := am_wEF_ok (orc [(38, 41, 20, 12)]) 200 (⟨rfl, am_wEF_ok (orc []) 200 (⟨rfl, ⟨⟨h.1.1, h.1.2⟩, am_wEF_ok (orc []) 200 (⟨fun c1 => ⟨(Or.inl rfl), ⟨(Or.inl rfl), ⟨fun _ => (h.2.1 c1), fun c => absurd (by decide : (0 : Int) = 0) c⟩⟩⟩, fun c1 => ⟨fun c2 => ⟨(Or.inl rfl), ⟨(Or.inl rfl), ⟨fun _ => ((h.2.2 c1).1 c2), fun c => absurd (by decide : (0 : Int) = 0) c⟩⟩⟩, fun c2 => ⟨(Or.inr rfl), ⟨(Or.inr rfl), ⟨fun c => absurd c (by decide : ¬ ((1 : Int) = 0)), fun _ => am_wEF_ok (orc []) 200 (⟨fun c3 => ⟨(Or.inl rfl), ⟨fun _ => (((h.2.2 c1).2 c2).1 c3), fun c => absurd (by decide : (0 : Int) = 0) c⟩⟩, fun c3 => ⟨fun c4 => ⟨(Or.inl rfl), ⟨fun _ => ((((h.2.2 c1).2 c2).2 c3).1 c4), fun c => absurd (by decide : (0 : Int) = 0) c⟩⟩, fun c4 => ⟨(Or.inr rfl), ⟨fun c => absurd c (by decide : ¬ ((1 : Int) = 0)), fun _ => ⟨rfl, ⟨fun c5 => (((((h.2.2 c1).2 c2).2 c3).2 c4).1 c5), fun c5 => ⟨rfl, (am_cI (((((h.2.2 c1).2 c2).2 c3).2 c4).2 c5) fun x6 s6 h6 => ⟨fun c7 => ⟨fun c8 => ⟨rfl, ⟨fun c9 => (((h6.2.1 c7).1 c8).1 c9), fun c9 => ⟨⟨rfl, (h6.1.1 17)⟩, ⟨rfl, ⟨⟨rfl, (((h6.2.1 c7).1 c8).2 c9).1.1, (((h6.2.1 c7).1 c8).2 c9).1.2⟩, (((h6.2.1 c7).1 c8).2 c9).2⟩⟩⟩⟩⟩, fun c8 => ((h6.2.1 c7).2 c8)⟩, fun c7 => ⟨rfl, (am_cI (h6.2.2 c7) fun x10 s10 h10 => h10.2)⟩⟩)⟩⟩⟩⟩⟩⟩⟩)⟩⟩⟩⟩⟩)⟩⟩)⟩)

theorem p_weigh (d : Nat) {xs : Nat → Int} {c : Nat} {σ : am_S} {p1 p2 : Int} (hI : INV xs σ c) (hc : c + 1 ≤ 600) : PR d xs m_C_weigh m_M_weigh [qi p1, qi p2] σ c := by
  have hs := INV_s hI hc
  obtain ⟨own, β, μ, κ, ρ, me, n, aH, nH, aL, nL, aY, nY, aS, nS, N, l, m, T, W, kd, aR, nR, aV, nV, aI, nI, aQ, nQ, g, w, hx⟩ := hI
  have hx0 := hx
  obtain ⟨⟨hF, hab, hxs⟩, it, il, ib, im, ij, sc, rz, is, ir, hc6⟩ := hx
  have it0 := it
  obtain ⟨hR, ow, ti, kt, ks, ⟨w1, w2, w3, w4, w5, w6, w7, w8⟩, ⟨l1, l2, l3, l4⟩, lz, ⟨q1, q2, q3, q4⟩, h87⟩ := it
  have o1 := ow.1
  have ib0 := ib
  obtain ⟨a1, a2, a3, ⟨n12, a4, a5⟩, bd, a6, a7, a8, a9, a10⟩ := ib
  obtain ⟨m1, ⟨m2, T26⟩, m3, m4, m5, m6⟩ := im
  have tN := ti.2.2.2.2.1
  have tT := ti.2.2.2.2.2.2.1
  have T4 := ti.2.2.2.2.2.2.2.2.1
  have nB : ∀ b, b < n → ∀ x, x < 87 → x ≠ β b := fun b hb x hx' e => by
    have := (a2 b hb).1
    rw [← e, o1 x hx'] at this
    omega
  have fd : ∀ (b : Nat) (f : Int) (K : Int → am_S → Prop) (e : Nat), b < n → 0 ≤ f ∧ f ≤ 6 → (TR (fdC σ β b f) aH nH aL nL aY nY aS nS → BS (fdC σ β b f) β μ κ ρ me n → K (-1010 - f) (fdC σ β b f)) → am_Calls PP MLL (e + 1) m_C_found [qr (2, 11, 10), qi (b : Int), qi f] σ (kI K) := fun b f K e hb hf h => c_found e hR.1 a1 n12 hb (nB b hb 2 (by decide)).symm (by omega) (by omega) (h (TR_2 fdC_2 hR) (BS_2 fdC_2 a1))
  have fe : ∀ (b : Nat) (f : Int) (e : Nat), b < n → 0 ≤ f ∧ f ≤ 6 → am_Calls PP MLL (e + 2) m_M_finds [qr (31, 12, 89), qi (b : Int), qi f] (fdC σ β b f) (kI fun x s => (MF s ∧ sI s 31 26 = 0) ∧ -1010 - f = x ∧ INV xs s (c + 1)) := fun b f e hb hf => by
    have e31 : sI (fdC σ β b f) 31 = sI σ 31 := fdC_o (by decide) (nB b hb 31 (by decide))
    refine c_M_finds e (MF_I hF fdC_2) (by omega) (by omega) (by rw [e31]; omega) ⟨⟨MF_I hF (show (mFinds (fdC σ β b f) b f).2 = σ.2 from fdC_2), by rw [mF_31, if_neg (by decide), if_neg (by decide), e31]; exact T26⟩, rfl, INV_fd hx0 hc hb hf⟩
  have fx : ∀ b f, b < n → sI (fdC σ β b f) 0 = xs := fun b f hb => by rw [fdC_o (by decide) (nB b hb 0 (by decide))]; exact hxs
  have fr : ∀ b f x, b < n → x < 87 → x ≠ 2 → sI (fdC σ β b f) x = sI σ x := fun b f x hb hx' h2 => fdC_o h2 (nB b hb x hx')
  have n40 := ti.1
  have bad : ∀ x : Int, ((p1 < 0 ∨ (n : Int) ≤ p1 ∨ p2 < -3 ∨ 3 < p2) ∧ x = -1001) ∨ (¬ (p1 < 0 ∨ (n : Int) ≤ p1 ∨ p2 < -3 ∨ 3 < p2) ∧ N = 0 ∧ x = -1002) → am_Calls PP MLL (d + 30) m_M_weigh [qr (31, 12, 89), qi p1, qi p2] σ (kI fun y t => x = y ∧ INV xs t (c + 1)) := by
    intro x hh
    refine v_M_weighT_0 (d + 26) p1 p2 σ _ hF T26 ?_
    rw [a5, tN]
    exact ⟨by omega, fun c1 => ⟨by omega, hs⟩, fun c1 => ⟨fun c2 => ⟨by omega, hs⟩, fun c2 => ⟨fun c3 => ⟨by omega, hs⟩, fun c3 => ⟨fun c4 => ⟨by omega, hs⟩, fun c4 => ⟨fun c5 => ⟨by omega, hs⟩, fun c5 => by omega⟩⟩⟩⟩⟩
  by_cases hr : p1 < 0 ∨ (n : Int) ≤ p1 ∨ p2 < -3 ∨ 3 < p2
  · refine v_C_weigh_0 (d + 24) β μ κ ρ me aH nH aL nL aY nY aS nS n p1 p2 σ _ hR a1 ?_
    refine v_C_refusalToWeigh_0 (d + 26) β μ κ ρ me aH nH aL nL aY nY aS nS n p1 p2 σ _ hR a1 ?_
    rw [a4]
    exact ⟨fun c1 => ⟨⟨hR, a1⟩, fun q => absurd q (by decide), fun _ => ⟨hxs, bad _ (Or.inl ⟨hr, rfl⟩)⟩⟩, fun c1 => ⟨fun c2 => ⟨⟨hR, a1⟩, fun q => absurd q (by decide), fun _ => ⟨hxs, bad _ (Or.inl ⟨hr, rfl⟩)⟩⟩, fun c2 => ⟨fun c3 => ⟨⟨hR, a1⟩, fun q => absurd q (by decide), fun _ => ⟨hxs, bad _ (Or.inl ⟨hr, rfl⟩)⟩⟩, fun c3 => ⟨fun c4 => ⟨⟨hR, a1⟩, fun q => absurd q (by decide), fun _ => ⟨hxs, bad _ (Or.inl ⟨hr, rfl⟩)⟩⟩, fun c4 => by omega⟩⟩⟩⟩
  by_cases hN : N = 0
  · refine v_C_weigh_0 (d + 24) β μ κ ρ me aH nH aL nL aY nY aS nS n p1 p2 σ _ hR a1 ?_
    refine v_C_refusalToWeigh_0 (d + 26) β μ κ ρ me aH nH aL nL aY nY aS nS n p1 p2 σ _ hR a1 ?_
    rw [a4, w2]
    exact ⟨fun c1 => by omega, fun c1 => ⟨fun c2 => by omega, fun c2 => ⟨fun c3 => by omega, fun c3 => ⟨fun c4 => by omega, fun c4 => ⟨fun _ => ⟨⟨hR, a1⟩, fun q => absurd q (by decide), fun _ => ⟨hxs, bad _ (Or.inr ⟨hr, hN, rfl⟩)⟩⟩, fun q => by omega⟩⟩⟩⟩⟩
  obtain ⟨b, eb⟩ : ∃ b : Nat, p1 = b := ⟨p1.toNat, by omega⟩
  subst eb
  have hb : b < n := by omega
  obtain ⟨kb, hg, ewr, _, _⟩ := IB_wr ib0 hb W
  have qv := IB_QV ib0
  obtain ⟨g', eg⟩ : ∃ g', g' = cw κ me b W := ⟨_, rfl⟩
  -- the reference up to its loop
  have ref : ∀ (st : am_S) (K : Int → am_S → Prop), MF st → sI st 31 = sI σ 31 → sI st 41 = sI σ 41 → sI st 44 = sI σ 44 → sI st 45 = sI σ 45 → sI st 46 = sI σ 46 → sI st 47 = sI σ 47 → (sI σ 41 b < 0 → am_Calls PP MLL (d + 29) m_M_finds [qr (31, 12, 89), qi (b : Int), qi 1] st (kI fun x s => (MF s ∧ sI s 31 26 = 0) ∧ K x s)) → (0 ≤ sI σ 41 b → sI σ 41 g' < 0 → am_Calls PP MLL (d + 29) m_M_finds [qr (31, 12, 89), qi (b : Int), qi 1] (putI st 31 28 (g' : Int)) (kI fun x s => (MF s ∧ sI s 31 26 = 0) ∧ K x s)) → (0 ≤ sI σ 41 b → 0 ≤ sI σ 41 g' → (sI σ 44 (2 * g') < 0 ∨ sI σ 44 (2 * g' + 1) < 0) → am_Calls PP MLL (d + 29) m_M_finds [qr (31, 12, 89), qi (b : Int), qi 2] (putI st 31 28 (g' : Int)) (kI fun x s => (MF s ∧ sI s 31 26 = 0) ∧ K x s)) → (0 ≤ sI σ 41 b → 0 ≤ sI σ 41 g' → 0 ≤ sI σ 44 (2 * g') → 0 ≤ sI σ 44 (2 * g' + 1) → ¬ FLm σ g' → K (-1002) (mLay (putI st 31 28 (g' : Int)) g')) → (0 ≤ sI σ 41 b → 0 ≤ sI σ 41 g' → 0 ≤ sI σ 44 (2 * g') → 0 ≤ sI σ 44 (2 * g' + 1) → FLm σ g' → (W = 30 → K (-1003) (mLay (putI st 31 28 (g' : Int)) g')) ∧ (¬ W = 30 → ∀ z3 z6, am_Runs PP MLL (d + 29) m_M_weigh 45 [some (qr (31, 12, 89)), some (qi (b : Int)), some (qi p2), z3, some (qi (sI σ 41 g')), some (qi 0), z6] [] (mLay (putI st 31 28 (g' : Int)) g') (kI K))) → am_Calls PP MLL (d + 30) m_M_weigh [qr (31, 12, 89), qi (b : Int), qi p2] st (kI K) := by
    intro st K f1 f31 f41 f44 f45 f46 f47 k1 k2 k3 k4 k5
    have T26s : sI st 31 26 = 0 := by rw [f31]; exact T26
    have qvs : QV st n := by unfold QV at qv ⊢; rw [f41, f46, f47]; exact qv
    have wrs : wr st b W = wr σ b W := by unfold wr; rw [f41, f46, f47]
    have fp : ∀ v, MF (putI st 31 28 v) ∧ sI (putI st 31 28 v) 31 26 = 0 := fun v => ⟨MF_I f1 rfl, by rw [put_at, if_neg (by decide)]; exact T26s⟩
    have lf' := mLay_f (st := st) (g := g') (by rw [f45]; exact fun i => (a8 i).2)
    have fm : MF (mLay (putI st 31 28 (g' : Int)) g') ∧ sI (mLay (putI st 31 28 (g' : Int)) g') 31 26 = 0 := ⟨MF_I f1 lf'.1, by rw [lf'.2.2.1 26 (by decide) (by decide) (by decide) (by decide)]; exact T26s⟩
    refine v_M_weighT_0 (d + 26) (b : Int) p2 st _ f1 T26s ?_
    rw [f31, a5, tN]
    refine ⟨by omega, fun c1 => by omega, fun c1 => ⟨fun c2 => by omega, fun c2 => ⟨fun c3 => by omega, fun c3 => ⟨fun c4 => by omega, fun c4 => ⟨fun c5 => by omega, fun c5 => ?_⟩⟩⟩⟩⟩
    have lfair := lay_fair (σ := st) (b := g') (by rw [f45]; exact fun i => (a8 i).2)
    have eFL : FLm st g' ↔ FLm σ g' := by unfold FLm; rw [f44, f45]
    refine c_M_weighFault (d + 27) (t := W) f1 n12 hb qvs (by rw [f31]; exact w6) (by omega) (by rw [f44]; exact fun k => (a7 k).2) (by rw [f45]; exact fun i => (a8 i).2) (fun h1 => ⟨⟨f1, T26s⟩, fun q => by omega, fun _ => k1 (by rw [f41] at h1; exact h1)⟩) (fun h1 h2 => ?_) (fun h1 h2 h3 => ?_) (fun h1 h2 h3 h4 => ?_)
    · rw [f41] at h1 h2
      rw [wrs, ewr h1, ← eg] at h2 ⊢
      exact ⟨fp _, fun q => by omega, fun _ => k2 h1 h2⟩
    · rw [f41] at h1 h2
      rw [f44] at h3
      rw [wrs, ewr h1, ← eg] at h2 h3 ⊢
      exact ⟨fp _, fun q => by omega, fun _ => k3 h1 h2 h3⟩
    · rw [f41] at h1 h2
      rw [f44] at h3 h4
      rw [wrs, ewr h1, ← eg] at h2 h3 h4 ⊢
      refine ⟨fm, ?_⟩
      by_cases fl : FLm σ g'
      · rw [if_pos (lfair.2 (eFL.2 fl))]
        have kk := k5 h1 h2 h3 h4 fl
        rw [lf'.2.2.1 13 (by decide) (by decide) (by decide) (by decide), f31, w6, lf'.2.2.2.1, Int.toNat_natCast, lf'.2.1 41 (by decide) (by decide), f41]
        exact ⟨fun _ => ⟨fun _ => ⟨fun q => kk.1 (by omega), fun q => ⟨by omega, kk.2 (by omega) _ _⟩⟩, fun q => absurd (Int.le_refl 0) q⟩, fun q => absurd (Int.le_refl 0) q⟩
      · rw [if_neg (fun q => fl (eFL.1 (lfair.1 q)))]
        exact ⟨fun _ => ⟨fun q => absurd q (by decide), fun _ => k4 h1 h2 h3 h4 fl⟩, fun q => absurd q (by decide)⟩
  have fe2 : ∀ (f v : Int), 0 ≤ f ∧ f ≤ 6 → am_Calls PP MLL (d + 29) m_M_finds [qr (31, 12, 89), qi (b : Int), qi f] (putI (fdC σ β b f) 31 28 v) (kI fun x s => (MF s ∧ sI s 31 26 = 0) ∧ -1010 - f = x ∧ INV xs s (c + 1)) := fun f v hf => by
    have q31 := fr b f 31 hb (by decide) (by decide)
    refine c_M_finds (d + 27) (MF_I hF fdC_2) (by omega) (by omega) (by rw [put_at, if_neg (by decide), q31]; omega) ⟨⟨MF_I hF (show (mFinds (putI (fdC σ β b f) 31 28 v) b f).2 = σ.2 from fdC_2), by rw [mF_31, if_neg (by decide), if_neg (by decide), put_at, if_neg (by decide), q31]; exact T26⟩, rfl, ?_⟩
    rw [mF_28]
    exact INV_0 (INV_fd hx0 hc hb hf) rfl (fun x h1 _ => put_ne h1) (fun j j1 _ _ _ => by rw [put_at, if_neg j1])
  have ly := mLay_f (st := σ) (g := g') (fun i => (a8 i).2)
  have invL : INV xs (mLay (putI σ 31 28 (g' : Int)) g') (c + 1) := INV_0 hs ly.1 ly.2.1 ly.2.2.1
  have fdd := fun (f : Int) (K : Int → am_S → Prop) (e : Nat) => fd b f K e hb
  have fr' := fun f => And.intro (fr b f 31 hb (by decide) (by decide)) (And.intro (fr b f 41 hb (by decide) (by decide)) (And.intro (fr b f 44 hb (by decide) (by decide)) (And.intro (fr b f 45 hb (by decide) (by decide)) (And.intro (fr b f 46 hb (by decide) (by decide)) (fr b f 47 hb (by decide) (by decide))))))
  refine v_C_weigh_0 (d + 24) β μ κ ρ me aH nH aL nL aY nY aS nS n (b : Int) p2 σ _ hR a1 ?_
  refine c_refuse (d + 26) hR ib0 hb w2 hN w5 w1 (by omega) fdd (fun hh => ⟨⟨TR_2 fdC_2 hR, BS_2 fdC_2 a1⟩, fun q => absurd q (by decide), fun _ => ⟨fx b 1 hb, ?_⟩⟩) (fun h1 h2 h3 => ⟨⟨TR_2 fdC_2 hR, BS_2 fdC_2 a1⟩, fun q => absurd q (by decide), fun _ => ⟨fx b 2 hb, ?_⟩⟩) (fun h1 h2 h3 h4 h5 => ⟨⟨hR, a1⟩, fun q => absurd q (by decide), fun _ => ⟨hxs, ?_⟩⟩) (fun h1 h2 h3 h4 h5 => ⟨⟨hR, a1⟩, fun _ => ⟨fun hW => ⟨by omega, ?_⟩, fun hW => ⟨hxs, ?_⟩⟩, fun q => absurd rfl q⟩)
  · rw [← eg] at hh
    obtain ⟨u1, u2, u3, u4, u5, u6⟩ := fr' 1
    exact ref _ _ (MF_I hF fdC_2) u1 u2 u3 u4 u5 u6 (fun _ => fe b 1 (d + 27) hb (by omega)) (fun _ _ => fe2 1 _ (by omega)) (fun q1 q2 _ => by omega) (fun q1 q2 _ _ _ => by omega) (fun q1 q2 _ _ _ => by omega)
  · rw [← eg] at h2 h3
    obtain ⟨u1, u2, u3, u4, u5, u6⟩ := fr' 2
    exact ref _ _ (MF_I hF fdC_2) u1 u2 u3 u4 u5 u6 (fun q => by omega) (fun _ q => by omega) (fun _ _ _ => fe2 2 _ (by omega)) (fun _ _ q1 q2 _ => by omega) (fun _ _ q1 q2 _ => by omega)
  · rw [← eg] at h2 h3 h4 h5
    exact ref _ _ hF rfl rfl rfl rfl rfl rfl (fun q => by omega) (fun _ q => by omega) (fun _ _ q => by omega) (fun _ _ _ _ _ => ⟨rfl, invL⟩) (fun _ _ _ _ q => absurd q h5)
  · have hW' : W < 30 := by omega
    rw [Int.toNat_natCast, w5]
    refine c_weigherAt (t := W) (d + 27) a1 hb kb (by omega) ⟨⟨hR, a1⟩, ?_⟩
    have eqg := IB_wr ib0 hb W
    rw [← eg] at h2 h3 h4 h5 hg eqg ⊢
    obtain ⟨_, _, _, eq1, eq2⟩ := eqg
    obtain ⟨e1, e2, e3, e4, e5, e6, e7, e8, e9⟩ := bd g' hg
    obtain ⟨z0, z1⟩ := FLm_0 ib0 hg h5
    have pw := p30 w1
    have lfT := lf_bd (sI σ 37) T
    refine c_judgeBy (d + 24) (own := own) (lf := lfB σ ρ g') (rt := rtB σ ρ g') hR a1 ow a2 ti kt ks hW' w3 w5 (by rw [w4]; omega) hg m2 l1 l2 l3 l4 e6.1 e6.2.1 e6.2.2 rfl rfl z0 ?_
    rw [m3.1]
    have w7' := weigh_fin (p2 := p2) hx0 hc hb hg hW' h2 z1
    have w33 := wg_3 (W := W) (lf' := lfB σ ρ g') (rt := rtB σ ρ g') (k := sI σ (β g') 0) (o := p2) w4 (own_ne ow.2.2.2.1 (o1 3 (by decide)) (by decide)) (own_ne ow.2.2.2.2 (o1 3 (by decide)) (by decide))
    have ob := (a2 b hb).1
    have og := (a2 g' hg).1
    obtain ⟨o2, o3, o4, o5⟩ := ow.2
    obtain ⟨J, eJ⟩ : ∃ J, J = JT σ aY aS (sI σ (β g') 0) p2 (lfB σ ρ g') (rtB σ ρ g') (sI σ 31 4) W T := ⟨_, rfl⟩
    rw [← eJ] at w7' w33 ⊢
    have J2 : J.2 = σ.2 := by rw [eJ]; rfl
    have Jb : ∀ h, h < n → sI J (β h) = sI σ (β h) := fun h hh => by
      have oh := (a2 h hh).1
      rw [eJ]
      exact JT_o (own_ne oh o4 (by omega)) (own_ne oh o5 (by omega)) (own_ne oh (o1 3 (by decide)) (by omega))
    have Jl : ∀ x', x' < 87 → x' ≠ 3 → ¬ (4 ≤ x' ∧ x' ≤ 7) → sI J x' = sI σ x' := fun x' q1 q2 q3 => by
      have e := o1 x' q1
      rw [eJ]
      exact JT_o (own_ne e o4 (by omega)) (own_ne e o5 (by omega)) q2
    rw [rg_some]
    refine ⟨⟨TR_2 J2 hR, BS_2 J2 a1⟩, ⟨rfl, by show -2147483648 ≤ sI J (β g') 7 + 1; rw [Jb g' hg]; omega, by show sI J (β g') 7 + 1 < 2147483648; rw [Jb g' hg]; omega⟩, ?_⟩
    obtain ⟨A, eA⟩ : ∃ A, A = putI J (β g') 7 (sI J (β g') 7 + 1) := ⟨_, rfl⟩
    show (sI (putI J (β g') 7 (sI J (β g') 7 + 1)) (β b) 0 = 6 → _) ∧ (¬ sI (putI J (β g') 7 (sI J (β g') 7 + 1)) (β b) 0 = 6 → _)
    rw [← eA]
    have A0 : sI A (β b) 0 = sI σ (β b) 0 := by
      rw [eA]
      by_cases e : β b = β g'
      · rw [e, put_at, if_neg (by decide), Jb g' hg]
      · rw [put_ne e, Jb b hb]
    rw [A0]
    have b7 := (bd b hb).2.2.2.1
    have go : ∀ x st, x = lf (up (sI σ 37) (w37' σ (sI σ (β g') 0) p2 (lfB σ ρ g') (rtB σ ρ g') W) T) T → wgS σ st J own β b g' → sI (putI (putR st 12 6 none) 12 13 0) 0 = xs ∧ am_Calls PP MLL (d + 30) m_M_weigh [qr (31, 12, 89), qi (b : Int), qi p2] (putI (putR st 12 6 none) 12 13 0) (kI fun y t => x = y ∧ INV xs t (c + 1)) := by
      intro x st ex hst
      obtain ⟨U, eU⟩ : ∃ U, U = putI (putR st 12 6 none) 12 13 0 := ⟨_, rfl⟩
      rw [← eU]
      have Ul : ∀ x', 31 ≤ x' → x' < 87 → sI U x' = sI σ x' := fun x' q1 q2 => by rw [eU, put_ne (by omega)]; exact hst.2.1 x' q2 (by omega) (by omega)
      have U0 : sI U 0 = xs := by rw [eU, put_ne (by decide), ← hxs]; exact hst.2.1 0 (by decide) (by decide) (by omega)
      have FU : MF U := fun j => by rw [eU]; show sR st 31 j = _; rw [R2' hst.1]; exact hF j
      refine ⟨U0, ref U _ FU (Ul 31 (by decide) (by decide)) (Ul 41 (by decide) (by decide)) (Ul 44 (by decide) (by decide)) (Ul 45 (by decide) (by decide)) (Ul 46 (by decide) (by decide)) (Ul 47 (by decide) (by decide)) (fun q => by omega) (fun _ q => by omega) (fun _ _ q => by omega) (fun _ _ _ _ q => absurd h5 q) (fun _ _ _ _ _ => ⟨fun q => by omega, fun _ z3 z6 => ?_⟩)⟩
      obtain ⟨y1, y2, y3, y4, y5, y6⟩ := mLay_f (st := U) (g := g') (by rw [Ul 45 (by decide) (by decide)]; exact fun i => (a8 i).2)
      refine l_M_weighK (d + 26) (b := b) (g := g') (n := T) (MF_I FU y1) (by rw [y3 26 (by decide) (by decide) (by decide) (by decide), Ul 31 (by decide) (by decide)]; exact T26) (by rw [y3 5 (by decide) (by decide) (by decide) (by decide), Ul 31 (by decide) (by decide)]; exact tT) T4 (by rw [y3 13 (by decide) (by decide) (by decide) (by decide), Ul 31 (by decide) (by decide), w6]; omega) y4 (by omega) (by omega) (fun t ht => by rw [y2 33 (by decide) (by decide), y2 34 (by decide) (by decide), y2 35 (by decide) (by decide), Ul 33 (by decide) (by decide), Ul 34 (by decide) (by decide), Ul 35 (by decide) (by decide)]; exact TI_40 ti ht) (fun k hk => by rw [y5 k hk]; exact y6 k) (fun t ht => by
        rw [y2 36 (by decide) (by decide), Ul 36 (by decide) (by decide)]
        obtain ⟨k1, k2, k3, k4, k5, k6, k7⟩ := ks t ht
        have := pc_bd (sI σ 38 t).toNat
        omega) (by rw [y2 42 (by decide) (by decide), Ul 42 (by decide) (by decide)]; exact a10) ?_ z3 z6
      exact w7' st x U eU ex hst _ rfl
    refine ⟨fun k6 => ⟨?_, ?_⟩, fun k6 => ?_⟩
    · have ng := (eq2 k6).1
      rw [eA, put_ne (own_ne ob og (by omega)), Jb b hb]
      omega
    · have ng := (eq2 k6).1
      obtain ⟨A2, eA2⟩ : ∃ A2, A2 = putI A (β b) 7 (sI A (β b) 7 + 1) := ⟨_, rfl⟩
      rw [← eA2]
      have st : wgS σ A2 J own β b g' := wgS_q o1 J2 Jl eA eA2 ob og ng Jb hb hg
      exact go _ _ (by rw [st.2.2.1 3 (by rw [o1 3 (by decide)]; omega) (by rw [o1 3 (by decide)]; omega)]; exact w33) st
    · have eb := eq1 k6
      have st : wgS σ A J own β b g' := wgS_n o1 J2 Jl eA og eb Jb hg
      exact go _ _ (by rw [st.2.2.1 3 (by rw [o1 3 (by decide)]; omega) (by rw [o1 3 (by decide)]; omega)]; exact w33) st
  · rw [← eg] at h2 h3 h4 h5
    exact ref _ _ hF rfl rfl rfl rfl rfl rfl (fun q => by omega) (fun _ q => by omega) (fun _ _ q => by omega) (fun _ _ _ _ q => absurd h5 q) (fun _ _ _ _ _ => ⟨fun _ => ⟨rfl, invL⟩, fun q => by omega⟩)
