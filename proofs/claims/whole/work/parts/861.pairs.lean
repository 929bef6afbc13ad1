/-! the calls in pairs: is, as, truth, alike -/
theorem sig_trf {σ : am_S} {n l m t f x y z w : Nat} {kd : Int} (hv : Vc n l m kd f x y z w) (hc : CT σ t f x y z kd w) (q : Nat) : sig f x y z kd w q = trf (sI σ 34) (sI σ 35) t (q : Int) (sI σ 33 t).toNat := by
  rw [hc.1, Int.toNat_natCast]
  obtain ⟨v1, v2, v3, v4, v5, v6, v7, v8, v9, v10⟩ := hv
  obtain ⟨_, hc⟩ := hc
  have : f = 0 ∨ f = 1 ∨ f = 2 ∨ f = 3 := by omega
  rcases this with e | e | e | e
  · subst e
    unfold sig
    rw [if_neg (by omega), if_neg (by omega), if_neg (by omega)]
    rfl
  · subst e
    obtain ⟨c0, g0⟩ := hc 0 (by decide)
    simp only [trf]
    rw [c0, g0]
    unfold sig cni
    (repeat' split) <;> omega
  · subst e
    obtain ⟨c0, g0⟩ := hc 0 (by decide)
    obtain ⟨c1, g1⟩ := hc 1 (by decide)
    simp only [trf]
    rw [c0, g0, c1, g1]
    unfold sig cni
    (repeat' split) <;> omega
  · subst e
    obtain ⟨c0, g0⟩ := hc 0 (by decide)
    obtain ⟨c1, g1⟩ := hc 1 (by decide)
    obtain ⟨c2, g2⟩ := hc 2 (by decide)
    simp only [trf]
    rw [c0, g0, c1, g1, c2, g2]
    unfold sig cni
    (repeat' split) <;> omega
theorem p_is (d : Nat) {xs : Nat → Int} {c : Nat} {σ : am_S} {p1 p2 : Int} (hI : INV xs σ c) (hc : c + 1 ≤ 600) : PR d xs m_C_is m_M_is [qi p1, qi p2] σ c := by
  have hs := INV_s hI hc
  obtain ⟨own, β, μ, κ, ρ, me, n, aH, nH, aL, nL, aY, nY, aS, nS, N, l, m, T, W, kd, aR, nR, aV, nV, aI, nI, aQ, nQ, g, w, hx⟩ := hI
  have hx0 := hx
  obtain ⟨⟨hF, hab, hxs⟩, it, il, ib, im, ij, sc, rz, is, ir, hc6⟩ := hx
  obtain ⟨hR, ow, ti, kt, ks, ⟨w1, w2, w3, w4, w5, w6, w7, w8⟩, ⟨l1, l2, l3, l4⟩, lz, ⟨q1, q2, q3, q4⟩, h87⟩ := it
  have o1 := ow.1
  obtain ⟨a1, a2, a3, ⟨n12, a4, a5⟩, bd, a6, a7, a8, a9, a10⟩ := ib
  obtain ⟨m1, ⟨m2, T26⟩, m3, m4, m5, m6⟩ := im
  have tN := ti.2.2.2.2.1
  have tT := ti.2.2.2.2.2.2.1
  have T4 := ti.2.2.2.2.2.2.2.2.1
  have nB : ∀ b, b < n → ∀ x, x < 87 → x ≠ β b := fun b hb x hx' e => by
    have := (a2 b hb).1
    rw [← e, o1 x hx'] at this
    omega
  have fd : ∀ (b : Nat) (f : Int) (K : Int → am_S → Prop) (e : Nat), b < n → 0 ≤ f ∧ f ≤ 6 → (TR (fdC σ β b f) aH nH aL nL aY nY aS nS → BS (fdC σ β b f) β μ κ ρ me n → K (-1010 - f) (fdC σ β b f)) → am_Calls PP MLL (e + 1) m_C_found [qr (2, 11, 10), qi (b : Int), qi f] σ (kI K) := fun b f K e hb hf h => c_found e hR.1 a1 n12 hb (nB b hb 2 (by decide)).symm (by omega) (by omega) (h (TR_2 fdC_2 hR) (BS_2 fdC_2 a1))
  have fe : ∀ (b : Nat) (f : Int) (e : Nat), b < n → 0 ≤ f ∧ f ≤ 6 → am_Calls PP MLL (e + 2) m_M_finds [qr (31, 12, 89), qi (b : Int), qi f] (fdC σ β b f) (kI fun x s => (MF s ∧ sI s 31 26 = 0) ∧ -1010 - f = x ∧ INV xs s (c + 1)) := fun b f e hb hf => by
    have e31 : sI (fdC σ β b f) 31 = sI σ 31 := fdC_o (by decide) (nB b hb 31 (by decide))
    refine c_M_finds e (MF_I hF fdC_2) (by omega) (by omega) (by rw [e31]; omega) ⟨⟨MF_I hF (show (mFinds (fdC σ β b f) b f).2 = σ.2 from fdC_2), by rw [mF_31, if_neg (by decide), if_neg (by decide), e31]; exact T26⟩, rfl, INV_fd hx0 hc hb hf⟩
  have fx : ∀ b f, b < n → sI (fdC σ β b f) 0 = xs := fun b f hb => by rw [fdC_o (by decide) (nB b hb 0 (by decide))]; exact hxs
  have fr : ∀ b f x, b < n → x < 87 → x ≠ 2 → sI (fdC σ β b f) x = sI σ x := fun b f x hb hx' h2 => fdC_o h2 (nB b hb x hx')
  have ref : ∀ x : Int, ((p1 < 0 ∨ (n : Int) ≤ p1) ∨ (p2 < 0 ∨ 6 < p2)) → x = -1001 → am_Calls PP MLL (d + 30) m_M_is [qr (31, 12, 89), qi p1, qi p2] σ (kI fun y t => x = y ∧ INV xs t (c + 1)) := by
    intro x hp ex
    refine v_M_is_0 (d + 27) p1 p2 σ _ hF T26 ?_
    rw [a5]
    exact ⟨by omega, fun c1 => ⟨ex, hs⟩, fun c1 => ⟨fun c2 => ⟨ex, hs⟩, fun c2 => ⟨fun c3 => ⟨ex, hs⟩, fun c3 => ⟨fun c4 => ⟨ex, hs⟩, fun c4 => by omega⟩⟩⟩⟩
  refine v_C_is_0 (d + 28) β μ κ ρ me aH nH aL nL aY nY aS nS n p1 p2 σ _ hR a1 ?_
  rw [a4]
  refine ⟨fun c1 => ⟨hxs, ref _ (by omega) rfl⟩, fun c1 => ⟨fun c2 => ⟨hxs, ref _ (by omega) rfl⟩, fun c2 => ⟨fun c3 => ⟨hxs, ref _ (by omega) rfl⟩, fun c3 => ⟨fun c4 => ⟨hxs, ref _ (by omega) rfl⟩, fun c4 => ⟨by omega, ?_⟩⟩⟩⟩⟩
  obtain ⟨b, eb⟩ : ∃ b : Nat, p1 = b := ⟨p1.toNat, by omega⟩
  subst eb
  have hb : b < n := by omega
  rw [Int.toNat_natCast]
  obtain ⟨d1, d2, d3, d4, d5, d6, d7, d8, d9⟩ := bd b hb
  have no : sI σ 41 b < 0 → sI (fdC σ β b 1) 0 = xs ∧ am_Calls PP MLL (d + 30) m_M_is [qr (31, 12, 89), qi (b : Int), qi p2] (fdC σ β b 1) (kI fun y t => -1010 - 1 = y ∧ INV xs t (c + 1)) := by
    intro h41
    refine ⟨fx b 1 hb, ?_⟩
    refine v_M_is_0 (d + 27) (b : Int) p2 _ _ (MF_I hF fdC_2) (by rw [fr b 1 31 hb (by decide) (by decide)]; exact T26) ?_
    rw [fr b 1 31 hb (by decide) (by decide), fr b 1 41 hb (by decide) (by decide), a5, Int.toNat_natCast]
    exact ⟨by omega, fun c1 => by omega, fun _ => ⟨fun c2 => by omega, fun _ => ⟨fun c3' => by omega, fun _ => ⟨fun c4' => by omega, fun _ => ⟨by omega, fun c5 => by omega, fun _ => fe b 1 (d + 27) hb (by omega)⟩⟩⟩⟩⟩
  refine ⟨fun e6 => ?_, fun e6 => ?_⟩
  · rw [if_pos e6] at d3
    have yes : ∀ x : Int, (blw (sI σ (β b) 0) p2 → x = 1) → (¬ blw (sI σ (β b) 0) p2 → x = 0) → am_Calls PP MLL (d + 30) m_M_is [qr (31, 12, 89), qi (b : Int), qi p2] σ (kI fun y t => x = y ∧ INV xs t (c + 1)) := by
      intro x h1 h0
      refine v_M_is_0 (d + 27) (b : Int) p2 σ _ hF T26 ?_
      rw [a5, Int.toNat_natCast, d3]
      exact ⟨by omega, fun c1 => by omega, fun _ => ⟨fun c2 => by omega, fun _ => ⟨fun c3' => by omega, fun _ => ⟨fun c4' => by omega, fun _ => ⟨by omega, fun _ => c_M_isBelow (d + 28) hF T26 (fun hy => ⟨⟨hF, T26⟩, by rw [if_neg (by decide)]; exact h1 hy, hs⟩) (fun hn => ⟨⟨hF, T26⟩, by rw [if_pos rfl]; exact h0 hn, hs⟩), fun c5 => by omega⟩⟩⟩⟩⟩
    exact c_belongsTo (d + 28) hab d1 (by omega) (fun hy => ⟨⟨hR, a1⟩, hxs, by rw [if_neg (by decide)]; exact yes 1 (fun _ => rfl) (fun h => absurd hy h)⟩) (fun hn => ⟨⟨hR, a1⟩, hxs, by rw [if_pos rfl]; exact yes 0 (fun h => absurd h hn) (fun _ => rfl)⟩)
  · rw [if_neg e6] at d3
    exact fd b 1 _ (d + 28) hb (by omega) (fun t1 t2 => ⟨⟨t1, t2⟩, no (by omega)⟩)
theorem p_as (d : Nat) {xs : Nat → Int} {c : Nat} {σ : am_S} {p1 p2 : Int} (hI : INV xs σ c) (hc : c + 1 ≤ 600) : PR d xs m_C_as m_M_as [qi p1, qi p2] σ c := by
  have hs := INV_s hI hc
  obtain ⟨own, β, μ, κ, ρ, me, n, aH, nH, aL, nL, aY, nY, aS, nS, N, l, m, T, W, kd, aR, nR, aV, nV, aI, nI, aQ, nQ, g, w, hx⟩ := hI
  have hx0 := hx
  obtain ⟨⟨hF, hab, hxs⟩, it, il, ib, im, ij, sc, rz, is, ir, hc6⟩ := hx
  obtain ⟨hR, ow, ti, kt, ks, ⟨w1, w2, w3, w4, w5, w6, w7, w8⟩, ⟨l1, l2, l3, l4⟩, lz, ⟨q1, q2, q3, q4⟩, h87⟩ := it
  have o1 := ow.1
  obtain ⟨a1, a2, a3, ⟨n12, a4, a5⟩, bd, a6, a7, a8, a9, a10⟩ := ib
  obtain ⟨m1, ⟨m2, T26⟩, m3, m4, m5, m6⟩ := im
  have tN := ti.2.2.2.2.1
  have tT := ti.2.2.2.2.2.2.1
  have T4 := ti.2.2.2.2.2.2.2.2.1
  have nB : ∀ b, b < n → ∀ x, x < 87 → x ≠ β b := fun b hb x hx' e => by
    have := (a2 b hb).1
    rw [← e, o1 x hx'] at this
    omega
  have fd : ∀ (b : Nat) (f : Int) (K : Int → am_S → Prop) (e : Nat), b < n → 0 ≤ f ∧ f ≤ 6 → (TR (fdC σ β b f) aH nH aL nL aY nY aS nS → BS (fdC σ β b f) β μ κ ρ me n → K (-1010 - f) (fdC σ β b f)) → am_Calls PP MLL (e + 1) m_C_found [qr (2, 11, 10), qi (b : Int), qi f] σ (kI K) := fun b f K e hb hf h => c_found e hR.1 a1 n12 hb (nB b hb 2 (by decide)).symm (by omega) (by omega) (h (TR_2 fdC_2 hR) (BS_2 fdC_2 a1))
  have fe : ∀ (b : Nat) (f : Int) (e : Nat), b < n → 0 ≤ f ∧ f ≤ 6 → am_Calls PP MLL (e + 2) m_M_finds [qr (31, 12, 89), qi (b : Int), qi f] (fdC σ β b f) (kI fun x s => (MF s ∧ sI s 31 26 = 0) ∧ -1010 - f = x ∧ INV xs s (c + 1)) := fun b f e hb hf => by
    have e31 : sI (fdC σ β b f) 31 = sI σ 31 := fdC_o (by decide) (nB b hb 31 (by decide))
    refine c_M_finds e (MF_I hF fdC_2) (by omega) (by omega) (by rw [e31]; omega) ⟨⟨MF_I hF (show (mFinds (fdC σ β b f) b f).2 = σ.2 from fdC_2), by rw [mF_31, if_neg (by decide), if_neg (by decide), e31]; exact T26⟩, rfl, INV_fd hx0 hc hb hf⟩
  have fx : ∀ b f, b < n → sI (fdC σ β b f) 0 = xs := fun b f hb => by rw [fdC_o (by decide) (nB b hb 0 (by decide))]; exact hxs
  have fr : ∀ b f x, b < n → x < 87 → x ≠ 2 → sI (fdC σ β b f) x = sI σ x := fun b f x hb hx' h2 => fdC_o h2 (nB b hb x hx')
  have ref : ∀ x : Int, ((p1 < 0 ∨ (n : Int) ≤ p1) ∨ (p2 < 0 ∨ 6 < p2)) → x = -1001 → am_Calls PP MLL (d + 30) m_M_as [qr (31, 12, 89), qi p1, qi p2] σ (kI fun y t => x = y ∧ INV xs t (c + 1)) := by
    intro x hp ex
    refine v_M_as_0 (d + 27) p1 p2 σ _ hF T26 ?_
    rw [a5]
    exact ⟨by omega, fun c1 => ⟨ex, hs⟩, fun c1 => ⟨fun c2 => ⟨ex, hs⟩, fun c2 => ⟨fun c3 => ⟨ex, hs⟩, fun c3 => ⟨fun c4 => ⟨ex, hs⟩, fun c4 => by omega⟩⟩⟩⟩
  refine v_C_as_0 (d + 28) β μ κ ρ me aH nH aL nL aY nY aS nS n p1 p2 σ _ hR a1 ?_
  rw [a4]
  refine ⟨fun c1 => ⟨hxs, ref _ (by omega) rfl⟩, fun c1 => ⟨fun c2 => ⟨hxs, ref _ (by omega) rfl⟩, fun c2 => ⟨fun c3 => ⟨hxs, ref _ (by omega) rfl⟩, fun c3 => ⟨fun c4 => ⟨hxs, ref _ (by omega) rfl⟩, fun c4 => ⟨by omega, ?_⟩⟩⟩⟩⟩
  obtain ⟨b, eb⟩ : ∃ b : Nat, p1 = b := ⟨p1.toNat, by omega⟩
  subst eb
  have hb : b < n := by omega
  rw [Int.toNat_natCast]
  obtain ⟨d1, d2, d3, d4, d5, d6, d7, d8, d9⟩ := bd b hb
  have no : sI σ 41 b < 0 → sI (fdC σ β b 1) 0 = xs ∧ am_Calls PP MLL (d + 30) m_M_as [qr (31, 12, 89), qi (b : Int), qi p2] (fdC σ β b 1) (kI fun y t => -1010 - 1 = y ∧ INV xs t (c + 1)) := by
    intro h41
    refine ⟨fx b 1 hb, ?_⟩
    refine v_M_as_0 (d + 27) (b : Int) p2 _ _ (MF_I hF fdC_2) (by rw [fr b 1 31 hb (by decide) (by decide)]; exact T26) ?_
    rw [fr b 1 31 hb (by decide) (by decide), fr b 1 41 hb (by decide) (by decide), a5, Int.toNat_natCast]
    exact ⟨by omega, fun c1 => by omega, fun _ => ⟨fun c2 => by omega, fun _ => ⟨fun c3' => by omega, fun _ => ⟨fun c4' => by omega, fun _ => ⟨by omega, fun c5 => by omega, fun _ => fe b 1 (d + 27) hb (by omega)⟩⟩⟩⟩⟩
  refine ⟨fun e6 => ?_, fun e6 => ?_⟩
  · rw [if_pos e6] at d3
    refine c_belongsTo (d + 28) hab d1 (by omega) (fun hy => ⟨⟨hR, a1⟩, fun q => absurd q (by decide), fun _ => ⟨hxs, ?_⟩⟩) (fun hn => ⟨⟨hR, a1⟩, fun _ => ?_, fun q => absurd rfl q⟩)
    · refine v_M_as_0 (d + 27) (b : Int) p2 σ _ hF T26 ?_
      rw [a5, Int.toNat_natCast, d3]
      exact ⟨by omega, fun c1 => by omega, fun _ => ⟨fun c2 => by omega, fun _ => ⟨fun c3' => by omega, fun _ => ⟨fun c4' => by omega, fun _ => ⟨by omega, fun _ => c_M_isBelow (d + 28) hF T26 (fun hy => ⟨⟨hF, T26⟩, fun q => absurd q (by decide), fun _ => ⟨rfl, hs⟩⟩) (fun hn => absurd hy hn), fun c5 => by omega⟩⟩⟩⟩⟩
    · refine fd b 4 _ (d + 28) hb (by omega) (fun t1 t2 => ⟨⟨t1, t2⟩, fx b 4 hb, ?_⟩)
      have hF' : MF (fdC σ β b 4) := MF_I hF fdC_2
      have T26' : sI (fdC σ β b 4) 31 26 = 0 := by rw [fr b 4 31 hb (by decide) (by decide)]; exact T26
      refine v_M_as_0 (d + 27) (b : Int) p2 _ _ hF' T26' ?_
      rw [fr b 4 31 hb (by decide) (by decide), fr b 4 41 hb (by decide) (by decide), a5, Int.toNat_natCast, d3]
      exact ⟨by omega, fun c1 => by omega, fun _ => ⟨fun c2 => by omega, fun _ => ⟨fun c3' => by omega, fun _ => ⟨fun c4' => by omega, fun _ => ⟨by omega, fun _ => c_M_isBelow (d + 28) hF' T26' (fun hy => absurd hy hn) (fun hn => ⟨⟨hF', T26'⟩, fun _ => fe b 4 (d + 27) hb (by omega), fun q => absurd rfl q⟩), fun c5 => by omega⟩⟩⟩⟩⟩
  · rw [if_neg e6] at d3
    exact fd b 1 _ (d + 28) hb (by omega) (fun t1 t2 => ⟨⟨t1, t2⟩, no (by omega)⟩)
theorem p_truth (d : Nat) {xs : Nat → Int} {c : Nat} {σ : am_S} {p1 p2 : Int} (hI : INV xs σ c) (hc : c + 1 ≤ 600) : PR d xs m_C_truth m_M_truth [qi p1, qi p2] σ c := by
  have hs := INV_s hI hc
  obtain ⟨own, β, μ, κ, ρ, me, n, aH, nH, aL, nL, aY, nY, aS, nS, N, l, m, T, W, kd, aR, nR, aV, nV, aI, nI, aQ, nQ, g, w, hx⟩ := hI
  have hx0 := hx
  obtain ⟨⟨hF, hab, hxs⟩, it, il, ib, im, ij, sc, rz, is, ir, hc6⟩ := hx
  obtain ⟨hR, ow, ti, kt, ks, ⟨w1, w2, w3, w4, w5, w6, w7, w8⟩, ⟨l1, l2, l3, l4⟩, lz, ⟨q1, q2, q3, q4⟩, h87⟩ := it
  have o1 := ow.1
  obtain ⟨a1, a2, a3, ⟨n12, a4, a5⟩, bd, a6, a7, a8, a9, a10⟩ := ib
  obtain ⟨m1, ⟨m2, T26⟩, m3, m4, m5, m6⟩ := im
  have tN := ti.2.2.2.2.1
  have tT := ti.2.2.2.2.2.2.1
  have T4 := ti.2.2.2.2.2.2.2.2.1
  have ref : ∀ x : Int, ((p1 < 0 ∨ (T : Int) ≤ p1) ∨ (p2 < 0 ∨ (N : Int) ≤ p2) → x = -1001) → (∀ t : Nat, p1 = t → t < T → 0 ≤ p2 → p2 < N → x = trf (sI σ 34) (sI σ 35) t p2 (sI σ 33 t).toNat) → am_Calls PP MLL (d + 30) m_M_truth [qr (31, 12, 89), qi p1, qi p2] σ (kI fun y t => x = y ∧ INV xs t (c + 1)) := by
    intro x h1 h2
    refine v_M_truthT_0 (d + 27) p1 p2 σ _ hF T26 ?_
    rw [tT, tN]
    refine ⟨by omega, fun c1 => ⟨h1 (by omega), hs⟩, fun c1 => ⟨fun c2 => ⟨h1 (by omega), hs⟩, fun c2 => ⟨by have := ti.1; omega, fun c3 => ⟨h1 (by omega), hs⟩, fun c3 => ⟨fun c4 => ⟨h1 (by omega), hs⟩, fun c4 => ?_⟩⟩⟩⟩
    obtain ⟨t, et⟩ : ∃ t : Nat, p1 = t := ⟨p1.toNat, by omega⟩
    subst et
    have tv := TI_tv ti (show t < T by omega)
    exact l_M_truth (d + 27) hF (by omega) ⟨tv.1, tv.2.1⟩ ⟨h2 t rfl (by omega) (by omega) (by omega), hs⟩
  refine v_C_truth_0 (d + 28) β μ κ ρ me aH nH aL nL aY nY aS nS n p1 p2 σ _ hR a1 ?_
  rw [w3, w2]
  refine ⟨fun c1 => ⟨hxs, ref _ (fun _ => rfl) (fun t et _ _ _ => by omega)⟩, fun c1 => ⟨fun c2 => ⟨hxs, ref _ (fun _ => rfl) (fun t et _ _ _ => by omega)⟩, fun c2 => ⟨fun c3 => ⟨hxs, ref _ (fun _ => rfl) (fun t et _ _ _ => by omega)⟩, fun c3 => ⟨fun c4 => ⟨hxs, ref _ (fun _ => rfl) (fun t et _ _ _ => by omega)⟩, fun c4 => ?_⟩⟩⟩⟩
  obtain ⟨t, et⟩ : ∃ t : Nat, p1 = t := ⟨p1.toNat, by omega⟩
  obtain ⟨q, eq⟩ : ∃ q : Nat, p2 = q := ⟨p2.toNat, by omega⟩
  subst et
  subst eq
  have ht : t < T := by omega
  obtain ⟨k1, k2, k3⟩ := kt t ht
  obtain ⟨f, x, y, z, w', hvc, hN', hct⟩ := ti.2.2.2.2.2.2.2.2.2.2 t ht
  have hb := k3 f x y z w' hvc hN'
  have n40 := ti.1
  refine c_falsehood (d + 28) hR (by omega) (by omega) (show sI σ aH t = ((sI σ aH t).toNat : Nat) by omega) (show sI σ aL t = ((sI σ aL t).toNat : Nat) by omega) hb.1 hb.2.1 (by omega) ⟨⟨hR, a1⟩, hxs, ref _ (fun _ => by omega) (fun t' et' _ _ _ => ?_)⟩
  have : t' = t := by omega
  rw [this, (hb.2.2 q).1]
  exact sig_trf hvc hct q
