/-! only a search has changed; goOn -/
theorem cref_d3 : ∀ q ∈ crefL, (q.1 < 14 ∨ 25 < q.1) := by decide
theorem INV_srch {xs : Nat → Int} {σ t : am_S} {c : Nat} {own own' β μ κ ρ : Nat → Nat} {me : Nat → Nat → Nat} {n aH nH aL nL aY nY aS nS N l m T W : Nat} {kd : Int} {aR nR aV nV aI nI aQ nQ g w : Nat} (h : INVx xs σ c own β μ κ ρ me n aH nH aL nL aY nY aS nS N l m T W kd aR nR aV nV aI nI aQ nQ g w) (hc : c + 1 ≤ 600) (n1 : sN σ ≤ sN t) (ow' : ∀ x, x < sN σ → own' x = own x)
    (hI : ∀ x, x < sN σ → own x ≠ 2 → own x ≠ 31 → ¬ (12 ≤ own x ∧ own x ≤ 25) → own x < 2000 → ¬ (51 ≤ own x ∧ own x ≤ 82) → own x ≠ 39 → own x ≠ 40 → sI t x = sI σ x) (hR : ∀ x, x < sN σ → ¬ (12 ≤ own x ∧ own x ≤ 25) → own x < 2000 → ∀ j, sR t x j = sR σ x j) (h12 : ∀ j, (j = 0 ∨ j = 1 ∨ j = 3) → sR t 12 j = sR σ 12 j) (h13 : ∀ j, j < 2 → sR t 13 j = sR σ 13 j)
    (h31 : ∀ j, ¬ (33 ≤ j ∧ j ≤ 40) → ¬ (57 ≤ j ∧ j ≤ 60) → j ≠ 73 → j ≠ 76 → j ≠ 77 → j ≠ 78 → sI t 31 j = sI σ 31 j) (h2 : ∀ j, j ≠ 7 → sI t 2 j = sI σ 2 j) (h7 : sI t 2 7 = sI t 31 38 ∧ 0 ≤ sI t 31 38 ∧ sI t 31 38 ≤ 30000) (rz : RZ t) {aI' nI' aQ' nQ' g' w' : Nat} (sc : SCb t own' aI' nI' aQ' nQ' g' w') (is : ISs t own' T n) (ir : IR t (c + 1) (zl t + nI' + nH + nL + nY + nS + nR + nV)) : INV xs t (c + 1) := by
  obtain ⟨⟨hF, hab, hxs⟩, it, il, ib, im, ij, _, _, _, _, _⟩ := h
  obtain ⟨tr, ow, ti, kt, ks, ⟨w1, w2, w3, w4, w5, w6, w7, w8⟩, ll, lz, ⟨q1, q2, q3, q4⟩, h87⟩ := it
  have o1 := ow.1
  have ri : ∀ x, x < 87 → x ≠ 2 → x ≠ 31 → ¬ (12 ≤ x ∧ x ≤ 25) → ¬ (51 ≤ x ∧ x ≤ 82) → x ≠ 39 → x ≠ 40 → sI t x = sI σ x := fun x hx r1 r2 r3 r4 r5 r6 => by
    have e := o1 x hx
    exact hI x (by omega) (by omega) (by omega) (by omega) (by omega) (by omega) (by omega) (by omega)
  have ra : ∀ x, x < sN σ → (4 ≤ own x ∧ own x ≤ 7) → sI t x = sI σ x := fun x hx hr => hI x hx (by omega) (by omega) (by omega) (by omega) (by omega) (by omega) (by omega)
  have rb : ∀ x, x < sN σ → (1000 ≤ own x ∧ own x < 2000) → sI t x = sI σ x := fun x hx hr => hI x hx (by omega) (by omega) (by omega) (by omega) (by omega) (by omega) (by omega)
  have rr : ∀ x, x < 87 → ¬ (12 ≤ x ∧ x ≤ 25) → ∀ j, sR t x j = sR σ x j := fun x hx r1 j => by
    have e := o1 x hx
    exact hR x (by omega) (by omega) (by omega) j
  have rc : ∀ x, x < sN σ → (1000 ≤ own x ∧ own x < 2000) → ∀ j, sR t x j = sR σ x j := fun x hx hr j => hR x hx (by omega) (by omega) j
  have z31 : ∀ j, j < 33 → sI t 31 j = sI σ 31 j := fun j hj => h31 j (by omega) (by omega) (by omega) (by omega) (by omega) (by omega)
  have y31 : ∀ j, 83 ≤ j → sI t 31 j = sI σ 31 j := fun j hj => h31 j (by omega) (by omega) (by omega) (by omega) (by omega) (by omega)
  obtain ⟨a1, a2, a3, a4, a5, a6, a7, a8, a9, a10⟩ := ib
  obtain ⟨m1, m2, m3, m4, m5, m6⟩ := im
  refine ⟨own', β, μ, κ, ρ, me, n, aH, nH, aL, nL, aY, nY, aS, nS, N, l, m, T, W, kd, aR, nR, aV, nV, aI', nI', aQ', nQ', g', w', ⟨fun j => by rw [rr 31 (by decide) (by omega)]; exact hF j, ?_, by rw [ri 0 (by decide) (by decide) (by decide) (by omega) (by omega) (by decide) (by decide)]; exact hxs⟩, ⟨?_, OW_f ow' h87 ⟨q1, q2, q3, q4⟩ ow, ?_, ?_, ?_, ?_, ll, lz, by omega, by omega⟩, ?_, ⟨?_, OB_f ow' a3 a2, fun b hb => by have := a3 b hb; omega, by rw [h2 5 (by decide), z31 16 (by decide)]; exact a4, fun b hb => ?_, ?_, ?_, ?_, fun j hj => by rw [rr 9 (by decide) (by omega)]; exact a9 j hj, ?_⟩, ?_, ?_, sc, rz, is, ir, hc⟩
  · unfold AB at hab ⊢
    rw [ri 1 (by decide) (by decide) (by decide) (by omega) (by omega) (by decide) (by decide)]
    exact hab
  · unfold TR at tr ⊢
    rw [rr 3 (by decide) (by omega), rr 3 (by decide) (by omega), rr 3 (by decide) (by omega), rr 3 (by decide) (by omega)]
    refine ⟨fun a j r hr => ?_, tr.2⟩
    have mem := crefF_mem _ a j r hr
    obtain ⟨z1, z2, z3, z4, z5, z6, z7, z8, z9⟩ := cref_dec _ mem
    have z3' : a = 12 → j = 0 ∨ j = 1 ∨ j = 3 := z3
    have z4' : a = 13 → j < 2 := z4
    have z1' : a < 31 := z1
    have d3 : a < 14 ∨ 25 < a := cref_d3 _ mem
    have : sR t a j = sR σ a j := by
      by_cases e12 : a = 12
      · rw [e12]; exact h12 j (z3' e12)
      · by_cases e13 : a = 13
        · rw [e13]; exact h13 j (z4' e13)
        · exact rr a (by omega) (by omega) j
    rw [this]
    exact tr.1 a j r hr
  · unfold TI CT at ti ⊢
    rw [z31 2 (by decide), z31 3 (by decide), z31 5 (by decide), ri 32 (by decide) (by decide) (by decide) (by omega) (by omega) (by decide) (by decide), ri 33 (by decide) (by decide) (by decide) (by omega) (by omega) (by decide) (by decide), ri 34 (by decide) (by decide) (by decide) (by omega) (by omega) (by decide) (by decide), ri 35 (by decide) (by decide) (by decide) (by omega) (by omega) (by decide) (by decide)]
    exact ti
  · unfold KTt at kt ⊢
    rw [ra aH q1 (by have := ow.2.1; omega), ra aL q2 (by have := ow.2.2.1; omega)]
    exact kt
  · unfold KS at ks ⊢
    rw [ra aY q3 (by have := ow.2.2.2.1; omega), ra aS q4 (by have := ow.2.2.2.2; omega), ri 36 (by decide) (by decide) (by decide) (by omega) (by omega) (by decide) (by decide), ri 37 (by decide) (by decide) (by decide) (by omega) (by omega) (by decide) (by decide), ri 38 (by decide) (by decide) (by decide) (by omega) (by omega) (by decide) (by decide)]
    exact ks
  · rw [ri 3 (by decide) (by decide) (by decide) (by omega) (by omega) (by decide) (by decide), ri 37 (by decide) (by decide) (by decide) (by omega) (by omega) (by decide) (by decide), z31 13 (by decide)]
    exact ⟨w1, w2, w3, w4, w5, w6, w7, w8⟩
  · intro x hx
    rw [ri 36 (by decide) (by decide) (by decide) (by omega) (by omega) (by decide) (by decide), z31 4 (by decide)]
    exact il x hx
  · unfold BS at a1 ⊢
    intro b hb
    obtain ⟨u1, u2, u3, u4, u5, u6, u7, u8⟩ := a1 b hb
    obtain ⟨y1, y2, y3⟩ := a2 b hb
    obtain ⟨x1, x2, x3⟩ := a3 b hb
    have y30 := y3 0 (by decide)
    have y32 := y3 2 (by decide)
    rw [Nat.add_zero] at y30
    exact ⟨by rw [rr 9 (by decide) (by omega)]; exact u1, by rw [rc _ x1 (by omega)]; exact u2, by rw [rc _ x1 (by omega)]; exact u3, by rw [rc _ x1 (by omega)]; exact u4, by rw [rc _ x1 (by omega)]; exact u5, by rw [rc _ (by omega) (by omega)]; exact u6, by rw [rc _ (by omega) (by omega)]; exact u7, fun i hi => by rw [rc _ x2 (by omega)]; exact u8 i hi⟩
  · exact BD_K (fun g' hg' => rb _ (a3 g' hg').1 (by have := (a2 g' hg').1; omega)) (fun k hk => rb _ (by have := a3 b hb; omega) (by have := (a2 b hb).2.2 k hk; omega)) hb (fun x x1 x2 => ri x (by omega) (by omega) (by omega) (by omega) (by omega) (by omega) (by omega)) (a5 b hb)
  · rw [ri 41 (by decide) (by decide) (by decide) (by omega) (by omega) (by decide) (by decide)]
    exact a6
  · rw [ri 44 (by decide) (by decide) (by decide) (by omega) (by omega) (by decide) (by decide)]
    exact a7
  · rw [ri 45 (by decide) (by decide) (by decide) (by omega) (by omega) (by decide) (by decide)]
    exact a8
  · rw [ri 42 (by decide) (by decide) (by decide) (by omega) (by omega) (by decide) (by decide)]
    exact a10
  · refine ⟨by rw [ri 10 (by decide) (by decide) (by decide) (by omega) (by omega) (by decide) (by decide), ri 11 (by decide) (by decide) (by decide) (by omega) (by omega) (by decide) (by decide), ri 48 (by decide) (by decide) (by decide) (by omega) (by omega) (by decide) (by decide), z31 25 (by decide)]; exact m1, by rw [ri 10 (by decide) (by decide) (by decide) (by omega) (by omega) (by decide) (by decide), z31 26 (by decide)]; exact m2, by rw [h2 6 (by decide), z31 4 (by decide)]; exact m3, h7, by rw [h2 8 (by decide), z31 0 (by decide)]; exact m5, by rw [h2 9 (by decide), z31 1 (by decide)]; omega⟩
  · obtain ⟨j1, j2, j3, j4, j5, j6, j7, j8, j9, j10, j11, j12, j13, j14, j15⟩ := ij
    have r26 := ri 26 (by decide) (by decide) (by decide) (by omega) (by omega) (by decide) (by decide)
    refine ⟨by rw [rr 26 (by decide) (by omega)]; exact j1, by rw [rr 26 (by decide) (by omega)]; exact j2, by rw [ow' aR j5]; exact j3, by rw [ow' aV j6]; exact j4, by omega, by omega, j7, j8, by rw [hI aV j6 (by omega) (by omega) (by omega) (by omega) (by omega) (by omega) (by omega)]; exact j9, by rw [ri 85 (by decide) (by decide) (by decide) (by omega) (by omega) (by decide) (by decide)]; exact j10, ?_, ?_, ?_, by rw [r26, y31 83 (by decide)]; exact j14, by rw [r26, y31 83 (by decide), y31 84 (by decide), y31 85 (by decide), y31 86 (by decide)]; exact j15⟩
    · rw [ri 27 (by decide) (by decide) (by decide) (by omega) (by omega) (by decide) (by decide), ri 28 (by decide) (by decide) (by decide) (by omega) (by omega) (by decide) (by decide), ri 83 (by decide) (by decide) (by decide) (by omega) (by omega) (by decide) (by decide), ri 84 (by decide) (by decide) (by decide) (by omega) (by omega) (by decide) (by decide)]
      exact j11
    · rw [ri 83 (by decide) (by decide) (by decide) (by omega) (by omega) (by decide) (by decide), ri 84 (by decide) (by decide) (by decide) (by omega) (by omega) (by decide) (by decide)]
      exact j12
    · rw [ri 83 (by decide) (by decide) (by decide) (by omega) (by omega) (by decide) (by decide), ri 84 (by decide) (by decide) (by decide) (by omega) (by omega) (by decide) (by decide)]
      exact j13
