/-! only the jury has changed -/
theorem INV_jury {xs : Nat → Int} {σ t : am_S} {c : Nat} {own own' β μ κ ρ : Nat → Nat} {me : Nat → Nat → Nat} {n aH nH aL nL aY nY aS nS N l m T W : Nat} {kd : Int} {aR nR aV nV aI nI aQ nQ g w : Nat} (h : INVx xs σ c own β μ κ ρ me n aH nH aL nL aY nY aS nS N l m T W kd aR nR aV nV aI nI aQ nQ g w) (hc : c + 1 ≤ 600) (n1 : sN σ ≤ sN t) (ow' : ∀ x, x < sN σ → own' x = own x)
    (hI : ∀ x, x < sN σ → ¬ (26 ≤ own x ∧ own x ≤ 31) → ¬ (83 ≤ own x ∧ own x ≤ 86) → sI t x = sI σ x) (hR : ∀ x, x < sN σ → x ≠ 26 → ∀ j, sR t x j = sR σ x j) (h26 : ∀ j, j < 2 → sR t 26 j = sR σ 26 j) (h31 : ∀ j, j < 83 → sI t 31 j = sI σ 31 j) {aR' nR' aV' nV' : Nat} (ij' : IJ t own' aR' nR' aV' nV') (ir' : IR t (c + 1) (zl σ + nI + nH + nL + nY + nS + nR' + nV')) : INV xs t (c + 1) := by
  obtain ⟨⟨hF, hab, hxs⟩, it, il, ib, im, ij, sc, rz, is, ir, _⟩ := h
  obtain ⟨tr, ow, ti, kt, ks, ⟨w1, w2, w3, w4, w5, w6, w7, w8⟩, ll, lz, ⟨q1, q2, q3, q4⟩, h87⟩ := it
  have o1 := ow.1
  have ri : ∀ x, x < 87 → ¬ (26 ≤ x ∧ x ≤ 31) → ¬ (83 ≤ x ∧ x ≤ 86) → sI t x = sI σ x := fun x hx r1 r2 => by
    have e := o1 x hx
    exact hI x (by omega) (by omega) (by omega)
  have ra : ∀ x, x < sN σ → (4 ≤ own x ∧ own x ≤ 7) → sI t x = sI σ x := fun x hx hr => hI x hx (by omega) (by omega)
  have rb : ∀ x, x < sN σ → (1000 ≤ own x ∧ own x < 2000) → sI t x = sI σ x := fun x hx hr => hI x hx (by omega) (by omega)
  have rr : ∀ x, x < 87 → x ≠ 26 → ∀ j, sR t x j = sR σ x j := fun x hx r1 j => hR x (by omega) r1 j
  have o26 := o1 26 (by decide)
  have rc : ∀ x, x < sN σ → (1000 ≤ own x ∧ own x < 2000) → ∀ j, sR t x j = sR σ x j := fun x hx hr j => hR x hx (fun e => by rw [e] at hr; omega) j
  have xf : XF σ t own own' n := by
    refine ⟨⟨n1, ow'⟩, fun x hx hr => hI x hx (by omega) (by omega), fun x hx hr _ j => hR x hx (fun e => by rw [e] at hr; omega) j, ⟨fun j _ => rr 9 (by decide) (by decide) j, h26⟩, fun x g' hx hr => by rw [hI x hx (by omega) (by omega)]; exact ⟨rfl, rfl⟩, by rw [ri 10 (by decide) (by omega) (by omega)], fun j hj => h31 j (by omega), by rw [h31 38 (by decide)]; exact Int.le_refl _, fun b _ => by rw [ri 41 (by decide) (by omega) (by omega), ri 47 (by decide) (by omega) (by omega)]; exact ⟨rfl, rfl⟩, fun i _ => by rw [ri 46 (by decide) (by omega) (by omega)]⟩
  obtain ⟨sc', zz⟩ := SC_x h87 o1 xf sc
  have e2 := ri 2 (by decide) (by omega) (by omega)
  have z31 : ∀ j, j < 33 → sI t 31 j = sI σ 31 j := fun j hj => h31 j (by omega)
  obtain ⟨a1, a2, a3, a4, a5, a6, a7, a8, a9, a10⟩ := ib
  obtain ⟨m1, m2, m3, m4, m5, m6⟩ := im
  refine ⟨own', β, μ, κ, ρ, me, n, aH, nH, aL, nL, aY, nY, aS, nS, N, l, m, T, W, kd, aR', nR', aV', nV', aI, nI, aQ, nQ, g, w, ⟨fun j => by rw [rr 31 (by decide) (by decide)]; exact hF j, ?_, by rw [ri 0 (by decide) (by omega) (by omega)]; exact hxs⟩, ⟨?_, OW_f ow' h87 ⟨q1, q2, q3, q4⟩ ow, ?_, ?_, ?_, ?_, ll, lz, by omega, by omega⟩, ?_, ⟨?_, OB_f ow' a3 a2, fun b hb => by have := a3 b hb; omega, by rw [e2, z31 16 (by decide)]; exact a4, fun b hb => ?_, ?_, ?_, ?_, fun j hj => by rw [rr 9 (by decide) (by decide)]; exact a9 j hj, ?_⟩, ?_, ij', sc', fun j => by rw [ri 64 (by decide) (by omega) (by omega), ri 65 (by decide) (by omega) (by omega)]; exact rz j, ISs_x h87 o1 xf (Nat.le_refl _) is, by rw [zz]; exact ir', hc⟩
  · unfold AB at hab ⊢
    rw [ri 1 (by decide) (by omega) (by omega)]
    exact hab
  · unfold TR at tr ⊢
    rw [rr 3 (by decide) (by decide), rr 3 (by decide) (by decide), rr 3 (by decide) (by decide), rr 3 (by decide) (by decide)]
    refine ⟨fun a j r hr => ?_, tr.2⟩
    have mem := crefF_mem _ a j r hr
    obtain ⟨z1, z2, z3, z4, z5, z6, z7, z8, z9⟩ := cref_dec _ mem
    have z3' : a = 12 → j = 0 ∨ j = 1 ∨ j = 3 := z3
    have z4' : a = 13 → j < 2 := z4
    have z1' : a < 31 := z1
    have d3 : a < 14 ∨ 25 < a := cref_d3 _ mem
    have : sR t a j = sR σ a j := by
      by_cases e26 : a = 26
      · have z5' : a = 26 → j < 2 := z5
        rw [e26]; exact h26 j (z5' e26)
      · exact rr a (by omega) e26 j
    rw [this]
    exact tr.1 a j r hr
  · unfold TI CT at ti ⊢
    rw [z31 2 (by decide), z31 3 (by decide), z31 5 (by decide), ri 32 (by decide) (by omega) (by omega), ri 33 (by decide) (by omega) (by omega), ri 34 (by decide) (by omega) (by omega), ri 35 (by decide) (by omega) (by omega)]
    exact ti
  · unfold KTt at kt ⊢
    rw [ra aH q1 (by have := ow.2.1; omega), ra aL q2 (by have := ow.2.2.1; omega)]
    exact kt
  · unfold KS at ks ⊢
    rw [ra aY q3 (by have := ow.2.2.2.1; omega), ra aS q4 (by have := ow.2.2.2.2; omega), ri 36 (by decide) (by omega) (by omega), ri 37 (by decide) (by omega) (by omega), ri 38 (by decide) (by omega) (by omega)]
    exact ks
  · rw [ri 3 (by decide) (by omega) (by omega), ri 37 (by decide) (by omega) (by omega), z31 13 (by decide)]
    exact ⟨w1, w2, w3, w4, w5, w6, w7, w8⟩
  · intro x hx
    rw [ri 36 (by decide) (by omega) (by omega), z31 4 (by decide)]
    exact il x hx
  · unfold BS at a1 ⊢
    intro b hb
    obtain ⟨u1, u2, u3, u4, u5, u6, u7, u8⟩ := a1 b hb
    obtain ⟨y1, y2, y3⟩ := a2 b hb
    obtain ⟨x1, x2, x3⟩ := a3 b hb
    have y30 := y3 0 (by decide)
    have y32 := y3 2 (by decide)
    rw [Nat.add_zero] at y30
    exact ⟨by rw [rr 9 (by decide) (by decide)]; exact u1, by rw [rc _ x1 (by omega)]; exact u2, by rw [rc _ x1 (by omega)]; exact u3, by rw [rc _ x1 (by omega)]; exact u4, by rw [rc _ x1 (by omega)]; exact u5, by rw [rc _ (by omega) (by omega)]; exact u6, by rw [rc _ (by omega) (by omega)]; exact u7, fun i hi => by rw [rc _ x2 (by omega)]; exact u8 i hi⟩
  · exact BD_K (fun g' hg' => rb _ (a3 g' hg').1 (by have := (a2 g' hg').1; omega)) (fun k hk => rb _ (by have := a3 b hb; omega) (by have := (a2 b hb).2.2 k hk; omega)) hb (fun x x1 x2 => ri x (by omega) (by omega) (by omega)) (a5 b hb)
  · rw [ri 41 (by decide) (by omega) (by omega)]
    exact a6
  · rw [ri 44 (by decide) (by omega) (by omega)]
    exact a7
  · rw [ri 45 (by decide) (by omega) (by omega)]
    exact a8
  · rw [ri 42 (by decide) (by omega) (by omega)]
    exact a10
  · refine ⟨by rw [ri 10 (by decide) (by omega) (by omega), ri 11 (by decide) (by omega) (by omega), ri 48 (by decide) (by omega) (by omega), z31 25 (by decide)]; exact m1, by rw [ri 10 (by decide) (by omega) (by omega), z31 26 (by decide)]; exact m2, by rw [e2, z31 4 (by decide)]; exact m3, by rw [e2, h31 38 (by decide)]; exact m4, by rw [e2, z31 0 (by decide)]; exact m5, by rw [e2, z31 1 (by decide)]; omega⟩
