/-! cells more that nobody sees -/
theorem INV_grow {xs : Nat → Int} {σ t : am_S} {c : Nat} {own β μ κ ρ : Nat → Nat} {me : Nat → Nat → Nat} {n aH nH aL nL aY nY aS nS N l m T W : Nat} {kd : Int} {aR nR aV nV aI nI aQ nQ g w : Nat} (h : INVx xs σ c own β μ κ ρ me n aH nH aL nL aY nY aS nS N l m T W kd aR nR aV nV aI nI aQ nQ g w) (n1 : sN σ ≤ sN t) (hI : ∀ x, x < sN σ → sI t x = sI σ x) (hR : ∀ x, x < sN σ → ∀ j, sR t x j = sR σ x j) (ir' : IR t c (zl σ + nI + nH + nL + nY + nS + nR + nV)) : INVx xs t c own β μ κ ρ me n aH nH aL nL aY nY aS nS N l m T W kd aR nR aV nV aI nI aQ nQ g w := by
  obtain ⟨⟨hF, hab, hxs⟩, it, il, ib, im, ij, sc, rz, is, ir, hc6⟩ := h
  obtain ⟨tr, ow, ti, kt, ks, ⟨w1, w2, w3, w4, w5, w6, w7, w8⟩, ll, lz, ⟨q1, q2, q3, q4⟩, h87⟩ := it
  have o1 := ow.1
  have ri : ∀ x, x < 87 → sI t x = sI σ x := fun x hx => hI x (by omega)
  have rr : ∀ x, x < 87 → ∀ j, sR t x j = sR σ x j := fun x hx j => hR x (by omega) j
  have xf : XF σ t own own n := by
    refine ⟨⟨n1, fun _ _ => rfl⟩, fun x hx _ => hI x hx, fun x hx _ _ j => hR x hx j, ⟨fun j _ => rr 9 (by decide) j, fun j _ => rr 26 (by decide) j⟩, fun x g' hx _ => by rw [hI x hx]; exact ⟨rfl, rfl⟩, by rw [ri 10 (by decide)], fun j _ => by rw [ri 31 (by decide)], by rw [ri 31 (by decide)]; exact Int.le_refl _, fun b _ => by rw [ri 41 (by decide), ri 47 (by decide)]; exact ⟨rfl, rfl⟩, fun i _ => by rw [ri 46 (by decide)]⟩
  obtain ⟨sc', zz⟩ := SC_x h87 o1 xf sc
  obtain ⟨a1, a2, a3, a4, a5, a6, a7, a8, a9, a10⟩ := ib
  obtain ⟨j1, j2, j3, j4, j5, j6, j7, j8, j9, j10, j11, j12, j13, j14, j15⟩ := ij
  have iβ : ∀ b, b < n → sI t (β b) = sI σ (β b) := fun b hb => hI _ (a3 b hb).1
  refine ⟨⟨fun j => by rw [rr 31 (by decide)]; exact hF j, ?_, by rw [ri 0 (by decide)]; exact hxs⟩, ⟨?_, ow, ?_, ?_, ?_, ?_, ll, lz, by omega, by omega⟩, ?_, ⟨?_, a2, fun b hb => by have := a3 b hb; omega, by rw [ri 2 (by decide), ri 31 (by decide)]; exact a4, fun b hb => ?_, ?_, ?_, ?_, fun j hj => by rw [rr 9 (by decide)]; exact a9 j hj, ?_⟩, ?_, ?_, sc', fun j => by rw [ri 64 (by decide), ri 65 (by decide)]; exact rz j, ISs_x h87 o1 xf (Nat.le_refl _) is, by rw [zz]; exact ir', hc6⟩
  · unfold AB at hab ⊢
    rw [ri 1 (by decide)]
    exact hab
  · unfold TR at tr ⊢
    rw [rr 3 (by decide), rr 3 (by decide), rr 3 (by decide), rr 3 (by decide)]
    refine ⟨fun a j r hr => ?_, tr.2⟩
    have mem := crefF_mem _ a j r hr
    obtain ⟨z1, z2, z3, z4, z5, z6, z7, z8, z9⟩ := cref_dec _ mem
    have z1' : a < 31 := z1
    rw [rr a (by omega)]
    exact tr.1 a j r hr
  · unfold TI CT at ti ⊢
    rw [ri 31 (by decide), ri 32 (by decide), ri 33 (by decide), ri 34 (by decide), ri 35 (by decide)]
    exact ti
  · unfold KTt at kt ⊢
    rw [hI aH q1, hI aL q2]
    exact kt
  · unfold KS at ks ⊢
    rw [hI aY q3, hI aS q4, ri 36 (by decide), ri 37 (by decide), ri 38 (by decide)]
    exact ks
  · rw [ri 3 (by decide), ri 37 (by decide), ri 31 (by decide)]
    exact ⟨w1, w2, w3, w4, w5, w6, w7, w8⟩
  · intro x hx
    rw [ri 36 (by decide), ri 31 (by decide)]
    exact il x hx
  · exact BS_fr a1 (fun b _ => rr 9 (by decide) b) (fun b hb j => by
      have := a3 b hb
      exact ⟨hR _ (by omega) j, hR _ (by omega) j, hR _ (by omega) j, hR _ (by omega) j⟩)
  · obtain ⟨z1, z2, z3, z4, z5, z6, z7, z8, z9⟩ := a5 b hb
    have zb := a3 b hb
    have e0 : sI t (ρ b) = sI σ (ρ b) := hI _ (by omega)
    unfold BD PV
    unfold PV at z6
    rw [iβ b hb, e0, hI (ρ b + 1) (by omega), hI (ρ b + 2) (by omega), hI (ρ b + 3) (by omega), ri 41 (by decide), ri 42 (by decide), ri 43 (by decide), ri 44 (by decide), ri 45 (by decide), ri 46 (by decide), ri 47 (by decide)]
    refine ⟨z1, z2, z3, z4, z5, z6, z7, z8, fun h6 => ?_⟩
    obtain ⟨g1, g2, g3, g4, g5⟩ := z9 h6
    refine ⟨g1, g2, g3, fun i hi => ?_, ?_⟩
    · obtain ⟨d1, d2, d3⟩ := g4 i hi
      exact ⟨d1, d2, by rw [iβ _ d1]; exact d3⟩
    · have : mxQ t β (me b) (κ b) = mxQ σ β (me b) (κ b) := oqA_cg (κ b) (fun i hi => by
        show mo (sI t (β (me b i)) 0) = mo (sI σ (β (me b i)) 0)
        rw [iβ _ (g4 i hi).1])
      rw [this]
      exact g5
  · rw [ri 41 (by decide)]
    exact a6
  · rw [ri 44 (by decide)]
    exact a7
  · rw [ri 45 (by decide)]
    exact a8
  · rw [ri 42 (by decide)]
    exact a10
  · unfold IM at im ⊢
    rw [ri 10 (by decide), ri 11 (by decide), ri 48 (by decide), ri 31 (by decide), ri 2 (by decide)]
    exact im
  · unfold IJ
    rw [rr 26 (by decide), rr 26 (by decide), hI aV j6, ri 85 (by decide), ri 27 (by decide), ri 28 (by decide), ri 83 (by decide), ri 84 (by decide), ri 26 (by decide), ri 31 (by decide)]
    exact ⟨j1, j2, j3, j4, by omega, by omega, j7, j8, j9, j10, j11, j12, j13, j14, j15⟩
theorem INV_z {xs ys : Nat → Int} {σ τ : am_S} {c c2 : Nat} {own β μ κ ρ : Nat → Nat} {me : Nat → Nat → Nat} {n aH nH aL nL aY nY aS nS N l m T W : Nat} {kd : Int} {aR nR aV nV aI nI aQ nQ g w : Nat} {own2 β2 μ2 κ2 ρ2 : Nat → Nat} {me2 : Nat → Nat → Nat} {n2 aH2 nH2 aL2 nL2 aY2 nY2 aS2 nS2 N2 l2 m2 T2 W2 : Nat} {kd2 : Int} {aR2 nR2 aV2 nV2 aI2 nI2 aQ2 nQ2 g2 w2 : Nat} (h : INVx xs σ c own β μ κ ρ me n aH nH aL nL aY nY aS nS N l m T W kd aR nR aV nV aI nI aQ nQ g w) (h' : INVx ys τ c2 own2 β2 μ2 κ2 ρ2 me2 n2 aH2 nH2 aL2 nL2 aY2 nY2 aS2 nS2 N2 l2 m2 T2 W2 kd2 aR2 nR2 aV2 nV2 aI2 nI2 aQ2 nQ2 g2 w2) (e : τ.2 = σ.2) : zl τ + nI2 + nH2 + nL2 + nY2 + nS2 + nR2 + nV2 = zl σ + nI + nH + nL + nY + nS + nR + nV := by
  obtain ⟨-, ⟨⟨-, t1, t2, t3, t4⟩, -⟩, -, -, -, ⟨t5, t6, -⟩, ⟨⟨t7, -⟩, -⟩, -⟩ := h
  obtain ⟨-, ⟨⟨-, u1, u2, u3, u4⟩, -⟩, -, -, -, ⟨u5, u6, -⟩, ⟨⟨u7, -⟩, -⟩, -⟩ := h'
  obtain ⟨r1, -, -⟩ := R2 e
  rw [r1] at u1 u2 u3 u4 u5 u6 u7
  have zz : zl τ = zl σ := by
    unfold zl
    rw [r1, r1, r1, r1, r1]
  have i1 : nH2 = nH := by
    rw [t1] at u1
    injection u1 with e1
    injection e1 with _ e2
    injection e2 with _ e3
    exact e3.symm
  have i2 : nL2 = nL := by
    rw [t2] at u2
    injection u2 with e1
    injection e1 with _ e2
    injection e2 with _ e3
    exact e3.symm
  have i3 : nY2 = nY := by
    rw [t3] at u3
    injection u3 with e1
    injection e1 with _ e2
    injection e2 with _ e3
    exact e3.symm
  have i4 : nS2 = nS := by
    rw [t4] at u4
    injection u4 with e1
    injection e1 with _ e2
    injection e2 with _ e3
    exact e3.symm
  have i5 : nR2 = nR := by
    rw [t5] at u5
    injection u5 with e1
    injection e1 with _ e2
    injection e2 with _ e3
    exact e3.symm
  have i6 : nV2 = nV := by
    rw [t6] at u6
    injection u6 with e1
    injection e1 with _ e2
    injection e2 with _ e3
    exact e3.symm
  have i7 : nI2 = nI := by
    rw [t7] at u7
    injection u7 with e1
    injection e1 with _ e2
    injection e2 with _ e3
    exact e3.symm
  omega
/-- a finding in both, with cells more that nobody sees -/
theorem INV_fdg {xs : Nat → Int} {σ s : am_S} {c b : Nat} {f : Int} {own β μ κ ρ : Nat → Nat} {me : Nat → Nat → Nat} {n aH nH aL nL aY nY aS nS N l m T W : Nat} {kd : Int} {aR nR aV nV aI nI aQ nQ g w : Nat} (h : INVx xs σ c own β μ κ ρ me n aH nH aL nL aY nY aS nS N l m T W kd aR nR aV nV aI nI aQ nQ g w) (hc : c + 1 ≤ 600) (hb : b < n) (hf : 0 ≤ f ∧ f ≤ 6) (n1 : sN s = sN σ + 1) (n2 : sU s ≤ sU σ + 100) (hI : ∀ x, x < sN σ → sI s x = sI σ x) (hR : ∀ x, x < sN σ → ∀ j, sR s x j = sR σ x j) : INV xs (mFinds (fdC s β b f) b f) (c + 1) := by
  have h0 := INV_fd h hc hb hf
  obtain ⟨own2, β2, μ2, κ2, ρ2, me2, n2', aH2, nH2, aL2, nL2, aY2, nY2, aS2, nS2, N2, l2, m2, T2, W2, kd2, aR2, nR2, aV2, nV2, aI2, nI2, aQ2, nQ2, g2, w2, hx⟩ := h0
  have e2 : (mFinds (fdC σ β b f) b f).2 = σ.2 := fdC_2
  have e3 : (mFinds (fdC s β b f) b f).2 = s.2 := fdC_2
  have ez := INV_z h hx e2
  obtain ⟨a1, a2, a3⟩ := R2 e2
  obtain ⟨b1, b2, b3⟩ := R2 e3
  have ob := (h.2.2.2.1.2.1 b hb).1
  have o1 := h.2.1.2.1.1
  have h87 : 87 ≤ sN σ := h.2.1.2.2.2.2.2.2.2.2.2
  have hbl := (h.2.2.2.1.2.2.1 b hb).1
  have nlo : ∀ x, x < 87 → x ≠ β b := fun x hx' e => by rw [← e, o1 x hx'] at ob; omega
  have nb2 := (nlo 2 (by decide)).symm
  have hir : IR σ c (zl σ + nI + nH + nL + nY + nS + nR + nV) := h.2.2.2.2.2.2.2.2.2.1
  refine ⟨_, _, _, _, _, _, _, _, _, _, _, _, _, _, _, _, _, _, _, _, _, _, _, _, _, _, _, _, _, _, _, INV_grow hx (by omega) (fun x hx' => ?_) (fun x hx' j => by rw [b1, a1]; exact hR x (by omega) j) ?_⟩
  · have hx'' : x < sN σ := by omega
    have key : ∀ y, y < sN σ → sI (fdC s β b f) y = sI (fdC σ β b f) y := fun y hy => by
      by_cases y2 : y = 2
      · rw [y2]
        funext j
        rw [fdC_s nb2, fdC_s nb2, hI 2 (by omega)]
      · by_cases yb : y = β b
        · rw [yb]
          funext j
          rw [fdC_b nb2, fdC_b nb2, hI _ hbl]
        · rw [fdC_o y2 yb, fdC_o y2 yb]
          exact hI y hy
    by_cases y31 : x = 31
    · rw [y31]
      funext j
      rw [mF_31, mF_31, key 31 (by omega)]
    · by_cases y43 : x = 43
      · rw [y43]
        funext j
        rw [mF_43, mF_43, key 43 (by omega), key 41 (by omega)]
      · rw [mF_o y31 y43, mF_o y31 y43]
        exact key x hx''
  · rw [ez]
    unfold IR at hir ⊢
    rw [b2, b3]
    omega
/-- a balance more, by its parts -/
theorem INV_nb {xs : Nat → Int} {σ s1 s t : am_S} {c : Nat} {own β μ κ ρ : Nat → Nat} {me : Nat → Nat → Nat} {n aH nH aL nL aY nY aS nS N l m T W : Nat} {kd : Int} {aR nR aV nV aI nI aQ nQ g w : Nat} (h : INVx xs σ c own β μ κ ρ me n aH nH aL nL aY nY aS nS N l m T W kd aR nR aV nV aI nI aQ nQ g w) (hc : c + 1 ≤ 600) (hn : n < 12) {a u k : Nat} {q : Nat → Nat} {p : Int}
    (na : sN σ ≤ a ∧ a < sN σ + 2 ∧ sN σ ≤ u ∧ u < sN σ + 2 ∧ a ≠ u) (nN : sN s1 = sN σ + 2) (nU : sU s1 ≤ sU σ + 12) (f1 : ∀ x, x < sN σ → sI s1 x = sI σ x ∧ ∀ j, sR s1 x j = sR σ x j) (fa : ∀ j, sI s1 a j = 0) (fu : ∀ i, i < k → sR s1 u i = some (β (q i), 0, 9)) (bip : BIP s1 s a u k p (if p = 6 then mxQ σ β q k else mo p))
    (t2 : t.2 = (putR s 9 n (some (a, 0, 9))).2) (tI : ∀ x, x ≠ 2 → x ≠ 31 → (x < 41 ∨ 47 < x ∨ x = 45) → sI t x = sI s x) (h2 : ∀ j, sI t 2 j = if j = 5 then (n : Int) + 1 else sI s 2 j) (h31 : ∀ j, sI t 31 j = if j = 16 then (n : Int) + 1 else sI s 31 j)
    (h41 : ∀ j, sI t 41 j = if j = n then p else sI s 41 j) (h42 : ∀ j, sI t 42 j = if j = n then 0 else sI s 42 j) (h43 : ∀ j, sI t 43 j = if j = n then 0 else sI s 43 j) (h44 : ∀ j, sI t 44 j = if j = 2 * n ∨ j = 2 * n + 1 then -1 else sI s 44 j) (h46 : ∀ i, i < 3 * n → sI t 46 i = sI s 46 i) (h47 : ∀ i, i < n → sI t 47 i = sI s 47 i)
    (hp : 0 ≤ p ∧ p ≤ 6) (hk0 : p ≠ 6 → k = 0) (hk6 : p = 6 → 2 ≤ k ∧ k ≤ 3 ∧ sI t 47 n = k ∧ ∀ i, i < k → q i < n ∧ sI t 46 (3 * n + i) = q i ∧ sI σ (β (q i)) 0 ≠ 6) : INV xs t (c + 1) := by
  have h87 : 87 ≤ sN σ := h.2.1.2.2.2.2.2.2.2.2.2
  obtain ⟨b1, b2, b3, b4, b5, b6, b7, b8, b9, b10, b11, b12, b13, b14, b15⟩ := bip
  rw [nN] at b3 b4 b5 b6 b10 b11 b12 b13 b14
  obtain ⟨r1, r2, r3⟩ := R2 t2
  have tR : ∀ x, x ≠ 9 → ∀ j, sR t x j = sR s x j := fun x hx j => by
    rw [r1, sR_putR, if_neg (fun e => hx e.1)]
  have lo : ∀ x, x < sN σ → sI s x = sI σ x := fun x hx => by
    rw [(b13 x (by omega) (by omega)).1]
    exact (f1 x hx).1
  have loR : ∀ x, x < sN σ → ∀ j, sR s x j = sR σ x j := fun x hx j => by
    rw [(b13 x (by omega) (by omega)).2 j]
    exact (f1 x hx).2 j
  have hiI : ∀ x, sN σ ≤ x → sI t x = sI s x := fun x hx => tI x (by omega) (by omega) (by omega)
  have e4 : sN σ + 2 + 2 = sN σ + 4 := rfl
  have e3 : sN σ + 2 + 1 = sN σ + 3 := rfl
  have e5 : sN σ + 2 + 3 = sN σ + 5 := rfl
  rw [e4] at b4 b6 b11
  rw [e3] at b5
  rw [e5] at b6
  rw [e3, e5] at b12
  refine INV_new h hc hn (a := a) (u := u) (k := k) (q := q) (p := p) na (by rw [r2]; show sN s = _; omega) (by rw [r3]; show sU s ≤ _; omega) (fun x hx y2 y31 y4 => by rw [tI x y2 y31 y4]; exact lo x hx) (fun j hj => by rw [h2, if_neg hj, lo 2 (by omega)]) (by rw [h2, if_pos rfl]) (fun j hj => by rw [h31, if_neg hj, lo 31 (by omega)]) (by rw [h31, if_pos rfl])
    (fun j => by rw [h41, lo 41 (by omega)]) (fun j => by rw [h42, lo 42 (by omega)]) (fun j => by rw [h43, lo 43 (by omega)]) (fun j => by rw [h44, lo 44 (by omega)]) (fun i hi => by rw [h46 i hi, lo 46 (by omega)]) (fun i hi => by rw [h47 i hi, lo 47 (by omega)]) (fun x hx y9 j => by rw [tR x y9]; exact loR x hx j) (fun j => ?_)
    (by rw [tR a (by omega)]; exact b1) (by rw [tR a (by omega)]; exact b2) (by rw [tR a (by omega)]; exact b3) (by rw [tR a (by omega)]; exact b4) (by rw [tR _ (by omega)]; exact b5) (by rw [tR _ (by omega)]; exact b6) (fun i hi => ?_) (by rw [hiI a na.1]; exact b7) (by rw [hiI a na.1]; exact b8) (by rw [hiI a na.1, b9 6 (by decide) (by decide), b9 7 (by decide) (by decide), b9 8 (by decide) (by decide)]; exact ⟨fa 6, fa 7, fa 8⟩) (by rw [hiI _ (by omega), hiI _ (by omega)]; exact ⟨b10, b11⟩) (fun j => by rw [hiI _ (by omega), hiI _ (by omega)]; exact b12 j) hp hk0 hk6
  · rw [r1, sR_putR]
    by_cases e : j = n
    · rw [if_pos e, if_pos ⟨rfl, e⟩]
    · rw [if_neg e, if_neg (fun y => e y.2)]
      exact loR 9 (by omega) j
  · rw [tR u (by omega), (b13 u (by omega) (by omega)).2]
    exact fu i hi
