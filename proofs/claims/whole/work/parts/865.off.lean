/-! no search any more: take, lies -/
def INVp (xs : Nat → Int) (σ : am_S) (c : Nat) (own β μ κ ρ : Nat → Nat) (me : Nat → Nat → Nat) (n aH nH aL nL aY nY aS nS N l m T W : Nat) (kd : Int) (aR nR aV nV aI nI aQ nQ g w : Nat) : Prop := (MF σ ∧ AB σ ∧ sI σ 0 = xs) ∧ IT σ own aH nH aL nL aY nY aS nS N l m T W kd ∧ IL σ T ∧ IB σ own β μ κ ρ me n c ∧ IM σ c ∧ IJ σ own aR nR aV nV ∧ SCb σ own aI nI aQ nQ g w ∧ RZ σ ∧ IR σ c (zl σ + nI + nH + nL + nY + nS + nR + nV) ∧ c ≤ 600
theorem pR_I {s : am_S} {a j b k : Nat} {v : Option am_R} {x : Int} : putI (putR s a j v) b k x = putR (putI s b k x) a j v := rfl
theorem INV_off {xs : Nat → Int} {σ : am_S} {c : Nat} {own β μ κ ρ : Nat → Nat} {me : Nat → Nat → Nat} {n aH nH aL nL aY nY aS nS N l m T W : Nat} {kd : Int} {aR nR aV nV aI nI aQ nQ g w : Nat} (h : INVp xs σ c own β μ κ ρ me n aH nH aL nL aY nY aS nS N l m T W kd aR nR aV nV aI nI aQ nQ g w) (off : sI σ 12 13 = 0 ∧ sI σ 31 33 = 0 ∧ sI σ 31 34 = 0 ∧ sI σ 31 35 = -1000 ∧ sI σ 31 37 = 0 ∧ sI σ 31 73 = 0 ∧ sI σ 31 76 = 0 ∧ sI σ 31 77 = 0 ∧ sI σ 31 78 = 0) : INV xs (putR σ 12 6 none) c := by
  obtain ⟨⟨hF, hab, hxs⟩, it, il, ib, im, ij, sc, rz, ir, hc⟩ := h
  obtain ⟨hR, ow, it'⟩ := it
  have o1 := ow.1
  obtain ⟨⟨i1, i2⟩, ⟨q1, q2, q3⟩, gw, r4, r5, rv1, rv2, tv⟩ := sc
  obtain ⟨a1, a2, a3⟩ := ib
  have rr : ∀ x j, ¬ (x = 12 ∧ j = 6) → sR (putR σ 12 6 none) x j = sR σ x j := fun x j q => by rw [sR_putR, if_neg q]
  have rx : ∀ x, x ≠ 12 → ∀ j, sR (putR σ 12 6 none) x j = sR σ x j := fun x q j => rr x j (fun p => q p.1)
  have zz : zl (putR σ 12 6 none) = zl σ := by
    unfold zl
    rw [rx 18 (by decide), rx 20 (by decide), rx 20 (by decide), rx 23 (by decide), rx 23 (by decide)]
  refine ⟨own, β, μ, κ, ρ, me, n, aH, nH, aL, nL, aY, nY, aS, nS, N, l, m, T, W, kd, aR, nR, aV, nV, aI, nI, aQ, nQ, g, w, ⟨fun j => by rw [rx 31 (by decide)]; exact hF j, hab, hxs⟩, ⟨?_, ow, it'⟩, il, ⟨?_, a2, a3.1, a3.2.1, a3.2.2.1, a3.2.2.2.1, a3.2.2.2.2.1, a3.2.2.2.2.2.1, fun j hj => by rw [rx 9 (by decide)]; exact a3.2.2.2.2.2.2.1 j hj, a3.2.2.2.2.2.2.2⟩, im, ⟨by rw [rx 26 (by decide)]; exact ij.1, by rw [rx 26 (by decide)]; exact ij.2.1, ij.2.2⟩, ?_, rz, Or.inl ⟨by rw [sR_putR, if_pos ⟨rfl, rfl⟩], off.1, off.2.1, off.2.2.1, Or.inl off.2.2.2.1, off.2.2.2.2⟩, by rw [zz]; exact ir, hc⟩
  · unfold TR at hR ⊢
    rw [rx 3 (by decide), rx 3 (by decide), rx 3 (by decide), rx 3 (by decide)]
    exact ⟨CF_fr hR.1 (fun a j _ _ q _ _ _ _ _ _ => rr a j (fun p => by have := q p.1; omega)), hR.2⟩
  · unfold BS at a1 ⊢
    intro b hb
    obtain ⟨z1, z2, z3, z4, z5, z6, z7, z8⟩ := a1 b hb
    obtain ⟨y1, y2, y3⟩ := a2 b hb
    have n1 : β b ≠ 12 := fun e => by rw [e, o1 12 (by decide)] at y1; omega
    have n2 : μ b ≠ 12 := fun e => by rw [e, o1 12 (by decide)] at y2; omega
    have n3 : ρ b ≠ 12 := fun e => by have := y3 0 (by decide); rw [Nat.add_zero, e, o1 12 (by decide)] at this; omega
    have n4 : ρ b + 2 ≠ 12 := fun e => by have := y3 2 (by decide); rw [e, o1 12 (by decide)] at this; omega
    exact ⟨by rw [rx 9 (by decide)]; exact z1, by rw [rx _ n1]; exact z2, by rw [rx _ n1]; exact z3, by rw [rx _ n1]; exact z4, by rw [rx _ n1]; exact z5, by rw [rx _ n3]; exact z6, by rw [rx _ n4]; exact z7, fun i hi => by rw [rx _ n2]; exact z8 i hi⟩
  · refine ⟨⟨by rw [rx 13 (by decide)]; exact i1, i2⟩, ⟨by rw [rr 12 2 (by decide)]; exact q1, q2, fun e7 => ?_⟩, gw, by rw [rr 12 4 (by decide)]; exact r4, by rw [rr 12 5 (by decide)]; exact r5, ?_, ?_, ?_⟩
    · obtain ⟨⟨z1, z2⟩, z3, z4, z5, z6⟩ := q3 e7
      have nq : ∀ i, i < 7 → ∀ k, k < 9 → qA aQ i + k ≠ 12 := fun i hi' k hk e => by
        have := z6 i hi' k hk
        rw [e, o1 12 (by decide)] at this
        omega
      refine ⟨⟨by rw [rr 12 2 (by decide)]; exact z1, fun i hi' => ?_⟩, z3, z4, z5, z6⟩
      obtain ⟨w1, w2, w3⟩ := z2 i hi'
      have y0 : ∀ j, sR (putR σ 12 6 none) (qA aQ i) j = sR σ (qA aQ i) j := rx _ (nq i hi' 0 (by decide))
      have y3 := rx _ (nq i hi' 3 (by decide))
      refine ⟨by rw [rx aQ (fun e => by rw [e, o1 12 (by decide)] at z3; omega)]; exact w1, ?_, ?_⟩
      · unfold QF at w2 ⊢
        rw [y0, y0, y0]
        exact w2
      · unfold WF at w3 ⊢
        rw [y3, y3, y3, y3, y3]
        exact w3
    · unfold RV at rv1 ⊢
      rw [rx g (by omega), rx g (by omega)]
      exact rv1
    · unfold RV at rv2 ⊢
      rw [rx w (by omega), rx w (by omega)]
      exact rv2
    · unfold TV at tv ⊢
      rw [rx 18 (by decide)]
      exact tv
theorem IT_g {σ t : am_S} {own : Nat → Nat} {aH nH aL nL aY nY aS nS N l m T W : Nat} {kd : Int} (h1 : t.2 = σ.2) (h2 : ∀ x, x < sN σ → ((3 ≤ own x ∧ own x ≤ 7) ∨ (32 ≤ own x ∧ own x ≤ 38)) → sI t x = sI σ x) (h5 : ∀ j, (j = 2 ∨ j = 3 ∨ j = 5 ∨ j = 13) → sI t 31 j = sI σ 31 j) (h : IT σ own aH nH aL nL aY nY aS nS N l m T W kd) : IT t own aH nH aL nL aY nY aS nS N l m T W kd := by
  obtain ⟨r1, r2, r3⟩ := R2 h1
  obtain ⟨hR, ow, ti, kt, ks, w, l', z, ⟨p1, p2, p3, p4⟩, h87⟩ := h
  have ow' := ow
  obtain ⟨o1, o2, o3, o4, o5⟩ := ow
  have ri : ∀ x, x < 87 → (x = 3 ∨ (32 ≤ x ∧ x ≤ 38)) → sI t x = sI σ x := fun x hx hr => h2 x (by omega) (by rw [o1 x hx]; omega)
  have eH := h2 aH p1 (by omega)
  have eL := h2 aL p2 (by omega)
  have eY := h2 aY p3 (by omega)
  have eS := h2 aS p4 (by omega)
  refine ⟨TR_2 h1 hR, ow', ?_, ?_, ?_, ?_, l', z, by omega, by omega⟩
  · unfold TI CT at ti ⊢
    rw [h5 2 (by omega), h5 3 (by omega), h5 5 (by omega), ri 32 (by decide) (by omega), ri 33 (by decide) (by omega), ri 34 (by decide) (by omega), ri 35 (by decide) (by omega)]
    exact ti
  · unfold KTt at kt ⊢
    rw [eH, eL]
    exact kt
  · unfold KS at ks ⊢
    rw [eY, eS, ri 36 (by decide) (by omega), ri 37 (by decide) (by omega), ri 38 (by decide) (by omega)]
    exact ks
  · rw [ri 3 (by decide) (by omega), h5 13 (by omega), ri 37 (by decide) (by omega)]
    exact w
theorem SC_2 {σ t : am_S} {own : Nat → Nat} {aI nI aQ nQ g w : Nat} (h2 : t.2 = σ.2) (h : SCb σ own aI nI aQ nQ g w) : SCb t own aI nI aQ nQ g w ∧ zl t = zl σ := by
  obtain ⟨a, b⟩ := t
  have : b = σ.2 := h2
  subst this
  exact ⟨h, rfl⟩
/-- the store with ints of its own -/
theorem INVp_g {xs : Nat → Int} {σ t : am_S} {c : Nat} {own β μ κ ρ : Nat → Nat} {me : Nat → Nat → Nat} {n aH nH aL nL aY nY aS nS N l m T W : Nat} {kd : Int} {aR nR aV nV aI nI aQ nQ g w : Nat} (h : INVx xs σ c own β μ κ ρ me n aH nH aL nL aY nY aS nS N l m T W kd aR nR aV nV aI nI aQ nQ g w) (hc : c + 1 ≤ 600) (h2 : t.2 = σ.2) (e0 : sI t 0 = sI σ 0) (e1 : sI t 1 = sI σ 1) (e64 : sI t 64 = sI σ 64) (e65 : sI t 65 = sI σ 65) {N' l' m' T' W' : Nat} {kd' : Int} (it : IT t own aH nH aL nL aY nY aS nS N' l' m' T' W' kd') (il : IL t T') (ib : IB t own β μ κ ρ me n (c + 1)) (im : IM t (c + 1)) (ij : IJ t own aR nR aV nV) : INVp xs t (c + 1) own β μ κ ρ me n aH nH aL nL aY nY aS nS N' l' m' T' W' kd' aR nR aV nV aI nI aQ nQ g w := by
  obtain ⟨⟨hF, hab, hxs⟩, _, _, _, _, _, sc, rz, is, ir, _⟩ := h
  obtain ⟨r1, r2, r3⟩ := R2 h2
  obtain ⟨sc', zz⟩ := SC_2 h2 sc
  refine ⟨⟨MF_I hF h2, ?_, by rw [e0]; exact hxs⟩, it, il, ib, im, ij, sc', fun j => by rw [e64, e65]; exact rz j, ?_, hc⟩
  · unfold AB at hab ⊢
    rw [e1]
    exact hab
  · unfold IR at ir ⊢
    rw [zz, r2, r3]
    omega
theorem v_C_take_0 (d : Nat) (β μ κ ρ : Nat → Nat) (me : Nat → Nat → Nat) (aH nH aL nL aY nY aS nS n : Nat) (p1 : Int) (σ : am_S) (K : Int → am_S → Prop) (hR : TR σ aH nH aL nL aY nY aS nS) (hB : BS σ β μ κ ρ me n) (h :
  ((p1 < 0 →
    K (-1001) σ) ∧
  (¬ (p1 < 0) →
    (((sI σ 2 5) ≤ p1 →
      K (-1001) σ) ∧
    (¬ ((sI σ 2 5) ≤ p1) →
      (0 ≤ p1 ∧ p1 < 12 ∧ (Int.toNat p1) < n) ∧
      (((sI σ (β (Int.toNat p1)) 6) = 0 →
        K (sI (putI (putR (putI σ (β (Int.toNat p1)) 6 1) 12 6 none) 12 13 0) (β (Int.toNat p1)) 0) (putI (putR (putI σ (β (Int.toNat p1)) 6 1) 12 6 none) 12 13 0)) ∧
      (¬ ((sI σ (β (Int.toNat p1)) 6) = 0) →
        am_Calls PP MLL (d + 1) m_C_found [qr (2, 11, 10), qi p1, qi 1] σ (kI fun x4 s4 =>
          (TR s4 aH nH aL nL aY nY aS nS ∧ BS s4 β μ κ ρ me n) ∧
          K x4 s4)))))))) : am_Runs PP MLL (d + 1) m_C_take 0 [some (qr (2, 11, 10)), some (qi p1)] [] σ (kI K) := am_wEF_ok (orc [(7, 9, 22, 12), (9, β (Int.toNat p1), 0, 9), (18, 9, 22, 12), (20, β (Int.toNat p1), 0, 9), (24, 12, 5, 18), (27, 9, 22, 12), (29, β (Int.toNat p1), 0, 9)]) 200 (⟨rfl, am_wEF_ok (orc []) 200 (⟨fun c1 => ⟨(Or.inl rfl), ⟨fun _ => (h.1 c1), fun c => absurd (by decide : (0 : Int) = 0) c⟩⟩, fun c1 => ⟨rfl, ⟨fun c2 => ⟨(Or.inl rfl), ⟨fun _ => ((h.2 c1).1 c2), fun c => absurd (by decide : (0 : Int) = 0) c⟩⟩, fun c2 => ⟨(Or.inr rfl), ⟨fun c => absurd c (by decide : ¬ ((1 : Int) = 0)), fun _ => ⟨⟨rfl, (hR.1 2 1 _ rfl)⟩, ⟨⟨rfl, ((h.2 c1).2 c2).1.1, ((h.2 c1).2 c2).1.2.1, (hB (Int.toNat p1) ((h.2 c1).2 c2).1.2.2).1⟩, ⟨rfl, ⟨fun c3 => ⟨⟨rfl, (hR.1 2 1 _ rfl)⟩, ⟨⟨rfl, ((h.2 c1).2 c2).1.1, ((h.2 c1).2 c2).1.2.1, (hB (Int.toNat p1) ((h.2 c1).2 c2).1.2.2).1⟩, ⟨⟨rfl, (Or.inr rfl)⟩, ⟨⟨rfl, (hR.1 2 3 _ rfl)⟩, ⟨rfl, am_wEF_ok (orc []) 200 (⟨rfl, ⟨⟨rfl, (Or.inl rfl)⟩, ⟨⟨rfl, (hR.1 2 1 _ rfl)⟩, ⟨⟨rfl, ((h.2 c1).2 c2).1.1, ((h.2 c1).2 c2).1.2.1, (hB (Int.toNat p1) ((h.2 c1).2 c2).1.2.2).1⟩, ⟨rfl, (((h.2 c1).2 c2).2.1 c3)⟩⟩⟩⟩⟩)⟩⟩⟩⟩⟩, fun c3 => ⟨rfl, (am_cI (((h.2 c1).2 c2).2.2 c3) fun x4 s4 h4 => h4.2)⟩⟩⟩⟩⟩⟩⟩⟩⟩⟩)⟩)

theorem v_M_take_0 (d : Nat) (p1 : Int) (σ : am_S) (K : Int → am_S → Prop) (hF : MF σ) (hT : sI σ 31 26 = 0) (h :
  (-2147483648 ≤ (sI σ 31 16) - 1 ∧ (sI σ 31 16) - 1 < 2147483648) ∧
  ((p1 < 0 →
    K (-1001) σ) ∧
  (¬ (p1 < 0) →
    ((((sI σ 31 16) - 1) < p1 →
      K (-1001) σ) ∧
    (¬ (((sI σ 31 16) - 1) < p1) →
      (0 ≤ p1 ∧ p1 < 12) ∧
      ((0 ≤ (sI σ 41 (Int.toNat p1)) →
        K (sI σ 41 (Int.toNat p1)) (putI (putI (putI (putI (putI (putI (putI (putI (putI σ 41 (Int.toNat p1) (-1)) 31 33 0) 31 34 0) 31 35 (-1000)) 31 37 0) 31 73 0) 31 76 0) 31 77 0) 31 78 0)) ∧
      (¬ (0 ≤ (sI σ 41 (Int.toNat p1))) →
        am_Calls PP MLL (d + 2) m_M_finds [qr (31, 12, 89), qi p1, qi 1] σ (kI fun x4 s4 =>
          (MF s4 ∧ sI s4 31 26 = 0) ∧
          K x4 s4)))))))) : am_Runs PP MLL (d + 2) m_M_take 0 [some (qr (31, 12, 89)), some (qi p1), none] [] σ (kI K) := am_wEF_ok (orc [(16, 41, 20, 12), (21, 41, 20, 12)]) 200 (⟨rfl, am_wEF_ok (orc []) 200 (⟨rfl, ⟨⟨h.1.1, h.1.2⟩, am_wEF_ok (orc []) 200 (⟨fun c1 => ⟨(Or.inl rfl), ⟨(Or.inl rfl), ⟨fun _ => (h.2.1 c1), fun c => absurd (by decide : (0 : Int) = 0) c⟩⟩⟩, fun c1 => ⟨fun c2 => ⟨(Or.inl rfl), ⟨(Or.inl rfl), ⟨fun _ => ((h.2.2 c1).1 c2), fun c => absurd (by decide : (0 : Int) = 0) c⟩⟩⟩, fun c2 => ⟨(Or.inr rfl), ⟨(Or.inr rfl), ⟨fun c => absurd c (by decide : ¬ ((1 : Int) = 0)), fun _ => ⟨rfl, c_M_isThere _ hF ((h.2.2 c1).2 c2).1.1 ((h.2.2 c1).2 c2).1.2 (fun c3 => ⟨fun c => absurd c (by decide : ¬ ((1 : Int) = 0)), fun _ => ⟨⟨rfl, (hF 17)⟩, ⟨⟨rfl, ((h.2.2 c1).2 c2).1.1, ((h.2.2 c1).2 c2).1.2⟩, ⟨⟨rfl, (hF 17)⟩, ⟨⟨rfl, ((h.2.2 c1).2 c2).1.1, ((h.2.2 c1).2 c2).1.2⟩, ⟨rfl, am_wEF_ok (orc []) 200 (⟨⟨rfl, (Or.inl rfl)⟩, ⟨⟨rfl, (Or.inl rfl)⟩, ⟨rfl, ⟨rfl, ⟨rfl, ⟨rfl, ⟨⟨rfl, (Or.inl rfl)⟩, ⟨⟨rfl, (Or.inl rfl)⟩, (((h.2.2 c1).2 c2).2.1 c3)⟩⟩⟩⟩⟩⟩⟩⟩)⟩⟩⟩⟩⟩⟩) (fun c3 => ⟨fun _ => ⟨rfl, (am_cI (((h.2.2 c1).2 c2).2.2 c3) fun x4 s4 h4 => h4.2)⟩, fun c => absurd (by decide : (0 : Int) = 0) c⟩)⟩⟩⟩⟩⟩⟩)⟩⟩)⟩)

theorem v_C_lies_0 (d : Nat) (β μ κ ρ : Nat → Nat) (me : Nat → Nat → Nat) (aH nH aL nL aY nY aS nS n : Nat) (p1 : Int) (σ : am_S) (K : Int → am_S → Prop) (hR : TR σ aH nH aL nL aY nY aS nS) (hB : BS σ β μ κ ρ me n) (h :
  ((p1 < 0 →
    K (-1001) σ) ∧
  (¬ (p1 < 0) →
    ((p1 ≤ 3 →
      (((sI σ 3 3) ≤ 0 →
        K (sI σ 2 6) (putI (putR (putI σ 2 6 p1) 12 6 none) 12 13 0)) ∧
      (¬ ((sI σ 3 3) ≤ 0) →
        K (-1002) σ))) ∧
    (¬ (p1 ≤ 3) →
      K (-1001) σ))))) : am_Runs PP MLL (d + 1) m_C_lies 0 [some (qr (2, 11, 10)), some (qi p1), none] [] σ (kI K) := am_wEF_ok (orc [(8, 3, 9, 11), (20, 12, 5, 18)]) 200 (⟨fun c1 => (h.1 c1), fun c1 => ⟨fun c2 => ⟨⟨rfl, (hR.1 2 0 _ rfl)⟩, ⟨rfl, ⟨fun c3 => ⟨rfl, ⟨rfl, ⟨⟨rfl, (hR.1 2 3 _ rfl)⟩, ⟨rfl, am_wEF_ok (orc []) 200 (⟨rfl, ⟨⟨rfl, (Or.inl rfl)⟩, (((h.2 c1).1 c2).1 c3)⟩⟩)⟩⟩⟩⟩, fun c3 => (((h.2 c1).1 c2).2 c3)⟩⟩⟩, fun c2 => ((h.2 c1).2 c2)⟩⟩)

theorem v_M_lies_0 (d : Nat) (p1 : Int) (σ : am_S) (K : Int → am_S → Prop) (hF : MF σ) (hT : sI σ 31 26 = 0) (h :
  ((p1 < 0 →
    K (-1001) σ) ∧
  (¬ (p1 < 0) →
    ((3 < p1 →
      K (-1001) σ) ∧
    (¬ (3 < p1) →
      (((sI σ 31 13) ≤ 0 →
        K (sI σ 31 4) (putI (putI (putI (putI (putI (putI (putI (putI (putI σ 31 4 p1) 31 33 0) 31 34 0) 31 35 (-1000)) 31 37 0) 31 73 0) 31 76 0) 31 77 0) 31 78 0)) ∧
      (¬ ((sI σ 31 13) ≤ 0) →
        K (-1002) σ))))))) : am_Runs PP MLL (d + 1) m_M_lies 0 [some (qr (31, 12, 89)), some (qi p1), none] [] σ (kI K) := am_wEF_ok (orc []) 200 (am_wEF_ok (orc []) 200 (⟨fun c1 => ⟨(Or.inl rfl), ⟨fun _ => (h.1 c1), fun c => absurd (by decide : (0 : Int) = 0) c⟩⟩, fun c1 => ⟨fun c2 => ⟨(Or.inl rfl), ⟨fun _ => ((h.2 c1).1 c2), fun c => absurd (by decide : (0 : Int) = 0) c⟩⟩, fun c2 => ⟨(Or.inr rfl), ⟨fun c => absurd c (by decide : ¬ ((1 : Int) = 0)), fun _ => ⟨rfl, ⟨fun c3 => ⟨rfl, ⟨rfl, ⟨rfl, am_wEF_ok (orc []) 200 (⟨⟨rfl, (Or.inl rfl)⟩, ⟨⟨rfl, (Or.inl rfl)⟩, ⟨rfl, ⟨rfl, ⟨rfl, ⟨rfl, ⟨⟨rfl, (Or.inl rfl)⟩, ⟨⟨rfl, (Or.inl rfl)⟩, (((h.2 c1).2 c2).1 c3)⟩⟩⟩⟩⟩⟩⟩⟩)⟩⟩⟩, fun c3 => (((h.2 c1).2 c2).2 c3)⟩⟩⟩⟩⟩⟩))

theorem p_lies (d : Nat) {xs : Nat → Int} {c : Nat} {σ : am_S} {p1 : Int} (hI : INV xs σ c) (hc : c + 1 ≤ 600) : PR d xs m_C_lies m_M_lies [qi p1] σ c := by
  have hs := INV_s hI hc
  obtain ⟨own, β, μ, κ, ρ, me, n, aH, nH, aL, nL, aY, nY, aS, nS, N, l, m, T, W, kd, aR, nR, aV, nV, aI, nI, aQ, nQ, g, w, hx⟩ := hI
  have hx0 := hx
  obtain ⟨⟨hF, hab, hxs⟩, it, il, ib, im, ij, sc, rz, is, ir, hc6⟩ := hx
  have it0 := it
  obtain ⟨hR, ow, ti, kt, ks, ⟨w1, w2, w3, w4, w5, w6, w7, w8⟩, ⟨l1, l2, l3, l4⟩, lz, ⟨q1, q2, q3, q4⟩, h87⟩ := it
  have o1 := ow.1
  have ib0 := ib
  obtain ⟨a1, a2, a3, ⟨n12, a4, a5⟩, bd, a6, a7, a8, a9, a10⟩ := ib
  obtain ⟨m1, ⟨m2, T26⟩, m3, m4, m5, m6⟩ := im
  have tN := ti.2.2.2.2.1
  have tT := ti.2.2.2.2.2.2.1
  have T4 := ti.2.2.2.2.2.2.2.2.1
  have w5r : sI σ 31 13 = (W : Int) := w6
  have w5c : sI σ 3 3 = (W : Int) := w5
  have bad : ∀ x : Int, ((p1 < 0 ∨ 3 < p1) → x = -1001) → (0 ≤ p1 → p1 ≤ 3 → 0 < (W : Int) ∧ x = -1002) → am_Calls PP MLL (d + 30) m_M_lies [qr (31, 12, 89), qi p1] σ (kI fun y t => x = y ∧ INV xs t (c + 1)) := by
    intro x h1 h2
    refine v_M_lies_0 (d + 28) p1 σ _ hF T26 ?_
    rw [w5r]
    exact ⟨fun c1 => ⟨h1 (by omega), hs⟩, fun c1 => ⟨fun c2 => ⟨h1 (by omega), hs⟩, fun c2 => ⟨fun c3 => by have := h2 (by omega) (by omega); omega, fun c3 => ⟨(h2 (by omega) (by omega)).2, hs⟩⟩⟩⟩
  refine v_C_lies_0 (d + 28) β μ κ ρ me aH nH aL nL aY nY aS nS n p1 σ _ hR a1 ?_
  rw [w5c]
  refine ⟨fun c1 => ⟨hxs, bad _ (fun _ => rfl) (fun _ _ => by omega)⟩, fun c1 => ⟨fun c2 => ⟨fun c3 => ?_, fun c3 => ⟨hxs, bad _ (fun _ => by omega) (fun _ _ => ⟨by omega, rfl⟩)⟩⟩, fun c2 => ⟨hxs, bad _ (fun _ => rfl) (fun _ _ => by omega)⟩⟩⟩
  refine ⟨?_, ?_⟩
  · rw [put_ne (by decide)]
    show sI (putI σ 2 6 p1) 0 = xs
    rw [put_ne (by decide)]
    exact hxs
  rw [pR_I]
  refine v_M_lies_0 (d + 28) p1 _ _ (fun j => hF j) T26 ?_
  refine ⟨fun c1' => by omega, fun _ => ⟨fun c2' => by omega, fun _ => ⟨fun _ => ⟨m3.1, ?_⟩, fun c3' => absurd (show sI σ 31 13 ≤ 0 by omega) c3'⟩⟩⟩
  simp only [pR_I]
  obtain ⟨Z, eZ⟩ : ∃ Z, Z = putI (putI (putI (putI (putI (putI (putI (putI (putI (putI (putI σ 2 6 p1) 12 13 0) 31 4 p1) 31 33 0) 31 34 0) 31 35 (-1000)) 31 37 0) 31 73 0) 31 76 0) 31 77 0) 31 78 0 := ⟨_, rfl⟩
  rw [← eZ]
  have Z2 : Z.2 = σ.2 := by rw [eZ]; rfl
  have Zo : ∀ x, x ≠ 2 → x ≠ 12 → x ≠ 31 → sI Z x = sI σ x := fun x h1 h2 h3 => by rw [eZ, put_ne h3, put_ne h3, put_ne h3, put_ne h3, put_ne h3, put_ne h3, put_ne h3, put_ne h3, put_ne h3, put_ne h2, put_ne h1]
  have Z31 : ∀ j, sI Z 31 j = if j = 78 then 0 else if j = 77 then 0 else if j = 76 then 0 else if j = 73 then 0 else if j = 37 then 0 else if j = 35 then -1000 else if j = 34 then 0 else if j = 33 then 0 else if j = 4 then p1 else sI σ 31 j := fun j => by rw [eZ, put_at, put_at, put_at, put_at, put_at, put_at, put_at, put_at, put_at, put_ne (by decide), put_ne (by decide)]
  have z31 : ∀ j, j ≠ 4 → (j < 33 ∨ 78 < j ∨ (37 < j ∧ j < 73)) → sI Z 31 j = sI σ 31 j := fun j h1 h2 => by rw [Z31, if_neg (by omega), if_neg (by omega), if_neg (by omega), if_neg (by omega), if_neg (by omega), if_neg (by omega), if_neg (by omega), if_neg (by omega), if_neg h1]
  have z2 : ∀ j, sI Z 2 j = if j = 6 then p1 else sI σ 2 j := fun j => by rw [eZ, put_ne (by decide), put_ne (by decide), put_ne (by decide), put_ne (by decide), put_ne (by decide), put_ne (by decide), put_ne (by decide), put_ne (by decide), put_ne (by decide), put_ne (by decide), put_at]
  have Zf : ∀ x, x < sN σ → own x ≠ 2 → own x ≠ 12 → own x ≠ 31 → sI Z x = sI σ x := fun x hx' r1 r2 r3 => Zo x (fun e => by rw [e, o1 2 (by decide)] at r1; omega) (fun e => by rw [e, o1 12 (by decide)] at r2; omega) (fun e => by rw [e, o1 31 (by decide)] at r3; omega)
  have W0 : W = 0 := by omega
  refine INV_off (INVp_g hx0 hc Z2 (Zo 0 (by decide) (by decide) (by decide)) (Zo 1 (by decide) (by decide) (by decide)) (Zo 64 (by decide) (by decide) (by decide)) (Zo 65 (by decide) (by decide) (by decide)) (IT_g Z2 (fun x hx' hr => Zf x hx' (by omega) (by omega) (by omega)) (fun j hj => z31 j (by omega) (by omega)) it0) ?_ (IB_K Z2 (fun x hx' hr => Zf x hx' (by omega) (by omega) (by omega)) (fun x x1 x2 => Zo x (by omega) (by omega) (by omega)) (by rw [z2, if_neg (by decide)]) (z31 16 (by decide) (by omega)) ib0) ?_ (IJ_K Z2 (fun x hx' hr => Zf x hx' (by omega) (by omega) (by omega)) o1 h87 (fun j hj => z31 j (by omega) (by omega)) ij)) ?_
  · intro t ht
    obtain ⟨k1, k2, k3, k4, k5, k6, k7⟩ := ks t ht
    rw [W0] at k6
    have e0 : sI σ 38 t = 0 := by omega
    rw [e0] at k7
    rw [Zo 36 (by decide) (by decide) (by decide), Z31, if_neg (by decide), if_neg (by decide), if_neg (by decide), if_neg (by decide), if_neg (by decide), if_neg (by decide), if_neg (by decide), if_neg (by decide), if_pos rfl, ← k7]
    have : pc (Int.toNat 0) = 0 := by decide
    omega
  · obtain ⟨y1, y2, y3, y4⟩ := m1
    refine ⟨by rw [Zo 10 (by decide) (by decide) (by decide), Zo 11 (by decide) (by decide) (by decide), Zo 48 (by decide) (by decide) (by decide), z31 25 (by decide) (by omega)]; exact ⟨y1, y2, y3, y4⟩, by rw [Zo 10 (by decide) (by decide) (by decide), z31 26 (by decide) (by omega)]; exact ⟨m2, T26⟩, ?_, by rw [z2, if_neg (by decide), z31 38 (by decide) (by omega)]; exact m4, by rw [z2, if_neg (by decide), z31 0 (by decide) (by omega)]; exact m5, by rw [z2, if_neg (by decide), z31 1 (by decide) (by omega)]; omega⟩
    rw [z2, if_pos rfl, Z31, if_neg (by decide), if_neg (by decide), if_neg (by decide), if_neg (by decide), if_neg (by decide), if_neg (by decide), if_neg (by decide), if_neg (by decide), if_pos rfl]
    omega
  · refine ⟨?_, ?_, ?_, ?_, ?_, ?_, ?_, ?_, ?_⟩
    · rw [eZ, put_ne (by decide), put_ne (by decide), put_ne (by decide), put_ne (by decide), put_ne (by decide), put_ne (by decide), put_ne (by decide), put_ne (by decide), put_ne (by decide), put_at, if_pos rfl]
    all_goals (rw [Z31]; rfl)
