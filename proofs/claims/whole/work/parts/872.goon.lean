/-! a search has gone on in both; goOn -/
theorem v_C_goOn_0 (d : Nat) (β μ κ ρ : Nat → Nat) (me : Nat → Nat → Nat) (aH nH aL nL aY nY aS nS n : Nat) (p1 : Int) (σ : am_S) (K : Int → am_S → Prop) (hR : TR σ aH nH aL nL aY nY aS nS) (hB : BS σ β μ κ ρ me n) (h :
  ((p1 < 1 →
    K (-1001) σ) ∧
  (¬ (p1 < 1) →
    ((10000 < p1 →
      K (-1001) σ) ∧
    (¬ (10000 < p1) →
      (((sR σ 12 6) = none →
        K (-1002) σ) ∧
      (¬ ((sR σ 12 6) = none) →
        ((sI σ 12 13) = 0 ∨ (sI σ 12 13) = 1) ∧
        (((sI σ 12 13) = 0 →
          (-2147483648 ≤ (sI σ 2 7) + p1 ∧ (sI σ 2 7) + p1 < 2147483648) ∧
          ((((sI σ 2 7) + p1) ≤ 30000 →
            am_Calls PP MLL (d + 7) m_Search_runOn [qr (12, 5, 18), qi p1] (putI σ 2 7 ((sI σ 2 7) + p1)) (kV fun s6 =>
              (TR s6 aH nH aL nL aY nY aS nS ∧ BS s6 β μ κ ρ me n) ∧
              ((sI s6 12 13) = 0 ∨ (sI s6 12 13) = 1) ∧
              K (if (sI s6 12 13) = 0 then (0 : Int) else 1) s6)) ∧
          (¬ (((sI σ 2 7) + p1) ≤ 30000) →
            K (-1003) σ))) ∧
        (¬ ((sI σ 12 13) = 0) →
          K (-1002) σ))))))))) : am_Runs PP MLL (d + 7) m_C_goOn 0 [some (qr (2, 11, 10)), some (qi p1)] [] σ (kI K) := am_wEC_ok (orc [(6, 12, 5, 18), (10, 12, 5, 18), (30, 12, 5, 18), (34, 12, 5, 18)]) [40] 200 (am_wEF_ok (orc []) 200 (⟨fun c1 => ⟨(Or.inl rfl), ⟨fun _ => (h.1 c1), fun c => absurd (by decide : (0 : Int) = 0) c⟩⟩, fun c1 => ⟨fun c2 => ⟨(Or.inl rfl), ⟨fun _ => ((h.2 c1).1 c2), fun c => absurd (by decide : (0 : Int) = 0) c⟩⟩, fun c2 => ⟨(Or.inr rfl), ⟨fun c => absurd c (by decide : ¬ ((1 : Int) = 0)), fun _ => ⟨⟨rfl, (hR.1 2 3 _ rfl)⟩, ⟨rfl, am_wEF_ok (orc []) 200 (⟨rfl, ⟨fun c3 => ⟨(Or.inl rfl), ⟨fun _ => (((h.2 c1).2 c2).1 c3), fun c => absurd (by decide : (0 : Int) = 0) c⟩⟩, fun c3 => ⟨(Or.inr rfl), ⟨fun c => absurd c (by decide : ¬ ((1 : Int) = 0)), fun _ => ⟨⟨rfl, (hR.1 2 3 _ rfl)⟩, ⟨rfl, am_wEF_ok (orc []) 200 (⟨rfl, ⟨(((h.2 c1).2 c2).2 c3).1, ⟨fun c4 => ⟨rfl, ⟨⟨((((h.2 c1).2 c2).2 c3).2.1 c4).1.1, ((((h.2 c1).2 c2).2 c3).2.1 c4).1.2⟩, ⟨fun c5 => ⟨rfl, ⟨⟨((((h.2 c1).2 c2).2 c3).2.1 c4).1.1, ((((h.2 c1).2 c2).2 c3).2.1 c4).1.2⟩, ⟨rfl, ⟨⟨rfl, (hR.1 2 3 _ rfl)⟩, ⟨rfl, (am_cV (((((h.2 c1).2 c2).2 c3).2.1 c4).2.1 c5) fun s6 h6 => ⟨⟨rfl, (h6.1.1.1 2 3 _ rfl)⟩, ⟨rfl, am_wEF_ok (orc []) 200 (⟨rfl, ⟨h6.2.1, am_use (fun H8 => ⟨fun c7 => (Eq.mp (congrArg (fun z => am_Runs _ _ _ _ _ _ (qi z :: _) _ _) (if_pos c7 : (if (sI s6 12 13) = 0 then (0 : Int) else 1) = 0)) H8), fun c7 => (Eq.mp (congrArg (fun z => am_Runs _ _ _ _ _ _ (qi z :: _) _ _) (if_neg c7 : (if (sI s6 12 13) = 0 then (0 : Int) else 1) = 1)) H8)⟩) (am_wEC_ok (orc []) [40] 200 (h6.2.2))⟩⟩)⟩⟩)⟩⟩⟩⟩⟩, fun c5 => (((((h.2 c1).2 c2).2 c3).2.1 c4).2.2 c5)⟩⟩⟩, fun c4 => ((((h.2 c1).2 c2).2 c3).2.2 c4)⟩⟩⟩)⟩⟩⟩⟩⟩⟩)⟩⟩⟩⟩⟩⟩))

theorem v_M_goOn_0 (d : Nat) (p1 : Int) (σ : am_S) (K : Int → am_S → Prop) (hF : MF σ) (hT : sI σ 31 26 = 0) (h :
  ((p1 < 1 →
    K (-1001) σ) ∧
  (¬ (p1 < 1) →
    ((10000 < p1 →
      K (-1001) σ) ∧
    (¬ (10000 < p1) →
      (((sI σ 31 33) = 0 →
        K (-1002) σ) ∧
      (¬ ((sI σ 31 33) = 0) →
        (((sI σ 31 34) = 0 →
          (-2147483648 ≤ (sI σ 31 38) + p1 ∧ (sI σ 31 38) + p1 < 2147483648) ∧
          ((((sI σ 31 38) + p1) ≤ 30000 →
            am_Calls PP MLL (d + 6) m_M_goesOn [qr (31, 12, 89), qi p1] σ (kI fun x7 s7 =>
              (MF s7 ∧ sI s7 31 26 = 0) ∧
              K x7 s7)) ∧
          (¬ (((sI σ 31 38) + p1) ≤ 30000) →
            K (-1003) σ))) ∧
        (¬ ((sI σ 31 34) = 0) →
          K (-1002) σ))))))))) : am_Runs PP MLL (d + 6) m_M_goOn 0 [some (qr (31, 12, 89)), some (qi p1)] [] σ (kI K) := am_wEF_ok (orc []) 200 (am_wEF_ok (orc []) 200 (⟨fun c1 => ⟨(Or.inl rfl), ⟨fun _ => (h.1 c1), fun c => absurd (by decide : (0 : Int) = 0) c⟩⟩, fun c1 => ⟨fun c2 => ⟨(Or.inl rfl), ⟨fun _ => ((h.2 c1).1 c2), fun c => absurd (by decide : (0 : Int) = 0) c⟩⟩, fun c2 => ⟨(Or.inr rfl), ⟨fun c => absurd c (by decide : ¬ ((1 : Int) = 0)), fun _ => ⟨rfl, ⟨fun c3 => (((h.2 c1).2 c2).1 c3), fun c3 => ⟨rfl, ⟨fun c4 => ⟨rfl, ⟨⟨((((h.2 c1).2 c2).2 c3).1 c4).1.1, ((((h.2 c1).2 c2).2 c3).1 c4).1.2⟩, ⟨fun c6 => ⟨rfl, (am_cI (((((h.2 c1).2 c2).2 c3).1 c4).2.1 c6) fun x7 s7 h7 => h7.2)⟩, fun c6 => (((((h.2 c1).2 c2).2 c3).1 c4).2.2 c6)⟩⟩⟩, fun c4 => ((((h.2 c1).2 c2).2 c3).2 c4)⟩⟩⟩⟩⟩⟩⟩⟩))

theorem IS_run {s t : am_S} {own : Nat → Nat} {T n ob nb k0 aQ st : Nat} {X : sX} {tr : Nat → Nat} {c0 : Nat → Int} {A : sA} (hC : CS s own aQ k0 tr X c0 A st) (hx : XC s t own own) (hM : MR t X ob nb tr c0 k0 A) (nbn : nb ≤ n) (hm : ¬ mn X c0 ≤ 0) (hk : k0 ≤ 30) (h13 : sI t 31 13 = k0) (h36 : ∀ p, p < xM X → sI t 36 (tr p) = c0 p) (h37 : ∀ x, x < T → sI t 37 x < 0 → ∃ p, p < xM X ∧ tr p = x ∧ 0 ≤ c0 p) (h33 : sI t 31 33 = 1) (hst : sI t 31 37 = st) (h38 : (st : Int) ≤ sI t 31 38) (h39 : 0 ≤ sI t 31 39 ∧ sI t 31 39 ≤ 1000000) (h76 : sI t 31 76 = 0) (h77 : sI t 31 77 = 0) (h78 : sI t 31 78 = 0) : ISs t own T n := by
  have hE := CS_SE hC
  have Es := SE_y hE hx
  have o1 := SE_87 hE
  have h87 := hE.1.2.2.2.1
  have hx' := hx
  obtain ⟨⟨f1, f2⟩, f3, f4, _⟩ := hx
  have e12 : sI t 12 = sI s 12 := f3 12 (by omega) (by rw [o1 12 (by decide)]; omega)
  have e18 : sI t 18 = sI s 18 := f3 18 (by omega) (by rw [o1 18 (by decide)]; omega)
  have mx : MX t X ob nb tr := by
    rcases hM with ⟨⟨_, q⟩ | ⟨_, q⟩, _⟩ | ⟨_, q⟩ | ⟨_, q⟩
    · exact q.1.2.1
    · exact q.1.2.1
    · exact q.1.2.1
    · exact q.1.2.1
  have s15 : sI s 12 15 = st := by
    rcases hC with ⟨_, p, _⟩ | ⟨_, p, _⟩ | ⟨_, p⟩ | ⟨_, p⟩
    · exact p.2.2.2.1.2.2.1
    · exact p.2.2.2.1.2.2.1
    · exact p.2.2.2.1.2.1
    · exact p.2.2.1.2.1
  refine Or.inr ⟨X, ob, nb, tr, c0, k0, aQ, st, ⟨Es, mx, nbn, hm, hk, h13, h36, h37, h33, hst, by rw [e12]; exact s15, h38, h39⟩, ?_⟩
  rcases hM with ⟨ms, m34, m35, m73⟩ | ⟨eA, m1, m2, m3, m4, m5, m6, m7, m8, m9⟩ | ⟨eA, m1, m2, m3, m4⟩
  · have hA : A.1 ≤ 1 := by
      rcases ms with ⟨e, _⟩ | ⟨e, _⟩ <;> omega
    exact Or.inl ⟨A, hA, CS_y hA hC hx', ms, m34, m35, m73, h76, h77, h78⟩
  · rcases hC with ⟨e, _⟩ | ⟨e, _⟩ | ⟨_, p1, p2, p3, ⟨p4, p5, p6, p7⟩, p8, p9, ⟨g, w, G, p10⟩, p11, p12, p13, p14⟩ | ⟨e, _⟩
    · omega
    · omega
    · obtain ⟨t1, t2⟩ := TV_y h87 o1 hx' p13
      refine Or.inr (Or.inl ⟨A.2.1, p2, by rw [e12]; exact ⟨p4, p6⟩, p8, p9, by rw [t2]; exact p12.resolve_left hm, t1, by rw [e18]; exact p14, ⟨m2, m3, m4, m9⟩, m5, m6, m7, Or.inl ⟨by rw [e12]; exact p7, h78, h77, h76, g, w, G, RW_y h87 o1 hx' p10⟩⟩)
    · omega
  · rcases hC with ⟨e, _⟩ | ⟨e, _⟩ | ⟨e, _⟩ | ⟨_, p1, p2, ⟨p4, p5, p6, p7⟩, _⟩
    · omega
    · omega
    · omega
    · exact Or.inr (Or.inr ⟨by rw [e12]; exact ⟨p4, p6, p7⟩, m2, m3, m4, h76, h77, h78⟩)
/-- the cells of a search as it goes on -/
theorem CS_SC {s : am_S} {own : Nat → Nat} {aQ k0 st aI nI : Nat} {X : sX} {tr : Nat → Nat} {c0 : Nat → Int} {A : sA} (hC : CS s own aQ k0 tr X c0 A st) (i1 : sR s 13 4 = some (aI, 20, nI)) (i2 : own aI = 16) (i3 : aI < sN s) (i4 : nI ≤ 8000) : ∃ g w, SCb s own aI nI aQ 7 g w := by
  have hq := (CS_SE hC).1
  have key : ∃ g w G W z, RW s own g w G W ∧ TV s own z := by
    rcases hC with ⟨_, _, _, _, _, _, _, ⟨g, w, r⟩, _, _, v, _⟩ | ⟨_, _, _, _, _, _, _, _, ⟨g, w, r⟩, _, _, _, v⟩ | ⟨_, _, _, _, _, _, _, ⟨g, w, G, r⟩, _, _, v, _⟩ | ⟨_, _, _, _, _, ⟨g, w, G, W, r⟩, v⟩
    · exact ⟨g, w, _, _, _, r, v⟩
    · exact ⟨g, w, _, _, _, r, v⟩
    · exact ⟨g, w, G, _, _, r, v⟩
    · exact ⟨g, w, G, W, _, r, v⟩
  obtain ⟨g, w, G, W, z, ⟨r1, r2, r3, r4, r5, r6, r7⟩, ⟨a, n, v1, v2, v3, v4, v5⟩, v6⟩ := key
  have rv : ∀ o k, RV s own o k → RV s own o 0 := fun o k ⟨⟨a, n, b, m, h1, h2, h3, h4, h5, h6, h7, h8, h9, h10⟩, hh⟩ => ⟨⟨a, n, b, m, h1, h2, h3, h4, h5, h6, h7, h8, by omega, by omega⟩, hh⟩
  exact ⟨g, w, ⟨i1, i2, i3, i4⟩, ⟨hq.1.1, Or.inr rfl, fun _ => hq⟩, r1, r2, r3, rv g _ r4, rv w _ r6, ⟨⟨a, n, v1, v2, v3, by omega, v5⟩, v6⟩⟩
theorem CS_13 {s : am_S} {own : Nat → Nat} {aQ k0 st : Nat} {X : sX} {tr : Nat → Nat} {c0 : Nat → Int} {A : sA} (hC : CS s own aQ k0 tr X c0 A st) : (A.1 ≤ 1 ∧ sI s 12 13 = 0) ∨ ((A.1 = 2 ∨ A.1 = 3) ∧ sI s 12 13 = 1) := by
  rcases hC with ⟨e, p, _⟩ | ⟨e, p, _⟩ | ⟨e, p⟩ | ⟨e, p⟩
  · exact Or.inl ⟨by omega, p.2.2.2.1.2.1⟩
  · exact Or.inl ⟨by omega, p.2.2.2.1.2.1⟩
  · exact Or.inr ⟨Or.inl e, p.2.2.2.1.1⟩
  · exact Or.inr ⟨Or.inr e, p.2.2.1.1⟩
theorem MR_34 {t : am_S} {X : sX} {ob nb k0 : Nat} {tr : Nat → Nat} {c0 : Nat → Int} {A : sA} (h : MR t X ob nb tr c0 k0 A) : ((A.1 ≤ 1 ∧ sI t 31 34 = 0) ∨ ((A.1 = 2 ∨ A.1 = 3) ∧ sI t 31 34 = 1)) ∧ MF t ∧ RZ t ∧ sI t 31 26 = 0 := by
  have ap : ∀ {q}, MX t X ob nb tr → q = sI t 31 26 → q = 0 := fun m e => by rw [e]; exact m.2.2.2.2.2.2.2.2.2.2.2.2.2
  rcases h with ⟨⟨e, q⟩ | ⟨e, q⟩, h34, _⟩ | ⟨e, q⟩ | ⟨e, q⟩
  · exact ⟨Or.inl ⟨by omega, h34⟩, q.1.1, q.1.2.2.1, ap q.1.2.1 rfl⟩
  · exact ⟨Or.inl ⟨by omega, h34⟩, q.1.1, q.1.2.2.1, ap q.1.2.1 rfl⟩
  · exact ⟨Or.inr ⟨Or.inl e, q.2.1⟩, q.1.1, q.1.2.2.1, ap q.1.2.1 rfl⟩
  · exact ⟨Or.inr ⟨Or.inr e, q.2.1⟩, q.1.1, q.1.2.2.1, ap q.1.2.1 rfl⟩
/-- TR and BS after the class's part -/
theorem TB_run {σ s : am_S} {own β μ κ ρ : Nat → Nat} {me : Nat → Nat → Nat} {n aH nH aL nL aY nY aS nS : Nat} (n12 : n ≤ 12) (hs : CF s) (hR : TR σ aH nH aL nL aY nY aS nS) (a1 : BS σ β μ κ ρ me n) (a2 : OB own β μ ρ n) (a3 : ∀ b, b < n → β b < sN σ ∧ μ b < sN σ ∧ ρ b + 3 < sN σ) (o1 : ∀ a, a < 87 → own a = a) (h87 : 87 ≤ sN σ) (fr : ∀ x, x < sN σ → (own x = 3 ∨ own x = 9 ∨ (1000 ≤ own x ∧ own x < 2000)) → ∀ j, sR s x j = sR σ x j) : TR s aH nH aL nL aY nY aS nS ∧ BS s β μ κ ρ me n := by
  constructor
  · unfold TR at hR ⊢
    have r3 : ∀ j, sR s 3 j = sR σ 3 j := fr 3 (by omega) (by rw [o1 3 (by decide)]; omega)
    rw [r3, r3, r3, r3]
    exact ⟨hs, hR.2⟩
  · unfold BS at a1 ⊢
    intro b hb
    obtain ⟨u1, u2, u3, u4, u5, u6, u7, u8⟩ := a1 b hb
    obtain ⟨y1, y2, y3⟩ := a2 b hb
    obtain ⟨x1, x2, x3⟩ := a3 b hb
    have y30 := y3 0 (by decide)
    have y32 := y3 2 (by decide)
    rw [Nat.add_zero] at y30
    exact ⟨by rw [fr 9 (by omega) (by rw [o1 9 (by decide)]; omega)]; exact u1, by rw [fr _ x1 (by omega)]; exact u2, by rw [fr _ x1 (by omega)]; exact u3, by rw [fr _ x1 (by omega)]; exact u4, by rw [fr _ x1 (by omega)]; exact u5, by rw [fr _ (by omega) (by omega)]; exact u6, by rw [fr _ (by omega) (by omega)]; exact u7, fun i hi => by rw [fr _ x2 (by omega)]; exact u8 i hi⟩
theorem p_goOn (d : Nat) {xs : Nat → Int} {c : Nat} {σ : am_S} {p1 : Int} (hI : INV xs σ c) (hc : c + 1 ≤ 600) : PR d xs m_C_goOn m_M_goOn [qi p1] σ c := by
  have hs := INV_s hI hc
  obtain ⟨own, β, μ, κ, ρ, me, n, aH, nH, aL, nL, aY, nY, aS, nS, N, l, m, T, W, kd, aR, nR, aV, nV, aI, nI, aQ, nQ, g, w, hx⟩ := hI
  have hx0 := hx
  obtain ⟨⟨hF, hab, hxs⟩, it, il, ib, im, ij, sc, rz, is, ir, hc6⟩ := hx
  have it0 := it
  obtain ⟨hR, ow, ti, kt, ks, ⟨w1, w2, w3, w4, w5, w6, w7, w8⟩, ⟨l1, l2, l3, l4⟩, lz, ⟨q1, q2, q3, q4⟩, h87⟩ := it
  have o1 := ow.1
  have ib0 := ib
  obtain ⟨a1, a2, a3, ⟨n12, a4, a5⟩, bd, a6, a7, a8, a9, a10⟩ := ib
  obtain ⟨m1, ⟨m2, T26⟩, m3, m4, m5, m6⟩ := im
  have tN := ti.2.2.2.2.1
  have tT := ti.2.2.2.2.2.2.1
  have T4 := ti.2.2.2.2.2.2.2.2.1
  have bad : ∀ x : Int, ((p1 < 1 ∨ 10000 < p1) → x = -1001) → (1 ≤ p1 → p1 ≤ 10000 → ((sI σ 31 33 = 0 ∨ ¬ sI σ 31 34 = 0) ∧ x = -1002) ∨ (30000 < sI σ 31 38 + p1 ∧ ¬ sI σ 31 33 = 0 ∧ sI σ 31 34 = 0 ∧ x = -1003)) → am_Calls PP MLL (d + 30) m_M_goOn [qr (31, 12, 89), qi p1] σ (kI fun y t => x = y ∧ INV xs t (c + 1)) := by
    intro x h1 h2
    refine v_M_goOn_0 (d + 23) p1 σ _ hF T26 ⟨fun _ => ⟨h1 (by omega), hs⟩, fun c1 => ⟨fun _ => ⟨h1 (by omega), hs⟩, fun c2 => ?_⟩⟩
    have hh := h2 (by omega) (by omega)
    exact ⟨fun c3 => ⟨by omega, hs⟩, fun c3 => ⟨fun c4 => ⟨by omega, fun c5 => by omega, fun c5 => ⟨by omega, hs⟩⟩, fun c4 => ⟨by omega, hs⟩⟩⟩
  refine v_C_goOn_0 (d + 22) β μ κ ρ me aH nH aL nL aY nY aS nS n p1 σ _ hR a1 ⟨fun c1 => ⟨hxs, bad _ (fun _ => rfl) (fun _ _ => by omega)⟩, fun c1 => ⟨fun c2 => ⟨hxs, bad _ (fun _ => rfl) (fun _ _ => by omega)⟩, fun c2 => ?_⟩⟩
  rcases is with ⟨i1, i2, i3, i4, i5, i6, i7, i8, i9, i10⟩ | ⟨X, ob, nb, tr, c0, k0, aQ', st, hb, hr⟩
  · exact ⟨fun _ => ⟨hxs, bad _ (fun _ => by omega) (fun _ _ => Or.inl ⟨Or.inl i3, rfl⟩)⟩, fun q => absurd i1 q⟩
  obtain ⟨b1, b2, b3, b4, b5, b6, b7, b8, b9, b10, b11, b12, b13⟩ := hb
  have ne : sR σ 12 6 ≠ none := by
    obtain ⟨β', μ', κ', ρ', me', n', b', aH', nH', aL', nL', aY', nY', aS', nS', N', lo', hi', T', kd', e1, e2, e3, e4, e5, e6, e7, e8, e9, e10, e11, e12, e13, e14, e15, _⟩ := b1.2.2.2.2
    rw [e15]
    exact fun q => by cases q
  refine ⟨fun q => absurd q ne, fun _ => ?_⟩
  rcases hr with ⟨A, g1, g2, g3, g4, g5, g6, g7, g8, g9⟩ | ⟨n0, q1', q2', q3', q4', q5', q6', q7', q8', _⟩ | ⟨g1, g2⟩
  · have z13 : sI σ 12 13 = 0 := by
      rcases CS_13 g2 with ⟨_, q⟩ | ⟨q, _⟩
      · exact q
      · omega
    refine ⟨Or.inl z13, fun _ => ⟨by omega, fun c5 => ?_, fun c5 => ⟨hxs, bad _ (fun _ => by omega) (fun _ _ => Or.inr ⟨by omega, by omega, g4, rfl⟩)⟩⟩, fun q => absurd z13 q⟩
    obtain ⟨P, eP⟩ : ∃ P : Nat, p1 = P := ⟨p1.toNat, by omega⟩
    subst eP
    obtain ⟨Z, eZ⟩ : ∃ Z, Z = putI σ 2 7 (sI σ 2 7 + (P : Int)) := ⟨_, rfl⟩
    rw [← eZ]
    have Z2 : Z.2 = σ.2 := by rw [eZ]; rfl
    obtain ⟨zr, zN, zU⟩ := R2 Z2
    have Zo : ∀ x, x ≠ 2 → sI Z x = sI σ x := fun x hx' => by rw [eZ, put_ne hx']
    have Zf : ∀ x, own x ≠ 2 → sI Z x = sI σ x := fun x hx' => Zo x (fun e => by rw [e, o1 2 (by decide)] at hx'; omega)
    have Zz : ∀ j, sI Z 2 j = if j = 7 then sI σ 2 7 + P else sI σ 2 j := fun j => by rw [eZ, put_at]
    have zz : zl Z = zl σ := by unfold zl; rw [zr, zr, zr, zr, zr]
    have xc : XC σ Z own own := ⟨⟨by omega, fun _ _ => rfl⟩, fun x _ hr => Zf x (by omega), fun x _ _ _ j => zr x j, ⟨fun j _ => zr 9 j, fun j _ => zr 26 j⟩, fun x g' _ hr => by rw [Zf x (by omega)]; exact ⟨rfl, rfl⟩, by rw [Zo 10 (by decide)], fun j _ => by rw [Zo 31 (by decide)], trivial, trivial, trivial⟩
    refine c_runOn (d + 22) (CS_y g1 g2 xc) (by omega) (fun s own' fr cs => ?_)
    obtain ⟨fr1, fr2, fr3, fr4, fr5⟩ := fr
    have hEs := CS_SE cs
    have CFs : CF s := by
      obtain ⟨β', μ', κ', ρ', me', n', b', aH', nH', aL', nL', aY', nY', aS', nS', N', lo', hi', T', kd', e1, _⟩ := hEs.2.2.2.2
      exact e1.1
    have sI' : ∀ x, x < sN σ → ¬ p0 (own x) → own x ≠ 2 → sI s x = sI σ x := fun x hx' hp h2 => by rw [(fr1 x (by omega) hp).1, Zf x h2]
    have sR' : ∀ x, x < sN σ → ¬ p0 (own x) → ∀ j, sR s x j = sR σ x j := fun x hx' hp j => by rw [(fr1 x (by omega) hp).2 j, zr]
    have sr : ∀ x, x < 87 → x ≠ 2 → ¬ (x = 12 ∨ (18 ≤ x ∧ x ≤ 25)) → sI s x = sI σ x := fun x hx' h2 hp => sI' x (by omega) (by unfold p0; rw [o1 x hx']; omega) (by rw [o1 x hx']; exact h2)
    have Fs : MF s := fun j => by rw [sR' 31 (by omega) (by unfold p0; rw [o1 31 (by decide)]; omega)]; exact hF j
    have s31 : sI s 31 = sI σ 31 := sr 31 (by decide) (by decide) (by omega)
    refine ⟨TB_run n12 CFs hR a1 a2 a3 o1 h87 (fun x hx' hr j => sR' x hx' (by unfold p0; omega) j), ?_, by rw [sr 0 (by decide) (by decide) (by omega)]; exact hxs, ?_⟩
    · rcases CS_13 cs with ⟨_, q⟩ | ⟨_, q⟩ <;> omega
    refine v_M_goOn_0 (d + 23) (P : Int) s _ Fs (by rw [s31]; exact T26) ?_
    rw [s31]
    refine ⟨fun c1' => by omega, fun _ => ⟨fun c2' => by omega, fun _ => ⟨fun q => by omega, fun _ => ⟨fun _ => ⟨by omega, fun _ => ?_, fun q => by omega⟩, fun q => absurd g4 q⟩⟩⟩⟩
    have xm : XM σ s nb := ⟨Fs, fun x hx' => sr x (by omega) (by omega) (by omega), fun j _ => by rw [s31], fun b _ => by rw [sr 41 (by decide) (by decide) (by omega), sr 47 (by decide) (by decide) (by omega)]; exact ⟨rfl, rfl⟩, fun i _ => by rw [sr 46 (by decide) (by decide) (by omega)]⟩
    refine c_M_goesOn9 (d + 23) b4 (MS_y xm (Nat.le_refl _) g3) (by rw [s31]; exact g4) (by rw [s31]; exact g5) (by rw [s31]; exact g6) (by rw [s31]; exact b10) (by omega) (by rw [s31]; omega) (fun t mg mr h37 h39 => ?_)
    obtain ⟨k1, k2, k3⟩ := mg
    have t2 : t.2 = s.2 := k1
    obtain ⟨tr', tN, tU⟩ := R2 t2
    obtain ⟨r34, Ft, RZt, T26t⟩ := MR_34 mr
    have tI : ∀ x, (x < 53 ∨ 80 < x ∨ x = 79) → x ≠ 31 → sI t x = sI s x := fun x x1 x2 => by rw [k2 x x1 x2, put_ne x2]
    have t31 : ∀ j, j ≠ 34 → j ≠ 35 → j ≠ 37 → j ≠ 39 → j ≠ 57 → j ≠ 58 → j ≠ 60 → j ≠ 73 → j ≠ 38 → sI t 31 j = sI σ 31 j := fun j j1 j2 j3 j4 j5 j6 j7 j8 j9 => by rw [k3 j j1 j2 j3 j4 j5 j6 j7 j8, put_at, if_neg j9, s31]
    have t38 : sI t 31 38 = sI σ 31 38 + P := by rw [k3 38 (by decide) (by decide) (by decide) (by decide) (by decide) (by decide) (by decide) (by decide), put_at, if_pos rfl, s31]
    have os : ∀ x, x < sN σ → own' x = own x := fun x hx' => fr2 x (by omega)
    have o1s : ∀ a, a < 87 → own' a = a := fun a ha => by rw [os a (by omega)]; exact o1 a ha
    have tr2 : ∀ x, x < 87 → x ≠ 2 → ¬ (x = 12 ∨ (18 ≤ x ∧ x ≤ 25)) → (x < 53 ∨ 80 < x) → x ≠ 31 → sI t x = sI σ x := fun x hx' h2 hp h5 h3 => by rw [tI x (by omega) h3, sr x hx' h2 hp]
    have xs2 : XC s t own' own' := by
      refine ⟨⟨by omega, fun _ _ => rfl⟩, fun x hx' hr => ?_, fun x _ _ _ j => tr' x j, ⟨fun j _ => tr' 9 j, fun j _ => tr' 26 j⟩, fun x g' hx' hr => ?_, by rw [tI 10 (by omega) (by decide)], fun j hj => by rw [t31 j (by omega) (by omega) (by omega) (by omega) (by omega) (by omega) (by omega) (by omega) (by omega), s31], trivial, trivial, trivial⟩
      · by_cases e : x < 87
        · rw [o1s x e] at hr
          exact tI x (by omega) (by omega)
        · exact tI x (by omega) (by omega)
      · by_cases e : x < 87
        · rw [o1s x e] at hr
          omega
        · rw [tI x (by omega) (by omega)]
          exact ⟨rfl, rfl⟩
    refine ⟨⟨Ft, T26t⟩, ?_, ?_⟩
    · rcases CS_13 cs with ⟨u1, u2⟩ | ⟨u1, u2⟩
      · rw [if_pos u2]
        omega
      · rw [if_neg (by omega)]
        omega
    · have sc0 := sc
      obtain ⟨⟨v1, v2, v3, v4⟩, _⟩ := sc
      have v1' : sR s 13 4 = some (aI, 20, nI) := by rw [sR' 13 (by omega) (by unfold p0; rw [o1 13 (by decide)]; omega)]; exact v1
      obtain ⟨g', w', sc'⟩ := CS_SC cs v1' (by rw [os aI v3]; exact v2) (by omega) v4
      obtain ⟨sc'', z2⟩ := SC_2 t2 sc'
      have e12 : ∀ j, (j = 0 ∨ j = 1 ∨ j = 3) → sR t 12 j = sR σ 12 j := fun j hj => by
        rw [tr']
        rcases hj with e | e | e
        · rw [e, CFs 12 0 _ rfl, hR.1 12 0 _ rfl]
        · rw [e, CFs 12 1 _ rfl, hR.1 12 1 _ rfl]
        · rw [e, CFs 12 3 _ rfl, hR.1 12 3 _ rfl]
      refine INV_srch (own' := own') hx0 hc (by omega) os (fun x hx' r1 r2 r3 r4 r5 r6 r7 => ?_) (fun x hx' r1 r2 j => by rw [tr', sR' x hx' (by unfold p0; omega)]) e12 (fun j _ => by rw [tr', sR' 13 (by omega) (by unfold p0; rw [o1 13 (by decide)]; omega)]) (fun j j1 j2 j3 j4 j5 j6 => t31 j (by omega) (by omega) (by omega) (by omega) (by omega) (by omega) (by omega) (by omega) (by omega)) (fun j hj => ?_) ?_ RZt sc'' (IS_run cs xs2 mr b3 b4 b5 (by rw [t31 13 (by decide) (by decide) (by decide) (by decide) (by decide) (by decide) (by decide) (by decide) (by decide)]; exact b6) (fun p hp => by rw [tr2 36 (by decide) (by decide) (by omega) (by omega) (by decide)]; exact b7 p hp) (fun x hx' hl => by rw [tr2 37 (by decide) (by decide) (by omega) (by omega) (by decide)] at hl; exact b8 x hx' hl) (by rw [t31 33 (by decide) (by decide) (by decide) (by decide) (by decide) (by decide) (by decide) (by decide) (by decide)]; exact b9) h37 (by have := stc_le (X := X) (c0 := c0) (k0 := k0) P A; omega) (by omega) (by rw [t31 76 (by decide) (by decide) (by decide) (by decide) (by decide) (by decide) (by decide) (by decide) (by decide)]; exact g7) (by rw [t31 77 (by decide) (by decide) (by decide) (by decide) (by decide) (by decide) (by decide) (by decide) (by decide)]; exact g8) (by rw [t31 78 (by decide) (by decide) (by decide) (by decide) (by decide) (by decide) (by decide) (by decide) (by decide)]; exact g9)) ?_
      · have : sI t x = sI s x := by
          by_cases e : x < 87
          · rw [o1 x e] at r1 r2 r5
            exact tI x (by omega) (by omega)
          · exact tI x (by omega) (by omega)
        rw [this, sI' x hx' (by unfold p0; omega) r1]
      · rw [tI 2 (by omega) (by decide), (fr1 2 (by omega) (by unfold p0; rw [o1 2 (by decide)]; omega)).1, Zz, if_neg hj]
      · rw [tI 2 (by omega) (by decide), (fr1 2 (by omega) (by unfold p0; rw [o1 2 (by decide)]; omega)).1, Zz, if_pos rfl, t38]
        omega
      · unfold IR at ir ⊢
        rw [z2, tN, tU]
        omega
  · refine ⟨by omega, fun q => by omega, fun _ => ⟨hxs, bad _ (fun _ => by omega) (fun _ _ => Or.inl ⟨by omega, rfl⟩)⟩⟩
  · refine ⟨by omega, fun q => by omega, fun _ => ⟨hxs, bad _ (fun _ => by omega) (fun _ _ => Or.inl ⟨by omega, rfl⟩)⟩⟩
