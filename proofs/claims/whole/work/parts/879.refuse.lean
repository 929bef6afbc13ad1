/-! the calls in pairs: refused weighings, parts -/
theorem v_C_parts_0 (d : Nat) (β μ κ ρ : Nat → Nat) (me : Nat → Nat → Nat) (aH nH aL nL aY nY aS nS n : Nat) (p1 p2 : Int) (σ : am_S) (K : Int → am_S → Prop) (hR : TR σ aH nH aL nL aY nY aS nS) (hB : BS σ β μ κ ρ me n) (h :
  am_Calls PP MLL (d + 5) m_C_refusalToWeigh [qr (2, 11, 10), qi p1, qi p2] σ (kI fun x1 s1 =>
    (TR s1 aH nH aL nL aY nY aS nS ∧ BS s1 β μ κ ρ me n) ∧
    ((x1 = 0 →
      (0 ≤ p1 ∧ p1 < 12 ∧ (Int.toNat p1) < n) ∧
      am_Calls PP MLL (d + 5) m_Balance_weigherAt [qr (β (Int.toNat p1), 0, 9), qi (sI s1 3 3)] s1 (kO fun x3 s3 =>
        (TR s3 aH nH aL nL aY nY aS nS ∧ BS s3 β μ κ ρ me n) ∧
        am_Calls PP MLL (d + 5) m_Truths_leftBehind [qr (3, 9, 11), qo x3, qi p2, qi (sI s3 2 6)] s3 (kI fun x4 s4 =>
          (TR s4 aH nH aL nL aY nY aS nS ∧ BS s4 β μ κ ρ me n) ∧
          K x4 s4))) ∧
    (¬ (x1 = 0) →
      K x1 s1)))) : am_Runs PP MLL (d + 5) m_C_parts 0 [some (qr (2, 11, 10)), some (qi p1), some (qi p2), none] [] σ (kI K) := am_wEF_ok (orc [(10, 3, 9, 11), (12, 9, 22, 12), (14, β (Int.toNat p1), 0, 9), (16, 3, 9, 11)]) 200 (⟨rfl, (am_cI h fun x1 s1 h1 => ⟨fun c2 => ⟨⟨rfl, (h1.1.1.1 2 0 _ rfl)⟩, ⟨⟨rfl, (h1.1.1.1 2 1 _ rfl)⟩, ⟨⟨rfl, (h1.2.1 c2).1.1, (h1.2.1 c2).1.2.1, (h1.1.2 (Int.toNat p1) (h1.2.1 c2).1.2.2).1⟩, ⟨⟨rfl, (h1.1.1.1 2 0 _ rfl)⟩, ⟨rfl, ⟨rfl, (am_cO (h1.2.1 c2).2 fun x3 s3 h3 => ⟨rfl, ⟨rfl, (am_cI h3.2 fun x4 s4 h4 => h4.2)⟩⟩)⟩⟩⟩⟩⟩⟩, fun c2 => (h1.2.2 c2)⟩)⟩)

theorem v_M_partsT_0 (d : Nat) (p1 p2 : Int) (σ : am_S) (K : Int → am_S → Prop) (hF : MF σ) (hT : sI σ 31 26 = 0) (h :
  (-2147483648 ≤ (sI σ 31 16) - 1 ∧ (sI σ 31 16) - 1 < 2147483648) ∧
  ((p1 < 0 →
    K (-1001) σ) ∧
  (¬ (p1 < 0) →
    ((((sI σ 31 16) - 1) < p1 →
      K (-1001) σ) ∧
    (¬ (((sI σ 31 16) - 1) < p1) →
      ((p2 < (-3) →
        K (-1001) σ) ∧
      (¬ (p2 < (-3)) →
        ((3 < p2 →
          K (-1001) σ) ∧
        (¬ (3 < p2) →
          (((sI σ 31 2) = 0 →
            K (-1002) σ) ∧
          (¬ ((sI σ 31 2) = 0) →
            am_Calls PP MLL (d + 3) m_M_weighFault [qr (31, 12, 89), qi p1] σ (kI fun x6 s6 =>
              (MF s6 ∧ sI s6 31 26 = 0) ∧
              ((x6 ≤ 0 →
                ((0 ≤ x6 →
                  am_Runs PP MLL (d + 3) m_M_parts 35 [some (qr (31, 12, 89)), some (qi p1), some (qi p2), some (qi x6), some (qi 0), some (qi 0)] [] s6 (kI K)) ∧
                (¬ (0 ≤ x6) →
                  K (-1002) s6))) ∧
              (¬ (x6 ≤ 0) →
                am_Calls PP MLL (d + 3) m_M_finds [qr (31, 12, 89), qi p1, qi x6] s6 (kI fun x9 s9 =>
                  (MF s9 ∧ sI s9 31 26 = 0) ∧
                  K x9 s9))))))))))))))) : am_Runs PP MLL (d + 3) m_M_parts 0 [some (qr (31, 12, 89)), some (qi p1), some (qi p2), none, none, none] [] σ (kI K) := am_wEF_ok (orc []) 200 (⟨rfl, am_wEF_ok (orc []) 200 (⟨rfl, ⟨⟨h.1.1, h.1.2⟩, am_wEF_ok (orc []) 200 (⟨fun c1 => ⟨(Or.inl rfl), ⟨(Or.inl rfl), ⟨fun _ => (h.2.1 c1), fun c => absurd (by decide : (0 : Int) = 0) c⟩⟩⟩, fun c1 => ⟨fun c2 => ⟨(Or.inl rfl), ⟨(Or.inl rfl), ⟨fun _ => ((h.2.2 c1).1 c2), fun c => absurd (by decide : (0 : Int) = 0) c⟩⟩⟩, fun c2 => ⟨(Or.inr rfl), ⟨(Or.inr rfl), ⟨fun c => absurd c (by decide : ¬ ((1 : Int) = 0)), fun _ => am_wEF_ok (orc []) 200 (⟨fun c3 => ⟨(Or.inl rfl), ⟨fun _ => (((h.2.2 c1).2 c2).1 c3), fun c => absurd (by decide : (0 : Int) = 0) c⟩⟩, fun c3 => ⟨fun c4 => ⟨(Or.inl rfl), ⟨fun _ => ((((h.2.2 c1).2 c2).2 c3).1 c4), fun c => absurd (by decide : (0 : Int) = 0) c⟩⟩, fun c4 => ⟨(Or.inr rfl), ⟨fun c => absurd c (by decide : ¬ ((1 : Int) = 0)), fun _ => ⟨rfl, ⟨fun c5 => (((((h.2.2 c1).2 c2).2 c3).2 c4).1 c5), fun c5 => ⟨rfl, (am_cI (((((h.2.2 c1).2 c2).2 c3).2 c4).2 c5) fun x6 s6 h6 => ⟨fun c7 => ⟨fun c8 => ((h6.2.1 c7).1 c8), fun c8 => ((h6.2.1 c7).2 c8)⟩, fun c7 => ⟨rfl, (am_cI (h6.2.2 c7) fun x9 s9 h9 => h9.2)⟩⟩)⟩⟩⟩⟩⟩⟩⟩)⟩⟩⟩⟩⟩)⟩⟩)⟩)

theorem v_C_refusalToWeigh_0 (d : Nat) (β μ κ ρ : Nat → Nat) (me : Nat → Nat → Nat) (aH nH aL nL aY nY aS nS n : Nat) (p1 p2 : Int) (σ : am_S) (K : Int → am_S → Prop) (hR : TR σ aH nH aL nL aY nY aS nS) (hB : BS σ β μ κ ρ me n) (h :
  ((p1 < 0 →
    K (-1001) σ) ∧
  (¬ (p1 < 0) →
    (((sI σ 2 5) ≤ p1 →
      K (-1001) σ) ∧
    (¬ ((sI σ 2 5) ≤ p1) →
      ((p2 < (-3) →
        K (-1001) σ) ∧
      (¬ (p2 < (-3)) →
        ((3 < p2 →
          K (-1001) σ) ∧
        (¬ (3 < p2) →
          (((sI σ 3 0) = 0 →
            K (-1002) σ) ∧
          (¬ ((sI σ 3 0) = 0) →
            (0 ≤ p1 ∧ p1 < 12 ∧ (Int.toNat p1) < n) ∧
            am_Calls PP MLL (d + 2) m_Balance_weigherAt [qr (β (Int.toNat p1), 0, 9), qi (sI σ 3 3)] σ (kO fun x6 s6 =>
              (TR s6 aH nH aL nL aY nY aS nS ∧ BS s6 β μ κ ρ me n) ∧
              (((sI s6 (β (Int.toNat p1)) 6) = 0 →
                (rg x6).2.1 = 0 ∧
                (((sI s6 ((rg x6).1) 6) = 0 →
                  (rg (sR s6 ((rg x6).1) 3)).2.1 = 2 ∧
                  ((0 ≤ (sI s6 ((rg (sR s6 ((rg x6).1) 3)).1) 1) →
                    (rg (sR s6 ((rg x6).1) 4)).2.1 = 2 ∧
                    ((0 ≤ (sI s6 ((rg (sR s6 ((rg x6).1) 4)).1) 1) →
                      am_Calls PP MLL (d + 2) m_Balance_isLoadedFairly [qo x6] s6 (kI fun x11 s11 =>
                        (TR s11 aH nH aL nL aY nY aS nS ∧ BS s11 β μ κ ρ me n) ∧
                        K (if x11 = 0 then ((-1002) : Int) else 0) s11)) ∧
                    (¬ (0 ≤ (sI s6 ((rg (sR s6 ((rg x6).1) 4)).1) 1)) →
                      am_Calls PP MLL (d + 2) m_C_found [qr (2, 11, 10), qi p1, qi 2] s6 (kI fun x14 s14 =>
                        (TR s14 aH nH aL nL aY nY aS nS ∧ BS s14 β μ κ ρ me n) ∧
                        K x14 s14)))) ∧
                  (¬ (0 ≤ (sI s6 ((rg (sR s6 ((rg x6).1) 3)).1) 1)) →
                    am_Calls PP MLL (d + 2) m_C_found [qr (2, 11, 10), qi p1, qi 2] s6 (kI fun x15 s15 =>
                      (TR s15 aH nH aL nL aY nY aS nS ∧ BS s15 β μ κ ρ me n) ∧
                      K x15 s15)))) ∧
                (¬ ((sI s6 ((rg x6).1) 6) = 0) →
                  am_Calls PP MLL (d + 2) m_C_found [qr (2, 11, 10), qi p1, qi 1] s6 (kI fun x16 s16 =>
                    (TR s16 aH nH aL nL aY nY aS nS ∧ BS s16 β μ κ ρ me n) ∧
                    K x16 s16)))) ∧
              (¬ ((sI s6 (β (Int.toNat p1)) 6) = 0) →
                am_Calls PP MLL (d + 2) m_C_found [qr (2, 11, 10), qi p1, qi 1] s6 (kI fun x17 s17 =>
                  (TR s17 aH nH aL nL aY nY aS nS ∧ BS s17 β μ κ ρ me n) ∧
                  K x17 s17))))))))))))))) : am_Runs PP MLL (d + 2) m_C_refusalToWeigh 0 [some (qr (2, 11, 10)), some (qi p1), some (qi p2), none] [] σ (kI K) := am_wEC_ok (orc [(10, 3, 9, 11), (16, 9, 22, 12), (18, β (Int.toNat p1), 0, 9), (20, 3, 9, 11), (25, 9, 22, 12), (27, β (Int.toNat p1), 0, 9)]) [57] 200 (⟨rfl, am_wEF_ok (orc []) 200 (⟨fun c1 => ⟨(Or.inl rfl), ⟨fun _ => (h.1 c1), fun c => absurd (by decide : (0 : Int) = 0) c⟩⟩, fun c1 => ⟨rfl, ⟨fun c2 => ⟨(Or.inl rfl), ⟨fun _ => ((h.2 c1).1 c2), fun c => absurd (by decide : (0 : Int) = 0) c⟩⟩, fun c2 => ⟨(Or.inr rfl), ⟨fun c => absurd c (by decide : ¬ ((1 : Int) = 0)), fun _ => am_wEF_ok (orc []) 200 (⟨fun c3 => ⟨(Or.inl rfl), ⟨fun _ => (((h.2 c1).2 c2).1 c3), fun c => absurd (by decide : (0 : Int) = 0) c⟩⟩, fun c3 => ⟨fun c4 => ⟨(Or.inl rfl), ⟨fun _ => ((((h.2 c1).2 c2).2 c3).1 c4), fun c => absurd (by decide : (0 : Int) = 0) c⟩⟩, fun c4 => ⟨(Or.inr rfl), ⟨fun c => absurd c (by decide : ¬ ((1 : Int) = 0)), fun _ => ⟨⟨rfl, (hR.1 2 0 _ rfl)⟩, ⟨rfl, ⟨fun c5 => (((((h.2 c1).2 c2).2 c3).2 c4).1 c5), fun c5 => ⟨⟨rfl, (hR.1 2 1 _ rfl)⟩, ⟨⟨rfl, (((((h.2 c1).2 c2).2 c3).2 c4).2 c5).1.1, (((((h.2 c1).2 c2).2 c3).2 c4).2 c5).1.2.1, (hB (Int.toNat p1) (((((h.2 c1).2 c2).2 c3).2 c4).2 c5).1.2.2).1⟩, ⟨⟨rfl, (hR.1 2 0 _ rfl)⟩, ⟨rfl, ⟨rfl, (am_cO (((((h.2 c1).2 c2).2 c3).2 c4).2 c5).2 fun x6 s6 h6 => ⟨⟨rfl, (h6.1.1.1 2 1 _ rfl)⟩, ⟨⟨rfl, (((((h.2 c1).2 c2).2 c3).2 c4).2 c5).1.1, (((((h.2 c1).2 c2).2 c3).2 c4).2 c5).1.2.1, (h6.1.2 (Int.toNat p1) (((((h.2 c1).2 c2).2 c3).2 c4).2 c5).1.2.2).1⟩, ⟨rfl, ⟨fun c7 => ⟨(h6.2.1 c7).1, ⟨fun c8 => ⟨(h6.2.1 c7).1, ⟨((h6.2.1 c7).2.1 c8).1, am_wEF_ok (orc []) 200 (⟨((h6.2.1 c7).2.1 c8).1, ⟨fun c9 => ⟨(Or.inl rfl), ⟨fun _ => ⟨(h6.2.1 c7).1, ⟨(((h6.2.1 c7).2.1 c8).2.1 c9).1, am_wEF_ok (orc []) 200 (⟨(((h6.2.1 c7).2.1 c8).2.1 c9).1, ⟨fun c10 => ⟨(Or.inl rfl), ⟨fun _ => ⟨(h6.2.1 c7).1, (am_cI ((((h6.2.1 c7).2.1 c8).2.1 c9).2.1 c10) fun x11 s11 h11 => am_use (fun H13 => ⟨fun c12 => (Eq.mp (congrArg (fun z => am_Runs _ _ _ _ _ _ (qi z :: _) _ _) (if_pos c12 : (if x11 = 0 then ((-1002) : Int) else 0) = (-1002))) H13), fun c12 => (Eq.mp (congrArg (fun z => am_Runs _ _ _ _ _ _ (qi z :: _) _ _) (if_neg c12 : (if x11 = 0 then ((-1002) : Int) else 0) = 0)) H13)⟩) (am_wEC_ok (orc []) [57] 200 (h11.2)))⟩, fun c => absurd (by decide : (0 : Int) = 0) c⟩⟩, fun c10 => ⟨(Or.inr rfl), ⟨fun c => absurd c (by decide : ¬ ((1 : Int) = 0)), fun _ => ⟨rfl, (am_cI ((((h6.2.1 c7).2.1 c8).2.1 c9).2.2 c10) fun x14 s14 h14 => h14.2)⟩⟩⟩⟩⟩)⟩⟩, fun c => absurd (by decide : (0 : Int) = 0) c⟩⟩, fun c9 => ⟨(Or.inr rfl), ⟨fun c => absurd c (by decide : ¬ ((1 : Int) = 0)), fun _ => ⟨rfl, (am_cI (((h6.2.1 c7).2.1 c8).2.2 c9) fun x15 s15 h15 => h15.2)⟩⟩⟩⟩⟩)⟩⟩, fun c8 => ⟨rfl, (am_cI ((h6.2.1 c7).2.2 c8) fun x16 s16 h16 => h16.2)⟩⟩⟩, fun c7 => ⟨rfl, (am_cI (h6.2.2 c7) fun x17 s17 h17 => h17.2)⟩⟩⟩⟩⟩)⟩⟩⟩⟩⟩⟩⟩⟩⟩⟩⟩⟩)⟩⟩⟩⟩⟩)⟩)

theorem bts_cg {f g : Nat → Int} : ∀ n, (∀ i, i < n → f i = g i) → bts f n = bts g n := by
  intro n
  induction n with
  | zero => intro _; rfl
  | succ n ih =>
    intro h
    unfold bts
    rw [ih (fun i hi => h i (by omega)), h n (by omega)]
theorem FL_cg {f f' g g' : Nat → Int} {p q : Int} (h1 : ∀ i : Nat, (i : Int) < p → f i = f' i) (h2 : ∀ i : Nat, (i : Int) < q → g i = g' i) : FL f p g q ↔ FL f' p g' q := by
  have e1 : ldn f p = ldn f' p := sm_congr _ (fun i hi => by rw [h1 i (by omega)])
  have e2 : ldn g q = ldn g' q := sm_congr _ (fun i hi => by rw [h2 i (by omega)])
  unfold FL
  rw [e1, e2, bts_cg _ (fun i hi => h1 i (by omega)), bts_cg _ (fun i hi => h2 i (by omega))]
/-- the reference's marks that nothing looks at between calls -/
theorem INV_0 {xs : Nat → Int} {σ t : am_S} {c : Nat} (h : INV xs σ c) (h2 : t.2 = σ.2) (ho : ∀ x, x ≠ 31 → x ≠ 50 → sI t x = sI σ x) (h31 : ∀ j, j ≠ 28 → j ≠ 30 → j ≠ 31 → j ≠ 32 → sI t 31 j = sI σ 31 j) : INV xs t c := by
  obtain ⟨own, β, μ, κ, ρ, me, n, aH, nH, aL, nL, aY, nY, aS, nS, N, l, m, T, W, kd, aR, nR, aV, nV, aI, nI, aQ, nQ, g, w, h⟩ := h
  obtain ⟨⟨hF, hab, hxs⟩, it, il, ib, im, ij, sc, rz, is, ir, hc⟩ := h
  have o1 := it.2.1.1
  have h87 := it.2.2.2.2.2.2.2.2.2
  have hf : ∀ x, own x ≠ 31 → own x ≠ 50 → sI t x = sI σ x := fun x r1 r2 => ho x (fun e => by rw [e, o1 31 (by decide)] at r1; omega) (fun e => by rw [e, o1 50 (by decide)] at r2; omega)
  have z31 : ∀ j, j < 28 ∨ 32 < j → sI t 31 j = sI σ 31 j := fun j hj => h31 j (by omega) (by omega) (by omega) (by omega)
  have k : KP σ t own n := ⟨h2, fun x _ hr => hf x (by omega) (by omega), fun x g' _ hr => by rw [hf x (by omega) (by omega)]; exact ⟨rfl, rfl⟩, by rw [ho 10 (by decide) (by decide)], fun j hj => z31 j (by omega), by rw [z31 38 (by omega)]; exact Int.le_refl _, fun b _ => by rw [ho 41 (by decide) (by decide), ho 47 (by decide) (by decide)]; exact ⟨rfl, rfl⟩, fun i _ => by rw [ho 46 (by decide) (by decide)]⟩
  obtain ⟨r1, r2, r3⟩ := R2 h2
  obtain ⟨sc', zz⟩ := SC_x h87 o1 (KP_XF k) sc
  have B := IB_K h2 (fun x _ hr => hf x (by omega) (by omega)) (fun x x1 x2 => ho x (by omega) (by omega)) (by rw [ho 2 (by decide) (by decide)]) (z31 16 (by omega)) ib
  have M := IM_K (ho 10 (by decide) (by decide)) (ho 11 (by decide) (by decide)) (ho 48 (by decide) (by decide)) (fun j _ => by rw [ho 2 (by decide) (by decide)]) (fun j hj => z31 j (by omega)) im
  refine ⟨own, β, μ, κ, ρ, me, n, aH, nH, aL, nL, aY, nY, aS, nS, N, l, m, T, W, kd, aR, nR, aV, nV, aI, nI, aQ, nQ, g, w, ⟨MF_I hF h2, ?_, by rw [ho 0 (by decide) (by decide)]; exact hxs⟩, IT_K k it, ?_, ?_, ?_, IJ_K h2 (fun x _ hr => hf x (by omega) (by omega)) o1 h87 (fun j hj => z31 j (by omega)) ij, sc', ?_, ISs_x h87 o1 (KP_XF k) (Nat.le_refl _) is, by rw [zz]; unfold IR at ir ⊢; rw [r2, r3]; exact ir, hc⟩
  · unfold AB at hab ⊢
    rw [ho 1 (by decide) (by decide)]
    exact hab
  · intro x hx
    rw [ho 36 (by decide) (by decide), z31 4 (by omega)]
    exact il x hx
  · obtain ⟨b1, b2, b3, b4, b5, b6⟩ := B
    refine ⟨b1, b2, b3, b4, fun b hb => ?_, b6⟩
    obtain ⟨d1, d2, d3, d4, d5⟩ := b5 b hb
    have := (ib.2.2.2.2.1 b hb).2.2.2.1
    exact ⟨d1, d2, d3, ⟨d4.1, d4.2.1, by rw [ho 42 (by decide) (by decide)]; exact this.2.2⟩, d5⟩
  · obtain ⟨b1, b2, b3, b4, b5, b6⟩ := M
    have := im.2.2.2.2.2
    rw [z31 1 (by omega)] at b6
    exact ⟨b1, b2, b3, b4, b5, by rw [z31 1 (by omega)]; exact ⟨b6.1, b6.2.1, this.2.2⟩⟩
  · intro j
    rw [ho 64 (by decide) (by decide), ho 65 (by decide) (by decide)]
    exact rz j
/-- a finding after a mark -/
theorem mF_28 {s : am_S} {b : Nat} {f v : Int} : mFinds (putI s 31 28 v) b f = putI (mFinds s b f) 31 28 v := by
  refine sto_ext (fun a j => ?_) rfl
  by_cases e : a = 31
  · subst e
    rw [mF_31, show sI (putI s 31 28 v) 31 1 = sI s 31 1 by rw [put_at, if_neg (by decide)], put_at, put_at, mF_31]
    (repeat' split) <;> first | rfl | omega
  · by_cases e2 : a = 43
    · subst e2
      rw [mF_43, put_ne (by decide), put_ne (by decide), put_ne (by decide), mF_43]
    · rw [mF_o e e2, put_ne e, put_ne e, mF_o e e2]
/-- who weighs at turn W, in both -/
theorem IB_wr {σ : am_S} {own β μ κ ρ : Nat → Nat} {me : Nat → Nat → Nat} {n c b : Nat} (h : IB σ own β μ κ ρ me n c) (hb : b < n) (W : Nat) : κ b ≤ 3 ∧ cw κ me b W < n ∧ (0 ≤ sI σ 41 b → wr σ b W = cw κ me b W) ∧ (sI σ (β b) 0 ≠ 6 → cw κ me b W = b) ∧ (sI σ (β b) 0 = 6 → cw κ me b W ≠ b ∧ sI σ (β (cw κ me b W)) 0 ≠ 6) := by
  obtain ⟨a1, a2, a3, ⟨n12, a4, a5⟩, bd, a6, a7, a8, a9, a10⟩ := h
  obtain ⟨d1, d2, d3, d4, d5, d6, d7, d8, d9⟩ := bd b hb
  by_cases e : sI σ (β b) 0 = 6
  · obtain ⟨v1, v2, v3, v4, v5⟩ := d9 e
    have hk : W % κ b < κ b := Nat.mod_lt _ (by omega)
    have ec : cw κ me b W = me b (W % κ b) := by unfold cw; rw [if_neg (by omega)]
    obtain ⟨z1, z2, z3⟩ := v4 _ hk
    refine ⟨v2, by rw [ec]; exact z1, fun h0 => ?_, fun q => absurd e q, fun _ => ?_⟩
    · have e6 : sI σ 41 b = 6 := by
        by_cases t : sI σ (β b) 6 = 0
        · rw [d3, if_pos t, e]
        · rw [d3, if_neg t] at h0
          omega
      unfold wr
      rw [if_pos e6, v3, Int.toNat_natCast, z2, Int.toNat_natCast, ec]
    · rw [ec]
      exact ⟨fun q => z3 (by rw [q]; exact e), z3⟩
  · obtain ⟨u1, u2⟩ := d8 e
    have ec : cw κ me b W = b := by unfold cw; rw [if_pos u1]
    refine ⟨by omega, by rw [ec]; exact hb, fun h0 => ?_, fun _ => ec, fun q => absurd q e⟩
    have e6 : sI σ 41 b ≠ 6 := by
      by_cases t : sI σ (β b) 6 = 0
      · rw [d3, if_pos t]; exact e
      · rw [d3, if_neg t]; decide
    unfold wr
    rw [if_neg e6, ec]
def lfB (σ : am_S) (ρ : Nat → Nat) (g : Nat) : Nat := bts (sI σ (ρ g + 1)) (sI σ (ρ g) 1).toNat
def rtB (σ : am_S) (ρ : Nat → Nat) (g : Nat) : Nat := bts (sI σ (ρ g + 3)) (sI σ (ρ g + 2) 1).toNat
def FLm (σ : am_S) (g : Nat) : Prop := FL (fun i => sI σ 45 (40 * g + i)) (sI σ 44 (2 * g)) (fun i => sI σ 45 (40 * g + 20 + i)) (sI σ 44 (2 * g + 1))
theorem IB_FL {σ : am_S} {own β μ κ ρ : Nat → Nat} {me : Nat → Nat → Nat} {n c g : Nat} (h : IB σ own β μ κ ρ me n c) (hg : g < n) : (FL (sI σ (ρ g + 1)) (sI σ (ρ g) 1) (sI σ (ρ g + 3)) (sI σ (ρ g + 2) 1) ↔ FLm σ g) ∧ lfB σ ρ g = bts (fun i => sI σ 45 (40 * g + i)) (sI σ 44 (2 * g)).toNat ∧ rtB σ ρ g = bts (fun i => sI σ 45 (40 * g + 20 + i)) (sI σ 44 (2 * g + 1)).toNat := by
  obtain ⟨d1, d2, d3, d4, d5, d6, ⟨z1, z2, z3, z4⟩, d8, d9⟩ := h.2.2.2.2.1 g hg
  refine ⟨?_, ?_, ?_⟩
  · rw [z1, z2]
    exact FL_cg z3 z4
  · unfold lfB
    rw [z1]
    exact bts_cg _ (fun i hi => z3 i (by omega))
  · unfold rtB
    rw [z2]
    exact bts_cg _ (fun i hi => z4 i (by omega))
/-- how a weighing is refused by the class; g is who would weigh -/
theorem c_refuse (d : Nat) {own β μ κ ρ : Nat → Nat} {me : Nat → Nat → Nat} {n c aH nH aL nL aY nY aS nS b W N : Nat} {p2 : Int} {σ : am_S} {K : Int → am_S → Prop} (hR : TR σ aH nH aL nL aY nY aS nS) (ib : IB σ own β μ κ ρ me n c) (hb : b < n) (h30 : sI σ 3 0 = N) (hN : N ≠ 0) (h33 : sI σ 3 3 = W) (hW : W ≤ 30) (hp : -3 ≤ p2 ∧ p2 ≤ 3)
    (fd : ∀ (f : Int) (K : Int → am_S → Prop) (e : Nat), 0 ≤ f ∧ f ≤ 6 → (TR (fdC σ β b f) aH nH aL nL aY nY aS nS → BS (fdC σ β b f) β μ κ ρ me n → K (-1010 - f) (fdC σ β b f)) → am_Calls PP MLL (e + 1) m_C_found [qr (2, 11, 10), qi (b : Int), qi f] σ (kI K))
    (k1 : (sI σ 41 b < 0 ∨ (0 ≤ sI σ 41 b ∧ sI σ 41 (cw κ me b W) < 0)) → K (-1010 - 1) (fdC σ β b 1)) (k2 : 0 ≤ sI σ 41 b → 0 ≤ sI σ 41 (cw κ me b W) → (sI σ 44 (2 * cw κ me b W) < 0 ∨ sI σ 44 (2 * cw κ me b W + 1) < 0) → K (-1010 - 2) (fdC σ β b 2))
    (k3 : 0 ≤ sI σ 41 b → 0 ≤ sI σ 41 (cw κ me b W) → 0 ≤ sI σ 44 (2 * cw κ me b W) → 0 ≤ sI σ 44 (2 * cw κ me b W + 1) → ¬ FLm σ (cw κ me b W) → K (-1002) σ) (k4 : 0 ≤ sI σ 41 b → 0 ≤ sI σ 41 (cw κ me b W) → 0 ≤ sI σ 44 (2 * cw κ me b W) → 0 ≤ sI σ 44 (2 * cw κ me b W + 1) → FLm σ (cw κ me b W) → K 0 σ) : am_Calls PP MLL (d + 3) m_C_refusalToWeigh [qr (2, 11, 10), qi (b : Int), qi p2] σ (kI K) := by
  obtain ⟨kb, hg, _, _, _⟩ := IB_wr ib hb W
  have fl := (IB_FL ib hg).1
  obtain ⟨a1, a2, a3, ⟨n12, a4, a5⟩, bd, a6, a7, a8, a9, a10⟩ := ib
  refine v_C_refusalToWeigh_0 d β μ κ ρ me aH nH aL nL aY nY aS nS n (b : Int) p2 σ K hR a1 ?_
  rw [a4, h30, h33, Int.toNat_natCast]
  refine ⟨fun q => by omega, fun _ => ⟨fun q => by omega, fun _ => ⟨fun q => by omega, fun _ => ⟨fun q => by omega, fun _ => ⟨fun q => by omega, fun _ => ⟨by omega, c_weigherAt (t := W) d a1 hb kb (by omega) ⟨⟨hR, a1⟩, ?_⟩⟩⟩⟩⟩⟩⟩
  obtain ⟨g, eg⟩ : ∃ g, g = cw κ me b W := ⟨_, rfl⟩
  rw [← eg] at hg fl k1 k2 k3 k4 ⊢
  rw [rg_some]
  obtain ⟨d1, d2, d3, _⟩ := bd b hb
  obtain ⟨e1, e2, e3, e4, e5, e6, ⟨z1, z2, _⟩, e8, e9⟩ := bd g hg
  have bs := a1 g hg
  show (sI σ (β b) 6 = 0 → (0 = 0 ∧ ((sI σ (β g) 6 = 0 → ((rg (sR σ (β g) 3)).2.1 = 2 ∧ ((0 ≤ (sI σ ((rg (sR σ (β g) 3)).1) 1) → ((rg (sR σ (β g) 4)).2.1 = 2 ∧ ((0 ≤ (sI σ ((rg (sR σ (β g) 4)).1) 1) → am_Calls PP MLL (d + 2) m_Balance_isLoadedFairly [qo (some (β g, 0, 9))] σ _) ∧ (¬ (0 ≤ (sI σ ((rg (sR σ (β g) 4)).1) 1)) → _)))) ∧ _))) ∧ _))) ∧ _
  rw [bs.2.2.2.1, bs.2.2.2.2.1, rg_some, rg_some]
  have fd' := fun (f : Int) (hf : 0 ≤ f ∧ f ≤ 6) (k : K (-1010 - f) (fdC σ β b f)) => fd f (fun x s => (TR s aH nH aL nL aY nY aS nS ∧ BS s β μ κ ρ me n) ∧ K x s) (d + 1) hf (fun t1 t2 => ⟨⟨t1, t2⟩, k⟩)
  refine ⟨fun t0 => ⟨rfl, fun t1 => ⟨rfl, fun t2 => ⟨rfl, fun t3 => ?_, fun t3 => ?_⟩, fun t2 => ?_⟩, fun t1 => ?_⟩, fun t0 => ?_⟩
  · rw [if_pos t0] at d3
    rw [if_pos t1] at e3
    have y2 : 0 ≤ sI σ (ρ g) 1 := t2
    have y3 : 0 ≤ sI σ (ρ g + 2) 1 := t3
    refine c_fair d a1 hg e6.1 e6.2.1 e6.2.2 (fun h => ⟨⟨hR, a1⟩, ?_⟩) (fun h => ⟨⟨hR, a1⟩, ?_⟩)
    · rw [if_neg (by decide)]
      exact k4 (by omega) (by omega) (by omega) (by omega) (fl.1 h)
    · rw [if_pos rfl]
      exact k3 (by omega) (by omega) (by omega) (by omega) (fun q => h (fl.2 q))
  · rw [if_pos t0] at d3
    rw [if_pos t1] at e3
    have y3 : ¬ 0 ≤ sI σ (ρ g + 2) 1 := t3
    exact fd' 2 (by omega) (k2 (by omega) (by omega) (by omega))
  · rw [if_pos t0] at d3
    rw [if_pos t1] at e3
    have y2 : ¬ 0 ≤ sI σ (ρ g) 1 := t2
    exact fd' 2 (by omega) (k2 (by omega) (by omega) (by omega))
  · rw [if_pos t0] at d3
    have y1 : ¬ sI σ (β g) 6 = 0 := t1
    rw [if_neg y1] at e3
    exact fd' 1 (by omega) (k1 (Or.inr ⟨by omega, by omega⟩))
  · rw [if_neg t0] at d3
    exact fd' 1 (by omega) (k1 (Or.inl (by omega)))
