/-! the calls in pairs: at, put, unpan, pan -/
theorem v_C_atL_0 (d : Nat) (β μ κ ρ : Nat → Nat) (me : Nat → Nat → Nat) (aH nH aL nL aY nY aS nS n : Nat) (p1 p3 : Int) (σ : am_S) (K : Int → am_S → Prop) (hR : TR σ aH nH aL nL aY nY aS nS) (hB : BS σ β μ κ ρ me n) (h :
  ((p1 < 0 →
    K (-1001) σ) ∧
  (¬ (p1 < 0) →
    (((sI σ 2 5) ≤ p1 →
      K (-1001) σ) ∧
    (¬ ((sI σ 2 5) ≤ p1) →
      (0 ≤ p1 ∧ p1 < 12 ∧ (Int.toNat p1) < n) ∧
      am_Calls PP MLL (d + 3) m_C_withoutPlace [qr (β (Int.toNat p1), 0, 9), qi 0, qi p3] σ (kI fun x3 s3 =>
        (TR s3 aH nH aL nL aY nY aS nS ∧ BS s3 β μ κ ρ me n) ∧
        ((x3 = 0 →
          (0 ≤ p3 ∧ p3 < 20) ∧
          K (sI s3 (ρ (Int.toNat p1) + 1) (Int.toNat p3)) s3) ∧
        (¬ (x3 = 0) →
          am_Calls PP MLL (d + 3) m_C_found [qr (2, 11, 10), qi p1, qi x3] s3 (kI fun x5 s5 =>
            (TR s5 aH nH aL nL aY nY aS nS ∧ BS s5 β μ κ ρ me n) ∧
            K x5 s5))))))))) : am_Runs PP MLL (d + 3) m_C_at 0 [some (qr (2, 11, 10)), some (qi p1), some (qi 0), some (qi p3), none] [] σ (kI K) := am_wEF_ok (orc [(10, 9, 22, 12), (12, β (Int.toNat p1), 0, 9), (25, 9, 22, 12), (27, β (Int.toNat p1), 0, 9), (30, ρ (Int.toNat p1) + 1, 20, 20)]) 200 (⟨rfl, am_wEF_ok (orc []) 200 (⟨fun c1 => ⟨(Or.inl rfl), ⟨fun _ => (h.1 c1), fun c => absurd (by decide : (0 : Int) = 0) c⟩⟩, fun c1 => ⟨rfl, ⟨fun c2 => ⟨(Or.inl rfl), ⟨fun _ => ((h.2 c1).1 c2), fun c => absurd (by decide : (0 : Int) = 0) c⟩⟩, fun c2 => ⟨(Or.inr rfl), ⟨fun c => absurd c (by decide : ¬ ((1 : Int) = 0)), fun _ => am_wEF_ok (orc []) 200 (⟨fun _ => ⟨(Or.inr rfl), ⟨fun c => absurd c (by decide : ¬ ((1 : Int) = 0)), fun _ => ⟨⟨rfl, (hR.1 2 1 _ rfl)⟩, ⟨⟨rfl, ((h.2 c1).2 c2).1.1, ((h.2 c1).2 c2).1.2.1, (hB (Int.toNat p1) ((h.2 c1).2 c2).1.2.2).1⟩, (am_cI ((h.2 c1).2 c2).2 fun x3 s3 h3 => ⟨fun c4 => ⟨⟨rfl, (h3.1.1.1 2 1 _ rfl)⟩, ⟨⟨rfl, ((h.2 c1).2 c2).1.1, ((h.2 c1).2 c2).1.2.1, (h3.1.2 (Int.toNat p1) ((h.2 c1).2 c2).1.2.2).1⟩, ⟨rfl, am_wEF_ok (orc [(3, ρ (Int.toNat p1), 2, 2)]) 200 (⟨fun _ => ⟨⟨rfl, (h3.1.2 (Int.toNat p1) ((h.2 c1).2 c2).1.2.2).2.2.2.1⟩, ⟨⟨rfl, (h3.1.2 (Int.toNat p1) ((h.2 c1).2 c2).1.2.2).2.2.2.2.2.1⟩, ⟨⟨rfl, (h3.2.1 c4).1.1, (h3.2.1 c4).1.2⟩, (h3.2.1 c4).2⟩⟩⟩, fun c => absurd (by decide : (0 : Int) = 0) c⟩)⟩⟩⟩, fun c4 => ⟨rfl, (am_cI (h3.2.2 c4) fun x5 s5 h5 => h5.2)⟩⟩)⟩⟩⟩⟩, fun c => absurd (by decide : (0 : Int) = 0) c⟩)⟩⟩⟩⟩⟩)⟩)

theorem v_C_atR_0 (d : Nat) (β μ κ ρ : Nat → Nat) (me : Nat → Nat → Nat) (aH nH aL nL aY nY aS nS n : Nat) (p1 p3 : Int) (σ : am_S) (K : Int → am_S → Prop) (hR : TR σ aH nH aL nL aY nY aS nS) (hB : BS σ β μ κ ρ me n) (h :
  ((p1 < 0 →
    K (-1001) σ) ∧
  (¬ (p1 < 0) →
    (((sI σ 2 5) ≤ p1 →
      K (-1001) σ) ∧
    (¬ ((sI σ 2 5) ≤ p1) →
      (0 ≤ p1 ∧ p1 < 12 ∧ (Int.toNat p1) < n) ∧
      am_Calls PP MLL (d + 3) m_C_withoutPlace [qr (β (Int.toNat p1), 0, 9), qi 1, qi p3] σ (kI fun x3 s3 =>
        (TR s3 aH nH aL nL aY nY aS nS ∧ BS s3 β μ κ ρ me n) ∧
        ((x3 = 0 →
          (0 ≤ p3 ∧ p3 < 20) ∧
          K (sI s3 (ρ (Int.toNat p1) + 3) (Int.toNat p3)) s3) ∧
        (¬ (x3 = 0) →
          am_Calls PP MLL (d + 3) m_C_found [qr (2, 11, 10), qi p1, qi x3] s3 (kI fun x5 s5 =>
            (TR s5 aH nH aL nL aY nY aS nS ∧ BS s5 β μ κ ρ me n) ∧
            K x5 s5))))))))) : am_Runs PP MLL (d + 3) m_C_at 0 [some (qr (2, 11, 10)), some (qi p1), some (qi 1), some (qi p3), none] [] σ (kI K) := am_wEF_ok (orc [(10, 9, 22, 12), (12, β (Int.toNat p1), 0, 9), (25, 9, 22, 12), (27, β (Int.toNat p1), 0, 9), (30, ρ (Int.toNat p1) + 3, 20, 20)]) 200 (⟨rfl, am_wEF_ok (orc []) 200 (⟨fun c1 => ⟨(Or.inl rfl), ⟨fun _ => (h.1 c1), fun c => absurd (by decide : (0 : Int) = 0) c⟩⟩, fun c1 => ⟨rfl, ⟨fun c2 => ⟨(Or.inl rfl), ⟨fun _ => ((h.2 c1).1 c2), fun c => absurd (by decide : (0 : Int) = 0) c⟩⟩, fun c2 => ⟨(Or.inr rfl), ⟨fun c => absurd c (by decide : ¬ ((1 : Int) = 0)), fun _ => am_wEF_ok (orc []) 200 (⟨fun c => absurd c (by decide : ¬ ((1 : Int) = 0)), fun _ => ⟨fun _ => ⟨(Or.inr rfl), ⟨fun c => absurd c (by decide : ¬ ((1 : Int) = 0)), fun _ => ⟨⟨rfl, (hR.1 2 1 _ rfl)⟩, ⟨⟨rfl, ((h.2 c1).2 c2).1.1, ((h.2 c1).2 c2).1.2.1, (hB (Int.toNat p1) ((h.2 c1).2 c2).1.2.2).1⟩, (am_cI ((h.2 c1).2 c2).2 fun x3 s3 h3 => ⟨fun c4 => ⟨⟨rfl, (h3.1.1.1 2 1 _ rfl)⟩, ⟨⟨rfl, ((h.2 c1).2 c2).1.1, ((h.2 c1).2 c2).1.2.1, (h3.1.2 (Int.toNat p1) ((h.2 c1).2 c2).1.2.2).1⟩, ⟨rfl, am_wEF_ok (orc [(6, ρ (Int.toNat p1) + 2, 2, 2)]) 200 (⟨fun c => absurd c (by decide : ¬ ((1 : Int) = 0)), fun _ => ⟨⟨rfl, (h3.1.2 (Int.toNat p1) ((h.2 c1).2 c2).1.2.2).2.2.2.2.1⟩, ⟨⟨rfl, (h3.1.2 (Int.toNat p1) ((h.2 c1).2 c2).1.2.2).2.2.2.2.2.2.1⟩, ⟨⟨rfl, (h3.2.1 c4).1.1, (h3.2.1 c4).1.2⟩, (h3.2.1 c4).2⟩⟩⟩⟩)⟩⟩⟩, fun c4 => ⟨rfl, (am_cI (h3.2.2 c4) fun x5 s5 h5 => h5.2)⟩⟩)⟩⟩⟩⟩, fun c => absurd (by decide : (1 : Int) = 1) c⟩⟩)⟩⟩⟩⟩⟩)⟩)

theorem v_C_atX_0 (d : Nat) (β μ κ ρ : Nat → Nat) (me : Nat → Nat → Nat) (aH nH aL nL aY nY aS nS n : Nat) (p1 p2 p3 : Int) (σ : am_S) (K : Int → am_S → Prop) (hR : TR σ aH nH aL nL aY nY aS nS) (hB : BS σ β μ κ ρ me n) (n0 : ¬ (p2 = 0)) (n1 : ¬ (p2 = 1)) (h :
  ((p1 < 0 →
    K (-1001) σ) ∧
  (¬ (p1 < 0) →
    (((sI σ 2 5) ≤ p1 →
      K (-1001) σ) ∧
    (¬ ((sI σ 2 5) ≤ p1) →
      K (-1001) σ))))) : am_Runs PP MLL (d + 3) m_C_at 0 [some (qr (2, 11, 10)), some (qi p1), some (qi p2), some (qi p3), none] [] σ (kI K) := am_wEF_ok (orc []) 200 (⟨rfl, am_wEF_ok (orc []) 200 (⟨fun c1 => ⟨(Or.inl rfl), ⟨fun _ => (h.1 c1), fun c => absurd (by decide : (0 : Int) = 0) c⟩⟩, fun c1 => ⟨rfl, ⟨fun c2 => ⟨(Or.inl rfl), ⟨fun _ => ((h.2 c1).1 c2), fun c => absurd (by decide : (0 : Int) = 0) c⟩⟩, fun c2 => ⟨(Or.inr rfl), ⟨fun c => absurd c (by decide : ¬ ((1 : Int) = 0)), fun _ => am_wEF_ok (orc []) 200 (⟨fun c => absurd c n0, fun _ => ⟨fun c => absurd c n1, fun _ => ⟨(Or.inl rfl), ⟨fun _ => ((h.2 c1).2 c2), fun c => absurd (by decide : (0 : Int) = 0) c⟩⟩⟩⟩)⟩⟩⟩⟩⟩)⟩)

theorem v_M_at_0 (d : Nat) (p1 p2 p3 : Int) (σ : am_S) (K : Int → am_S → Prop) (hF : MF σ) (hT : sI σ 31 26 = 0) (h :
  (-2147483648 ≤ (sI σ 31 16) - 1 ∧ (sI σ 31 16) - 1 < 2147483648) ∧
  ((p1 < 0 →
    K (-1001) σ) ∧
  (¬ (p1 < 0) →
    ((((sI σ 31 16) - 1) < p1 →
      K (-1001) σ) ∧
    (¬ (((sI σ 31 16) - 1) < p1) →
      ((p2 < 0 →
        K (-1001) σ) ∧
      (¬ (p2 < 0) →
        ((1 < p2 →
          K (-1001) σ) ∧
        (¬ (1 < p2) →
          am_Calls PP MLL (d + 3) m_M_placeFault [qr (31, 12, 89), qi p1, qi p2, qi p3] σ (kI fun x5 s5 =>
            (MF s5 ∧ sI s5 31 26 = 0) ∧
            ((x5 = 0 →
              (-2147483648 ≤ 2 * p1 ∧ 2 * p1 < 2147483648 ∧ -2147483648 ≤ (2 * p1) + p2 ∧ (2 * p1) + p2 < 2147483648 ∧ -2147483648 ≤ 20 * ((2 * p1) + p2) ∧ 20 * ((2 * p1) + p2) < 2147483648 ∧ -2147483648 ≤ (20 * ((2 * p1) + p2)) + p3 ∧ (20 * ((2 * p1) + p2)) + p3 < 2147483648 ∧ 0 ≤ ((20 * ((2 * p1) + p2)) + p3) ∧ ((20 * ((2 * p1) + p2)) + p3) < 480) ∧
              K (sI s5 45 (Int.toNat ((20 * ((2 * p1) + p2)) + p3))) s5) ∧
            (¬ (x5 = 0) →
              am_Calls PP MLL (d + 3) m_M_finds [qr (31, 12, 89), qi p1, qi x5] s5 (kI fun x8 s8 =>
                (MF s8 ∧ sI s8 31 26 = 0) ∧
                K x8 s8))))))))))))) : am_Runs PP MLL (d + 3) m_M_at 0 [some (qr (31, 12, 89)), some (qi p1), some (qi p2), some (qi p3), none] [] σ (kI K) := am_wEF_ok (orc [(23, 45, 20, 480)]) 200 (⟨rfl, am_wEF_ok (orc []) 200 (⟨rfl, ⟨⟨h.1.1, h.1.2⟩, am_wEF_ok (orc []) 200 (⟨fun c1 => ⟨(Or.inl rfl), ⟨(Or.inl rfl), ⟨fun _ => (h.2.1 c1), fun c => absurd (by decide : (0 : Int) = 0) c⟩⟩⟩, fun c1 => ⟨fun c2 => ⟨(Or.inl rfl), ⟨(Or.inl rfl), ⟨fun _ => ((h.2.2 c1).1 c2), fun c => absurd (by decide : (0 : Int) = 0) c⟩⟩⟩, fun c2 => ⟨(Or.inr rfl), ⟨(Or.inr rfl), ⟨fun c => absurd c (by decide : ¬ ((1 : Int) = 0)), fun _ => am_wEF_ok (orc []) 200 (am_wEF_ok (orc []) 200 (⟨fun c3 => ⟨(Or.inl rfl), ⟨(Or.inl rfl), ⟨fun _ => (((h.2.2 c1).2 c2).1 c3), fun c => absurd (by decide : (0 : Int) = 0) c⟩⟩⟩, fun c3 => ⟨fun c4 => ⟨(Or.inl rfl), ⟨(Or.inl rfl), ⟨fun _ => ((((h.2.2 c1).2 c2).2 c3).1 c4), fun c => absurd (by decide : (0 : Int) = 0) c⟩⟩⟩, fun c4 => ⟨(Or.inr rfl), ⟨(Or.inr rfl), ⟨fun c => absurd c (by decide : ¬ ((1 : Int) = 0)), fun _ => ⟨rfl, (am_cI ((((h.2.2 c1).2 c2).2 c3).2 c4) fun x5 s5 h5 => ⟨fun c7 => ⟨⟨rfl, (h5.1.1 21)⟩, ⟨⟨(h5.2.1 c7).1.1, (h5.2.1 c7).1.2.1⟩, ⟨⟨(h5.2.1 c7).1.2.2.1, (h5.2.1 c7).1.2.2.2.1⟩, ⟨⟨(h5.2.1 c7).1.2.2.2.2.1, (h5.2.1 c7).1.2.2.2.2.2.1⟩, ⟨⟨(h5.2.1 c7).1.2.2.2.2.2.2.1, (h5.2.1 c7).1.2.2.2.2.2.2.2.1⟩, ⟨⟨rfl, (h5.2.1 c7).1.2.2.2.2.2.2.2.2.1, (h5.2.1 c7).1.2.2.2.2.2.2.2.2.2⟩, (h5.2.1 c7).2⟩⟩⟩⟩⟩⟩, fun c7 => ⟨rfl, (am_cI (h5.2.2 c7) fun x8 s8 h8 => h8.2)⟩⟩)⟩⟩⟩⟩⟩⟩))⟩⟩⟩⟩⟩)⟩⟩)⟩)

theorem v_C_putL_0 (d : Nat) (β μ κ ρ : Nat → Nat) (me : Nat → Nat → Nat) (aH nH aL nL aY nY aS nS n : Nat) (p1 p3 p4 : Int) (σ : am_S) (K : Int → am_S → Prop) (hR : TR σ aH nH aL nL aY nY aS nS) (hB : BS σ β μ κ ρ me n) (h :
  ((p1 < 0 →
    K (-1001) σ) ∧
  (¬ (p1 < 0) →
    (((sI σ 2 5) ≤ p1 →
      K (-1001) σ) ∧
    (¬ ((sI σ 2 5) ≤ p1) →
      ((p4 = (-1) →
        (0 ≤ p1 ∧ p1 < 12 ∧ (Int.toNat p1) < n) ∧
        am_Calls PP MLL (d + 3) m_C_withoutPlace [qr (β (Int.toNat p1), 0, 9), qi 0, qi p3] σ (kI fun x4 s4 =>
          (TR s4 aH nH aL nL aY nY aS nS ∧ BS s4 β μ κ ρ me n) ∧
          ((x4 = 0 →
            (0 ≤ p3 ∧ p3 < 20) ∧
            K (sI s4 (ρ (Int.toNat p1) + 1) (Int.toNat p3)) (putI s4 (ρ (Int.toNat p1) + 1) (Int.toNat p3) p4)) ∧
          (¬ (x4 = 0) →
            am_Calls PP MLL (d + 3) m_C_found [qr (2, 11, 10), qi p1, qi x4] s4 (kI fun x6 s6 =>
              (TR s6 aH nH aL nL aY nY aS nS ∧ BS s6 β μ κ ρ me n) ∧
              K x6 s6))))) ∧
      (¬ (p4 = (-1)) →
        ((p4 < 0 →
          K (-1001) σ) ∧
        (¬ (p4 < 0) →
          (((sI σ 3 0) ≤ p4 →
            K (-1001) σ) ∧
          (¬ ((sI σ 3 0) ≤ p4) →
            (0 ≤ p1 ∧ p1 < 12 ∧ (Int.toNat p1) < n) ∧
            am_Calls PP MLL (d + 3) m_C_withoutPlace [qr (β (Int.toNat p1), 0, 9), qi 0, qi p3] σ (kI fun x9 s9 =>
              (TR s9 aH nH aL nL aY nY aS nS ∧ BS s9 β μ κ ρ me n) ∧
              ((x9 = 0 →
                (0 ≤ p3 ∧ p3 < 20) ∧
                K (sI s9 (ρ (Int.toNat p1) + 1) (Int.toNat p3)) (putI s9 (ρ (Int.toNat p1) + 1) (Int.toNat p3) p4)) ∧
              (¬ (x9 = 0) →
                am_Calls PP MLL (d + 3) m_C_found [qr (2, 11, 10), qi p1, qi x9] s9 (kI fun x11 s11 =>
                  (TR s11 aH nH aL nL aY nY aS nS ∧ BS s11 β μ κ ρ me n) ∧
                  K x11 s11))))))))))))))) : am_Runs PP MLL (d + 3) m_C_put 0 [some (qr (2, 11, 10)), some (qi p1), some (qi 0), some (qi p3), some (qi p4), none, none, none] [] σ (kI K) := am_wEF_ok (orc [(17, 9, 22, 12), (19, β (Int.toNat p1), 0, 9), (32, 9, 22, 12), (34, β (Int.toNat p1), 0, 9), (39, ρ (Int.toNat p1) + 1, 20, 20), (44, ρ (Int.toNat p1) + 1, 20, 20)]) 200 (⟨rfl, am_wEF_ok (orc []) 200 (⟨fun c1 => ⟨(Or.inl rfl), ⟨fun _ => (h.1 c1), fun c => absurd (by decide : (0 : Int) = 0) c⟩⟩, fun c1 => ⟨rfl, ⟨fun c2 => ⟨(Or.inl rfl), ⟨fun _ => ((h.2 c1).1 c2), fun c => absurd (by decide : (0 : Int) = 0) c⟩⟩, fun c2 => ⟨(Or.inr rfl), ⟨fun c => absurd c (by decide : ¬ ((1 : Int) = 0)), fun _ => am_wEF_ok (orc []) 200 (⟨fun _ => ⟨(Or.inr rfl), ⟨fun c => absurd c (by decide : ¬ ((1 : Int) = 0)), fun _ => ⟨fun c3 => ⟨⟨rfl, (hR.1 2 1 _ rfl)⟩, ⟨⟨rfl, (((h.2 c1).2 c2).1 c3).1.1, (((h.2 c1).2 c2).1 c3).1.2.1, (hB (Int.toNat p1) (((h.2 c1).2 c2).1 c3).1.2.2).1⟩, (am_cI (((h.2 c1).2 c2).1 c3).2 fun x4 s4 h4 => ⟨fun c5 => ⟨⟨rfl, (h4.1.1.1 2 1 _ rfl)⟩, ⟨⟨rfl, (((h.2 c1).2 c2).1 c3).1.1, (((h.2 c1).2 c2).1 c3).1.2.1, (h4.1.2 (Int.toNat p1) (((h.2 c1).2 c2).1 c3).1.2.2).1⟩, ⟨rfl, am_wEF_ok (orc [(3, ρ (Int.toNat p1), 2, 2)]) 200 (⟨fun _ => ⟨⟨rfl, (h4.1.2 (Int.toNat p1) (((h.2 c1).2 c2).1 c3).1.2.2).2.2.2.1⟩, ⟨⟨rfl, (h4.1.2 (Int.toNat p1) (((h.2 c1).2 c2).1 c3).1.2.2).2.2.2.2.2.1⟩, ⟨⟨rfl, (h4.2.1 c5).1.1, (h4.2.1 c5).1.2⟩, ⟨⟨rfl, (h4.1.2 (Int.toNat p1) (((h.2 c1).2 c2).1 c3).1.2.2).2.2.2.2.2.1⟩, ⟨⟨rfl, (h4.2.1 c5).1.1, (h4.2.1 c5).1.2⟩, (h4.2.1 c5).2⟩⟩⟩⟩⟩, fun c => absurd (by decide : (0 : Int) = 0) c⟩)⟩⟩⟩, fun c5 => ⟨rfl, (am_cI (h4.2.2 c5) fun x6 s6 h6 => h6.2)⟩⟩)⟩⟩, fun c3 => ⟨rfl, am_wEF_ok (orc [(4, 3, 9, 11)]) 200 (⟨fun c7 => ⟨(Or.inl rfl), ⟨fun _ => ((((h.2 c1).2 c2).2 c3).1 c7), fun c => absurd (by decide : (0 : Int) = 0) c⟩⟩, fun c7 => ⟨⟨rfl, (hR.1 2 0 _ rfl)⟩, ⟨rfl, ⟨fun c8 => ⟨(Or.inl rfl), ⟨fun _ => (((((h.2 c1).2 c2).2 c3).2 c7).1 c8), fun c => absurd (by decide : (0 : Int) = 0) c⟩⟩, fun c8 => ⟨(Or.inr rfl), ⟨fun c => absurd c (by decide : ¬ ((1 : Int) = 0)), fun _ => ⟨⟨rfl, (hR.1 2 1 _ rfl)⟩, ⟨⟨rfl, (((((h.2 c1).2 c2).2 c3).2 c7).2 c8).1.1, (((((h.2 c1).2 c2).2 c3).2 c7).2 c8).1.2.1, (hB (Int.toNat p1) (((((h.2 c1).2 c2).2 c3).2 c7).2 c8).1.2.2).1⟩, (am_cI (((((h.2 c1).2 c2).2 c3).2 c7).2 c8).2 fun x9 s9 h9 => ⟨fun c10 => ⟨⟨rfl, (h9.1.1.1 2 1 _ rfl)⟩, ⟨⟨rfl, (((((h.2 c1).2 c2).2 c3).2 c7).2 c8).1.1, (((((h.2 c1).2 c2).2 c3).2 c7).2 c8).1.2.1, (h9.1.2 (Int.toNat p1) (((((h.2 c1).2 c2).2 c3).2 c7).2 c8).1.2.2).1⟩, ⟨rfl, am_wEF_ok (orc [(3, ρ (Int.toNat p1), 2, 2)]) 200 (⟨fun _ => ⟨⟨rfl, (h9.1.2 (Int.toNat p1) (((((h.2 c1).2 c2).2 c3).2 c7).2 c8).1.2.2).2.2.2.1⟩, ⟨⟨rfl, (h9.1.2 (Int.toNat p1) (((((h.2 c1).2 c2).2 c3).2 c7).2 c8).1.2.2).2.2.2.2.2.1⟩, ⟨⟨rfl, (h9.2.1 c10).1.1, (h9.2.1 c10).1.2⟩, ⟨⟨rfl, (h9.1.2 (Int.toNat p1) (((((h.2 c1).2 c2).2 c3).2 c7).2 c8).1.2.2).2.2.2.2.2.1⟩, ⟨⟨rfl, (h9.2.1 c10).1.1, (h9.2.1 c10).1.2⟩, (h9.2.1 c10).2⟩⟩⟩⟩⟩, fun c => absurd (by decide : (0 : Int) = 0) c⟩)⟩⟩⟩, fun c10 => ⟨rfl, (am_cI (h9.2.2 c10) fun x11 s11 h11 => h11.2)⟩⟩)⟩⟩⟩⟩⟩⟩⟩⟩)⟩⟩⟩⟩, fun c => absurd (by decide : (0 : Int) = 0) c⟩)⟩⟩⟩⟩⟩)⟩)

theorem v_C_putR_0 (d : Nat) (β μ κ ρ : Nat → Nat) (me : Nat → Nat → Nat) (aH nH aL nL aY nY aS nS n : Nat) (p1 p3 p4 : Int) (σ : am_S) (K : Int → am_S → Prop) (hR : TR σ aH nH aL nL aY nY aS nS) (hB : BS σ β μ κ ρ me n) (h :
  ((p1 < 0 →
    K (-1001) σ) ∧
  (¬ (p1 < 0) →
    (((sI σ 2 5) ≤ p1 →
      K (-1001) σ) ∧
    (¬ ((sI σ 2 5) ≤ p1) →
      ((p4 = (-1) →
        (0 ≤ p1 ∧ p1 < 12 ∧ (Int.toNat p1) < n) ∧
        am_Calls PP MLL (d + 3) m_C_withoutPlace [qr (β (Int.toNat p1), 0, 9), qi 1, qi p3] σ (kI fun x4 s4 =>
          (TR s4 aH nH aL nL aY nY aS nS ∧ BS s4 β μ κ ρ me n) ∧
          ((x4 = 0 →
            (0 ≤ p3 ∧ p3 < 20) ∧
            K (sI s4 (ρ (Int.toNat p1) + 3) (Int.toNat p3)) (putI s4 (ρ (Int.toNat p1) + 3) (Int.toNat p3) p4)) ∧
          (¬ (x4 = 0) →
            am_Calls PP MLL (d + 3) m_C_found [qr (2, 11, 10), qi p1, qi x4] s4 (kI fun x6 s6 =>
              (TR s6 aH nH aL nL aY nY aS nS ∧ BS s6 β μ κ ρ me n) ∧
              K x6 s6))))) ∧
      (¬ (p4 = (-1)) →
        ((p4 < 0 →
          K (-1001) σ) ∧
        (¬ (p4 < 0) →
          (((sI σ 3 0) ≤ p4 →
            K (-1001) σ) ∧
          (¬ ((sI σ 3 0) ≤ p4) →
            (0 ≤ p1 ∧ p1 < 12 ∧ (Int.toNat p1) < n) ∧
            am_Calls PP MLL (d + 3) m_C_withoutPlace [qr (β (Int.toNat p1), 0, 9), qi 1, qi p3] σ (kI fun x9 s9 =>
              (TR s9 aH nH aL nL aY nY aS nS ∧ BS s9 β μ κ ρ me n) ∧
              ((x9 = 0 →
                (0 ≤ p3 ∧ p3 < 20) ∧
                K (sI s9 (ρ (Int.toNat p1) + 3) (Int.toNat p3)) (putI s9 (ρ (Int.toNat p1) + 3) (Int.toNat p3) p4)) ∧
              (¬ (x9 = 0) →
                am_Calls PP MLL (d + 3) m_C_found [qr (2, 11, 10), qi p1, qi x9] s9 (kI fun x11 s11 =>
                  (TR s11 aH nH aL nL aY nY aS nS ∧ BS s11 β μ κ ρ me n) ∧
                  K x11 s11))))))))))))))) : am_Runs PP MLL (d + 3) m_C_put 0 [some (qr (2, 11, 10)), some (qi p1), some (qi 1), some (qi p3), some (qi p4), none, none, none] [] σ (kI K) := am_wEF_ok (orc [(17, 9, 22, 12), (19, β (Int.toNat p1), 0, 9), (32, 9, 22, 12), (34, β (Int.toNat p1), 0, 9), (39, ρ (Int.toNat p1) + 3, 20, 20), (44, ρ (Int.toNat p1) + 3, 20, 20)]) 200 (⟨rfl, am_wEF_ok (orc []) 200 (⟨fun c1 => ⟨(Or.inl rfl), ⟨fun _ => (h.1 c1), fun c => absurd (by decide : (0 : Int) = 0) c⟩⟩, fun c1 => ⟨rfl, ⟨fun c2 => ⟨(Or.inl rfl), ⟨fun _ => ((h.2 c1).1 c2), fun c => absurd (by decide : (0 : Int) = 0) c⟩⟩, fun c2 => ⟨(Or.inr rfl), ⟨fun c => absurd c (by decide : ¬ ((1 : Int) = 0)), fun _ => am_wEF_ok (orc []) 200 (⟨fun c => absurd c (by decide : ¬ ((1 : Int) = 0)), fun _ => ⟨fun _ => ⟨(Or.inr rfl), ⟨fun c => absurd c (by decide : ¬ ((1 : Int) = 0)), fun _ => ⟨fun c3 => ⟨⟨rfl, (hR.1 2 1 _ rfl)⟩, ⟨⟨rfl, (((h.2 c1).2 c2).1 c3).1.1, (((h.2 c1).2 c2).1 c3).1.2.1, (hB (Int.toNat p1) (((h.2 c1).2 c2).1 c3).1.2.2).1⟩, (am_cI (((h.2 c1).2 c2).1 c3).2 fun x4 s4 h4 => ⟨fun c5 => ⟨⟨rfl, (h4.1.1.1 2 1 _ rfl)⟩, ⟨⟨rfl, (((h.2 c1).2 c2).1 c3).1.1, (((h.2 c1).2 c2).1 c3).1.2.1, (h4.1.2 (Int.toNat p1) (((h.2 c1).2 c2).1 c3).1.2.2).1⟩, ⟨rfl, am_wEF_ok (orc [(6, ρ (Int.toNat p1) + 2, 2, 2)]) 200 (⟨fun c => absurd c (by decide : ¬ ((1 : Int) = 0)), fun _ => ⟨⟨rfl, (h4.1.2 (Int.toNat p1) (((h.2 c1).2 c2).1 c3).1.2.2).2.2.2.2.1⟩, ⟨⟨rfl, (h4.1.2 (Int.toNat p1) (((h.2 c1).2 c2).1 c3).1.2.2).2.2.2.2.2.2.1⟩, ⟨⟨rfl, (h4.2.1 c5).1.1, (h4.2.1 c5).1.2⟩, ⟨⟨rfl, (h4.1.2 (Int.toNat p1) (((h.2 c1).2 c2).1 c3).1.2.2).2.2.2.2.2.2.1⟩, ⟨⟨rfl, (h4.2.1 c5).1.1, (h4.2.1 c5).1.2⟩, (h4.2.1 c5).2⟩⟩⟩⟩⟩⟩)⟩⟩⟩, fun c5 => ⟨rfl, (am_cI (h4.2.2 c5) fun x6 s6 h6 => h6.2)⟩⟩)⟩⟩, fun c3 => ⟨rfl, am_wEF_ok (orc [(4, 3, 9, 11)]) 200 (⟨fun c7 => ⟨(Or.inl rfl), ⟨fun _ => ((((h.2 c1).2 c2).2 c3).1 c7), fun c => absurd (by decide : (0 : Int) = 0) c⟩⟩, fun c7 => ⟨⟨rfl, (hR.1 2 0 _ rfl)⟩, ⟨rfl, ⟨fun c8 => ⟨(Or.inl rfl), ⟨fun _ => (((((h.2 c1).2 c2).2 c3).2 c7).1 c8), fun c => absurd (by decide : (0 : Int) = 0) c⟩⟩, fun c8 => ⟨(Or.inr rfl), ⟨fun c => absurd c (by decide : ¬ ((1 : Int) = 0)), fun _ => ⟨⟨rfl, (hR.1 2 1 _ rfl)⟩, ⟨⟨rfl, (((((h.2 c1).2 c2).2 c3).2 c7).2 c8).1.1, (((((h.2 c1).2 c2).2 c3).2 c7).2 c8).1.2.1, (hB (Int.toNat p1) (((((h.2 c1).2 c2).2 c3).2 c7).2 c8).1.2.2).1⟩, (am_cI (((((h.2 c1).2 c2).2 c3).2 c7).2 c8).2 fun x9 s9 h9 => ⟨fun c10 => ⟨⟨rfl, (h9.1.1.1 2 1 _ rfl)⟩, ⟨⟨rfl, (((((h.2 c1).2 c2).2 c3).2 c7).2 c8).1.1, (((((h.2 c1).2 c2).2 c3).2 c7).2 c8).1.2.1, (h9.1.2 (Int.toNat p1) (((((h.2 c1).2 c2).2 c3).2 c7).2 c8).1.2.2).1⟩, ⟨rfl, am_wEF_ok (orc [(6, ρ (Int.toNat p1) + 2, 2, 2)]) 200 (⟨fun c => absurd c (by decide : ¬ ((1 : Int) = 0)), fun _ => ⟨⟨rfl, (h9.1.2 (Int.toNat p1) (((((h.2 c1).2 c2).2 c3).2 c7).2 c8).1.2.2).2.2.2.2.1⟩, ⟨⟨rfl, (h9.1.2 (Int.toNat p1) (((((h.2 c1).2 c2).2 c3).2 c7).2 c8).1.2.2).2.2.2.2.2.2.1⟩, ⟨⟨rfl, (h9.2.1 c10).1.1, (h9.2.1 c10).1.2⟩, ⟨⟨rfl, (h9.1.2 (Int.toNat p1) (((((h.2 c1).2 c2).2 c3).2 c7).2 c8).1.2.2).2.2.2.2.2.2.1⟩, ⟨⟨rfl, (h9.2.1 c10).1.1, (h9.2.1 c10).1.2⟩, (h9.2.1 c10).2⟩⟩⟩⟩⟩⟩)⟩⟩⟩, fun c10 => ⟨rfl, (am_cI (h9.2.2 c10) fun x11 s11 h11 => h11.2)⟩⟩)⟩⟩⟩⟩⟩⟩⟩⟩)⟩⟩⟩⟩, fun c => absurd (by decide : (1 : Int) = 1) c⟩⟩)⟩⟩⟩⟩⟩)⟩)

theorem v_C_putX_0 (d : Nat) (β μ κ ρ : Nat → Nat) (me : Nat → Nat → Nat) (aH nH aL nL aY nY aS nS n : Nat) (p1 p2 p3 p4 : Int) (σ : am_S) (K : Int → am_S → Prop) (hR : TR σ aH nH aL nL aY nY aS nS) (hB : BS σ β μ κ ρ me n) (n0 : ¬ (p2 = 0)) (n1 : ¬ (p2 = 1)) (h :
  ((p1 < 0 →
    K (-1001) σ) ∧
  (¬ (p1 < 0) →
    (((sI σ 2 5) ≤ p1 →
      K (-1001) σ) ∧
    (¬ ((sI σ 2 5) ≤ p1) →
      K (-1001) σ))))) : am_Runs PP MLL (d + 3) m_C_put 0 [some (qr (2, 11, 10)), some (qi p1), some (qi p2), some (qi p3), some (qi p4), none, none, none] [] σ (kI K) := am_wEF_ok (orc []) 200 (⟨rfl, am_wEF_ok (orc []) 200 (⟨fun c1 => ⟨(Or.inl rfl), ⟨fun _ => (h.1 c1), fun c => absurd (by decide : (0 : Int) = 0) c⟩⟩, fun c1 => ⟨rfl, ⟨fun c2 => ⟨(Or.inl rfl), ⟨fun _ => ((h.2 c1).1 c2), fun c => absurd (by decide : (0 : Int) = 0) c⟩⟩, fun c2 => ⟨(Or.inr rfl), ⟨fun c => absurd c (by decide : ¬ ((1 : Int) = 0)), fun _ => am_wEF_ok (orc []) 200 (⟨fun c => absurd c n0, fun _ => ⟨fun c => absurd c n1, fun _ => ⟨(Or.inl rfl), ⟨fun _ => ((h.2 c1).2 c2), fun c => absurd (by decide : (0 : Int) = 0) c⟩⟩⟩⟩)⟩⟩⟩⟩⟩)⟩)

theorem v_M_put_0 (d : Nat) (p1 p2 p3 p4 : Int) (σ : am_S) (K : Int → am_S → Prop) (hF : MF σ) (hT : sI σ 31 26 = 0) (h :
  (-2147483648 ≤ (sI σ 31 16) - 1 ∧ (sI σ 31 16) - 1 < 2147483648) ∧
  ((p1 < 0 →
    K (-1001) σ) ∧
  (¬ (p1 < 0) →
    ((((sI σ 31 16) - 1) < p1 →
      K (-1001) σ) ∧
    (¬ (((sI σ 31 16) - 1) < p1) →
      ((p2 < 0 →
        K (-1001) σ) ∧
      (¬ (p2 < 0) →
        ((1 < p2 →
          K (-1001) σ) ∧
        (¬ (1 < p2) →
          ((p4 = (-1) →
            am_Calls PP MLL (d + 3) m_M_placeFault [qr (31, 12, 89), qi p1, qi p2, qi p3] σ (kI fun x6 s6 =>
              (MF s6 ∧ sI s6 31 26 = 0) ∧
              ((x6 = 0 →
                (-2147483648 ≤ 2 * p1 ∧ 2 * p1 < 2147483648 ∧ -2147483648 ≤ (2 * p1) + p2 ∧ (2 * p1) + p2 < 2147483648 ∧ -2147483648 ≤ 20 * ((2 * p1) + p2) ∧ 20 * ((2 * p1) + p2) < 2147483648 ∧ -2147483648 ≤ (20 * ((2 * p1) + p2)) + p3 ∧ (20 * ((2 * p1) + p2)) + p3 < 2147483648 ∧ 0 ≤ ((20 * ((2 * p1) + p2)) + p3) ∧ ((20 * ((2 * p1) + p2)) + p3) < 480) ∧
                K (sI s6 45 (Int.toNat ((20 * ((2 * p1) + p2)) + p3))) (putI s6 45 (Int.toNat ((20 * ((2 * p1) + p2)) + p3)) p4)) ∧
              (¬ (x6 = 0) →
                am_Calls PP MLL (d + 3) m_M_finds [qr (31, 12, 89), qi p1, qi x6] s6 (kI fun x8 s8 =>
                  (MF s8 ∧ sI s8 31 26 = 0) ∧
                  K x8 s8))))) ∧
          (¬ (p4 = (-1)) →
            (-2147483648 ≤ (sI σ 31 2) - 1 ∧ (sI σ 31 2) - 1 < 2147483648) ∧
            ((p4 < 0 →
              K (-1001) σ) ∧
            (¬ (p4 < 0) →
              ((((sI σ 31 2) - 1) < p4 →
                K (-1001) σ) ∧
              (¬ (((sI σ 31 2) - 1) < p4) →
                am_Calls PP MLL (d + 3) m_M_placeFault [qr (31, 12, 89), qi p1, qi p2, qi p3] σ (kI fun x11 s11 =>
                  (MF s11 ∧ sI s11 31 26 = 0) ∧
                  ((x11 = 0 →
                    (-2147483648 ≤ 2 * p1 ∧ 2 * p1 < 2147483648 ∧ -2147483648 ≤ (2 * p1) + p2 ∧ (2 * p1) + p2 < 2147483648 ∧ -2147483648 ≤ 20 * ((2 * p1) + p2) ∧ 20 * ((2 * p1) + p2) < 2147483648 ∧ -2147483648 ≤ (20 * ((2 * p1) + p2)) + p3 ∧ (20 * ((2 * p1) + p2)) + p3 < 2147483648 ∧ 0 ≤ ((20 * ((2 * p1) + p2)) + p3) ∧ ((20 * ((2 * p1) + p2)) + p3) < 480) ∧
                    K (sI s11 45 (Int.toNat ((20 * ((2 * p1) + p2)) + p3))) (putI s11 45 (Int.toNat ((20 * ((2 * p1) + p2)) + p3)) p4)) ∧
                  (¬ (x11 = 0) →
                    am_Calls PP MLL (d + 3) m_M_finds [qr (31, 12, 89), qi p1, qi x11] s11 (kI fun x13 s13 =>
                      (MF s13 ∧ sI s13 31 26 = 0) ∧
                      K x13 s13))))))))))))))))))) : am_Runs PP MLL (d + 3) m_M_put 0 [some (qr (31, 12, 89)), some (qi p1), some (qi p2), some (qi p3), some (qi p4), none, none, none] [] σ (kI K) := am_wEF_ok (orc [(40, 45, 20, 480), (45, 45, 20, 480)]) 200 (⟨rfl, am_wEF_ok (orc []) 200 (⟨rfl, ⟨⟨h.1.1, h.1.2⟩, am_wEF_ok (orc []) 200 (⟨fun c1 => ⟨(Or.inl rfl), ⟨(Or.inl rfl), ⟨fun _ => (h.2.1 c1), fun c => absurd (by decide : (0 : Int) = 0) c⟩⟩⟩, fun c1 => ⟨fun c2 => ⟨(Or.inl rfl), ⟨(Or.inl rfl), ⟨fun _ => ((h.2.2 c1).1 c2), fun c => absurd (by decide : (0 : Int) = 0) c⟩⟩⟩, fun c2 => ⟨(Or.inr rfl), ⟨(Or.inr rfl), ⟨fun c => absurd c (by decide : ¬ ((1 : Int) = 0)), fun _ => am_wEF_ok (orc []) 200 (am_wEF_ok (orc []) 200 (⟨fun c3 => ⟨(Or.inl rfl), ⟨(Or.inl rfl), ⟨fun _ => (((h.2.2 c1).2 c2).1 c3), fun c => absurd (by decide : (0 : Int) = 0) c⟩⟩⟩, fun c3 => ⟨fun c4 => ⟨(Or.inl rfl), ⟨(Or.inl rfl), ⟨fun _ => ((((h.2.2 c1).2 c2).2 c3).1 c4), fun c => absurd (by decide : (0 : Int) = 0) c⟩⟩⟩, fun c4 => ⟨(Or.inr rfl), ⟨(Or.inr rfl), ⟨fun c => absurd c (by decide : ¬ ((1 : Int) = 0)), fun _ => ⟨fun c5 => ⟨rfl, (am_cI (((((h.2.2 c1).2 c2).2 c3).2 c4).1 c5) fun x6 s6 h6 => ⟨fun c7 => ⟨⟨(h6.2.1 c7).1.1, (h6.2.1 c7).1.2.1⟩, ⟨⟨(h6.2.1 c7).1.2.2.1, (h6.2.1 c7).1.2.2.2.1⟩, ⟨⟨(h6.2.1 c7).1.2.2.2.2.1, (h6.2.1 c7).1.2.2.2.2.2.1⟩, ⟨⟨(h6.2.1 c7).1.2.2.2.2.2.2.1, (h6.2.1 c7).1.2.2.2.2.2.2.2.1⟩, ⟨⟨rfl, (h6.1.1 21)⟩, ⟨⟨rfl, (h6.2.1 c7).1.2.2.2.2.2.2.2.2.1, (h6.2.1 c7).1.2.2.2.2.2.2.2.2.2⟩, ⟨⟨rfl, (h6.1.1 21)⟩, ⟨⟨rfl, (h6.2.1 c7).1.2.2.2.2.2.2.2.2.1, (h6.2.1 c7).1.2.2.2.2.2.2.2.2.2⟩, (h6.2.1 c7).2⟩⟩⟩⟩⟩⟩⟩⟩, fun c7 => ⟨rfl, (am_cI (h6.2.2 c7) fun x8 s8 h8 => h8.2)⟩⟩)⟩, fun c5 => ⟨rfl, am_wEF_ok (orc []) 200 (⟨rfl, ⟨⟨(((((h.2.2 c1).2 c2).2 c3).2 c4).2 c5).1.1, (((((h.2.2 c1).2 c2).2 c3).2 c4).2 c5).1.2⟩, am_wEF_ok (orc []) 200 (⟨fun c9 => ⟨(Or.inl rfl), ⟨(Or.inl rfl), ⟨fun _ => ((((((h.2.2 c1).2 c2).2 c3).2 c4).2 c5).2.1 c9), fun c => absurd (by decide : (0 : Int) = 0) c⟩⟩⟩, fun c9 => ⟨fun c10 => ⟨(Or.inl rfl), ⟨(Or.inl rfl), ⟨fun _ => (((((((h.2.2 c1).2 c2).2 c3).2 c4).2 c5).2.2 c9).1 c10), fun c => absurd (by decide : (0 : Int) = 0) c⟩⟩⟩, fun c10 => ⟨(Or.inr rfl), ⟨(Or.inr rfl), ⟨fun c => absurd c (by decide : ¬ ((1 : Int) = 0)), fun _ => ⟨rfl, (am_cI (((((((h.2.2 c1).2 c2).2 c3).2 c4).2 c5).2.2 c9).2 c10) fun x11 s11 h11 => ⟨fun c12 => ⟨⟨(h11.2.1 c12).1.1, (h11.2.1 c12).1.2.1⟩, ⟨⟨(h11.2.1 c12).1.2.2.1, (h11.2.1 c12).1.2.2.2.1⟩, ⟨⟨(h11.2.1 c12).1.2.2.2.2.1, (h11.2.1 c12).1.2.2.2.2.2.1⟩, ⟨⟨(h11.2.1 c12).1.2.2.2.2.2.2.1, (h11.2.1 c12).1.2.2.2.2.2.2.2.1⟩, ⟨⟨rfl, (h11.1.1 21)⟩, ⟨⟨rfl, (h11.2.1 c12).1.2.2.2.2.2.2.2.2.1, (h11.2.1 c12).1.2.2.2.2.2.2.2.2.2⟩, ⟨⟨rfl, (h11.1.1 21)⟩, ⟨⟨rfl, (h11.2.1 c12).1.2.2.2.2.2.2.2.2.1, (h11.2.1 c12).1.2.2.2.2.2.2.2.2.2⟩, (h11.2.1 c12).2⟩⟩⟩⟩⟩⟩⟩⟩, fun c12 => ⟨rfl, (am_cI (h11.2.2 c12) fun x13 s13 h13 => h13.2)⟩⟩)⟩⟩⟩⟩⟩⟩)⟩⟩)⟩⟩⟩⟩⟩⟩⟩))⟩⟩⟩⟩⟩)⟩⟩)⟩)

theorem v_C_unpanL_0 (d : Nat) (β μ κ ρ : Nat → Nat) (me : Nat → Nat → Nat) (aH nH aL nL aY nY aS nS n : Nat) (p1 : Int) (σ : am_S) (K : Int → am_S → Prop) (hR : TR σ aH nH aL nL aY nY aS nS) (hB : BS σ β μ κ ρ me n) (h :
  ((p1 < 0 →
    K (-1001) σ) ∧
  (¬ (p1 < 0) →
    (((sI σ 2 5) ≤ p1 →
      K (-1001) σ) ∧
    (¬ ((sI σ 2 5) ≤ p1) →
      (0 ≤ p1 ∧ p1 < 12 ∧ (Int.toNat p1) < n) ∧
      am_Calls PP MLL (d + 2) m_C_withoutPan [qr (β (Int.toNat p1), 0, 9), qi 0] σ (kI fun x3 s3 =>
        (TR s3 aH nH aL nL aY nY aS nS ∧ BS s3 β μ κ ρ me n) ∧
        ((x3 = 0 →
          K (sI s3 (ρ (Int.toNat p1)) 1) (putI s3 (ρ (Int.toNat p1)) 1 (-1))) ∧
        (¬ (x3 = 0) →
          am_Calls PP MLL (d + 2) m_C_found [qr (2, 11, 10), qi p1, qi x3] s3 (kI fun x5 s5 =>
            (TR s5 aH nH aL nL aY nY aS nS ∧ BS s5 β μ κ ρ me n) ∧
            K x5 s5))))))))) : am_Runs PP MLL (d + 2) m_C_unpan 0 [some (qr (2, 11, 10)), some (qi p1), some (qi 0), none, none, none] [] σ (kI K) := am_wEF_ok (orc [(10, 9, 22, 12), (12, β (Int.toNat p1), 0, 9), (24, 9, 22, 12), (26, β (Int.toNat p1), 0, 9)]) 200 (⟨rfl, am_wEF_ok (orc []) 200 (⟨fun c1 => ⟨(Or.inl rfl), ⟨fun _ => (h.1 c1), fun c => absurd (by decide : (0 : Int) = 0) c⟩⟩, fun c1 => ⟨rfl, ⟨fun c2 => ⟨(Or.inl rfl), ⟨fun _ => ((h.2 c1).1 c2), fun c => absurd (by decide : (0 : Int) = 0) c⟩⟩, fun c2 => ⟨(Or.inr rfl), ⟨fun c => absurd c (by decide : ¬ ((1 : Int) = 0)), fun _ => am_wEF_ok (orc []) 200 (⟨fun _ => ⟨(Or.inr rfl), ⟨fun c => absurd c (by decide : ¬ ((1 : Int) = 0)), fun _ => ⟨⟨rfl, (hR.1 2 1 _ rfl)⟩, ⟨⟨rfl, ((h.2 c1).2 c2).1.1, ((h.2 c1).2 c2).1.2.1, (hB (Int.toNat p1) ((h.2 c1).2 c2).1.2.2).1⟩, (am_cI ((h.2 c1).2 c2).2 fun x3 s3 h3 => ⟨fun c4 => ⟨⟨rfl, (h3.1.1.1 2 1 _ rfl)⟩, ⟨⟨rfl, ((h.2 c1).2 c2).1.1, ((h.2 c1).2 c2).1.2.1, (h3.1.2 (Int.toNat p1) ((h.2 c1).2 c2).1.2.2).1⟩, ⟨rfl, am_wEF_ok (orc [(3, ρ (Int.toNat p1), 2, 2)]) 200 (⟨fun _ => ⟨⟨rfl, (h3.1.2 (Int.toNat p1) ((h.2 c1).2 c2).1.2.2).2.2.2.1⟩, ⟨rfl, ⟨rfl, (h3.2.1 c4)⟩⟩⟩, fun c => absurd (by decide : (0 : Int) = 0) c⟩)⟩⟩⟩, fun c4 => ⟨rfl, (am_cI (h3.2.2 c4) fun x5 s5 h5 => h5.2)⟩⟩)⟩⟩⟩⟩, fun c => absurd (by decide : (0 : Int) = 0) c⟩)⟩⟩⟩⟩⟩)⟩)

theorem v_C_unpanR_0 (d : Nat) (β μ κ ρ : Nat → Nat) (me : Nat → Nat → Nat) (aH nH aL nL aY nY aS nS n : Nat) (p1 : Int) (σ : am_S) (K : Int → am_S → Prop) (hR : TR σ aH nH aL nL aY nY aS nS) (hB : BS σ β μ κ ρ me n) (h :
  ((p1 < 0 →
    K (-1001) σ) ∧
  (¬ (p1 < 0) →
    (((sI σ 2 5) ≤ p1 →
      K (-1001) σ) ∧
    (¬ ((sI σ 2 5) ≤ p1) →
      (0 ≤ p1 ∧ p1 < 12 ∧ (Int.toNat p1) < n) ∧
      am_Calls PP MLL (d + 2) m_C_withoutPan [qr (β (Int.toNat p1), 0, 9), qi 1] σ (kI fun x3 s3 =>
        (TR s3 aH nH aL nL aY nY aS nS ∧ BS s3 β μ κ ρ me n) ∧
        ((x3 = 0 →
          K (sI s3 (ρ (Int.toNat p1) + 2) 1) (putI s3 (ρ (Int.toNat p1) + 2) 1 (-1))) ∧
        (¬ (x3 = 0) →
          am_Calls PP MLL (d + 2) m_C_found [qr (2, 11, 10), qi p1, qi x3] s3 (kI fun x5 s5 =>
            (TR s5 aH nH aL nL aY nY aS nS ∧ BS s5 β μ κ ρ me n) ∧
            K x5 s5))))))))) : am_Runs PP MLL (d + 2) m_C_unpan 0 [some (qr (2, 11, 10)), some (qi p1), some (qi 1), none, none, none] [] σ (kI K) := am_wEF_ok (orc [(10, 9, 22, 12), (12, β (Int.toNat p1), 0, 9), (24, 9, 22, 12), (26, β (Int.toNat p1), 0, 9)]) 200 (⟨rfl, am_wEF_ok (orc []) 200 (⟨fun c1 => ⟨(Or.inl rfl), ⟨fun _ => (h.1 c1), fun c => absurd (by decide : (0 : Int) = 0) c⟩⟩, fun c1 => ⟨rfl, ⟨fun c2 => ⟨(Or.inl rfl), ⟨fun _ => ((h.2 c1).1 c2), fun c => absurd (by decide : (0 : Int) = 0) c⟩⟩, fun c2 => ⟨(Or.inr rfl), ⟨fun c => absurd c (by decide : ¬ ((1 : Int) = 0)), fun _ => am_wEF_ok (orc []) 200 (⟨fun c => absurd c (by decide : ¬ ((1 : Int) = 0)), fun _ => ⟨fun _ => ⟨(Or.inr rfl), ⟨fun c => absurd c (by decide : ¬ ((1 : Int) = 0)), fun _ => ⟨⟨rfl, (hR.1 2 1 _ rfl)⟩, ⟨⟨rfl, ((h.2 c1).2 c2).1.1, ((h.2 c1).2 c2).1.2.1, (hB (Int.toNat p1) ((h.2 c1).2 c2).1.2.2).1⟩, (am_cI ((h.2 c1).2 c2).2 fun x3 s3 h3 => ⟨fun c4 => ⟨⟨rfl, (h3.1.1.1 2 1 _ rfl)⟩, ⟨⟨rfl, ((h.2 c1).2 c2).1.1, ((h.2 c1).2 c2).1.2.1, (h3.1.2 (Int.toNat p1) ((h.2 c1).2 c2).1.2.2).1⟩, ⟨rfl, am_wEF_ok (orc [(6, ρ (Int.toNat p1) + 2, 2, 2)]) 200 (⟨fun c => absurd c (by decide : ¬ ((1 : Int) = 0)), fun _ => ⟨⟨rfl, (h3.1.2 (Int.toNat p1) ((h.2 c1).2 c2).1.2.2).2.2.2.2.1⟩, ⟨rfl, ⟨rfl, (h3.2.1 c4)⟩⟩⟩⟩)⟩⟩⟩, fun c4 => ⟨rfl, (am_cI (h3.2.2 c4) fun x5 s5 h5 => h5.2)⟩⟩)⟩⟩⟩⟩, fun c => absurd (by decide : (1 : Int) = 1) c⟩⟩)⟩⟩⟩⟩⟩)⟩)

theorem v_C_unpanX_0 (d : Nat) (β μ κ ρ : Nat → Nat) (me : Nat → Nat → Nat) (aH nH aL nL aY nY aS nS n : Nat) (p1 p2 : Int) (σ : am_S) (K : Int → am_S → Prop) (hR : TR σ aH nH aL nL aY nY aS nS) (hB : BS σ β μ κ ρ me n) (n0 : ¬ (p2 = 0)) (n1 : ¬ (p2 = 1)) (h :
  ((p1 < 0 →
    K (-1001) σ) ∧
  (¬ (p1 < 0) →
    (((sI σ 2 5) ≤ p1 →
      K (-1001) σ) ∧
    (¬ ((sI σ 2 5) ≤ p1) →
      K (-1001) σ))))) : am_Runs PP MLL (d + 2) m_C_unpan 0 [some (qr (2, 11, 10)), some (qi p1), some (qi p2), none, none, none] [] σ (kI K) := am_wEF_ok (orc []) 200 (⟨rfl, am_wEF_ok (orc []) 200 (⟨fun c1 => ⟨(Or.inl rfl), ⟨fun _ => (h.1 c1), fun c => absurd (by decide : (0 : Int) = 0) c⟩⟩, fun c1 => ⟨rfl, ⟨fun c2 => ⟨(Or.inl rfl), ⟨fun _ => ((h.2 c1).1 c2), fun c => absurd (by decide : (0 : Int) = 0) c⟩⟩, fun c2 => ⟨(Or.inr rfl), ⟨fun c => absurd c (by decide : ¬ ((1 : Int) = 0)), fun _ => am_wEF_ok (orc []) 200 (⟨fun c => absurd c n0, fun _ => ⟨fun c => absurd c n1, fun _ => ⟨(Or.inl rfl), ⟨fun _ => ((h.2 c1).2 c2), fun c => absurd (by decide : (0 : Int) = 0) c⟩⟩⟩⟩)⟩⟩⟩⟩⟩)⟩)

theorem v_M_unpan_0 (d : Nat) (p1 p2 : Int) (σ : am_S) (K : Int → am_S → Prop) (hF : MF σ) (hT : sI σ 31 26 = 0) (h :
  (-2147483648 ≤ (sI σ 31 16) - 1 ∧ (sI σ 31 16) - 1 < 2147483648) ∧
  ((p1 < 0 →
    K (-1001) σ) ∧
  (¬ (p1 < 0) →
    ((((sI σ 31 16) - 1) < p1 →
      K (-1001) σ) ∧
    (¬ (((sI σ 31 16) - 1) < p1) →
      ((p2 < 0 →
        K (-1001) σ) ∧
      (¬ (p2 < 0) →
        ((1 < p2 →
          K (-1001) σ) ∧
        (¬ (1 < p2) →
          am_Calls PP MLL (d + 2) m_M_panFault [qr (31, 12, 89), qi p1] σ (kI fun x5 s5 =>
            (MF s5 ∧ sI s5 31 26 = 0) ∧
            (((x5 = 0) → -2147483648 ≤ 2 * p1) ∧ ((x5 = 0) → 2 * p1 < 2147483648) ∧ ((x5 = 0) → -2147483648 ≤ (2 * p1) + p2) ∧ ((x5 = 0) → (2 * p1) + p2 < 2147483648) ∧ ((x5 = 0) → 0 ≤ ((2 * p1) + p2)) ∧ ((x5 = 0) → ((2 * p1) + p2) < 24)) ∧
            (((if x5 = 0 then (if 0 ≤ (sI s5 44 (Int.toNat ((2 * p1) + p2))) then (x5 : Int) else 2 : Int) else x5) = 0 →
              (-2147483648 ≤ 2 * p1 ∧ 2 * p1 < 2147483648 ∧ -2147483648 ≤ (2 * p1) + p2 ∧ (2 * p1) + p2 < 2147483648 ∧ 0 ≤ ((2 * p1) + p2) ∧ ((2 * p1) + p2) < 24) ∧
              K (sI s5 44 (Int.toNat ((2 * p1) + p2))) (putI s5 44 (Int.toNat ((2 * p1) + p2)) (-1))) ∧
            (¬ ((if x5 = 0 then (if 0 ≤ (sI s5 44 (Int.toNat ((2 * p1) + p2))) then (x5 : Int) else 2 : Int) else x5) = 0) →
              am_Calls PP MLL (d + 2) m_M_finds [qr (31, 12, 89), qi p1, qi (if x5 = 0 then (if 0 ≤ (sI s5 44 (Int.toNat ((2 * p1) + p2))) then (x5 : Int) else 2 : Int) else x5)] s5 (kI fun x9 s9 =>
                (MF s9 ∧ sI s9 31 26 = 0) ∧
                K x9 s9))))))))))))) : am_Runs PP MLL (d + 2) m_M_unpan 0 [some (qr (31, 12, 89)), some (qi p1), some (qi p2), none, none] [] σ (kI K) := am_wEC_ok (orc [(16, 44, 20, 24)]) [27] 200 (⟨rfl, am_wEF_ok (orc []) 200 (⟨rfl, ⟨⟨h.1.1, h.1.2⟩, am_wEF_ok (orc []) 200 (⟨fun c1 => ⟨(Or.inl rfl), ⟨(Or.inl rfl), ⟨fun _ => (h.2.1 c1), fun c => absurd (by decide : (0 : Int) = 0) c⟩⟩⟩, fun c1 => ⟨fun c2 => ⟨(Or.inl rfl), ⟨(Or.inl rfl), ⟨fun _ => ((h.2.2 c1).1 c2), fun c => absurd (by decide : (0 : Int) = 0) c⟩⟩⟩, fun c2 => ⟨(Or.inr rfl), ⟨(Or.inr rfl), ⟨fun c => absurd c (by decide : ¬ ((1 : Int) = 0)), fun _ => am_wEF_ok (orc []) 200 (am_wEF_ok (orc []) 200 (⟨fun c3 => ⟨(Or.inl rfl), ⟨(Or.inl rfl), ⟨fun _ => (((h.2.2 c1).2 c2).1 c3), fun c => absurd (by decide : (0 : Int) = 0) c⟩⟩⟩, fun c3 => ⟨fun c4 => ⟨(Or.inl rfl), ⟨(Or.inl rfl), ⟨fun _ => ((((h.2.2 c1).2 c2).2 c3).1 c4), fun c => absurd (by decide : (0 : Int) = 0) c⟩⟩⟩, fun c4 => ⟨(Or.inr rfl), ⟨(Or.inr rfl), ⟨fun c => absurd c (by decide : ¬ ((1 : Int) = 0)), fun _ => ⟨rfl, (am_cI ((((h.2.2 c1).2 c2).2 c3).2 c4) fun x5 s5 h5 => am_use (fun H10 => ⟨fun c6 => ⟨⟨rfl, (h5.1.1 20)⟩, ⟨⟨(h5.2.1.1 c6), (h5.2.1.2.1 c6)⟩, ⟨⟨(h5.2.1.2.2.1 c6), (h5.2.1.2.2.2.1 c6)⟩, ⟨⟨rfl, (h5.2.1.2.2.2.2.1 c6), (h5.2.1.2.2.2.2.2 c6)⟩, ⟨fun c7 => (Eq.mp (congrArg (fun z => am_Runs _ _ _ _ _ _ (qi z :: _) _ _) (Eq.trans (if_pos c6 : (if x5 = 0 then (if 0 ≤ (sI s5 44 (Int.toNat ((2 * p1) + p2))) then (x5 : Int) else 2 : Int) else x5) = if 0 ≤ (sI s5 44 (Int.toNat ((2 * p1) + p2))) then (x5 : Int) else 2) (if_pos c7 : (if 0 ≤ (sI s5 44 (Int.toNat ((2 * p1) + p2))) then (x5 : Int) else 2) = x5))) H10), fun c7 => (Eq.mp (congrArg (fun z => am_Runs _ _ _ _ _ _ (qi z :: _) _ _) (Eq.trans (if_pos c6 : (if x5 = 0 then (if 0 ≤ (sI s5 44 (Int.toNat ((2 * p1) + p2))) then (x5 : Int) else 2 : Int) else x5) = if 0 ≤ (sI s5 44 (Int.toNat ((2 * p1) + p2))) then (x5 : Int) else 2) (if_neg c7 : (if 0 ≤ (sI s5 44 (Int.toNat ((2 * p1) + p2))) then (x5 : Int) else 2) = 2))) H10)⟩⟩⟩⟩⟩, fun c6 => (Eq.mp (congrArg (fun z => am_Runs _ _ _ _ _ _ (qi z :: _) _ _) (if_neg c6 : (if x5 = 0 then (if 0 ≤ (sI s5 44 (Int.toNat ((2 * p1) + p2))) then (x5 : Int) else 2 : Int) else x5) = x5)) H10)⟩) (am_wEC_ok (orc [(36, 44, 20, 24), (45, 44, 20, 24)]) [27] 200 (⟨fun c8 => ⟨⟨rfl, (h5.1.1 20)⟩, ⟨⟨(h5.2.2.1 c8).1.1, (h5.2.2.1 c8).1.2.1⟩, ⟨⟨(h5.2.2.1 c8).1.2.2.1, (h5.2.2.1 c8).1.2.2.2.1⟩, ⟨⟨rfl, (h5.2.2.1 c8).1.2.2.2.2.1, (h5.2.2.1 c8).1.2.2.2.2.2⟩, ⟨⟨rfl, (h5.1.1 20)⟩, ⟨⟨(h5.2.2.1 c8).1.1, (h5.2.2.1 c8).1.2.1⟩, ⟨⟨(h5.2.2.1 c8).1.2.2.1, (h5.2.2.1 c8).1.2.2.2.1⟩, ⟨⟨rfl, (h5.2.2.1 c8).1.2.2.2.2.1, (h5.2.2.1 c8).1.2.2.2.2.2⟩, (h5.2.2.1 c8).2⟩⟩⟩⟩⟩⟩⟩⟩, fun c8 => ⟨rfl, (am_cI (h5.2.2.2 c8) fun x9 s9 h9 => h9.2)⟩⟩)))⟩⟩⟩⟩⟩⟩))⟩⟩⟩⟩⟩)⟩⟩)⟩)

theorem v_C_panL_0 (d : Nat) (β μ κ ρ : Nat → Nat) (me : Nat → Nat → Nat) (aH nH aL nL aY nY aS nS n : Nat) (p1 p3 : Int) (σ : am_S) (K : Int → am_S → Prop) (hR : TR σ aH nH aL nL aY nY aS nS) (hB : BS σ β μ κ ρ me n) (h :
  ((p1 < 0 →
    K (-1001) σ) ∧
  (¬ (p1 < 0) →
    (((sI σ 2 5) ≤ p1 →
      K (-1001) σ) ∧
    (¬ ((sI σ 2 5) ≤ p1) →
      ((p3 ≤ 20 →
        (0 ≤ p1 ∧ p1 < 12 ∧ (Int.toNat p1) < n) ∧
        am_Calls PP MLL (d + 3) m_C_withoutPans [qr (β (Int.toNat p1), 0, 9)] σ (kI fun x4 s4 =>
          (TR s4 aH nH aL nL aY nY aS nS ∧ BS s4 β μ κ ρ me n) ∧
          (((if x4 = 0 then (if 0 ≤ p3 then (x4 : Int) else 5 : Int) else x4) = 0 →
            am_Calls PP MLL (d + 3) m_Pan_lay [qr (ρ (Int.toNat p1), 2, 2), qi p3] s4 (kV fun s8 =>
              (TR s8 aH nH aL nL aY nY aS nS ∧ BS s8 β μ κ ρ me n) ∧
              K 1 s8)) ∧
          (¬ ((if x4 = 0 then (if 0 ≤ p3 then (x4 : Int) else 5 : Int) else x4) = 0) →
            am_Calls PP MLL (d + 3) m_C_found [qr (2, 11, 10), qi p1, qi (if x4 = 0 then (if 0 ≤ p3 then (x4 : Int) else 5 : Int) else x4)] s4 (kI fun x9 s9 =>
              (TR s9 aH nH aL nL aY nY aS nS ∧ BS s9 β μ κ ρ me n) ∧
              K x9 s9))))) ∧
      (¬ (p3 ≤ 20) →
        K (-1001) σ))))))) : am_Runs PP MLL (d + 3) m_C_pan 0 [some (qr (2, 11, 10)), some (qi p1), some (qi 0), some (qi p3), none] [] σ (kI K) := am_wEC_ok (orc [(13, 9, 22, 12), (15, β (Int.toNat p1), 0, 9)]) [24] 200 (⟨rfl, am_wEF_ok (orc []) 200 (⟨fun c1 => ⟨(Or.inl rfl), ⟨fun _ => (h.1 c1), fun c => absurd (by decide : (0 : Int) = 0) c⟩⟩, fun c1 => ⟨rfl, ⟨fun c2 => ⟨(Or.inl rfl), ⟨fun _ => ((h.2 c1).1 c2), fun c => absurd (by decide : (0 : Int) = 0) c⟩⟩, fun c2 => ⟨(Or.inr rfl), ⟨fun c => absurd c (by decide : ¬ ((1 : Int) = 0)), fun _ => am_wEF_ok (orc []) 200 (⟨fun _ => ⟨(Or.inr rfl), ⟨fun c => absurd c (by decide : ¬ ((1 : Int) = 0)), fun _ => ⟨fun c3 => ⟨⟨rfl, (hR.1 2 1 _ rfl)⟩, ⟨⟨rfl, (((h.2 c1).2 c2).1 c3).1.1, (((h.2 c1).2 c2).1 c3).1.2.1, (hB (Int.toNat p1) (((h.2 c1).2 c2).1 c3).1.2.2).1⟩, (am_cI (((h.2 c1).2 c2).1 c3).2 fun x4 s4 h4 => am_use (fun H10 => ⟨fun c5 => ⟨fun c6 => (Eq.mp (congrArg (fun z => am_Runs _ _ _ _ _ [_, _, _, _, some (qi z)] _ _ _) (Eq.trans (if_pos c5 : (if x4 = 0 then (if 0 ≤ p3 then (x4 : Int) else 5 : Int) else x4) = if 0 ≤ p3 then (x4 : Int) else 5) (if_pos c6 : (if 0 ≤ p3 then (x4 : Int) else 5) = x4))) H10), fun c6 => (Eq.mp (congrArg (fun z => am_Runs _ _ _ _ _ [_, _, _, _, some (qi z)] _ _ _) (Eq.trans (if_pos c5 : (if x4 = 0 then (if 0 ≤ p3 then (x4 : Int) else 5 : Int) else x4) = if 0 ≤ p3 then (x4 : Int) else 5) (if_neg c6 : (if 0 ≤ p3 then (x4 : Int) else 5) = 5))) H10)⟩, fun c5 => (Eq.mp (congrArg (fun z => am_Runs _ _ _ _ _ [_, _, _, _, some (qi z)] _ _ _) (if_neg c5 : (if x4 = 0 then (if 0 ≤ p3 then (x4 : Int) else 5 : Int) else x4) = x4)) H10)⟩) (am_wEC_ok (orc [(32, 9, 22, 12), (34, β (Int.toNat p1), 0, 9)]) [24] 200 (⟨fun c7 => ⟨⟨rfl, (h4.1.1.1 2 1 _ rfl)⟩, ⟨⟨rfl, (((h.2 c1).2 c2).1 c3).1.1, (((h.2 c1).2 c2).1 c3).1.2.1, (h4.1.2 (Int.toNat p1) (((h.2 c1).2 c2).1 c3).1.2.2).1⟩, ⟨rfl, am_wEF_ok (orc [(3, ρ (Int.toNat p1), 2, 2)]) 200 (⟨fun _ => ⟨⟨rfl, (h4.1.2 (Int.toNat p1) (((h.2 c1).2 c2).1 c3).1.2.2).2.2.2.1⟩, ⟨rfl, (am_cV (h4.2.1 c7) fun s8 h8 => h8.2)⟩⟩, fun c => absurd (by decide : (0 : Int) = 0) c⟩)⟩⟩⟩, fun c7 => ⟨rfl, (am_cI (h4.2.2 c7) fun x9 s9 h9 => h9.2)⟩⟩)))⟩⟩, fun c3 => (((h.2 c1).2 c2).2 c3)⟩⟩⟩, fun c => absurd (by decide : (0 : Int) = 0) c⟩)⟩⟩⟩⟩⟩)⟩)

theorem v_C_panR_0 (d : Nat) (β μ κ ρ : Nat → Nat) (me : Nat → Nat → Nat) (aH nH aL nL aY nY aS nS n : Nat) (p1 p3 : Int) (σ : am_S) (K : Int → am_S → Prop) (hR : TR σ aH nH aL nL aY nY aS nS) (hB : BS σ β μ κ ρ me n) (h :
  ((p1 < 0 →
    K (-1001) σ) ∧
  (¬ (p1 < 0) →
    (((sI σ 2 5) ≤ p1 →
      K (-1001) σ) ∧
    (¬ ((sI σ 2 5) ≤ p1) →
      ((p3 ≤ 20 →
        (0 ≤ p1 ∧ p1 < 12 ∧ (Int.toNat p1) < n) ∧
        am_Calls PP MLL (d + 3) m_C_withoutPans [qr (β (Int.toNat p1), 0, 9)] σ (kI fun x4 s4 =>
          (TR s4 aH nH aL nL aY nY aS nS ∧ BS s4 β μ κ ρ me n) ∧
          (((if x4 = 0 then (if 0 ≤ p3 then (x4 : Int) else 5 : Int) else x4) = 0 →
            am_Calls PP MLL (d + 3) m_Pan_lay [qr (ρ (Int.toNat p1) + 2, 2, 2), qi p3] s4 (kV fun s8 =>
              (TR s8 aH nH aL nL aY nY aS nS ∧ BS s8 β μ κ ρ me n) ∧
              K 1 s8)) ∧
          (¬ ((if x4 = 0 then (if 0 ≤ p3 then (x4 : Int) else 5 : Int) else x4) = 0) →
            am_Calls PP MLL (d + 3) m_C_found [qr (2, 11, 10), qi p1, qi (if x4 = 0 then (if 0 ≤ p3 then (x4 : Int) else 5 : Int) else x4)] s4 (kI fun x9 s9 =>
              (TR s9 aH nH aL nL aY nY aS nS ∧ BS s9 β μ κ ρ me n) ∧
              K x9 s9))))) ∧
      (¬ (p3 ≤ 20) →
        K (-1001) σ))))))) : am_Runs PP MLL (d + 3) m_C_pan 0 [some (qr (2, 11, 10)), some (qi p1), some (qi 1), some (qi p3), none] [] σ (kI K) := am_wEC_ok (orc [(13, 9, 22, 12), (15, β (Int.toNat p1), 0, 9)]) [24] 200 (⟨rfl, am_wEF_ok (orc []) 200 (⟨fun c1 => ⟨(Or.inl rfl), ⟨fun _ => (h.1 c1), fun c => absurd (by decide : (0 : Int) = 0) c⟩⟩, fun c1 => ⟨rfl, ⟨fun c2 => ⟨(Or.inl rfl), ⟨fun _ => ((h.2 c1).1 c2), fun c => absurd (by decide : (0 : Int) = 0) c⟩⟩, fun c2 => ⟨(Or.inr rfl), ⟨fun c => absurd c (by decide : ¬ ((1 : Int) = 0)), fun _ => am_wEF_ok (orc []) 200 (⟨fun c => absurd c (by decide : ¬ ((1 : Int) = 0)), fun _ => ⟨fun _ => ⟨(Or.inr rfl), ⟨fun c => absurd c (by decide : ¬ ((1 : Int) = 0)), fun _ => ⟨fun c3 => ⟨⟨rfl, (hR.1 2 1 _ rfl)⟩, ⟨⟨rfl, (((h.2 c1).2 c2).1 c3).1.1, (((h.2 c1).2 c2).1 c3).1.2.1, (hB (Int.toNat p1) (((h.2 c1).2 c2).1 c3).1.2.2).1⟩, (am_cI (((h.2 c1).2 c2).1 c3).2 fun x4 s4 h4 => am_use (fun H10 => ⟨fun c5 => ⟨fun c6 => (Eq.mp (congrArg (fun z => am_Runs _ _ _ _ _ [_, _, _, _, some (qi z)] _ _ _) (Eq.trans (if_pos c5 : (if x4 = 0 then (if 0 ≤ p3 then (x4 : Int) else 5 : Int) else x4) = if 0 ≤ p3 then (x4 : Int) else 5) (if_pos c6 : (if 0 ≤ p3 then (x4 : Int) else 5) = x4))) H10), fun c6 => (Eq.mp (congrArg (fun z => am_Runs _ _ _ _ _ [_, _, _, _, some (qi z)] _ _ _) (Eq.trans (if_pos c5 : (if x4 = 0 then (if 0 ≤ p3 then (x4 : Int) else 5 : Int) else x4) = if 0 ≤ p3 then (x4 : Int) else 5) (if_neg c6 : (if 0 ≤ p3 then (x4 : Int) else 5) = 5))) H10)⟩, fun c5 => (Eq.mp (congrArg (fun z => am_Runs _ _ _ _ _ [_, _, _, _, some (qi z)] _ _ _) (if_neg c5 : (if x4 = 0 then (if 0 ≤ p3 then (x4 : Int) else 5 : Int) else x4) = x4)) H10)⟩) (am_wEC_ok (orc [(32, 9, 22, 12), (34, β (Int.toNat p1), 0, 9)]) [24] 200 (⟨fun c7 => ⟨⟨rfl, (h4.1.1.1 2 1 _ rfl)⟩, ⟨⟨rfl, (((h.2 c1).2 c2).1 c3).1.1, (((h.2 c1).2 c2).1 c3).1.2.1, (h4.1.2 (Int.toNat p1) (((h.2 c1).2 c2).1 c3).1.2.2).1⟩, ⟨rfl, am_wEF_ok (orc [(6, ρ (Int.toNat p1) + 2, 2, 2)]) 200 (⟨fun c => absurd c (by decide : ¬ ((1 : Int) = 0)), fun _ => ⟨⟨rfl, (h4.1.2 (Int.toNat p1) (((h.2 c1).2 c2).1 c3).1.2.2).2.2.2.2.1⟩, ⟨rfl, (am_cV (h4.2.1 c7) fun s8 h8 => h8.2)⟩⟩⟩)⟩⟩⟩, fun c7 => ⟨rfl, (am_cI (h4.2.2 c7) fun x9 s9 h9 => h9.2)⟩⟩)))⟩⟩, fun c3 => (((h.2 c1).2 c2).2 c3)⟩⟩⟩, fun c => absurd (by decide : (1 : Int) = 1) c⟩⟩)⟩⟩⟩⟩⟩)⟩)

theorem v_C_panX_0 (d : Nat) (β μ κ ρ : Nat → Nat) (me : Nat → Nat → Nat) (aH nH aL nL aY nY aS nS n : Nat) (p1 p2 p3 : Int) (σ : am_S) (K : Int → am_S → Prop) (hR : TR σ aH nH aL nL aY nY aS nS) (hB : BS σ β μ κ ρ me n) (n0 : ¬ (p2 = 0)) (n1 : ¬ (p2 = 1)) (h :
  ((p1 < 0 →
    K (-1001) σ) ∧
  (¬ (p1 < 0) →
    (((sI σ 2 5) ≤ p1 →
      K (-1001) σ) ∧
    (¬ ((sI σ 2 5) ≤ p1) →
      K (-1001) σ))))) : am_Runs PP MLL (d + 3) m_C_pan 0 [some (qr (2, 11, 10)), some (qi p1), some (qi p2), some (qi p3), none] [] σ (kI K) := am_wEC_ok (orc []) [24] 200 (⟨rfl, am_wEF_ok (orc []) 200 (⟨fun c1 => ⟨(Or.inl rfl), ⟨fun _ => (h.1 c1), fun c => absurd (by decide : (0 : Int) = 0) c⟩⟩, fun c1 => ⟨rfl, ⟨fun c2 => ⟨(Or.inl rfl), ⟨fun _ => ((h.2 c1).1 c2), fun c => absurd (by decide : (0 : Int) = 0) c⟩⟩, fun c2 => ⟨(Or.inr rfl), ⟨fun c => absurd c (by decide : ¬ ((1 : Int) = 0)), fun _ => am_wEF_ok (orc []) 200 (⟨fun c => absurd c n0, fun _ => ⟨fun c => absurd c n1, fun _ => ⟨(Or.inl rfl), ⟨fun _ => ((h.2 c1).2 c2), fun c => absurd (by decide : (0 : Int) = 0) c⟩⟩⟩⟩)⟩⟩⟩⟩⟩)⟩)

theorem v_M_panT_0 (d : Nat) (p1 p2 p3 : Int) (σ : am_S) (K : Int → am_S → Prop) (hF : MF σ) (hT : sI σ 31 26 = 0) (h :
  (-2147483648 ≤ (sI σ 31 16) - 1 ∧ (sI σ 31 16) - 1 < 2147483648) ∧
  ((p1 < 0 →
    K (-1001) σ) ∧
  (¬ (p1 < 0) →
    ((((sI σ 31 16) - 1) < p1 →
      K (-1001) σ) ∧
    (¬ (((sI σ 31 16) - 1) < p1) →
      ((p2 < 0 →
        K (-1001) σ) ∧
      (¬ (p2 < 0) →
        ((1 < p2 →
          K (-1001) σ) ∧
        (¬ (1 < p2) →
          ((p3 ≤ 20 →
            am_Calls PP MLL (d + 2) m_M_panFault [qr (31, 12, 89), qi p1] σ (kI fun x6 s6 =>
              (MF s6 ∧ sI s6 31 26 = 0) ∧
              (((if x6 = 0 then (if 0 ≤ p3 then (x6 : Int) else 5 : Int) else x6) = 0 →
                (-2147483648 ≤ 2 * p1 ∧ 2 * p1 < 2147483648 ∧ -2147483648 ≤ (2 * p1) + p2 ∧ (2 * p1) + p2 < 2147483648 ∧ 0 ≤ ((2 * p1) + p2) ∧ ((2 * p1) + p2) < 24) ∧
                am_Runs PP MLL (d + 2) m_M_pan 42 [some (qr (31, 12, 89)), some (qi p1), some (qi p2), some (qi p3), some (qi (if x6 = 0 then (if 0 ≤ p3 then (x6 : Int) else 5 : Int) else x6)), some (qi 0)] [] (putI s6 44 (Int.toNat ((2 * p1) + p2)) p3) (kI K)) ∧
              (¬ ((if x6 = 0 then (if 0 ≤ p3 then (x6 : Int) else 5 : Int) else x6) = 0) →
                am_Calls PP MLL (d + 2) m_M_finds [qr (31, 12, 89), qi p1, qi (if x6 = 0 then (if 0 ≤ p3 then (x6 : Int) else 5 : Int) else x6)] s6 (kI fun x10 s10 =>
                  (MF s10 ∧ sI s10 31 26 = 0) ∧
                  K x10 s10))))) ∧
          (¬ (p3 ≤ 20) →
            K (-1001) σ))))))))))) : am_Runs PP MLL (d + 2) m_M_pan 0 [some (qr (31, 12, 89)), some (qi p1), some (qi p2), some (qi p3), none, none] [] σ (kI K) := am_wEC_ok (orc []) [23] 200 (⟨rfl, am_wEF_ok (orc []) 200 (⟨rfl, ⟨⟨h.1.1, h.1.2⟩, am_wEF_ok (orc []) 200 (⟨fun c1 => ⟨(Or.inl rfl), ⟨(Or.inl rfl), ⟨fun _ => (h.2.1 c1), fun c => absurd (by decide : (0 : Int) = 0) c⟩⟩⟩, fun c1 => ⟨fun c2 => ⟨(Or.inl rfl), ⟨(Or.inl rfl), ⟨fun _ => ((h.2.2 c1).1 c2), fun c => absurd (by decide : (0 : Int) = 0) c⟩⟩⟩, fun c2 => ⟨(Or.inr rfl), ⟨(Or.inr rfl), ⟨fun c => absurd c (by decide : ¬ ((1 : Int) = 0)), fun _ => am_wEF_ok (orc []) 200 (am_wEF_ok (orc []) 200 (⟨fun c3 => ⟨(Or.inl rfl), ⟨(Or.inl rfl), ⟨fun _ => (((h.2.2 c1).2 c2).1 c3), fun c => absurd (by decide : (0 : Int) = 0) c⟩⟩⟩, fun c3 => ⟨fun c4 => ⟨(Or.inl rfl), ⟨(Or.inl rfl), ⟨fun _ => ((((h.2.2 c1).2 c2).2 c3).1 c4), fun c => absurd (by decide : (0 : Int) = 0) c⟩⟩⟩, fun c4 => ⟨(Or.inr rfl), ⟨(Or.inr rfl), ⟨fun c => absurd c (by decide : ¬ ((1 : Int) = 0)), fun _ => ⟨fun c5 => ⟨rfl, (am_cI (((((h.2.2 c1).2 c2).2 c3).2 c4).1 c5) fun x6 s6 h6 => am_use (fun H11 => ⟨fun c7 => ⟨fun c8 => (Eq.mp (congrArg (fun z => am_Runs _ _ _ _ _ _ (qi z :: _) _ _) (Eq.trans (if_pos c7 : (if x6 = 0 then (if 0 ≤ p3 then (x6 : Int) else 5 : Int) else x6) = if 0 ≤ p3 then (x6 : Int) else 5) (if_pos c8 : (if 0 ≤ p3 then (x6 : Int) else 5) = x6))) H11), fun c8 => (Eq.mp (congrArg (fun z => am_Runs _ _ _ _ _ _ (qi z :: _) _ _) (Eq.trans (if_pos c7 : (if x6 = 0 then (if 0 ≤ p3 then (x6 : Int) else 5 : Int) else x6) = if 0 ≤ p3 then (x6 : Int) else 5) (if_neg c8 : (if 0 ≤ p3 then (x6 : Int) else 5) = 5))) H11)⟩, fun c7 => (Eq.mp (congrArg (fun z => am_Runs _ _ _ _ _ _ (qi z :: _) _ _) (if_neg c7 : (if x6 = 0 then (if 0 ≤ p3 then (x6 : Int) else 5 : Int) else x6) = x6)) H11)⟩) (am_wEC_ok (orc [(32, 44, 20, 24)]) [23] 200 (⟨fun c9 => ⟨⟨rfl, (h6.1.1 20)⟩, ⟨⟨(h6.2.1 c9).1.1, (h6.2.1 c9).1.2.1⟩, ⟨⟨(h6.2.1 c9).1.2.2.1, (h6.2.1 c9).1.2.2.2.1⟩, ⟨⟨rfl, (h6.2.1 c9).1.2.2.2.2.1, (h6.2.1 c9).1.2.2.2.2.2⟩, (h6.2.1 c9).2⟩⟩⟩⟩, fun c9 => ⟨rfl, (am_cI (h6.2.2 c9) fun x10 s10 h10 => h10.2)⟩⟩)))⟩, fun c5 => (((((h.2.2 c1).2 c2).2 c3).2 c4).2 c5)⟩⟩⟩⟩⟩⟩))⟩⟩⟩⟩⟩)⟩⟩)⟩)

theorem p_at (d : Nat) {xs : Nat → Int} {c : Nat} {σ : am_S} {p1 p2 p3 : Int} (hI : INV xs σ c) (hc : c + 1 ≤ 600) : PR d xs m_C_at m_M_at [qi p1, qi p2, qi p3] σ c := by
  have hs := INV_s hI hc
  obtain ⟨own, β, μ, κ, ρ, me, n, aH, nH, aL, nL, aY, nY, aS, nS, N, l, m, T, W, kd, aR, nR, aV, nV, aI, nI, aQ, nQ, g, w, hx⟩ := hI
  have hx0 := hx
  obtain ⟨⟨hF, hab, hxs⟩, it, il, ib, im, ij, sc, rz, is, ir, hc6⟩ := hx
  obtain ⟨hR, ow, ti, kt, ks, ⟨w1, w2, w3, w4, w5, w6, w7, w8⟩, ⟨l1, l2, l3, l4⟩, lz, ⟨q1, q2, q3, q4⟩, h87⟩ := it
  have o1 := ow.1
  have ib0 := ib
  obtain ⟨a1, a2, a3, ⟨n12, a4, a5⟩, bd, a6, a7, a8, a9, a10⟩ := ib
  obtain ⟨m1, ⟨m2, T26⟩, m3, m4, m5, m6⟩ := im
  have tN := ti.2.2.2.2.1
  have tT := ti.2.2.2.2.2.2.1
  have T4 := ti.2.2.2.2.2.2.2.2.1
  have nB : ∀ b, b < n → ∀ x, x < 87 → x ≠ β b := fun b hb x hx' e => by
    have := (a2 b hb).1
    rw [← e, o1 x hx'] at this
    omega
  have fd : ∀ (b : Nat) (f : Int) (K : Int → am_S → Prop) (e : Nat), b < n → 0 ≤ f ∧ f ≤ 6 → (TR (fdC σ β b f) aH nH aL nL aY nY aS nS → BS (fdC σ β b f) β μ κ ρ me n → K (-1010 - f) (fdC σ β b f)) → am_Calls PP MLL (e + 1) m_C_found [qr (2, 11, 10), qi (b : Int), qi f] σ (kI K) := fun b f K e hb hf h => c_found e hR.1 a1 n12 hb (nB b hb 2 (by decide)).symm (by omega) (by omega) (h (TR_2 fdC_2 hR) (BS_2 fdC_2 a1))
  have fe : ∀ (b : Nat) (f : Int) (e : Nat), b < n → 0 ≤ f ∧ f ≤ 6 → am_Calls PP MLL (e + 2) m_M_finds [qr (31, 12, 89), qi (b : Int), qi f] (fdC σ β b f) (kI fun x s => (MF s ∧ sI s 31 26 = 0) ∧ -1010 - f = x ∧ INV xs s (c + 1)) := fun b f e hb hf => by
    have e31 : sI (fdC σ β b f) 31 = sI σ 31 := fdC_o (by decide) (nB b hb 31 (by decide))
    refine c_M_finds e (MF_I hF fdC_2) (by omega) (by omega) (by rw [e31]; omega) ⟨⟨MF_I hF (show (mFinds (fdC σ β b f) b f).2 = σ.2 from fdC_2), by rw [mF_31, if_neg (by decide), if_neg (by decide), e31]; exact T26⟩, rfl, INV_fd hx0 hc hb hf⟩
  have fx : ∀ b f, b < n → sI (fdC σ β b f) 0 = xs := fun b f hb => by rw [fdC_o (by decide) (nB b hb 0 (by decide))]; exact hxs
  have fr : ∀ b f x, b < n → x < 87 → x ≠ 2 → sI (fdC σ β b f) x = sI σ x := fun b f x hb hx' h2 => fdC_o h2 (nB b hb x hx')
  have fM : ∀ b f, b < n → MF (fdC σ β b f) ∧ sI (fdC σ β b f) 31 26 = 0 := fun b f hb => ⟨MF_I hF fdC_2, by rw [fr b f 31 hb (by decide) (by decide)]; exact T26⟩
  have nr : ∀ b, b < n → ∀ k, k < 4 → ∀ x', x' < 87 → x' ≠ ρ b + k := fun b hb k hk x' hx' e => by
    have := (a2 b hb).2.2 k hk
    rw [← e, o1 x' hx'] at this
    omega
  have n40 := ti.1
  have bad : ((p1 < 0 ∨ (n : Int) ≤ p1) ∨ (p2 < 0 ∨ 1 < p2)) → am_Calls PP MLL (d + 30) m_M_at [qr (31, 12, 89), qi p1, qi p2, qi p3] σ (kI fun y t => -1001 = y ∧ INV xs t (c + 1)) := by
    intro hp
    refine v_M_at_0 (d + 26) p1 p2 p3 σ _ hF T26 ?_
    rw [a5]
    exact ⟨by omega, fun c1 => ⟨rfl, hs⟩, fun c1 => ⟨fun c2 => ⟨rfl, hs⟩, fun c2 => ⟨fun c3 => ⟨rfl, hs⟩, fun c3 => ⟨fun c4 => ⟨rfl, hs⟩, fun c4 => by omega⟩⟩⟩⟩
  have good : ∀ (b s : Nat) (st : am_S) (x : Int), b < n → s < 2 → p1 = b → p2 = s → MF st → sI st 31 26 = 0 → sI st 31 = sI σ 31 → sI st 41 = sI σ 41 → sI st 44 = sI σ 44 → (plF (sI σ 41 b) (sI σ 44 (2 * b + s)) p3 = 0 → st = σ ∧ x = sI σ 45 (20 * (2 * b + s) + p3.toNat)) → (plF (sI σ 41 b) (sI σ 44 (2 * b + s)) p3 ≠ 0 → st = fdC σ β b (plF (sI σ 41 b) (sI σ 44 (2 * b + s)) p3) ∧ x = -1010 - plF (sI σ 41 b) (sI σ 44 (2 * b + s)) p3) → am_Calls PP MLL (d + 30) m_M_at [qr (31, 12, 89), qi p1, qi p2, qi p3] st (kI fun y t => x = y ∧ INV xs t (c + 1)) := by
    intro b s st x hb hs2 e1 e2 f1 f2 f3 f4 f5 g0 g1
    subst e1
    subst e2
    have h20 := a7 (2 * b + s)
    obtain ⟨pi1, pi2, pi3⟩ := pan_in ib0 hb hs2
    have n40 := nr b hb (2 * s) (by omega)
    have n41 := nr b hb (2 * s + 1) (by omega)
    refine v_M_at_0 (d + 26) (b : Int) (s : Int) p3 st _ f1 f2 ?_
    rw [f3, a5]
    refine ⟨by omega, fun c1 => by omega, fun c1 => ⟨fun c2 => by omega, fun c2 => ⟨fun c3 => by omega, fun c3 => ⟨fun c4 => by omega, fun c4 => ?_⟩⟩⟩⟩
    refine c_M_placeFault (d + 26) f1 f2 (by omega) hs2 (by rw [f5]; exact a7) ?_
    rw [f4, f5]
    have hl := @plF_b (sI σ 41 b) (sI σ 44 (2 * b + s)) p3
    refine ⟨⟨f1, f2⟩, fun e => ?_, fun e => ?_⟩
    · obtain ⟨u1, u2, _⟩ := plF_0 e
      obtain ⟨v1, v2⟩ := g0 e
      rw [v1, v2, show ((20 * ((2 * (b : Int)) + (s : Int))) + p3).toNat = 20 * (2 * b + s) + p3.toNat by omega]
      exact ⟨by omega, rfl, hs⟩
    · obtain ⟨v1, v2⟩ := g1 e
      rw [v1, v2]
      exact fe b _ (d + 27) hb (by omega)
  by_cases q0 : p2 = 0
  · subst q0
    refine v_C_atL_0 (d + 26) β μ κ ρ me aH nH aL nL aY nY aS nS n p1 p3 σ _ hR a1 ?_
    rw [a4]
    refine ⟨fun c1 => ⟨hxs, bad (by omega)⟩, fun c1 => ⟨fun c2 => ⟨hxs, bad (by omega)⟩, fun c2 => ?_⟩⟩
    obtain ⟨b, eb⟩ : ∃ b : Nat, p1 = b := ⟨p1.toNat, by omega⟩
    have hb : b < n := by omega
    have e1 : p1.toNat = b := by omega
    rw [e1]
    have h20 := a7 (2 * b + 0)
    obtain ⟨pi1, pi2, pi3⟩ := pan_in ib0 hb (show 0 < 2 by decide)
    have n40 := nr b hb (2 * 0) (by omega)
    have n41 := nr b hb (2 * 0 + 1) (by omega)
    have hl := @plF_b (sI σ 41 b) (sI σ 44 (2 * b + 0)) p3
    refine ⟨by omega, c_wPlace (d + 26) hR a1 hb (bd b hb) (s := 0) (by decide) ⟨⟨hR, a1⟩, fun e => ?_, fun e => ?_⟩⟩
    · obtain ⟨u1, u2, _⟩ := plF_0 e
      refine ⟨by omega, hxs, good b 0 σ _ hb (by decide) eb rfl hF T26 rfl rfl rfl (fun _ => ⟨rfl, ?_⟩) (fun q => absurd e q)⟩
      exact pi2 p3.toNat (by omega)
    · rw [eb]
      refine fd b _ _ (d + 28) hb (by omega) (fun t1 t2 => ⟨⟨t1, t2⟩, fx b _ hb, ?_⟩)
      rw [← eb]
      exact good b 0 _ _ hb (by decide) eb rfl (fM b _ hb).1 (fM b _ hb).2 (fr b _ 31 hb (by decide) (by decide)) (fr b _ 41 hb (by decide) (by decide)) (fr b _ 44 hb (by decide) (by decide)) (fun q => absurd q e) (fun _ => ⟨rfl, rfl⟩)
  by_cases q1 : p2 = 1
  · subst q1
    refine v_C_atR_0 (d + 26) β μ κ ρ me aH nH aL nL aY nY aS nS n p1 p3 σ _ hR a1 ?_
    rw [a4]
    refine ⟨fun c1 => ⟨hxs, bad (by omega)⟩, fun c1 => ⟨fun c2 => ⟨hxs, bad (by omega)⟩, fun c2 => ?_⟩⟩
    obtain ⟨b, eb⟩ : ∃ b : Nat, p1 = b := ⟨p1.toNat, by omega⟩
    have hb : b < n := by omega
    have e1 : p1.toNat = b := by omega
    rw [e1]
    have h20 := a7 (2 * b + 1)
    obtain ⟨pi1, pi2, pi3⟩ := pan_in ib0 hb (show 1 < 2 by decide)
    have n40 := nr b hb (2 * 1) (by omega)
    have n41 := nr b hb (2 * 1 + 1) (by omega)
    have hl := @plF_b (sI σ 41 b) (sI σ 44 (2 * b + 1)) p3
    refine ⟨by omega, c_wPlace (d + 26) hR a1 hb (bd b hb) (s := 1) (by decide) ⟨⟨hR, a1⟩, fun e => ?_, fun e => ?_⟩⟩
    · obtain ⟨u1, u2, _⟩ := plF_0 e
      refine ⟨by omega, hxs, good b 1 σ _ hb (by decide) eb rfl hF T26 rfl rfl rfl (fun _ => ⟨rfl, ?_⟩) (fun q => absurd e q)⟩
      exact pi2 p3.toNat (by omega)
    · rw [eb]
      refine fd b _ _ (d + 28) hb (by omega) (fun t1 t2 => ⟨⟨t1, t2⟩, fx b _ hb, ?_⟩)
      rw [← eb]
      exact good b 1 _ _ hb (by decide) eb rfl (fM b _ hb).1 (fM b _ hb).2 (fr b _ 31 hb (by decide) (by decide)) (fr b _ 41 hb (by decide) (by decide)) (fr b _ 44 hb (by decide) (by decide)) (fun q => absurd q e) (fun _ => ⟨rfl, rfl⟩)
  · refine v_C_atX_0 (d + 26) β μ κ ρ me aH nH aL nL aY nY aS nS n p1 p2 p3 σ _ hR a1 q0 q1 ?_
    rw [a4]
    exact ⟨fun c1 => ⟨hxs, bad (by omega)⟩, fun c1 => ⟨fun c2 => ⟨hxs, bad (by omega)⟩, fun c2 => ⟨hxs, bad (by omega)⟩⟩⟩
theorem p_put (d : Nat) {xs : Nat → Int} {c : Nat} {σ : am_S} {p1 p2 p3 p4 : Int} (hI : INV xs σ c) (hc : c + 1 ≤ 600) : PR d xs m_C_put m_M_put [qi p1, qi p2, qi p3, qi p4] σ c := by
  have hs := INV_s hI hc
  obtain ⟨own, β, μ, κ, ρ, me, n, aH, nH, aL, nL, aY, nY, aS, nS, N, l, m, T, W, kd, aR, nR, aV, nV, aI, nI, aQ, nQ, g, w, hx⟩ := hI
  have hx0 := hx
  obtain ⟨⟨hF, hab, hxs⟩, it, il, ib, im, ij, sc, rz, is, ir, hc6⟩ := hx
  obtain ⟨hR, ow, ti, kt, ks, ⟨w1, w2, w3, w4, w5, w6, w7, w8⟩, ⟨l1, l2, l3, l4⟩, lz, ⟨q1, q2, q3, q4⟩, h87⟩ := it
  have o1 := ow.1
  have ib0 := ib
  obtain ⟨a1, a2, a3, ⟨n12, a4, a5⟩, bd, a6, a7, a8, a9, a10⟩ := ib
  obtain ⟨m1, ⟨m2, T26⟩, m3, m4, m5, m6⟩ := im
  have tN := ti.2.2.2.2.1
  have tT := ti.2.2.2.2.2.2.1
  have T4 := ti.2.2.2.2.2.2.2.2.1
  have nB : ∀ b, b < n → ∀ x, x < 87 → x ≠ β b := fun b hb x hx' e => by
    have := (a2 b hb).1
    rw [← e, o1 x hx'] at this
    omega
  have fd : ∀ (b : Nat) (f : Int) (K : Int → am_S → Prop) (e : Nat), b < n → 0 ≤ f ∧ f ≤ 6 → (TR (fdC σ β b f) aH nH aL nL aY nY aS nS → BS (fdC σ β b f) β μ κ ρ me n → K (-1010 - f) (fdC σ β b f)) → am_Calls PP MLL (e + 1) m_C_found [qr (2, 11, 10), qi (b : Int), qi f] σ (kI K) := fun b f K e hb hf h => c_found e hR.1 a1 n12 hb (nB b hb 2 (by decide)).symm (by omega) (by omega) (h (TR_2 fdC_2 hR) (BS_2 fdC_2 a1))
  have fe : ∀ (b : Nat) (f : Int) (e : Nat), b < n → 0 ≤ f ∧ f ≤ 6 → am_Calls PP MLL (e + 2) m_M_finds [qr (31, 12, 89), qi (b : Int), qi f] (fdC σ β b f) (kI fun x s => (MF s ∧ sI s 31 26 = 0) ∧ -1010 - f = x ∧ INV xs s (c + 1)) := fun b f e hb hf => by
    have e31 : sI (fdC σ β b f) 31 = sI σ 31 := fdC_o (by decide) (nB b hb 31 (by decide))
    refine c_M_finds e (MF_I hF fdC_2) (by omega) (by omega) (by rw [e31]; omega) ⟨⟨MF_I hF (show (mFinds (fdC σ β b f) b f).2 = σ.2 from fdC_2), by rw [mF_31, if_neg (by decide), if_neg (by decide), e31]; exact T26⟩, rfl, INV_fd hx0 hc hb hf⟩
  have fx : ∀ b f, b < n → sI (fdC σ β b f) 0 = xs := fun b f hb => by rw [fdC_o (by decide) (nB b hb 0 (by decide))]; exact hxs
  have fr : ∀ b f x, b < n → x < 87 → x ≠ 2 → sI (fdC σ β b f) x = sI σ x := fun b f x hb hx' h2 => fdC_o h2 (nB b hb x hx')
  have fM : ∀ b f, b < n → MF (fdC σ β b f) ∧ sI (fdC σ β b f) 31 26 = 0 := fun b f hb => ⟨MF_I hF fdC_2, by rw [fr b f 31 hb (by decide) (by decide)]; exact T26⟩
  have nr : ∀ b, b < n → ∀ k, k < 4 → ∀ x', x' < 87 → x' ≠ ρ b + k := fun b hb k hk x' hx' e => by
    have := (a2 b hb).2.2 k hk
    rw [← e, o1 x' hx'] at this
    omega
  have n40 := ti.1
  have bad : ((p1 < 0 ∨ (n : Int) ≤ p1) ∨ (p2 < 0 ∨ 1 < p2) ∨ (p4 < -1 ∨ (N : Int) ≤ p4)) → am_Calls PP MLL (d + 30) m_M_put [qr (31, 12, 89), qi p1, qi p2, qi p3, qi p4] σ (kI fun y t => -1001 = y ∧ INV xs t (c + 1)) := by
    intro hp
    refine v_M_put_0 (d + 26) p1 p2 p3 p4 σ _ hF T26 ?_
    rw [a5, tN]
    exact ⟨by omega, fun c1 => ⟨rfl, hs⟩, fun c1 => ⟨fun c2 => ⟨rfl, hs⟩, fun c2 => ⟨fun c3 => ⟨rfl, hs⟩, fun c3 => ⟨fun c4 => ⟨rfl, hs⟩, fun c4 => ⟨fun c5 => by omega, fun c5 => ⟨by omega, fun c6 => ⟨rfl, hs⟩, fun c6 => ⟨fun c7 => ⟨rfl, hs⟩, fun c7 => by omega⟩⟩⟩⟩⟩⟩⟩
  have good : ∀ (b s : Nat) (st : am_S) (x : Int), b < n → s < 2 → p1 = b → p2 = s → (-1 ≤ p4 ∧ p4 < N) → MF st → sI st 31 26 = 0 → sI st 31 = sI σ 31 → sI st 41 = sI σ 41 → sI st 44 = sI σ 44 → (plF (sI σ 41 b) (sI σ 44 (2 * b + s)) p3 = 0 → st = putI σ (ρ b + (2 * s + 1)) p3.toNat p4 ∧ x = sI σ 45 (20 * (2 * b + s) + p3.toNat)) → (plF (sI σ 41 b) (sI σ 44 (2 * b + s)) p3 ≠ 0 → st = fdC σ β b (plF (sI σ 41 b) (sI σ 44 (2 * b + s)) p3) ∧ x = -1010 - plF (sI σ 41 b) (sI σ 44 (2 * b + s)) p3) → am_Calls PP MLL (d + 30) m_M_put [qr (31, 12, 89), qi p1, qi p2, qi p3, qi p4] st (kI fun y t => x = y ∧ INV xs t (c + 1)) := by
    intro b s st x hb hs2 e1 e2 h4' f1 f2 f3 f4 f5 g0 g1
    subst e1
    subst e2
    have h20 := a7 (2 * b + s)
    obtain ⟨pi1, pi2, pi3⟩ := pan_in ib0 hb hs2
    have n40 := nr b hb (2 * s) (by omega)
    have n41 := nr b hb (2 * s + 1) (by omega)
    have one : am_Calls PP MLL (d + 29) m_M_placeFault [qr (31, 12, 89), qi (b : Int), qi (s : Int), qi p3] st (kI fun x6 s6 => (MF s6 ∧ sI s6 31 26 = 0) ∧ ((x6 = 0 → (-2147483648 ≤ 2 * (b : Int) ∧ 2 * (b : Int) < 2147483648 ∧ -2147483648 ≤ (2 * (b : Int)) + (s : Int) ∧ (2 * (b : Int)) + (s : Int) < 2147483648 ∧ -2147483648 ≤ 20 * ((2 * (b : Int)) + (s : Int)) ∧ 20 * ((2 * (b : Int)) + (s : Int)) < 2147483648 ∧ -2147483648 ≤ (20 * ((2 * (b : Int)) + (s : Int)) + p3) ∧ (20 * ((2 * (b : Int)) + (s : Int)) + p3) < 2147483648 ∧ 0 ≤ (20 * ((2 * (b : Int)) + (s : Int)) + p3) ∧ (20 * ((2 * (b : Int)) + (s : Int)) + p3) < 480) ∧ (x = (sI s6 45 (Int.toNat (20 * ((2 * (b : Int)) + (s : Int)) + p3))) ∧ INV xs (putI s6 45 (Int.toNat (20 * ((2 * (b : Int)) + (s : Int)) + p3)) p4) (c + 1))) ∧ (¬ (x6 = 0) → am_Calls PP MLL (d + 29) m_M_finds [qr (31, 12, 89), qi (b : Int), qi x6] s6 (kI fun x8 s8 => (MF s8 ∧ sI s8 31 26 = 0) ∧ (x = x8 ∧ INV xs s8 (c + 1)))))) := by
      refine c_M_placeFault (d + 26) f1 f2 (by omega) hs2 (by rw [f5]; exact a7) ?_
      rw [f4, f5]
      have hl := @plF_b (sI σ 41 b) (sI σ 44 (2 * b + s)) p3
      refine ⟨⟨f1, f2⟩, fun e => ?_, fun e => ?_⟩
      · obtain ⟨u1, u2, _⟩ := plF_0 e
        obtain ⟨v1, v2⟩ := g0 e
        rw [v1, v2, show ((20 * ((2 * (b : Int)) + (s : Int))) + p3).toNat = 20 * (2 * b + s) + p3.toNat by omega]
        refine ⟨by omega, by rw [put_ne (n41 45 (by decide))], ?_⟩
        have r44 : sI (putI (putI σ (ρ b + (2 * s + 1)) p3.toNat p4) 45 (20 * (2 * b + s) + p3.toNat) p4) 44 = sI σ 44 := by rw [put_ne (by decide), put_ne (n41 44 (by decide))]
        have r45 : ∀ i, sI (putI (putI σ (ρ b + (2 * s + 1)) p3.toNat p4) 45 (20 * (2 * b + s) + p3.toNat) p4) 45 i = if i = 20 * (2 * b + s) + p3.toNat then p4 else sI σ 45 i := fun i => by rw [put_at, put_ne (n41 45 (by decide))]
        have rs : ∀ i, sI (putI (putI σ (ρ b + (2 * s + 1)) p3.toNat p4) 45 (20 * (2 * b + s) + p3.toNat) p4) (ρ b + (2 * s + 1)) i = if i = p3.toNat then p4 else sI σ (ρ b + (2 * s + 1)) i := fun i => by rw [put_ne (n41 45 (by decide)).symm, put_at]
        refine INV_pan1 hx0 hc hb hs2 rfl (fun x' q1 q2 q3 q4 q5 => by rw [put_ne q2, put_ne q5]) (fun k _ => by rw [r44]) (fun i hi => by rw [r45, if_neg (by omega)]) ?_ (by rw [r44]; exact h20) (fun i hi => ?_) (fun i => ?_) (fun i => ?_)
        · rw [r44, put_ne (n40 45 (by decide)).symm, put_ne (by omega)]
          exact pi1
        · rw [r44] at hi
          rw [rs, r45]
          by_cases e' : i = p3.toNat
          · rw [if_pos e', if_pos (by omega)]
          · rw [if_neg e', if_neg (by omega)]
            exact pi2 i hi
        · rw [rs]
          split
          · omega
          · exact pi3 i
        · rw [r45]
          split
          · omega
          · exact a8 i
      · obtain ⟨v1, v2⟩ := g1 e
        rw [v1, v2]
        exact fe b _ (d + 27) hb (by omega)
    refine v_M_put_0 (d + 26) (b : Int) (s : Int) p3 p4 st _ f1 f2 ?_
    rw [f3, a5, tN]
    exact ⟨by omega, fun c1 => by omega, fun c1 => ⟨fun c2 => by omega, fun c2 => ⟨fun c3 => by omega, fun c3 => ⟨fun c4 => by omega, fun c4 => ⟨fun c5 => one, fun c5 => ⟨by omega, fun c6 => by omega, fun c6 => ⟨fun c7 => by omega, fun c7 => one⟩⟩⟩⟩⟩⟩⟩
  by_cases q0 : p2 = 0
  · subst q0
    refine v_C_putL_0 (d + 26) β μ κ ρ me aH nH aL nL aY nY aS nS n p1 p3 p4 σ _ hR a1 ?_
    rw [a4, w2]
    refine ⟨fun c1 => ⟨hxs, bad (by omega)⟩, fun c1 => ⟨fun c2 => ⟨hxs, bad (by omega)⟩, fun c2 => ?_⟩⟩
    obtain ⟨b, eb⟩ : ∃ b : Nat, p1 = b := ⟨p1.toNat, by omega⟩
    have hb : b < n := by omega
    have e1 : p1.toNat = b := by omega
    rw [e1]
    have h20 := a7 (2 * b + 0)
    obtain ⟨pi1, pi2, pi3⟩ := pan_in ib0 hb (show 0 < 2 by decide)
    have n40 := nr b hb (2 * 0) (by omega)
    have n41 := nr b hb (2 * 0 + 1) (by omega)
    have hl := @plF_b (sI σ 41 b) (sI σ 44 (2 * b + 0)) p3
    have one := fun (h4' : -1 ≤ p4 ∧ p4 < N) => c_wPlace (d + 26) (j := p3) (K := fun x5 s5 => (TR s5 aH nH aL nL aY nY aS nS ∧ BS s5 β μ κ ρ me n) ∧ ((x5 = 0 → (0 ≤ p3 ∧ p3 < 20) ∧ (sI (putI s5 (ρ b + 1) (Int.toNat p3) p4) 0 = xs ∧ am_Calls PP MLL (d + 30) m_M_put [qr (31, 12, 89), qi p1, qi 0, qi p3, qi p4] (putI s5 (ρ b + 1) (Int.toNat p3) p4) (kI fun y t => (sI s5 (ρ b + 1) (Int.toNat p3)) = y ∧ INV xs t (c + 1)))) ∧ (¬ (x5 = 0) → am_Calls PP MLL (d + 29) m_C_found [qr (2, 11, 10), qi p1, qi x5] s5 (kI fun x7 s7 => (TR s7 aH nH aL nL aY nY aS nS ∧ BS s7 β μ κ ρ me n) ∧ (sI s7 0 = xs ∧ am_Calls PP MLL (d + 30) m_M_put [qr (31, 12, 89), qi p1, qi 0, qi p3, qi p4] s7 (kI fun y t => x7 = y ∧ INV xs t (c + 1))))))) hR a1 hb (bd b hb) (s := 0) (by decide) ⟨⟨hR, a1⟩, fun e => by
      obtain ⟨u1, u2, _⟩ := plF_0 e
      refine ⟨by omega, by rw [put_ne (n41 0 (by decide))]; exact hxs, good b 0 _ _ hb (by decide) eb rfl h4' (MF_I hF rfl) (by rw [put_ne (n41 31 (by decide))]; exact T26) (put_ne (n41 31 (by decide))) (put_ne (n41 41 (by decide))) (put_ne (n41 44 (by decide))) (fun _ => ⟨rfl, ?_⟩) (fun q => absurd e q)⟩
      exact pi2 p3.toNat (by omega), fun e => by
      rw [eb]
      refine fd b _ _ (d + 28) hb (by omega) (fun t1 t2 => ⟨⟨t1, t2⟩, fx b _ hb, ?_⟩)
      rw [← eb]
      exact good b 0 _ _ hb (by decide) eb rfl h4' (fM b _ hb).1 (fM b _ hb).2 (fr b _ 31 hb (by decide) (by decide)) (fr b _ 41 hb (by decide) (by decide)) (fr b _ 44 hb (by decide) (by decide)) (fun q => absurd q e) (fun _ => ⟨rfl, rfl⟩)⟩
    exact ⟨fun c5 => ⟨by omega, one (by omega)⟩, fun c5 => ⟨fun c6 => ⟨hxs, bad (by omega)⟩, fun c6 => ⟨fun c7 => ⟨hxs, bad (by omega)⟩, fun c7 => ⟨by omega, one (by omega)⟩⟩⟩⟩
  by_cases q1 : p2 = 1
  · subst q1
    refine v_C_putR_0 (d + 26) β μ κ ρ me aH nH aL nL aY nY aS nS n p1 p3 p4 σ _ hR a1 ?_
    rw [a4, w2]
    refine ⟨fun c1 => ⟨hxs, bad (by omega)⟩, fun c1 => ⟨fun c2 => ⟨hxs, bad (by omega)⟩, fun c2 => ?_⟩⟩
    obtain ⟨b, eb⟩ : ∃ b : Nat, p1 = b := ⟨p1.toNat, by omega⟩
    have hb : b < n := by omega
    have e1 : p1.toNat = b := by omega
    rw [e1]
    have h20 := a7 (2 * b + 1)
    obtain ⟨pi1, pi2, pi3⟩ := pan_in ib0 hb (show 1 < 2 by decide)
    have n40 := nr b hb (2 * 1) (by omega)
    have n41 := nr b hb (2 * 1 + 1) (by omega)
    have hl := @plF_b (sI σ 41 b) (sI σ 44 (2 * b + 1)) p3
    have one := fun (h4' : -1 ≤ p4 ∧ p4 < N) => c_wPlace (d + 26) (j := p3) (K := fun x5 s5 => (TR s5 aH nH aL nL aY nY aS nS ∧ BS s5 β μ κ ρ me n) ∧ ((x5 = 0 → (0 ≤ p3 ∧ p3 < 20) ∧ (sI (putI s5 (ρ b + 3) (Int.toNat p3) p4) 0 = xs ∧ am_Calls PP MLL (d + 30) m_M_put [qr (31, 12, 89), qi p1, qi 1, qi p3, qi p4] (putI s5 (ρ b + 3) (Int.toNat p3) p4) (kI fun y t => (sI s5 (ρ b + 3) (Int.toNat p3)) = y ∧ INV xs t (c + 1)))) ∧ (¬ (x5 = 0) → am_Calls PP MLL (d + 29) m_C_found [qr (2, 11, 10), qi p1, qi x5] s5 (kI fun x7 s7 => (TR s7 aH nH aL nL aY nY aS nS ∧ BS s7 β μ κ ρ me n) ∧ (sI s7 0 = xs ∧ am_Calls PP MLL (d + 30) m_M_put [qr (31, 12, 89), qi p1, qi 1, qi p3, qi p4] s7 (kI fun y t => x7 = y ∧ INV xs t (c + 1))))))) hR a1 hb (bd b hb) (s := 1) (by decide) ⟨⟨hR, a1⟩, fun e => by
      obtain ⟨u1, u2, _⟩ := plF_0 e
      refine ⟨by omega, by rw [put_ne (n41 0 (by decide))]; exact hxs, good b 1 _ _ hb (by decide) eb rfl h4' (MF_I hF rfl) (by rw [put_ne (n41 31 (by decide))]; exact T26) (put_ne (n41 31 (by decide))) (put_ne (n41 41 (by decide))) (put_ne (n41 44 (by decide))) (fun _ => ⟨rfl, ?_⟩) (fun q => absurd e q)⟩
      exact pi2 p3.toNat (by omega), fun e => by
      rw [eb]
      refine fd b _ _ (d + 28) hb (by omega) (fun t1 t2 => ⟨⟨t1, t2⟩, fx b _ hb, ?_⟩)
      rw [← eb]
      exact good b 1 _ _ hb (by decide) eb rfl h4' (fM b _ hb).1 (fM b _ hb).2 (fr b _ 31 hb (by decide) (by decide)) (fr b _ 41 hb (by decide) (by decide)) (fr b _ 44 hb (by decide) (by decide)) (fun q => absurd q e) (fun _ => ⟨rfl, rfl⟩)⟩
    exact ⟨fun c5 => ⟨by omega, one (by omega)⟩, fun c5 => ⟨fun c6 => ⟨hxs, bad (by omega)⟩, fun c6 => ⟨fun c7 => ⟨hxs, bad (by omega)⟩, fun c7 => ⟨by omega, one (by omega)⟩⟩⟩⟩
  · refine v_C_putX_0 (d + 26) β μ κ ρ me aH nH aL nL aY nY aS nS n p1 p2 p3 p4 σ _ hR a1 q0 q1 ?_
    rw [a4]
    exact ⟨fun c1 => ⟨hxs, bad (by omega)⟩, fun c1 => ⟨fun c2 => ⟨hxs, bad (by omega)⟩, fun c2 => ⟨hxs, bad (by omega)⟩⟩⟩
theorem p_unpan (d : Nat) {xs : Nat → Int} {c : Nat} {σ : am_S} {p1 p2 : Int} (hI : INV xs σ c) (hc : c + 1 ≤ 600) : PR d xs m_C_unpan m_M_unpan [qi p1, qi p2] σ c := by
  have hs := INV_s hI hc
  obtain ⟨own, β, μ, κ, ρ, me, n, aH, nH, aL, nL, aY, nY, aS, nS, N, l, m, T, W, kd, aR, nR, aV, nV, aI, nI, aQ, nQ, g, w, hx⟩ := hI
  have hx0 := hx
  obtain ⟨⟨hF, hab, hxs⟩, it, il, ib, im, ij, sc, rz, is, ir, hc6⟩ := hx
  obtain ⟨hR, ow, ti, kt, ks, ⟨w1, w2, w3, w4, w5, w6, w7, w8⟩, ⟨l1, l2, l3, l4⟩, lz, ⟨q1, q2, q3, q4⟩, h87⟩ := it
  have o1 := ow.1
  have ib0 := ib
  obtain ⟨a1, a2, a3, ⟨n12, a4, a5⟩, bd, a6, a7, a8, a9, a10⟩ := ib
  obtain ⟨m1, ⟨m2, T26⟩, m3, m4, m5, m6⟩ := im
  have tN := ti.2.2.2.2.1
  have tT := ti.2.2.2.2.2.2.1
  have T4 := ti.2.2.2.2.2.2.2.2.1
  have nB : ∀ b, b < n → ∀ x, x < 87 → x ≠ β b := fun b hb x hx' e => by
    have := (a2 b hb).1
    rw [← e, o1 x hx'] at this
    omega
  have fd : ∀ (b : Nat) (f : Int) (K : Int → am_S → Prop) (e : Nat), b < n → 0 ≤ f ∧ f ≤ 6 → (TR (fdC σ β b f) aH nH aL nL aY nY aS nS → BS (fdC σ β b f) β μ κ ρ me n → K (-1010 - f) (fdC σ β b f)) → am_Calls PP MLL (e + 1) m_C_found [qr (2, 11, 10), qi (b : Int), qi f] σ (kI K) := fun b f K e hb hf h => c_found e hR.1 a1 n12 hb (nB b hb 2 (by decide)).symm (by omega) (by omega) (h (TR_2 fdC_2 hR) (BS_2 fdC_2 a1))
  have fe : ∀ (b : Nat) (f : Int) (e : Nat), b < n → 0 ≤ f ∧ f ≤ 6 → am_Calls PP MLL (e + 2) m_M_finds [qr (31, 12, 89), qi (b : Int), qi f] (fdC σ β b f) (kI fun x s => (MF s ∧ sI s 31 26 = 0) ∧ -1010 - f = x ∧ INV xs s (c + 1)) := fun b f e hb hf => by
    have e31 : sI (fdC σ β b f) 31 = sI σ 31 := fdC_o (by decide) (nB b hb 31 (by decide))
    refine c_M_finds e (MF_I hF fdC_2) (by omega) (by omega) (by rw [e31]; omega) ⟨⟨MF_I hF (show (mFinds (fdC σ β b f) b f).2 = σ.2 from fdC_2), by rw [mF_31, if_neg (by decide), if_neg (by decide), e31]; exact T26⟩, rfl, INV_fd hx0 hc hb hf⟩
  have fx : ∀ b f, b < n → sI (fdC σ β b f) 0 = xs := fun b f hb => by rw [fdC_o (by decide) (nB b hb 0 (by decide))]; exact hxs
  have fr : ∀ b f x, b < n → x < 87 → x ≠ 2 → sI (fdC σ β b f) x = sI σ x := fun b f x hb hx' h2 => fdC_o h2 (nB b hb x hx')
  have fM : ∀ b f, b < n → MF (fdC σ β b f) ∧ sI (fdC σ β b f) 31 26 = 0 := fun b f hb => ⟨MF_I hF fdC_2, by rw [fr b f 31 hb (by decide) (by decide)]; exact T26⟩
  have nr : ∀ b, b < n → ∀ k, k < 4 → ∀ x', x' < 87 → x' ≠ ρ b + k := fun b hb k hk x' hx' e => by
    have := (a2 b hb).2.2 k hk
    rw [← e, o1 x' hx'] at this
    omega
  have n40 := ti.1
  have bad : ((p1 < 0 ∨ (n : Int) ≤ p1) ∨ (p2 < 0 ∨ 1 < p2)) → am_Calls PP MLL (d + 30) m_M_unpan [qr (31, 12, 89), qi p1, qi p2] σ (kI fun y t => -1001 = y ∧ INV xs t (c + 1)) := by
    intro hp
    refine v_M_unpan_0 (d + 27) p1 p2 σ _ hF T26 ?_
    rw [a5]
    exact ⟨by omega, fun c1 => ⟨rfl, hs⟩, fun c1 => ⟨fun c2 => ⟨rfl, hs⟩, fun c2 => ⟨fun c3 => ⟨rfl, hs⟩, fun c3 => ⟨fun c4 => ⟨rfl, hs⟩, fun c4 => by omega⟩⟩⟩⟩
  have good : ∀ (b s : Nat) (st : am_S) (x : Int), b < n → s < 2 → p1 = b → p2 = s → MF st → sI st 31 26 = 0 → sI st 31 = sI σ 31 → sI st 41 = sI σ 41 → sI st 44 = sI σ 44 → (pnF (sI σ 41 b) (sI σ 44 (2 * b + s)) = 0 → st = putI σ (ρ b + 2 * s) 1 (-1) ∧ x = sI σ 44 (2 * b + s)) → (pnF (sI σ 41 b) (sI σ 44 (2 * b + s)) ≠ 0 → st = fdC σ β b (pnF (sI σ 41 b) (sI σ 44 (2 * b + s))) ∧ x = -1010 - pnF (sI σ 41 b) (sI σ 44 (2 * b + s))) → am_Calls PP MLL (d + 30) m_M_unpan [qr (31, 12, 89), qi p1, qi p2] st (kI fun y t => x = y ∧ INV xs t (c + 1)) := by
    intro b s st x hb hs2 e1 e2 f1 f2 f3 f4 f5 g0 g1
    subst e1
    subst e2
    have h20 := a7 (2 * b + s)
    obtain ⟨pi1, pi2, pi3⟩ := pan_in ib0 hb hs2
    have n40 := nr b hb (2 * s) (by omega)
    have n41 := nr b hb (2 * s + 1) (by omega)
    refine v_M_unpan_0 (d + 27) (b : Int) (s : Int) st _ f1 f2 ?_
    rw [f3, a5]
    refine ⟨by omega, fun c1 => by omega, fun c1 => ⟨fun c2 => by omega, fun c2 => ⟨fun c3 => by omega, fun c3 => ⟨fun c4 => by omega, fun c4 => ?_⟩⟩⟩⟩
    refine c_M_panFault (d + 27) f1 f2 (by omega) ?_
    rw [show ((2 * (b : Int)) + (s : Int)).toNat = 2 * b + s by omega, f4, f5, (show (if paF (sI σ 41 b) = 0 then (if 0 ≤ (sI σ 44 (2 * b + s)) then (paF (sI σ 41 b) : Int) else 2 : Int) else paF (sI σ 41 b)) = pnF (sI σ 41 b) (sI σ 44 (2 * b + s)) by
      unfold pnF
      split
      · rename_i e
        split
        · exact e
        · rfl
      · rfl)]
    have hl := @pnF_b (sI σ 41 b) (sI σ 44 (2 * b + s))
    refine ⟨⟨f1, f2⟩, ⟨fun _ => by omega, fun _ => by omega, fun _ => by omega, fun _ => by omega, fun _ => by omega, fun _ => by omega⟩, fun e => ⟨by omega, ?_⟩, fun e => ?_⟩
    · obtain ⟨v1, v2⟩ := g0 e
      rw [v1, v2]
      refine ⟨rfl, ?_⟩
      have r44 : ∀ k, sI (putI (putI σ (ρ b + 2 * s) 1 (-1)) 44 (2 * b + s) (-1)) 44 k = if k = 2 * b + s then -1 else sI σ 44 k := fun k => by rw [put_at, put_ne (n40 44 (by decide))]
      have r45 : sI (putI (putI σ (ρ b + 2 * s) 1 (-1)) 44 (2 * b + s) (-1)) 45 = sI σ 45 := by rw [put_ne (by decide), put_ne (n40 45 (by decide))]
      refine INV_pan1 hx0 hc hb hs2 rfl (fun x' q1 q2 q3 q4 q5 => by rw [put_ne q1, put_ne q4]) (fun k hk => by rw [r44, if_neg hk]) (fun i hi => by rw [r45]) ?_ (by rw [r44, if_pos rfl]; omega) (fun i hi => ?_) (fun i => ?_) (by rw [r45]; exact a8)
      · rw [r44, if_pos rfl, put_ne (n40 44 (by decide)).symm, put_at, if_pos rfl]
      · rw [r44, if_pos rfl] at hi
        omega
      · rw [put_ne (n41 44 (by decide)).symm, put_ne (by omega)]
        exact pi3 i
    · obtain ⟨v1, v2⟩ := g1 e
      rw [v1, v2]
      exact fe b _ (d + 27) hb (by omega)
  by_cases q0 : p2 = 0
  · subst q0
    refine v_C_unpanL_0 (d + 27) β μ κ ρ me aH nH aL nL aY nY aS nS n p1 σ _ hR a1 ?_
    rw [a4]
    refine ⟨fun c1 => ⟨hxs, bad (by omega)⟩, fun c1 => ⟨fun c2 => ⟨hxs, bad (by omega)⟩, fun c2 => ?_⟩⟩
    obtain ⟨b, eb⟩ : ∃ b : Nat, p1 = b := ⟨p1.toNat, by omega⟩
    have hb : b < n := by omega
    have e1 : p1.toNat = b := by omega
    rw [e1]
    have h20 := a7 (2 * b + 0)
    obtain ⟨pi1, pi2, pi3⟩ := pan_in ib0 hb (show 0 < 2 by decide)
    have n40 := nr b hb (2 * 0) (by omega)
    have n41 := nr b hb (2 * 0 + 1) (by omega)
    have hl := @pnF_b (sI σ 41 b) (sI σ 44 (2 * b + 0))
    refine ⟨by omega, c_wPan (d + 27) hR a1 hb (bd b hb) (s := 0) (by decide) ⟨⟨hR, a1⟩, fun e => ?_, fun e => ?_⟩⟩
    · exact ⟨by rw [← hxs]; exact put_ne (n40 0 (by decide)), good b 0 _ _ hb (by decide) eb rfl (MF_I hF rfl) ((congrFun (put_ne (n40 31 (by decide))) 26).trans T26) (put_ne (n40 31 (by decide))) (put_ne (n40 41 (by decide))) (put_ne (n40 44 (by decide))) (fun _ => ⟨rfl, pi1⟩) (fun q => absurd e q)⟩
    · rw [eb]
      refine fd b _ _ (d + 28) hb (by omega) (fun t1 t2 => ⟨⟨t1, t2⟩, fx b _ hb, ?_⟩)
      rw [← eb]
      exact good b 0 _ _ hb (by decide) eb rfl (fM b _ hb).1 (fM b _ hb).2 (fr b _ 31 hb (by decide) (by decide)) (fr b _ 41 hb (by decide) (by decide)) (fr b _ 44 hb (by decide) (by decide)) (fun q => absurd q e) (fun _ => ⟨rfl, rfl⟩)
  by_cases q1 : p2 = 1
  · subst q1
    refine v_C_unpanR_0 (d + 27) β μ κ ρ me aH nH aL nL aY nY aS nS n p1 σ _ hR a1 ?_
    rw [a4]
    refine ⟨fun c1 => ⟨hxs, bad (by omega)⟩, fun c1 => ⟨fun c2 => ⟨hxs, bad (by omega)⟩, fun c2 => ?_⟩⟩
    obtain ⟨b, eb⟩ : ∃ b : Nat, p1 = b := ⟨p1.toNat, by omega⟩
    have hb : b < n := by omega
    have e1 : p1.toNat = b := by omega
    rw [e1]
    have h20 := a7 (2 * b + 1)
    obtain ⟨pi1, pi2, pi3⟩ := pan_in ib0 hb (show 1 < 2 by decide)
    have n40 := nr b hb (2 * 1) (by omega)
    have n41 := nr b hb (2 * 1 + 1) (by omega)
    have hl := @pnF_b (sI σ 41 b) (sI σ 44 (2 * b + 1))
    refine ⟨by omega, c_wPan (d + 27) hR a1 hb (bd b hb) (s := 1) (by decide) ⟨⟨hR, a1⟩, fun e => ?_, fun e => ?_⟩⟩
    · exact ⟨by rw [← hxs]; exact put_ne (n40 0 (by decide)), good b 1 _ _ hb (by decide) eb rfl (MF_I hF rfl) ((congrFun (put_ne (n40 31 (by decide))) 26).trans T26) (put_ne (n40 31 (by decide))) (put_ne (n40 41 (by decide))) (put_ne (n40 44 (by decide))) (fun _ => ⟨rfl, pi1⟩) (fun q => absurd e q)⟩
    · rw [eb]
      refine fd b _ _ (d + 28) hb (by omega) (fun t1 t2 => ⟨⟨t1, t2⟩, fx b _ hb, ?_⟩)
      rw [← eb]
      exact good b 1 _ _ hb (by decide) eb rfl (fM b _ hb).1 (fM b _ hb).2 (fr b _ 31 hb (by decide) (by decide)) (fr b _ 41 hb (by decide) (by decide)) (fr b _ 44 hb (by decide) (by decide)) (fun q => absurd q e) (fun _ => ⟨rfl, rfl⟩)
  · refine v_C_unpanX_0 (d + 27) β μ κ ρ me aH nH aL nL aY nY aS nS n p1 p2 σ _ hR a1 q0 q1 ?_
    rw [a4]
    exact ⟨fun c1 => ⟨hxs, bad (by omega)⟩, fun c1 => ⟨fun c2 => ⟨hxs, bad (by omega)⟩, fun c2 => ⟨hxs, bad (by omega)⟩⟩⟩
theorem p_pan (d : Nat) {xs : Nat → Int} {c : Nat} {σ : am_S} {p1 p2 p3 : Int} (hI : INV xs σ c) (hc : c + 1 ≤ 600) : PR d xs m_C_pan m_M_pan [qi p1, qi p2, qi p3] σ c := by
  have hs := INV_s hI hc
  obtain ⟨own, β, μ, κ, ρ, me, n, aH, nH, aL, nL, aY, nY, aS, nS, N, l, m, T, W, kd, aR, nR, aV, nV, aI, nI, aQ, nQ, g, w, hx⟩ := hI
  have hx0 := hx
  obtain ⟨⟨hF, hab, hxs⟩, it, il, ib, im, ij, sc, rz, is, ir, hc6⟩ := hx
  obtain ⟨hR, ow, ti, kt, ks, ⟨w1, w2, w3, w4, w5, w6, w7, w8⟩, ⟨l1, l2, l3, l4⟩, lz, ⟨q1, q2, q3, q4⟩, h87⟩ := it
  have o1 := ow.1
  have ib0 := ib
  obtain ⟨a1, a2, a3, ⟨n12, a4, a5⟩, bd, a6, a7, a8, a9, a10⟩ := ib
  obtain ⟨m1, ⟨m2, T26⟩, m3, m4, m5, m6⟩ := im
  have tN := ti.2.2.2.2.1
  have tT := ti.2.2.2.2.2.2.1
  have T4 := ti.2.2.2.2.2.2.2.2.1
  have nB : ∀ b, b < n → ∀ x, x < 87 → x ≠ β b := fun b hb x hx' e => by
    have := (a2 b hb).1
    rw [← e, o1 x hx'] at this
    omega
  have fd : ∀ (b : Nat) (f : Int) (K : Int → am_S → Prop) (e : Nat), b < n → 0 ≤ f ∧ f ≤ 6 → (TR (fdC σ β b f) aH nH aL nL aY nY aS nS → BS (fdC σ β b f) β μ κ ρ me n → K (-1010 - f) (fdC σ β b f)) → am_Calls PP MLL (e + 1) m_C_found [qr (2, 11, 10), qi (b : Int), qi f] σ (kI K) := fun b f K e hb hf h => c_found e hR.1 a1 n12 hb (nB b hb 2 (by decide)).symm (by omega) (by omega) (h (TR_2 fdC_2 hR) (BS_2 fdC_2 a1))
  have fe : ∀ (b : Nat) (f : Int) (e : Nat), b < n → 0 ≤ f ∧ f ≤ 6 → am_Calls PP MLL (e + 2) m_M_finds [qr (31, 12, 89), qi (b : Int), qi f] (fdC σ β b f) (kI fun x s => (MF s ∧ sI s 31 26 = 0) ∧ -1010 - f = x ∧ INV xs s (c + 1)) := fun b f e hb hf => by
    have e31 : sI (fdC σ β b f) 31 = sI σ 31 := fdC_o (by decide) (nB b hb 31 (by decide))
    refine c_M_finds e (MF_I hF fdC_2) (by omega) (by omega) (by rw [e31]; omega) ⟨⟨MF_I hF (show (mFinds (fdC σ β b f) b f).2 = σ.2 from fdC_2), by rw [mF_31, if_neg (by decide), if_neg (by decide), e31]; exact T26⟩, rfl, INV_fd hx0 hc hb hf⟩
  have fx : ∀ b f, b < n → sI (fdC σ β b f) 0 = xs := fun b f hb => by rw [fdC_o (by decide) (nB b hb 0 (by decide))]; exact hxs
  have fr : ∀ b f x, b < n → x < 87 → x ≠ 2 → sI (fdC σ β b f) x = sI σ x := fun b f x hb hx' h2 => fdC_o h2 (nB b hb x hx')
  have fM : ∀ b f, b < n → MF (fdC σ β b f) ∧ sI (fdC σ β b f) 31 26 = 0 := fun b f hb => ⟨MF_I hF fdC_2, by rw [fr b f 31 hb (by decide) (by decide)]; exact T26⟩
  have nr : ∀ b, b < n → ∀ k, k < 4 → ∀ x', x' < 87 → x' ≠ ρ b + k := fun b hb k hk x' hx' e => by
    have := (a2 b hb).2.2 k hk
    rw [← e, o1 x' hx'] at this
    omega
  have n40 := ti.1
  have bad : ((p1 < 0 ∨ (n : Int) ≤ p1) ∨ (p2 < 0 ∨ 1 < p2) ∨ 20 < p3) → am_Calls PP MLL (d + 30) m_M_pan [qr (31, 12, 89), qi p1, qi p2, qi p3] σ (kI fun y t => -1001 = y ∧ INV xs t (c + 1)) := by
    intro hp
    refine v_M_panT_0 (d + 27) p1 p2 p3 σ _ hF T26 ?_
    rw [a5]
    exact ⟨by omega, fun c1 => ⟨rfl, hs⟩, fun c1 => ⟨fun c2 => ⟨rfl, hs⟩, fun c2 => ⟨fun c3 => ⟨rfl, hs⟩, fun c3 => ⟨fun c4 => ⟨rfl, hs⟩, fun c4 => ⟨fun c5 => by omega, fun c5 => ⟨rfl, hs⟩⟩⟩⟩⟩⟩
  have good : ∀ (b s : Nat) (st : am_S) (x : Int), b < n → s < 2 → p1 = b → p2 = s → p3 ≤ 20 → MF st → sI st 31 26 = 0 → sI st 31 = sI σ 31 → sI st 41 = sI σ 41 → sI st 44 = sI σ 44 → ((if paF (sI σ 41 b) = 0 then (if 0 ≤ p3 then (paF (sI σ 41 b) : Int) else 5 : Int) else paF (sI σ 41 b)) = 0 → st = rowI (putI σ (ρ b + 2 * s) 1 p3) (ρ b + (2 * s + 1)) (fun j => if j < 20 then -1 else sI σ (ρ b + (2 * s + 1)) j) ∧ x = 1) → ((if paF (sI σ 41 b) = 0 then (if 0 ≤ p3 then (paF (sI σ 41 b) : Int) else 5 : Int) else paF (sI σ 41 b)) ≠ 0 → st = fdC σ β b ((if paF (sI σ 41 b) = 0 then (if 0 ≤ p3 then (paF (sI σ 41 b) : Int) else 5 : Int) else paF (sI σ 41 b))) ∧ x = -1010 - (if paF (sI σ 41 b) = 0 then (if 0 ≤ p3 then (paF (sI σ 41 b) : Int) else 5 : Int) else paF (sI σ 41 b))) → am_Calls PP MLL (d + 30) m_M_pan [qr (31, 12, 89), qi p1, qi p2, qi p3] st (kI fun y t => x = y ∧ INV xs t (c + 1)) := by
    intro b s st x hb hs2 e1 e2 h4' f1 f2 f3 f4 f5 g0 g1
    subst e1
    subst e2
    have h20 := a7 (2 * b + s)
    obtain ⟨pi1, pi2, pi3⟩ := pan_in ib0 hb hs2
    have n40 := nr b hb (2 * s) (by omega)
    have n41 := nr b hb (2 * s + 1) (by omega)
    refine v_M_panT_0 (d + 27) (b : Int) (s : Int) p3 st _ f1 f2 ?_
    rw [f3, a5]
    refine ⟨by omega, fun c1 => by omega, fun c1 => ⟨fun c2 => by omega, fun c2 => ⟨fun c3 => by omega, fun c3 => ⟨fun c4 => by omega, fun c4 => ⟨fun _ => ?_, fun q => absurd h4' q⟩⟩⟩⟩⟩
    refine c_M_panFault (d + 27) f1 f2 (by omega) ?_
    rw [show ((2 * (b : Int)) + (s : Int)).toNat = 2 * b + s by omega, f4]
    have hl := @paF_b (sI σ 41 b)
    refine ⟨⟨f1, f2⟩, fun e => ⟨by omega, ?_⟩, fun e => ?_⟩
    · obtain ⟨v1, v2⟩ := g0 e
      have p0 : 0 ≤ p3 := by
        by_cases q : 0 ≤ p3
        · exact q
        · rw [if_neg q] at e
          split at e <;> omega
      rw [v2]
      obtain ⟨k, ek⟩ : ∃ k : Nat, p3 = k := ⟨p3.toNat, by omega⟩
      rw [ek]
      refine l_M_pan (d + 27) (b := b) (s := s) (n := k) (σ := putI st 44 (2 * b + s) (k : Int)) (MF_I f1 rfl) (by omega) hs2 (by omega) ?_ _
      refine ⟨rfl, ?_⟩
      rw [v1, ← ek]
      obtain ⟨Z, eZ⟩ : ∃ Z, Z = rowI (putI σ (ρ b + 2 * s) 1 p3) (ρ b + (2 * s + 1)) (fun j => if j < 20 then -1 else sI σ (ρ b + (2 * s + 1)) j) := ⟨_, rfl⟩
      rw [← eZ]
      have Zo : ∀ x', x' ≠ ρ b + 2 * s → x' ≠ ρ b + (2 * s + 1) → sI Z x' = sI σ x' := fun x' r1 r2 => by rw [eZ, row_ne r2, put_ne r1]
      have Z0 : ∀ i, sI Z (ρ b + 2 * s) i = if i = 1 then p3 else sI σ (ρ b + 2 * s) i := fun i => by rw [eZ, row_ne (by omega), put_at]
      have Z1 : ∀ i, sI Z (ρ b + (2 * s + 1)) i = if i < 20 then -1 else sI σ (ρ b + (2 * s + 1)) i := fun i => by rw [eZ, row_at]
      have z45 : sI (putI Z 44 (2 * b + s) p3) 45 = sI σ 45 := by rw [put_ne (by decide), Zo 45 (n40 45 (by decide)) (n41 45 (by decide))]
      rw [z45]
      obtain ⟨Y, eY⟩ : ∃ Y, Y = rowI (putI Z 44 (2 * b + s) p3) 45 (fun k' => if 20 * (2 * b + s) ≤ k' ∧ k' < 20 * (2 * b + s) + k then -1 else sI σ 45 k') := ⟨_, rfl⟩
      rw [← eY]
      have Y44 : ∀ i, sI Y 44 i = if i = 2 * b + s then p3 else sI σ 44 i := fun i => by rw [eY, row_ne (by decide), put_at, Zo 44 (n40 44 (by decide)) (n41 44 (by decide))]
      have Y45 : ∀ i, sI Y 45 i = if 20 * (2 * b + s) ≤ i ∧ i < 20 * (2 * b + s) + k then -1 else sI σ 45 i := fun i => by rw [eY, row_at]
      have Yo : ∀ x', x' ≠ 44 → x' ≠ 45 → sI Y x' = sI Z x' := fun x' r1 r2 => by rw [eY, row_ne r2, put_ne r1]
      refine INV_pan1 hx0 hc hb hs2 (by rw [eY, eZ]; rfl) (fun x' q1 q2 q3 q4 q5 => by rw [Yo x' q1 q2, Zo x' q4 q5]) (fun i hi => by rw [Y44, if_neg hi]) (fun i hi => by rw [Y45, if_neg (by omega)]) ?_ (by rw [Y44, if_pos rfl]; omega) (fun i hi => ?_) (fun i => ?_) (fun i => ?_)
      · rw [Yo _ (n40 44 (by decide)).symm (n40 45 (by decide)).symm, Z0, if_pos rfl, Y44, if_pos rfl]
      · rw [Y44, if_pos rfl] at hi
        rw [Yo _ (n41 44 (by decide)).symm (n41 45 (by decide)).symm, Z1, if_pos (by omega), Y45, if_pos (by omega)]
      · rw [Yo _ (n41 44 (by decide)).symm (n41 45 (by decide)).symm, Z1]
        split
        · omega
        · exact pi3 i
      · rw [Y45]
        split
        · omega
        · exact a8 i
    · obtain ⟨v1, v2⟩ := g1 e
      rw [v2]
      have hq : 0 ≤ (if paF (sI σ 41 b) = 0 then (if 0 ≤ p3 then (paF (sI σ 41 b) : Int) else 5 : Int) else paF (sI σ 41 b)) ∧ (if paF (sI σ 41 b) = 0 then (if 0 ≤ p3 then (paF (sI σ 41 b) : Int) else 5 : Int) else paF (sI σ 41 b)) ≤ 6 := by (repeat' split) <;> omega
      have := fe b (if paF (sI σ 41 b) = 0 then (if 0 ≤ p3 then (paF (sI σ 41 b) : Int) else 5 : Int) else paF (sI σ 41 b)) (d + 27) hb hq
      rw [← v1] at this
      exact this
  by_cases q0 : p2 = 0
  · subst q0
    refine v_C_panL_0 (d + 26) β μ κ ρ me aH nH aL nL aY nY aS nS n p1 p3 σ _ hR a1 ?_
    rw [a4]
    refine ⟨fun c1 => ⟨hxs, bad (by omega)⟩, fun c1 => ⟨fun c2 => ⟨hxs, bad (by omega)⟩, fun c2 => ?_⟩⟩
    obtain ⟨b, eb⟩ : ∃ b : Nat, p1 = b := ⟨p1.toNat, by omega⟩
    have hb : b < n := by omega
    have e1 : p1.toNat = b := by omega
    rw [e1]
    have h20 := a7 (2 * b + 0)
    obtain ⟨pi1, pi2, pi3⟩ := pan_in ib0 hb (show 0 < 2 by decide)
    have n40 := nr b hb (2 * 0) (by omega)
    have n41 := nr b hb (2 * 0 + 1) (by omega)
    have hl := @paF_b (sI σ 41 b)
    refine ⟨fun h4' => ⟨by omega, c_wPans (d + 28) hR a1 hb (bd b hb) ⟨⟨hR, a1⟩, fun e => ?_, fun e => ?_⟩⟩, fun h4' => ⟨hxs, bad (by omega)⟩⟩
    · refine c_Pan_lay (d + 26) (show PF σ (ρ b + 2 * 0) from (a1 b hb).2.2.2.2.2.1) ?_
      have go : ∀ x', x' < 87 → sI (rowI (putI σ (ρ b + 2 * 0) 1 p3) (ρ b + (2 * 0 + 1)) (fun j => if j < 20 then -1 else sI σ (ρ b + (2 * 0 + 1)) j)) x' = sI σ x' := fun x' hx' => by rw [row_ne (n41 x' hx'), put_ne (n40 x' hx')]
      exact ⟨⟨TR_2 rfl hR, BS_2 rfl a1⟩, by rw [← hxs]; exact go 0 (by decide), good b 0 _ _ hb (by decide) eb rfl h4' (MF_I hF rfl) ((congrFun (go 31 (by decide)) 26).trans T26) (go 31 (by decide)) (go 41 (by decide)) (go 44 (by decide)) (fun _ => ⟨rfl, rfl⟩) (fun q => absurd e q)⟩
    · rw [eb]
      have hq : 0 ≤ (if paF (sI σ 41 b) = 0 then (if 0 ≤ p3 then (paF (sI σ 41 b) : Int) else 5 : Int) else paF (sI σ 41 b)) ∧ (if paF (sI σ 41 b) = 0 then (if 0 ≤ p3 then (paF (sI σ 41 b) : Int) else 5 : Int) else paF (sI σ 41 b)) ≤ 6 := by (repeat' split) <;> omega
      refine fd b _ _ (d + 28) hb hq (fun t1 t2 => ⟨⟨t1, t2⟩, fx b _ hb, ?_⟩)
      rw [← eb]
      exact good b 0 _ _ hb (by decide) eb rfl h4' (fM b _ hb).1 (fM b _ hb).2 (fr b _ 31 hb (by decide) (by decide)) (fr b _ 41 hb (by decide) (by decide)) (fr b _ 44 hb (by decide) (by decide)) (fun q => absurd q e) (fun _ => ⟨rfl, rfl⟩)
  by_cases q1 : p2 = 1
  · subst q1
    refine v_C_panR_0 (d + 26) β μ κ ρ me aH nH aL nL aY nY aS nS n p1 p3 σ _ hR a1 ?_
    rw [a4]
    refine ⟨fun c1 => ⟨hxs, bad (by omega)⟩, fun c1 => ⟨fun c2 => ⟨hxs, bad (by omega)⟩, fun c2 => ?_⟩⟩
    obtain ⟨b, eb⟩ : ∃ b : Nat, p1 = b := ⟨p1.toNat, by omega⟩
    have hb : b < n := by omega
    have e1 : p1.toNat = b := by omega
    rw [e1]
    have h20 := a7 (2 * b + 1)
    obtain ⟨pi1, pi2, pi3⟩ := pan_in ib0 hb (show 1 < 2 by decide)
    have n40 := nr b hb (2 * 1) (by omega)
    have n41 := nr b hb (2 * 1 + 1) (by omega)
    have hl := @paF_b (sI σ 41 b)
    refine ⟨fun h4' => ⟨by omega, c_wPans (d + 28) hR a1 hb (bd b hb) ⟨⟨hR, a1⟩, fun e => ?_, fun e => ?_⟩⟩, fun h4' => ⟨hxs, bad (by omega)⟩⟩
    · refine c_Pan_lay (d + 26) (show PF σ (ρ b + 2 * 1) from (a1 b hb).2.2.2.2.2.2.1) ?_
      have go : ∀ x', x' < 87 → sI (rowI (putI σ (ρ b + 2 * 1) 1 p3) (ρ b + (2 * 1 + 1)) (fun j => if j < 20 then -1 else sI σ (ρ b + (2 * 1 + 1)) j)) x' = sI σ x' := fun x' hx' => by rw [row_ne (n41 x' hx'), put_ne (n40 x' hx')]
      exact ⟨⟨TR_2 rfl hR, BS_2 rfl a1⟩, by rw [← hxs]; exact go 0 (by decide), good b 1 _ _ hb (by decide) eb rfl h4' (MF_I hF rfl) ((congrFun (go 31 (by decide)) 26).trans T26) (go 31 (by decide)) (go 41 (by decide)) (go 44 (by decide)) (fun _ => ⟨rfl, rfl⟩) (fun q => absurd e q)⟩
    · rw [eb]
      have hq : 0 ≤ (if paF (sI σ 41 b) = 0 then (if 0 ≤ p3 then (paF (sI σ 41 b) : Int) else 5 : Int) else paF (sI σ 41 b)) ∧ (if paF (sI σ 41 b) = 0 then (if 0 ≤ p3 then (paF (sI σ 41 b) : Int) else 5 : Int) else paF (sI σ 41 b)) ≤ 6 := by (repeat' split) <;> omega
      refine fd b _ _ (d + 28) hb hq (fun t1 t2 => ⟨⟨t1, t2⟩, fx b _ hb, ?_⟩)
      rw [← eb]
      exact good b 1 _ _ hb (by decide) eb rfl h4' (fM b _ hb).1 (fM b _ hb).2 (fr b _ 31 hb (by decide) (by decide)) (fr b _ 41 hb (by decide) (by decide)) (fr b _ 44 hb (by decide) (by decide)) (fun q => absurd q e) (fun _ => ⟨rfl, rfl⟩)
  · refine v_C_panX_0 (d + 26) β μ κ ρ me aH nH aL nL aY nY aS nS n p1 p2 p3 σ _ hR a1 q0 q1 ?_
    rw [a4]
    exact ⟨fun c1 => ⟨hxs, bad (by omega)⟩, fun c1 => ⟨fun c2 => ⟨hxs, bad (by omega)⟩, fun c2 => ⟨hxs, bad (by omega)⟩⟩⟩
