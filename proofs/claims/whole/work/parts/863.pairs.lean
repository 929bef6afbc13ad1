/-! the calls in pairs: at, put, unpan, pan -/
theorem v_C_at_0 (d : Nat) (β μ κ ρ : Nat → Nat) (me : Nat → Nat → Nat) (aH nH aL nL aY nY aS nS n : Nat) (p1 p2 p3 : Int) (σ : am_S) (K : Int → am_S → Prop) (hR : TR σ aH nH aL nL aY nY aS nS) (hB : BS σ β μ κ ρ me n) (h :
  ((p1 < 0 →
    K (-1001) σ) ∧
  (¬ (p1 < 0) →
    (((sI σ 2 5) ≤ p1 →
      K (-1001) σ) ∧
    (¬ ((sI σ 2 5) ≤ p1) →
      ((p2 = 0 →
        (0 ≤ p1 ∧ p1 < 12 ∧ (Int.toNat p1) < n) ∧
        am_Calls PP MLL (d + 3) m_C_withoutPlace [qr (β (Int.toNat p1), 0, 9), qi p2, qi p3] σ (kI fun x4 s4 =>
          (TR s4 aH nH aL nL aY nY aS nS ∧ BS s4 β μ κ ρ me n) ∧
          ((x4 = 0 →
            (0 ≤ p3 ∧ p3 < 20) ∧
            K (sI s4 (ρ (Int.toNat p1) + 1) (Int.toNat p3)) s4) ∧
          (¬ (x4 = 0) →
            am_Calls PP MLL (d + 3) m_C_found [qr (2, 11, 10), qi p1, qi x4] s4 (kI fun x6 s6 =>
              (TR s6 aH nH aL nL aY nY aS nS ∧ BS s6 β μ κ ρ me n) ∧
              K x6 s6))))) ∧
      (¬ (p2 = 0) →
        ((p2 = 1 →
          (0 ≤ p1 ∧ p1 < 12 ∧ (Int.toNat p1) < n) ∧
          am_Calls PP MLL (d + 3) m_C_withoutPlace [qr (β (Int.toNat p1), 0, 9), qi p2, qi p3] σ (kI fun x8 s8 =>
            (TR s8 aH nH aL nL aY nY aS nS ∧ BS s8 β μ κ ρ me n) ∧
            ((x8 = 0 →
              (0 ≤ p3 ∧ p3 < 20) ∧
              K (sI s8 (ρ (Int.toNat p1) + 3) (Int.toNat p3)) s8) ∧
            (¬ (x8 = 0) →
              am_Calls PP MLL (d + 3) m_C_found [qr (2, 11, 10), qi p1, qi x8] s8 (kI fun x10 s10 =>
                (TR s10 aH nH aL nL aY nY aS nS ∧ BS s10 β μ κ ρ me n) ∧
                K x10 s10))))) ∧
        (¬ (p2 = 1) →
          K (-1001) σ))))))))) : am_Runs PP MLL (d + 3) m_C_at 0 [some (qr (2, 11, 10)), some (qi p1), some (qi p2), some (qi p3), none] [] σ (kI K) := am_wEF_ok (orc [(10, 9, 22, 12), (12, β (Int.toNat p1), 0, 9), (25, 9, 22, 12), (27, β (Int.toNat p1), 0, 9), (30, ρ (Int.toNat p1) + 3, 20, 20)]) 200 (⟨rfl, am_wEF_ok (orc []) 200 (⟨fun c1 => ⟨(Or.inl rfl), ⟨fun _ => (h.1 c1), fun c => absurd (by decide : (0 : Int) = 0) c⟩⟩, fun c1 => ⟨rfl, ⟨fun c2 => ⟨(Or.inl rfl), ⟨fun _ => ((h.2 c1).1 c2), fun c => absurd (by decide : (0 : Int) = 0) c⟩⟩, fun c2 => ⟨(Or.inr rfl), ⟨fun c => absurd c (by decide : ¬ ((1 : Int) = 0)), fun _ => am_wEF_ok (orc []) 200 (⟨fun c3 => ⟨(Or.inr rfl), ⟨fun c => absurd c (by decide : ¬ ((1 : Int) = 0)), fun _ => ⟨⟨rfl, (hR.1 2 1 _ rfl)⟩, ⟨⟨rfl, (((h.2 c1).2 c2).1 c3).1.1, (((h.2 c1).2 c2).1 c3).1.2.1, (hB (Int.toNat p1) (((h.2 c1).2 c2).1 c3).1.2.2).1⟩, (am_cI (((h.2 c1).2 c2).1 c3).2 fun x4 s4 h4 => ⟨fun c5 => ⟨⟨rfl, (h4.1.1.1 2 1 _ rfl)⟩, ⟨⟨rfl, (((h.2 c1).2 c2).1 c3).1.1, (((h.2 c1).2 c2).1 c3).1.2.1, (h4.1.2 (Int.toNat p1) (((h.2 c1).2 c2).1 c3).1.2.2).1⟩, ⟨rfl, am_wEF_ok (orc [(3, ρ (Int.toNat p1), 2, 2)]) 200 (⟨fun _ => ⟨⟨rfl, (h4.1.2 (Int.toNat p1) (((h.2 c1).2 c2).1 c3).1.2.2).2.2.2.1⟩, ⟨⟨rfl, (h4.1.2 (Int.toNat p1) (((h.2 c1).2 c2).1 c3).1.2.2).2.2.2.2.2.1⟩, ⟨⟨rfl, (h4.2.1 c5).1.1, (h4.2.1 c5).1.2⟩, (h4.2.1 c5).2⟩⟩⟩, fun c => absurd c3 c⟩)⟩⟩⟩, fun c5 => ⟨rfl, (am_cI (h4.2.2 c5) fun x6 s6 h6 => h6.2)⟩⟩)⟩⟩⟩⟩, fun c3 => ⟨fun c7 => ⟨(Or.inr rfl), ⟨fun c => absurd c (by decide : ¬ ((1 : Int) = 0)), fun _ => ⟨⟨rfl, (hR.1 2 1 _ rfl)⟩, ⟨⟨rfl, ((((h.2 c1).2 c2).2 c3).1 c7).1.1, ((((h.2 c1).2 c2).2 c3).1 c7).1.2.1, (hB (Int.toNat p1) ((((h.2 c1).2 c2).2 c3).1 c7).1.2.2).1⟩, (am_cI ((((h.2 c1).2 c2).2 c3).1 c7).2 fun x8 s8 h8 => ⟨fun c9 => ⟨⟨rfl, (h8.1.1.1 2 1 _ rfl)⟩, ⟨⟨rfl, ((((h.2 c1).2 c2).2 c3).1 c7).1.1, ((((h.2 c1).2 c2).2 c3).1 c7).1.2.1, (h8.1.2 (Int.toNat p1) ((((h.2 c1).2 c2).2 c3).1 c7).1.2.2).1⟩, ⟨rfl, am_wEF_ok (orc [(6, ρ (Int.toNat p1) + 2, 2, 2)]) 200 (⟨fun c => absurd c c3, fun _ => ⟨⟨rfl, (h8.1.2 (Int.toNat p1) ((((h.2 c1).2 c2).2 c3).1 c7).1.2.2).2.2.2.2.1⟩, ⟨⟨rfl, (h8.1.2 (Int.toNat p1) ((((h.2 c1).2 c2).2 c3).1 c7).1.2.2).2.2.2.2.2.2.1⟩, ⟨⟨rfl, (h8.2.1 c9).1.1, (h8.2.1 c9).1.2⟩, (h8.2.1 c9).2⟩⟩⟩⟩)⟩⟩⟩, fun c9 => ⟨rfl, (am_cI (h8.2.2 c9) fun x10 s10 h10 => h10.2)⟩⟩)⟩⟩⟩⟩, fun c7 => ⟨(Or.inl rfl), ⟨fun _ => ((((h.2 c1).2 c2).2 c3).2 c7), fun c => absurd (by decide : (0 : Int) = 0) c⟩⟩⟩⟩)⟩⟩⟩⟩⟩)⟩)

theorem v_M_at_0 (d : Nat) (p1 p2 p3 : Int) (σ : am_S) (K : Int → am_S → Prop) (hF : MF σ) (hT : sI σ 31 26 = 0) (h :
  (-2147483648 ≤ (sI σ 31 16) - 1 ∧ (sI σ 31 16) - 1 < 2147483648) ∧
  ((p1 < 0 →
    K (-1001) σ) ∧
  (¬ (p1 < 0) →
    ((((sI σ 31 16) - 1) < p1 →
      K (-1001) σ) ∧
    (¬ (((sI σ 31 16) - 1) < p1) →
      ((p2 < 0 →
        K (-1001) σ) ∧
      (¬ (p2 < 0) →
        ((1 < p2 →
          K (-1001) σ) ∧
        (¬ (1 < p2) →
          am_Calls PP MLL (d + 3) m_M_placeFault [qr (31, 12, 89), qi p1, qi p2, qi p3] σ (kI fun x5 s5 =>
            (MF s5 ∧ sI s5 31 26 = 0) ∧
            ((x5 = 0 →
              (-2147483648 ≤ 2 * p1 ∧ 2 * p1 < 2147483648 ∧ -2147483648 ≤ (2 * p1) + p2 ∧ (2 * p1) + p2 < 2147483648 ∧ -2147483648 ≤ 20 * ((2 * p1) + p2) ∧ 20 * ((2 * p1) + p2) < 2147483648 ∧ -2147483648 ≤ (20 * ((2 * p1) + p2)) + p3 ∧ (20 * ((2 * p1) + p2)) + p3 < 2147483648 ∧ 0 ≤ ((20 * ((2 * p1) + p2)) + p3) ∧ ((20 * ((2 * p1) + p2)) + p3) < 480) ∧
              K (sI s5 45 (Int.toNat ((20 * ((2 * p1) + p2)) + p3))) s5) ∧
            (¬ (x5 = 0) →
              am_Calls PP MLL (d + 3) m_M_finds [qr (31, 12, 89), qi p1, qi x5] s5 (kI fun x8 s8 =>
                (MF s8 ∧ sI s8 31 26 = 0) ∧
                K x8 s8))))))))))))) : am_Runs PP MLL (d + 3) m_M_at 0 [some (qr (31, 12, 89)), some (qi p1), some (qi p2), some (qi p3), none] [] σ (kI K) := am_wEF_ok (orc [(23, 45, 20, 480)]) 200 (⟨rfl, am_wEF_ok (orc []) 200 (⟨rfl, ⟨⟨h.1.1, h.1.2⟩, am_wEF_ok (orc []) 200 (⟨fun c1 => ⟨(Or.inl rfl), ⟨(Or.inl rfl), ⟨fun _ => (h.2.1 c1), fun c => absurd (by decide : (0 : Int) = 0) c⟩⟩⟩, fun c1 => ⟨fun c2 => ⟨(Or.inl rfl), ⟨(Or.inl rfl), ⟨fun _ => ((h.2.2 c1).1 c2), fun c => absurd (by decide : (0 : Int) = 0) c⟩⟩⟩, fun c2 => ⟨(Or.inr rfl), ⟨(Or.inr rfl), ⟨fun c => absurd c (by decide : ¬ ((1 : Int) = 0)), fun _ => am_wEF_ok (orc []) 200 (am_wEF_ok (orc []) 200 (⟨fun c3 => ⟨(Or.inl rfl), ⟨(Or.inl rfl), ⟨fun _ => (((h.2.2 c1).2 c2).1 c3), fun c => absurd (by decide : (0 : Int) = 0) c⟩⟩⟩, fun c3 => ⟨fun c4 => ⟨(Or.inl rfl), ⟨(Or.inl rfl), ⟨fun _ => ((((h.2.2 c1).2 c2).2 c3).1 c4), fun c => absurd (by decide : (0 : Int) = 0) c⟩⟩⟩, fun c4 => ⟨(Or.inr rfl), ⟨(Or.inr rfl), ⟨fun c => absurd c (by decide : ¬ ((1 : Int) = 0)), fun _ => ⟨rfl, (am_cI ((((h.2.2 c1).2 c2).2 c3).2 c4) fun x5 s5 h5 => ⟨fun c7 => ⟨⟨rfl, (h5.1.1 21)⟩, ⟨⟨(h5.2.1 c7).1.1, (h5.2.1 c7).1.2.1⟩, ⟨⟨(h5.2.1 c7).1.2.2.1, (h5.2.1 c7).1.2.2.2.1⟩, ⟨⟨(h5.2.1 c7).1.2.2.2.2.1, (h5.2.1 c7).1.2.2.2.2.2.1⟩, ⟨⟨(h5.2.1 c7).1.2.2.2.2.2.2.1, (h5.2.1 c7).1.2.2.2.2.2.2.2.1⟩, ⟨⟨rfl, (h5.2.1 c7).1.2.2.2.2.2.2.2.2.1, (h5.2.1 c7).1.2.2.2.2.2.2.2.2.2⟩, (h5.2.1 c7).2⟩⟩⟩⟩⟩⟩, fun c7 => ⟨rfl, (am_cI (h5.2.2 c7) fun x8 s8 h8 => h8.2)⟩⟩)⟩⟩⟩⟩⟩⟩))⟩⟩⟩⟩⟩)⟩⟩)⟩)

theorem v_C_put_0 (d : Nat) (β μ κ ρ : Nat → Nat) (me : Nat → Nat → Nat) (aH nH aL nL aY nY aS nS n : Nat) (p1 p2 p3 p4 : Int) (σ : am_S) (K : Int → am_S → Prop) (hR : TR σ aH nH aL nL aY nY aS nS) (hB : BS σ β μ κ ρ me n) (h :
  ((p1 < 0 →
    K (-1001) σ) ∧
  (¬ (p1 < 0) →
    (((sI σ 2 5) ≤ p1 →
      K (-1001) σ) ∧
    (¬ ((sI σ 2 5) ≤ p1) →
      ((p2 = 0 →
        ((p4 = (-1) →
          (0 ≤ p1 ∧ p1 < 12 ∧ (Int.toNat p1) < n) ∧
          am_Calls PP MLL (d + 3) m_C_withoutPlace [qr (β (Int.toNat p1), 0, 9), qi p2, qi p3] σ (kI fun x5 s5 =>
            (TR s5 aH nH aL nL aY nY aS nS ∧ BS s5 β μ κ ρ me n) ∧
            ((x5 = 0 →
              (0 ≤ p3 ∧ p3 < 20) ∧
              K (sI s5 (ρ (Int.toNat p1) + 1) (Int.toNat p3)) (putI s5 (ρ (Int.toNat p1) + 1) (Int.toNat p3) p4)) ∧
            (¬ (x5 = 0) →
              am_Calls PP MLL (d + 3) m_C_found [qr (2, 11, 10), qi p1, qi x5] s5 (kI fun x7 s7 =>
                (TR s7 aH nH aL nL aY nY aS nS ∧ BS s7 β μ κ ρ me n) ∧
                K x7 s7))))) ∧
        (¬ (p4 = (-1)) →
          ((p4 < 0 →
            K (-1001) σ) ∧
          (¬ (p4 < 0) →
            (((sI σ 3 0) ≤ p4 →
              K (-1001) σ) ∧
            (¬ ((sI σ 3 0) ≤ p4) →
              (0 ≤ p1 ∧ p1 < 12 ∧ (Int.toNat p1) < n) ∧
              am_Calls PP MLL (d + 3) m_C_withoutPlace [qr (β (Int.toNat p1), 0, 9), qi p2, qi p3] σ (kI fun x10 s10 =>
                (TR s10 aH nH aL nL aY nY aS nS ∧ BS s10 β μ κ ρ me n) ∧
                ((x10 = 0 →
                  (0 ≤ p3 ∧ p3 < 20) ∧
                  K (sI s10 (ρ (Int.toNat p1) + 1) (Int.toNat p3)) (putI s10 (ρ (Int.toNat p1) + 1) (Int.toNat p3) p4)) ∧
                (¬ (x10 = 0) →
                  am_Calls PP MLL (d + 3) m_C_found [qr (2, 11, 10), qi p1, qi x10] s10 (kI fun x12 s12 =>
                    (TR s12 aH nH aL nL aY nY aS nS ∧ BS s12 β μ κ ρ me n) ∧
                    K x12 s12))))))))))) ∧
      (¬ (p2 = 0) →
        ((p2 = 1 →
          ((p4 = (-1) →
            (0 ≤ p1 ∧ p1 < 12 ∧ (Int.toNat p1) < n) ∧
            am_Calls PP MLL (d + 3) m_C_withoutPlace [qr (β (Int.toNat p1), 0, 9), qi p2, qi p3] σ (kI fun x15 s15 =>
              (TR s15 aH nH aL nL aY nY aS nS ∧ BS s15 β μ κ ρ me n) ∧
              ((x15 = 0 →
                (0 ≤ p3 ∧ p3 < 20) ∧
                K (sI s15 (ρ (Int.toNat p1) + 3) (Int.toNat p3)) (putI s15 (ρ (Int.toNat p1) + 3) (Int.toNat p3) p4)) ∧
              (¬ (x15 = 0) →
                am_Calls PP MLL (d + 3) m_C_found [qr (2, 11, 10), qi p1, qi x15] s15 (kI fun x17 s17 =>
                  (TR s17 aH nH aL nL aY nY aS nS ∧ BS s17 β μ κ ρ me n) ∧
                  K x17 s17))))) ∧
          (¬ (p4 = (-1)) →
            ((p4 < 0 →
              K (-1001) σ) ∧
            (¬ (p4 < 0) →
              (((sI σ 3 0) ≤ p4 →
                K (-1001) σ) ∧
              (¬ ((sI σ 3 0) ≤ p4) →
                (0 ≤ p1 ∧ p1 < 12 ∧ (Int.toNat p1) < n) ∧
                am_Calls PP MLL (d + 3) m_C_withoutPlace [qr (β (Int.toNat p1), 0, 9), qi p2, qi p3] σ (kI fun x20 s20 =>
                  (TR s20 aH nH aL nL aY nY aS nS ∧ BS s20 β μ κ ρ me n) ∧
                  ((x20 = 0 →
                    (0 ≤ p3 ∧ p3 < 20) ∧
                    K (sI s20 (ρ (Int.toNat p1) + 3) (Int.toNat p3)) (putI s20 (ρ (Int.toNat p1) + 3) (Int.toNat p3) p4)) ∧
                  (¬ (x20 = 0) →
                    am_Calls PP MLL (d + 3) m_C_found [qr (2, 11, 10), qi p1, qi x20] s20 (kI fun x22 s22 =>
                      (TR s22 aH nH aL nL aY nY aS nS ∧ BS s22 β μ κ ρ me n) ∧
                      K x22 s22))))))))))) ∧
        (¬ (p2 = 1) →
          K (-1001) σ))))))))) : am_Runs PP MLL (d + 3) m_C_put 0 [some (qr (2, 11, 10)), some (qi p1), some (qi p2), some (qi p3), some (qi p4), none, none, none] [] σ (kI K) := am_wEF_ok (orc [(17, 9, 22, 12), (19, β (Int.toNat p1), 0, 9), (32, 9, 22, 12), (34, β (Int.toNat p1), 0, 9), (39, ρ (Int.toNat p1) + 3, 20, 20), (44, ρ (Int.toNat p1) + 3, 20, 20)]) 200 (⟨rfl, am_wEF_ok (orc []) 200 (⟨fun c1 => ⟨(Or.inl rfl), ⟨fun _ => (h.1 c1), fun c => absurd (by decide : (0 : Int) = 0) c⟩⟩, fun c1 => ⟨rfl, ⟨fun c2 => ⟨(Or.inl rfl), ⟨fun _ => ((h.2 c1).1 c2), fun c => absurd (by decide : (0 : Int) = 0) c⟩⟩, fun c2 => ⟨(Or.inr rfl), ⟨fun c => absurd c (by decide : ¬ ((1 : Int) = 0)), fun _ => am_wEF_ok (orc []) 200 (⟨fun c3 => ⟨(Or.inr rfl), ⟨fun c => absurd c (by decide : ¬ ((1 : Int) = 0)), fun _ => ⟨fun c4 => ⟨⟨rfl, (hR.1 2 1 _ rfl)⟩, ⟨⟨rfl, ((((h.2 c1).2 c2).1 c3).1 c4).1.1, ((((h.2 c1).2 c2).1 c3).1 c4).1.2.1, (hB (Int.toNat p1) ((((h.2 c1).2 c2).1 c3).1 c4).1.2.2).1⟩, (am_cI ((((h.2 c1).2 c2).1 c3).1 c4).2 fun x5 s5 h5 => ⟨fun c6 => ⟨⟨rfl, (h5.1.1.1 2 1 _ rfl)⟩, ⟨⟨rfl, ((((h.2 c1).2 c2).1 c3).1 c4).1.1, ((((h.2 c1).2 c2).1 c3).1 c4).1.2.1, (h5.1.2 (Int.toNat p1) ((((h.2 c1).2 c2).1 c3).1 c4).1.2.2).1⟩, ⟨rfl, am_wEF_ok (orc [(3, ρ (Int.toNat p1), 2, 2)]) 200 (⟨fun _ => ⟨⟨rfl, (h5.1.2 (Int.toNat p1) ((((h.2 c1).2 c2).1 c3).1 c4).1.2.2).2.2.2.1⟩, ⟨⟨rfl, (h5.1.2 (Int.toNat p1) ((((h.2 c1).2 c2).1 c3).1 c4).1.2.2).2.2.2.2.2.1⟩, ⟨⟨rfl, (h5.2.1 c6).1.1, (h5.2.1 c6).1.2⟩, ⟨⟨rfl, (h5.1.2 (Int.toNat p1) ((((h.2 c1).2 c2).1 c3).1 c4).1.2.2).2.2.2.2.2.1⟩, ⟨⟨rfl, (h5.2.1 c6).1.1, (h5.2.1 c6).1.2⟩, (h5.2.1 c6).2⟩⟩⟩⟩⟩, fun c => absurd c3 c⟩)⟩⟩⟩, fun c6 => ⟨rfl, (am_cI (h5.2.2 c6) fun x7 s7 h7 => h7.2)⟩⟩)⟩⟩, fun c4 => ⟨rfl, am_wEF_ok (orc [(4, 3, 9, 11)]) 200 (⟨fun c8 => ⟨(Or.inl rfl), ⟨fun _ => (((((h.2 c1).2 c2).1 c3).2 c4).1 c8), fun c => absurd (by decide : (0 : Int) = 0) c⟩⟩, fun c8 => ⟨⟨rfl, (hR.1 2 0 _ rfl)⟩, ⟨rfl, ⟨fun c9 => ⟨(Or.inl rfl), ⟨fun _ => ((((((h.2 c1).2 c2).1 c3).2 c4).2 c8).1 c9), fun c => absurd (by decide : (0 : Int) = 0) c⟩⟩, fun c9 => ⟨(Or.inr rfl), ⟨fun c => absurd c (by decide : ¬ ((1 : Int) = 0)), fun _ => ⟨⟨rfl, (hR.1 2 1 _ rfl)⟩, ⟨⟨rfl, ((((((h.2 c1).2 c2).1 c3).2 c4).2 c8).2 c9).1.1, ((((((h.2 c1).2 c2).1 c3).2 c4).2 c8).2 c9).1.2.1, (hB (Int.toNat p1) ((((((h.2 c1).2 c2).1 c3).2 c4).2 c8).2 c9).1.2.2).1⟩, (am_cI ((((((h.2 c1).2 c2).1 c3).2 c4).2 c8).2 c9).2 fun x10 s10 h10 => ⟨fun c11 => ⟨⟨rfl, (h10.1.1.1 2 1 _ rfl)⟩, ⟨⟨rfl, ((((((h.2 c1).2 c2).1 c3).2 c4).2 c8).2 c9).1.1, ((((((h.2 c1).2 c2).1 c3).2 c4).2 c8).2 c9).1.2.1, (h10.1.2 (Int.toNat p1) ((((((h.2 c1).2 c2).1 c3).2 c4).2 c8).2 c9).1.2.2).1⟩, ⟨rfl, am_wEF_ok (orc [(3, ρ (Int.toNat p1), 2, 2)]) 200 (⟨fun _ => ⟨⟨rfl, (h10.1.2 (Int.toNat p1) ((((((h.2 c1).2 c2).1 c3).2 c4).2 c8).2 c9).1.2.2).2.2.2.1⟩, ⟨⟨rfl, (h10.1.2 (Int.toNat p1) ((((((h.2 c1).2 c2).1 c3).2 c4).2 c8).2 c9).1.2.2).2.2.2.2.2.1⟩, ⟨⟨rfl, (h10.2.1 c11).1.1, (h10.2.1 c11).1.2⟩, ⟨⟨rfl, (h10.1.2 (Int.toNat p1) ((((((h.2 c1).2 c2).1 c3).2 c4).2 c8).2 c9).1.2.2).2.2.2.2.2.1⟩, ⟨⟨rfl, (h10.2.1 c11).1.1, (h10.2.1 c11).1.2⟩, (h10.2.1 c11).2⟩⟩⟩⟩⟩, fun c => absurd c3 c⟩)⟩⟩⟩, fun c11 => ⟨rfl, (am_cI (h10.2.2 c11) fun x12 s12 h12 => h12.2)⟩⟩)⟩⟩⟩⟩⟩⟩⟩⟩)⟩⟩⟩⟩, fun c3 => ⟨fun c13 => ⟨(Or.inr rfl), ⟨fun c => absurd c (by decide : ¬ ((1 : Int) = 0)), fun _ => ⟨fun c14 => ⟨⟨rfl, (hR.1 2 1 _ rfl)⟩, ⟨⟨rfl, (((((h.2 c1).2 c2).2 c3).1 c13).1 c14).1.1, (((((h.2 c1).2 c2).2 c3).1 c13).1 c14).1.2.1, (hB (Int.toNat p1) (((((h.2 c1).2 c2).2 c3).1 c13).1 c14).1.2.2).1⟩, (am_cI (((((h.2 c1).2 c2).2 c3).1 c13).1 c14).2 fun x15 s15 h15 => ⟨fun c16 => ⟨⟨rfl, (h15.1.1.1 2 1 _ rfl)⟩, ⟨⟨rfl, (((((h.2 c1).2 c2).2 c3).1 c13).1 c14).1.1, (((((h.2 c1).2 c2).2 c3).1 c13).1 c14).1.2.1, (h15.1.2 (Int.toNat p1) (((((h.2 c1).2 c2).2 c3).1 c13).1 c14).1.2.2).1⟩, ⟨rfl, am_wEF_ok (orc [(6, ρ (Int.toNat p1) + 2, 2, 2)]) 200 (⟨fun c => absurd c c3, fun _ => ⟨⟨rfl, (h15.1.2 (Int.toNat p1) (((((h.2 c1).2 c2).2 c3).1 c13).1 c14).1.2.2).2.2.2.2.1⟩, ⟨⟨rfl, (h15.1.2 (Int.toNat p1) (((((h.2 c1).2 c2).2 c3).1 c13).1 c14).1.2.2).2.2.2.2.2.2.1⟩, ⟨⟨rfl, (h15.2.1 c16).1.1, (h15.2.1 c16).1.2⟩, ⟨⟨rfl, (h15.1.2 (Int.toNat p1) (((((h.2 c1).2 c2).2 c3).1 c13).1 c14).1.2.2).2.2.2.2.2.2.1⟩, ⟨⟨rfl, (h15.2.1 c16).1.1, (h15.2.1 c16).1.2⟩, (h15.2.1 c16).2⟩⟩⟩⟩⟩⟩)⟩⟩⟩, fun c16 => ⟨rfl, (am_cI (h15.2.2 c16) fun x17 s17 h17 => h17.2)⟩⟩)⟩⟩, fun c14 => ⟨rfl, am_wEF_ok (orc [(4, 3, 9, 11)]) 200 (⟨fun c18 => ⟨(Or.inl rfl), ⟨fun _ => ((((((h.2 c1).2 c2).2 c3).1 c13).2 c14).1 c18), fun c => absurd (by decide : (0 : Int) = 0) c⟩⟩, fun c18 => ⟨⟨rfl, (hR.1 2 0 _ rfl)⟩, ⟨rfl, ⟨fun c19 => ⟨(Or.inl rfl), ⟨fun _ => (((((((h.2 c1).2 c2).2 c3).1 c13).2 c14).2 c18).1 c19), fun c => absurd (by decide : (0 : Int) = 0) c⟩⟩, fun c19 => ⟨(Or.inr rfl), ⟨fun c => absurd c (by decide : ¬ ((1 : Int) = 0)), fun _ => ⟨⟨rfl, (hR.1 2 1 _ rfl)⟩, ⟨⟨rfl, (((((((h.2 c1).2 c2).2 c3).1 c13).2 c14).2 c18).2 c19).1.1, (((((((h.2 c1).2 c2).2 c3).1 c13).2 c14).2 c18).2 c19).1.2.1, (hB (Int.toNat p1) (((((((h.2 c1).2 c2).2 c3).1 c13).2 c14).2 c18).2 c19).1.2.2).1⟩, (am_cI (((((((h.2 c1).2 c2).2 c3).1 c13).2 c14).2 c18).2 c19).2 fun x20 s20 h20 => ⟨fun c21 => ⟨⟨rfl, (h20.1.1.1 2 1 _ rfl)⟩, ⟨⟨rfl, (((((((h.2 c1).2 c2).2 c3).1 c13).2 c14).2 c18).2 c19).1.1, (((((((h.2 c1).2 c2).2 c3).1 c13).2 c14).2 c18).2 c19).1.2.1, (h20.1.2 (Int.toNat p1) (((((((h.2 c1).2 c2).2 c3).1 c13).2 c14).2 c18).2 c19).1.2.2).1⟩, ⟨rfl, am_wEF_ok (orc [(6, ρ (Int.toNat p1) + 2, 2, 2)]) 200 (⟨fun c => absurd c c3, fun _ => ⟨⟨rfl, (h20.1.2 (Int.toNat p1) (((((((h.2 c1).2 c2).2 c3).1 c13).2 c14).2 c18).2 c19).1.2.2).2.2.2.2.1⟩, ⟨⟨rfl, (h20.1.2 (Int.toNat p1) (((((((h.2 c1).2 c2).2 c3).1 c13).2 c14).2 c18).2 c19).1.2.2).2.2.2.2.2.2.1⟩, ⟨⟨rfl, (h20.2.1 c21).1.1, (h20.2.1 c21).1.2⟩, ⟨⟨rfl, (h20.1.2 (Int.toNat p1) (((((((h.2 c1).2 c2).2 c3).1 c13).2 c14).2 c18).2 c19).1.2.2).2.2.2.2.2.2.1⟩, ⟨⟨rfl, (h20.2.1 c21).1.1, (h20.2.1 c21).1.2⟩, (h20.2.1 c21).2⟩⟩⟩⟩⟩⟩)⟩⟩⟩, fun c21 => ⟨rfl, (am_cI (h20.2.2 c21) fun x22 s22 h22 => h22.2)⟩⟩)⟩⟩⟩⟩⟩⟩⟩⟩)⟩⟩⟩⟩, fun c13 => ⟨(Or.inl rfl), ⟨fun _ => ((((h.2 c1).2 c2).2 c3).2 c13), fun c => absurd (by decide : (0 : Int) = 0) c⟩⟩⟩⟩)⟩⟩⟩⟩⟩)⟩)

theorem v_M_put_0 (d : Nat) (p1 p2 p3 p4 : Int) (σ : am_S) (K : Int → am_S → Prop) (hF : MF σ) (hT : sI σ 31 26 = 0) (h :
  (-2147483648 ≤ (sI σ 31 16) - 1 ∧ (sI σ 31 16) - 1 < 2147483648) ∧
  ((p1 < 0 →
    K (-1001) σ) ∧
  (¬ (p1 < 0) →
    ((((sI σ 31 16) - 1) < p1 →
      K (-1001) σ) ∧
    (¬ (((sI σ 31 16) - 1) < p1) →
      ((p2 < 0 →
        K (-1001) σ) ∧
      (¬ (p2 < 0) →
        ((1 < p2 →
          K (-1001) σ) ∧
        (¬ (1 < p2) →
          ((p4 = (-1) →
            am_Calls PP MLL (d + 3) m_M_placeFault [qr (31, 12, 89), qi p1, qi p2, qi p3] σ (kI fun x6 s6 =>
              (MF s6 ∧ sI s6 31 26 = 0) ∧
              ((x6 = 0 →
                (-2147483648 ≤ 2 * p1 ∧ 2 * p1 < 2147483648 ∧ -2147483648 ≤ (2 * p1) + p2 ∧ (2 * p1) + p2 < 2147483648 ∧ -2147483648 ≤ 20 * ((2 * p1) + p2) ∧ 20 * ((2 * p1) + p2) < 2147483648 ∧ -2147483648 ≤ (20 * ((2 * p1) + p2)) + p3 ∧ (20 * ((2 * p1) + p2)) + p3 < 2147483648 ∧ 0 ≤ ((20 * ((2 * p1) + p2)) + p3) ∧ ((20 * ((2 * p1) + p2)) + p3) < 480) ∧
                K (sI s6 45 (Int.toNat ((20 * ((2 * p1) + p2)) + p3))) (putI s6 45 (Int.toNat ((20 * ((2 * p1) + p2)) + p3)) p4)) ∧
              (¬ (x6 = 0) →
                am_Calls PP MLL (d + 3) m_M_finds [qr (31, 12, 89), qi p1, qi x6] s6 (kI fun x8 s8 =>
                  (MF s8 ∧ sI s8 31 26 = 0) ∧
                  K x8 s8))))) ∧
          (¬ (p4 = (-1)) →
            (-2147483648 ≤ (sI σ 31 2) - 1 ∧ (sI σ 31 2) - 1 < 2147483648) ∧
            ((p4 < 0 →
              K (-1001) σ) ∧
            (¬ (p4 < 0) →
              ((((sI σ 31 2) - 1) < p4 →
                K (-1001) σ) ∧
              (¬ (((sI σ 31 2) - 1) < p4) →
                am_Calls PP MLL (d + 3) m_M_placeFault [qr (31, 12, 89), qi p1, qi p2, qi p3] σ (kI fun x11 s11 =>
                  (MF s11 ∧ sI s11 31 26 = 0) ∧
                  ((x11 = 0 →
                    (-2147483648 ≤ 2 * p1 ∧ 2 * p1 < 2147483648 ∧ -2147483648 ≤ (2 * p1) + p2 ∧ (2 * p1) + p2 < 2147483648 ∧ -2147483648 ≤ 20 * ((2 * p1) + p2) ∧ 20 * ((2 * p1) + p2) < 2147483648 ∧ -2147483648 ≤ (20 * ((2 * p1) + p2)) + p3 ∧ (20 * ((2 * p1) + p2)) + p3 < 2147483648 ∧ 0 ≤ ((20 * ((2 * p1) + p2)) + p3) ∧ ((20 * ((2 * p1) + p2)) + p3) < 480) ∧
                    K (sI s11 45 (Int.toNat ((20 * ((2 * p1) + p2)) + p3))) (putI s11 45 (Int.toNat ((20 * ((2 * p1) + p2)) + p3)) p4)) ∧
                  (¬ (x11 = 0) →
                    am_Calls PP MLL (d + 3) m_M_finds [qr (31, 12, 89), qi p1, qi x11] s11 (kI fun x13 s13 =>
                      (MF s13 ∧ sI s13 31 26 = 0) ∧
                      K x13 s13))))))))))))))))))) : am_Runs PP MLL (d + 3) m_M_put 0 [some (qr (31, 12, 89)), some (qi p1), some (qi p2), some (qi p3), some (qi p4), none, none, none] [] σ (kI K) := am_wEF_ok (orc [(40, 45, 20, 480), (45, 45, 20, 480)]) 200 (⟨rfl, am_wEF_ok (orc []) 200 (⟨rfl, ⟨⟨h.1.1, h.1.2⟩, am_wEF_ok (orc []) 200 (⟨fun c1 => ⟨(Or.inl rfl), ⟨(Or.inl rfl), ⟨fun _ => (h.2.1 c1), fun c => absurd (by decide : (0 : Int) = 0) c⟩⟩⟩, fun c1 => ⟨fun c2 => ⟨(Or.inl rfl), ⟨(Or.inl rfl), ⟨fun _ => ((h.2.2 c1).1 c2), fun c => absurd (by decide : (0 : Int) = 0) c⟩⟩⟩, fun c2 => ⟨(Or.inr rfl), ⟨(Or.inr rfl), ⟨fun c => absurd c (by decide : ¬ ((1 : Int) = 0)), fun _ => am_wEF_ok (orc []) 200 (am_wEF_ok (orc []) 200 (⟨fun c3 => ⟨(Or.inl rfl), ⟨(Or.inl rfl), ⟨fun _ => (((h.2.2 c1).2 c2).1 c3), fun c => absurd (by decide : (0 : Int) = 0) c⟩⟩⟩, fun c3 => ⟨fun c4 => ⟨(Or.inl rfl), ⟨(Or.inl rfl), ⟨fun _ => ((((h.2.2 c1).2 c2).2 c3).1 c4), fun c => absurd (by decide : (0 : Int) = 0) c⟩⟩⟩, fun c4 => ⟨(Or.inr rfl), ⟨(Or.inr rfl), ⟨fun c => absurd c (by decide : ¬ ((1 : Int) = 0)), fun _ => ⟨fun c5 => ⟨rfl, (am_cI (((((h.2.2 c1).2 c2).2 c3).2 c4).1 c5) fun x6 s6 h6 => ⟨fun c7 => ⟨⟨(h6.2.1 c7).1.1, (h6.2.1 c7).1.2.1⟩, ⟨⟨(h6.2.1 c7).1.2.2.1, (h6.2.1 c7).1.2.2.2.1⟩, ⟨⟨(h6.2.1 c7).1.2.2.2.2.1, (h6.2.1 c7).1.2.2.2.2.2.1⟩, ⟨⟨(h6.2.1 c7).1.2.2.2.2.2.2.1, (h6.2.1 c7).1.2.2.2.2.2.2.2.1⟩, ⟨⟨rfl, (h6.1.1 21)⟩, ⟨⟨rfl, (h6.2.1 c7).1.2.2.2.2.2.2.2.2.1, (h6.2.1 c7).1.2.2.2.2.2.2.2.2.2⟩, ⟨⟨rfl, (h6.1.1 21)⟩, ⟨⟨rfl, (h6.2.1 c7).1.2.2.2.2.2.2.2.2.1, (h6.2.1 c7).1.2.2.2.2.2.2.2.2.2⟩, (h6.2.1 c7).2⟩⟩⟩⟩⟩⟩⟩⟩, fun c7 => ⟨rfl, (am_cI (h6.2.2 c7) fun x8 s8 h8 => h8.2)⟩⟩)⟩, fun c5 => ⟨rfl, am_wEF_ok (orc []) 200 (⟨rfl, ⟨⟨(((((h.2.2 c1).2 c2).2 c3).2 c4).2 c5).1.1, (((((h.2.2 c1).2 c2).2 c3).2 c4).2 c5).1.2⟩, am_wEF_ok (orc []) 200 (⟨fun c9 => ⟨(Or.inl rfl), ⟨(Or.inl rfl), ⟨fun _ => ((((((h.2.2 c1).2 c2).2 c3).2 c4).2 c5).2.1 c9), fun c => absurd (by decide : (0 : Int) = 0) c⟩⟩⟩, fun c9 => ⟨fun c10 => ⟨(Or.inl rfl), ⟨(Or.inl rfl), ⟨fun _ => (((((((h.2.2 c1).2 c2).2 c3).2 c4).2 c5).2.2 c9).1 c10), fun c => absurd (by decide : (0 : Int) = 0) c⟩⟩⟩, fun c10 => ⟨(Or.inr rfl), ⟨(Or.inr rfl), ⟨fun c => absurd c (by decide : ¬ ((1 : Int) = 0)), fun _ => ⟨rfl, (am_cI (((((((h.2.2 c1).2 c2).2 c3).2 c4).2 c5).2.2 c9).2 c10) fun x11 s11 h11 => ⟨fun c12 => ⟨⟨(h11.2.1 c12).1.1, (h11.2.1 c12).1.2.1⟩, ⟨⟨(h11.2.1 c12).1.2.2.1, (h11.2.1 c12).1.2.2.2.1⟩, ⟨⟨(h11.2.1 c12).1.2.2.2.2.1, (h11.2.1 c12).1.2.2.2.2.2.1⟩, ⟨⟨(h11.2.1 c12).1.2.2.2.2.2.2.1, (h11.2.1 c12).1.2.2.2.2.2.2.2.1⟩, ⟨⟨rfl, (h11.1.1 21)⟩, ⟨⟨rfl, (h11.2.1 c12).1.2.2.2.2.2.2.2.2.1, (h11.2.1 c12).1.2.2.2.2.2.2.2.2.2⟩, ⟨⟨rfl, (h11.1.1 21)⟩, ⟨⟨rfl, (h11.2.1 c12).1.2.2.2.2.2.2.2.2.1, (h11.2.1 c12).1.2.2.2.2.2.2.2.2.2⟩, (h11.2.1 c12).2⟩⟩⟩⟩⟩⟩⟩⟩, fun c12 => ⟨rfl, (am_cI (h11.2.2 c12) fun x13 s13 h13 => h13.2)⟩⟩)⟩⟩⟩⟩⟩⟩)⟩⟩)⟩⟩⟩⟩⟩⟩⟩))⟩⟩⟩⟩⟩)⟩⟩)⟩)

theorem v_C_unpan_0 (d : Nat) (β μ κ ρ : Nat → Nat) (me : Nat → Nat → Nat) (aH nH aL nL aY nY aS nS n : Nat) (p1 p2 : Int) (σ : am_S) (K : Int → am_S → Prop) (hR : TR σ aH nH aL nL aY nY aS nS) (hB : BS σ β μ κ ρ me n) (h :
  ((p1 < 0 →
    K (-1001) σ) ∧
  (¬ (p1 < 0) →
    (((sI σ 2 5) ≤ p1 →
      K (-1001) σ) ∧
    (¬ ((sI σ 2 5) ≤ p1) →
      ((p2 = 0 →
        (0 ≤ p1 ∧ p1 < 12 ∧ (Int.toNat p1) < n) ∧
        am_Calls PP MLL (d + 2) m_C_withoutPan [qr (β (Int.toNat p1), 0, 9), qi p2] σ (kI fun x4 s4 =>
          (TR s4 aH nH aL nL aY nY aS nS ∧ BS s4 β μ κ ρ me n) ∧
          ((x4 = 0 →
            K (sI s4 (ρ (Int.toNat p1)) 1) (putI s4 (ρ (Int.toNat p1)) 1 (-1))) ∧
          (¬ (x4 = 0) →
            am_Calls PP MLL (d + 2) m_C_found [qr (2, 11, 10), qi p1, qi x4] s4 (kI fun x6 s6 =>
              (TR s6 aH nH aL nL aY nY aS nS ∧ BS s6 β μ κ ρ me n) ∧
              K x6 s6))))) ∧
      (¬ (p2 = 0) →
        ((p2 = 1 →
          (0 ≤ p1 ∧ p1 < 12 ∧ (Int.toNat p1) < n) ∧
          am_Calls PP MLL (d + 2) m_C_withoutPan [qr (β (Int.toNat p1), 0, 9), qi p2] σ (kI fun x8 s8 =>
            (TR s8 aH nH aL nL aY nY aS nS ∧ BS s8 β μ κ ρ me n) ∧
            ((x8 = 0 →
              K (sI s8 (ρ (Int.toNat p1) + 2) 1) (putI s8 (ρ (Int.toNat p1) + 2) 1 (-1))) ∧
            (¬ (x8 = 0) →
              am_Calls PP MLL (d + 2) m_C_found [qr (2, 11, 10), qi p1, qi x8] s8 (kI fun x10 s10 =>
                (TR s10 aH nH aL nL aY nY aS nS ∧ BS s10 β μ κ ρ me n) ∧
                K x10 s10))))) ∧
        (¬ (p2 = 1) →
          K (-1001) σ))))))))) : am_Runs PP MLL (d + 2) m_C_unpan 0 [some (qr (2, 11, 10)), some (qi p1), some (qi p2), none, none, none] [] σ (kI K) := am_wEF_ok (orc [(10, 9, 22, 12), (12, β (Int.toNat p1), 0, 9), (24, 9, 22, 12), (26, β (Int.toNat p1), 0, 9)]) 200 (⟨rfl, am_wEF_ok (orc []) 200 (⟨fun c1 => ⟨(Or.inl rfl), ⟨fun _ => (h.1 c1), fun c => absurd (by decide : (0 : Int) = 0) c⟩⟩, fun c1 => ⟨rfl, ⟨fun c2 => ⟨(Or.inl rfl), ⟨fun _ => ((h.2 c1).1 c2), fun c => absurd (by decide : (0 : Int) = 0) c⟩⟩, fun c2 => ⟨(Or.inr rfl), ⟨fun c => absurd c (by decide : ¬ ((1 : Int) = 0)), fun _ => am_wEF_ok (orc []) 200 (⟨fun c3 => ⟨(Or.inr rfl), ⟨fun c => absurd c (by decide : ¬ ((1 : Int) = 0)), fun _ => ⟨⟨rfl, (hR.1 2 1 _ rfl)⟩, ⟨⟨rfl, (((h.2 c1).2 c2).1 c3).1.1, (((h.2 c1).2 c2).1 c3).1.2.1, (hB (Int.toNat p1) (((h.2 c1).2 c2).1 c3).1.2.2).1⟩, (am_cI (((h.2 c1).2 c2).1 c3).2 fun x4 s4 h4 => ⟨fun c5 => ⟨⟨rfl, (h4.1.1.1 2 1 _ rfl)⟩, ⟨⟨rfl, (((h.2 c1).2 c2).1 c3).1.1, (((h.2 c1).2 c2).1 c3).1.2.1, (h4.1.2 (Int.toNat p1) (((h.2 c1).2 c2).1 c3).1.2.2).1⟩, ⟨rfl, am_wEF_ok (orc [(3, ρ (Int.toNat p1), 2, 2)]) 200 (⟨fun _ => ⟨⟨rfl, (h4.1.2 (Int.toNat p1) (((h.2 c1).2 c2).1 c3).1.2.2).2.2.2.1⟩, ⟨rfl, ⟨rfl, (h4.2.1 c5)⟩⟩⟩, fun c => absurd c3 c⟩)⟩⟩⟩, fun c5 => ⟨rfl, (am_cI (h4.2.2 c5) fun x6 s6 h6 => h6.2)⟩⟩)⟩⟩⟩⟩, fun c3 => ⟨fun c7 => ⟨(Or.inr rfl), ⟨fun c => absurd c (by decide : ¬ ((1 : Int) = 0)), fun _ => ⟨⟨rfl, (hR.1 2 1 _ rfl)⟩, ⟨⟨rfl, ((((h.2 c1).2 c2).2 c3).1 c7).1.1, ((((h.2 c1).2 c2).2 c3).1 c7).1.2.1, (hB (Int.toNat p1) ((((h.2 c1).2 c2).2 c3).1 c7).1.2.2).1⟩, (am_cI ((((h.2 c1).2 c2).2 c3).1 c7).2 fun x8 s8 h8 => ⟨fun c9 => ⟨⟨rfl, (h8.1.1.1 2 1 _ rfl)⟩, ⟨⟨rfl, ((((h.2 c1).2 c2).2 c3).1 c7).1.1, ((((h.2 c1).2 c2).2 c3).1 c7).1.2.1, (h8.1.2 (Int.toNat p1) ((((h.2 c1).2 c2).2 c3).1 c7).1.2.2).1⟩, ⟨rfl, am_wEF_ok (orc [(6, ρ (Int.toNat p1) + 2, 2, 2)]) 200 (⟨fun c => absurd c c3, fun _ => ⟨⟨rfl, (h8.1.2 (Int.toNat p1) ((((h.2 c1).2 c2).2 c3).1 c7).1.2.2).2.2.2.2.1⟩, ⟨rfl, ⟨rfl, (h8.2.1 c9)⟩⟩⟩⟩)⟩⟩⟩, fun c9 => ⟨rfl, (am_cI (h8.2.2 c9) fun x10 s10 h10 => h10.2)⟩⟩)⟩⟩⟩⟩, fun c7 => ⟨(Or.inl rfl), ⟨fun _ => ((((h.2 c1).2 c2).2 c3).2 c7), fun c => absurd (by decide : (0 : Int) = 0) c⟩⟩⟩⟩)⟩⟩⟩⟩⟩)⟩)

theorem v_M_unpan_0 (d : Nat) (p1 p2 : Int) (σ : am_S) (K : Int → am_S → Prop) (hF : MF σ) (hT : sI σ 31 26 = 0) (h :
  (-2147483648 ≤ (sI σ 31 16) - 1 ∧ (sI σ 31 16) - 1 < 2147483648) ∧
  ((p1 < 0 →
    K (-1001) σ) ∧
  (¬ (p1 < 0) →
    ((((sI σ 31 16) - 1) < p1 →
      K (-1001) σ) ∧
    (¬ (((sI σ 31 16) - 1) < p1) →
      ((p2 < 0 →
        K (-1001) σ) ∧
      (¬ (p2 < 0) →
        ((1 < p2 →
          K (-1001) σ) ∧
        (¬ (1 < p2) →
          am_Calls PP MLL (d + 2) m_M_panFault [qr (31, 12, 89), qi p1] σ (kI fun x5 s5 =>
            (MF s5 ∧ sI s5 31 26 = 0) ∧
            (((x5 = 0) → -2147483648 ≤ 2 * p1) ∧ ((x5 = 0) → 2 * p1 < 2147483648) ∧ ((x5 = 0) → -2147483648 ≤ (2 * p1) + p2) ∧ ((x5 = 0) → (2 * p1) + p2 < 2147483648) ∧ ((x5 = 0) → 0 ≤ ((2 * p1) + p2)) ∧ ((x5 = 0) → ((2 * p1) + p2) < 24)) ∧
            (((if x5 = 0 then (if 0 ≤ (sI s5 44 (Int.toNat ((2 * p1) + p2))) then (x5 : Int) else 2 : Int) else x5) = 0 →
              (-2147483648 ≤ 2 * p1 ∧ 2 * p1 < 2147483648 ∧ -2147483648 ≤ (2 * p1) + p2 ∧ (2 * p1) + p2 < 2147483648 ∧ 0 ≤ ((2 * p1) + p2) ∧ ((2 * p1) + p2) < 24) ∧
              K (sI s5 44 (Int.toNat ((2 * p1) + p2))) (putI s5 44 (Int.toNat ((2 * p1) + p2)) (-1))) ∧
            (¬ ((if x5 = 0 then (if 0 ≤ (sI s5 44 (Int.toNat ((2 * p1) + p2))) then (x5 : Int) else 2 : Int) else x5) = 0) →
              am_Calls PP MLL (d + 2) m_M_finds [qr (31, 12, 89), qi p1, qi (if x5 = 0 then (if 0 ≤ (sI s5 44 (Int.toNat ((2 * p1) + p2))) then (x5 : Int) else 2 : Int) else x5)] s5 (kI fun x9 s9 =>
                (MF s9 ∧ sI s9 31 26 = 0) ∧
                K x9 s9))))))))))))) : am_Runs PP MLL (d + 2) m_M_unpan 0 [some (qr (31, 12, 89)), some (qi p1), some (qi p2), none, none] [] σ (kI K) := am_wEC_ok (orc [(16, 44, 20, 24)]) [27] 200 (⟨rfl, am_wEF_ok (orc []) 200 (⟨rfl, ⟨⟨h.1.1, h.1.2⟩, am_wEF_ok (orc []) 200 (⟨fun c1 => ⟨(Or.inl rfl), ⟨(Or.inl rfl), ⟨fun _ => (h.2.1 c1), fun c => absurd (by decide : (0 : Int) = 0) c⟩⟩⟩, fun c1 => ⟨fun c2 => ⟨(Or.inl rfl), ⟨(Or.inl rfl), ⟨fun _ => ((h.2.2 c1).1 c2), fun c => absurd (by decide : (0 : Int) = 0) c⟩⟩⟩, fun c2 => ⟨(Or.inr rfl), ⟨(Or.inr rfl), ⟨fun c => absurd c (by decide : ¬ ((1 : Int) = 0)), fun _ => am_wEF_ok (orc []) 200 (am_wEF_ok (orc []) 200 (⟨fun c3 => ⟨(Or.inl rfl), ⟨(Or.inl rfl), ⟨fun _ => (((h.2.2 c1).2 c2).1 c3), fun c => absurd (by decide : (0 : Int) = 0) c⟩⟩⟩, fun c3 => ⟨fun c4 => ⟨(Or.inl rfl), ⟨(Or.inl rfl), ⟨fun _ => ((((h.2.2 c1).2 c2).2 c3).1 c4), fun c => absurd (by decide : (0 : Int) = 0) c⟩⟩⟩, fun c4 => ⟨(Or.inr rfl), ⟨(Or.inr rfl), ⟨fun c => absurd c (by decide : ¬ ((1 : Int) = 0)), fun _ => ⟨rfl, (am_cI ((((h.2.2 c1).2 c2).2 c3).2 c4) fun x5 s5 h5 => am_use (fun H10 => ⟨fun c6 => ⟨⟨rfl, (h5.1.1 20)⟩, ⟨⟨(h5.2.1.1 c6), (h5.2.1.2.1 c6)⟩, ⟨⟨(h5.2.1.2.2.1 c6), (h5.2.1.2.2.2.1 c6)⟩, ⟨⟨rfl, (h5.2.1.2.2.2.2.1 c6), (h5.2.1.2.2.2.2.2 c6)⟩, ⟨fun c7 => (Eq.mp (congrArg (fun z => am_Runs _ _ _ _ _ _ (qi z :: _) _ _) (Eq.trans (if_pos c6 : (if x5 = 0 then (if 0 ≤ (sI s5 44 (Int.toNat ((2 * p1) + p2))) then (x5 : Int) else 2 : Int) else x5) = if 0 ≤ (sI s5 44 (Int.toNat ((2 * p1) + p2))) then (x5 : Int) else 2) (if_pos c7 : (if 0 ≤ (sI s5 44 (Int.toNat ((2 * p1) + p2))) then (x5 : Int) else 2) = x5))) H10), fun c7 => (Eq.mp (congrArg (fun z => am_Runs _ _ _ _ _ _ (qi z :: _) _ _) (Eq.trans (if_pos c6 : (if x5 = 0 then (if 0 ≤ (sI s5 44 (Int.toNat ((2 * p1) + p2))) then (x5 : Int) else 2 : Int) else x5) = if 0 ≤ (sI s5 44 (Int.toNat ((2 * p1) + p2))) then (x5 : Int) else 2) (if_neg c7 : (if 0 ≤ (sI s5 44 (Int.toNat ((2 * p1) + p2))) then (x5 : Int) else 2) = 2))) H10)⟩⟩⟩⟩⟩, fun c6 => (Eq.mp (congrArg (fun z => am_Runs _ _ _ _ _ _ (qi z :: _) _ _) (if_neg c6 : (if x5 = 0 then (if 0 ≤ (sI s5 44 (Int.toNat ((2 * p1) + p2))) then (x5 : Int) else 2 : Int) else x5) = x5)) H10)⟩) (am_wEC_ok (orc [(36, 44, 20, 24), (45, 44, 20, 24)]) [27] 200 (⟨fun c8 => ⟨⟨rfl, (h5.1.1 20)⟩, ⟨⟨(h5.2.2.1 c8).1.1, (h5.2.2.1 c8).1.2.1⟩, ⟨⟨(h5.2.2.1 c8).1.2.2.1, (h5.2.2.1 c8).1.2.2.2.1⟩, ⟨⟨rfl, (h5.2.2.1 c8).1.2.2.2.2.1, (h5.2.2.1 c8).1.2.2.2.2.2⟩, ⟨⟨rfl, (h5.1.1 20)⟩, ⟨⟨(h5.2.2.1 c8).1.1, (h5.2.2.1 c8).1.2.1⟩, ⟨⟨(h5.2.2.1 c8).1.2.2.1, (h5.2.2.1 c8).1.2.2.2.1⟩, ⟨⟨rfl, (h5.2.2.1 c8).1.2.2.2.2.1, (h5.2.2.1 c8).1.2.2.2.2.2⟩, (h5.2.2.1 c8).2⟩⟩⟩⟩⟩⟩⟩⟩, fun c8 => ⟨rfl, (am_cI (h5.2.2.2 c8) fun x9 s9 h9 => h9.2)⟩⟩)))⟩⟩⟩⟩⟩⟩))⟩⟩⟩⟩⟩)⟩⟩)⟩)

theorem v_C_pan_0 (d : Nat) (β μ κ ρ : Nat → Nat) (me : Nat → Nat → Nat) (aH nH aL nL aY nY aS nS n : Nat) (p1 p2 p3 : Int) (σ : am_S) (K : Int → am_S → Prop) (hR : TR σ aH nH aL nL aY nY aS nS) (hB : BS σ β μ κ ρ me n) (h :
  ((p1 < 0 →
    K (-1001) σ) ∧
  (¬ (p1 < 0) →
    (((sI σ 2 5) ≤ p1 →
      K (-1001) σ) ∧
    (¬ ((sI σ 2 5) ≤ p1) →
      ((p2 = 0 →
        ((p3 ≤ 20 →
          (0 ≤ p1 ∧ p1 < 12 ∧ (Int.toNat p1) < n) ∧
          am_Calls PP MLL (d + 3) m_C_withoutPans [qr (β (Int.toNat p1), 0, 9)] σ (kI fun x5 s5 =>
            (TR s5 aH nH aL nL aY nY aS nS ∧ BS s5 β μ κ ρ me n) ∧
            (((if x5 = 0 then (if 0 ≤ p3 then (x5 : Int) else 5 : Int) else x5) = 0 →
              am_Calls PP MLL (d + 3) m_Pan_lay [qr (ρ (Int.toNat p1), 2, 2), qi p3] s5 (kV fun s9 =>
                (TR s9 aH nH aL nL aY nY aS nS ∧ BS s9 β μ κ ρ me n) ∧
                K 1 s9)) ∧
            (¬ ((if x5 = 0 then (if 0 ≤ p3 then (x5 : Int) else 5 : Int) else x5) = 0) →
              am_Calls PP MLL (d + 3) m_C_found [qr (2, 11, 10), qi p1, qi (if x5 = 0 then (if 0 ≤ p3 then (x5 : Int) else 5 : Int) else x5)] s5 (kI fun x10 s10 =>
                (TR s10 aH nH aL nL aY nY aS nS ∧ BS s10 β μ κ ρ me n) ∧
                K x10 s10))))) ∧
        (¬ (p3 ≤ 20) →
          K (-1001) σ))) ∧
      (¬ (p2 = 0) →
        ((p2 = 1 →
          ((p3 ≤ 20 →
            (0 ≤ p1 ∧ p1 < 12 ∧ (Int.toNat p1) < n) ∧
            am_Calls PP MLL (d + 3) m_C_withoutPans [qr (β (Int.toNat p1), 0, 9)] σ (kI fun x14 s14 =>
              (TR s14 aH nH aL nL aY nY aS nS ∧ BS s14 β μ κ ρ me n) ∧
              (((if x14 = 0 then (if 0 ≤ p3 then (x14 : Int) else 5 : Int) else x14) = 0 →
                am_Calls PP MLL (d + 3) m_Pan_lay [qr (ρ (Int.toNat p1) + 2, 2, 2), qi p3] s14 (kV fun s18 =>
                  (TR s18 aH nH aL nL aY nY aS nS ∧ BS s18 β μ κ ρ me n) ∧
                  K 1 s18)) ∧
              (¬ ((if x14 = 0 then (if 0 ≤ p3 then (x14 : Int) else 5 : Int) else x14) = 0) →
                am_Calls PP MLL (d + 3) m_C_found [qr (2, 11, 10), qi p1, qi (if x14 = 0 then (if 0 ≤ p3 then (x14 : Int) else 5 : Int) else x14)] s14 (kI fun x19 s19 =>
                  (TR s19 aH nH aL nL aY nY aS nS ∧ BS s19 β μ κ ρ me n) ∧
                  K x19 s19))))) ∧
          (¬ (p3 ≤ 20) →
            K (-1001) σ))) ∧
        (¬ (p2 = 1) →
          K (-1001) σ))))))))) : am_Runs PP MLL (d + 3) m_C_pan 0 [some (qr (2, 11, 10)), some (qi p1), some (qi p2), some (qi p3), none] [] σ (kI K) := am_wEC_ok (orc [(13, 9, 22, 12), (15, β (Int.toNat p1), 0, 9)]) [24] 200 (⟨rfl, am_wEF_ok (orc []) 200 (⟨fun c1 => ⟨(Or.inl rfl), ⟨fun _ => (h.1 c1), fun c => absurd (by decide : (0 : Int) = 0) c⟩⟩, fun c1 => ⟨rfl, ⟨fun c2 => ⟨(Or.inl rfl), ⟨fun _ => ((h.2 c1).1 c2), fun c => absurd (by decide : (0 : Int) = 0) c⟩⟩, fun c2 => ⟨(Or.inr rfl), ⟨fun c => absurd c (by decide : ¬ ((1 : Int) = 0)), fun _ => am_wEF_ok (orc []) 200 (⟨fun c3 => ⟨(Or.inr rfl), ⟨fun c => absurd c (by decide : ¬ ((1 : Int) = 0)), fun _ => ⟨fun c4 => ⟨⟨rfl, (hR.1 2 1 _ rfl)⟩, ⟨⟨rfl, ((((h.2 c1).2 c2).1 c3).1 c4).1.1, ((((h.2 c1).2 c2).1 c3).1 c4).1.2.1, (hB (Int.toNat p1) ((((h.2 c1).2 c2).1 c3).1 c4).1.2.2).1⟩, (am_cI ((((h.2 c1).2 c2).1 c3).1 c4).2 fun x5 s5 h5 => am_use (fun H11 => ⟨fun c6 => ⟨fun c7 => (Eq.mp (congrArg (fun z => am_Runs _ _ _ _ _ [_, _, _, _, some (qi z)] _ _ _) (Eq.trans (if_pos c6 : (if x5 = 0 then (if 0 ≤ p3 then (x5 : Int) else 5 : Int) else x5) = if 0 ≤ p3 then (x5 : Int) else 5) (if_pos c7 : (if 0 ≤ p3 then (x5 : Int) else 5) = x5))) H11), fun c7 => (Eq.mp (congrArg (fun z => am_Runs _ _ _ _ _ [_, _, _, _, some (qi z)] _ _ _) (Eq.trans (if_pos c6 : (if x5 = 0 then (if 0 ≤ p3 then (x5 : Int) else 5 : Int) else x5) = if 0 ≤ p3 then (x5 : Int) else 5) (if_neg c7 : (if 0 ≤ p3 then (x5 : Int) else 5) = 5))) H11)⟩, fun c6 => (Eq.mp (congrArg (fun z => am_Runs _ _ _ _ _ [_, _, _, _, some (qi z)] _ _ _) (if_neg c6 : (if x5 = 0 then (if 0 ≤ p3 then (x5 : Int) else 5 : Int) else x5) = x5)) H11)⟩) (am_wEC_ok (orc [(32, 9, 22, 12), (34, β (Int.toNat p1), 0, 9)]) [24] 200 (⟨fun c8 => ⟨⟨rfl, (h5.1.1.1 2 1 _ rfl)⟩, ⟨⟨rfl, ((((h.2 c1).2 c2).1 c3).1 c4).1.1, ((((h.2 c1).2 c2).1 c3).1 c4).1.2.1, (h5.1.2 (Int.toNat p1) ((((h.2 c1).2 c2).1 c3).1 c4).1.2.2).1⟩, ⟨rfl, am_wEF_ok (orc [(3, ρ (Int.toNat p1), 2, 2)]) 200 (⟨fun _ => ⟨⟨rfl, (h5.1.2 (Int.toNat p1) ((((h.2 c1).2 c2).1 c3).1 c4).1.2.2).2.2.2.1⟩, ⟨rfl, (am_cV (h5.2.1 c8) fun s9 h9 => h9.2)⟩⟩, fun c => absurd c3 c⟩)⟩⟩⟩, fun c8 => ⟨rfl, (am_cI (h5.2.2 c8) fun x10 s10 h10 => h10.2)⟩⟩)))⟩⟩, fun c4 => ((((h.2 c1).2 c2).1 c3).2 c4)⟩⟩⟩, fun c3 => ⟨fun c12 => ⟨(Or.inr rfl), ⟨fun c => absurd c (by decide : ¬ ((1 : Int) = 0)), fun _ => ⟨fun c13 => ⟨⟨rfl, (hR.1 2 1 _ rfl)⟩, ⟨⟨rfl, (((((h.2 c1).2 c2).2 c3).1 c12).1 c13).1.1, (((((h.2 c1).2 c2).2 c3).1 c12).1 c13).1.2.1, (hB (Int.toNat p1) (((((h.2 c1).2 c2).2 c3).1 c12).1 c13).1.2.2).1⟩, (am_cI (((((h.2 c1).2 c2).2 c3).1 c12).1 c13).2 fun x14 s14 h14 => am_use (fun H20 => ⟨fun c15 => ⟨fun c16 => (Eq.mp (congrArg (fun z => am_Runs _ _ _ _ _ [_, _, _, _, some (qi z)] _ _ _) (Eq.trans (if_pos c15 : (if x14 = 0 then (if 0 ≤ p3 then (x14 : Int) else 5 : Int) else x14) = if 0 ≤ p3 then (x14 : Int) else 5) (if_pos c16 : (if 0 ≤ p3 then (x14 : Int) else 5) = x14))) H20), fun c16 => (Eq.mp (congrArg (fun z => am_Runs _ _ _ _ _ [_, _, _, _, some (qi z)] _ _ _) (Eq.trans (if_pos c15 : (if x14 = 0 then (if 0 ≤ p3 then (x14 : Int) else 5 : Int) else x14) = if 0 ≤ p3 then (x14 : Int) else 5) (if_neg c16 : (if 0 ≤ p3 then (x14 : Int) else 5) = 5))) H20)⟩, fun c15 => (Eq.mp (congrArg (fun z => am_Runs _ _ _ _ _ [_, _, _, _, some (qi z)] _ _ _) (if_neg c15 : (if x14 = 0 then (if 0 ≤ p3 then (x14 : Int) else 5 : Int) else x14) = x14)) H20)⟩) (am_wEC_ok (orc [(32, 9, 22, 12), (34, β (Int.toNat p1), 0, 9)]) [24] 200 (⟨fun c17 => ⟨⟨rfl, (h14.1.1.1 2 1 _ rfl)⟩, ⟨⟨rfl, (((((h.2 c1).2 c2).2 c3).1 c12).1 c13).1.1, (((((h.2 c1).2 c2).2 c3).1 c12).1 c13).1.2.1, (h14.1.2 (Int.toNat p1) (((((h.2 c1).2 c2).2 c3).1 c12).1 c13).1.2.2).1⟩, ⟨rfl, am_wEF_ok (orc [(6, ρ (Int.toNat p1) + 2, 2, 2)]) 200 (⟨fun c => absurd c c3, fun _ => ⟨⟨rfl, (h14.1.2 (Int.toNat p1) (((((h.2 c1).2 c2).2 c3).1 c12).1 c13).1.2.2).2.2.2.2.1⟩, ⟨rfl, (am_cV (h14.2.1 c17) fun s18 h18 => h18.2)⟩⟩⟩)⟩⟩⟩, fun c17 => ⟨rfl, (am_cI (h14.2.2 c17) fun x19 s19 h19 => h19.2)⟩⟩)))⟩⟩, fun c13 => (((((h.2 c1).2 c2).2 c3).1 c12).2 c13)⟩⟩⟩, fun c12 => ⟨(Or.inl rfl), ⟨fun _ => ((((h.2 c1).2 c2).2 c3).2 c12), fun c => absurd (by decide : (0 : Int) = 0) c⟩⟩⟩⟩)⟩⟩⟩⟩⟩)⟩)

theorem v_M_panT_0 (d : Nat) (p1 p2 p3 : Int) (σ : am_S) (K : Int → am_S → Prop) (hF : MF σ) (hT : sI σ 31 26 = 0) (h :
  (-2147483648 ≤ (sI σ 31 16) - 1 ∧ (sI σ 31 16) - 1 < 2147483648) ∧
  ((p1 < 0 →
    K (-1001) σ) ∧
  (¬ (p1 < 0) →
    ((((sI σ 31 16) - 1) < p1 →
      K (-1001) σ) ∧
    (¬ (((sI σ 31 16) - 1) < p1) →
      ((p2 < 0 →
        K (-1001) σ) ∧
      (¬ (p2 < 0) →
        ((1 < p2 →
          K (-1001) σ) ∧
        (¬ (1 < p2) →
          ((p3 ≤ 20 →
            am_Calls PP MLL (d + 2) m_M_panFault [qr (31, 12, 89), qi p1] σ (kI fun x6 s6 =>
              (MF s6 ∧ sI s6 31 26 = 0) ∧
              (((if x6 = 0 then (if 0 ≤ p3 then (x6 : Int) else 5 : Int) else x6) = 0 →
                (-2147483648 ≤ 2 * p1 ∧ 2 * p1 < 2147483648 ∧ -2147483648 ≤ (2 * p1) + p2 ∧ (2 * p1) + p2 < 2147483648 ∧ 0 ≤ ((2 * p1) + p2) ∧ ((2 * p1) + p2) < 24) ∧
                am_Runs PP MLL (d + 2) m_M_pan 42 [some (qr (31, 12, 89)), some (qi p1), some (qi p2), some (qi p3), some (qi (if x6 = 0 then (if 0 ≤ p3 then (x6 : Int) else 5 : Int) else x6)), some (qi 0)] [] (putI s6 44 (Int.toNat ((2 * p1) + p2)) p3) (kI K)) ∧
              (¬ ((if x6 = 0 then (if 0 ≤ p3 then (x6 : Int) else 5 : Int) else x6) = 0) →
                am_Calls PP MLL (d + 2) m_M_finds [qr (31, 12, 89), qi p1, qi (if x6 = 0 then (if 0 ≤ p3 then (x6 : Int) else 5 : Int) else x6)] s6 (kI fun x10 s10 =>
                  (MF s10 ∧ sI s10 31 26 = 0) ∧
                  K x10 s10))))) ∧
          (¬ (p3 ≤ 20) →
            K (-1001) σ))))))))))) : am_Runs PP MLL (d + 2) m_M_pan 0 [some (qr (31, 12, 89)), some (qi p1), some (qi p2), some (qi p3), none, none] [] σ (kI K) := am_wEC_ok (orc []) [23] 200 (⟨rfl, am_wEF_ok (orc []) 200 (⟨rfl, ⟨⟨h.1.1, h.1.2⟩, am_wEF_ok (orc []) 200 (⟨fun c1 => ⟨(Or.inl rfl), ⟨(Or.inl rfl), ⟨fun _ => (h.2.1 c1), fun c => absurd (by decide : (0 : Int) = 0) c⟩⟩⟩, fun c1 => ⟨fun c2 => ⟨(Or.inl rfl), ⟨(Or.inl rfl), ⟨fun _ => ((h.2.2 c1).1 c2), fun c => absurd (by decide : (0 : Int) = 0) c⟩⟩⟩, fun c2 => ⟨(Or.inr rfl), ⟨(Or.inr rfl), ⟨fun c => absurd c (by decide : ¬ ((1 : Int) = 0)), fun _ => am_wEF_ok (orc []) 200 (am_wEF_ok (orc []) 200 (⟨fun c3 => ⟨(Or.inl rfl), ⟨(Or.inl rfl), ⟨fun _ => (((h.2.2 c1).2 c2).1 c3), fun c => absurd (by decide : (0 : Int) = 0) c⟩⟩⟩, fun c3 => ⟨fun c4 => ⟨(Or.inl rfl), ⟨(Or.inl rfl), ⟨fun _ => ((((h.2.2 c1).2 c2).2 c3).1 c4), fun c => absurd (by decide : (0 : Int) = 0) c⟩⟩⟩, fun c4 => ⟨(Or.inr rfl), ⟨(Or.inr rfl), ⟨fun c => absurd c (by decide : ¬ ((1 : Int) = 0)), fun _ => ⟨fun c5 => ⟨rfl, (am_cI (((((h.2.2 c1).2 c2).2 c3).2 c4).1 c5) fun x6 s6 h6 => am_use (fun H11 => ⟨fun c7 => ⟨fun c8 => (Eq.mp (congrArg (fun z => am_Runs _ _ _ _ _ _ (qi z :: _) _ _) (Eq.trans (if_pos c7 : (if x6 = 0 then (if 0 ≤ p3 then (x6 : Int) else 5 : Int) else x6) = if 0 ≤ p3 then (x6 : Int) else 5) (if_pos c8 : (if 0 ≤ p3 then (x6 : Int) else 5) = x6))) H11), fun c8 => (Eq.mp (congrArg (fun z => am_Runs _ _ _ _ _ _ (qi z :: _) _ _) (Eq.trans (if_pos c7 : (if x6 = 0 then (if 0 ≤ p3 then (x6 : Int) else 5 : Int) else x6) = if 0 ≤ p3 then (x6 : Int) else 5) (if_neg c8 : (if 0 ≤ p3 then (x6 : Int) else 5) = 5))) H11)⟩, fun c7 => (Eq.mp (congrArg (fun z => am_Runs _ _ _ _ _ _ (qi z :: _) _ _) (if_neg c7 : (if x6 = 0 then (if 0 ≤ p3 then (x6 : Int) else 5 : Int) else x6) = x6)) H11)⟩) (am_wEC_ok (orc [(32, 44, 20, 24)]) [23] 200 (⟨fun c9 => ⟨⟨rfl, (h6.1.1 20)⟩, ⟨⟨(h6.2.1 c9).1.1, (h6.2.1 c9).1.2.1⟩, ⟨⟨(h6.2.1 c9).1.2.2.1, (h6.2.1 c9).1.2.2.2.1⟩, ⟨⟨rfl, (h6.2.1 c9).1.2.2.2.2.1, (h6.2.1 c9).1.2.2.2.2.2⟩, (h6.2.1 c9).2⟩⟩⟩⟩, fun c9 => ⟨rfl, (am_cI (h6.2.2 c9) fun x10 s10 h10 => h10.2)⟩⟩)))⟩, fun c5 => (((((h.2.2 c1).2 c2).2 c3).2 c4).2 c5)⟩⟩⟩⟩⟩⟩))⟩⟩⟩⟩⟩)⟩⟩)⟩)

theorem p_at (d : Nat) {xs : Nat → Int} {c : Nat} {σ : am_S} {p1 p2 p3 : Int} (hI : INV xs σ c) (hc : c + 1 ≤ 600) : PR d xs m_C_at m_M_at [qi p1, qi p2, qi p3] σ c := by
  have hs := INV_s hI hc
  obtain ⟨own, β, μ, κ, ρ, me, n, aH, nH, aL, nL, aY, nY, aS, nS, N, l, m, T, W, kd, aR, nR, aV, nV, aI, nI, aQ, nQ, g, w, hx⟩ := hI
  have hx0 := hx
  obtain ⟨⟨hF, hab, hxs⟩, it, il, ib, im, ij, sc, rz, is, ir, hc6⟩ := hx
  obtain ⟨hR, ow, ti, kt, ks, ⟨w1, w2, w3, w4, w5, w6, w7, w8⟩, ⟨l1, l2, l3, l4⟩, lz, ⟨q1, q2, q3, q4⟩, h87⟩ := it
  have o1 := ow.1
  obtain ⟨a1, a2, a3, ⟨n12, a4, a5⟩, bd, a6, a7, a8, a9, a10⟩ := ib
  obtain ⟨m1, ⟨m2, T26⟩, m3, m4, m5, m6⟩ := im
  have tN := ti.2.2.2.2.1
  have tT := ti.2.2.2.2.2.2.1
  have T4 := ti.2.2.2.2.2.2.2.2.1
  have nB : ∀ b, b < n → ∀ x, x < 87 → x ≠ β b := fun b hb x hx' e => by
    have := (a2 b hb).1
    rw [← e, o1 x hx'] at this
    omega
  have fd : ∀ (b : Nat) (f : Int) (K : Int → am_S → Prop) (e : Nat), b < n → 0 ≤ f ∧ f ≤ 6 → (TR (fdC σ β b f) aH nH aL nL aY nY aS nS → BS (fdC σ β b f) β μ κ ρ me n → K (-1010 - f) (fdC σ β b f)) → am_Calls PP MLL (e + 1) m_C_found [qr (2, 11, 10), qi (b : Int), qi f] σ (kI K) := fun b f K e hb hf h => c_found e hR.1 a1 n12 hb (nB b hb 2 (by decide)).symm (by omega) (by omega) (h (TR_2 fdC_2 hR) (BS_2 fdC_2 a1))
  have fe : ∀ (b : Nat) (f : Int) (e : Nat), b < n → 0 ≤ f ∧ f ≤ 6 → am_Calls PP MLL (e + 2) m_M_finds [qr (31, 12, 89), qi (b : Int), qi f] (fdC σ β b f) (kI fun x s => (MF s ∧ sI s 31 26 = 0) ∧ -1010 - f = x ∧ INV xs s (c + 1)) := fun b f e hb hf => by
    have e31 : sI (fdC σ β b f) 31 = sI σ 31 := fdC_o (by decide) (nB b hb 31 (by decide))
    refine c_M_finds e (MF_I hF fdC_2) (by omega) (by omega) (by rw [e31]; omega) ⟨⟨MF_I hF (show (mFinds (fdC σ β b f) b f).2 = σ.2 from fdC_2), by rw [mF_31, if_neg (by decide), if_neg (by decide), e31]; exact T26⟩, rfl, INV_fd hx0 hc hb hf⟩
  have fx : ∀ b f, b < n → sI (fdC σ β b f) 0 = xs := fun b f hb => by rw [fdC_o (by decide) (nB b hb 0 (by decide))]; exact hxs
  have fr : ∀ b f x, b < n → x < 87 → x ≠ 2 → sI (fdC σ β b f) x = sI σ x := fun b f x hb hx' h2 => fdC_o h2 (nB b hb x hx')
  have fM : ∀ b f, b < n → MF (fdC σ β b f) ∧ sI (fdC σ β b f) 31 26 = 0 := fun b f hb => ⟨MF_I hF fdC_2, by rw [fr b f 31 hb (by decide) (by decide)]; exact T26⟩
  have bad : ((p1 < 0 ∨ (n : Int) ≤ p1) ∨ (p2 < 0 ∨ 1 < p2)) → am_Calls PP MLL (d + 30) m_M_at [qr (31, 12, 89), qi p1, qi p2, qi p3] σ (kI fun y t => -1001 = y ∧ INV xs t (c + 1)) := by
    intro hp
    refine v_M_at_0 (d + 26) p1 p2 p3 σ _ hF T26 ?_
    rw [a5]
    exact ⟨by omega, fun c1 => ⟨rfl, hs⟩, fun c1 => ⟨fun c2 => ⟨rfl, hs⟩, fun c2 => ⟨fun c3 => ⟨rfl, hs⟩, fun c3 => ⟨fun c4 => ⟨rfl, hs⟩, fun c4 => by omega⟩⟩⟩⟩
  have good : ∀ (b s : Nat) (st : am_S) (x : Int), b < n → s < 2 → p1 = b → p2 = s → MF st → sI st 31 26 = 0 → sI st 31 = sI σ 31 → sI st 41 = sI σ 41 → sI st 44 = sI σ 44 → (plF (sI σ 41 b) (sI σ 44 (2 * b + s)) p3 = 0 → st = σ ∧ x = sI σ 45 (20 * (2 * b + s) + p3.toNat)) → (plF (sI σ 41 b) (sI σ 44 (2 * b + s)) p3 ≠ 0 → st = fdC σ β b (plF (sI σ 41 b) (sI σ 44 (2 * b + s)) p3) ∧ x = -1010 - plF (sI σ 41 b) (sI σ 44 (2 * b + s)) p3) → am_Calls PP MLL (d + 30) m_M_at [qr (31, 12, 89), qi p1, qi p2, qi p3] st (kI fun y t => x = y ∧ INV xs t (c + 1)) := by
    intro b s st x hb hs2 e1 e2 f1 f2 f3 f4 f5 g0 g1
    subst e1
    subst e2
    refine v_M_at_0 (d + 26) (b : Int) (s : Int) p3 st _ f1 f2 ?_
    rw [f3, a5]
    refine ⟨by omega, fun c1 => by omega, fun c1 => ⟨fun c2 => by omega, fun c2 => ⟨fun c3 => by omega, fun c3 => ⟨fun c4 => by omega, fun c4 => ?_⟩⟩⟩⟩
    refine c_M_placeFault (d + 26) f1 f2 (by omega) hs2 (by rw [f5]; exact a7) ?_
    rw [f4, f5]
    have hl := @plF_b (sI σ 41 b) (sI σ 44 (2 * b + s)) p3
    have h20 := a7 (2 * b + s)
    refine ⟨⟨f1, f2⟩, fun e => ?_, fun e => ?_⟩
    · obtain ⟨u1, u2, _⟩ := plF_0 e
      obtain ⟨v1, v2⟩ := g0 e
      rw [v1, v2, show ((20 * ((2 * (b : Int)) + (s : Int))) + p3).toNat = 20 * (2 * b + s) + p3.toNat by omega]
      exact ⟨by omega, rfl, hs⟩
    · obtain ⟨v1, v2⟩ := g1 e
      rw [v1, v2]
      exact fe b _ (d + 27) hb (by omega)
  refine v_C_at_0 (d + 26) β μ κ ρ me aH nH aL nL aY nY aS nS n p1 p2 p3 σ _ hR a1 ?_
  rw [a4]
  refine ⟨fun c1 => ⟨hxs, bad (by omega)⟩, fun c1 => ⟨fun c2 => ⟨hxs, bad (by omega)⟩, fun c2 => ⟨fun c3 => ?_, fun c3 => ⟨fun c4 => ?_, fun c4 => ⟨hxs, bad (by omega)⟩⟩⟩⟩⟩
  · obtain ⟨b, eb⟩ : ∃ b : Nat, p1 = b := ⟨p1.toNat, by omega⟩
    have es : p2 = ((0 : Nat) : Int) := by omega
    have hb : b < n := by omega
    have e1 : p1.toNat = b := by omega
    rw [e1]
    obtain ⟨d1, d2, d3, d4, d5, d6, ⟨z1, z2, z3, z4⟩, d8, d9⟩ := bd b hb
    have hl := @plF_b (sI σ 41 b) (sI σ 44 (2 * b + 0)) p3
    have h20 := a7 (2 * b + 0)
    rw [es] at good ⊢
    refine ⟨by omega, c_wPlace (d + 26) hR a1 hb (bd b hb) (s := 0) (by decide) ⟨⟨hR, a1⟩, fun e => ?_, fun e => ?_⟩⟩
    · obtain ⟨u1, u2, _⟩ := plF_0 e
      refine ⟨by omega, hxs, good b 0 σ _ hb (by decide) eb rfl hF T26 rfl rfl rfl (fun _ => ⟨rfl, ?_⟩) (fun q => absurd e q)⟩
      have := z3 p3.toNat (by omega)
      rw [this]
      congr 1
      omega
    · rw [eb]
      refine fd b _ _ (d + 28) hb (by omega) (fun t1 t2 => ⟨⟨t1, t2⟩, fx b _ hb, ?_⟩)
      rw [← eb]
      exact good b 0 _ _ hb (by decide) eb rfl (fM b _ hb).1 (fM b _ hb).2 (fr b _ 31 hb (by decide) (by decide)) (fr b _ 41 hb (by decide) (by decide)) (fr b _ 44 hb (by decide) (by decide)) (fun q => absurd q e) (fun _ => ⟨rfl, rfl⟩)
  · obtain ⟨b, eb⟩ : ∃ b : Nat, p1 = b := ⟨p1.toNat, by omega⟩
    have es : p2 = ((1 : Nat) : Int) := by omega
    have hb : b < n := by omega
    have e1 : p1.toNat = b := by omega
    rw [e1]
    obtain ⟨d1, d2, d3, d4, d5, d6, ⟨z1, z2, z3, z4⟩, d8, d9⟩ := bd b hb
    have hl := @plF_b (sI σ 41 b) (sI σ 44 (2 * b + 1)) p3
    have h20 := a7 (2 * b + 1)
    rw [es] at good ⊢
    refine ⟨by omega, c_wPlace (d + 26) hR a1 hb (bd b hb) (s := 1) (by decide) ⟨⟨hR, a1⟩, fun e => ?_, fun e => ?_⟩⟩
    · obtain ⟨u1, u2, _⟩ := plF_0 e
      refine ⟨by omega, hxs, good b 1 σ _ hb (by decide) eb rfl hF T26 rfl rfl rfl (fun _ => ⟨rfl, ?_⟩) (fun q => absurd e q)⟩
      have := z4 p3.toNat (by omega)
      rw [this]
      congr 1
      omega
    · rw [eb]
      refine fd b _ _ (d + 28) hb (by omega) (fun t1 t2 => ⟨⟨t1, t2⟩, fx b _ hb, ?_⟩)
      rw [← eb]
      exact good b 1 _ _ hb (by decide) eb rfl (fM b _ hb).1 (fM b _ hb).2 (fr b _ 31 hb (by decide) (by decide)) (fr b _ 41 hb (by decide) (by decide)) (fr b _ 44 hb (by decide) (by decide)) (fun q => absurd q e) (fun _ => ⟨rfl, rfl⟩)
theorem p_put (d : Nat) {xs : Nat → Int} {c : Nat} {σ : am_S} {p1 p2 p3 p4 : Int} (hI : INV xs σ c) (hc : c + 1 ≤ 600) : PR d xs m_C_put m_M_put [qi p1, qi p2, qi p3, qi p4] σ c := by
  have hs := INV_s hI hc
  obtain ⟨own, β, μ, κ, ρ, me, n, aH, nH, aL, nL, aY, nY, aS, nS, N, l, m, T, W, kd, aR, nR, aV, nV, aI, nI, aQ, nQ, g, w, hx⟩ := hI
  have hx0 := hx
  obtain ⟨⟨hF, hab, hxs⟩, it, il, ib, im, ij, sc, rz, is, ir, hc6⟩ := hx
  obtain ⟨hR, ow, ti, kt, ks, ⟨w1, w2, w3, w4, w5, w6, w7, w8⟩, ⟨l1, l2, l3, l4⟩, lz, ⟨q1, q2, q3, q4⟩, h87⟩ := it
  have o1 := ow.1
  obtain ⟨a1, a2, a3, ⟨n12, a4, a5⟩, bd, a6, a7, a8, a9, a10⟩ := ib
  obtain ⟨m1, ⟨m2, T26⟩, m3, m4, m5, m6⟩ := im
  have tN := ti.2.2.2.2.1
  have tT := ti.2.2.2.2.2.2.1
  have T4 := ti.2.2.2.2.2.2.2.2.1
  have nB : ∀ b, b < n → ∀ x, x < 87 → x ≠ β b := fun b hb x hx' e => by
    have := (a2 b hb).1
    rw [← e, o1 x hx'] at this
    omega
  have fd : ∀ (b : Nat) (f : Int) (K : Int → am_S → Prop) (e : Nat), b < n → 0 ≤ f ∧ f ≤ 6 → (TR (fdC σ β b f) aH nH aL nL aY nY aS nS → BS (fdC σ β b f) β μ κ ρ me n → K (-1010 - f) (fdC σ β b f)) → am_Calls PP MLL (e + 1) m_C_found [qr (2, 11, 10), qi (b : Int), qi f] σ (kI K) := fun b f K e hb hf h => c_found e hR.1 a1 n12 hb (nB b hb 2 (by decide)).symm (by omega) (by omega) (h (TR_2 fdC_2 hR) (BS_2 fdC_2 a1))
  have fe : ∀ (b : Nat) (f : Int) (e : Nat), b < n → 0 ≤ f ∧ f ≤ 6 → am_Calls PP MLL (e + 2) m_M_finds [qr (31, 12, 89), qi (b : Int), qi f] (fdC σ β b f) (kI fun x s => (MF s ∧ sI s 31 26 = 0) ∧ -1010 - f = x ∧ INV xs s (c + 1)) := fun b f e hb hf => by
    have e31 : sI (fdC σ β b f) 31 = sI σ 31 := fdC_o (by decide) (nB b hb 31 (by decide))
    refine c_M_finds e (MF_I hF fdC_2) (by omega) (by omega) (by rw [e31]; omega) ⟨⟨MF_I hF (show (mFinds (fdC σ β b f) b f).2 = σ.2 from fdC_2), by rw [mF_31, if_neg (by decide), if_neg (by decide), e31]; exact T26⟩, rfl, INV_fd hx0 hc hb hf⟩
  have fx : ∀ b f, b < n → sI (fdC σ β b f) 0 = xs := fun b f hb => by rw [fdC_o (by decide) (nB b hb 0 (by decide))]; exact hxs
  have fr : ∀ b f x, b < n → x < 87 → x ≠ 2 → sI (fdC σ β b f) x = sI σ x := fun b f x hb hx' h2 => fdC_o h2 (nB b hb x hx')
  have fM : ∀ b f, b < n → MF (fdC σ β b f) ∧ sI (fdC σ β b f) 31 26 = 0 := fun b f hb => ⟨MF_I hF fdC_2, by rw [fr b f 31 hb (by decide) (by decide)]; exact T26⟩
  have bad : ((p1 < 0 ∨ (n : Int) ≤ p1) ∨ (p2 < 0 ∨ 1 < p2) ∨ (p4 < -1 ∨ (N : Int) ≤ p4)) → am_Calls PP MLL (d + 30) m_M_put [qr (31, 12, 89), qi p1, qi p2, qi p3, qi p4] σ (kI fun y t => -1001 = y ∧ INV xs t (c + 1)) := by
    intro hp
    refine v_M_put_0 (d + 26) p1 p2 p3 p4 σ _ hF T26 ?_
    rw [a5, tN]
    have n40 := ti.1
    exact ⟨by omega, fun c1 => ⟨rfl, hs⟩, fun c1 => ⟨fun c2 => ⟨rfl, hs⟩, fun c2 => ⟨fun c3 => ⟨rfl, hs⟩, fun c3 => ⟨fun c4 => ⟨rfl, hs⟩, fun c4 => ⟨fun c5 => by omega, fun c5 => ⟨by omega, fun c6 => ⟨rfl, hs⟩, fun c6 => ⟨fun c7 => ⟨rfl, hs⟩, fun c7 => by omega⟩⟩⟩⟩⟩⟩⟩
  have good : ∀ (b s : Nat) (st : am_S) (x : Int), b < n → s < 2 → p1 = b → p2 = s → (-1 ≤ p4 ∧ p4 < N) → MF st → sI st 31 26 = 0 → sI st 31 = sI σ 31 → sI st 41 = sI σ 41 → sI st 44 = sI σ 44 → (plF (sI σ 41 b) (sI σ 44 (2 * b + s)) p3 = 0 → st = putI σ (ρ b + (2 * s + 1)) p3.toNat p4 ∧ x = sI σ 45 (20 * (2 * b + s) + p3.toNat)) → (plF (sI σ 41 b) (sI σ 44 (2 * b + s)) p3 ≠ 0 → st = fdC σ β b (plF (sI σ 41 b) (sI σ 44 (2 * b + s)) p3) ∧ x = -1010 - plF (sI σ 41 b) (sI σ 44 (2 * b + s)) p3) → am_Calls PP MLL (d + 30) m_M_put [qr (31, 12, 89), qi p1, qi p2, qi p3, qi p4] st (kI fun y t => x = y ∧ INV xs t (c + 1)) := by
    intro b s st x hb hs2 e1 e2 h4' f1 f2 f3 f4 f5 g0 g1
    subst e1
    subst e2
    have n40 := ti.1
    have one : am_Calls PP MLL (d + 29) m_M_placeFault [qr (31, 12, 89), qi (b : Int), qi (s : Int), qi p3] st (kI fun x6 s6 => (MF s6 ∧ sI s6 31 26 = 0) ∧ ((x6 = 0 → (-2147483648 ≤ 2 * (b : Int) ∧ 2 * (b : Int) < 2147483648 ∧ -2147483648 ≤ (2 * (b : Int)) + (s : Int) ∧ (2 * (b : Int)) + (s : Int) < 2147483648 ∧ -2147483648 ≤ 20 * ((2 * (b : Int)) + (s : Int)) ∧ 20 * ((2 * (b : Int)) + (s : Int)) < 2147483648 ∧ -2147483648 ≤ (20 * ((2 * (b : Int)) + (s : Int))) + p3 ∧ (20 * ((2 * (b : Int)) + (s : Int))) + p3 < 2147483648 ∧ 0 ≤ ((20 * ((2 * (b : Int)) + (s : Int))) + p3) ∧ ((20 * ((2 * (b : Int)) + (s : Int))) + p3) < 480) ∧ (x = (sI s6 45 (Int.toNat ((20 * ((2 * (b : Int)) + (s : Int))) + p3))) ∧ INV xs (putI s6 45 (Int.toNat ((20 * ((2 * (b : Int)) + (s : Int))) + p3)) p4) (c + 1))) ∧ (¬ (x6 = 0) → am_Calls PP MLL (d + 29) m_M_finds [qr (31, 12, 89), qi (b : Int), qi x6] s6 (kI fun x8 s8 => (MF s8 ∧ sI s8 31 26 = 0) ∧ (x = x8 ∧ INV xs s8 (c + 1)))))) := by
      refine c_M_placeFault (d + 26) f1 f2 (by omega) hs2 (by rw [f5]; exact a7) ?_
      rw [f4, f5]
      have hl := @plF_b (sI σ 41 b) (sI σ 44 (2 * b + s)) p3
      have h20 := a7 (2 * b + s)
      refine ⟨⟨f1, f2⟩, fun e => ?_, fun e => ?_⟩
      · obtain ⟨u1, u2, _⟩ := plF_0 e
        obtain ⟨v1, v2⟩ := g0 e
        have nr : ∀ k, k < 4 → ∀ x', x' < 87 → x' ≠ ρ b + k := fun k hk x' hx' e => by
          have := (a2 b hb).2.2 k hk
          rw [← e, o1 x' hx'] at this
          omega
        rw [v1, v2, show ((20 * ((2 * (b : Int)) + (s : Int))) + p3).toNat = 20 * (2 * b + s) + p3.toNat by omega]
        refine ⟨by omega, by rw [put_ne (nr (2 * s + 1) (by omega) 45 (by decide))], ?_⟩
        have n4 : ∀ x', x' < 87 → x' ≠ ρ b + (2 * s + 1) := nr (2 * s + 1) (by omega)
        obtain ⟨d1, d2, d3, d4, d5, ⟨v1, v2, v3⟩, ⟨z1, z2, z3, z4⟩, d8, d9⟩ := bd b hb
        have or' := (a2 b hb).2.2 (2 * s + 1) (by omega)
        have r44 : sI (putI (putI σ (ρ b + (2 * s + 1)) p3.toNat p4) 45 (20 * (2 * b + s) + p3.toNat) p4) 44 = sI σ 44 := by rw [put_ne (by decide), put_ne (n4 44 (by decide))]
        have r45 : ∀ i, sI (putI (putI σ (ρ b + (2 * s + 1)) p3.toNat p4) 45 (20 * (2 * b + s) + p3.toNat) p4) 45 i = if i = 20 * (2 * b + s) + p3.toNat then p4 else sI σ 45 i := fun i => by rw [put_at, put_ne (n4 45 (by decide))]
        have rr : ∀ k, k < 4 → k ≠ 2 * s + 1 → sI (putI (putI σ (ρ b + (2 * s + 1)) p3.toNat p4) 45 (20 * (2 * b + s) + p3.toNat) p4) (ρ b + k) = sI σ (ρ b + k) := fun k hk ne => by rw [put_ne (nr k hk 45 (by decide)).symm, put_ne (by omega)]
        have rs : ∀ i, sI (putI (putI σ (ρ b + (2 * s + 1)) p3.toNat p4) 45 (20 * (2 * b + s) + p3.toNat) p4) (ρ b + (2 * s + 1)) i = if i = p3.toNat then p4 else sI σ (ρ b + (2 * s + 1)) i := fun i => by rw [put_ne (n4 45 (by decide)).symm, put_at]
        refine INV_pan hx0 hc hb rfl (fun x' hx' q1 q2 q3 q4 => ?_) (fun k _ => by rw [r44]) (fun i hi => by rw [r45, if_neg (by omega)]) ?_ ?_ (by rw [r44]; exact a7) (fun i => by rw [r45]; split; (· omega); exact a8 i)
        · rw [put_ne (fun q => by rw [q, o1 45 (by decide)] at q2; omega), put_ne (fun q => by rw [q, or'] at q4; omega)]
        · have y0 : sI (putI (putI σ (ρ b + (2 * s + 1)) p3.toNat p4) 45 (20 * (2 * b + s) + p3.toNat) p4) (ρ b) = sI σ (ρ b) := rr 0 (by decide) (by omega)
          unfold PV
          rw [y0, rr 2 (by decide) (by omega)]
          have : s = 0 ∨ s = 1 := by omega
          rcases this with q | q
          · subst q
            rw [rr 3 (by decide) (by decide)]
            exact ⟨v1, fun i => by have := rs i; rw [show ρ b + (2 * 0 + 1) = ρ b + 1 from rfl] at this ⊢; rw [this]; split; (· omega); exact v2 i, v3⟩
          · subst q
            rw [rr 1 (by decide) (by decide)]
            exact ⟨v1, v2, fun i => by have := rs i; rw [show ρ b + (2 * 1 + 1) = ρ b + 3 from rfl] at this ⊢; rw [this]; split; (· omega); exact v3 i⟩
        · have y0 : sI (putI (putI σ (ρ b + (2 * s + 1)) p3.toNat p4) 45 (20 * (2 * b + s) + p3.toNat) p4) (ρ b) = sI σ (ρ b) := rr 0 (by decide) (by omega)
          rw [y0, rr 2 (by decide) (by omega), r44]
          have : s = 0 ∨ s = 1 := by omega
          refine ⟨z1, z2, fun i hi => ?_, fun i hi => ?_⟩
          · have h20' := a7 (2 * b)
            rw [r45]
            rcases this with q | q
            · subst q
              have := rs i
              rw [show ρ b + (2 * 0 + 1) = ρ b + 1 from rfl] at this ⊢
              rw [this]
              by_cases e' : i = p3.toNat
              · rw [if_pos e', if_pos (by omega)]
              · rw [if_neg e', if_neg (by omega)]
                exact z3 i hi
            · subst q
              rw [rr 1 (by decide) (by decide), if_neg (by omega)]
              exact z3 i hi
          · have h20' := a7 (2 * b + 1)
            rw [r45]
            rcases this with q | q
            · subst q
              rw [rr 3 (by decide) (by decide), if_neg (by rw [Nat.add_zero] at u2 h20; omega)]
              exact z4 i hi
            · subst q
              have := rs i
              rw [show ρ b + (2 * 1 + 1) = ρ b + 3 from rfl] at this ⊢
              rw [this]
              by_cases e' : i = p3.toNat
              · rw [if_pos e', if_pos (by omega)]
              · rw [if_neg e', if_neg (by omega)]
                exact z4 i hi
      · obtain ⟨v1, v2⟩ := g1 e
        rw [v1, v2]
        exact fe b _ (d + 27) hb (by omega)
    refine v_M_put_0 (d + 26) (b : Int) (s : Int) p3 p4 st _ f1 f2 ?_
    rw [f3, a5, tN]
    exact ⟨by omega, fun c1 => by omega, fun c1 => ⟨fun c2 => by omega, fun c2 => ⟨fun c3 => by omega, fun c3 => ⟨fun c4 => by omega, fun c4 => ⟨fun c5 => one, fun c5 => ⟨by omega, fun c6 => by omega, fun c6 => ⟨fun c7 => by omega, fun c7 => one⟩⟩⟩⟩⟩⟩⟩
  refine v_C_put_0 (d + 26) β μ κ ρ me aH nH aL nL aY nY aS nS n p1 p2 p3 p4 σ _ hR a1 ?_
  rw [a4, w2]
  refine ⟨fun c1 => ⟨hxs, bad (by omega)⟩, fun c1 => ⟨fun c2 => ⟨hxs, bad (by omega)⟩, fun c2 => ⟨fun c3 => ?_, fun c3 => ⟨fun c4 => ?_, fun c4 => ⟨hxs, bad (by omega)⟩⟩⟩⟩⟩
  · obtain ⟨b, eb⟩ : ∃ b : Nat, p1 = b := ⟨p1.toNat, by omega⟩
    have es : p2 = ((0 : Nat) : Int) := by omega
    have hb : b < n := by omega
    have e1 : p1.toNat = b := by omega
    rw [e1]
    obtain ⟨d1, d2, d3, d4, d5, d6, ⟨z1, z2, z3, z4⟩, d8, d9⟩ := bd b hb
    have hl := @plF_b (sI σ 41 b) (sI σ 44 (2 * b + 0)) p3
    have h20 := a7 (2 * b + 0)
    have n4 : ∀ x', x' < 87 → x' ≠ ρ b + 1 := fun x' hx' e => by
      have := (a2 b hb).2.2 1 (by decide)
      rw [← e, o1 x' hx'] at this
      omega
    rw [es] at good ⊢
    have one := fun (h4' : -1 ≤ p4 ∧ p4 < N) => c_wPlace (d + 26) (j := p3) (K := fun x5 s5 => (TR s5 aH nH aL nL aY nY aS nS ∧ BS s5 β μ κ ρ me n) ∧ ((x5 = 0 → (0 ≤ p3 ∧ p3 < 20) ∧ (sI (putI s5 (ρ b + 1) (Int.toNat p3) p4) 0 = xs ∧ am_Calls PP MLL (d + 30) m_M_put [qr (31, 12, 89), qi p1, qi ((0 : Nat) : Int), qi p3, qi p4] (putI s5 (ρ b + 1) (Int.toNat p3) p4) (kI fun y t => (sI s5 (ρ b + 1) (Int.toNat p3)) = y ∧ INV xs t (c + 1)))) ∧ (¬ (x5 = 0) → am_Calls PP MLL (d + 29) m_C_found [qr (2, 11, 10), qi p1, qi x5] s5 (kI fun x7 s7 => (TR s7 aH nH aL nL aY nY aS nS ∧ BS s7 β μ κ ρ me n) ∧ (sI s7 0 = xs ∧ am_Calls PP MLL (d + 30) m_M_put [qr (31, 12, 89), qi p1, qi ((0 : Nat) : Int), qi p3, qi p4] s7 (kI fun y t => x7 = y ∧ INV xs t (c + 1))))))) hR a1 hb (bd b hb) (s := 0) (by decide) ⟨⟨hR, a1⟩, fun e => by
      obtain ⟨u1, u2, _⟩ := plF_0 e
      refine ⟨by omega, by rw [put_ne (n4 0 (by decide))]; exact hxs, good b 0 _ _ hb (by decide) eb rfl h4' (MF_I hF rfl) (by rw [put_ne (n4 31 (by decide))]; exact T26) (put_ne (n4 31 (by decide))) (put_ne (n4 41 (by decide))) (put_ne (n4 44 (by decide))) (fun _ => ⟨rfl, ?_⟩) (fun q => absurd e q)⟩
      have := z3 p3.toNat (by omega)
      rw [this]
      congr 1
      omega, fun e => by
      rw [eb]
      refine fd b _ _ (d + 28) hb (by omega) (fun t1 t2 => ⟨⟨t1, t2⟩, fx b _ hb, ?_⟩)
      rw [← eb]
      exact good b 0 _ _ hb (by decide) eb rfl h4' (fM b _ hb).1 (fM b _ hb).2 (fr b _ 31 hb (by decide) (by decide)) (fr b _ 41 hb (by decide) (by decide)) (fr b _ 44 hb (by decide) (by decide)) (fun q => absurd q e) (fun _ => ⟨rfl, rfl⟩)⟩
    rw [es] at bad
    exact ⟨fun c5 => ⟨by omega, one (by omega)⟩, fun c5 => ⟨fun c6 => ⟨hxs, bad (by omega)⟩, fun c6 => ⟨fun c7 => ⟨hxs, bad (by omega)⟩, fun c7 => ⟨by omega, one (by omega)⟩⟩⟩⟩
  · obtain ⟨b, eb⟩ : ∃ b : Nat, p1 = b := ⟨p1.toNat, by omega⟩
    have es : p2 = ((1 : Nat) : Int) := by omega
    have hb : b < n := by omega
    have e1 : p1.toNat = b := by omega
    rw [e1]
    obtain ⟨d1, d2, d3, d4, d5, d6, ⟨z1, z2, z3, z4⟩, d8, d9⟩ := bd b hb
    have hl := @plF_b (sI σ 41 b) (sI σ 44 (2 * b + 1)) p3
    have h20 := a7 (2 * b + 1)
    have n4 : ∀ x', x' < 87 → x' ≠ ρ b + 3 := fun x' hx' e => by
      have := (a2 b hb).2.2 3 (by decide)
      rw [← e, o1 x' hx'] at this
      omega
    rw [es] at good ⊢
    have one := fun (h4' : -1 ≤ p4 ∧ p4 < N) => c_wPlace (d + 26) (j := p3) (K := fun x5 s5 => (TR s5 aH nH aL nL aY nY aS nS ∧ BS s5 β μ κ ρ me n) ∧ ((x5 = 0 → (0 ≤ p3 ∧ p3 < 20) ∧ (sI (putI s5 (ρ b + 3) (Int.toNat p3) p4) 0 = xs ∧ am_Calls PP MLL (d + 30) m_M_put [qr (31, 12, 89), qi p1, qi ((1 : Nat) : Int), qi p3, qi p4] (putI s5 (ρ b + 3) (Int.toNat p3) p4) (kI fun y t => (sI s5 (ρ b + 3) (Int.toNat p3)) = y ∧ INV xs t (c + 1)))) ∧ (¬ (x5 = 0) → am_Calls PP MLL (d + 29) m_C_found [qr (2, 11, 10), qi p1, qi x5] s5 (kI fun x7 s7 => (TR s7 aH nH aL nL aY nY aS nS ∧ BS s7 β μ κ ρ me n) ∧ (sI s7 0 = xs ∧ am_Calls PP MLL (d + 30) m_M_put [qr (31, 12, 89), qi p1, qi ((1 : Nat) : Int), qi p3, qi p4] s7 (kI fun y t => x7 = y ∧ INV xs t (c + 1))))))) hR a1 hb (bd b hb) (s := 1) (by decide) ⟨⟨hR, a1⟩, fun e => by
      obtain ⟨u1, u2, _⟩ := plF_0 e
      refine ⟨by omega, by rw [put_ne (n4 0 (by decide))]; exact hxs, good b 1 _ _ hb (by decide) eb rfl h4' (MF_I hF rfl) (by rw [put_ne (n4 31 (by decide))]; exact T26) (put_ne (n4 31 (by decide))) (put_ne (n4 41 (by decide))) (put_ne (n4 44 (by decide))) (fun _ => ⟨rfl, ?_⟩) (fun q => absurd e q)⟩
      have := z4 p3.toNat (by omega)
      rw [this]
      congr 1
      omega, fun e => by
      rw [eb]
      refine fd b _ _ (d + 28) hb (by omega) (fun t1 t2 => ⟨⟨t1, t2⟩, fx b _ hb, ?_⟩)
      rw [← eb]
      exact good b 1 _ _ hb (by decide) eb rfl h4' (fM b _ hb).1 (fM b _ hb).2 (fr b _ 31 hb (by decide) (by decide)) (fr b _ 41 hb (by decide) (by decide)) (fr b _ 44 hb (by decide) (by decide)) (fun q => absurd q e) (fun _ => ⟨rfl, rfl⟩)⟩
    rw [es] at bad
    exact ⟨fun c5 => ⟨by omega, one (by omega)⟩, fun c5 => ⟨fun c6 => ⟨hxs, bad (by omega)⟩, fun c6 => ⟨fun c7 => ⟨hxs, bad (by omega)⟩, fun c7 => ⟨by omega, one (by omega)⟩⟩⟩⟩
