/-! the reference: the four passages of a search -/
theorem v_M_goesUp_0 (d : Nat) (p1 p2 : Int) (σ : am_S) (K : Int → am_S → Prop) (hF : MF σ) (hT : sI σ 31 26 = 0) (h :
  am_Runs PP MLL (d + 1) m_M_goesUp 2 [some (qr (31, 12, 89)), some (qi p1), some (qi p2), some (qi p2)] [] σ (kI K)) : am_Runs PP MLL (d + 1) m_M_goesUp 0 [some (qr (31, 12, 89)), some (qi p1), some (qi p2), none] [] σ (kI K) := am_wEF_ok (orc []) 200 (h)

theorem v_M_goesUp_2 (d : Nat) (p1 v3 : Int) (z2 : Option am_V) (σ : am_S) (K : Int → am_S → Prop) (hF : MF σ) (hT : sI σ 31 26 = 0) (h :
  ((v3 = 0 →
    (0 ≤ (sI σ 31 57) ∧ (sI σ 31 57) < 14) ∧
    (((sI σ 31 57) = p1 →
      K 2 (putI σ 31 60 (sI σ 58 (Int.toNat (sI σ 31 57))))) ∧
    (¬ ((sI σ 31 57) = p1) →
      (-2147483648 ≤ (sI σ 31 57) - 1 ∧ (sI σ 31 57) - 1 < 2147483648) ∧
      (0 ≤ ((sI σ 31 57) - 1) ∧ ((sI σ 31 57) - 1) < 14) ∧
      K 0 (putI (putI (putI (putI σ 31 60 (sI σ 58 (Int.toNat (sI σ 31 57)))) 31 57 ((sI σ 31 57) - 1)) 31 60 (sI σ 58 (Int.toNat ((sI σ 31 57) - 1)))) 31 58 1)))) ∧
  (¬ (v3 = 0) →
    am_Calls PP MLL (d + 1) m_M_manyAt [qr (31, 12, 89), qi (sI σ 31 57)] σ (kI fun x4 s4 =>
      (MF s4 ∧ sI s4 31 26 = 0) ∧
      am_Calls PP MLL (d + 1) m_M_keep [qr (31, 12, 89), qi (sI σ 31 57), qi x4] s4 (kV fun s5 =>
        (MF s5 ∧ sI s5 31 26 = 0) ∧
        (((sI s5 31 57) = p1 →
          K 1 s5) ∧
        (¬ ((sI s5 31 57) = p1) →
          (-2147483648 ≤ (sI s5 31 57) - 1 ∧ (sI s5 31 57) - 1 < 2147483648) ∧
          (0 ≤ ((sI s5 31 57) - 1) ∧ ((sI s5 31 57) - 1) < 14 ∧ -2147483648 ≤ (sI s5 57 (Int.toNat ((sI s5 31 57) - 1))) + 1 ∧ (sI s5 57 (Int.toNat ((sI s5 31 57) - 1))) + 1 < 2147483648) ∧
          (((sI s5 56 (Int.toNat ((sI s5 31 57) - 1))) < (sI (putI (putI s5 31 57 ((sI s5 31 57) - 1)) 57 (Int.toNat ((sI s5 31 57) - 1)) ((sI s5 57 (Int.toNat ((sI s5 31 57) - 1))) + 1)) 57 (Int.toNat ((sI s5 31 57) - 1))) →
            am_Runs PP MLL (d + 1) m_M_goesUp 2 [some (qr (31, 12, 89)), some (qi p1), z2, some (qi v3)] [] (putI (putI s5 31 57 ((sI s5 31 57) - 1)) 57 (Int.toNat ((sI s5 31 57) - 1)) ((sI s5 57 (Int.toNat ((sI s5 31 57) - 1))) + 1)) (kI K)) ∧
          (¬ ((sI s5 56 (Int.toNat ((sI s5 31 57) - 1))) < (sI (putI (putI s5 31 57 ((sI s5 31 57) - 1)) 57 (Int.toNat ((sI s5 31 57) - 1)) ((sI s5 57 (Int.toNat ((sI s5 31 57) - 1))) + 1)) 57 (Int.toNat ((sI s5 31 57) - 1)))) →
            K 0 (putI (putI (putI s5 31 57 ((sI s5 31 57) - 1)) 57 (Int.toNat ((sI s5 31 57) - 1)) ((sI s5 57 (Int.toNat ((sI s5 31 57) - 1))) + 1)) 31 58 3)))))))))) : am_Runs PP MLL (d + 1) m_M_goesUp 2 [some (qr (31, 12, 89)), some (qi p1), z2, some (qi v3)] [] σ (kI K) := am_wEF_ok (orc [(15, 58, 20, 14), (40, 58, 20, 14), (51, 57, 20, 14), (60, 57, 20, 14), (65, 56, 20, 14)]) 200 (⟨fun c2 => ⟨⟨rfl, (hF 48)⟩, ⟨rfl, ⟨⟨rfl, (h.1 c2).1.1, (h.1 c2).1.2⟩, ⟨rfl, ⟨rfl, ⟨fun c3 => ⟨fun _ => ((h.1 c2).2.1 c3), fun c => absurd c2 c⟩, fun c3 => ⟨rfl, ⟨⟨((h.1 c2).2.2 c3).1.1, ((h.1 c2).2.2 c3).1.2⟩, ⟨rfl, ⟨fun _ => ⟨⟨rfl, (hF 48)⟩, ⟨rfl, ⟨⟨rfl, ((h.1 c2).2.2 c3).2.1.1, ((h.1 c2).2.2 c3).2.1.2⟩, ⟨rfl, ⟨rfl, ((h.1 c2).2.2 c3).2.2⟩⟩⟩⟩⟩, fun c => absurd c2 c⟩⟩⟩⟩⟩⟩⟩⟩⟩⟩, fun c2 => ⟨rfl, ⟨rfl, ⟨rfl, (am_cI (h.2 c2) fun x4 s4 h4 => ⟨rfl, (am_cV h4.2 fun s5 h5 => ⟨rfl, ⟨fun c6 => ⟨fun c => absurd c c2, fun _ => (h5.2.1 c6)⟩, fun c6 => ⟨rfl, ⟨⟨(h5.2.2 c6).1.1, (h5.2.2 c6).1.2⟩, ⟨rfl, ⟨fun c => absurd c c2, fun _ => ⟨⟨rfl, (h5.1.1 47)⟩, ⟨rfl, ⟨⟨rfl, (h5.2.2 c6).2.1.1, (h5.2.2 c6).2.1.2.1⟩, ⟨⟨(h5.2.2 c6).2.1.2.2.1, (h5.2.2 c6).2.1.2.2.2⟩, ⟨⟨rfl, (h5.2.2 c6).2.1.1, (h5.2.2 c6).2.1.2.1⟩, ⟨⟨rfl, (h5.1.1 47)⟩, ⟨rfl, ⟨⟨rfl, (h5.2.2 c6).2.1.1, (h5.2.2 c6).2.1.2.1⟩, ⟨⟨rfl, (h5.1.1 46)⟩, ⟨rfl, ⟨⟨rfl, (h5.2.2 c6).2.1.1, (h5.2.2 c6).2.1.2.1⟩, ⟨fun c7 => ((h5.2.2 c6).2.2.1 c7), fun c7 => ⟨rfl, ((h5.2.2 c6).2.2.2 c7)⟩⟩⟩⟩⟩⟩⟩⟩⟩⟩⟩⟩⟩⟩⟩⟩⟩⟩⟩)⟩)⟩⟩⟩⟩)

theorem v_M_goes_0 (d : Nat) (p1 p2 : Int) (σ : am_S) (K : Int → am_S → Prop) (hF : MF σ) (hT : sI σ 31 26 = 0) (h :
  am_Runs PP MLL (d + 4) m_M_goes 2 [some (qr (31, 12, 89)), some (qi p1), some (qi p2), some (qi 0), none] [] σ (kI K)) : am_Runs PP MLL (d + 4) m_M_goes 0 [some (qr (31, 12, 89)), some (qi p1), some (qi p2), none, none] [] σ (kI K) := am_wEF_ok (orc []) 200 (h)

theorem v_M_goes_2 (d : Nat) (p1 p2 v3 : Int) (z4 : Option am_V) (σ : am_S) (K : Int → am_S → Prop) (hF : MF σ) (hT : sI σ 31 26 = 0) (h :
  ((v3 = 0 →
    (((sI σ 31 58) = 0 →
      ((p2 = 0 →
        (-2147483648 ≤ (sI σ 31 39) - 0 ∧ (sI σ 31 39) - 0 < 2147483648) ∧
        (-2147483648 ≤ (sI σ 31 37) + 0 ∧ (sI σ 31 37) + 0 < 2147483648) ∧
        (0 ≤ (sI σ 31 57) ∧ (sI σ 31 57) < 14) ∧
        am_Calls PP MLL (d + 4) m_M_manyAt [qr (31, 12, 89), qi (sI σ 31 57)] (putI (putI (putI σ 31 39 ((sI σ 31 39) - 0)) 31 37 ((sI σ 31 37) + 0)) 58 (Int.toNat (sI σ 31 57)) (sI σ 31 60)) (kI fun x4 s4 =>
          (MF s4 ∧ sI s4 31 26 = 0) ∧
          ((2 ≤ x4 →
            am_Calls PP MLL (d + 4) m_M_isTooMuch [qr (31, 12, 89), qi (sI s4 31 57), qi x4] s4 (kI fun x7 s7 =>
              (MF s7 ∧ sI s7 31 26 = 0) ∧
              ((x7 = 0 →
                am_Calls PP MLL (d + 4) m_M_groups [qr (31, 12, 89), qi (sI s7 31 57)] s7 (kV fun s10 =>
                  (MF s10 ∧ sI s10 31 26 = 0) ∧
                  am_Runs PP MLL (d + 4) m_M_goes 2 [some (qr (31, 12, 89)), some (qi p1), some (qi p2), some (qi v3), some (qi x4)] [] (putI s10 31 58 1) (kI K))) ∧
              (¬ (x7 = 0) →
                am_Calls PP MLL (d + 4) m_M_goesUp [qr (31, 12, 89), qi p1, qi 0] s7 (kI fun x11 s11 =>
                  (MF s11 ∧ sI s11 31 26 = 0) ∧
                  am_Runs PP MLL (d + 4) m_M_goes 2 [some (qr (31, 12, 89)), some (qi p1), some (qi p2), some (qi x11), some (qi x4)] [] s11 (kI K)))))) ∧
          (¬ (2 ≤ x4) →
            am_Calls PP MLL (d + 4) m_M_goesUp [qr (31, 12, 89), qi p1, qi 1] s4 (kI fun x12 s12 =>
              (MF s12 ∧ sI s12 31 26 = 0) ∧
              am_Runs PP MLL (d + 4) m_M_goes 2 [some (qr (31, 12, 89)), some (qi p1), some (qi p2), some (qi x12), some (qi x4)] [] s12 (kI K)))))) ∧
      (¬ (p2 = 0) →
        (((sI σ 31 39) = 0 →
          K 0 σ) ∧
        (¬ ((sI σ 31 39) = 0) →
          (-2147483648 ≤ (sI σ 31 39) - 1 ∧ (sI σ 31 39) - 1 < 2147483648) ∧
          (-2147483648 ≤ (sI σ 31 37) + 1 ∧ (sI σ 31 37) + 1 < 2147483648) ∧
          (0 ≤ (sI σ 31 57) ∧ (sI σ 31 57) < 14) ∧
          am_Calls PP MLL (d + 4) m_M_manyAt [qr (31, 12, 89), qi (sI σ 31 57)] (putI (putI (putI σ 31 39 ((sI σ 31 39) - 1)) 31 37 ((sI σ 31 37) + 1)) 58 (Int.toNat (sI σ 31 57)) (sI σ 31 60)) (kI fun x14 s14 =>
            (MF s14 ∧ sI s14 31 26 = 0) ∧
            ((2 ≤ x14 →
              am_Calls PP MLL (d + 4) m_M_isTooMuch [qr (31, 12, 89), qi (sI s14 31 57), qi x14] s14 (kI fun x17 s17 =>
                (MF s17 ∧ sI s17 31 26 = 0) ∧
                ((x17 = 0 →
                  am_Calls PP MLL (d + 4) m_M_groups [qr (31, 12, 89), qi (sI s17 31 57)] s17 (kV fun s20 =>
                    (MF s20 ∧ sI s20 31 26 = 0) ∧
                    am_Runs PP MLL (d + 4) m_M_goes 2 [some (qr (31, 12, 89)), some (qi p1), some (qi p2), some (qi v3), some (qi x14)] [] (putI s20 31 58 1) (kI K))) ∧
                (¬ (x17 = 0) →
                  am_Calls PP MLL (d + 4) m_M_goesUp [qr (31, 12, 89), qi p1, qi 0] s17 (kI fun x21 s21 =>
                    (MF s21 ∧ sI s21 31 26 = 0) ∧
                    am_Runs PP MLL (d + 4) m_M_goes 2 [some (qr (31, 12, 89)), some (qi p1), some (qi p2), some (qi x21), some (qi x14)] [] s21 (kI K)))))) ∧
            (¬ (2 ≤ x14) →
              am_Calls PP MLL (d + 4) m_M_goesUp [qr (31, 12, 89), qi p1, qi 1] s14 (kI fun x22 s22 =>
                (MF s22 ∧ sI s22 31 26 = 0) ∧
                am_Runs PP MLL (d + 4) m_M_goes 2 [some (qr (31, 12, 89)), some (qi p1), some (qi p2), some (qi x22), some (qi x14)] [] s22 (kI K)))))))))) ∧
    (¬ ((sI σ 31 58) = 0) →
      (((sI σ 31 58) = 2 →
        ((p2 = 0 →
          (-2147483648 ≤ (sI σ 31 39) - 0 ∧ (sI σ 31 39) - 0 < 2147483648) ∧
          (-2147483648 ≤ (sI σ 31 37) + 0 ∧ (sI σ 31 37) + 0 < 2147483648) ∧
          (((sI σ 31 58) = 1 →
            am_Calls PP MLL (d + 4) m_M_nextWeighing [qr (31, 12, 89), qi (sI σ 31 57)] (putI (putI σ 31 39 ((sI σ 31 39) - 0)) 31 37 ((sI σ 31 37) + 0)) (kI fun x26 s26 =>
              (MF s26 ∧ sI s26 31 26 = 0) ∧
              ((x26 = 0 →
                am_Calls PP MLL (d + 4) m_M_goesUp [qr (31, 12, 89), qi p1, qi 0] s26 (kI fun x28 s28 =>
                  (MF s28 ∧ sI s28 31 26 = 0) ∧
                  am_Runs PP MLL (d + 4) m_M_goes 2 [some (qr (31, 12, 89)), some (qi p1), some (qi p2), some (qi x28), z4] [] s28 (kI K))) ∧
              (¬ (x26 = 0) →
                am_Runs PP MLL (d + 4) m_M_goes 2 [some (qr (31, 12, 89)), some (qi p1), some (qi p2), some (qi v3), z4] [] (putI s26 31 58 2) (kI K))))) ∧
          (¬ ((sI σ 31 58) = 1) →
            (0 ≤ (sI σ 31 57) ∧ (sI σ 31 57) < 14) ∧
            (0 ≤ (sI σ 31 36) ∧ (sI σ 31 36) < 12) ∧
            ((((sI σ 41 (Int.toNat (sI σ 31 36))) = 6) → -2147483648 ≤ 3 * (sI σ 31 36)) ∧ (((sI σ 41 (Int.toNat (sI σ 31 36))) = 6) → 3 * (sI σ 31 36) < 2147483648) ∧ (((sI σ 41 (Int.toNat (sI σ 31 36))) = 6) → (sI σ 47 (Int.toNat (sI σ 31 36))) ≠ 0) ∧ (((sI σ 41 (Int.toNat (sI σ 31 36))) = 6) → -2147483648 ≤ (3 * (sI σ 31 36)) + (Int.tmod (sI σ 55 (Int.toNat (sI σ 31 57))) (sI σ 47 (Int.toNat (sI σ 31 36))))) ∧ (((sI σ 41 (Int.toNat (sI σ 31 36))) = 6) → (3 * (sI σ 31 36)) + (Int.tmod (sI σ 55 (Int.toNat (sI σ 31 57))) (sI σ 47 (Int.toNat (sI σ 31 36)))) < 2147483648) ∧ (((sI σ 41 (Int.toNat (sI σ 31 36))) = 6) → 0 ≤ ((3 * (sI σ 31 36)) + (Int.tmod (sI σ 55 (Int.toNat (sI σ 31 57))) (sI σ 47 (Int.toNat (sI σ 31 36)))))) ∧ (((sI σ 41 (Int.toNat (sI σ 31 36))) = 6) → ((3 * (sI σ 31 36)) + (Int.tmod (sI σ 55 (Int.toNat (sI σ 31 57))) (sI σ 47 (Int.toNat (sI σ 31 36))))) < 36)) ∧
            (0 ≤ (if (sI σ 41 (Int.toNat (sI σ 31 36))) = 6 then (sI σ 46 (Int.toNat ((3 * (sI σ 31 36)) + (Int.tmod (sI σ 55 (Int.toNat (sI σ 31 57))) (sI σ 47 (Int.toNat (sI σ 31 36)))))) : Int) else (sI σ 31 36)) ∧ (if (sI σ 41 (Int.toNat (sI σ 31 36))) = 6 then (sI σ 46 (Int.toNat ((3 * (sI σ 31 36)) + (Int.tmod (sI σ 55 (Int.toNat (sI σ 31 57))) (sI σ 47 (Int.toNat (sI σ 31 36)))))) : Int) else (sI σ 31 36)) < 12) ∧
            (-2147483648 ≤ -(sI (putI (putI (putI σ 31 39 ((sI σ 31 39) - 0)) 31 37 ((sI σ 31 37) + 0)) 56 (Int.toNat (sI σ 31 57)) (mo (sI σ 41 (Int.toNat (if (sI σ 41 (Int.toNat (sI σ 31 36))) = 6 then (sI σ 46 (Int.toNat ((3 * (sI σ 31 36)) + (Int.tmod (sI σ 55 (Int.toNat (sI σ 31 57))) (sI σ 47 (Int.toNat (sI σ 31 36)))))) : Int) else (sI σ 31 36)))))) 56 (Int.toNat (sI σ 31 57))) ∧ -(sI (putI (putI (putI σ 31 39 ((sI σ 31 39) - 0)) 31 37 ((sI σ 31 37) + 0)) 56 (Int.toNat (sI σ 31 57)) (mo (sI σ 41 (Int.toNat (if (sI σ 41 (Int.toNat (sI σ 31 36))) = 6 then (sI σ 46 (Int.toNat ((3 * (sI σ 31 36)) + (Int.tmod (sI σ 55 (Int.toNat (sI σ 31 57))) (sI σ 47 (Int.toNat (sI σ 31 36)))))) : Int) else (sI σ 31 36)))))) 56 (Int.toNat (sI σ 31 57))) < 2147483648) ∧
            am_Runs PP MLL (d + 4) m_M_goes 2 [some (qr (31, 12, 89)), some (qi p1), some (qi p2), some (qi v3), z4] [] (putI (putI (putI (putI (putI σ 31 39 ((sI σ 31 39) - 0)) 31 37 ((sI σ 31 37) + 0)) 56 (Int.toNat (sI σ 31 57)) (mo (sI σ 41 (Int.toNat (if (sI σ 41 (Int.toNat (sI σ 31 36))) = 6 then (sI σ 46 (Int.toNat ((3 * (sI σ 31 36)) + (Int.tmod (sI σ 55 (Int.toNat (sI σ 31 57))) (sI σ 47 (Int.toNat (sI σ 31 36)))))) : Int) else (sI σ 31 36)))))) 57 (Int.toNat (sI σ 31 57)) (-(sI (putI (putI (putI σ 31 39 ((sI σ 31 39) - 0)) 31 37 ((sI σ 31 37) + 0)) 56 (Int.toNat (sI σ 31 57)) (mo (sI σ 41 (Int.toNat (if (sI σ 41 (Int.toNat (sI σ 31 36))) = 6 then (sI σ 46 (Int.toNat ((3 * (sI σ 31 36)) + (Int.tmod (sI σ 55 (Int.toNat (sI σ 31 57))) (sI σ 47 (Int.toNat (sI σ 31 36)))))) : Int) else (sI σ 31 36)))))) 56 (Int.toNat (sI σ 31 57))))) 31 58 3) (kI K)))) ∧
        (¬ (p2 = 0) →
          (((sI σ 31 39) = 0 →
            K 0 σ) ∧
          (¬ ((sI σ 31 39) = 0) →
            (-2147483648 ≤ (sI σ 31 39) - 1 ∧ (sI σ 31 39) - 1 < 2147483648) ∧
            (-2147483648 ≤ (sI σ 31 37) + 1 ∧ (sI σ 31 37) + 1 < 2147483648) ∧
            (((sI σ 31 58) = 1 →
              am_Calls PP MLL (d + 4) m_M_nextWeighing [qr (31, 12, 89), qi (sI σ 31 57)] (putI (putI σ 31 39 ((sI σ 31 39) - 1)) 31 37 ((sI σ 31 37) + 1)) (kI fun x33 s33 =>
                (MF s33 ∧ sI s33 31 26 = 0) ∧
                ((x33 = 0 →
                  am_Calls PP MLL (d + 4) m_M_goesUp [qr (31, 12, 89), qi p1, qi 0] s33 (kI fun x35 s35 =>
                    (MF s35 ∧ sI s35 31 26 = 0) ∧
                    am_Runs PP MLL (d + 4) m_M_goes 2 [some (qr (31, 12, 89)), some (qi p1), some (qi p2), some (qi x35), z4] [] s35 (kI K))) ∧
                (¬ (x33 = 0) →
                  am_Runs PP MLL (d + 4) m_M_goes 2 [some (qr (31, 12, 89)), some (qi p1), some (qi p2), some (qi v3), z4] [] (putI s33 31 58 2) (kI K))))) ∧
            (¬ ((sI σ 31 58) = 1) →
              (0 ≤ (sI σ 31 57) ∧ (sI σ 31 57) < 14) ∧
              (0 ≤ (sI σ 31 36) ∧ (sI σ 31 36) < 12) ∧
              ((((sI σ 41 (Int.toNat (sI σ 31 36))) = 6) → -2147483648 ≤ 3 * (sI σ 31 36)) ∧ (((sI σ 41 (Int.toNat (sI σ 31 36))) = 6) → 3 * (sI σ 31 36) < 2147483648) ∧ (((sI σ 41 (Int.toNat (sI σ 31 36))) = 6) → (sI σ 47 (Int.toNat (sI σ 31 36))) ≠ 0) ∧ (((sI σ 41 (Int.toNat (sI σ 31 36))) = 6) → -2147483648 ≤ (3 * (sI σ 31 36)) + (Int.tmod (sI σ 55 (Int.toNat (sI σ 31 57))) (sI σ 47 (Int.toNat (sI σ 31 36))))) ∧ (((sI σ 41 (Int.toNat (sI σ 31 36))) = 6) → (3 * (sI σ 31 36)) + (Int.tmod (sI σ 55 (Int.toNat (sI σ 31 57))) (sI σ 47 (Int.toNat (sI σ 31 36)))) < 2147483648) ∧ (((sI σ 41 (Int.toNat (sI σ 31 36))) = 6) → 0 ≤ ((3 * (sI σ 31 36)) + (Int.tmod (sI σ 55 (Int.toNat (sI σ 31 57))) (sI σ 47 (Int.toNat (sI σ 31 36)))))) ∧ (((sI σ 41 (Int.toNat (sI σ 31 36))) = 6) → ((3 * (sI σ 31 36)) + (Int.tmod (sI σ 55 (Int.toNat (sI σ 31 57))) (sI σ 47 (Int.toNat (sI σ 31 36))))) < 36)) ∧
              (0 ≤ (if (sI σ 41 (Int.toNat (sI σ 31 36))) = 6 then (sI σ 46 (Int.toNat ((3 * (sI σ 31 36)) + (Int.tmod (sI σ 55 (Int.toNat (sI σ 31 57))) (sI σ 47 (Int.toNat (sI σ 31 36)))))) : Int) else (sI σ 31 36)) ∧ (if (sI σ 41 (Int.toNat (sI σ 31 36))) = 6 then (sI σ 46 (Int.toNat ((3 * (sI σ 31 36)) + (Int.tmod (sI σ 55 (Int.toNat (sI σ 31 57))) (sI σ 47 (Int.toNat (sI σ 31 36)))))) : Int) else (sI σ 31 36)) < 12) ∧
              (-2147483648 ≤ -(sI (putI (putI (putI σ 31 39 ((sI σ 31 39) - 1)) 31 37 ((sI σ 31 37) + 1)) 56 (Int.toNat (sI σ 31 57)) (mo (sI σ 41 (Int.toNat (if (sI σ 41 (Int.toNat (sI σ 31 36))) = 6 then (sI σ 46 (Int.toNat ((3 * (sI σ 31 36)) + (Int.tmod (sI σ 55 (Int.toNat (sI σ 31 57))) (sI σ 47 (Int.toNat (sI σ 31 36)))))) : Int) else (sI σ 31 36)))))) 56 (Int.toNat (sI σ 31 57))) ∧ -(sI (putI (putI (putI σ 31 39 ((sI σ 31 39) - 1)) 31 37 ((sI σ 31 37) + 1)) 56 (Int.toNat (sI σ 31 57)) (mo (sI σ 41 (Int.toNat (if (sI σ 41 (Int.toNat (sI σ 31 36))) = 6 then (sI σ 46 (Int.toNat ((3 * (sI σ 31 36)) + (Int.tmod (sI σ 55 (Int.toNat (sI σ 31 57))) (sI σ 47 (Int.toNat (sI σ 31 36)))))) : Int) else (sI σ 31 36)))))) 56 (Int.toNat (sI σ 31 57))) < 2147483648) ∧
              am_Runs PP MLL (d + 4) m_M_goes 2 [some (qr (31, 12, 89)), some (qi p1), some (qi p2), some (qi v3), z4] [] (putI (putI (putI (putI (putI σ 31 39 ((sI σ 31 39) - 1)) 31 37 ((sI σ 31 37) + 1)) 56 (Int.toNat (sI σ 31 57)) (mo (sI σ 41 (Int.toNat (if (sI σ 41 (Int.toNat (sI σ 31 36))) = 6 then (sI σ 46 (Int.toNat ((3 * (sI σ 31 36)) + (Int.tmod (sI σ 55 (Int.toNat (sI σ 31 57))) (sI σ 47 (Int.toNat (sI σ 31 36)))))) : Int) else (sI σ 31 36)))))) 57 (Int.toNat (sI σ 31 57)) (-(sI (putI (putI (putI σ 31 39 ((sI σ 31 39) - 1)) 31 37 ((sI σ 31 37) + 1)) 56 (Int.toNat (sI σ 31 57)) (mo (sI σ 41 (Int.toNat (if (sI σ 41 (Int.toNat (sI σ 31 36))) = 6 then (sI σ 46 (Int.toNat ((3 * (sI σ 31 36)) + (Int.tmod (sI σ 55 (Int.toNat (sI σ 31 57))) (sI σ 47 (Int.toNat (sI σ 31 36)))))) : Int) else (sI σ 31 36)))))) 56 (Int.toNat (sI σ 31 57))))) 31 58 3) (kI K)))))))) ∧
      (¬ ((sI σ 31 58) = 2) →
        (((sI σ 31 58) = 1 →
          am_Calls PP MLL (d + 4) m_M_nextWeighing [qr (31, 12, 89), qi (sI σ 31 57)] σ (kI fun x39 s39 =>
            (MF s39 ∧ sI s39 31 26 = 0) ∧
            ((x39 = 0 →
              am_Calls PP MLL (d + 4) m_M_goesUp [qr (31, 12, 89), qi p1, qi 0] s39 (kI fun x41 s41 =>
                (MF s41 ∧ sI s41 31 26 = 0) ∧
                am_Runs PP MLL (d + 4) m_M_goes 2 [some (qr (31, 12, 89)), some (qi p1), some (qi p2), some (qi x41), z4] [] s41 (kI K))) ∧
            (¬ (x39 = 0) →
              am_Runs PP MLL (d + 4) m_M_goes 2 [some (qr (31, 12, 89)), some (qi p1), some (qi p2), some (qi v3), z4] [] (putI s39 31 58 2) (kI K))))) ∧
        (¬ ((sI σ 31 58) = 1) →
          (-2147483648 ≤ (sI σ 31 57) + 1 ∧ (sI σ 31 57) + 1 < 2147483648 ∧ 0 ≤ (sI σ 31 57) ∧ (sI σ 31 57) < 14) ∧
          am_Calls PP MLL (d + 4) m_M_makeCase [qr (31, 12, 89), qi (sI σ 31 57), qi ((sI σ 31 57) + 1), qi (sI σ 57 (Int.toNat (sI σ 31 57)))] σ (kV fun s42 =>
            (MF s42 ∧ sI s42 31 26 = 0) ∧
            (-2147483648 ≤ (sI s42 31 57) + 1 ∧ (sI s42 31 57) + 1 < 2147483648) ∧
            am_Runs PP MLL (d + 4) m_M_goes 2 [some (qr (31, 12, 89)), some (qi p1), some (qi p2), some (qi v3), z4] [] (putI (putI s42 31 57 ((sI s42 31 57) + 1)) 31 58 0) (kI K))))))))) ∧
  (¬ (v3 = 0) →
    K v3 σ))) : am_Runs PP MLL (d + 4) m_M_goes 2 [some (qr (31, 12, 89)), some (qi p1), some (qi p2), some (qi v3), z4] [] σ (kI K) := am_wEF_ok (orc [(42, 58, 20, 14), (106, 56, 20, 14), (111, 41, 20, 12), (114, 55, 20, 14), (123, 57, 20, 14), (127, 56, 20, 14), (145, 57, 20, 14)]) 200 (⟨fun c1 => ⟨rfl, ⟨fun c2 => ⟨fun c3 => ⟨rfl, ⟨fun _ => ⟨⟨(((h.1 c1).1 c2).1 c3).1.1, (((h.1 c1).1 c2).1 c3).1.2⟩, ⟨rfl, ⟨rfl, ⟨fun _ => ⟨⟨(((h.1 c1).1 c2).1 c3).2.1.1, (((h.1 c1).1 c2).1 c3).2.1.2⟩, ⟨rfl, ⟨rfl, ⟨fun _ => ⟨⟨rfl, (hF 48)⟩, ⟨rfl, ⟨rfl, ⟨⟨rfl, (((h.1 c1).1 c2).1 c3).2.2.1.1, (((h.1 c1).1 c2).1 c3).2.2.1.2⟩, ⟨rfl, ⟨rfl, (am_cI (((h.1 c1).1 c2).1 c3).2.2.2 fun x4 s4 h4 => ⟨fun c6 => ⟨rfl, ⟨rfl, (am_cI (h4.2.1 c6) fun x7 s7 h7 => ⟨fun c9 => ⟨rfl, ⟨rfl, (am_cV (h7.2.1 c9) fun s10 h10 => ⟨rfl, h10.2⟩)⟩⟩, fun c9 => ⟨rfl, (am_cI (h7.2.2 c9) fun x11 s11 h11 => h11.2)⟩⟩)⟩⟩, fun c6 => ⟨rfl, (am_cI (h4.2.2 c6) fun x12 s12 h12 => h12.2)⟩⟩)⟩⟩⟩⟩⟩⟩, fun c => absurd c2 c⟩⟩⟩⟩, fun c => absurd c3 c⟩⟩⟩⟩, fun c => absurd c3 c⟩⟩, fun c3 => ⟨rfl, ⟨fun c13 => ((((h.1 c1).1 c2).2 c3).1 c13), fun c13 => ⟨rfl, ⟨fun c => absurd c c3, fun _ => ⟨⟨((((h.1 c1).1 c2).2 c3).2 c13).1.1, ((((h.1 c1).1 c2).2 c3).2 c13).1.2⟩, ⟨rfl, ⟨rfl, ⟨fun c => absurd c c3, fun _ => ⟨⟨((((h.1 c1).1 c2).2 c3).2 c13).2.1.1, ((((h.1 c1).1 c2).2 c3).2 c13).2.1.2⟩, ⟨rfl, ⟨rfl, ⟨fun _ => ⟨⟨rfl, (hF 48)⟩, ⟨rfl, ⟨rfl, ⟨⟨rfl, ((((h.1 c1).1 c2).2 c3).2 c13).2.2.1.1, ((((h.1 c1).1 c2).2 c3).2 c13).2.2.1.2⟩, ⟨rfl, ⟨rfl, (am_cI ((((h.1 c1).1 c2).2 c3).2 c13).2.2.2 fun x14 s14 h14 => ⟨fun c16 => ⟨rfl, ⟨rfl, (am_cI (h14.2.1 c16) fun x17 s17 h17 => ⟨fun c19 => ⟨rfl, ⟨rfl, (am_cV (h17.2.1 c19) fun s20 h20 => ⟨rfl, h20.2⟩)⟩⟩, fun c19 => ⟨rfl, (am_cI (h17.2.2 c19) fun x21 s21 h21 => h21.2)⟩⟩)⟩⟩, fun c16 => ⟨rfl, (am_cI (h14.2.2 c16) fun x22 s22 h22 => h22.2)⟩⟩)⟩⟩⟩⟩⟩⟩, fun c => absurd c2 c⟩⟩⟩⟩⟩⟩⟩⟩⟩⟩⟩⟩⟩, fun c2 => ⟨rfl, ⟨fun c23 => ⟨fun c24 => ⟨rfl, ⟨fun _ => ⟨⟨((((h.1 c1).2 c2).1 c23).1 c24).1.1, ((((h.1 c1).2 c2).1 c23).1 c24).1.2⟩, ⟨rfl, ⟨rfl, ⟨fun _ => ⟨⟨((((h.1 c1).2 c2).1 c23).1 c24).2.1.1, ((((h.1 c1).2 c2).1 c23).1 c24).2.1.2⟩, ⟨rfl, ⟨rfl, ⟨fun c => absurd c c2, fun _ => ⟨rfl, ⟨fun c25 => ⟨rfl, ⟨rfl, (am_cI (((((h.1 c1).2 c2).1 c23).1 c24).2.2.1 c25) fun x26 s26 h26 => ⟨fun c27 => ⟨rfl, (am_cI (h26.2.1 c27) fun x28 s28 h28 => h28.2)⟩, fun c27 => ⟨rfl, (h26.2.2 c27)⟩⟩)⟩⟩, fun c25 => ⟨rfl, ⟨fun _ => ⟨⟨rfl, (hF 46)⟩, ⟨rfl, ⟨⟨rfl, (hF 17)⟩, ⟨⟨rfl, (hF 45)⟩, ⟨rfl, ⟨⟨rfl, (((((h.1 c1).2 c2).1 c23).1 c24).2.2.2 c25).1.1, (((((h.1 c1).2 c2).1 c23).1 c24).2.2.2 c25).1.2⟩, ⟨rfl, am_wEC_ok (orc [(1, 41, 20, 12), (8, 46, 20, 36), (15, 47, 20, 12)]) [25] 200 (⟨⟨rfl, (hF 17)⟩, ⟨rfl, ⟨⟨rfl, (((((h.1 c1).2 c2).1 c23).1 c24).2.2.2 c25).2.1.1, (((((h.1 c1).2 c2).1 c23).1 c24).2.2.2 c25).2.1.2⟩, am_use (fun H30 => ⟨fun c29 => ⟨⟨rfl, (hF 22)⟩, ⟨rfl, ⟨⟨((((((h.1 c1).2 c2).1 c23).1 c24).2.2.2 c25).2.2.1.1 c29), ((((((h.1 c1).2 c2).1 c23).1 c24).2.2.2 c25).2.2.1.2.1 c29)⟩, ⟨⟨rfl, (hF 23)⟩, ⟨rfl, ⟨⟨rfl, (((((h.1 c1).2 c2).1 c23).1 c24).2.2.2 c25).2.1.1, (((((h.1 c1).2 c2).1 c23).1 c24).2.2.2 c25).2.1.2⟩, ⟨((((((h.1 c1).2 c2).1 c23).1 c24).2.2.2 c25).2.2.1.2.2.1 c29), ⟨⟨((((((h.1 c1).2 c2).1 c23).1 c24).2.2.2 c25).2.2.1.2.2.2.1 c29), ((((((h.1 c1).2 c2).1 c23).1 c24).2.2.2 c25).2.2.1.2.2.2.2.1 c29)⟩, ⟨⟨rfl, ((((((h.1 c1).2 c2).1 c23).1 c24).2.2.2 c25).2.2.1.2.2.2.2.2.1 c29), ((((((h.1 c1).2 c2).1 c23).1 c24).2.2.2 c25).2.2.1.2.2.2.2.2.2 c29)⟩, (Eq.mp (congrArg (fun z => am_Runs _ _ _ _ _ _ (qi z :: _) _ _) (if_pos c29 : (if (sI σ 41 (Int.toNat (sI σ 31 36))) = 6 then (sI σ 46 (Int.toNat ((3 * (sI σ 31 36)) + (Int.tmod (sI σ 55 (Int.toNat (sI σ 31 57))) (sI σ 47 (Int.toNat (sI σ 31 36)))))) : Int) else sI σ 31 36) = sI σ 46 (Int.toNat ((3 * (sI σ 31 36)) + (Int.tmod (sI σ 55 (Int.toNat (sI σ 31 57))) (sI σ 47 (Int.toNat (sI σ 31 36)))))))) H30)⟩⟩⟩⟩⟩⟩⟩⟩⟩, fun c29 => ⟨rfl, (Eq.mp (congrArg (fun z => am_Runs _ _ _ _ _ _ (qi z :: _) _ _) (if_neg c29 : (if (sI σ 41 (Int.toNat (sI σ 31 36))) = 6 then (sI σ 46 (Int.toNat ((3 * (sI σ 31 36)) + (Int.tmod (sI σ 55 (Int.toNat (sI σ 31 57))) (sI σ 47 (Int.toNat (sI σ 31 36)))))) : Int) else sI σ 31 36) = sI σ 31 36)) H30)⟩⟩) (am_wEC_ok (orc []) [25] 200 (⟨⟨rfl, (((((h.1 c1).2 c2).1 c23).1 c24).2.2.2 c25).2.2.2.1.1, (((((h.1 c1).2 c2).1 c23).1 c24).2.2.2 c25).2.2.2.1.2⟩, ⟨rfl, c_M_mostOf _ hF hT (⟨⟨rfl, (((((h.1 c1).2 c2).1 c23).1 c24).2.2.2 c25).1.1, (((((h.1 c1).2 c2).1 c23).1 c24).2.2.2 c25).1.2⟩, ⟨⟨rfl, (hF 47)⟩, ⟨rfl, ⟨⟨rfl, (hF 46)⟩, ⟨rfl, ⟨⟨rfl, (((((h.1 c1).2 c2).1 c23).1 c24).2.2.2 c25).1.1, (((((h.1 c1).2 c2).1 c23).1 c24).2.2.2 c25).1.2⟩, ⟨⟨(((((h.1 c1).2 c2).1 c23).1 c24).2.2.2 c25).2.2.2.2.1.1, (((((h.1 c1).2 c2).1 c23).1 c24).2.2.2 c25).2.2.2.2.1.2⟩, ⟨⟨rfl, (((((h.1 c1).2 c2).1 c23).1 c24).2.2.2 c25).1.1, (((((h.1 c1).2 c2).1 c23).1 c24).2.2.2 c25).1.2⟩, ⟨rfl, (((((h.1 c1).2 c2).1 c23).1 c24).2.2.2 c25).2.2.2.2.2⟩⟩⟩⟩⟩⟩⟩⟩⟩)⟩⟩))⟩⟩⟩)⟩⟩⟩⟩⟩⟩⟩, fun c => absurd c23 c⟩⟩⟩⟩⟩⟩⟩⟩, fun c => absurd c24 c⟩⟩⟩⟩, fun c => absurd c24 c⟩⟩, fun c24 => ⟨rfl, ⟨fun c31 => (((((h.1 c1).2 c2).1 c23).2 c24).1 c31), fun c31 => ⟨rfl, ⟨fun c => absurd c c24, fun _ => ⟨⟨(((((h.1 c1).2 c2).1 c23).2 c24).2 c31).1.1, (((((h.1 c1).2 c2).1 c23).2 c24).2 c31).1.2⟩, ⟨rfl, ⟨rfl, ⟨fun c => absurd c c24, fun _ => ⟨⟨(((((h.1 c1).2 c2).1 c23).2 c24).2 c31).2.1.1, (((((h.1 c1).2 c2).1 c23).2 c24).2 c31).2.1.2⟩, ⟨rfl, ⟨rfl, ⟨fun c => absurd c c2, fun _ => ⟨rfl, ⟨fun c32 => ⟨rfl, ⟨rfl, (am_cI ((((((h.1 c1).2 c2).1 c23).2 c24).2 c31).2.2.1 c32) fun x33 s33 h33 => ⟨fun c34 => ⟨rfl, (am_cI (h33.2.1 c34) fun x35 s35 h35 => h35.2)⟩, fun c34 => ⟨rfl, (h33.2.2 c34)⟩⟩)⟩⟩, fun c32 => ⟨rfl, ⟨fun _ => ⟨⟨rfl, (hF 46)⟩, ⟨rfl, ⟨⟨rfl, (hF 17)⟩, ⟨⟨rfl, (hF 45)⟩, ⟨rfl, ⟨⟨rfl, ((((((h.1 c1).2 c2).1 c23).2 c24).2 c31).2.2.2 c32).1.1, ((((((h.1 c1).2 c2).1 c23).2 c24).2 c31).2.2.2 c32).1.2⟩, ⟨rfl, am_wEC_ok (orc [(1, 41, 20, 12), (8, 46, 20, 36), (15, 47, 20, 12)]) [25] 200 (⟨⟨rfl, (hF 17)⟩, ⟨rfl, ⟨⟨rfl, ((((((h.1 c1).2 c2).1 c23).2 c24).2 c31).2.2.2 c32).2.1.1, ((((((h.1 c1).2 c2).1 c23).2 c24).2 c31).2.2.2 c32).2.1.2⟩, am_use (fun H37 => ⟨fun c36 => ⟨⟨rfl, (hF 22)⟩, ⟨rfl, ⟨⟨(((((((h.1 c1).2 c2).1 c23).2 c24).2 c31).2.2.2 c32).2.2.1.1 c36), (((((((h.1 c1).2 c2).1 c23).2 c24).2 c31).2.2.2 c32).2.2.1.2.1 c36)⟩, ⟨⟨rfl, (hF 23)⟩, ⟨rfl, ⟨⟨rfl, ((((((h.1 c1).2 c2).1 c23).2 c24).2 c31).2.2.2 c32).2.1.1, ((((((h.1 c1).2 c2).1 c23).2 c24).2 c31).2.2.2 c32).2.1.2⟩, ⟨(((((((h.1 c1).2 c2).1 c23).2 c24).2 c31).2.2.2 c32).2.2.1.2.2.1 c36), ⟨⟨(((((((h.1 c1).2 c2).1 c23).2 c24).2 c31).2.2.2 c32).2.2.1.2.2.2.1 c36), (((((((h.1 c1).2 c2).1 c23).2 c24).2 c31).2.2.2 c32).2.2.1.2.2.2.2.1 c36)⟩, ⟨⟨rfl, (((((((h.1 c1).2 c2).1 c23).2 c24).2 c31).2.2.2 c32).2.2.1.2.2.2.2.2.1 c36), (((((((h.1 c1).2 c2).1 c23).2 c24).2 c31).2.2.2 c32).2.2.1.2.2.2.2.2.2 c36)⟩, (Eq.mp (congrArg (fun z => am_Runs _ _ _ _ _ _ (qi z :: _) _ _) (if_pos c36 : (if (sI σ 41 (Int.toNat (sI σ 31 36))) = 6 then (sI σ 46 (Int.toNat ((3 * (sI σ 31 36)) + (Int.tmod (sI σ 55 (Int.toNat (sI σ 31 57))) (sI σ 47 (Int.toNat (sI σ 31 36)))))) : Int) else sI σ 31 36) = sI σ 46 (Int.toNat ((3 * (sI σ 31 36)) + (Int.tmod (sI σ 55 (Int.toNat (sI σ 31 57))) (sI σ 47 (Int.toNat (sI σ 31 36)))))))) H37)⟩⟩⟩⟩⟩⟩⟩⟩⟩, fun c36 => ⟨rfl, (Eq.mp (congrArg (fun z => am_Runs _ _ _ _ _ _ (qi z :: _) _ _) (if_neg c36 : (if (sI σ 41 (Int.toNat (sI σ 31 36))) = 6 then (sI σ 46 (Int.toNat ((3 * (sI σ 31 36)) + (Int.tmod (sI σ 55 (Int.toNat (sI σ 31 57))) (sI σ 47 (Int.toNat (sI σ 31 36)))))) : Int) else sI σ 31 36) = sI σ 31 36)) H37)⟩⟩) (am_wEC_ok (orc []) [25] 200 (⟨⟨rfl, ((((((h.1 c1).2 c2).1 c23).2 c24).2 c31).2.2.2 c32).2.2.2.1.1, ((((((h.1 c1).2 c2).1 c23).2 c24).2 c31).2.2.2 c32).2.2.2.1.2⟩, ⟨rfl, c_M_mostOf _ hF hT (⟨⟨rfl, ((((((h.1 c1).2 c2).1 c23).2 c24).2 c31).2.2.2 c32).1.1, ((((((h.1 c1).2 c2).1 c23).2 c24).2 c31).2.2.2 c32).1.2⟩, ⟨⟨rfl, (hF 47)⟩, ⟨rfl, ⟨⟨rfl, (hF 46)⟩, ⟨rfl, ⟨⟨rfl, ((((((h.1 c1).2 c2).1 c23).2 c24).2 c31).2.2.2 c32).1.1, ((((((h.1 c1).2 c2).1 c23).2 c24).2 c31).2.2.2 c32).1.2⟩, ⟨⟨((((((h.1 c1).2 c2).1 c23).2 c24).2 c31).2.2.2 c32).2.2.2.2.1.1, ((((((h.1 c1).2 c2).1 c23).2 c24).2 c31).2.2.2 c32).2.2.2.2.1.2⟩, ⟨⟨rfl, ((((((h.1 c1).2 c2).1 c23).2 c24).2 c31).2.2.2 c32).1.1, ((((((h.1 c1).2 c2).1 c23).2 c24).2 c31).2.2.2 c32).1.2⟩, ⟨rfl, ((((((h.1 c1).2 c2).1 c23).2 c24).2 c31).2.2.2 c32).2.2.2.2.2⟩⟩⟩⟩⟩⟩⟩⟩⟩)⟩⟩))⟩⟩⟩)⟩⟩⟩⟩⟩⟩⟩, fun c => absurd c23 c⟩⟩⟩⟩⟩⟩⟩⟩⟩⟩⟩⟩⟩⟩⟩⟩⟩, fun c23 => ⟨rfl, ⟨fun c => absurd c c2, fun _ => ⟨rfl, ⟨fun c38 => ⟨rfl, ⟨rfl, (am_cI ((((h.1 c1).2 c2).2 c23).1 c38) fun x39 s39 h39 => ⟨fun c40 => ⟨rfl, (am_cI (h39.2.1 c40) fun x41 s41 h41 => h41.2)⟩, fun c40 => ⟨rfl, (h39.2.2 c40)⟩⟩)⟩⟩, fun c38 => ⟨rfl, ⟨fun c => absurd c c23, fun _ => ⟨rfl, ⟨rfl, ⟨⟨((((h.1 c1).2 c2).2 c23).2 c38).1.1, ((((h.1 c1).2 c2).2 c23).2 c38).1.2.1⟩, ⟨⟨rfl, (hF 47)⟩, ⟨rfl, ⟨⟨rfl, ((((h.1 c1).2 c2).2 c23).2 c38).1.2.2.1, ((((h.1 c1).2 c2).2 c23).2 c38).1.2.2.2⟩, ⟨rfl, (am_cV ((((h.1 c1).2 c2).2 c23).2 c38).2 fun s42 h42 => ⟨rfl, ⟨⟨h42.2.1.1, h42.2.1.2⟩, ⟨rfl, ⟨rfl, h42.2.2⟩⟩⟩⟩)⟩⟩⟩⟩⟩⟩⟩⟩⟩⟩⟩⟩⟩⟩⟩⟩⟩, fun c1 => (h.2 c1)⟩)

def GO (d : Nat) (p1 p2 x : Int) (σ : am_S) (K : Int → am_S → Prop) : Prop := ∀ z4, am_Runs PP MLL (d + 4) m_M_goes 2 [some (qr (31, 12, 89)), some (qi p1), some (qi p2), some (qi x), z4] [] σ (kI K)
def UP (d : Nat) (p1 p2 b : Int) (σ : am_S) (K : Int → am_S → Prop) : Prop := ∀ z2, am_Runs PP MLL (d + 3) m_M_goesUp 2 [some (qr (31, 12, 89)), some (qi p1), z2, some (qi b)] [] σ (kI fun x s => (MF s ∧ sI s 31 26 = 0) ∧ GO d p1 p2 x s K)
theorem up_c {d : Nat} {p1 p2 b : Int} {σ : am_S} {K : Int → am_S → Prop} (hF : MF σ) (hT : sI σ 31 26 = 0) (h : UP d p1 p2 b σ K) (z : Option am_V) : am_Calls PP MLL (d + 4) m_M_goesUp [qr (31, 12, 89), qi p1, qi b] σ (kI fun x s => (MF s ∧ sI s 31 26 = 0) ∧ am_Runs PP MLL (d + 4) m_M_goes 2 [some (qr (31, 12, 89)), some (qi p1), some (qi p2), some (qi x), z] [] s (kI K)) := by
  have c : am_Calls PP MLL (d + 4) m_M_goesUp [qr (31, 12, 89), qi p1, qi b] σ (kI fun x s => (MF s ∧ sI s 31 26 = 0) ∧ GO d p1 p2 x s K) := v_M_goesUp_0 (d + 2) p1 b σ _ hF hT (h _)
  exact am_cI c (fun x s q => ⟨q.1, q.2 z⟩)
/-- counted and marked -/
def mk0 (σ : am_S) (p2 : Int) (L : Nat) : am_S := putI (putI (putI σ 31 39 ((sI σ 31 39) - p2)) 31 37 ((sI σ 31 37) + p2)) 58 L (sI σ 31 60)
/-- groups made -/
def GRP (σ s : am_S) (L : Nat) (X : sX) (c : Nat → Int) : Prop := s.2 = σ.2 ∧ (∀ x, x ≠ 31 → x ≠ 59 → x ≠ 60 → x ≠ 61 → x ≠ 62 → x ≠ 63 → sI s x = sI σ x) ∧ (∀ j, j ≠ 58 → sI s 31 j = sI σ 31 j) ∧ sI s 31 58 = 1 ∧ (∀ j, j ≠ L → sI s 59 j = sI σ 59 j ∧ sI s 60 j = sI σ 60 j ∧ sI s 61 j = sI σ 61 j) ∧ (∀ j, j < 12 * L → sI s 62 j = sI σ 62 j ∧ sI s 63 j = sI σ 63 j) ∧ RG s L X c ∧ sI s 59 L = 0 ∧ sI s 60 L = -1
theorem m_groups (d : Nat) {L : Nat} {X : sX} {c : Nat → Int} {σ : am_S} {K : am_S → Prop} (hF : MF σ) (hX : XV X) (hL : L < 14) (h2 : sI σ 31 2 = xN X) (hM : sI σ 31 40 = xM X) (hc : LC σ L X c) (hS : SWP σ X) (h : ∀ t, t.2 = σ.2 → sI t 31 = sI σ 31 → GRP σ (putI t 31 58 1) L X c → K t) : am_Calls PP MLL (d + 2) m_M_groups [qr (31, 12, 89), qi (L : Int)] σ (kV K) := by
  refine c_M_groups d hF hX hL h2 hM hc hS ?_
  intro s hg
  obtain ⟨g1, g2, g3, g4, g5⟩ := hg
  have e31 : sI s 31 = sI σ 31 := g2 31 (by decide) (by decide)
  obtain ⟨T, eT⟩ : ∃ T, T = putI (putI (putI s 61 L (nC X c : Int)) 59 L 0) 60 L (-1) := ⟨_, rfl⟩
  rw [← eT]
  have T2 : T.2 = σ.2 := by rw [eT]; exact g1
  have To : ∀ x, x ≠ 59 → x ≠ 60 → x ≠ 61 → sI T x = sI s x := fun x x1 x2 x3 => by rw [eT, put_ne x2, put_ne x1, put_ne x3]
  have T31 : sI T 31 = sI σ 31 := by rw [To 31 (by decide) (by decide) (by decide), e31]
  have T61 : ∀ j, sI T 61 j = if j = L then (nC X c : Int) else sI σ 61 j := fun j => by rw [eT, put_ne (by decide), put_ne (by decide), put_at, g2 61 (by decide) (by decide)]
  have T59 : ∀ j, sI T 59 j = if j = L then 0 else sI σ 59 j := fun j => by rw [eT, put_ne (by decide), put_at, put_ne (by decide), g2 59 (by decide) (by decide)]
  have T60 : ∀ j, sI T 60 j = if j = L then -1 else sI σ 60 j := fun j => by rw [eT, put_at, put_ne (by decide), put_ne (by decide), g2 60 (by decide) (by decide)]
  have T62 : sI T 62 = sI s 62 := To 62 (by decide) (by decide) (by decide)
  have T63 : sI T 63 = sI s 63 := To 63 (by decide) (by decide) (by decide)
  refine h T T2 T31 ⟨T2, fun x x1 x2 x3 x4 x5 x6 => by rw [put_ne x1, To x x2 x3 x4, g2 x x5 x6], fun j hj => by rw [put_at, if_neg hj, T31], by rw [put_at, if_pos rfl], fun j hj => ?_, fun j hj => ?_, ⟨?_, fun q hq => ?_, fun g hgn => ?_⟩, ?_, ?_⟩
  · rw [put_ne (by decide), put_ne (by decide), put_ne (by decide), T59, T60, T61, if_neg hj, if_neg hj, if_neg hj]
    exact ⟨rfl, rfl, rfl⟩
  · rw [put_ne (by decide), put_ne (by decide), T62, T63]
    exact g3 j (Or.inl hj)
  · rw [put_ne (by decide), T61, if_pos rfl]
  · rw [put_ne (by decide), T62]
    exact g4 q hq
  · show sI (putI T 31 58 1) 63 (12 * L + g) = zC X c g
    rw [put_ne (by decide), T63]
    exact g5 g hgn
  · rw [put_ne (by decide), T59, if_pos rfl]
  · rw [put_ne (by decide), T60, if_pos rfl]
/-- asking -/
theorem mg0 (d : Nat) {L nn ob n : Nat} {X : sX} {c : Nat → Int} {tr : Nat → Nat} {p1 p2 : Int} {σ : am_S} {K : Int → am_S → Prop} (hF : MF σ) (hX : MX σ X ob n tr) (h58 : sI σ 31 58 = 0) (h57 : sI σ 31 57 = L) (hL : L < 14) (hc : LC σ L X c) (hN : sI σ 54 L = nn) (hnn : nn ≤ 6) (hp : p2 = 0 ∨ (p2 = 1 ∧ ¬ sI σ 31 39 = 0)) (h39 : 0 ≤ sI σ 31 39 ∧ sI σ 31 39 ≤ 1000000) (h37 : 0 ≤ sI σ 31 37 ∧ sI σ 31 37 ≤ 1000000)
    (hY : mn X c < 2 → UP d p1 p2 1 (mk0 σ p2 L) K) (hB : ¬ mn X c < 2 → big X nn c → UP d p1 p2 0 (mk0 σ p2 L) K) (hG : ¬ mn X c < 2 → ¬ big X nn c → ∀ s, GRP (mk0 σ p2 L) s L X c → GO d p1 p2 0 s K) : GO d p1 p2 0 σ K := by
  intro z4
  have hX' := hX
  obtain ⟨xv, x2, x40, xs, xt, xd, x36, xo, xn, xq, xk, xl, xO', x26⟩ := hX
  obtain ⟨B, eB⟩ : ∃ B, B = mk0 σ p2 L := ⟨_, rfl⟩
  have B2 : B.2 = σ.2 := by rw [eB]; rfl
  have Bo : ∀ x, x ≠ 31 → x ≠ 58 → sI B x = sI σ x := fun x x1 x2 => by rw [eB]; unfold mk0; rw [put_ne x2, put_ne x1, put_ne x1]
  have B31 : ∀ j, j ≠ 37 → j ≠ 39 → sI B 31 j = sI σ 31 j := fun j j1 j2 => by rw [eB]; unfold mk0; rw [put_ne (by decide), put_at, if_neg j1, put_at, if_neg j2]
  have FB : MF B := MF_I hF B2
  have XB : MX B X ob n tr := MX_fr hX' (fun x x1 x2 => Bo x x2 (by omega)) (fun j hj => B31 j (by omega) (by omega))
  have B26 : sI B 31 26 = 0 := by rw [B31 26 (by decide) (by decide)]; exact x26
  have B57 : sI B 31 57 = L := by rw [B31 57 (by decide) (by decide)]; exact h57
  have LB : LC B L X c := fun s hs => by rw [Bo 53 (by decide) (by decide)]; exact hc s hs
  have NB' : sI B 54 L = nn := by rw [Bo 54 (by decide) (by decide)]; exact hN
  rw [← eB] at hY hB hG
  have core : am_Calls PP MLL (d + 4) m_M_manyAt [qr (31, 12, 89), qi (L : Int)] B (kI fun x4 s4 =>
          (MF s4 ∧ sI s4 31 26 = 0) ∧
          ((2 ≤ x4 →
            am_Calls PP MLL (d + 4) m_M_isTooMuch [qr (31, 12, 89), qi (sI s4 31 57), qi x4] s4 (kI fun x7 s7 =>
              (MF s7 ∧ sI s7 31 26 = 0) ∧
              ((x7 = 0 →
                am_Calls PP MLL (d + 4) m_M_groups [qr (31, 12, 89), qi (sI s7 31 57)] s7 (kV fun s10 =>
                  (MF s10 ∧ sI s10 31 26 = 0) ∧
                  am_Runs PP MLL (d + 4) m_M_goes 2 [some (qr (31, 12, 89)), some (qi p1), some (qi p2), some (qi 0), some (qi x4)] [] (putI s10 31 58 1) (kI K))) ∧
              (¬ (x7 = 0) →
                am_Calls PP MLL (d + 4) m_M_goesUp [qr (31, 12, 89), qi p1, qi 0] s7 (kI fun x11 s11 =>
                  (MF s11 ∧ sI s11 31 26 = 0) ∧
                  am_Runs PP MLL (d + 4) m_M_goes 2 [some (qr (31, 12, 89)), some (qi p1), some (qi p2), some (qi x11), some (qi x4)] [] s11 (kI K)))))) ∧
          (¬ (2 ≤ x4) →
            am_Calls PP MLL (d + 4) m_M_goesUp [qr (31, 12, 89), qi p1, qi 1] s4 (kI fun x12 s12 =>
              (MF s12 ∧ sI s12 31 26 = 0) ∧
              am_Runs PP MLL (d + 4) m_M_goes 2 [some (qr (31, 12, 89)), some (qi p1), some (qi p2), some (qi x12), some (qi x4)] [] s12 (kI K))))) := by
    refine c_M_manyAt (d + 3) FB hL XB.2.2.1 xv.2.1 LB ⟨⟨FB, B26⟩, fun w => ?_, fun w => up_c FB B26 (hY (by omega)) _⟩
    rw [B57]
    refine c_M_isTooMuch d FB XB hL NB' hnn (fun hb => ?_) (fun hb => ?_)
    · exact ⟨⟨FB, B26⟩, fun q => absurd q (by decide), fun _ => up_c FB B26 (hB (by omega) hb) _⟩
    · refine ⟨⟨FB, B26⟩, fun _ => ?_, fun q => absurd rfl q⟩
      rw [B57]
      refine m_groups (d + 2) FB xv hL XB.2.1 XB.2.2.1 LB XB.2.2.2.1 (fun t t1 t2 t3 => ?_)
      exact ⟨⟨MF_I FB t1, by rw [t2]; exact B26⟩, hG (by omega) hb _ t3 _⟩
  rw [eB] at core
  unfold mk0 at core
  refine v_M_goes_2 d p1 p2 0 z4 σ K hF x26 ⟨fun _ => ⟨fun _ => ?_, fun q => absurd h58 q⟩, fun q => absurd rfl q⟩
  rw [h57, Int.toNat_natCast]
  rcases hp with e | ⟨e, e2⟩
  · subst e
    exact ⟨fun _ => ⟨by omega, by omega, by omega, core⟩, fun q => absurd rfl q⟩
  · subst e
    exact ⟨fun q => absurd q (by decide), fun _ => ⟨fun q => absurd q e2, fun _ => ⟨by omega, by omega, by omega, core⟩⟩⟩
/-- the next weighing -/
theorem mg1 (d : Nat) {L : Nat} {p1 p2 : Int} {σ : am_S} {K : Int → am_S → Prop} (hF : MF σ) (hT : sI σ 31 26 = 0) (h58 : sI σ 31 58 = 1) (h57 : sI σ 31 57 = L) (h : am_Calls PP MLL (d + 4) m_M_nextWeighing [qr (31, 12, 89), qi (L : Int)] σ (kI fun x s => (MF s ∧ sI s 31 26 = 0) ∧ (x = 0 → UP d p1 p2 0 s K) ∧ (¬ x = 0 → GO d p1 p2 0 (putI s 31 58 2) K))) : GO d p1 p2 0 σ K := by
  intro z4
  refine v_M_goes_2 d p1 p2 0 z4 σ K hF hT ⟨fun _ => ⟨fun q => absurd q (by omega), fun _ => ⟨fun q => absurd q (by omega), fun _ => ⟨fun _ => ?_, fun q => absurd h58 q⟩⟩⟩, fun q => absurd rfl q⟩
  rw [h57]
  exact am_cI h (fun x s q => ⟨q.1, fun e => up_c q.1.1 q.1.2 (q.2.1 e) _, fun e => q.2.2 e _⟩)
/-- laid -/
def mk2 (σ : am_S) (p2 : Int) (L : Nat) (v : Int) : am_S := putI (putI (putI (putI (putI σ 31 39 ((sI σ 31 39) - p2)) 31 37 ((sI σ 31 37) + p2)) 56 L v) 57 L (-v)) 31 58 3
theorem mg2 (d : Nat) {L k ob n : Nat} {X : sX} {tr : Nat → Nat} {p1 p2 : Int} {σ : am_S} {K : Int → am_S → Prop} (hF : MF σ) (hX : MX σ X ob n tr) (h58 : sI σ 31 58 = 2) (h57 : sI σ 31 57 = L) (hL : L < 14) (hk : sI σ 55 L = k) (hp : p2 = 0 ∨ (p2 = 1 ∧ ¬ sI σ 31 39 = 0)) (h39 : 0 ≤ sI σ 31 39 ∧ sI σ 31 39 ≤ 1000000) (h37 : 0 ≤ sI σ 31 37 ∧ sI σ 31 37 ≤ 1000000) (h : GO d p1 p2 0 (mk2 σ p2 L (mo (xK X k))) K) : GO d p1 p2 0 σ K := by
  intro z4
  obtain ⟨xv, x2, x40, xs, xt, xd, x36, xo, xn, xq, xk, xl, xO', x26⟩ := hX
  have wl := wr_lt (turn := k) xq xo
  have wg := wr_gd (t := k) xq xo hk
  have hmo := oc_37 X k
  unfold mk2 at h
  refine v_M_goes_2 d p1 p2 0 z4 σ K hF x26 ⟨fun _ => ⟨fun q => absurd q (by omega), fun _ => ⟨fun _ => ?_, fun q => absurd h58 q⟩⟩, fun q => absurd rfl q⟩
  rw [h57, x36, Int.toNat_natCast, Int.toNat_natCast, wr_eq xq xo hk, Int.toNat_natCast, ← xk k]
  have gd : (sI σ 41 ob = 6 → -2147483648 ≤ 3 * (ob : Int)) ∧ (sI σ 41 ob = 6 → 3 * (ob : Int) < 2147483648) ∧ (sI σ 41 ob = 6 → sI σ 47 ob ≠ 0) ∧ (sI σ 41 ob = 6 → -2147483648 ≤ 3 * (ob : Int) + Int.tmod (sI σ 55 L) (sI σ 47 ob)) ∧ (sI σ 41 ob = 6 → 3 * (ob : Int) + Int.tmod (sI σ 55 L) (sI σ 47 ob) < 2147483648) ∧ (sI σ 41 ob = 6 → 0 ≤ 3 * (ob : Int) + Int.tmod (sI σ 55 L) (sI σ 47 ob)) ∧ (sI σ 41 ob = 6 → 3 * (ob : Int) + Int.tmod (sI σ 55 L) (sI σ 47 ob) < 36) := ⟨fun q => by omega, fun q => by omega, fun q => (wg q).1, fun q => by have := wg q; omega, fun q => by have := wg q; omega, fun q => by have := wg q; omega, fun q => by have := wg q; omega⟩
  have e56 : ∀ p : Int, sI (putI (putI (putI σ 31 39 ((sI σ 31 39) - p)) 31 37 ((sI σ 31 37) + p)) 56 L (mo (xK X k))) 56 L = mo (xK X k) := fun p => by rw [put_at, if_pos rfl]
  rcases hp with e | ⟨e, e2⟩
  · subst e
    refine ⟨fun _ => ⟨by omega, by omega, fun q => absurd q (by omega), fun _ => ⟨by omega, by omega, gd, by omega, ?_⟩⟩, fun q => absurd rfl q⟩
    rw [e56]
    exact ⟨by omega, h z4⟩
  · subst e
    refine ⟨fun q => absurd q (by decide), fun _ => ⟨fun q => absurd q e2, fun _ => ⟨by omega, by omega, fun q => absurd q (by omega), fun _ => ⟨by omega, by omega, gd, by omega, ?_⟩⟩⟩⟩
    rw [e56]
    exact ⟨by omega, h z4⟩
/-- the case behind an outcome -/
theorem mg3 (d : Nat) {L k ob n : Nat} {X : sX} {c f : Nat → Int} {tr : Nat → Nat} {o p1 p2 : Int} {σ : am_S} {K : Int → am_S → Prop} (hF : MF σ) (hX : MX σ X ob n tr) (h58 : sI σ 31 58 = 3) (h57 : sI σ 31 57 = L) (hL : L + 1 < 14) (hk : sI σ 55 L = k) (hk2 : k ≤ 100) (hN : 0 ≤ sI σ 54 L ∧ sI σ 54 L ≤ 100) (ho : sI σ 57 L = o) (hc : LC σ L X c) (hf : ∀ q, q < xN X → sI σ 66 (12 * L + q) = f q ∧ -1 ≤ f q ∧ f q ≤ 1)
    (h : ∀ s, MKP σ s (L + 1) (xM X) (mkc X c k f o) (sI σ 54 L - 1) (k + 1) → GO d p1 p2 0 (putI (putI s 31 57 ((L + 1 : Nat) : Int)) 31 58 0) K) : GO d p1 p2 0 σ K := by
  intro z4
  have x26 := hX.2.2.2.2.2.2.2.2.2.2.2.2.2
  refine v_M_goes_2 d p1 p2 0 z4 σ K hF x26 ⟨fun _ => ⟨fun q => absurd q (by omega), fun _ => ⟨fun q => absurd q (by omega), fun _ => ⟨fun q => absurd q (by omega), fun _ => ?_⟩⟩⟩, fun q => absurd rfl q⟩
  rw [h57, Int.toNat_natCast, ho, show (L : Int) + 1 = ((L + 1 : Nat) : Int) by omega]
  refine ⟨by omega, c_M_makeCase d hF hX (by omega) hL (by omega) hk hk2 hN hc hf ?_⟩
  intro s hs
  have e31 : sI s 31 = sI σ 31 := hs.2.1 31 (by decide) (by decide) (by decide)
  refine ⟨⟨MF_I hF hs.1, by rw [e31]; exact x26⟩, ?_⟩
  rw [e31, h57, show (L : Int) + 1 = ((L + 1 : Nat) : Int) by omega]
  exact ⟨by omega, h s hs z4⟩
