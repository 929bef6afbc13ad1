/-! the reference: check -/
theorem v_M_check_0 (d : Nat) (σ : am_S) (K : Int → am_S → Prop) (hF : MF σ) (hT : sI σ 31 26 = 0) (h :
  (((sI σ 31 77) = 0 →
    K (-1002) σ) ∧
  (¬ ((sI σ 31 77) = 0) →
    am_Calls PP MLL (d + 4) m_M_startCase [qr (31, 12, 89)] σ (kV fun s2 =>
      (MF s2 ∧ sI s2 31 26 = 0) ∧
      (-2147483648 ≤ (sI s2 31 35) - 1 ∧ (sI s2 31 35) - 1 < 2147483648) ∧
      am_Runs PP MLL (d + 4) m_M_check 23 [some (qr (31, 12, 89)), some (qi 0), some (qi 0), some (qi 1), some (qi 1), none, none] [] (putI s2 54 0 ((sI s2 31 35) - 1)) (kI K))))) : am_Runs PP MLL (d + 4) m_M_check 0 [some (qr (31, 12, 89)), none, none, none, none, none, none] [] σ (kI K) := am_wEC_ok (orc [(8, 54, 20, 14)]) [65, 148] 200 (⟨rfl, ⟨fun c1 => (h.1 c1), fun c1 => ⟨rfl, (am_cV (h.2 c1) fun s2 h2 => ⟨⟨rfl, (h2.1.1 44)⟩, ⟨rfl, ⟨⟨h2.2.1.1, h2.2.1.2⟩, ⟨⟨rfl, (by decide : (0 : Int) ≤ 0), (by decide : (0 : Int) < 14)⟩, h2.2.2⟩⟩⟩⟩)⟩⟩⟩)

theorem v_M_check_23 (d : Nat) (v1 v2 v3 v4 : Int) (z5 z6 : Option am_V) (σ : am_S) (K : Int → am_S → Prop) (hF : MF σ) (hT : sI σ 31 26 = 0) (h :
  ((v1 < 0 →
    K (if v4 = 0 then (0 : Int) else (if v2 = (sI σ 31 76) then (1 : Int) else 0)) σ) ∧
  (¬ (v1 < 0) →
    ((v4 = 0 →
      K 0 σ) ∧
    (¬ (v4 = 0) →
      am_Calls PP MLL (d + 4) m_M_manyAt [qr (31, 12, 89), qi v1] σ (kI fun x9 s9 =>
        (MF s9 ∧ sI s9 31 26 = 0) ∧
        ((v3 = 0 →
          am_Calls PP MLL (d + 4) m_M_nextWeighing [qr (31, 12, 89), qi v1] s9 (kI fun x12 s12 =>
            (MF s12 ∧ sI s12 31 26 = 0) ∧
            ((x12 = 0 →
              (-2147483648 ≤ v1 + (-1) ∧ v1 + (-1) < 2147483648) ∧
              am_Runs PP MLL (d + 4) m_M_check 23 [some (qr (31, 12, 89)), some (qi (v1 + (-1))), some (qi v2), some (qi 0), some (qi v4), some (qi x9), z6] [] s12 (kI K)) ∧
            (¬ (x12 = 0) →
              (0 ≤ v1 ∧ v1 < 14) ∧
              (0 ≤ (sI s12 31 36) ∧ (sI s12 31 36) < 12) ∧
              ((((sI s12 41 (Int.toNat (sI s12 31 36))) = 6) → -2147483648 ≤ 3 * (sI s12 31 36)) ∧ (((sI s12 41 (Int.toNat (sI s12 31 36))) = 6) → 3 * (sI s12 31 36) < 2147483648) ∧ (((sI s12 41 (Int.toNat (sI s12 31 36))) = 6) → (sI s12 47 (Int.toNat (sI s12 31 36))) ≠ 0) ∧ (((sI s12 41 (Int.toNat (sI s12 31 36))) = 6) → -2147483648 ≤ (3 * (sI s12 31 36)) + (Int.tmod (sI s12 55 (Int.toNat v1)) (sI s12 47 (Int.toNat (sI s12 31 36))))) ∧ (((sI s12 41 (Int.toNat (sI s12 31 36))) = 6) → (3 * (sI s12 31 36)) + (Int.tmod (sI s12 55 (Int.toNat v1)) (sI s12 47 (Int.toNat (sI s12 31 36)))) < 2147483648) ∧ (((sI s12 41 (Int.toNat (sI s12 31 36))) = 6) → 0 ≤ ((3 * (sI s12 31 36)) + (Int.tmod (sI s12 55 (Int.toNat v1)) (sI s12 47 (Int.toNat (sI s12 31 36)))))) ∧ (((sI s12 41 (Int.toNat (sI s12 31 36))) = 6) → ((3 * (sI s12 31 36)) + (Int.tmod (sI s12 55 (Int.toNat v1)) (sI s12 47 (Int.toNat (sI s12 31 36))))) < 36)) ∧
              (0 ≤ (if (sI s12 41 (Int.toNat (sI s12 31 36))) = 6 then (sI s12 46 (Int.toNat ((3 * (sI s12 31 36)) + (Int.tmod (sI s12 55 (Int.toNat v1)) (sI s12 47 (Int.toNat (sI s12 31 36)))))) : Int) else (sI s12 31 36)) ∧ (if (sI s12 41 (Int.toNat (sI s12 31 36))) = 6 then (sI s12 46 (Int.toNat ((3 * (sI s12 31 36)) + (Int.tmod (sI s12 55 (Int.toNat v1)) (sI s12 47 (Int.toNat (sI s12 31 36)))))) : Int) else (sI s12 31 36)) < 12) ∧
              (((sI s12 31 76) ≤ v2 →
                (-2147483648 ≤ v2 + 1 ∧ v2 + 1 < 2147483648 ∧ -2147483648 ≤ v1 + 1 ∧ v1 + 1 < 2147483648) ∧
                am_Runs PP MLL (d + 4) m_M_check 23 [some (qr (31, 12, 89)), some (qi (v1 + 1)), some (qi (v2 + 1)), some (qi 1), some (qi 0), some (qi x9), some (qi (mo (sI s12 41 (Int.toNat (if (sI s12 41 (Int.toNat (sI s12 31 36))) = 6 then (sI s12 46 (Int.toNat ((3 * (sI s12 31 36)) + (Int.tmod (sI s12 55 (Int.toNat v1)) (sI s12 47 (Int.toNat (sI s12 31 36)))))) : Int) else (sI s12 31 36))))))] [] s12 (kI K)) ∧
              (¬ ((sI s12 31 76) ≤ v2) →
                (0 ≤ v2 ∧ v2 < 600) ∧
                (((sI s12 81 (Int.toNat v2)) = (sI s12 60 (Int.toNat v1)) →
                  (-2147483648 ≤ -(mo (sI s12 41 (Int.toNat (if (sI s12 41 (Int.toNat (sI s12 31 36))) = 6 then (sI s12 46 (Int.toNat ((3 * (sI s12 31 36)) + (Int.tmod (sI s12 55 (Int.toNat v1)) (sI s12 47 (Int.toNat (sI s12 31 36)))))) : Int) else (sI s12 31 36))))) ∧ -(mo (sI s12 41 (Int.toNat (if (sI s12 41 (Int.toNat (sI s12 31 36))) = 6 then (sI s12 46 (Int.toNat ((3 * (sI s12 31 36)) + (Int.tmod (sI s12 55 (Int.toNat v1)) (sI s12 47 (Int.toNat (sI s12 31 36)))))) : Int) else (sI s12 31 36))))) < 2147483648) ∧
                  (((sI s12 82 (Int.toNat v2)) < (-(mo (sI s12 41 (Int.toNat (if (sI s12 41 (Int.toNat (sI s12 31 36))) = 6 then (sI s12 46 (Int.toNat ((3 * (sI s12 31 36)) + (Int.tmod (sI s12 55 (Int.toNat v1)) (sI s12 47 (Int.toNat (sI s12 31 36)))))) : Int) else (sI s12 31 36)))))) →
                    (-2147483648 ≤ v2 + 1 ∧ v2 + 1 < 2147483648 ∧ -2147483648 ≤ v1 + 1 ∧ v1 + 1 < 2147483648) ∧
                    am_Runs PP MLL (d + 4) m_M_check 23 [some (qr (31, 12, 89)), some (qi (v1 + 1)), some (qi (v2 + 1)), some (qi 1), some (qi 0), some (qi x9), some (qi (mo (sI s12 41 (Int.toNat (if (sI s12 41 (Int.toNat (sI s12 31 36))) = 6 then (sI s12 46 (Int.toNat ((3 * (sI s12 31 36)) + (Int.tmod (sI s12 55 (Int.toNat v1)) (sI s12 47 (Int.toNat (sI s12 31 36)))))) : Int) else (sI s12 31 36))))))] [] s12 (kI K)) ∧
                  (¬ ((sI s12 82 (Int.toNat v2)) < (-(mo (sI s12 41 (Int.toNat (if (sI s12 41 (Int.toNat (sI s12 31 36))) = 6 then (sI s12 46 (Int.toNat ((3 * (sI s12 31 36)) + (Int.tmod (sI s12 55 (Int.toNat v1)) (sI s12 47 (Int.toNat (sI s12 31 36)))))) : Int) else (sI s12 31 36))))))) →
                    (((mo (sI s12 41 (Int.toNat (if (sI s12 41 (Int.toNat (sI s12 31 36))) = 6 then (sI s12 46 (Int.toNat ((3 * (sI s12 31 36)) + (Int.tmod (sI s12 55 (Int.toNat v1)) (sI s12 47 (Int.toNat (sI s12 31 36)))))) : Int) else (sI s12 31 36))))) < (sI s12 82 (Int.toNat v2)) →
                      (-2147483648 ≤ v2 + 1 ∧ v2 + 1 < 2147483648 ∧ -2147483648 ≤ v1 + 1 ∧ v1 + 1 < 2147483648) ∧
                      am_Runs PP MLL (d + 4) m_M_check 23 [some (qr (31, 12, 89)), some (qi (v1 + 1)), some (qi (v2 + 1)), some (qi 1), some (qi 0), some (qi x9), some (qi (mo (sI s12 41 (Int.toNat (if (sI s12 41 (Int.toNat (sI s12 31 36))) = 6 then (sI s12 46 (Int.toNat ((3 * (sI s12 31 36)) + (Int.tmod (sI s12 55 (Int.toNat v1)) (sI s12 47 (Int.toNat (sI s12 31 36)))))) : Int) else (sI s12 31 36))))))] [] s12 (kI K)) ∧
                    (¬ ((mo (sI s12 41 (Int.toNat (if (sI s12 41 (Int.toNat (sI s12 31 36))) = 6 then (sI s12 46 (Int.toNat ((3 * (sI s12 31 36)) + (Int.tmod (sI s12 55 (Int.toNat v1)) (sI s12 47 (Int.toNat (sI s12 31 36)))))) : Int) else (sI s12 31 36))))) < (sI s12 82 (Int.toNat v2))) →
                      (-2147483648 ≤ v1 + 1 ∧ v1 + 1 < 2147483648) ∧
                      am_Calls PP MLL (d + 4) m_M_makeCase [qr (31, 12, 89), qi v1, qi (v1 + 1), qi (sI s12 82 (Int.toNat v2))] s12 (kV fun s23 =>
                        (MF s23 ∧ sI s23 31 26 = 0) ∧
                        (-2147483648 ≤ v2 + 1 ∧ v2 + 1 < 2147483648) ∧
                        am_Runs PP MLL (d + 4) m_M_check 23 [some (qr (31, 12, 89)), some (qi (v1 + 1)), some (qi (v2 + 1)), some (qi 1), some (qi 1), some (qi x9), some (qi (mo (sI s12 41 (Int.toNat (if (sI s12 41 (Int.toNat (sI s12 31 36))) = 6 then (sI s12 46 (Int.toNat ((3 * (sI s12 31 36)) + (Int.tmod (sI s12 55 (Int.toNat v1)) (sI s12 47 (Int.toNat (sI s12 31 36)))))) : Int) else (sI s12 31 36))))))] [] s23 (kI K))))))) ∧
                (¬ ((sI s12 81 (Int.toNat v2)) = (sI s12 60 (Int.toNat v1))) →
                  (-2147483648 ≤ v2 + 1 ∧ v2 + 1 < 2147483648 ∧ -2147483648 ≤ v1 + 1 ∧ v1 + 1 < 2147483648) ∧
                  am_Runs PP MLL (d + 4) m_M_check 23 [some (qr (31, 12, 89)), some (qi (v1 + 1)), some (qi (v2 + 1)), some (qi 1), some (qi 0), some (qi x9), some (qi (mo (sI s12 41 (Int.toNat (if (sI s12 41 (Int.toNat (sI s12 31 36))) = 6 then (sI s12 46 (Int.toNat ((3 * (sI s12 31 36)) + (Int.tmod (sI s12 55 (Int.toNat v1)) (sI s12 47 (Int.toNat (sI s12 31 36)))))) : Int) else (sI s12 31 36))))))] [] s12 (kI K))))))))) ∧
        (¬ (v3 = 0) →
          ((2 ≤ x9 →
            am_Calls PP MLL (d + 4) m_M_isTooMuch [qr (31, 12, 89), qi v1, qi x9] s9 (kI fun x27 s27 =>
              (MF s27 ∧ sI s27 31 26 = 0) ∧
              ((x27 = 0 →
                am_Calls PP MLL (d + 4) m_M_groups [qr (31, 12, 89), qi v1] s27 (kV fun s30 =>
                  (MF s30 ∧ sI s30 31 26 = 0) ∧
                  am_Calls PP MLL (d + 4) m_M_nextWeighing [qr (31, 12, 89), qi v1] s30 (kI fun x31 s31 =>
                    (MF s31 ∧ sI s31 31 26 = 0) ∧
                    ((x31 = 0 →
                      (-2147483648 ≤ v1 + (-1) ∧ v1 + (-1) < 2147483648) ∧
                      am_Runs PP MLL (d + 4) m_M_check 23 [some (qr (31, 12, 89)), some (qi (v1 + (-1))), some (qi v2), some (qi 0), some (qi v4), some (qi x9), z6] [] s31 (kI K)) ∧
                    (¬ (x31 = 0) →
                      (0 ≤ v1 ∧ v1 < 14) ∧
                      (0 ≤ (sI s31 31 36) ∧ (sI s31 31 36) < 12) ∧
                      ((((sI s31 41 (Int.toNat (sI s31 31 36))) = 6) → -2147483648 ≤ 3 * (sI s31 31 36)) ∧ (((sI s31 41 (Int.toNat (sI s31 31 36))) = 6) → 3 * (sI s31 31 36) < 2147483648) ∧ (((sI s31 41 (Int.toNat (sI s31 31 36))) = 6) → (sI s31 47 (Int.toNat (sI s31 31 36))) ≠ 0) ∧ (((sI s31 41 (Int.toNat (sI s31 31 36))) = 6) → -2147483648 ≤ (3 * (sI s31 31 36)) + (Int.tmod (sI s31 55 (Int.toNat v1)) (sI s31 47 (Int.toNat (sI s31 31 36))))) ∧ (((sI s31 41 (Int.toNat (sI s31 31 36))) = 6) → (3 * (sI s31 31 36)) + (Int.tmod (sI s31 55 (Int.toNat v1)) (sI s31 47 (Int.toNat (sI s31 31 36)))) < 2147483648) ∧ (((sI s31 41 (Int.toNat (sI s31 31 36))) = 6) → 0 ≤ ((3 * (sI s31 31 36)) + (Int.tmod (sI s31 55 (Int.toNat v1)) (sI s31 47 (Int.toNat (sI s31 31 36)))))) ∧ (((sI s31 41 (Int.toNat (sI s31 31 36))) = 6) → ((3 * (sI s31 31 36)) + (Int.tmod (sI s31 55 (Int.toNat v1)) (sI s31 47 (Int.toNat (sI s31 31 36))))) < 36)) ∧
                      (0 ≤ (if (sI s31 41 (Int.toNat (sI s31 31 36))) = 6 then (sI s31 46 (Int.toNat ((3 * (sI s31 31 36)) + (Int.tmod (sI s31 55 (Int.toNat v1)) (sI s31 47 (Int.toNat (sI s31 31 36)))))) : Int) else (sI s31 31 36)) ∧ (if (sI s31 41 (Int.toNat (sI s31 31 36))) = 6 then (sI s31 46 (Int.toNat ((3 * (sI s31 31 36)) + (Int.tmod (sI s31 55 (Int.toNat v1)) (sI s31 47 (Int.toNat (sI s31 31 36)))))) : Int) else (sI s31 31 36)) < 12) ∧
                      (((sI s31 31 76) ≤ v2 →
                        (-2147483648 ≤ v2 + 1 ∧ v2 + 1 < 2147483648 ∧ -2147483648 ≤ v1 + 1 ∧ v1 + 1 < 2147483648) ∧
                        am_Runs PP MLL (d + 4) m_M_check 23 [some (qr (31, 12, 89)), some (qi (v1 + 1)), some (qi (v2 + 1)), some (qi 1), some (qi 0), some (qi x9), some (qi (mo (sI s31 41 (Int.toNat (if (sI s31 41 (Int.toNat (sI s31 31 36))) = 6 then (sI s31 46 (Int.toNat ((3 * (sI s31 31 36)) + (Int.tmod (sI s31 55 (Int.toNat v1)) (sI s31 47 (Int.toNat (sI s31 31 36)))))) : Int) else (sI s31 31 36))))))] [] s31 (kI K)) ∧
                      (¬ ((sI s31 31 76) ≤ v2) →
                        (0 ≤ v2 ∧ v2 < 600) ∧
                        (((sI s31 81 (Int.toNat v2)) = (sI s31 60 (Int.toNat v1)) →
                          (-2147483648 ≤ -(mo (sI s31 41 (Int.toNat (if (sI s31 41 (Int.toNat (sI s31 31 36))) = 6 then (sI s31 46 (Int.toNat ((3 * (sI s31 31 36)) + (Int.tmod (sI s31 55 (Int.toNat v1)) (sI s31 47 (Int.toNat (sI s31 31 36)))))) : Int) else (sI s31 31 36))))) ∧ -(mo (sI s31 41 (Int.toNat (if (sI s31 41 (Int.toNat (sI s31 31 36))) = 6 then (sI s31 46 (Int.toNat ((3 * (sI s31 31 36)) + (Int.tmod (sI s31 55 (Int.toNat v1)) (sI s31 47 (Int.toNat (sI s31 31 36)))))) : Int) else (sI s31 31 36))))) < 2147483648) ∧
                          (((sI s31 82 (Int.toNat v2)) < (-(mo (sI s31 41 (Int.toNat (if (sI s31 41 (Int.toNat (sI s31 31 36))) = 6 then (sI s31 46 (Int.toNat ((3 * (sI s31 31 36)) + (Int.tmod (sI s31 55 (Int.toNat v1)) (sI s31 47 (Int.toNat (sI s31 31 36)))))) : Int) else (sI s31 31 36)))))) →
                            (-2147483648 ≤ v2 + 1 ∧ v2 + 1 < 2147483648 ∧ -2147483648 ≤ v1 + 1 ∧ v1 + 1 < 2147483648) ∧
                            am_Runs PP MLL (d + 4) m_M_check 23 [some (qr (31, 12, 89)), some (qi (v1 + 1)), some (qi (v2 + 1)), some (qi 1), some (qi 0), some (qi x9), some (qi (mo (sI s31 41 (Int.toNat (if (sI s31 41 (Int.toNat (sI s31 31 36))) = 6 then (sI s31 46 (Int.toNat ((3 * (sI s31 31 36)) + (Int.tmod (sI s31 55 (Int.toNat v1)) (sI s31 47 (Int.toNat (sI s31 31 36)))))) : Int) else (sI s31 31 36))))))] [] s31 (kI K)) ∧
                          (¬ ((sI s31 82 (Int.toNat v2)) < (-(mo (sI s31 41 (Int.toNat (if (sI s31 41 (Int.toNat (sI s31 31 36))) = 6 then (sI s31 46 (Int.toNat ((3 * (sI s31 31 36)) + (Int.tmod (sI s31 55 (Int.toNat v1)) (sI s31 47 (Int.toNat (sI s31 31 36)))))) : Int) else (sI s31 31 36))))))) →
                            (((mo (sI s31 41 (Int.toNat (if (sI s31 41 (Int.toNat (sI s31 31 36))) = 6 then (sI s31 46 (Int.toNat ((3 * (sI s31 31 36)) + (Int.tmod (sI s31 55 (Int.toNat v1)) (sI s31 47 (Int.toNat (sI s31 31 36)))))) : Int) else (sI s31 31 36))))) < (sI s31 82 (Int.toNat v2)) →
                              (-2147483648 ≤ v2 + 1 ∧ v2 + 1 < 2147483648 ∧ -2147483648 ≤ v1 + 1 ∧ v1 + 1 < 2147483648) ∧
                              am_Runs PP MLL (d + 4) m_M_check 23 [some (qr (31, 12, 89)), some (qi (v1 + 1)), some (qi (v2 + 1)), some (qi 1), some (qi 0), some (qi x9), some (qi (mo (sI s31 41 (Int.toNat (if (sI s31 41 (Int.toNat (sI s31 31 36))) = 6 then (sI s31 46 (Int.toNat ((3 * (sI s31 31 36)) + (Int.tmod (sI s31 55 (Int.toNat v1)) (sI s31 47 (Int.toNat (sI s31 31 36)))))) : Int) else (sI s31 31 36))))))] [] s31 (kI K)) ∧
                            (¬ ((mo (sI s31 41 (Int.toNat (if (sI s31 41 (Int.toNat (sI s31 31 36))) = 6 then (sI s31 46 (Int.toNat ((3 * (sI s31 31 36)) + (Int.tmod (sI s31 55 (Int.toNat v1)) (sI s31 47 (Int.toNat (sI s31 31 36)))))) : Int) else (sI s31 31 36))))) < (sI s31 82 (Int.toNat v2))) →
                              (-2147483648 ≤ v1 + 1 ∧ v1 + 1 < 2147483648) ∧
                              am_Calls PP MLL (d + 4) m_M_makeCase [qr (31, 12, 89), qi v1, qi (v1 + 1), qi (sI s31 82 (Int.toNat v2))] s31 (kV fun s42 =>
                                (MF s42 ∧ sI s42 31 26 = 0) ∧
                                (-2147483648 ≤ v2 + 1 ∧ v2 + 1 < 2147483648) ∧
                                am_Runs PP MLL (d + 4) m_M_check 23 [some (qr (31, 12, 89)), some (qi (v1 + 1)), some (qi (v2 + 1)), some (qi 1), some (qi 1), some (qi x9), some (qi (mo (sI s31 41 (Int.toNat (if (sI s31 41 (Int.toNat (sI s31 31 36))) = 6 then (sI s31 46 (Int.toNat ((3 * (sI s31 31 36)) + (Int.tmod (sI s31 55 (Int.toNat v1)) (sI s31 47 (Int.toNat (sI s31 31 36)))))) : Int) else (sI s31 31 36))))))] [] s42 (kI K))))))) ∧
                        (¬ ((sI s31 81 (Int.toNat v2)) = (sI s31 60 (Int.toNat v1))) →
                          (-2147483648 ≤ v2 + 1 ∧ v2 + 1 < 2147483648 ∧ -2147483648 ≤ v1 + 1 ∧ v1 + 1 < 2147483648) ∧
                          am_Runs PP MLL (d + 4) m_M_check 23 [some (qr (31, 12, 89)), some (qi (v1 + 1)), some (qi (v2 + 1)), some (qi 1), some (qi 0), some (qi x9), some (qi (mo (sI s31 41 (Int.toNat (if (sI s31 41 (Int.toNat (sI s31 31 36))) = 6 then (sI s31 46 (Int.toNat ((3 * (sI s31 31 36)) + (Int.tmod (sI s31 55 (Int.toNat v1)) (sI s31 47 (Int.toNat (sI s31 31 36)))))) : Int) else (sI s31 31 36))))))] [] s31 (kI K)))))))))) ∧
              (¬ (x27 = 0) →
                ((¬ ((sI s27 31 76) ≤ v2) → 0 ≤ v2) ∧ (¬ ((sI s27 31 76) ≤ v2) → v2 < 600) ∧ (¬ ((sI s27 31 76) ≤ v2) → (((sI s27 81 (Int.toNat v2)) = (-1)) → 0 ≤ v2)) ∧ (¬ ((sI s27 31 76) ≤ v2) → (((sI s27 81 (Int.toNat v2)) = (-1)) → v2 < 600))) ∧
                (-2147483648 ≤ v2 + 1 ∧ v2 + 1 < 2147483648 ∧ -2147483648 ≤ v1 + (-1) ∧ v1 + (-1) < 2147483648) ∧
                am_Runs PP MLL (d + 4) m_M_check 23 [some (qr (31, 12, 89)), some (qi (v1 + (-1))), some (qi (v2 + 1)), some (qi 0), some (qi (if (sI s27 31 76) ≤ v2 then (0 : Int) else (if (sI s27 81 (Int.toNat v2)) = (-1) then (if (sI s27 82 (Int.toNat v2)) = x9 then (1 : Int) else 0 : Int) else 0))), some (qi x9), z6] [] s27 (kI K))))) ∧
          (¬ (2 ≤ x9) →
            am_Runs PP MLL (d + 4) m_M_check 23 [some (qr (31, 12, 89)), some (qi v1), some (qi v2), some (qi v3), some (qi 0), some (qi x9), z6] [] s9 (kI K))))))))))) : am_Runs PP MLL (d + 4) m_M_check 23 [some (qr (31, 12, 89)), some (qi v1), some (qi v2), some (qi v3), some (qi v4), z5, z6] [] σ (kI K) := am_wEC_ok (orc [(51, 81, 20, 600), (57, 82, 20, 600), (84, 41, 20, 12), (87, 55, 20, 14), (99, 81, 20, 600), (103, 60, 20, 14), (108, 82, 20, 600), (128, 82, 20, 600)]) [65, 148] 200 (⟨fun c3 => am_use (fun H6 => ⟨fun c4 => (Eq.mp (congrArg (fun z => am_Runs _ _ _ _ _ _ (qi z :: _) _ _) (if_pos c4 : (if v4 = 0 then (0 : Int) else if v2 = (sI σ 31 76) then (1 : Int) else 0) = 0)) H6), fun c4 => ⟨rfl, ⟨fun c5 => (Eq.mp (congrArg (fun z => am_Runs _ _ _ _ _ _ (qi z :: _) _ _) (Eq.trans (if_neg c4 : (if v4 = 0 then (0 : Int) else if v2 = (sI σ 31 76) then (1 : Int) else 0) = if v2 = (sI σ 31 76) then (1 : Int) else 0) (if_pos c5 : (if v2 = (sI σ 31 76) then (1 : Int) else 0) = 1))) H6), fun c5 => (Eq.mp (congrArg (fun z => am_Runs _ _ _ _ _ _ (qi z :: _) _ _) (Eq.trans (if_neg c4 : (if v4 = 0 then (0 : Int) else if v2 = (sI σ 31 76) then (1 : Int) else 0) = if v2 = (sI σ 31 76) then (1 : Int) else 0) (if_neg c5 : (if v2 = (sI σ 31 76) then (1 : Int) else 0) = 0))) H6)⟩⟩⟩) (am_wEC_ok (orc []) [65, 148] 200 ((h.1 c3))), fun c3 => ⟨fun c8 => ⟨fun _ => am_wEC_ok (orc []) [65, 148] 200 (((h.2 c3).1 c8)), fun c => absurd c8 c⟩, fun c8 => ⟨rfl, (am_cI ((h.2 c3).2 c8) fun x9 s9 h9 => ⟨fun c11 => ⟨fun _ => ⟨fun _ => ⟨rfl, (am_cI (h9.2.1 c11) fun x12 s12 h12 => ⟨fun c14 => ⟨⟨(h12.2.1 c14).1.1, (h12.2.1 c14).1.2⟩, (h12.2.1 c14).2⟩, fun c14 => ⟨⟨rfl, (h12.1.1 17)⟩, ⟨⟨rfl, (h12.1.1 45)⟩, ⟨⟨rfl, (h12.2.2 c14).1.1, (h12.2.2 c14).1.2⟩, ⟨rfl, am_wEC_ok (orc [(1, 41, 20, 12), (8, 46, 20, 36), (15, 47, 20, 12)]) [25] 200 (⟨⟨rfl, (h12.1.1 17)⟩, ⟨rfl, ⟨⟨rfl, (h12.2.2 c14).2.1.1, (h12.2.2 c14).2.1.2⟩, am_use (fun H24 => ⟨fun c15 => ⟨⟨rfl, (h12.1.1 22)⟩, ⟨rfl, ⟨⟨((h12.2.2 c14).2.2.1.1 c15), ((h12.2.2 c14).2.2.1.2.1 c15)⟩, ⟨⟨rfl, (h12.1.1 23)⟩, ⟨rfl, ⟨⟨rfl, (h12.2.2 c14).2.1.1, (h12.2.2 c14).2.1.2⟩, ⟨((h12.2.2 c14).2.2.1.2.2.1 c15), ⟨⟨((h12.2.2 c14).2.2.1.2.2.2.1 c15), ((h12.2.2 c14).2.2.1.2.2.2.2.1 c15)⟩, ⟨⟨rfl, ((h12.2.2 c14).2.2.1.2.2.2.2.2.1 c15), ((h12.2.2 c14).2.2.1.2.2.2.2.2.2 c15)⟩, (Eq.mp (congrArg (fun z => am_Runs _ _ _ _ _ _ (qi z :: _) _ _) (if_pos c15 : (if (sI s12 41 (Int.toNat (sI s12 31 36))) = 6 then (sI s12 46 (Int.toNat ((3 * (sI s12 31 36)) + (Int.tmod (sI s12 55 (Int.toNat v1)) (sI s12 47 (Int.toNat (sI s12 31 36)))))) : Int) else sI s12 31 36) = sI s12 46 (Int.toNat ((3 * (sI s12 31 36)) + (Int.tmod (sI s12 55 (Int.toNat v1)) (sI s12 47 (Int.toNat (sI s12 31 36)))))))) H24)⟩⟩⟩⟩⟩⟩⟩⟩⟩, fun c15 => ⟨rfl, (Eq.mp (congrArg (fun z => am_Runs _ _ _ _ _ _ (qi z :: _) _ _) (if_neg c15 : (if (sI s12 41 (Int.toNat (sI s12 31 36))) = 6 then (sI s12 46 (Int.toNat ((3 * (sI s12 31 36)) + (Int.tmod (sI s12 55 (Int.toNat v1)) (sI s12 47 (Int.toNat (sI s12 31 36)))))) : Int) else sI s12 31 36) = sI s12 31 36)) H24)⟩⟩) (am_wEC_ok (orc []) [25] 200 (⟨⟨rfl, (h12.2.2 c14).2.2.2.1.1, (h12.2.2 c14).2.2.2.1.2⟩, ⟨rfl, c_M_mostOf _ h12.1.1 h12.1.2 (⟨rfl, ⟨fun c18 => ⟨fun _ => ⟨⟨((h12.2.2 c14).2.2.2.2.1 c18).1.1, ((h12.2.2 c14).2.2.2.2.1 c18).1.2.1⟩, ⟨⟨((h12.2.2 c14).2.2.2.2.1 c18).1.2.2.1, ((h12.2.2 c14).2.2.2.2.1 c18).1.2.2.2⟩, ((h12.2.2 c14).2.2.2.2.1 c18).2⟩⟩, fun c => absurd (by decide : (0 : Int) = 0) c⟩, fun c18 => ⟨⟨rfl, (h12.1.1 79)⟩, ⟨⟨rfl, ((h12.2.2 c14).2.2.2.2.2 c18).1.1, ((h12.2.2 c14).2.2.2.2.2 c18).1.2⟩, ⟨⟨rfl, (h12.1.1 50)⟩, ⟨⟨rfl, (h12.2.2 c14).1.1, (h12.2.2 c14).1.2⟩, ⟨fun c20 => ⟨⟨rfl, (h12.1.1 80)⟩, ⟨⟨rfl, ((h12.2.2 c14).2.2.2.2.2 c18).1.1, ((h12.2.2 c14).2.2.2.2.2 c18).1.2⟩, ⟨⟨(((h12.2.2 c14).2.2.2.2.2 c18).2.1 c20).1.1, (((h12.2.2 c14).2.2.2.2.2 c18).2.1 c20).1.2⟩, am_wEF_ok (orc []) 200 (⟨fun c21 => ⟨(Or.inl rfl), ⟨fun _ => ⟨fun _ => ⟨⟨((((h12.2.2 c14).2.2.2.2.2 c18).2.1 c20).2.1 c21).1.1, ((((h12.2.2 c14).2.2.2.2.2 c18).2.1 c20).2.1 c21).1.2.1⟩, ⟨⟨((((h12.2.2 c14).2.2.2.2.2 c18).2.1 c20).2.1 c21).1.2.2.1, ((((h12.2.2 c14).2.2.2.2.2 c18).2.1 c20).2.1 c21).1.2.2.2⟩, ((((h12.2.2 c14).2.2.2.2.2 c18).2.1 c20).2.1 c21).2⟩⟩, fun c => absurd (by decide : (0 : Int) = 0) c⟩, fun c => absurd (by decide : (0 : Int) = 0) c⟩⟩, fun c21 => ⟨fun c22 => ⟨(Or.inl rfl), ⟨fun _ => ⟨fun _ => ⟨⟨(((((h12.2.2 c14).2.2.2.2.2 c18).2.1 c20).2.2 c21).1 c22).1.1, (((((h12.2.2 c14).2.2.2.2.2 c18).2.1 c20).2.2 c21).1 c22).1.2.1⟩, ⟨⟨(((((h12.2.2 c14).2.2.2.2.2 c18).2.1 c20).2.2 c21).1 c22).1.2.2.1, (((((h12.2.2 c14).2.2.2.2.2 c18).2.1 c20).2.2 c21).1 c22).1.2.2.2⟩, (((((h12.2.2 c14).2.2.2.2.2 c18).2.1 c20).2.2 c21).1 c22).2⟩⟩, fun c => absurd (by decide : (0 : Int) = 0) c⟩, fun c => absurd (by decide : (0 : Int) = 0) c⟩⟩, fun c22 => ⟨(Or.inr rfl), ⟨fun c => absurd c (by decide : ¬ ((1 : Int) = 0)), fun _ => ⟨fun c => absurd c (by decide : ¬ ((1 : Int) = 0)), fun _ => ⟨⟨(((((h12.2.2 c14).2.2.2.2.2 c18).2.1 c20).2.2 c21).2 c22).1.1, (((((h12.2.2 c14).2.2.2.2.2 c18).2.1 c20).2.2 c21).2 c22).1.2⟩, ⟨⟨rfl, (h12.1.1 80)⟩, ⟨⟨rfl, ((h12.2.2 c14).2.2.2.2.2 c18).1.1, ((h12.2.2 c14).2.2.2.2.2 c18).1.2⟩, ⟨rfl, (am_cV (((((h12.2.2 c14).2.2.2.2.2 c18).2.1 c20).2.2 c21).2 c22).2 fun s23 h23 => ⟨⟨h23.2.1.1, h23.2.1.2⟩, ⟨⟨(((((h12.2.2 c14).2.2.2.2.2 c18).2.1 c20).2.2 c21).2 c22).1.1, (((((h12.2.2 c14).2.2.2.2.2 c18).2.1 c20).2.2 c21).2 c22).1.2⟩, h23.2.2⟩⟩)⟩⟩⟩⟩⟩⟩⟩⟩⟩)⟩⟩⟩, fun c20 => ⟨fun _ => ⟨⟨(((h12.2.2 c14).2.2.2.2.2 c18).2.2 c20).1.1, (((h12.2.2 c14).2.2.2.2.2 c18).2.2 c20).1.2.1⟩, ⟨⟨(((h12.2.2 c14).2.2.2.2.2 c18).2.2 c20).1.2.2.1, (((h12.2.2 c14).2.2.2.2.2 c18).2.2 c20).1.2.2.2⟩, (((h12.2.2 c14).2.2.2.2.2 c18).2.2 c20).2⟩⟩, fun c => absurd (by decide : (0 : Int) = 0) c⟩⟩⟩⟩⟩⟩⟩⟩)⟩⟩))⟩⟩⟩)⟩⟩⟩⟩⟩)⟩, fun c => absurd c11 c⟩, fun c => absurd c11 c⟩, fun c11 => ⟨fun c26 => ⟨fun c => absurd c c11, fun _ => ⟨rfl, (am_cI ((h9.2.2 c11).1 c26) fun x27 s27 h27 => ⟨fun c29 => ⟨fun c => absurd c c11, fun _ => ⟨rfl, (am_cV (h27.2.1 c29) fun s30 h30 => ⟨rfl, (am_cI h30.2 fun x31 s31 h31 => ⟨fun c33 => ⟨⟨(h31.2.1 c33).1.1, (h31.2.1 c33).1.2⟩, (h31.2.1 c33).2⟩, fun c33 => ⟨⟨rfl, (h31.1.1 17)⟩, ⟨⟨rfl, (h31.1.1 45)⟩, ⟨⟨rfl, (h31.2.2 c33).1.1, (h31.2.2 c33).1.2⟩, ⟨rfl, am_wEC_ok (orc [(1, 41, 20, 12), (8, 46, 20, 36), (15, 47, 20, 12)]) [25] 200 (⟨⟨rfl, (h31.1.1 17)⟩, ⟨rfl, ⟨⟨rfl, (h31.2.2 c33).2.1.1, (h31.2.2 c33).2.1.2⟩, am_use (fun H43 => ⟨fun c34 => ⟨⟨rfl, (h31.1.1 22)⟩, ⟨rfl, ⟨⟨((h31.2.2 c33).2.2.1.1 c34), ((h31.2.2 c33).2.2.1.2.1 c34)⟩, ⟨⟨rfl, (h31.1.1 23)⟩, ⟨rfl, ⟨⟨rfl, (h31.2.2 c33).2.1.1, (h31.2.2 c33).2.1.2⟩, ⟨((h31.2.2 c33).2.2.1.2.2.1 c34), ⟨⟨((h31.2.2 c33).2.2.1.2.2.2.1 c34), ((h31.2.2 c33).2.2.1.2.2.2.2.1 c34)⟩, ⟨⟨rfl, ((h31.2.2 c33).2.2.1.2.2.2.2.2.1 c34), ((h31.2.2 c33).2.2.1.2.2.2.2.2.2 c34)⟩, (Eq.mp (congrArg (fun z => am_Runs _ _ _ _ _ _ (qi z :: _) _ _) (if_pos c34 : (if (sI s31 41 (Int.toNat (sI s31 31 36))) = 6 then (sI s31 46 (Int.toNat ((3 * (sI s31 31 36)) + (Int.tmod (sI s31 55 (Int.toNat v1)) (sI s31 47 (Int.toNat (sI s31 31 36)))))) : Int) else sI s31 31 36) = sI s31 46 (Int.toNat ((3 * (sI s31 31 36)) + (Int.tmod (sI s31 55 (Int.toNat v1)) (sI s31 47 (Int.toNat (sI s31 31 36)))))))) H43)⟩⟩⟩⟩⟩⟩⟩⟩⟩, fun c34 => ⟨rfl, (Eq.mp (congrArg (fun z => am_Runs _ _ _ _ _ _ (qi z :: _) _ _) (if_neg c34 : (if (sI s31 41 (Int.toNat (sI s31 31 36))) = 6 then (sI s31 46 (Int.toNat ((3 * (sI s31 31 36)) + (Int.tmod (sI s31 55 (Int.toNat v1)) (sI s31 47 (Int.toNat (sI s31 31 36)))))) : Int) else sI s31 31 36) = sI s31 31 36)) H43)⟩⟩) (am_wEC_ok (orc []) [25] 200 (⟨⟨rfl, (h31.2.2 c33).2.2.2.1.1, (h31.2.2 c33).2.2.2.1.2⟩, ⟨rfl, c_M_mostOf _ h31.1.1 h31.1.2 (⟨rfl, ⟨fun c37 => ⟨fun _ => ⟨⟨((h31.2.2 c33).2.2.2.2.1 c37).1.1, ((h31.2.2 c33).2.2.2.2.1 c37).1.2.1⟩, ⟨⟨((h31.2.2 c33).2.2.2.2.1 c37).1.2.2.1, ((h31.2.2 c33).2.2.2.2.1 c37).1.2.2.2⟩, ((h31.2.2 c33).2.2.2.2.1 c37).2⟩⟩, fun c => absurd (by decide : (0 : Int) = 0) c⟩, fun c37 => ⟨⟨rfl, (h31.1.1 79)⟩, ⟨⟨rfl, ((h31.2.2 c33).2.2.2.2.2 c37).1.1, ((h31.2.2 c33).2.2.2.2.2 c37).1.2⟩, ⟨⟨rfl, (h31.1.1 50)⟩, ⟨⟨rfl, (h31.2.2 c33).1.1, (h31.2.2 c33).1.2⟩, ⟨fun c39 => ⟨⟨rfl, (h31.1.1 80)⟩, ⟨⟨rfl, ((h31.2.2 c33).2.2.2.2.2 c37).1.1, ((h31.2.2 c33).2.2.2.2.2 c37).1.2⟩, ⟨⟨(((h31.2.2 c33).2.2.2.2.2 c37).2.1 c39).1.1, (((h31.2.2 c33).2.2.2.2.2 c37).2.1 c39).1.2⟩, am_wEF_ok (orc []) 200 (⟨fun c40 => ⟨(Or.inl rfl), ⟨fun _ => ⟨fun _ => ⟨⟨((((h31.2.2 c33).2.2.2.2.2 c37).2.1 c39).2.1 c40).1.1, ((((h31.2.2 c33).2.2.2.2.2 c37).2.1 c39).2.1 c40).1.2.1⟩, ⟨⟨((((h31.2.2 c33).2.2.2.2.2 c37).2.1 c39).2.1 c40).1.2.2.1, ((((h31.2.2 c33).2.2.2.2.2 c37).2.1 c39).2.1 c40).1.2.2.2⟩, ((((h31.2.2 c33).2.2.2.2.2 c37).2.1 c39).2.1 c40).2⟩⟩, fun c => absurd (by decide : (0 : Int) = 0) c⟩, fun c => absurd (by decide : (0 : Int) = 0) c⟩⟩, fun c40 => ⟨fun c41 => ⟨(Or.inl rfl), ⟨fun _ => ⟨fun _ => ⟨⟨(((((h31.2.2 c33).2.2.2.2.2 c37).2.1 c39).2.2 c40).1 c41).1.1, (((((h31.2.2 c33).2.2.2.2.2 c37).2.1 c39).2.2 c40).1 c41).1.2.1⟩, ⟨⟨(((((h31.2.2 c33).2.2.2.2.2 c37).2.1 c39).2.2 c40).1 c41).1.2.2.1, (((((h31.2.2 c33).2.2.2.2.2 c37).2.1 c39).2.2 c40).1 c41).1.2.2.2⟩, (((((h31.2.2 c33).2.2.2.2.2 c37).2.1 c39).2.2 c40).1 c41).2⟩⟩, fun c => absurd (by decide : (0 : Int) = 0) c⟩, fun c => absurd (by decide : (0 : Int) = 0) c⟩⟩, fun c41 => ⟨(Or.inr rfl), ⟨fun c => absurd c (by decide : ¬ ((1 : Int) = 0)), fun _ => ⟨fun c => absurd c (by decide : ¬ ((1 : Int) = 0)), fun _ => ⟨⟨(((((h31.2.2 c33).2.2.2.2.2 c37).2.1 c39).2.2 c40).2 c41).1.1, (((((h31.2.2 c33).2.2.2.2.2 c37).2.1 c39).2.2 c40).2 c41).1.2⟩, ⟨⟨rfl, (h31.1.1 80)⟩, ⟨⟨rfl, ((h31.2.2 c33).2.2.2.2.2 c37).1.1, ((h31.2.2 c33).2.2.2.2.2 c37).1.2⟩, ⟨rfl, (am_cV (((((h31.2.2 c33).2.2.2.2.2 c37).2.1 c39).2.2 c40).2 c41).2 fun s42 h42 => ⟨⟨h42.2.1.1, h42.2.1.2⟩, ⟨⟨(((((h31.2.2 c33).2.2.2.2.2 c37).2.1 c39).2.2 c40).2 c41).1.1, (((((h31.2.2 c33).2.2.2.2.2 c37).2.1 c39).2.2 c40).2 c41).1.2⟩, h42.2.2⟩⟩)⟩⟩⟩⟩⟩⟩⟩⟩⟩)⟩⟩⟩, fun c39 => ⟨fun _ => ⟨⟨(((h31.2.2 c33).2.2.2.2.2 c37).2.2 c39).1.1, (((h31.2.2 c33).2.2.2.2.2 c37).2.2 c39).1.2.1⟩, ⟨⟨(((h31.2.2 c33).2.2.2.2.2 c37).2.2 c39).1.2.2.1, (((h31.2.2 c33).2.2.2.2.2 c37).2.2 c39).1.2.2.2⟩, (((h31.2.2 c33).2.2.2.2.2 c37).2.2 c39).2⟩⟩, fun c => absurd (by decide : (0 : Int) = 0) c⟩⟩⟩⟩⟩⟩⟩⟩)⟩⟩))⟩⟩⟩)⟩⟩⟩⟩⟩)⟩)⟩⟩, fun c29 => ⟨rfl, am_use (fun H47 => ⟨fun c44 => (Eq.mp (congrArg (fun z => am_Runs _ _ _ _ _ _ (qi z :: _) _ _) (if_pos c44 : (if (sI s27 31 76) ≤ v2 then (0 : Int) else if (sI s27 81 (Int.toNat v2)) = (-1) then (if (sI s27 82 (Int.toNat v2)) = x9 then (1 : Int) else 0 : Int) else 0) = 0)) H47), fun c44 => ⟨⟨rfl, (h27.1.1 79)⟩, ⟨⟨rfl, ((h27.2.2 c29).1.1 c44), ((h27.2.2 c29).1.2.1 c44)⟩, ⟨fun c45 => ⟨⟨rfl, (h27.1.1 80)⟩, ⟨⟨rfl, (((h27.2.2 c29).1.2.2.1 c44) c45), (((h27.2.2 c29).1.2.2.2 c44) c45)⟩, ⟨fun c46 => (Eq.mp (congrArg (fun z => am_Runs _ _ _ _ _ _ (qi z :: _) _ _) (Eq.trans (if_neg c44 : (if (sI s27 31 76) ≤ v2 then (0 : Int) else if (sI s27 81 (Int.toNat v2)) = (-1) then (if (sI s27 82 (Int.toNat v2)) = x9 then (1 : Int) else 0 : Int) else 0) = if (sI s27 81 (Int.toNat v2)) = (-1) then (if (sI s27 82 (Int.toNat v2)) = x9 then (1 : Int) else 0 : Int) else 0) (Eq.trans (if_pos c45 : (if (sI s27 81 (Int.toNat v2)) = (-1) then (if (sI s27 82 (Int.toNat v2)) = x9 then (1 : Int) else 0 : Int) else 0) = if (sI s27 82 (Int.toNat v2)) = x9 then (1 : Int) else 0) (if_pos c46 : (if (sI s27 82 (Int.toNat v2)) = x9 then (1 : Int) else 0) = 1)))) H47), fun c46 => (Eq.mp (congrArg (fun z => am_Runs _ _ _ _ _ _ (qi z :: _) _ _) (Eq.trans (if_neg c44 : (if (sI s27 31 76) ≤ v2 then (0 : Int) else if (sI s27 81 (Int.toNat v2)) = (-1) then (if (sI s27 82 (Int.toNat v2)) = x9 then (1 : Int) else 0 : Int) else 0) = if (sI s27 81 (Int.toNat v2)) = (-1) then (if (sI s27 82 (Int.toNat v2)) = x9 then (1 : Int) else 0 : Int) else 0) (Eq.trans (if_pos c45 : (if (sI s27 81 (Int.toNat v2)) = (-1) then (if (sI s27 82 (Int.toNat v2)) = x9 then (1 : Int) else 0 : Int) else 0) = if (sI s27 82 (Int.toNat v2)) = x9 then (1 : Int) else 0) (if_neg c46 : (if (sI s27 82 (Int.toNat v2)) = x9 then (1 : Int) else 0) = 0)))) H47)⟩⟩⟩, fun c45 => (Eq.mp (congrArg (fun z => am_Runs _ _ _ _ _ _ (qi z :: _) _ _) (Eq.trans (if_neg c44 : (if (sI s27 31 76) ≤ v2 then (0 : Int) else if (sI s27 81 (Int.toNat v2)) = (-1) then (if (sI s27 82 (Int.toNat v2)) = x9 then (1 : Int) else 0 : Int) else 0) = if (sI s27 81 (Int.toNat v2)) = (-1) then (if (sI s27 82 (Int.toNat v2)) = x9 then (1 : Int) else 0 : Int) else 0) (if_neg c45 : (if (sI s27 81 (Int.toNat v2)) = (-1) then (if (sI s27 82 (Int.toNat v2)) = x9 then (1 : Int) else 0 : Int) else 0) = 0))) H47)⟩⟩⟩⟩) (am_wEC_ok (orc []) [65, 148] 200 (⟨⟨(h27.2.2 c29).2.1.1, (h27.2.2 c29).2.1.2.1⟩, ⟨⟨(h27.2.2 c29).2.1.2.2.1, (h27.2.2 c29).2.1.2.2.2⟩, (h27.2.2 c29).2.2⟩⟩))⟩⟩)⟩⟩, fun c26 => ((h9.2.2 c11).2 c26)⟩⟩)⟩⟩⟩)

def ckW (d : Nat) (v1 v2 x9 : Int) (s12 : am_S) (K : Int → am_S → Prop) : Prop :=
              (0 ≤ v1 ∧ v1 < 14) ∧
              (0 ≤ (sI s12 31 36) ∧ (sI s12 31 36) < 12) ∧
              ((((sI s12 41 (Int.toNat (sI s12 31 36))) = 6) → -2147483648 ≤ 3 * (sI s12 31 36)) ∧ (((sI s12 41 (Int.toNat (sI s12 31 36))) = 6) → 3 * (sI s12 31 36) < 2147483648) ∧ (((sI s12 41 (Int.toNat (sI s12 31 36))) = 6) → (sI s12 47 (Int.toNat (sI s12 31 36))) ≠ 0) ∧ (((sI s12 41 (Int.toNat (sI s12 31 36))) = 6) → -2147483648 ≤ (3 * (sI s12 31 36)) + (Int.tmod (sI s12 55 (Int.toNat v1)) (sI s12 47 (Int.toNat (sI s12 31 36))))) ∧ (((sI s12 41 (Int.toNat (sI s12 31 36))) = 6) → (3 * (sI s12 31 36)) + (Int.tmod (sI s12 55 (Int.toNat v1)) (sI s12 47 (Int.toNat (sI s12 31 36)))) < 2147483648) ∧ (((sI s12 41 (Int.toNat (sI s12 31 36))) = 6) → 0 ≤ ((3 * (sI s12 31 36)) + (Int.tmod (sI s12 55 (Int.toNat v1)) (sI s12 47 (Int.toNat (sI s12 31 36)))))) ∧ (((sI s12 41 (Int.toNat (sI s12 31 36))) = 6) → ((3 * (sI s12 31 36)) + (Int.tmod (sI s12 55 (Int.toNat v1)) (sI s12 47 (Int.toNat (sI s12 31 36))))) < 36)) ∧
              (0 ≤ (if (sI s12 41 (Int.toNat (sI s12 31 36))) = 6 then (sI s12 46 (Int.toNat ((3 * (sI s12 31 36)) + (Int.tmod (sI s12 55 (Int.toNat v1)) (sI s12 47 (Int.toNat (sI s12 31 36)))))) : Int) else (sI s12 31 36)) ∧ (if (sI s12 41 (Int.toNat (sI s12 31 36))) = 6 then (sI s12 46 (Int.toNat ((3 * (sI s12 31 36)) + (Int.tmod (sI s12 55 (Int.toNat v1)) (sI s12 47 (Int.toNat (sI s12 31 36)))))) : Int) else (sI s12 31 36)) < 12) ∧
              (((sI s12 31 76) ≤ v2 →
                (-2147483648 ≤ v2 + 1 ∧ v2 + 1 < 2147483648 ∧ -2147483648 ≤ v1 + 1 ∧ v1 + 1 < 2147483648) ∧
                am_Runs PP MLL (d + 4) m_M_check 23 [some (qr (31, 12, 89)), some (qi (v1 + 1)), some (qi (v2 + 1)), some (qi 1), some (qi 0), some (qi x9), some (qi (mo (sI s12 41 (Int.toNat (if (sI s12 41 (Int.toNat (sI s12 31 36))) = 6 then (sI s12 46 (Int.toNat ((3 * (sI s12 31 36)) + (Int.tmod (sI s12 55 (Int.toNat v1)) (sI s12 47 (Int.toNat (sI s12 31 36)))))) : Int) else (sI s12 31 36))))))] [] s12 (kI K)) ∧
              (¬ ((sI s12 31 76) ≤ v2) →
                (0 ≤ v2 ∧ v2 < 600) ∧
                (((sI s12 81 (Int.toNat v2)) = (sI s12 60 (Int.toNat v1)) →
                  (-2147483648 ≤ -(mo (sI s12 41 (Int.toNat (if (sI s12 41 (Int.toNat (sI s12 31 36))) = 6 then (sI s12 46 (Int.toNat ((3 * (sI s12 31 36)) + (Int.tmod (sI s12 55 (Int.toNat v1)) (sI s12 47 (Int.toNat (sI s12 31 36)))))) : Int) else (sI s12 31 36))))) ∧ -(mo (sI s12 41 (Int.toNat (if (sI s12 41 (Int.toNat (sI s12 31 36))) = 6 then (sI s12 46 (Int.toNat ((3 * (sI s12 31 36)) + (Int.tmod (sI s12 55 (Int.toNat v1)) (sI s12 47 (Int.toNat (sI s12 31 36)))))) : Int) else (sI s12 31 36))))) < 2147483648) ∧
                  (((sI s12 82 (Int.toNat v2)) < (-(mo (sI s12 41 (Int.toNat (if (sI s12 41 (Int.toNat (sI s12 31 36))) = 6 then (sI s12 46 (Int.toNat ((3 * (sI s12 31 36)) + (Int.tmod (sI s12 55 (Int.toNat v1)) (sI s12 47 (Int.toNat (sI s12 31 36)))))) : Int) else (sI s12 31 36)))))) →
                    (-2147483648 ≤ v2 + 1 ∧ v2 + 1 < 2147483648 ∧ -2147483648 ≤ v1 + 1 ∧ v1 + 1 < 2147483648) ∧
                    am_Runs PP MLL (d + 4) m_M_check 23 [some (qr (31, 12, 89)), some (qi (v1 + 1)), some (qi (v2 + 1)), some (qi 1), some (qi 0), some (qi x9), some (qi (mo (sI s12 41 (Int.toNat (if (sI s12 41 (Int.toNat (sI s12 31 36))) = 6 then (sI s12 46 (Int.toNat ((3 * (sI s12 31 36)) + (Int.tmod (sI s12 55 (Int.toNat v1)) (sI s12 47 (Int.toNat (sI s12 31 36)))))) : Int) else (sI s12 31 36))))))] [] s12 (kI K)) ∧
                  (¬ ((sI s12 82 (Int.toNat v2)) < (-(mo (sI s12 41 (Int.toNat (if (sI s12 41 (Int.toNat (sI s12 31 36))) = 6 then (sI s12 46 (Int.toNat ((3 * (sI s12 31 36)) + (Int.tmod (sI s12 55 (Int.toNat v1)) (sI s12 47 (Int.toNat (sI s12 31 36)))))) : Int) else (sI s12 31 36))))))) →
                    (((mo (sI s12 41 (Int.toNat (if (sI s12 41 (Int.toNat (sI s12 31 36))) = 6 then (sI s12 46 (Int.toNat ((3 * (sI s12 31 36)) + (Int.tmod (sI s12 55 (Int.toNat v1)) (sI s12 47 (Int.toNat (sI s12 31 36)))))) : Int) else (sI s12 31 36))))) < (sI s12 82 (Int.toNat v2)) →
                      (-2147483648 ≤ v2 + 1 ∧ v2 + 1 < 2147483648 ∧ -2147483648 ≤ v1 + 1 ∧ v1 + 1 < 2147483648) ∧
                      am_Runs PP MLL (d + 4) m_M_check 23 [some (qr (31, 12, 89)), some (qi (v1 + 1)), some (qi (v2 + 1)), some (qi 1), some (qi 0), some (qi x9), some (qi (mo (sI s12 41 (Int.toNat (if (sI s12 41 (Int.toNat (sI s12 31 36))) = 6 then (sI s12 46 (Int.toNat ((3 * (sI s12 31 36)) + (Int.tmod (sI s12 55 (Int.toNat v1)) (sI s12 47 (Int.toNat (sI s12 31 36)))))) : Int) else (sI s12 31 36))))))] [] s12 (kI K)) ∧
                    (¬ ((mo (sI s12 41 (Int.toNat (if (sI s12 41 (Int.toNat (sI s12 31 36))) = 6 then (sI s12 46 (Int.toNat ((3 * (sI s12 31 36)) + (Int.tmod (sI s12 55 (Int.toNat v1)) (sI s12 47 (Int.toNat (sI s12 31 36)))))) : Int) else (sI s12 31 36))))) < (sI s12 82 (Int.toNat v2))) →
                      (-2147483648 ≤ v1 + 1 ∧ v1 + 1 < 2147483648) ∧
                      am_Calls PP MLL (d + 4) m_M_makeCase [qr (31, 12, 89), qi v1, qi (v1 + 1), qi (sI s12 82 (Int.toNat v2))] s12 (kV fun s23 =>
                        (MF s23 ∧ sI s23 31 26 = 0) ∧
                        (-2147483648 ≤ v2 + 1 ∧ v2 + 1 < 2147483648) ∧
                        am_Runs PP MLL (d + 4) m_M_check 23 [some (qr (31, 12, 89)), some (qi (v1 + 1)), some (qi (v2 + 1)), some (qi 1), some (qi 1), some (qi x9), some (qi (mo (sI s12 41 (Int.toNat (if (sI s12 41 (Int.toNat (sI s12 31 36))) = 6 then (sI s12 46 (Int.toNat ((3 * (sI s12 31 36)) + (Int.tmod (sI s12 55 (Int.toNat v1)) (sI s12 47 (Int.toNat (sI s12 31 36)))))) : Int) else (sI s12 31 36))))))] [] s23 (kI K))))))) ∧
                (¬ ((sI s12 81 (Int.toNat v2)) = (sI s12 60 (Int.toNat v1))) →
                  (-2147483648 ≤ v2 + 1 ∧ v2 + 1 < 2147483648 ∧ -2147483648 ≤ v1 + 1 ∧ v1 + 1 < 2147483648) ∧
                  am_Runs PP MLL (d + 4) m_M_check 23 [some (qr (31, 12, 89)), some (qi (v1 + 1)), some (qi (v2 + 1)), some (qi 1), some (qi 0), some (qi x9), some (qi (mo (sI s12 41 (Int.toNat (if (sI s12 41 (Int.toNat (sI s12 31 36))) = 6 then (sI s12 46 (Int.toNat ((3 * (sI s12 31 36)) + (Int.tmod (sI s12 55 (Int.toNat v1)) (sI s12 47 (Int.toNat (sI s12 31 36)))))) : Int) else (sI s12 31 36))))))] [] s12 (kI K)))))
def ckR (d : Nat) (v1 v2 v3 v4 : Int) (s : am_S) (K : Int → am_S → Prop) : Prop := ∀ z5 z6, am_Runs PP MLL (d + 4) m_M_check 23 [some (qr (31, 12, 89)), some (qi v1), some (qi v2), some (qi v3), some (qi v4), z5, z6] [] s (kI K)
def cki (f : Nat → Nat → Option Nat) : Nat → Nat → Nat → Option Nat
  | 0, _, a => some a
  | q + 1, j, a => match f j a with
    | none => none
    | some a' => cki f q (j + 1) a'
noncomputable def ck1 (X : sX) (r1 r2 : Nat → Int) (m : Nat) (c : Nat → Int) (a : Nat) : Option Nat := if a < m ∧ r1 a = -1 ∧ r2 a = mn X c then some (a + 1) else none
/-- rows are gone through -/
noncomputable def ck (X : sX) (r1 r2 : Nat → Int) (m : Nat) : Nat → (Nat → Int) → Nat → Nat → Option Nat
  | 0, c, _, a => if mn X c < 2 then none else ck1 X r1 r2 m c a
  | n + 1, c, k, a => if mn X c < 2 then none else @ite _ (big X (n + 1) c) (Classical.propDecidable _) (ck1 X r1 r2 m c a) (cki (fun j a => if a < m ∧ r1 a = (j : Int) ∧ -mo (xK X k) ≤ r2 a ∧ r2 a ≤ mo (xK X k) then ck X r1 r2 m n (mkc X c k (sdw X c (wAt X c j)) (r2 a)) (k + 1) (a + 1) else none) (wct X c) 0 a)
/-- one weighing of a case -/
noncomputable def ckF (X : sX) (r1 r2 : Nat → Int) (m n : Nat) (c : Nat → Int) (k j a : Nat) : Option Nat := if a < m ∧ r1 a = (j : Int) ∧ -mo (xK X k) ≤ r2 a ∧ r2 a ≤ mo (xK X k) then ck X r1 r2 m n (mkc X c k (sdw X c (wAt X c j)) (r2 a)) (k + 1) (a + 1) else none
theorem ck_2q {X : sX} {r1 r2 : Nat → Int} {m n k a : Nat} {c : Nat → Int} (h : mn X c < 2) : ck X r1 r2 m n c k a = none := by
  cases n with
  | zero => show (if mn X c < 2 then none else ck1 X r1 r2 m c a) = none; rw [if_pos h]
  | succ n => unfold ck; rw [if_pos h]
theorem ck_b {X : sX} {r1 r2 : Nat → Int} {m n k a : Nat} {c : Nat → Int} (h : ¬ mn X c < 2) (hb : big X n c) : ck X r1 r2 m n c k a = ck1 X r1 r2 m c a := by
  cases n with
  | zero => show (if mn X c < 2 then none else ck1 X r1 r2 m c a) = _; rw [if_neg h]
  | succ n => unfold ck; rw [if_neg h, if_pos hb]
theorem ck_s {X : sX} {r1 r2 : Nat → Int} {m n k a : Nat} {c : Nat → Int} (h : ¬ mn X c < 2) (hb : ¬ big X (n + 1) c) : ck X r1 r2 m (n + 1) c k a = cki (ckF X r1 r2 m n c k) (wct X c) 0 a := by
  have e : ck X r1 r2 m (n + 1) c k a = if mn X c < 2 then none else @ite _ (big X (n + 1) c) (Classical.propDecidable _) (ck1 X r1 r2 m c a) (cki (ckF X r1 r2 m n c k) (wct X c) 0 a) := rfl
  rw [e, if_neg h, if_neg hb]
theorem ckF_n {X : sX} {r1 r2 : Nat → Int} {m n k j a : Nat} {c : Nat → Int} (h : ¬ (a < m ∧ r1 a = (j : Int) ∧ -mo (xK X k) ≤ r2 a ∧ r2 a ≤ mo (xK X k))) : ckF X r1 r2 m n c k j a = none := by
  unfold ckF
  rw [if_neg h]
theorem ckF_y {X : sX} {r1 r2 : Nat → Int} {m n k j a : Nat} {c : Nat → Int} (h : a < m ∧ r1 a = (j : Int) ∧ -mo (xK X k) ≤ r2 a ∧ r2 a ≤ mo (xK X k)) : ckF X r1 r2 m n c k j a = ck X r1 r2 m n (mkc X c k (sdw X c (wAt X c j)) (r2 a)) (k + 1) (a + 1) := by
  unfold ckF
  rw [if_pos h]
theorem cki_n {f : Nat → Nat → Option Nat} {q j a : Nat} (h : f j a = none) : cki f (q + 1) j a = none := by
  unfold cki
  rw [h]
theorem cki_y {f : Nat → Nat → Option Nat} {q j a a' : Nat} (h : f j a = some a') : cki f (q + 1) j a = cki f q (j + 1) a' := by
  have e : cki f (q + 1) j a = match f j a with | none => none | some a' => cki f q (j + 1) a' := rfl
  rw [e, h]
theorem ckFail (d : Nat) {v1 v2 v3 : Int} {s : am_S} {K : Int → am_S → Prop} (hF : MF s) (hT : sI s 31 26 = 0) (h : K 0 s) : ckR d v1 v2 v3 0 s K := by
  intro z5 z6
  refine v_M_check_23 d v1 v2 v3 0 z5 z6 s K hF hT ⟨fun _ => ?_, fun _ => ⟨fun _ => h, fun q => absurd rfl q⟩⟩
  rw [if_pos rfl]
  exact h
def ckC (s : am_S) (r1 r2 : Nat → Int) (m : Nat) : Prop := sI s 81 = r1 ∧ sI s 82 = r2 ∧ sI s 31 76 = m ∧ m ≤ 600
theorem ckC_N {σ s : am_S} {r1 r2 : Nat → Int} {m f : Nat} (h : ckC σ r1 r2 m) (hf : NFr σ s f) : ckC s r1 r2 m := ⟨(hf.1.2.1 81 (by decide) (by decide)).trans h.1, (hf.1.2.1 82 (by decide) (by decide)).trans h.2.1, (hf.1.2.2.1 76 (by decide) (by decide) (by decide) (by decide) (by decide)).trans h.2.2.1, h.2.2.2⟩
theorem ck_case (d : Nat) {R ob nb m : Nat} {X : sX} {tr : Nat → Nat} {r1 r2 : Nat → Int} {K : Int → am_S → Prop} : ∀ (n : Nat) (c : Nat → Int) (k lv a : Nat) {σ : am_S}, mPB σ R X ob nb tr → lv + n ≤ 6 → k + n ≤ 58 → a ≤ 100000 → CV X c → LA σ lv X c n k → ckC σ r1 r2 m → (∀ s a', ck X r1 r2 m n c k a = some a' → a' ≤ m → NFr σ s lv → mPB s R X ob nb tr → ckR d ((lv : Int) + -1) (a' : Int) 0 1 s K) → (ck X r1 r2 m n c k a = none → ∀ s, NFr σ s lv → mPB s R X ob nb tr → K 0 s) → (a ≤ m) → ckR d (lv : Int) (a : Int) 1 1 σ K
  | n, c, k, lv, a, σ, hB, hn, hk, ha, hcv, hA, hC, h1, h2, ham => by
    intro z5 z6
    have xv := hB.2.1.1
    have T26 := hB.2.1.2.2.2.2.2.2.2.2.2.2.2.2.2
    have hCm := hC.2.2.2
    have toom : ∀ (_ : ¬ mn X c < 2) (_ : big X n c), ((¬ ((sI σ 31 76) ≤ (a : Int)) → 0 ≤ (a : Int)) ∧ (¬ ((sI σ 31 76) ≤ (a : Int)) → (a : Int) < 600) ∧ (¬ ((sI σ 31 76) ≤ (a : Int)) → (((sI σ 81 (Int.toNat (a : Int))) = (-1)) → 0 ≤ (a : Int))) ∧ (¬ ((sI σ 31 76) ≤ (a : Int)) → (((sI σ 81 (Int.toNat (a : Int))) = (-1)) → (a : Int) < 600))) ∧
                (-2147483648 ≤ (a : Int) + 1 ∧ (a : Int) + 1 < 2147483648 ∧ -2147483648 ≤ (lv : Int) + (-1) ∧ (lv : Int) + (-1) < 2147483648) ∧
                am_Runs PP MLL (d + 4) m_M_check 23 [some (qr (31, 12, 89)), some (qi ((lv : Int) + (-1))), some (qi ((a : Int) + 1)), some (qi 0), some (qi (if (sI σ 31 76) ≤ (a : Int) then (0 : Int) else (if (sI σ 81 (Int.toNat (a : Int))) = (-1) then (if (sI σ 82 (Int.toNat (a : Int))) = mn X c then (1 : Int) else 0 : Int) else 0))), some (qi (mn X c)), z6] [] σ (kI K) := by
      intro hm hb
      obtain ⟨c1, c2, c3, c4⟩ := hC
      have e := ck_b (r1 := r1) (r2 := r2) (m := m) (k := k) (a := a) hm hb
      rw [e] at h1 h2
      unfold ck1 at h1 h2
      rw [c3, c1, c2, Int.toNat_natCast]
      refine ⟨⟨fun q => by omega, fun q => by omega, fun q _ => by omega, fun q _ => by omega⟩, by omega, ?_⟩
      by_cases g : a < m ∧ r1 a = -1 ∧ r2 a = mn X c
      · rw [if_pos g] at h1 h2
        rw [if_neg (by omega), if_pos g.2.1, if_pos g.2.2, show (a : Int) + 1 = ((a + 1 : Nat) : Int) by omega]
        exact h1 σ (a + 1) rfl (by omega) (NFr_rf σ lv) hB _ _
      · rw [if_neg g] at h1 h2
        have v0 : (if (m : Int) ≤ (a : Int) then (0 : Int) else (if r1 a = (-1) then (if r2 a = mn X c then (1 : Int) else 0 : Int) else 0)) = 0 := by
          by_cases g1 : (m : Int) ≤ (a : Int)
          · rw [if_pos g1]
          · by_cases g2 : r1 a = -1
            · by_cases g3 : r2 a = mn X c
              · exact absurd ⟨by omega, g2, g3⟩ g
              · rw [if_neg g1, if_pos g2, if_neg g3]
            · rw [if_neg g1, if_neg g2]
        rw [v0]
        exact ckFail d hB.1 T26 (h2 rfl σ (NFr_rf σ lv) hB) _ _
    refine v_M_check_23 d (lv : Int) (a : Int) 1 1 z5 z6 σ K hB.1 T26 ⟨fun q => absurd q (by omega), fun _ => ⟨fun q => absurd q (by decide), fun _ => ?_⟩⟩
    refine c_M_manyAt (d + 3) hB.1 (by omega) hB.2.1.2.2.1 xv.2.1 hA.1 ⟨⟨hB.1, T26⟩, fun q => absurd q (by decide), fun _ => ⟨fun hm2 => ?_, fun hm2 => ckFail d hB.1 T26 (h2 (ck_2q (by omega)) σ (NFr_rf σ lv) hB) _ _⟩⟩
    have hm : ¬ mn X c < 2 := by omega
    refine c_M_isTooMuch d hB.1 hB.2.1 (by omega) hA.2.1 (by omega) (fun hb => ⟨⟨hB.1, T26⟩, fun q => absurd q (by decide), fun _ => toom hm hb⟩) (fun hb => ⟨⟨hB.1, T26⟩, fun _ => ?_, fun q => absurd rfl q⟩)
    have n0 : ¬ n = 0 := fun e => hb (Or.inl e)
    obtain ⟨n', en⟩ : ∃ n', n = n' + 1 := ⟨n - 1, by omega⟩
    subst en
    have ec := ck_s (r1 := r1) (r2 := r2) (m := m) (k := k) (a := a) hm hb
    rw [ec] at h1 h2
    have J : ∀ q j a s, j + q = wct X c → 0 < q → a ≤ m → True ∨ True → NFr σ s lv → mPB s R X ob nb tr → LA s lv X c (n' + 1) k → LW s lv X c j → (∀ s' a', cki (ckF X r1 r2 m n' c k) q j a = some a' → a' ≤ m → NFr σ s' lv → mPB s' R X ob nb tr → ckR d ((lv : Int) + -1) (a' : Int) 0 1 s' K) → (cki (ckF X r1 r2 m n' c k) q j a = none → ∀ s', NFr σ s' lv → mPB s' R X ob nb tr → K 0 s') → ckW d (lv : Int) (a : Int) (mn X c) s K := by
      intro q
      induction q with
      | zero => intro j a s _ hq; omega
      | succ q ih =>
        intro j a s hj _ ham _ fr Bs As Ws g1 g2
        have wb := wct_bd xv c
        have Cs := ckC_N hC fr
        obtain ⟨c1, c2, c3, c4⟩ := Cs
        have Ts := Bs.2.1.2.2.2.2.2.2.2.2.2.2.2.2.2
        obtain ⟨-, x2, x40, xs, xt, xd, x36, xo, xn, xq, xk, xl, xO', x26⟩ := Bs.2.1
        have hmo := oc_37 X k
        have wl := wr_lt (turn := k) xq xo
        have wg := wr_gd (t := k) xq xo As.2.2
        unfold ckW
        rw [x36, Int.toNat_natCast, Int.toNat_natCast, wr_eq xq xo As.2.2, Int.toNat_natCast, ← xk k, c1, c2, c3, Ws.2.1, Int.toNat_natCast, show (lv : Int) + 1 = ((lv + 1 : Nat) : Int) by omega, show (a : Int) + 1 = ((a + 1 : Nat) : Int) by omega]
        have bad : ckF X r1 r2 m n' c k j a = none → K 0 s := fun e => g2 (cki_n e) s fr Bs
        refine ⟨by omega, by omega, ⟨fun q => by omega, fun q => by omega, fun q => (wg q).1, fun q => by have := wg q; omega, fun q => by have := wg q; omega, fun q => by have := wg q; omega, fun q => by have := wg q; omega⟩, by omega, fun b1 => ⟨by omega, ckFail d Bs.1 Ts (bad (ckF_n (fun w => by omega))) _ _⟩, fun b1 => ⟨by omega, fun b2 => ⟨by omega, fun b3 => ⟨by omega, ckFail d Bs.1 Ts (bad (ckF_n (fun w => by omega))) _ _⟩, fun b3 => ⟨fun b4 => ⟨by omega, ckFail d Bs.1 Ts (bad (ckF_n (fun w => by omega))) _ _⟩, fun b4 => ⟨by omega, ?_⟩⟩⟩, fun b2 => ⟨by omega, ckFail d Bs.1 Ts (bad (ckF_n (fun w => b2 w.2.1))) _ _⟩⟩⟩
        have fy := ckF_y (X := X) (r1 := r1) (r2 := r2) (m := m) (n := n') (c := c) (k := k) (j := j) (a := a) ⟨by omega, b2, by omega, by omega⟩
        obtain ⟨c', ec'⟩ : ∃ c', c' = mkc X c k (sdw X c (wAt X c j)) (r2 a) := ⟨_, rfl⟩
        rw [← ec'] at fy
        have cv' : CV X c' := by rw [ec']; exact mkc_CV xv hcv
        refine c_M_makeCase d (k := k) (c := c) (f := sdw X c (wAt X c j)) Bs.1 Bs.2.1 (by omega) (by omega) (by omega) As.2.2 (by omega) (by rw [As.2.1]; omega) As.1 (fun q hq => ⟨Ws.2.2.2 q hq, sdw_pm X _ _ q⟩) (fun u hu => ?_)
        have fu : NFr s u (lv + 1) := MKP_N hu (Nat.le_refl _)
        have Bu : mPB u R X ob nb tr := mPB_fr Bs fu (fun i => by rw [hu.2.1 64 (by decide) (by decide) (by decide), hu.2.1 65 (by decide) (by decide) (by decide)]; exact Bs.2.2.1 i)
        have Au : LA u (lv + 1) X c' n' (k + 1) := by
          rw [← ec'] at hu
          refine ⟨fun q hq => ⟨hu.2.2.2.1 q hq, (cv' q hq).1, Int.le_trans (cv' q hq).2 (by decide)⟩, ?_, ?_⟩
          · rw [hu.2.2.2.2.2.1, As.2.1]
            omega
          · rw [hu.2.2.2.2.2.2]
            omega
        refine ⟨⟨Bu.1, Bu.2.1.2.2.2.2.2.2.2.2.2.2.2.2.2⟩, by omega, ?_⟩
        refine ck_case d n' c' (k + 1) (lv + 1) (a + 1) Bu (by omega) (by omega) (by omega) cv' Au (ckC_N ⟨c1, c2, c3, c4⟩ fu) (fun v a' ev ha' fv Bv => ?_) (fun ev v fv Bv => ?_) (by omega) _ _
        · rw [show ((lv + 1 : Nat) : Int) + -1 = (lv : Int) by omega]
          intro z5 z6
          rw [← fy] at ev
          have pv : NFr s v (lv + 1) := NFr_tr fu fv
          have Av := LA_N pv (by omega) xv.2.1 As
          have Wv := LW_N pv (by omega) xv Ws
          have frv : NFr σ v lv := NFr_tr fr (NFr_le pv (by omega))
          have Tv := Bv.2.1.2.2.2.2.2.2.2.2.2.2.2.2.2
          rw [cki_y ev] at g1 g2
          refine v_M_check_23 d (lv : Int) (a' : Int) 0 1 z5 z6 v K Bv.1 Tv ⟨fun q => absurd q (by omega), fun _ => ⟨fun q => absurd q (by decide), fun _ => ?_⟩⟩
          refine c_M_manyAt (d + 3) Bv.1 (by omega) Bv.2.1.2.2.1 xv.2.1 Av.1 ⟨⟨Bv.1, Tv⟩, fun _ => ?_, fun q => absurd rfl q⟩
          refine m_next (d + 1) (j := j) Bv.1 xv (by omega) Bv.2.1.2.1 Bv.2.2.1 Wv.1 Wv.2 (by omega) (by omega) (fun e1 _ w w1 w2 w3 => ?_) (fun w e1 _ w1 w2 w3 w4 => ?_)
          · have fw := N59_N w1 w2 w3
            have Bw : mPB w R X ob nb tr := mPB_fr Bv fw (fun i => by rw [w2 64 (by decide), w2 65 (by decide)]; exact Bv.2.2.1 i)
            refine ⟨⟨Bw.1, Bw.2.1.2.2.2.2.2.2.2.2.2.2.2.2.2⟩, fun _ => ⟨by omega, ?_⟩, fun q => absurd rfl q⟩
            have q0 : q = 0 := by omega
            subst q0
            exact g1 w a' rfl ha' (NFr_tr frv fw) Bw _ _
          · have fw := NWF_N w1
            have Bw : mPB w R X ob nb tr := mPB_fr Bv fw w2
            refine ⟨⟨Bw.1, Bw.2.1.2.2.2.2.2.2.2.2.2.2.2.2.2⟩, fun q => absurd q (by decide), fun _ => ?_⟩
            exact ih (j + 1) a' w (by omega) (by omega) ha' (Or.inr trivial) (NFr_tr frv fw) Bw (LA_W w1 xv.2.1 Av) ⟨w3, w4⟩ g1 g2
        · rw [← fy] at ev
          exact g2 (cki_n ev) v (NFr_tr fr (NFr_le (NFr_tr fu fv) (by omega))) Bv
    refine m_grp (d + 2) hB (by omega) hA (fun t ft Bt At Gt t59 t60 => ?_)
    have Tt := Bt.2.1.2.2.2.2.2.2.2.2.2.2.2.2.2
    refine ⟨⟨Bt.1, Tt⟩, ?_⟩
    refine m_first (d + 1) Bt.1 xv (by omega) Bt.2.1.2.1 Bt.2.2.1 Gt t59 t60 (fun e1 _ w w1 w2 w3 => ?_) (fun w e1 _ w1 w2 w3 w4 => ?_)
    · have fw := N59_N w1 w2 w3
      have Bw : mPB w R X ob nb tr := mPB_fr Bt fw (fun i => by rw [w2 64 (by decide), w2 65 (by decide)]; exact Bt.2.2.1 i)
      refine ⟨⟨Bw.1, Bw.2.1.2.2.2.2.2.2.2.2.2.2.2.2.2⟩, fun _ => ⟨by omega, ?_⟩, fun q => absurd rfl q⟩
      rw [e1] at h1
      exact h1 w a rfl ham (NFr_tr ft fw) Bw _ _
    · have fw := NWF_N w1
      have Bw : mPB w R X ob nb tr := mPB_fr Bt fw w2
      refine ⟨⟨Bw.1, Bw.2.1.2.2.2.2.2.2.2.2.2.2.2.2.2⟩, fun q => absurd q (by decide), fun _ => ?_⟩
      exact J (wct X c) 0 a w (by omega) (by omega) ham (Or.inr trivial) (NFr_tr ft fw) Bw (LA_W w1 xv.2.1 At) ⟨w3, w4⟩ h1 h2
