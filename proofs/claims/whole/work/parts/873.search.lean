/-! the calls in pairs: search -/
theorem v_C_search_0 (d : Nat) (β μ κ ρ : Nat → Nat) (me : Nat → Nat → Nat) (aH nH aL nL aY nY aS nS n : Nat) (p1 p2 : Int) (σ : am_S) (K : Int → am_S → Prop) (hR : TR σ aH nH aL nL aY nY aS nS) (hB : BS σ β μ κ ρ me n) (h :
  ((p1 < 0 →
    K (-1001) σ) ∧
  (¬ (p1 < 0) →
    (((sI σ 2 5) ≤ p1 →
      K (-1001) σ) ∧
    (¬ ((sI σ 2 5) ≤ p1) →
      ((p2 < 1 →
        K (-1001) σ) ∧
      (¬ (p2 < 1) →
        ((10000 < p2 →
          K (-1001) σ) ∧
        (¬ (10000 < p2) →
          (((sI σ 3 0) = 0 →
            K (-1002) σ) ∧
          (¬ ((sI σ 3 0) = 0) →
            (((sI σ 3 0) ≤ 12 →
              (((sI σ 3 2) = 0 →
                K (-1002) σ) ∧
              (¬ ((sI σ 3 2) = 0) →
                (((sI σ 3 2) ≤ 60 →
                  (-2147483648 ≤ (sI σ 2 7) + p2 ∧ (sI σ 2 7) + p2 < 2147483648) ∧
                  ((((sI σ 2 7) + p2) ≤ 30000 →
                    (0 ≤ p1 ∧ p1 < 12 ∧ (Int.toNat p1) < n) ∧
                    am_Calls PP MLL (d + 7) m_Balance_isWhole [qr (β (Int.toNat p1), 0, 9), qi 12] σ (kI fun x10 s10 =>
                      (TR s10 aH nH aL nL aY nY aS nS ∧ BS s10 β μ κ ρ me n) ∧
                      ((x10 = 0 →
                        am_Calls PP MLL (d + 7) m_C_found [qr (2, 11, 10), qi p1, qi 1] s10 (kI fun x12 s12 =>
                          (TR s12 aH nH aL nL aY nY aS nS ∧ BS s12 β μ κ ρ me n) ∧
                          K x12 s12)) ∧
                      (¬ (x10 = 0) →
                        (-2147483648 ≤ (sI s10 2 7) + p2 ∧ (sI s10 2 7) + p2 < 2147483648) ∧
                        am_Calls PP MLL (d + 7) m_Search_begin [qr (12, 5, 18), qr (β (Int.toNat p1), 0, 9), qi (sI s10 2 6)] (putI s10 2 7 ((sI s10 2 7) + p2)) (kV fun s13 =>
                          (TR s13 aH nH aL nL aY nY aS nS ∧ BS s13 β μ κ ρ me n) ∧
                          am_Calls PP MLL (d + 7) m_Search_runOn [qr (12, 5, 18), qi p2] s13 (kV fun s14 =>
                            (TR s14 aH nH aL nL aY nY aS nS ∧ BS s14 β μ κ ρ me n) ∧
                            ((sI s14 12 13) = 0 ∨ (sI s14 12 13) = 1) ∧
                            K (if (sI s14 12 13) = 0 then (0 : Int) else 1) s14)))))) ∧
                  (¬ (((sI σ 2 7) + p2) ≤ 30000) →
                    K (-1003) σ))) ∧
                (¬ ((sI σ 3 2) ≤ 60) →
                  K (-1002) σ))))) ∧
            (¬ ((sI σ 3 0) ≤ 12) →
              K (-1002) σ))))))))))))) : am_Runs PP MLL (d + 7) m_C_search 0 [some (qr (2, 11, 10)), some (qi p1), some (qi p2)] [] σ (kI K) := am_wEC_ok (orc [(10, 3, 9, 11), (14, 3, 9, 11), (21, 3, 9, 11), (25, 3, 9, 11), (40, 9, 22, 12), (42, β (Int.toNat p1), 0, 9), (58, 12, 5, 18), (60, 9, 22, 12), (62, β (Int.toNat p1), 0, 9), (67, 12, 5, 18), (71, 12, 5, 18)]) [77] 200 (⟨rfl, am_wEF_ok (orc []) 200 (⟨fun c1 => ⟨(Or.inl rfl), ⟨fun _ => (h.1 c1), fun c => absurd (by decide : (0 : Int) = 0) c⟩⟩, fun c1 => ⟨rfl, ⟨fun c2 => ⟨(Or.inl rfl), ⟨fun _ => ((h.2 c1).1 c2), fun c => absurd (by decide : (0 : Int) = 0) c⟩⟩, fun c2 => ⟨(Or.inr rfl), ⟨fun c => absurd c (by decide : ¬ ((1 : Int) = 0)), fun _ => am_wEF_ok (orc []) 200 (⟨fun c3 => ⟨(Or.inl rfl), ⟨fun _ => (((h.2 c1).2 c2).1 c3), fun c => absurd (by decide : (0 : Int) = 0) c⟩⟩, fun c3 => ⟨fun c4 => ⟨(Or.inl rfl), ⟨fun _ => ((((h.2 c1).2 c2).2 c3).1 c4), fun c => absurd (by decide : (0 : Int) = 0) c⟩⟩, fun c4 => ⟨(Or.inr rfl), ⟨fun c => absurd c (by decide : ¬ ((1 : Int) = 0)), fun _ => ⟨⟨rfl, (hR.1 2 0 _ rfl)⟩, ⟨rfl, ⟨fun c5 => (((((h.2 c1).2 c2).2 c3).2 c4).1 c5), fun c5 => ⟨⟨rfl, (hR.1 2 0 _ rfl)⟩, ⟨rfl, ⟨fun c6 => ⟨⟨rfl, (hR.1 2 0 _ rfl)⟩, ⟨rfl, ⟨fun c7 => (((((((h.2 c1).2 c2).2 c3).2 c4).2 c5).1 c6).1 c7), fun c7 => ⟨⟨rfl, (hR.1 2 0 _ rfl)⟩, ⟨rfl, ⟨fun c8 => ⟨rfl, ⟨⟨((((((((h.2 c1).2 c2).2 c3).2 c4).2 c5).1 c6).2 c7).1 c8).1.1, ((((((((h.2 c1).2 c2).2 c3).2 c4).2 c5).1 c6).2 c7).1 c8).1.2⟩, ⟨fun c9 => ⟨⟨rfl, (hR.1 2 1 _ rfl)⟩, ⟨⟨rfl, (((((((((h.2 c1).2 c2).2 c3).2 c4).2 c5).1 c6).2 c7).1 c8).2.1 c9).1.1, (((((((((h.2 c1).2 c2).2 c3).2 c4).2 c5).1 c6).2 c7).1 c8).2.1 c9).1.2.1, (hB (Int.toNat p1) (((((((((h.2 c1).2 c2).2 c3).2 c4).2 c5).1 c6).2 c7).1 c8).2.1 c9).1.2.2).1⟩, ⟨rfl, (am_cI (((((((((h.2 c1).2 c2).2 c3).2 c4).2 c5).1 c6).2 c7).1 c8).2.1 c9).2 fun x10 s10 h10 => ⟨fun c11 => ⟨rfl, (am_cI (h10.2.1 c11) fun x12 s12 h12 => h12.2)⟩, fun c11 => ⟨rfl, ⟨⟨(h10.2.2 c11).1.1, (h10.2.2 c11).1.2⟩, ⟨rfl, ⟨⟨rfl, (h10.1.1.1 2 3 _ rfl)⟩, ⟨⟨rfl, (h10.1.1.1 2 1 _ rfl)⟩, ⟨⟨rfl, (((((((((h.2 c1).2 c2).2 c3).2 c4).2 c5).1 c6).2 c7).1 c8).2.1 c9).1.1, (((((((((h.2 c1).2 c2).2 c3).2 c4).2 c5).1 c6).2 c7).1 c8).2.1 c9).1.2.1, (h10.1.2 (Int.toNat p1) (((((((((h.2 c1).2 c2).2 c3).2 c4).2 c5).1 c6).2 c7).1 c8).2.1 c9).1.2.2).1⟩, ⟨rfl, ⟨rfl, (am_cV (h10.2.2 c11).2 fun s13 h13 => ⟨⟨rfl, (h13.1.1.1 2 3 _ rfl)⟩, ⟨rfl, (am_cV h13.2 fun s14 h14 => ⟨⟨rfl, (h14.1.1.1 2 3 _ rfl)⟩, ⟨rfl, am_wEF_ok (orc []) 200 (⟨rfl, ⟨h14.2.1, am_use (fun H16 => ⟨fun c15 => (Eq.mp (congrArg (fun z => am_Runs _ _ _ _ _ _ (qi z :: _) _ _) (if_pos c15 : (if (sI s14 12 13) = 0 then (0 : Int) else 1) = 0)) H16), fun c15 => (Eq.mp (congrArg (fun z => am_Runs _ _ _ _ _ _ (qi z :: _) _ _) (if_neg c15 : (if (sI s14 12 13) = 0 then (0 : Int) else 1) = 1)) H16)⟩) (am_wEC_ok (orc []) [77] 200 (h14.2.2))⟩⟩)⟩⟩)⟩⟩)⟩⟩⟩⟩⟩⟩⟩⟩⟩)⟩⟩⟩, fun c9 => (((((((((h.2 c1).2 c2).2 c3).2 c4).2 c5).1 c6).2 c7).1 c8).2.2 c9)⟩⟩⟩, fun c8 => ((((((((h.2 c1).2 c2).2 c3).2 c4).2 c5).1 c6).2 c7).2 c8)⟩⟩⟩⟩⟩⟩, fun c6 => ((((((h.2 c1).2 c2).2 c3).2 c4).2 c5).2 c6)⟩⟩⟩⟩⟩⟩⟩⟩⟩⟩)⟩⟩⟩⟩⟩)⟩)

theorem v_M_search_0 (d : Nat) (p1 p2 : Int) (σ : am_S) (K : Int → am_S → Prop) (hF : MF σ) (hT : sI σ 31 26 = 0) (h :
  (-2147483648 ≤ (sI σ 31 16) - 1 ∧ (sI σ 31 16) - 1 < 2147483648) ∧
  ((p1 < 0 →
    K (-1001) σ) ∧
  (¬ (p1 < 0) →
    ((((sI σ 31 16) - 1) < p1 →
      K (-1001) σ) ∧
    (¬ (((sI σ 31 16) - 1) < p1) →
      ((p2 < 1 →
        K (-1001) σ) ∧
      (¬ (p2 < 1) →
        ((10000 < p2 →
          K (-1001) σ) ∧
        (¬ (10000 < p2) →
          am_Calls PP MLL (d + 6) m_M_left [qr (31, 12, 89)] σ (kI fun x5 s5 =>
            (MF s5 ∧ sI s5 31 26 = 0) ∧
            (((sI s5 31 2) = 0 →
              K (-1002) s5) ∧
            (¬ ((sI s5 31 2) = 0) →
              ((12 < (sI s5 31 2) →
                K (-1002) s5) ∧
              (¬ (12 < (sI s5 31 2)) →
                ((x5 = 0 →
                  K (-1002) s5) ∧
                (¬ (x5 = 0) →
                  ((x5 ≤ 60 →
                    (-2147483648 ≤ (sI s5 31 38) + p2 ∧ (sI s5 31 38) + p2 < 2147483648) ∧
                    ((((sI s5 31 38) + p2) ≤ 30000 →
                      (0 ≤ p1 ∧ p1 < 12) ∧
                      ((0 ≤ (sI s5 41 (Int.toNat p1)) →
                        am_Runs PP MLL (d + 6) m_M_search 42 [some (qr (31, 12, 89)), some (qi p1), some (qi p2), some (qi x5), some (qi 1), some (qi 0)] [] s5 (kI K)) ∧
                      (¬ (0 ≤ (sI s5 41 (Int.toNat p1))) →
                        am_Runs PP MLL (d + 6) m_M_search 42 [some (qr (31, 12, 89)), some (qi p1), some (qi p2), some (qi x5), some (qi 0), some (qi 0)] [] s5 (kI K)))) ∧
                    (¬ (((sI s5 31 38) + p2) ≤ 30000) →
                      K (-1003) s5))) ∧
                  (¬ (x5 ≤ 60) →
                    K (-1002) s5)))))))))))))))))) : am_Runs PP MLL (d + 6) m_M_search 0 [some (qr (31, 12, 89)), some (qi p1), some (qi p2), none, none, none] [] σ (kI K) := am_wEF_ok (orc []) 200 (⟨rfl, am_wEF_ok (orc []) 200 (⟨rfl, ⟨⟨h.1.1, h.1.2⟩, am_wEF_ok (orc []) 200 (⟨fun c1 => ⟨(Or.inl rfl), ⟨(Or.inl rfl), ⟨fun _ => (h.2.1 c1), fun c => absurd (by decide : (0 : Int) = 0) c⟩⟩⟩, fun c1 => ⟨fun c2 => ⟨(Or.inl rfl), ⟨(Or.inl rfl), ⟨fun _ => ((h.2.2 c1).1 c2), fun c => absurd (by decide : (0 : Int) = 0) c⟩⟩⟩, fun c2 => ⟨(Or.inr rfl), ⟨(Or.inr rfl), ⟨fun c => absurd c (by decide : ¬ ((1 : Int) = 0)), fun _ => am_wEF_ok (orc []) 200 (⟨fun c3 => ⟨(Or.inl rfl), ⟨fun _ => (((h.2.2 c1).2 c2).1 c3), fun c => absurd (by decide : (0 : Int) = 0) c⟩⟩, fun c3 => ⟨fun c4 => ⟨(Or.inl rfl), ⟨fun _ => ((((h.2.2 c1).2 c2).2 c3).1 c4), fun c => absurd (by decide : (0 : Int) = 0) c⟩⟩, fun c4 => ⟨(Or.inr rfl), ⟨fun c => absurd c (by decide : ¬ ((1 : Int) = 0)), fun _ => ⟨rfl, (am_cI ((((h.2.2 c1).2 c2).2 c3).2 c4) fun x5 s5 h5 => ⟨rfl, ⟨fun c6 => (h5.2.1 c6), fun c6 => ⟨rfl, ⟨fun c7 => ((h5.2.2 c6).1 c7), fun c7 => ⟨fun c8 => (((h5.2.2 c6).2 c7).1 c8), fun c8 => ⟨fun c9 => ⟨rfl, ⟨⟨((((h5.2.2 c6).2 c7).2 c8).1 c9).1.1, ((((h5.2.2 c6).2 c7).2 c8).1 c9).1.2⟩, ⟨fun c10 => ⟨rfl, c_M_isThere _ h5.1.1 (((((h5.2.2 c6).2 c7).2 c8).1 c9).2.1 c10).1.1 (((((h5.2.2 c6).2 c7).2 c8).1 c9).2.1 c10).1.2 (fun c11 => ((((((h5.2.2 c6).2 c7).2 c8).1 c9).2.1 c10).2.1 c11)) (fun c11 => ((((((h5.2.2 c6).2 c7).2 c8).1 c9).2.1 c10).2.2 c11))⟩, fun c10 => (((((h5.2.2 c6).2 c7).2 c8).1 c9).2.2 c10)⟩⟩⟩, fun c9 => ((((h5.2.2 c6).2 c7).2 c8).2 c9)⟩⟩⟩⟩⟩⟩)⟩⟩⟩⟩⟩)⟩⟩⟩⟩⟩)⟩⟩)⟩)

theorem v_M_search_42 (d : Nat) (p1 p2 v4 v5 : Int) (z3 : Option am_V) (σ : am_S) (K : Int → am_S → Prop) (hF : MF σ) (hT : sI σ 31 26 = 0) (h :
  ((v4 = 0 →
    am_Calls PP MLL (d + 6) m_M_finds [qr (31, 12, 89), qi p1, qi 1] σ (kI fun x6 s6 =>
      (MF s6 ∧ sI s6 31 26 = 0) ∧
      K x6 s6)) ∧
  (¬ (v4 = 0) →
    (0 ≤ p1 ∧ p1 < 12) ∧
    (((sI σ 41 (Int.toNat p1)) = 6 →
      (((sI σ 47 (Int.toNat p1)) ≤ v5 →
        am_Calls PP MLL (d + 6) m_M_beginSearch [qr (31, 12, 89), qi p1] σ (kV fun s14 =>
          (MF s14 ∧ sI s14 31 26 = 0) ∧
          am_Calls PP MLL (d + 6) m_M_goesOn [qr (31, 12, 89), qi p2] s14 (kI fun x15 s15 =>
            (MF s15 ∧ sI s15 31 26 = 0) ∧
            K x15 s15))) ∧
      (¬ ((sI σ 47 (Int.toNat p1)) ≤ v5) →
        (-2147483648 ≤ 3 * p1 ∧ 3 * p1 < 2147483648 ∧ -2147483648 ≤ (3 * p1) + v5 ∧ (3 * p1) + v5 < 2147483648 ∧ 0 ≤ ((3 * p1) + v5) ∧ ((3 * p1) + v5) < 36) ∧
        (0 ≤ (sI σ 46 (Int.toNat ((3 * p1) + v5))) ∧ (sI σ 46 (Int.toNat ((3 * p1) + v5))) < 12) ∧
        ((0 ≤ (sI σ 41 (Int.toNat (sI σ 46 (Int.toNat ((3 * p1) + v5))))) →
          (-2147483648 ≤ v5 + 1 ∧ v5 + 1 < 2147483648) ∧
          am_Runs PP MLL (d + 6) m_M_search 42 [some (qr (31, 12, 89)), some (qi p1), some (qi p2), (am_cl z3), some (qi 1), some (qi (v5 + 1))] [] σ (kI K)) ∧
        (¬ (0 ≤ (sI σ 41 (Int.toNat (sI σ 46 (Int.toNat ((3 * p1) + v5)))))) →
          (-2147483648 ≤ v5 + 1 ∧ v5 + 1 < 2147483648) ∧
          am_Runs PP MLL (d + 6) m_M_search 42 [some (qr (31, 12, 89)), some (qi p1), some (qi p2), (am_cl z3), some (qi 0), some (qi (v5 + 1))] [] σ (kI K)))))) ∧
    (¬ ((sI σ 41 (Int.toNat p1)) = 6) →
      am_Calls PP MLL (d + 6) m_M_beginSearch [qr (31, 12, 89), qi p1] σ (kV fun s17 =>
        (MF s17 ∧ sI s17 31 26 = 0) ∧
        am_Calls PP MLL (d + 6) m_M_goesOn [qr (31, 12, 89), qi p2] s17 (kI fun x18 s18 =>
          (MF s18 ∧ sI s18 31 26 = 0) ∧
          K x18 s18))))))) : am_Runs PP MLL (d + 6) m_M_search 42 [some (qr (31, 12, 89)), some (qi p1), some (qi p2), z3, some (qi v4), some (qi v5)] [] σ (kI K) := am_wEF_ok (orc [(45, 41, 20, 12), (52, 47, 20, 12), (58, 46, 20, 36)]) 200 (⟨fun c5 => ⟨fun _ => ⟨rfl, (am_cI (h.1 c5) fun x6 s6 h6 => h6.2)⟩, fun c => absurd c5 c⟩, fun c5 => ⟨⟨rfl, (hF 17)⟩, ⟨⟨rfl, (h.2 c5).1.1, (h.2 c5).1.2⟩, ⟨fun c10 => ⟨⟨rfl, (hF 23)⟩, ⟨⟨rfl, (h.2 c5).1.1, (h.2 c5).1.2⟩, ⟨fun c13 => ⟨fun c => absurd c c5, fun _ => ⟨rfl, (am_cV (((h.2 c5).2.1 c10).1 c13) fun s14 h14 => ⟨rfl, (am_cI h14.2 fun x15 s15 h15 => h15.2)⟩)⟩⟩, fun c13 => ⟨⟨rfl, (hF 22)⟩, ⟨⟨(((h.2 c5).2.1 c10).2 c13).1.1, (((h.2 c5).2.1 c10).2 c13).1.2.1⟩, ⟨⟨(((h.2 c5).2.1 c10).2 c13).1.2.2.1, (((h.2 c5).2.1 c10).2 c13).1.2.2.2.1⟩, ⟨⟨rfl, (((h.2 c5).2.1 c10).2 c13).1.2.2.2.2.1, (((h.2 c5).2.1 c10).2 c13).1.2.2.2.2.2⟩, ⟨rfl, c_M_isThere _ hF (((h.2 c5).2.1 c10).2 c13).2.1.1 (((h.2 c5).2.1 c10).2 c13).2.1.2 (fun c16 => ⟨⟨((((h.2 c5).2.1 c10).2 c13).2.2.1 c16).1.1, ((((h.2 c5).2.1 c10).2 c13).2.2.1 c16).1.2⟩, ((((h.2 c5).2.1 c10).2 c13).2.2.1 c16).2⟩) (fun c16 => ⟨⟨((((h.2 c5).2.1 c10).2 c13).2.2.2 c16).1.1, ((((h.2 c5).2.1 c10).2 c13).2.2.2 c16).1.2⟩, ((((h.2 c5).2.1 c10).2 c13).2.2.2 c16).2⟩)⟩⟩⟩⟩⟩⟩⟩⟩, fun c10 => ⟨fun c => absurd c c5, fun _ => ⟨rfl, (am_cV ((h.2 c5).2.2 c10) fun s17 h17 => ⟨rfl, (am_cI h17.2 fun x18 s18 h18 => h18.2)⟩)⟩⟩⟩⟩⟩⟩)

/-- there, and so are its members -/
def whM (σ : am_S) (b : Nat) : Prop := sI σ 41 b = 6 → ∀ i : Nat, (i : Int) < sI σ 47 b → 0 ≤ sI σ 41 (mmb σ b i)
theorem l_srch (d : Nat) {b nb : Nat} {p2 : Int} {σ : am_S} {K : Int → am_S → Prop} (hF : MF σ) (hT : sI σ 31 26 = 0) (hb : b < nb) (hn : nb ≤ 12) (qv : QV σ nb)
    (hy : whM σ b → am_Calls PP MLL (d + 6) m_M_beginSearch [qr (31, 12, 89), qi (b : Int)] σ (kV fun s14 => (MF s14 ∧ sI s14 31 26 = 0) ∧ am_Calls PP MLL (d + 6) m_M_goesOn [qr (31, 12, 89), qi p2] s14 (kI fun x15 s15 => (MF s15 ∧ sI s15 31 26 = 0) ∧ K x15 s15)))
    (hx : ¬ whM σ b → am_Calls PP MLL (d + 6) m_M_finds [qr (31, 12, 89), qi (b : Int), qi 1] σ (kI fun x6 s6 => (MF s6 ∧ sI s6 31 26 = 0) ∧ K x6 s6)) (z : Option am_V) : am_Runs PP MLL (d + 6) m_M_search 42 [some (qr (31, 12, 89)), some (qi (b : Int)), some (qi p2), z, some (qi 1), some (qi 0)] [] σ (kI K) := by
  by_cases h6 : sI σ 41 b = 6
  · obtain ⟨q1, q2, q3⟩ := qv b hb h6
    have key : ∀ k i : Nat, i + k = (sI σ 47 b).toNat → (∀ j, j < i → 0 ≤ sI σ 41 (mmb σ b j)) → ∀ z, am_Runs PP MLL (d + 6) m_M_search 42 [some (qr (31, 12, 89)), some (qi (b : Int)), some (qi p2), z, some (qi 1), some (qi (i : Int))] [] σ (kI K) := by
      intro k
      induction k with
      | zero =>
        intro i hi hj z
        refine v_M_search_42 d (b : Int) p2 1 (i : Int) z σ K hF hT ⟨fun q => absurd q (by decide), fun _ => ⟨by omega, fun _ => ⟨fun _ => ?_, fun q => ?_⟩, fun q => ?_⟩⟩
        · exact hy (fun _ j hj' => hj j (by omega))
        · rw [Int.toNat_natCast] at q
          omega
        · rw [Int.toNat_natCast] at q
          exact absurd h6 q
      | succ k ih =>
        intro i hi hj z
        have em : ((3 * (b : Int)) + (i : Int)).toNat = 3 * b + i := by omega
        refine v_M_search_42 d (b : Int) p2 1 (i : Int) z σ K hF hT ?_
        rw [Int.toNat_natCast, em]
        obtain ⟨r1, r2⟩ := q3 i (by omega)
        refine ⟨fun q => absurd q (by decide), fun _ => ⟨by omega, fun _ => ⟨fun q => by omega, fun _ => ⟨by omega, by omega, fun h => ⟨by omega, ?_⟩, fun h => ⟨by omega, ?_⟩⟩⟩, fun q => absurd h6 q⟩⟩
        · exact ih (i + 1) (by omega) (fun j hj' => by
            by_cases e : j = i
            · rw [e]; exact h
            · exact hj j (by omega)) _
        · refine v_M_search_42 d (b : Int) p2 0 _ _ σ K hF hT ⟨fun _ => hx (fun w => h (w h6 i (by omega))), fun q => absurd rfl q⟩
    exact key (sI σ 47 b).toNat 0 (by omega) (fun j hj => absurd hj (Nat.not_lt_zero j)) z
  · refine v_M_search_42 d (b : Int) p2 1 0 z σ K hF hT ?_
    rw [Int.toNat_natCast]
    exact ⟨fun q => absurd q (by decide), fun _ => ⟨by omega, fun q => absurd q h6, fun _ => hy (fun q => absurd q h6)⟩⟩
theorem IB_QV {σ : am_S} {own β μ κ ρ : Nat → Nat} {me : Nat → Nat → Nat} {n c : Nat} (h : IB σ own β μ κ ρ me n c) : QV σ n := by
  intro b hb h6
  obtain ⟨d1, d2, d3, d4, d5, d6, d7, d8, d9⟩ := h.2.2.2.2.1 b hb
  have k6 : sI σ (β b) 0 = 6 := by
    rw [d3] at h6
    split at h6
    · exact h6
    · omega
  obtain ⟨v1, v2, v3, v4, v5⟩ := d9 k6
  refine ⟨by omega, by omega, fun i hi => ?_⟩
  obtain ⟨z1, z2, z3⟩ := v4 i (by omega)
  omega
theorem oqA_cg {f g : Nat → Int} {c : Int} : ∀ k, (∀ i, i < k → f i = g i) → oqA f c k = oqA g c k
  | 0, _ => rfl
  | k + 1, h => by
    show (if c = 0 then (if f k ≤ oqA f c k then oqA f c k else f k) else oqA f c k + f k) = (if c = 0 then (if g k ≤ oqA g c k then oqA g c k else g k) else oqA g c k + g k)
    rw [oqA_cg k (fun i hi => h i (by omega)), h k (by omega)]
/-- whole in the class is whole in the reference, and then the search may look -/
theorem IB_wh {σ : am_S} {own β μ κ ρ : Nat → Nat} {me : Nat → Nat → Nat} {n c b : Nat} (h : IB σ own β μ κ ρ me n c) (hb : b < n) : (sI σ (β b) 6 = 0 → (∀ i, i < κ b → i < 12 → sI σ (β (me b i)) 6 = 0) → (0 ≤ sI σ 41 b ∧ whM σ b) ∧ BLS σ own β μ κ ρ me n b) ∧ ((sI σ (β b) 6 ≠ 0 ∨ ∃ i, i < κ b ∧ i < 12 ∧ sI σ (β (me b i)) 6 ≠ 0) → sI σ 41 b < 0 ∨ (0 ≤ sI σ 41 b ∧ ¬ whM σ b)) := by
  obtain ⟨a1, a2, a3, ⟨n12, a4, a5⟩, bd, a6, a7, a8, a9, a10⟩ := h
  obtain ⟨d1, d2, d3, d4, d5, d6, d7, d8, d9⟩ := bd b hb
  have k3 : κ b ≤ 3 := by
    by_cases e : sI σ (β b) 0 = 6
    · exact (d9 e).2.1
    · rw [(d8 e).1]; omega
  constructor
  · intro t0 tm
    rw [if_pos t0] at d3
    by_cases e : sI σ (β b) 0 = 6
    · obtain ⟨v1, v2, v3, v4, v5⟩ := d9 e
      have mb : ∀ i, i < κ b → mmb σ b i = me b i ∧ sI σ 41 (me b i) = sI σ (β (me b i)) 0 ∧ sI σ (β (me b i)) 5 = mo (sI σ (β (me b i)) 0) ∧ 0 ≤ sI σ (β (me b i)) 0 := fun i hi => by
        obtain ⟨z1, z2, z3⟩ := v4 i hi
        obtain ⟨f1, f2, f3, f4, f5, f6, f7, f8, f9⟩ := bd _ z1
        refine ⟨by unfold mmb; rw [z2, Int.toNat_natCast], ?_, (f8 z3).2, f1.1⟩
        rw [f3, if_pos (tm i hi (by omega))]
      refine ⟨⟨by omega, fun _ i hi => ?_⟩, a1, a2, a3, n12, hb, k3, fun k => ?_, ?_⟩
      · obtain ⟨z1, z2, z3, z4⟩ := mb i (by omega)
        rw [z1, z2]
        exact z4
      · have hk : k % κ b < κ b := Nat.mod_lt _ (by omega)
        obtain ⟨z1, z2, z3, z4⟩ := mb (k % κ b) hk
        have ew : wr σ b k = me b (k % κ b) := by
          unfold wr
          rw [if_pos (by omega), v3, Int.toNat_natCast]
          exact z1
        have ec : cw κ me b k = me b (k % κ b) := by
          unfold cw
          rw [if_neg (by omega)]
        rw [ew, ec]
        exact ⟨(v4 _ hk).1, z2, by rw [z2]; exact z3⟩
      · unfold ownM
        rw [if_pos (by omega), v5, v3, Int.toNat_natCast]
        unfold mxQ
        refine oqA_cg _ (fun i hi => ?_)
        obtain ⟨z1, z2, z3, z4⟩ := mb i hi
        show mo (sI σ (β (me b i)) 0) = mo (sI σ 41 (mmb σ b i))
        rw [z1, z2]
    · obtain ⟨u1, u2⟩ := d8 e
      refine ⟨⟨by omega, fun q => absurd q (by omega)⟩, a1, a2, a3, n12, hb, k3, fun k => ?_, ?_⟩
      · have ew : wr σ b k = b := by unfold wr; rw [if_neg (by omega)]
        have ec : cw κ me b k = b := by unfold cw; rw [if_pos u1]
        rw [ew, ec]
        exact ⟨hb, d3, by rw [d3]; exact u2⟩
      · unfold ownM
        rw [if_neg (by omega), d3]
        exact u2
  · intro hh
    by_cases t0 : sI σ (β b) 6 = 0
    · rw [if_pos t0] at d3
      rcases hh with q | ⟨i, i1, i2, i3⟩
      · exact absurd t0 q
      · have e : sI σ (β b) 0 = 6 := Classical.byContradiction fun q => by
          have := (d8 q).1
          omega
        obtain ⟨v1, v2, v3, v4, v5⟩ := d9 e
        refine Or.inr ⟨by omega, fun w => ?_⟩
        have := w (by omega) i (by omega)
        obtain ⟨z1, z2, z3⟩ := v4 i i1
        obtain ⟨f1, f2, f3, _⟩ := bd _ z1
        rw [if_neg i3] at f3
        unfold mmb at this
        rw [z2, Int.toNat_natCast] at this
        omega
    · rw [if_neg t0] at d3
      exact Or.inl (by omega)
noncomputable def xplF (R : Nat → Nat → Nat → Nat → Prop) (g : Nat → Int) (tx : Nat → Nat) (T s a b : Nat) : Int := @dite _ (s < lfN g T ∧ ∃ u, R a b (tx s) u ∧ g u < 0 ∧ u < T) (Classical.propDecidable _) (fun h => ((lfN g (Classical.choose h.2) : Nat) : Int)) (fun _ => -1)
theorem mkX_cg {s σ : am_S} {n l m T ob : Nat} {kd : Int} (h33 : sI s 33 = sI σ 33) (h34 : sI s 34 = sI σ 34) (h35 : sI s 35 = sI σ 35) (h36 : sI s 36 = sI σ 36) (h37 : sI s 37 = sI σ 37) (h41 : sI s 41 = sI σ 41) (h46 : sI s 46 = sI σ 46) (h47 : sI s 47 = sI σ 47) (h4 : sI s 31 4 = sI σ 31 4) : mkX s n l m kd T ob = mkX σ n l m kd T ob ∧ trX s T = trX σ T ∧ cX s T = cX σ T := by
  have et : trX s T = trX σ T := by unfold trX; rw [h37]
  have er : XR s n l m kd = XR σ n l m kd := by
    unfold XR CT
    rw [h33, h34, h35]
  refine ⟨?_, et, ?_⟩
  · have f : ∀ σ, mkX σ n l m kd T ob = ((n, lfN (sI σ 37) T), (fun s a b => xplF (XR σ n l m kd) (sI σ 37) (trX σ T) T s a b), (fun f s => df f (sI σ 33) (sI σ 34) (sI σ 35) (trX σ T s)), (fun k => sI σ 41 (wr σ ob k)), sI σ 31 4, 2 * ownM σ ob + 1) := fun _ => rfl
    rw [f, f, et, er]
    unfold wr ownM mmb
    rw [h33, h34, h35, h37, h41, h46, h47, h4]
  · unfold cX
    rw [et, h36]
