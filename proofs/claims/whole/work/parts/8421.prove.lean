/-! the reference: prove -/
theorem v_M_prove_0 (d : Nat) (σ : am_S) (K : Int → am_S → Prop) (hF : MF σ) (hT : sI σ 31 26 = 0) (h :
  (((sI σ 31 73) = 0 →
    K (-1002) σ) ∧
  (¬ ((sI σ 31 73) = 0) →
    (((sI σ 31 35) = 0 →
      K (-1002) σ) ∧
    (¬ ((sI σ 31 35) = 0) →
      (((sI σ 31 78) = 0 →
        am_Calls PP MLL (d + 6) m_M_startCase [qr (31, 12, 89)] (putI (putI (putI σ 31 78 1) 31 59 0) 31 76 0) (kV fun s4 =>
          (MF s4 ∧ sI s4 31 26 = 0) ∧
          (-2147483648 ≤ (sI s4 31 35) - 1 ∧ (sI s4 31 35) - 1 < 2147483648) ∧
          am_Runs PP MLL (d + 6) m_M_prove 36 [some (qr (31, 12, 89)), some (qi 0), some (qi 1), some (qi 1), none, none] [] (putI s4 54 0 ((sI s4 31 35) - 1)) (kI K))) ∧
      (¬ ((sI σ 31 78) = 0) →
        K (-1002) σ))))))) : am_Runs PP MLL (d + 6) m_M_prove 0 [some (qr (31, 12, 89)), none, none, none, none, none] [] σ (kI K) := am_wEC_ok (orc [(23, 54, 20, 14)]) [106, 113] 200 (⟨rfl, ⟨fun c1 => (h.1 c1), fun c1 => ⟨rfl, ⟨fun c2 => ((h.2 c1).1 c2), fun c2 => ⟨rfl, ⟨fun c3 => ⟨⟨rfl, (Or.inr rfl)⟩, ⟨⟨rfl, (Or.inl rfl)⟩, ⟨rfl, ⟨rfl, (am_cV (((h.2 c1).2 c2).1 c3) fun s4 h4 => ⟨⟨rfl, (h4.1.1 44)⟩, ⟨rfl, ⟨⟨h4.2.1.1, h4.2.1.2⟩, ⟨⟨rfl, (by decide : (0 : Int) ≤ 0), (by decide : (0 : Int) < 14)⟩, h4.2.2⟩⟩⟩⟩)⟩⟩⟩⟩, fun c3 => (((h.2 c1).2 c2).2 c3)⟩⟩⟩⟩⟩⟩)

theorem v_M_prove_36 (d : Nat) (v1 v2 v3 : Int) (z4 z5 : Option am_V) (σ : am_S) (K : Int → am_S → Prop) (hF : MF σ) (hT : sI σ 31 26 = 0) (h :
  ((v1 < 0 →
    (v3 = 0 ∨ v3 = 1) ∧
    K (if v3 = 0 then ((-1003) : Int) else (if v3 = 0 then (0 : Int) else (sI σ 31 76))) (putI (putI σ 31 77 v3) 31 76 (if v3 = 0 then (0 : Int) else (sI σ 31 76)))) ∧
  (¬ (v1 < 0) →
    ((v3 = 0 →
      (v3 = 0 ∨ v3 = 1) ∧
      K (-1003) (putI (putI σ 31 77 v3) 31 76 0)) ∧
    (¬ (v3 = 0) →
      am_Calls PP MLL (d + 6) m_M_manyAt [qr (31, 12, 89), qi v1] σ (kI fun x10 s10 =>
        (MF s10 ∧ sI s10 31 26 = 0) ∧
        ((v2 = 0 →
          am_Calls PP MLL (d + 6) m_M_nextWeighing [qr (31, 12, 89), qi v1] s10 (kI fun x13 s13 =>
            (MF s13 ∧ sI s13 31 26 = 0) ∧
            ((x13 = 0 →
              (-2147483648 ≤ v1 + (-1) ∧ v1 + (-1) < 2147483648) ∧
              am_Runs PP MLL (d + 6) m_M_prove 36 [some (qr (31, 12, 89)), some (qi (v1 + (-1))), some (qi 0), some (qi v3), some (qi x10), z5] [] s13 (kI K)) ∧
            (¬ (x13 = 0) →
              am_Calls PP MLL (d + 6) m_M_firstNo [qr (31, 12, 89), qi v1] s13 (kI fun x16 s16 =>
                (MF s16 ∧ sI s16 31 26 = 0) ∧
                (0 ≤ v1 ∧ v1 < 14) ∧
                (((sI s16 31 76) = 600 →
                  (-2147483648 ≤ v1 + 1 ∧ v1 + 1 < 2147483648) ∧
                  am_Calls PP MLL (d + 6) m_M_makeCase [qr (31, 12, 89), qi v1, qi (v1 + 1), qi x16] s16 (kV fun s18 =>
                    (MF s18 ∧ sI s18 31 26 = 0) ∧
                    am_Runs PP MLL (d + 6) m_M_prove 36 [some (qr (31, 12, 89)), some (qi (v1 + 1)), some (qi 1), some (qi 0), some (qi x10), some (qi x16)] [] s18 (kI K))) ∧
                (¬ ((sI s16 31 76) = 600) →
                  (0 ≤ (sI s16 31 76) ∧ (sI s16 31 76) < 600 ∧ -2147483648 ≤ (sI s16 31 76) + 1 ∧ (sI s16 31 76) + 1 < 2147483648) ∧
                  (-2147483648 ≤ v1 + 1 ∧ v1 + 1 < 2147483648) ∧
                  am_Calls PP MLL (d + 6) m_M_makeCase [qr (31, 12, 89), qi v1, qi (v1 + 1), qi x16] (putI (putI (putI s16 81 (Int.toNat (sI s16 31 76)) (sI s16 60 (Int.toNat v1))) 82 (Int.toNat (sI s16 31 76)) x16) 31 76 ((sI s16 31 76) + 1)) (kV fun s19 =>
                    (MF s19 ∧ sI s19 31 26 = 0) ∧
                    am_Runs PP MLL (d + 6) m_M_prove 36 [some (qr (31, 12, 89)), some (qi (v1 + 1)), some (qi 1), some (qi 1), some (qi x10), some (qi x16)] [] s19 (kI K))))))))) ∧
        (¬ (v2 = 0) →
          am_Calls PP MLL (d + 6) m_M_isTooMuch [qr (31, 12, 89), qi v1, qi x10] s10 (kI fun x20 s20 =>
            (MF s20 ∧ sI s20 31 26 = 0) ∧
            ((x20 = 0 →
              am_Calls PP MLL (d + 6) m_M_groups [qr (31, 12, 89), qi v1] s20 (kV fun s23 =>
                (MF s23 ∧ sI s23 31 26 = 0) ∧
                am_Calls PP MLL (d + 6) m_M_nextWeighing [qr (31, 12, 89), qi v1] s23 (kI fun x24 s24 =>
                  (MF s24 ∧ sI s24 31 26 = 0) ∧
                  ((x24 = 0 →
                    (-2147483648 ≤ v1 + (-1) ∧ v1 + (-1) < 2147483648) ∧
                    am_Runs PP MLL (d + 6) m_M_prove 36 [some (qr (31, 12, 89)), some (qi (v1 + (-1))), some (qi 0), some (qi v3), some (qi x10), z5] [] s24 (kI K)) ∧
                  (¬ (x24 = 0) →
                    am_Calls PP MLL (d + 6) m_M_firstNo [qr (31, 12, 89), qi v1] s24 (kI fun x27 s27 =>
                      (MF s27 ∧ sI s27 31 26 = 0) ∧
                      (0 ≤ v1 ∧ v1 < 14) ∧
                      (((sI s27 31 76) = 600 →
                        (-2147483648 ≤ v1 + 1 ∧ v1 + 1 < 2147483648) ∧
                        am_Calls PP MLL (d + 6) m_M_makeCase [qr (31, 12, 89), qi v1, qi (v1 + 1), qi x27] s27 (kV fun s29 =>
                          (MF s29 ∧ sI s29 31 26 = 0) ∧
                          am_Runs PP MLL (d + 6) m_M_prove 36 [some (qr (31, 12, 89)), some (qi (v1 + 1)), some (qi 1), some (qi 0), some (qi x10), some (qi x27)] [] s29 (kI K))) ∧
                      (¬ ((sI s27 31 76) = 600) →
                        (0 ≤ (sI s27 31 76) ∧ (sI s27 31 76) < 600 ∧ -2147483648 ≤ (sI s27 31 76) + 1 ∧ (sI s27 31 76) + 1 < 2147483648) ∧
                        (-2147483648 ≤ v1 + 1 ∧ v1 + 1 < 2147483648) ∧
                        am_Calls PP MLL (d + 6) m_M_makeCase [qr (31, 12, 89), qi v1, qi (v1 + 1), qi x27] (putI (putI (putI s27 81 (Int.toNat (sI s27 31 76)) (sI s27 60 (Int.toNat v1))) 82 (Int.toNat (sI s27 31 76)) x27) 31 76 ((sI s27 31 76) + 1)) (kV fun s30 =>
                          (MF s30 ∧ sI s30 31 26 = 0) ∧
                          am_Runs PP MLL (d + 6) m_M_prove 36 [some (qr (31, 12, 89)), some (qi (v1 + 1)), some (qi 1), some (qi 1), some (qi x10), some (qi x27)] [] s30 (kI K)))))))))) ∧
            (¬ (x20 = 0) →
              (((sI s20 31 76) = 600 →
                (-2147483648 ≤ v1 + (-1) ∧ v1 + (-1) < 2147483648) ∧
                am_Runs PP MLL (d + 6) m_M_prove 36 [some (qr (31, 12, 89)), some (qi (v1 + (-1))), some (qi 0), some (qi 0), some (qi x10), z5] [] s20 (kI K)) ∧
              (¬ ((sI s20 31 76) = 600) →
                (0 ≤ (sI s20 31 76) ∧ (sI s20 31 76) < 600 ∧ -2147483648 ≤ (sI s20 31 76) + 1 ∧ (sI s20 31 76) + 1 < 2147483648) ∧
                (-2147483648 ≤ v1 + (-1) ∧ v1 + (-1) < 2147483648) ∧
                am_Runs PP MLL (d + 6) m_M_prove 36 [some (qr (31, 12, 89)), some (qi (v1 + (-1))), some (qi 0), some (qi 1), some (qi x10), z5] [] (putI (putI (putI s20 81 (Int.toNat (sI s20 31 76)) (-1)) 82 (Int.toNat (sI s20 31 76)) x10) 31 76 ((sI s20 31 76) + 1)) (kI K)))))))))))))) : am_Runs PP MLL (d + 6) m_M_prove 36 [some (qr (31, 12, 89)), some (qi v1), some (qi v2), some (qi v3), z4, z5] [] σ (kI K) := am_wEC_ok (orc [(77, 60, 20, 14)]) [106, 113] 200 (⟨fun c3 => ⟨⟨rfl, (h.1 c3).1⟩, am_use (fun H7 => ⟨fun c4 => (Eq.mp (congrArg (fun z => am_Runs _ _ _ _ _ _ (qi z :: _) _ _) (if_pos c4 : (if v3 = 0 then (0 : Int) else sI σ 31 76) = 0)) H7), fun c4 => ⟨rfl, (Eq.mp (congrArg (fun z => am_Runs _ _ _ _ _ _ (qi z :: _) _ _) (if_neg c4 : (if v3 = 0 then (0 : Int) else sI σ 31 76) = sI σ 31 76)) H7)⟩⟩) (am_wEC_ok (orc []) [106, 113] 200 (⟨rfl, am_use (fun H6 => ⟨fun c5 => (Eq.mp (congrArg (fun z => am_Runs _ _ _ _ _ _ (qi z :: _) _ _) (if_pos c5 : (if v3 = 0 then ((-1003) : Int) else if v3 = 0 then (0 : Int) else (sI σ 31 76)) = (-1003))) H6), fun c5 => ⟨rfl, (Eq.mp (congrArg (fun z => am_Runs _ _ _ _ _ _ (qi z :: _) _ _) (if_neg c5 : (if v3 = 0 then ((-1003) : Int) else if v3 = 0 then (0 : Int) else (sI σ 31 76)) = if v3 = 0 then (0 : Int) else (sI σ 31 76))) H6)⟩⟩) (am_wEC_ok (orc []) [106, 113] 200 ((h.1 c3).2))⟩))⟩, fun c3 => ⟨fun c9 => ⟨⟨rfl, ((h.2 c3).1 c9).1⟩, ⟨fun _ => am_wEC_ok (orc []) [106, 113] 200 (⟨rfl, ⟨fun _ => am_wEC_ok (orc []) [106, 113] 200 (((h.2 c3).1 c9).2), fun c => absurd c9 c⟩⟩), fun c => absurd c9 c⟩⟩, fun c9 => ⟨rfl, (am_cI ((h.2 c3).2 c9) fun x10 s10 h10 => ⟨fun c12 => ⟨fun _ => ⟨rfl, (am_cI (h10.2.1 c12) fun x13 s13 h13 => ⟨fun c15 => ⟨⟨(h13.2.1 c15).1.1, (h13.2.1 c15).1.2⟩, (h13.2.1 c15).2⟩, fun c15 => ⟨rfl, (am_cI (h13.2.2 c15) fun x16 s16 h16 => ⟨⟨rfl, (h16.1.1 50)⟩, ⟨⟨rfl, h16.2.1.1, h16.2.1.2⟩, ⟨rfl, am_wEF_ok (orc [(7, 81, 20, 600), (13, 82, 20, 600)]) 200 (⟨rfl, ⟨fun c17 => ⟨(Or.inl rfl), ⟨⟨(h16.2.2.1 c17).1.1, (h16.2.2.1 c17).1.2⟩, ⟨rfl, (am_cV (h16.2.2.1 c17).2 fun s18 h18 => ⟨⟨(h16.2.2.1 c17).1.1, (h16.2.2.1 c17).1.2⟩, h18.2⟩)⟩⟩⟩, fun c17 => ⟨⟨rfl, (h16.1.1 79)⟩, ⟨rfl, ⟨⟨rfl, (h16.2.2.2 c17).1.1, (h16.2.2.2 c17).1.2.1⟩, ⟨⟨rfl, (h16.1.1 80)⟩, ⟨rfl, ⟨⟨rfl, (h16.2.2.2 c17).1.1, (h16.2.2.2 c17).1.2.1⟩, ⟨rfl, ⟨⟨(h16.2.2.2 c17).1.2.2.1, (h16.2.2.2 c17).1.2.2.2⟩, ⟨rfl, ⟨(Or.inr rfl), ⟨⟨(h16.2.2.2 c17).2.1.1, (h16.2.2.2 c17).2.1.2⟩, ⟨rfl, (am_cV (h16.2.2.2 c17).2.2 fun s19 h19 => ⟨⟨(h16.2.2.2 c17).2.1.1, (h16.2.2.2 c17).2.1.2⟩, h19.2⟩)⟩⟩⟩⟩⟩⟩⟩⟩⟩⟩⟩⟩⟩⟩)⟩⟩⟩)⟩⟩)⟩, fun c => absurd c12 c⟩, fun c12 => ⟨rfl, (am_cI (h10.2.2 c12) fun x20 s20 h20 => ⟨fun c22 => ⟨fun c => absurd c c12, fun _ => ⟨rfl, (am_cV (h20.2.1 c22) fun s23 h23 => ⟨rfl, (am_cI h23.2 fun x24 s24 h24 => ⟨fun c26 => ⟨⟨(h24.2.1 c26).1.1, (h24.2.1 c26).1.2⟩, (h24.2.1 c26).2⟩, fun c26 => ⟨rfl, (am_cI (h24.2.2 c26) fun x27 s27 h27 => ⟨⟨rfl, (h27.1.1 50)⟩, ⟨⟨rfl, h27.2.1.1, h27.2.1.2⟩, ⟨rfl, am_wEF_ok (orc [(7, 81, 20, 600), (13, 82, 20, 600)]) 200 (⟨rfl, ⟨fun c28 => ⟨(Or.inl rfl), ⟨⟨(h27.2.2.1 c28).1.1, (h27.2.2.1 c28).1.2⟩, ⟨rfl, (am_cV (h27.2.2.1 c28).2 fun s29 h29 => ⟨⟨(h27.2.2.1 c28).1.1, (h27.2.2.1 c28).1.2⟩, h29.2⟩)⟩⟩⟩, fun c28 => ⟨⟨rfl, (h27.1.1 79)⟩, ⟨rfl, ⟨⟨rfl, (h27.2.2.2 c28).1.1, (h27.2.2.2 c28).1.2.1⟩, ⟨⟨rfl, (h27.1.1 80)⟩, ⟨rfl, ⟨⟨rfl, (h27.2.2.2 c28).1.1, (h27.2.2.2 c28).1.2.1⟩, ⟨rfl, ⟨⟨(h27.2.2.2 c28).1.2.2.1, (h27.2.2.2 c28).1.2.2.2⟩, ⟨rfl, ⟨(Or.inr rfl), ⟨⟨(h27.2.2.2 c28).2.1.1, (h27.2.2.2 c28).2.1.2⟩, ⟨rfl, (am_cV (h27.2.2.2 c28).2.2 fun s30 h30 => ⟨⟨(h27.2.2.2 c28).2.1.1, (h27.2.2.2 c28).2.1.2⟩, h30.2⟩)⟩⟩⟩⟩⟩⟩⟩⟩⟩⟩⟩⟩⟩⟩)⟩⟩⟩)⟩⟩)⟩)⟩⟩, fun c22 => ⟨rfl, am_wEF_ok (orc [(7, 81, 20, 600), (13, 82, 20, 600)]) 200 (⟨rfl, ⟨fun c31 => ⟨(Or.inl rfl), ⟨⟨((h20.2.2 c22).1 c31).1.1, ((h20.2.2 c22).1 c31).1.2⟩, ((h20.2.2 c22).1 c31).2⟩⟩, fun c31 => ⟨⟨rfl, (h20.1.1 79)⟩, ⟨rfl, ⟨⟨rfl, ((h20.2.2 c22).2 c31).1.1, ((h20.2.2 c22).2 c31).1.2.1⟩, ⟨⟨rfl, (h20.1.1 80)⟩, ⟨rfl, ⟨⟨rfl, ((h20.2.2 c22).2 c31).1.1, ((h20.2.2 c22).2 c31).1.2.1⟩, ⟨rfl, ⟨⟨((h20.2.2 c22).2 c31).1.2.2.1, ((h20.2.2 c22).2 c31).1.2.2.2⟩, ⟨rfl, ⟨(Or.inr rfl), ⟨⟨((h20.2.2 c22).2 c31).2.1.1, ((h20.2.2 c22).2 c31).2.1.2⟩, ((h20.2.2 c22).2 c31).2.2⟩⟩⟩⟩⟩⟩⟩⟩⟩⟩⟩⟩⟩)⟩⟩)⟩⟩)⟩⟩⟩)

def prR (d : Nat) (v1 v2 v3 : Int) (s : am_S) (K : Int → am_S → Prop) : Prop := ∀ z4 z5, am_Runs PP MLL (d + 6) m_M_prove 36 [some (qr (31, 12, 89)), some (qi v1), some (qi v2), some (qi v3), z4, z5] [] s (kI K)
def prW (d : Nat) (v1 x10 : Int) (s13 : am_S) (K : Int → am_S → Prop) : Prop := am_Calls PP MLL (d + 6) m_M_firstNo [qr (31, 12, 89), qi v1] s13 (kI fun x16 s16 =>
                (MF s16 ∧ sI s16 31 26 = 0) ∧
                (0 ≤ v1 ∧ v1 < 14) ∧
                (((sI s16 31 76) = 600 →
                  (-2147483648 ≤ v1 + 1 ∧ v1 + 1 < 2147483648) ∧
                  am_Calls PP MLL (d + 6) m_M_makeCase [qr (31, 12, 89), qi v1, qi (v1 + 1), qi x16] s16 (kV fun s18 =>
                    (MF s18 ∧ sI s18 31 26 = 0) ∧
                    am_Runs PP MLL (d + 6) m_M_prove 36 [some (qr (31, 12, 89)), some (qi (v1 + 1)), some (qi 1), some (qi 0), some (qi x10), some (qi x16)] [] s18 (kI K))) ∧
                (¬ ((sI s16 31 76) = 600) →
                  (0 ≤ (sI s16 31 76) ∧ (sI s16 31 76) < 600 ∧ -2147483648 ≤ (sI s16 31 76) + 1 ∧ (sI s16 31 76) + 1 < 2147483648) ∧
                  (-2147483648 ≤ v1 + 1 ∧ v1 + 1 < 2147483648) ∧
                  am_Calls PP MLL (d + 6) m_M_makeCase [qr (31, 12, 89), qi v1, qi (v1 + 1), qi x16] (putI (putI (putI s16 81 (Int.toNat (sI s16 31 76)) (sI s16 60 (Int.toNat v1))) 82 (Int.toNat (sI s16 31 76)) x16) 31 76 ((sI s16 31 76) + 1)) (kV fun s19 =>
                    (MF s19 ∧ sI s19 31 26 = 0) ∧
                    am_Runs PP MLL (d + 6) m_M_prove 36 [some (qr (31, 12, 89)), some (qi (v1 + 1)), some (qi 1), some (qi 1), some (qi x10), some (qi x16)] [] s19 (kI K)))))
/-- rows told -/
def RO (σ : am_S) (L : List (Int × Int)) : Prop := sI σ 31 76 = L.length ∧ L.length ≤ 600 ∧ ∀ i, i < L.length → sI σ 81 i = (L.getD i (0, 0)).1 ∧ sI σ 82 i = (L.getD i (0, 0)).2
theorem getD_lst : ∀ (L : List (Int × Int)) (p : Int × Int), (L ++ [p]).getD L.length (0, 0) = p
  | [], p => rfl
  | x :: L, p => getD_lst L p
theorem RO_fr {σ s : am_S} {L : List (Int × Int)} (h : RO σ L) (h1 : sI s 31 76 = sI σ 31 76) (h2 : sI s 81 = sI σ 81) (h3 : sI s 82 = sI σ 82) : RO s L := by
  unfold RO
  rw [h1, h2, h3]
  exact h
theorem RO_add {σ : am_S} {L : List (Int × Int)} {a b : Int} (h : RO σ L) (hl : L.length < 600) : RO (putI (putI (putI σ 81 L.length a) 82 L.length b) 31 76 ((L.length : Int) + 1)) (L ++ [(a, b)]) := by
  obtain ⟨h1, h2, h3⟩ := h
  have el : (L ++ [(a, b)]).length = L.length + 1 := by rw [List.length_append]; rfl
  refine ⟨?_, by rw [el]; omega, fun i hi => ?_⟩
  · rw [put_at, if_pos rfl, el]
    omega
  · rw [el] at hi
    rw [put_ne (by decide), put_ne (by decide), put_at, put_ne (by decide), put_at, put_ne (by decide)]
    by_cases e : i = L.length
    · rw [if_pos e, if_pos e, e, getD_lst]
      exact ⟨rfl, rfl⟩
    · rw [if_neg e, if_neg e, getD_pre L _ i (by omega)]
      exact h3 i (by omega)
/-- the frame of proving from level f on -/
def PFr (σ s : am_S) (f : Nat) : Prop := s.2 = σ.2 ∧ (∀ x, (x < 53 ∨ 66 < x) → x ≠ 31 → x ≠ 81 → x ≠ 82 → sI s x = sI σ x) ∧ (∀ j, j ≠ 57 → j ≠ 58 → j ≠ 76 → sI s 31 j = sI σ 31 j) ∧ (∀ j, j < 60 * f → sI s 53 j = sI σ 53 j) ∧ (∀ x, 54 ≤ x → x ≤ 61 → ∀ j, j < f → sI s x j = sI σ x j) ∧ ∀ x, 62 ≤ x → x ≤ 66 → ∀ j, j < 12 * f → sI s x j = sI σ x j
theorem PFr_rf (σ : am_S) (f : Nat) : PFr σ σ f := ⟨rfl, fun _ _ _ _ _ => rfl, fun _ _ _ _ => rfl, fun _ _ => rfl, fun _ _ _ _ _ => rfl, fun _ _ _ _ _ => rfl⟩
theorem PFr_tr {σ s t : am_S} {f : Nat} (h : PFr σ s f) (h2 : PFr s t f) : PFr σ t f := by
  obtain ⟨a1, a2, a3, a4, a5, a6⟩ := h
  obtain ⟨b1, b2, b3, b4, b5, b6⟩ := h2
  exact ⟨b1.trans a1, fun x x1 x2 x3 x4 => (b2 x x1 x2 x3 x4).trans (a2 x x1 x2 x3 x4), fun j j1 j2 j3 => (b3 j j1 j2 j3).trans (a3 j j1 j2 j3), fun j hj => (b4 j hj).trans (a4 j hj), fun x x1 x2 j hj => (b5 x x1 x2 j hj).trans (a5 x x1 x2 j hj), fun x x1 x2 j hj => (b6 x x1 x2 j hj).trans (a6 x x1 x2 j hj)⟩
theorem PFr_le {σ s : am_S} {f g : Nat} (h : PFr σ s f) (hg : g ≤ f) : PFr σ s g := ⟨h.1, h.2.1, h.2.2.1, fun j hj => h.2.2.2.1 j (by omega), fun x x1 x2 j hj => h.2.2.2.2.1 x x1 x2 j (by omega), fun x x1 x2 j hj => h.2.2.2.2.2 x x1 x2 j (by omega)⟩
theorem NFr_P {σ s : am_S} {f : Nat} (h : NFr σ s f) (h59 : sI σ 31 59 = 0) : PFr σ s f := by
  obtain ⟨⟨f1, f2, f3, f4, f5, f6, f7⟩, g1, g2, g3⟩ := h
  refine ⟨f1, fun x x1 x2 _ _ => ?_, fun j j1 j2 j3 => ?_, f4, f5, f6⟩
  · by_cases e : x ≤ 73
    · by_cases e2 : 67 ≤ x
      · exact f7 h59 x e2 e
      · exact f2 x (by omega) x2
    · exact f2 x (by omega) x2
  · by_cases e : j = 37
    · rw [e]; exact g1
    · by_cases e2 : j = 39
      · rw [e2]; exact g2
      · by_cases e3 : j = 60
        · rw [e3]; exact g3
        · exact f3 j e e2 j1 j2 e3
theorem mPB_P {σ s : am_S} {R ob nb f : Nat} {X : sX} {tr : Nat → Nat} (h : mPB σ R X ob nb tr) (hf : PFr σ s f) (hz : RZ s) : mPB s R X ob nb tr := by
  obtain ⟨h1, h2, h3, h4, h5, h6, h7, h8⟩ := h
  obtain ⟨f1, f2, f3, _⟩ := hf
  exact ⟨MF_I h1 f1, MX_fr h2 (fun x x1 x2 => f2 x (Or.inl x1) x2 (by omega) (by omega)) (fun j hj => f3 j (by omega) (by omega) (by omega)), hz, by rw [f3 59 (by decide) (by decide) (by decide)]; exact h4, by rw [f3 60 (by decide) (by decide) (by decide)]; exact h5, h6, by rw [f3 37 (by decide) (by decide) (by decide)]; exact h7, by rw [f3 39 (by decide) (by decide) (by decide)]; exact h8⟩
theorem LA_P {σ s : am_S} {f L : Nat} {X : sX} {c : Nat → Int} {n k : Nat} (hf : PFr σ s f) (hL : L < f) (hM : xM X ≤ 60) (h : LA σ L X c n k) : LA s L X c n k := LA_fr hM (fun j _ _ => hf.2.2.2.1 j (by omega)) (hf.2.2.2.2.1 54 (by decide) (by decide) L hL) (hf.2.2.2.2.1 55 (by decide) (by decide) L hL) h
theorem LW_P {σ s : am_S} {f L : Nat} {X : sX} {c : Nat → Int} {j : Nat} (hf : PFr σ s f) (hL : L < f) (hX : XV X) (h : LW σ L X c j) : LW s L X c j := LW_fr hX (hf.2.2.2.2.1 59 (by decide) (by decide) L hL) (hf.2.2.2.2.1 60 (by decide) (by decide) L hL) (hf.2.2.2.2.1 61 (by decide) (by decide) L hL) (fun x x1 x2 q _ _ => hf.2.2.2.2.2 x x1 x2 q (by omega)) h
theorem rwl_len {X : sX} {f : Nat → List (Int × Int)} {i j : Nat} (h : i ≤ j) : (rwl X f i).length ≤ (rwl X f j).length := by
  obtain ⟨k, rfl⟩ : ∃ k, j = i + k := ⟨j - i, by omega⟩
  clear h
  induction k with
  | zero => exact Nat.le_refl _
  | succ k ih =>
    have e : rwl X f (i + (k + 1)) = rwl X f (i + k) ++ f (i + k) := rfl
    rw [e, List.length_append]
    omega
/-- what nextWeighing, groups leave as it was -/
theorem NWF_N {σ s : am_S} {L : Nat} (h : NWF σ s L) : NFr σ s L := by
  obtain ⟨y1, y2, y3, y4⟩ := h
  have e31 : sI s 31 = sI σ 31 := y2 31 (by decide) (by decide) (by decide) (by decide) (by decide)
  refine ⟨⟨y1, fun x x1 x2 => y2 x (by omega) (by omega) (by omega) (by omega) (by omega), fun j _ _ _ _ _ => by rw [e31], fun j _ => by rw [y2 53 (by decide) (by decide) (by decide) (by decide) (by decide)], fun x x1 x2 j hj => ?_, fun x x1 x2 j hj => ?_, fun _ x x1 x2 => y2 x (by omega) (by omega) (by omega) (by omega) (by omega)⟩, by rw [e31], by rw [e31], by rw [e31]⟩
  · by_cases e : x = 59
    · rw [e]; exact (y3 j (by omega)).1
    · by_cases e2 : x = 60
      · rw [e2]; exact (y3 j (by omega)).2
      · rw [y2 x e e2 (by omega) (by omega) (by omega)]
  · by_cases e : x = 64
    · rw [e]; exact (y4 j (by omega)).1
    · by_cases e2 : x = 65
      · rw [e2]; exact (y4 j (by omega)).2.1
      · by_cases e3 : x = 66
        · rw [e3]; exact (y4 j (by omega)).2.2
        · rw [y2 x (by omega) (by omega) e e2 e3]
theorem N59_N {σ s : am_S} {L : Nat} (h1 : s.2 = σ.2) (h2 : ∀ x, x ≠ 59 → sI s x = sI σ x) (h3 : ∀ j, j ≠ L → sI s 59 j = sI σ 59 j) : NFr σ s L := by
  refine ⟨⟨h1, fun x x1 x2 => h2 x (by omega), fun j _ _ _ _ _ => by rw [h2 31 (by decide)], fun j _ => by rw [h2 53 (by decide)], fun x x1 x2 j hj => ?_, fun x x1 x2 j hj => by rw [h2 x (by omega)], fun _ x x1 x2 => h2 x (by omega)⟩, by rw [h2 31 (by decide)], by rw [h2 31 (by decide)], by rw [h2 31 (by decide)]⟩
  by_cases e : x = 59
  · rw [e]; exact h3 j (by omega)
  · rw [h2 x e]
theorem LA_W {σ s : am_S} {L : Nat} {X : sX} {c : Nat → Int} {n k : Nat} (h : NWF σ s L) (hM : xM X ≤ 60) (hl : LA σ L X c n k) : LA s L X c n k := by
  obtain ⟨y1, y2, y3, y4⟩ := h
  exact LA_fr hM (fun j _ _ => by rw [y2 53 (by decide) (by decide) (by decide) (by decide) (by decide)]) (by rw [y2 54 (by decide) (by decide) (by decide) (by decide) (by decide)]) (by rw [y2 55 (by decide) (by decide) (by decide) (by decide) (by decide)]) hl
/-- groups, used beside a search -/
theorem m_grp (d : Nat) {L R ob nb : Nat} {X : sX} {tr : Nat → Nat} {c : Nat → Int} {n k : Nat} {σ : am_S} {K : am_S → Prop} (hB : mPB σ R X ob nb tr) (hL : L < 14) (hA : LA σ L X c n k) (h : ∀ t, NFr σ t L → mPB t R X ob nb tr → LA t L X c n k → RG t L X c → sI t 59 L = 0 → sI t 60 L = -1 → K t) : am_Calls PP MLL (d + 2) m_M_groups [qr (31, 12, 89), qi (L : Int)] σ (kV K) := by
  have xv := hB.2.1.1
  refine m_groups d hB.1 xv hL hB.2.1.2.1 hB.2.1.2.2.1 hA.1 hB.2.1.2.2.2.1 (fun t t1 t2 t3 => ?_)
  obtain ⟨g1, g2, g3, g4, g5, g6, g7, g8, g9⟩ := t3
  have p : ∀ x, x ≠ 31 → sI (putI t 31 58 1) x = sI t x := fun x hx => put_ne hx
  have to : ∀ x, x ≠ 31 → x ≠ 59 → x ≠ 60 → x ≠ 61 → x ≠ 62 → x ≠ 63 → sI t x = sI σ x := fun x x1 x2 x3 x4 x5 x6 => by rw [← p x x1]; exact g2 x x1 x2 x3 x4 x5 x6
  have fr : NFr σ t L := by
    refine ⟨⟨t1, fun x x1 x2 => to x x2 (by omega) (by omega) (by omega) (by omega) (by omega), fun j _ _ _ _ _ => by rw [t2], fun j _ => by rw [to 53 (by decide) (by decide) (by decide) (by decide) (by decide) (by decide)], fun x x1 x2 j hj => ?_, fun x x1 x2 j hj => ?_, fun _ x x1 x2 => to x (by omega) (by omega) (by omega) (by omega) (by omega) (by omega)⟩, by rw [t2], by rw [t2], by rw [t2]⟩
    · have q := g5 j (by omega)
      rw [p 59 (by decide), p 60 (by decide), p 61 (by decide)] at q
      by_cases e : x = 59
      · rw [e]; exact q.1
      · by_cases e2 : x = 60
        · rw [e2]; exact q.2.1
        · by_cases e3 : x = 61
          · rw [e3]; exact q.2.2
          · rw [to x (by omega) e e2 e3 (by omega) (by omega)]
    · have q := g6 j (by omega)
      rw [p 62 (by decide), p 63 (by decide)] at q
      by_cases e : x = 62
      · rw [e]; exact q.1
      · by_cases e2 : x = 63
        · rw [e2]; exact q.2
        · rw [to x (by omega) (by omega) (by omega) (by omega) e e2]
  rw [p 59 (by decide)] at g8
  rw [p 60 (by decide)] at g9
  refine h t fr (mPB_fr hB fr (fun j => by rw [to 64 (by decide) (by decide) (by decide) (by decide) (by decide) (by decide), to 65 (by decide) (by decide) (by decide) (by decide) (by decide) (by decide)]; exact hB.2.2.1 j)) (LA_fr xv.2.1 (fun j _ _ => by rw [to 53 (by decide) (by decide) (by decide) (by decide) (by decide) (by decide)]) (by rw [to 54 (by decide) (by decide) (by decide) (by decide) (by decide) (by decide)]) (by rw [to 55 (by decide) (by decide) (by decide) (by decide) (by decide) (by decide)]) hA) ?_ g8 g9
  obtain ⟨r1, r2, r3⟩ := g7
  refine ⟨by rw [← p 61 (by decide)]; exact r1, fun q hq => by rw [← p 62 (by decide)]; exact r2 q hq, fun g hg => ?_⟩
  have := r3 g hg
  unfold VL at this ⊢
  rw [p 63 (by decide)] at this
  exact this
/-- there is no room for a row -/
theorem prFull (d : Nat) {R ob nb : Nat} {X : sX} {tr : Nat → Nat} {v1 v2 : Int} {s : am_S} {K : Int → am_S → Prop} (hB : mPB s R X ob nb tr) (h : K (-1003) (putI (putI s 31 77 0) 31 76 0)) : prR d v1 v2 0 s K := by
  intro z4 z5
  refine v_M_prove_36 d v1 v2 0 z4 z5 s K hB.1 hB.2.1.2.2.2.2.2.2.2.2.2.2.2.2.2 ⟨fun _ => ⟨Or.inl rfl, ?_⟩, fun _ => ⟨fun _ => ⟨Or.inl rfl, h⟩, fun q => absurd rfl q⟩⟩
  rw [if_pos rfl, if_pos rfl]
  exact h
theorem pr_case (d : Nat) {R ob nb : Nat} {X : sX} {tr : Nat → Nat} {K : Int → am_S → Prop} : ∀ (n : Nat) (c : Nat → Int) (k lv : Nat) {L : List (Int × Int)} {σ : am_S}, mPB σ R X ob nb tr → lv + n ≤ 6 → k + n ≤ 58 → CV X c → ¬ can X n c k → LA σ lv X c n k → RO σ L → (∀ s, PFr σ s lv → mPB s R X ob nb tr → RO s (L ++ rws X n c k) → prR d ((lv : Int) + -1) 0 1 s K) → (600 < (L ++ rws X n c k).length → ∀ s, PFr σ s lv → mPB s R X ob nb tr → K (-1003) (putI (putI s 31 77 0) 31 76 0)) → prR d (lv : Int) 1 1 σ K
  | n, c, k, lv, L, σ, hB, hn, hk, hcv, hnc, hA, hO, h1, h2 => by
    intro z4 z5
    have xv := hB.2.1.1
    have hm : ¬ mn X c < 2 := fun q => hnc (can_2 q)
    have T26 := hB.2.1.2.2.2.2.2.2.2.2.2.2.2.2.2
    have toom : ∀ (hb : big X n c), (((sI σ 31 76) = 600 →
                (-2147483648 ≤ (lv : Int) + (-1) ∧ (lv : Int) + (-1) < 2147483648) ∧
                am_Runs PP MLL (d + 6) m_M_prove 36 [some (qr (31, 12, 89)), some (qi ((lv : Int) + (-1))), some (qi 0), some (qi 0), some (qi (mn X c)), z5] [] σ (kI K)) ∧
              (¬ ((sI σ 31 76) = 600) →
                (0 ≤ (sI σ 31 76) ∧ (sI σ 31 76) < 600 ∧ -2147483648 ≤ (sI σ 31 76) + 1 ∧ (sI σ 31 76) + 1 < 2147483648) ∧
                (-2147483648 ≤ (lv : Int) + (-1) ∧ (lv : Int) + (-1) < 2147483648) ∧
                am_Runs PP MLL (d + 6) m_M_prove 36 [some (qr (31, 12, 89)), some (qi ((lv : Int) + (-1))), some (qi 0), some (qi 1), some (qi (mn X c)), z5] [] (putI (putI (putI σ 81 (Int.toNat (sI σ 31 76)) (-1)) 82 (Int.toNat (sI σ 31 76)) (mn X c)) 31 76 ((sI σ 31 76) + 1)) (kI K))) := by
      intro hb
      have er := rws_b (k := k) hb
      rw [er] at h1 h2
      obtain ⟨o1, o2, o3⟩ := hO
      have el : (L ++ [((-1 : Int), mn X c)]).length = L.length + 1 := by rw [List.length_append]; rfl
      rw [o1]
      refine ⟨fun e => ⟨by omega, prFull d hB (h2 (by rw [el]; omega) σ (PFr_rf σ lv) hB) _ _⟩, fun e => ⟨by omega, by omega, ?_⟩⟩
      rw [Int.toNat_natCast]
      obtain ⟨Z, eZ⟩ : ∃ Z, Z = putI (putI (putI σ 81 L.length (-1)) 82 L.length (mn X c)) 31 76 ((L.length : Int) + 1) := ⟨_, rfl⟩
      have fr : PFr σ Z lv := by
        have Zo : ∀ x, x ≠ 31 → x ≠ 81 → x ≠ 82 → sI Z x = sI σ x := fun x x1 x2 x3 => by rw [eZ, put_ne x1, put_ne x3, put_ne x2]
        exact ⟨by rw [eZ]; rfl, fun x _ x2 x3 x4 => Zo x x2 x3 x4, fun j _ _ j3 => by rw [eZ, put_at, if_neg j3, put_ne (by decide), put_ne (by decide)], fun j _ => by rw [Zo 53 (by decide) (by decide) (by decide)], fun x x1 x2 j _ => by rw [Zo x (by omega) (by omega) (by omega)], fun x x1 x2 j _ => by rw [Zo x (by omega) (by omega) (by omega)]⟩
      have OZ := RO_add (a := -1) (b := mn X c) ⟨o1, o2, o3⟩ (by omega)
      rw [← eZ] at OZ ⊢
      exact h1 Z fr (mPB_P hB fr (fun j => by rw [eZ, put_ne (by decide), put_ne (by decide), put_ne (by decide), put_ne (by decide), put_ne (by decide), put_ne (by decide)]; exact hB.2.2.1 j)) OZ _ _
    refine v_M_prove_36 d (lv : Int) 1 1 z4 z5 σ K hB.1 T26 ⟨fun q => absurd q (by omega), fun _ => ⟨fun q => absurd q (by decide), fun _ => ?_⟩⟩
    refine c_M_manyAt (d + 5) hB.1 (by omega) hB.2.1.2.2.1 xv.2.1 hA.1 ⟨⟨hB.1, T26⟩, fun q => absurd q (by decide), fun _ => ?_⟩
    refine c_M_isTooMuch (d + 2) hB.1 hB.2.1 (by omega) hA.2.1 (by omega) (fun hb => ⟨⟨hB.1, T26⟩, fun q => absurd q (by decide), fun _ => toom hb⟩) (fun hb => ⟨⟨hB.1, T26⟩, fun _ => ?_, fun q => absurd rfl q⟩)
    have n0 : ¬ n = 0 := fun e => hb (Or.inl e)
    obtain ⟨n', en⟩ : ∃ n', n = n' + 1 := ⟨n - 1, by omega⟩
    subst en
    have er := rws_s (k := k) hb
    rw [er] at h1 h2
    have nyw : ∀ j, j < wct X c → ¬ yw X n' c k (wAt X c j) := fun j hj hy => hnc ((can_s xv hm hb).2 ⟨j, hj, hy⟩)
    have J : ∀ q j s, j + q = wct X c → 0 < q → PFr σ s lv → mPB s R X ob nb tr → LA s lv X c (n' + 1) k → LW s lv X c j → RO s (L ++ rwl X (rw1 X n' c k) j) → prW d (lv : Int) (mn X c) s K := by
      intro q
      induction q with
      | zero => intro j s _ hq; omega
      | succ q ih =>
        intro j s hj _ fr Bs As Ws Os
        have ny := nyw j (by omega)
        have wb := wct_bd xv c
        refine m_firstNo d (j := j) Bs (by omega) hcv (by omega) (by omega) As Ws ny (fun t ft Bt => ?_)
        have Tt := Bt.2.1.2.2.2.2.2.2.2.2.2.2.2.2.2
        have At := LA_N ft (by omega) xv.2.1 As
        have Wt := LW_N ft (by omega) xv Ws
        have frt : PFr σ t lv := PFr_tr fr (PFr_le (NFr_P ft Bs.2.2.2.1) (by omega))
        have Ot : RO t (L ++ rwl X (rw1 X n' c k) j) := RO_fr Os (ft.1.2.2.1 76 (by decide) (by decide) (by decide) (by decide) (by decide)) (ft.1.2.1 81 (by decide) (by decide)) (ft.1.2.1 82 (by decide) (by decide))
        obtain ⟨o1, o2, o3⟩ := Ot
        have ew : rw1 X n' c k j = ((j : Int), fo X n' c k (wAt X c j)) :: rws X n' (mkc X c k (sdw X c (wAt X c j)) (fo X n' c k (wAt X c j))) (k + 1) := rfl
        have ej : rwl X (rw1 X n' c k) (j + 1) = rwl X (rw1 X n' c k) j ++ rw1 X n' c k j := rfl
        have lm := rwl_len (X := X) (f := rw1 X n' c k) (i := j + 1) (j := wct X c) (by omega)
        have l1 : (L ++ rwl X (rw1 X n' c k) (wct X c)).length = L.length + (rwl X (rw1 X n' c k) (wct X c)).length := List.length_append
        have l2 : (L ++ rwl X (rw1 X n' c k) j).length = L.length + (rwl X (rw1 X n' c k) j).length := List.length_append
        have l3 : (rwl X (rw1 X n' c k) (j + 1)).length = (rwl X (rw1 X n' c k) j).length + ((rws X n' (mkc X c k (sdw X c (wAt X c j)) (fo X n' c k (wAt X c j))) (k + 1)).length + 1) := by rw [ej, List.length_append, ew]; rfl
        obtain ⟨c', ec'⟩ : ∃ c', c' = mkc X c k (sdw X c (wAt X c j)) (fo X n' c k (wAt X c j)) := ⟨_, rfl⟩
        have cv' : CV X c' := by rw [ec']; exact mkc_CV xv hcv
        have nc' : ¬ can X n' c' (k + 1) := by
          rw [ec']
          have sp := ff_spec (fun i => ¬ can X n' (mkc X c k (sdw X c (wAt X c j)) (-mo (xK X k) + (i : Int))) (k + 1)) (2 * mo (xK X k) + 1).toNat 0
          have eff : ff (fun i => ¬ can X n' (mkc X c k (sdw X c (wAt X c j)) (-mo (xK X k) + (i : Int))) (k + 1)) (2 * mo (xK X k) + 1).toNat 0 = fon X n' c k (wAt X c j) := rfl
          rw [eff] at sp
          refine sp.2.2.2 ?_
          rcases Nat.lt_or_ge (fon X n' c k (wAt X c j)) (0 + (2 * mo (xK X k) + 1).toNat) with w | w
          · exact w
          · have eoc : (2 * mo (xK X k) + 1).toNat = oc X k := rfl
            exact absurd (fun i hi => Classical.byContradiction (fun nc => sp.2.2.1 i (Nat.zero_le _) (by omega) nc)) ny
        rw [← ec'] at ew l3
        refine ⟨⟨Bt.1, Tt⟩, by omega, fun e6 => ⟨by omega, ?_⟩, fun e6 => ⟨by omega, by omega, ?_⟩⟩
        · rw [show (lv : Int) + 1 = ((lv + 1 : Nat) : Int) by omega]
          refine c_M_makeCase (d + 2) (k := k) (c := c) (f := sdw X c (wAt X c j)) Bt.1 Bt.2.1 (by omega) (by omega) (by omega) At.2.2 (by omega) (by rw [At.2.1]; omega) At.1 (fun q hq => ⟨Wt.2.2.2 q hq, sdw_pm X _ _ q⟩) (fun u hu => ?_)
          have fu : NFr t u (lv + 1) := MKP_N hu (Nat.le_refl _)
          have Bu : mPB u R X ob nb tr := mPB_fr Bt fu (fun i => by rw [hu.2.1 64 (by decide) (by decide) (by decide), hu.2.1 65 (by decide) (by decide) (by decide)]; exact Bt.2.2.1 i)
          exact ⟨⟨Bu.1, Bu.2.1.2.2.2.2.2.2.2.2.2.2.2.2.2⟩, prFull d Bu (h2 (by omega) u (PFr_tr frt (PFr_le (NFr_P fu Bt.2.2.2.1) (by omega))) Bu) _ _⟩
        · rw [o1, Int.toNat_natCast, Int.toNat_natCast, Wt.2.1, show (lv : Int) + 1 = ((lv + 1 : Nat) : Int) by omega]
          obtain ⟨Z, eZ⟩ : ∃ Z, Z = putI (putI (putI t 81 (L ++ rwl X (rw1 X n' c k) j).length (j : Int)) 82 (L ++ rwl X (rw1 X n' c k) j).length (fo X n' c k (wAt X c j))) 31 76 (((L ++ rwl X (rw1 X n' c k) j).length : Int) + 1) := ⟨_, rfl⟩
          have OZ := RO_add (a := (j : Int)) (b := fo X n' c k (wAt X c j)) ⟨o1, o2, o3⟩ (by omega)
          rw [← eZ] at OZ ⊢
          have Zo : ∀ x, x ≠ 31 → x ≠ 81 → x ≠ 82 → sI Z x = sI t x := fun x x1 x2 x3 => by rw [eZ, put_ne x1, put_ne x3, put_ne x2]
          have frZ : ∀ f, PFr t Z f := fun f => ⟨by rw [eZ]; rfl, fun x _ x2 x3 x4 => Zo x x2 x3 x4, fun i _ _ j3 => by rw [eZ, put_at, if_neg j3, put_ne (by decide), put_ne (by decide)], fun i _ => by rw [Zo 53 (by decide) (by decide) (by decide)], fun x x1 x2 i _ => by rw [Zo x (by omega) (by omega) (by omega)], fun x x1 x2 i _ => by rw [Zo x (by omega) (by omega) (by omega)]⟩
          have BZ : mPB Z R X ob nb tr := mPB_P Bt (frZ 0) (fun i => by rw [Zo 64 (by decide) (by decide) (by decide), Zo 65 (by decide) (by decide) (by decide)]; exact Bt.2.2.1 i)
          have AZ := LA_P (frZ (lv + 1)) (by omega) xv.2.1 At
          have WZ := LW_P (frZ (lv + 1)) (by omega) xv Wt
          refine c_M_makeCase (d + 2) (k := k) (c := c) (f := sdw X c (wAt X c j)) BZ.1 BZ.2.1 (by omega) (by omega) (by omega) AZ.2.2 (by omega) (by rw [AZ.2.1]; omega) AZ.1 (fun q hq => ⟨WZ.2.2.2 q hq, sdw_pm X _ _ q⟩) (fun u hu => ?_)
          have fu : NFr Z u (lv + 1) := MKP_N hu (Nat.le_refl _)
          have pu : PFr t u (lv + 1) := PFr_tr (frZ _) (NFr_P fu BZ.2.2.2.1)
          have Bu : mPB u R X ob nb tr := mPB_fr BZ fu (fun i => by rw [hu.2.1 64 (by decide) (by decide) (by decide), hu.2.1 65 (by decide) (by decide) (by decide)]; exact BZ.2.2.1 i)
          have Ou : RO u (L ++ rwl X (rw1 X n' c k) j ++ [((j : Int), fo X n' c k (wAt X c j))]) := RO_fr OZ (by rw [hu.2.1 31 (by decide) (by decide) (by decide)]) (hu.2.1 81 (by decide) (by decide) (by decide)) (hu.2.1 82 (by decide) (by decide) (by decide))
          have Au : LA u (lv + 1) X c' n' (k + 1) := by
            rw [← ec'] at hu
            refine ⟨fun q hq => ⟨hu.2.2.2.1 q hq, (cv' q hq).1, Int.le_trans (cv' q hq).2 (by decide)⟩, ?_, ?_⟩
            · rw [hu.2.2.2.2.2.1, AZ.2.1]
              omega
            · rw [hu.2.2.2.2.2.2]
              omega
          refine ⟨⟨Bu.1, Bu.2.1.2.2.2.2.2.2.2.2.2.2.2.2.2⟩, ?_⟩
          have Elist : L ++ rwl X (rw1 X n' c k) j ++ [((j : Int), fo X n' c k (wAt X c j))] ++ rws X n' c' (k + 1) = L ++ rwl X (rw1 X n' c k) (j + 1) := by
            rw [ej, ew, List.append_assoc, List.append_assoc]
            rfl
          refine pr_case d n' c' (k + 1) (lv + 1) Bu (by omega) (by omega) cv' nc' Au Ou (fun v fv Bv Ov => ?_) (fun hl v fv Bv => ?_) _ _
          · rw [Elist] at Ov
            rw [show ((lv + 1 : Nat) : Int) + -1 = (lv : Int) by omega]
            intro z4 z5
            have pv : PFr t v (lv + 1) := PFr_tr pu fv
            have Av := LA_P pv (by omega) xv.2.1 At
            have Wv := LW_P pv (by omega) xv Wt
            have frv : PFr σ v lv := PFr_tr frt (PFr_le pv (by omega))
            have Tv := Bv.2.1.2.2.2.2.2.2.2.2.2.2.2.2.2
            refine v_M_prove_36 d (lv : Int) 0 1 z4 z5 v K Bv.1 Tv ⟨fun q => absurd q (by omega), fun _ => ⟨fun q => absurd q (by decide), fun _ => ?_⟩⟩
            refine c_M_manyAt (d + 5) Bv.1 (by omega) Bv.2.1.2.2.1 xv.2.1 Av.1 ⟨⟨Bv.1, Tv⟩, fun _ => ?_, fun q => absurd rfl q⟩
            refine m_next (d + 3) (j := j) Bv.1 xv (by omega) Bv.2.1.2.1 Bv.2.2.1 Wv.1 Wv.2 (by omega) (by omega) (fun e1 _ w w1 w2 w3 => ?_) (fun w e1 _ w1 w2 w3 w4 => ?_)
            · have fw := N59_N w1 w2 w3
              have Bw : mPB w R X ob nb tr := mPB_fr Bv fw (fun i => by rw [w2 64 (by decide), w2 65 (by decide)]; exact Bv.2.2.1 i)
              refine ⟨⟨Bw.1, Bw.2.1.2.2.2.2.2.2.2.2.2.2.2.2.2⟩, fun _ => ⟨by omega, ?_⟩, fun q => absurd rfl q⟩
              rw [e1] at h1
              exact h1 w (PFr_tr frv (NFr_P fw Bv.2.2.2.1)) Bw (RO_fr Ov (by rw [w2 31 (by decide)]) (w2 81 (by decide)) (w2 82 (by decide))) _ _
            · have fw := NWF_N w1
              have Bw : mPB w R X ob nb tr := mPB_fr Bv fw w2
              refine ⟨⟨Bw.1, Bw.2.1.2.2.2.2.2.2.2.2.2.2.2.2.2⟩, fun q => absurd q (by decide), fun _ => ?_⟩
              have e31 : sI w 31 = sI v 31 := w1.2.1 31 (by decide) (by decide) (by decide) (by decide) (by decide)
              exact ih (j + 1) w (by omega) (by omega) (PFr_tr frv (NFr_P fw Bv.2.2.2.1)) Bw (LA_W w1 xv.2.1 Av) ⟨w3, w4⟩ (RO_fr Ov (by rw [e31]) (w1.2.1 81 (by decide) (by decide) (by decide) (by decide) (by decide)) (w1.2.1 82 (by decide) (by decide) (by decide) (by decide) (by decide)))
          · rw [Elist] at hl
            rw [List.length_append] at hl
            exact h2 (by omega) v (PFr_tr frt (PFr_le (PFr_tr pu fv) (by omega))) Bv
    refine m_grp (d + 4) hB (by omega) hA (fun t ft Bt At Gt t59 t60 => ?_)
    have Tt := Bt.2.1.2.2.2.2.2.2.2.2.2.2.2.2.2
    have frt : PFr σ t lv := NFr_P ft hB.2.2.2.1
    have Ot : RO t L := RO_fr hO (ft.1.2.2.1 76 (by decide) (by decide) (by decide) (by decide) (by decide)) (ft.1.2.1 81 (by decide) (by decide)) (ft.1.2.1 82 (by decide) (by decide))
    refine ⟨⟨Bt.1, Tt⟩, ?_⟩
    refine m_first (d + 3) Bt.1 xv (by omega) Bt.2.1.2.1 Bt.2.2.1 Gt t59 t60 (fun e1 _ w w1 w2 w3 => ?_) (fun w e1 _ w1 w2 w3 w4 => ?_)
    · have fw := N59_N w1 w2 w3
      have Bw : mPB w R X ob nb tr := mPB_fr Bt fw (fun i => by rw [w2 64 (by decide), w2 65 (by decide)]; exact Bt.2.2.1 i)
      refine ⟨⟨Bw.1, Bw.2.1.2.2.2.2.2.2.2.2.2.2.2.2.2⟩, fun _ => ⟨by omega, ?_⟩, fun q => absurd rfl q⟩
      rw [e1] at h1
      have e0 : L ++ rwl X (rw1 X n' c k) 0 = L := List.append_nil L
      rw [e0] at h1
      exact h1 w (PFr_tr frt (NFr_P fw Bt.2.2.2.1)) Bw (RO_fr Ot (by rw [w2 31 (by decide)]) (w2 81 (by decide)) (w2 82 (by decide))) _ _
    · have fw := NWF_N w1
      have Bw : mPB w R X ob nb tr := mPB_fr Bt fw w2
      have e31 : sI w 31 = sI t 31 := w1.2.1 31 (by decide) (by decide) (by decide) (by decide) (by decide)
      have e0 : L ++ rwl X (rw1 X n' c k) 0 = L := List.append_nil L
      refine ⟨⟨Bw.1, Bw.2.1.2.2.2.2.2.2.2.2.2.2.2.2.2⟩, fun q => absurd q (by decide), fun _ => ?_⟩
      exact J (wct X c) 0 w (by omega) (by omega) (PFr_tr frt (NFr_P fw Bt.2.2.2.1)) Bw (LA_W w1 xv.2.1 At) ⟨w3, w4⟩ (by rw [e0]; exact RO_fr Ot (by rw [e31]) (w1.2.1 81 (by decide) (by decide) (by decide) (by decide) (by decide)) (w1.2.1 82 (by decide) (by decide) (by decide) (by decide) (by decide)))
