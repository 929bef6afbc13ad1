/-! the reference: nextWeighing -/
theorem v_M_nextWeighing_0 (d : Nat) (p1 : Int) (σ : am_S) (K : Int → am_S → Prop) (hF : MF σ) (h :
  (0 ≤ p1 ∧ p1 < 14 ∧ -2147483648 ≤ (sI σ 61 (Int.toNat p1)) - 1 ∧ (sI σ 61 (Int.toNat p1)) - 1 < 2147483648) ∧
  am_Runs PP MLL (d + 2) m_M_nextWeighing 9 [some (qr (31, 12, 89)), some (qi p1), some (qi 0), some (qi ((sI σ 61 (Int.toNat p1)) - 1)), none, none, none] [] σ (kI K)) : am_Runs PP MLL (d + 2) m_M_nextWeighing 0 [some (qr (31, 12, 89)), some (qi p1), none, none, none, none, none] [] σ (kI K) := am_wEC_ok (orc [(3, 61, 20, 14)]) [33, 132] 200 (⟨⟨rfl, (hF 51)⟩, ⟨⟨rfl, h.1.1, h.1.2.1⟩, ⟨⟨h.1.2.2.1, h.1.2.2.2⟩, h.2⟩⟩⟩)

theorem v_M_nextWeighing_9 (d : Nat) (p1 v2 v3 : Int) (z4 z5 z6 : Option am_V) (σ : am_S) (K : Int → am_S → Prop) (hF : MF σ) (h :
  ((v3 < 0 →
    ((v2 = 0 →
      (0 ≤ p1 ∧ p1 < 14 ∧ -2147483648 ≤ (sI σ 59 (Int.toNat p1)) + 1 ∧ (sI σ 59 (Int.toNat p1)) + 1 < 2147483648 ∧ -2147483648 ≤ 2 * (sI (putI σ 59 (Int.toNat p1) ((sI σ 59 (Int.toNat p1)) + 1)) 59 (Int.toNat p1)) ∧ 2 * (sI (putI σ 59 (Int.toNat p1) ((sI σ 59 (Int.toNat p1)) + 1)) 59 (Int.toNat p1)) < 2147483648) ∧
      (((2 * (sI (putI σ 59 (Int.toNat p1) ((sI σ 59 (Int.toNat p1)) + 1)) 59 (Int.toNat p1))) ≤ (sI σ 31 2) →
        am_Calls PP MLL (d + 2) m_M_fill [qr (31, 12, 89), qi p1, qi 0, qi 0] (putI σ 59 (Int.toNat p1) ((sI σ 59 (Int.toNat p1)) + 1)) (kV fun s7 =>
          (MF s7) ∧
          (-2147483648 ≤ (sI s7 60 (Int.toNat p1)) + 1 ∧ (sI s7 60 (Int.toNat p1)) + 1 < 2147483648) ∧
          am_Runs PP MLL (d + 2) m_M_nextWeighing 72 [some (qr (31, 12, 89)), some (qi p1), some (qi v2), some (qi 0), z4, z5, z6] [] (putI s7 60 (Int.toNat p1) ((sI s7 60 (Int.toNat p1)) + 1)) (kI K))) ∧
      (¬ ((2 * (sI (putI σ 59 (Int.toNat p1) ((sI σ 59 (Int.toNat p1)) + 1)) 59 (Int.toNat p1))) ≤ (sI σ 31 2)) →
        K 0 (putI σ 59 (Int.toNat p1) ((sI σ 59 (Int.toNat p1)) + 1))))) ∧
    (¬ (v2 = 0) →
      (0 ≤ p1 ∧ p1 < 14 ∧ -2147483648 ≤ (sI σ 60 (Int.toNat p1)) + 1 ∧ (sI σ 60 (Int.toNat p1)) + 1 < 2147483648) ∧
      am_Runs PP MLL (d + 2) m_M_nextWeighing 72 [some (qr (31, 12, 89)), some (qi p1), some (qi v2), some (qi 0), z4, z5, z6] [] (putI σ 60 (Int.toNat p1) ((sI σ 60 (Int.toNat p1)) + 1)) (kI K)))) ∧
  (¬ (v3 < 0) →
    ((v2 = 0 →
      (0 ≤ p1 ∧ p1 < 14) ∧
      (((sI σ 59 (Int.toNat p1)) ≤ 0 →
        (-2147483648 ≤ (sI σ 59 (Int.toNat p1)) + 1 ∧ (sI σ 59 (Int.toNat p1)) + 1 < 2147483648 ∧ -2147483648 ≤ 2 * (sI (putI σ 59 (Int.toNat p1) ((sI σ 59 (Int.toNat p1)) + 1)) 59 (Int.toNat p1)) ∧ 2 * (sI (putI σ 59 (Int.toNat p1) ((sI σ 59 (Int.toNat p1)) + 1)) 59 (Int.toNat p1)) < 2147483648) ∧
        (((2 * (sI (putI σ 59 (Int.toNat p1) ((sI σ 59 (Int.toNat p1)) + 1)) 59 (Int.toNat p1))) ≤ (sI σ 31 2) →
          am_Calls PP MLL (d + 2) m_M_fill [qr (31, 12, 89), qi p1, qi 0, qi 0] (putI σ 59 (Int.toNat p1) ((sI σ 59 (Int.toNat p1)) + 1)) (kV fun s14 =>
            (MF s14) ∧
            (-2147483648 ≤ (sI s14 60 (Int.toNat p1)) + 1 ∧ (sI s14 60 (Int.toNat p1)) + 1 < 2147483648) ∧
            am_Runs PP MLL (d + 2) m_M_nextWeighing 72 [some (qr (31, 12, 89)), some (qi p1), some (qi v2), some (qi 0), z4, z5, z6] [] (putI s14 60 (Int.toNat p1) ((sI s14 60 (Int.toNat p1)) + 1)) (kI K))) ∧
        (¬ ((2 * (sI (putI σ 59 (Int.toNat p1) ((sI σ 59 (Int.toNat p1)) + 1)) 59 (Int.toNat p1))) ≤ (sI σ 31 2)) →
          K 0 (putI σ 59 (Int.toNat p1) ((sI σ 59 (Int.toNat p1)) + 1))))) ∧
      (¬ ((sI σ 59 (Int.toNat p1)) ≤ 0) →
        am_Calls PP MLL (d + 2) m_M_lessens [qr (31, 12, 89), qi p1, qi v3, qi 1] σ (kI fun x15 s15 =>
          (MF s15) ∧
          ((x15 = 0 →
            am_Calls PP MLL (d + 2) m_M_lessens [qr (31, 12, 89), qi p1, qi v3, qi 0] s15 (kI fun x18 s18 =>
              (MF s18) ∧
              (-2147483648 ≤ v3 + (-1) ∧ v3 + (-1) < 2147483648) ∧
              am_Runs PP MLL (d + 2) m_M_nextWeighing 9 [some (qr (31, 12, 89)), some (qi p1), some (qi (if x18 = 0 then (0 : Int) else 1)), some (qi (v3 + (-1))), z4, z5, z6] [] s18 (kI K))) ∧
          (¬ (x15 = 0) →
            (-2147483648 ≤ v3 + (-1) ∧ v3 + (-1) < 2147483648) ∧
            am_Runs PP MLL (d + 2) m_M_nextWeighing 9 [some (qr (31, 12, 89)), some (qi p1), some (qi 1), some (qi (v3 + (-1))), z4, z5, z6] [] s15 (kI K))))))) ∧
    (¬ (v2 = 0) →
      (0 ≤ p1 ∧ p1 < 14 ∧ -2147483648 ≤ (sI σ 60 (Int.toNat p1)) + 1 ∧ (sI σ 60 (Int.toNat p1)) + 1 < 2147483648) ∧
      am_Runs PP MLL (d + 2) m_M_nextWeighing 72 [some (qr (31, 12, 89)), some (qi p1), some (qi v2), some (qi 0), z4, z5, z6] [] (putI σ 60 (Int.toNat p1) ((sI σ 60 (Int.toNat p1)) + 1)) (kI K)))))) : am_Runs PP MLL (d + 2) m_M_nextWeighing 9 [some (qr (31, 12, 89)), some (qi p1), some (qi v2), some (qi v3), z4, z5, z6] [] σ (kI K) := am_wEC_ok (orc [(14, 59, 20, 14), (39, 59, 20, 14), (48, 59, 20, 14), (63, 60, 20, 14)]) [33, 132] 200 (⟨fun c4 => ⟨fun c5 => ⟨⟨rfl, (hF 49)⟩, ⟨⟨rfl, ((h.1 c4).1 c5).1.1, ((h.1 c4).1 c5).1.2.1⟩, ⟨⟨((h.1 c4).1 c5).1.2.2.1, ((h.1 c4).1 c5).1.2.2.2.1⟩, ⟨⟨rfl, ((h.1 c4).1 c5).1.1, ((h.1 c4).1 c5).1.2.1⟩, ⟨⟨rfl, (hF 49)⟩, ⟨⟨rfl, ((h.1 c4).1 c5).1.1, ((h.1 c4).1 c5).1.2.1⟩, ⟨⟨((h.1 c4).1 c5).1.2.2.2.2.1, ((h.1 c4).1 c5).1.2.2.2.2.2⟩, ⟨rfl, ⟨fun c6 => ⟨rfl, (am_cV (((h.1 c4).1 c5).2.1 c6) fun s7 h7 => ⟨⟨rfl, (h7.1 50)⟩, ⟨⟨rfl, ((h.1 c4).1 c5).1.1, ((h.1 c4).1 c5).1.2.1⟩, ⟨⟨h7.2.1.1, h7.2.1.2⟩, ⟨⟨rfl, ((h.1 c4).1 c5).1.1, ((h.1 c4).1 c5).1.2.1⟩, h7.2.2⟩⟩⟩⟩)⟩, fun c6 => ⟨(Or.inl rfl), (((h.1 c4).1 c5).2.2 c6)⟩⟩⟩⟩⟩⟩⟩⟩⟩⟩, fun c5 => ⟨⟨rfl, (hF 50)⟩, ⟨⟨rfl, ((h.1 c4).2 c5).1.1, ((h.1 c4).2 c5).1.2.1⟩, ⟨⟨((h.1 c4).2 c5).1.2.2.1, ((h.1 c4).2 c5).1.2.2.2⟩, ⟨⟨rfl, ((h.1 c4).2 c5).1.1, ((h.1 c4).2 c5).1.2.1⟩, ((h.1 c4).2 c5).2⟩⟩⟩⟩⟩, fun c4 => ⟨fun c10 => ⟨⟨rfl, (hF 49)⟩, ⟨⟨rfl, ((h.2 c4).1 c10).1.1, ((h.2 c4).1 c10).1.2⟩, ⟨fun c12 => ⟨fun _ => ⟨⟨rfl, (hF 49)⟩, ⟨⟨rfl, ((h.2 c4).1 c10).1.1, ((h.2 c4).1 c10).1.2⟩, ⟨⟨(((h.2 c4).1 c10).2.1 c12).1.1, (((h.2 c4).1 c10).2.1 c12).1.2.1⟩, ⟨⟨rfl, ((h.2 c4).1 c10).1.1, ((h.2 c4).1 c10).1.2⟩, ⟨⟨rfl, (hF 49)⟩, ⟨⟨rfl, ((h.2 c4).1 c10).1.1, ((h.2 c4).1 c10).1.2⟩, ⟨⟨(((h.2 c4).1 c10).2.1 c12).1.2.2.1, (((h.2 c4).1 c10).2.1 c12).1.2.2.2⟩, ⟨rfl, ⟨fun c13 => ⟨rfl, (am_cV ((((h.2 c4).1 c10).2.1 c12).2.1 c13) fun s14 h14 => ⟨⟨rfl, (h14.1 50)⟩, ⟨⟨rfl, ((h.2 c4).1 c10).1.1, ((h.2 c4).1 c10).1.2⟩, ⟨⟨h14.2.1.1, h14.2.1.2⟩, ⟨⟨rfl, ((h.2 c4).1 c10).1.1, ((h.2 c4).1 c10).1.2⟩, h14.2.2⟩⟩⟩⟩)⟩, fun c13 => ⟨(Or.inl rfl), ((((h.2 c4).1 c10).2.1 c12).2.2 c13)⟩⟩⟩⟩⟩⟩⟩⟩⟩⟩, fun c => absurd c10 c⟩, fun c12 => ⟨rfl, (am_cI (((h.2 c4).1 c10).2.2 c12) fun x15 s15 h15 => ⟨fun c17 => ⟨rfl, (am_cI (h15.2.1 c17) fun x18 s18 h18 => am_use (fun H20 => ⟨fun c19 => (Eq.mp (congrArg (fun z => am_Runs _ _ _ _ _ _ (qi z :: _) _ _) (if_pos c19 : (if x18 = 0 then (0 : Int) else 1) = 0)) H20), fun c19 => (Eq.mp (congrArg (fun z => am_Runs _ _ _ _ _ _ (qi z :: _) _ _) (if_neg c19 : (if x18 = 0 then (0 : Int) else 1) = 1)) H20)⟩) (am_wEC_ok (orc []) [33, 132] 200 (⟨⟨h18.2.1.1, h18.2.1.2⟩, h18.2.2⟩)))⟩, fun c17 => am_wEC_ok (orc []) [33, 132] 200 (⟨⟨(h15.2.2 c17).1.1, (h15.2.2 c17).1.2⟩, (h15.2.2 c17).2⟩)⟩)⟩⟩⟩⟩, fun c10 => ⟨fun c => absurd c c10, fun _ => ⟨⟨rfl, (hF 50)⟩, ⟨⟨rfl, ((h.2 c4).2 c10).1.1, ((h.2 c4).2 c10).1.2.1⟩, ⟨⟨((h.2 c4).2 c10).1.2.2.1, ((h.2 c4).2 c10).1.2.2.2⟩, ⟨⟨rfl, ((h.2 c4).2 c10).1.1, ((h.2 c4).2 c10).1.2.1⟩, ((h.2 c4).2 c10).2⟩⟩⟩⟩⟩⟩⟩)

theorem v_M_nextWeighing_72 (d : Nat) (p1 v3 : Int) (z2 z4 z5 z6 : Option am_V) (σ : am_S) (K : Int → am_S → Prop) (hF : MF σ) (h :
  (0 ≤ p1 ∧ p1 < 14) ∧
  (((sI σ 61 (Int.toNat p1)) ≤ v3 →
    K 1 σ) ∧
  (¬ ((sI σ 61 (Int.toNat p1)) ≤ v3) →
    am_Runs PP MLL (d + 2) m_M_nextWeighing 82 [some (qr (31, 12, 89)), some (qi p1), z2, some (qi v3), some (qi 0), some (qi 0), z6] [] σ (kI K)))) : am_Runs PP MLL (d + 2) m_M_nextWeighing 72 [some (qr (31, 12, 89)), some (qi p1), z2, some (qi v3), z4, z5, z6] [] σ (kI K) := am_wEC_ok (orc [(74, 61, 20, 14)]) [33, 132] 200 (⟨⟨rfl, (hF 51)⟩, ⟨⟨rfl, h.1.1, h.1.2⟩, ⟨fun c2 => ⟨(Or.inr rfl), (h.2.1 c2)⟩, fun c2 => (h.2.2 c2)⟩⟩⟩)

theorem v_M_nextWeighing_82 (d : Nat) (p1 v3 v4 v5 : Int) (z2 z6 : Option am_V) (σ : am_S) (K : Int → am_S → Prop) (hF : MF σ) (h :
  (((sI σ 31 2) ≤ v5 →
    (-2147483648 ≤ v3 + 1 ∧ v3 + 1 < 2147483648) ∧
    am_Runs PP MLL (d + 2) m_M_nextWeighing 72 [some (qr (31, 12, 89)), some (qi p1), (am_cl z2), some (qi (v3 + 1)), some (qi v4), some (qi v5), z6] [] σ (kI K)) ∧
  (¬ ((sI σ 31 2) ≤ v5) →
    (-2147483648 ≤ 12 * p1 ∧ 12 * p1 < 2147483648 ∧ -2147483648 ≤ (12 * p1) + v5 ∧ (12 * p1) + v5 < 2147483648 ∧ 0 ≤ ((12 * p1) + v5) ∧ ((12 * p1) + v5) < 168) ∧
    (((sI σ 62 (Int.toNat ((12 * p1) + v5))) = v3 →
      (-2147483648 ≤ (12 * p1) + v3 ∧ (12 * p1) + v3 < 2147483648 ∧ 0 ≤ ((12 * p1) + v3) ∧ ((12 * p1) + v3) < 168) ∧
      ((((sI σ 64 (Int.toNat ((12 * p1) + v3))) ≤ v4) → -2147483648 ≤ (sI σ 64 (Int.toNat ((12 * p1) + v3))) + (sI σ 65 (Int.toNat ((12 * p1) + v3)))) ∧ (((sI σ 64 (Int.toNat ((12 * p1) + v3))) ≤ v4) → (sI σ 64 (Int.toNat ((12 * p1) + v3))) + (sI σ 65 (Int.toNat ((12 * p1) + v3))) < 2147483648)) ∧
      (-2147483648 ≤ v4 + 1 ∧ v4 + 1 < 2147483648 ∧ -2147483648 ≤ v5 + 1 ∧ v5 + 1 < 2147483648) ∧
      am_Runs PP MLL (d + 2) m_M_nextWeighing 82 [some (qr (31, 12, 89)), some (qi p1), z2, some (qi v3), some (qi (v4 + 1)), some (qi (v5 + 1)), some (qi (sI σ 64 (Int.toNat ((12 * p1) + v3))))] [] (putI σ 66 (Int.toNat ((12 * p1) + v5)) (if (sI σ 64 (Int.toNat ((12 * p1) + v3))) ≤ v4 then (if ((sI σ 64 (Int.toNat ((12 * p1) + v3))) + (sI σ 65 (Int.toNat ((12 * p1) + v3)))) ≤ v4 then (0 : Int) else (-1) : Int) else 1)) (kI K)) ∧
    (¬ ((sI σ 62 (Int.toNat ((12 * p1) + v5))) = v3) →
      (-2147483648 ≤ v5 + 1 ∧ v5 + 1 < 2147483648) ∧
      am_Runs PP MLL (d + 2) m_M_nextWeighing 82 [some (qr (31, 12, 89)), some (qi p1), z2, some (qi v3), some (qi v4), some (qi (v5 + 1)), z6] [] σ (kI K)))))) : am_Runs PP MLL (d + 2) m_M_nextWeighing 82 [some (qr (31, 12, 89)), some (qi p1), z2, some (qi v3), some (qi v4), some (qi v5), z6] [] σ (kI K) := am_wEC_ok (orc [(87, 62, 20, 168), (97, 64, 20, 168), (106, 66, 20, 168), (120, 65, 20, 168)]) [33, 132] 200 (⟨rfl, ⟨fun c5 => ⟨⟨(h.1 c5).1.1, (h.1 c5).1.2⟩, (h.1 c5).2⟩, fun c5 => ⟨⟨rfl, (hF 52)⟩, ⟨⟨(h.2 c5).1.1, (h.2 c5).1.2.1⟩, ⟨⟨(h.2 c5).1.2.2.1, (h.2 c5).1.2.2.2.1⟩, ⟨⟨rfl, (h.2 c5).1.2.2.2.2.1, (h.2 c5).1.2.2.2.2.2⟩, ⟨fun c9 => ⟨⟨rfl, (hF 54)⟩, ⟨⟨(h.2 c5).1.1, (h.2 c5).1.2.1⟩, ⟨⟨((h.2 c5).2.1 c9).1.1, ((h.2 c5).2.1 c9).1.2.1⟩, ⟨⟨rfl, ((h.2 c5).2.1 c9).1.2.2.1, ((h.2 c5).2.1 c9).1.2.2.2⟩, ⟨⟨rfl, (hF 56)⟩, ⟨⟨(h.2 c5).1.1, (h.2 c5).1.2.1⟩, ⟨⟨(h.2 c5).1.2.2.1, (h.2 c5).1.2.2.2.1⟩, am_use (fun H12 => ⟨fun c10 => ⟨⟨rfl, (hF 55)⟩, ⟨⟨(h.2 c5).1.1, (h.2 c5).1.2.1⟩, ⟨⟨((h.2 c5).2.1 c9).1.1, ((h.2 c5).2.1 c9).1.2.1⟩, ⟨⟨rfl, ((h.2 c5).2.1 c9).1.2.2.1, ((h.2 c5).2.1 c9).1.2.2.2⟩, ⟨⟨(((h.2 c5).2.1 c9).2.1.1 c10), (((h.2 c5).2.1 c9).2.1.2 c10)⟩, ⟨fun c11 => (Eq.mp (congrArg (fun z => am_Runs _ _ _ _ _ _ (qi z :: _) _ _) (Eq.trans (if_pos c10 : (if (sI σ 64 (Int.toNat ((12 * p1) + v3))) ≤ v4 then (if ((sI σ 64 (Int.toNat ((12 * p1) + v3))) + (sI σ 65 (Int.toNat ((12 * p1) + v3)))) ≤ v4 then (0 : Int) else (-1) : Int) else 1) = if ((sI σ 64 (Int.toNat ((12 * p1) + v3))) + (sI σ 65 (Int.toNat ((12 * p1) + v3)))) ≤ v4 then (0 : Int) else (-1)) (if_pos c11 : (if ((sI σ 64 (Int.toNat ((12 * p1) + v3))) + (sI σ 65 (Int.toNat ((12 * p1) + v3)))) ≤ v4 then (0 : Int) else (-1)) = 0))) H12), fun c11 => (Eq.mp (congrArg (fun z => am_Runs _ _ _ _ _ _ (qi z :: _) _ _) (Eq.trans (if_pos c10 : (if (sI σ 64 (Int.toNat ((12 * p1) + v3))) ≤ v4 then (if ((sI σ 64 (Int.toNat ((12 * p1) + v3))) + (sI σ 65 (Int.toNat ((12 * p1) + v3)))) ≤ v4 then (0 : Int) else (-1) : Int) else 1) = if ((sI σ 64 (Int.toNat ((12 * p1) + v3))) + (sI σ 65 (Int.toNat ((12 * p1) + v3)))) ≤ v4 then (0 : Int) else (-1)) (if_neg c11 : (if ((sI σ 64 (Int.toNat ((12 * p1) + v3))) + (sI σ 65 (Int.toNat ((12 * p1) + v3)))) ≤ v4 then (0 : Int) else (-1)) = (-1)))) H12)⟩⟩⟩⟩⟩⟩, fun c10 => (Eq.mp (congrArg (fun z => am_Runs _ _ _ _ _ _ (qi z :: _) _ _) (if_neg c10 : (if (sI σ 64 (Int.toNat ((12 * p1) + v3))) ≤ v4 then (if ((sI σ 64 (Int.toNat ((12 * p1) + v3))) + (sI σ 65 (Int.toNat ((12 * p1) + v3)))) ≤ v4 then (0 : Int) else (-1) : Int) else 1) = 1)) H12)⟩) (am_wEC_ok (orc []) [33, 132] 200 (⟨⟨rfl, (h.2 c5).1.2.2.2.2.1, (h.2 c5).1.2.2.2.2.2⟩, ⟨⟨((h.2 c5).2.1 c9).2.2.1.1, ((h.2 c5).2.1 c9).2.2.1.2.1⟩, ⟨⟨((h.2 c5).2.1 c9).2.2.1.2.2.1, ((h.2 c5).2.1 c9).2.2.1.2.2.2⟩, ((h.2 c5).2.1 c9).2.2.2⟩⟩⟩))⟩⟩⟩⟩⟩⟩⟩, fun c9 => ⟨⟨((h.2 c5).2.2 c9).1.1, ((h.2 c5).2.2 c9).1.2⟩, ((h.2 c5).2.2 c9).2⟩⟩⟩⟩⟩⟩⟩⟩)

def sdG (G : Nat → Nat) (v : sW) : Nat → Int := fun q => if rkq G q < v.2.1 (G q) then 1 else if rkq G q < v.2.1 (G q) + v.2.2 (G q) then -1 else 0
/-- one weighing on: the reference's store -/
def NWP (σ s : am_S) (lv N : Nat) (G : Nat → Nat) (v : sW) : Prop := s.2 = σ.2 ∧ (∀ x, x ≠ 59 → x ≠ 60 → x ≠ 64 → x ≠ 65 → x ≠ 66 → sI s x = sI σ x) ∧ (∀ j, j ≠ lv → sI s 59 j = sI σ 59 j ∧ sI s 60 j = sI σ 60 j) ∧ sI s 59 lv = v.1 ∧ sI s 60 lv = sI σ 60 lv + 1 ∧ VL s 64 lv = v.2.1 ∧ VL s 65 lv = v.2.2 ∧ (∀ j, j < 12 * lv → sI s 64 j = sI σ 64 j ∧ sI s 65 j = sI σ 65 j) ∧ (∀ j, j < 12 * lv → sI s 66 j = sI σ 66 j) ∧ ∀ q, q < N → sI s 66 (12 * lv + q) = sdG G v q
theorem c_M_nextWeighing (d : Nat) {lv n N : Nat} {G : Nat → Nat} {σ : am_S} {K : Int → am_S → Prop} (hF : MF σ) (hlv : lv < 14) (hN : sI σ 31 2 = N) (hN2 : N ≤ 12) (hn : sI σ 61 lv = n) (hn2 : n ≤ 12) (hG : ∀ q, q < N → sI σ 62 (12 * lv + q) = G q ∧ G q < n) (hz : ∀ g, g < n → 0 ≤ VL σ 63 lv g ∧ VL σ 63 lv g ≤ 12) (hs : sm (VL σ 63 lv) n = N) (hv : sI σ 59 lv = 0 ∨ WV (VL σ 63 lv) n N (sI σ 59 lv, VL σ 64 lv, VL σ 65 lv)) (h0v : sI σ 59 lv = 0 → ∀ g, g < n → 0 ≤ VL σ 64 lv g ∧ VL σ 64 lv g ≤ 12 ∧ 0 ≤ VL σ 65 lv g ∧ VL σ 65 lv g ≤ 12) (h8 : -1 ≤ sI σ 60 lv ∧ sI σ 60 lv ≤ 200000000)
    (h0 : nx (VL σ 63 lv) n N (sI σ 59 lv, VL σ 64 lv, VL σ 65 lv) = none → K 0 (putI σ 59 lv (sI σ 59 lv + 1))) (h1 : ∀ v s, nx (VL σ 63 lv) n N (sI σ 59 lv, VL σ 64 lv, VL σ 65 lv) = some v → NWP σ s lv N G v → K 1 s) : am_Calls PP MLL (d + 3) m_M_nextWeighing [qr (31, 12, 89), qi (lv : Int)] σ (kI K) := by
  obtain ⟨Z, eZ⟩ : ∃ Z, Z = VL σ 63 lv := ⟨_, rfl⟩
  obtain ⟨L, eL⟩ : ∃ L, L = VL σ 64 lv := ⟨_, rfl⟩
  obtain ⟨R, eR⟩ : ∃ R, R = VL σ 65 lv := ⟨_, rfl⟩
  obtain ⟨p, ep⟩ : ∃ p, p = sI σ 59 lv := ⟨_, rfl⟩
  rw [← eZ, ← eL, ← eR, ← ep] at h0 h1 hv
  rw [← eZ] at hz hs
  rw [← eL, ← eR, ← ep] at h0v
  have hp : 0 ≤ p ∧ p ≤ 6 := by
    rcases hv with q | q
    · omega
    · have := q.1
      dsimp only at this
      omega
  have nok : ∀ v, nx Z n N (p, L, R) = some v → WV Z n N v := fun v q => (nx_ok hz hs hv q).1
  -- the sides
  have sides : ∀ (T : am_S) (v : sW), nx Z n N (p, L, R) = some v → T.2 = σ.2 → (∀ x, x ≠ 59 → x ≠ 60 → x ≠ 64 → x ≠ 65 → sI T x = sI σ x) → (∀ j, j ≠ lv → sI T 59 j = sI σ 59 j ∧ sI T 60 j = sI σ 60 j) → sI T 59 lv = v.1 → sI T 60 lv = sI σ 60 lv + 1 → VL T 64 lv = v.2.1 → VL T 65 lv = v.2.2 → (∀ j, j < 12 * lv → sI T 64 j = sI σ 64 j ∧ sI T 65 j = sI σ 65 j) → ∀ z2 z4 z5 z6, am_Runs PP MLL (d + 2) m_M_nextWeighing 72 [some (qr (31, 12, 89)), some (qi (lv : Int)), z2, some (qi 0), z4, z5, z6] [] T (kI K) := by
    intro T v hvv t2 to tj t59 t60 t64 t65 tlo
    have wv := nok v hvv
    have hTF := MF_2 t2 hF
    have c64 : ∀ g, sI T 64 (12 * lv + g) = v.2.1 g := fun g => by rw [← t64]; rfl
    have c65 : ∀ g, sI T 65 (12 * lv + g) = v.2.2 g := fun g => by rw [← t65]; rfl
    have I6 : ∀ (s : am_S) (g i : Nat), Prop := fun s g i => s.2 = T.2 ∧ (∀ x, x ≠ 66 → sI s x = sI T x) ∧ (∀ j, j < 12 * lv → sI s 66 j = sI T 66 j) ∧ ∀ q, q < N → (G q < g ∨ (G q = g ∧ q < i)) → sI s 66 (12 * lv + q) = sdG G v q
    have inner : ∀ g : Nat, g < n → (∀ s z2 z4 z5 z6, (s.2 = T.2 ∧ (∀ x, x ≠ 66 → sI s x = sI T x) ∧ (∀ j, j < 12 * lv → sI s 66 j = sI T 66 j) ∧ ∀ q, q < N → G q < g + 1 → sI s 66 (12 * lv + q) = sdG G v q) → am_Runs PP MLL (d + 2) m_M_nextWeighing 72 [some (qr (31, 12, 89)), some (qi (lv : Int)), z2, some (qi ((g + 1 : Nat) : Int)), z4, z5, z6] [] s (kI K)) → ∀ i : Nat, i ≤ N → ∀ s z2 z6, (s.2 = T.2 ∧ (∀ x, x ≠ 66 → sI s x = sI T x) ∧ (∀ j, j < 12 * lv → sI s 66 j = sI T 66 j) ∧ ∀ q, q < N → (G q < g ∨ (G q = g ∧ q < i)) → sI s 66 (12 * lv + q) = sdG G v q) → am_Runs PP MLL (d + 2) m_M_nextWeighing 82 [some (qr (31, 12, 89)), some (qi (lv : Int)), z2, some (qi (g : Int)), some (qi (cng G g i)), some (qi (i : Int)), z6] [] s (kI K) := by
      intro g hg next
      have wg := wv.2.1 g hg
      have zg := hz g hg
      refine lp ?_ ?_
      · intro s z2 z6 hs
        refine v_M_nextWeighing_82 d lv _ _ _ z2 z6 s K (MF_2 hs.1 hTF) ⟨fun _ => ⟨by omega, next s _ _ _ _ ⟨hs.1, hs.2.1, hs.2.2.1, fun q hq hqg => ?_⟩⟩, fun c => absurd ?_ c⟩
        · exact hs.2.2.2 q hq (by omega)
        · rw [hs.2.1 31 (by decide), to 31 (by decide) (by decide) (by decide) (by decide)]
          omega
      · intro i hi ih s z2 z6 hs
        obtain ⟨s1, s2, s3, s4⟩ := hs
        have hcb := cng_bd G g i
        have es := cng_s G g i
        obtain ⟨g1, g2⟩ := hG i hi
        refine v_M_nextWeighing_82 d lv _ _ _ z2 z6 s K (MF_2 s1 hTF) ⟨fun c => absurd c ?_, fun _ => ?_⟩
        · rw [s2 31 (by decide), to 31 (by decide) (by decide) (by decide) (by decide)]
          omega
        · rw [show Int.toNat (12 * (lv : Int) + (i : Int)) = 12 * lv + i by omega, show Int.toNat (12 * (lv : Int) + (g : Int)) = 12 * lv + g by omega, s2 62 (by decide), to 62 (by decide) (by decide) (by decide) (by decide), g1, s2 64 (by decide), s2 65 (by decide), c64, c65]
          refine ⟨by omega, fun c => ⟨by omega, ⟨fun _ => by omega, fun _ => by omega⟩, by omega, ?_⟩, fun c => ⟨by omega, ?_⟩⟩
          · have c' : G i = g := by omega
            rw [if_pos c'] at es
            rw [← es]
            refine ih _ _ _ ⟨s1, fun x hx => by rw [put_ne hx]; exact s2 x hx, fun j hj => by rw [put_at, if_neg (by omega)]; exact s3 j hj, fun q hq hqg => ?_⟩
            rw [put_at]
            by_cases e : q = i
            · rw [if_pos (by omega), e]
              unfold sdG
              rw [rkq_cng, c']
              (repeat' split) <;> omega
            · rw [if_neg (by omega)]
              exact s4 q hq (by omega)
          · have c' : ¬ G i = g := by omega
            rw [if_neg c', Int.add_zero] at es
            rw [← es]
            refine ih _ _ _ ⟨s1, s2, s3, fun q hq hqg => s4 q hq ?_⟩
            by_cases e : q = i
            · rw [e] at hqg ⊢
              omega
            · omega
    have outer : ∀ g : Nat, g ≤ n → ∀ s z2 z4 z5 z6, (s.2 = T.2 ∧ (∀ x, x ≠ 66 → sI s x = sI T x) ∧ (∀ j, j < 12 * lv → sI s 66 j = sI T 66 j) ∧ ∀ q, q < N → G q < g → sI s 66 (12 * lv + q) = sdG G v q) → am_Runs PP MLL (d + 2) m_M_nextWeighing 72 [some (qr (31, 12, 89)), some (qi (lv : Int)), z2, some (qi (g : Int)), z4, z5, z6] [] s (kI K) := by
      refine lp ?_ ?_
      · intro s z2 z4 z5 z6 hs
        obtain ⟨s1, s2, s3, s4⟩ := hs
        refine v_M_nextWeighing_72 d lv _ z2 z4 z5 z6 s K (MF_2 s1 hTF) ⟨by omega, fun _ => h1 v s hvv ⟨s1.trans t2, fun x x1 x2 x3 x4 x5 => ?_, fun j hj => ?_, ?_, ?_, ?_, ?_, fun j hj => ?_, fun j hj => ?_, fun q hq => s4 q hq (hG q hq).2⟩, fun c => absurd ?_ c⟩
        · rw [s2 x x5, to x x1 x2 x3 x4]
        · rw [s2 59 (by decide), s2 60 (by decide)]
          exact tj j hj
        · rw [s2 59 (by decide), t59]
        · rw [s2 60 (by decide), t60]
        · rw [← t64]
          unfold VL
          rw [s2 64 (by decide)]
        · rw [← t65]
          unfold VL
          rw [s2 65 (by decide)]
        · rw [s2 64 (by decide), s2 65 (by decide)]
          exact tlo j hj
        · rw [s3 j hj, to 66 (by decide) (by decide) (by decide) (by decide)]
        · rw [Int.toNat_natCast, s2 61 (by decide), to 61 (by decide) (by decide) (by decide) (by decide)]
          omega
      · intro g hg ih s z2 z4 z5 z6 hs
        refine v_M_nextWeighing_72 d lv _ z2 z4 z5 z6 s K (MF_2 hs.1 hTF) ⟨by omega, fun c => absurd c ?_, fun _ => ?_⟩
        · rw [Int.toNat_natCast, hs.2.1 61 (by decide), to 61 (by decide) (by decide) (by decide) (by decide)]
          omega
        · exact inner g hg ih 0 (Nat.zero_le _) s _ _ ⟨hs.1, hs.2.1, hs.2.2.1, fun q hq hqg => hs.2.2.2 q hq (by omega)⟩
    exact fun z2 z4 z5 z6 => outer 0 (Nat.zero_le _) T z2 z4 z5 z6 ⟨rfl, fun _ _ => rfl, fun _ _ => rfl, fun q _ hq => absurd hq (Nat.not_lt_zero _)⟩
  -- as many coins: found
  have found : ∀ (q : (Nat → Int) × (Nat → Int)) (s : am_S) (x3 : Int) z4 z5 z6, nxL Z n (p, L, R) = some q → FM σ s lv q → am_Runs PP MLL (d + 2) m_M_nextWeighing 9 [some (qr (31, 12, 89)), some (qi (lv : Int)), some (qi 1), some (qi x3), z4, z5, z6] [] s (kI K) := by
    intro q s x3 z4 z5 z6 hq hs
    obtain ⟨s1, s2, s3, s4, s5⟩ := hs
    have enx : nx Z n N (p, L, R) = some (p, q) := by
      unfold nx
      rw [hq]
    have e60 : sI s 60 lv = sI σ 60 lv := by rw [s2 60 (by decide) (by decide)]
    have go : ∀ z2 z4 z5 z6, am_Runs PP MLL (d + 2) m_M_nextWeighing 72 [some (qr (31, 12, 89)), some (qi (lv : Int)), z2, some (qi 0), z4, z5, z6] [] (putI s 60 lv (sI s 60 lv + 1)) (kI K) := by
      refine sides (putI s 60 lv (sI s 60 lv + 1)) (p, q) enx s1 (fun x x1 x2 x3 x4 => by rw [put_ne x2, s2 x x3 x4]) (fun j hj => ?_) ?_ ?_ ?_ ?_ (fun j hj => ?_)
      · rw [put_ne (by decide), put_at, if_neg hj, s2 59 (by decide) (by decide), s2 60 (by decide) (by decide)]
        exact ⟨rfl, rfl⟩
      · rw [put_ne (by decide), s2 59 (by decide) (by decide)]
        exact ep.symm
      · rw [put_at, if_pos rfl, e60]
      · rw [VL_ne (by decide)]
        exact s3
      · rw [VL_ne (by decide)]
        exact s4
      · rw [put_ne (show 64 ≠ 60 by decide), put_ne (show 65 ≠ 60 by decide)]
        exact s5 j hj
    refine v_M_nextWeighing_9 d lv 1 x3 z4 z5 z6 s K (MF_2 s1 hF) ⟨fun _ => ⟨fun c => absurd c (by decide), fun _ => ?_⟩, fun _ => ⟨fun c => absurd c (by decide), fun _ => ?_⟩⟩
    · rw [Int.toNat_natCast]
      exact ⟨by omega, go _ _ _ _⟩
    · rw [Int.toNat_natCast]
      exact ⟨by omega, go _ _ _ _⟩
  -- one coin more on each pan
  have more : nxL Z n (p, L, R) = none → ∀ z4 z5 z6, (-2147483648 ≤ p + 1 ∧ p + 1 < 2147483648 ∧ -2147483648 ≤ 2 * sI (putI σ 59 lv (p + 1)) 59 lv ∧ 2 * sI (putI σ 59 lv (p + 1)) 59 lv < 2147483648) ∧ ((2 * sI (putI σ 59 lv (p + 1)) 59 lv ≤ sI σ 31 2 → am_Calls PP MLL (d + 2) m_M_fill [qr (31, 12, 89), qi (lv : Int), qi 0, qi 0] (putI σ 59 lv (p + 1)) (kV fun s7 => (MF s7) ∧ (-2147483648 ≤ sI s7 60 lv + 1 ∧ sI s7 60 lv + 1 < 2147483648) ∧ am_Runs PP MLL (d + 2) m_M_nextWeighing 72 [some (qr (31, 12, 89)), some (qi (lv : Int)), some (qi 0), some (qi 0), z4, z5, z6] [] (putI s7 60 lv (sI s7 60 lv + 1)) (kI K))) ∧ (¬ (2 * sI (putI σ 59 lv (p + 1)) 59 lv ≤ sI σ 31 2) → K 0 (putI σ 59 lv (p + 1)))) := by
    intro hnl z4 z5 z6
    have e59 : sI (putI σ 59 lv (p + 1)) 59 lv = p + 1 := by rw [put_at, if_pos rfl]
    have enx : nx Z n N (p, L, R) = if (N : Int) < 2 * (p + 1) then none else some (p + 1, (fl Z L R 0 (p + 1) (p + 1) n).2.2) := by
      unfold nx
      rw [hnl]
    rw [e59, hN]
    refine ⟨by omega, fun c => ?_, fun c => ?_⟩
    · rw [if_neg (by omega)] at enx
      have s63 : VL (putI σ 59 lv (p + 1)) 63 lv = Z := by rw [VL_ne (by decide), eZ]
      have s64 : VL (putI σ 59 lv (p + 1)) 64 lv = L := by rw [VL_ne (by decide), eL]
      have s65 : VL (putI σ 59 lv (p + 1)) 65 lv = R := by rw [VL_ne (by decide), eR]
      refine c_M_fill (d + 1) (lv := lv) (g := 0) (n := n) (alone := 0) (wl := p + 1) (wr := p + 1) hF hlv (by rw [put_ne (by decide)]; exact hn) hn2 (by omega) (Or.inl rfl) (by rw [s63]; exact hz) ?_ (by rw [e59]; omega) ?_ ?_ (by omega) (by omega) (fun q => absurd q (by decide)) ?_
      · intro j hj
        rw [s64, s65]
        rcases hv with w | w
        · exact h0v w j hj
        · have := w.2.1 j hj
          have := hz j hj
          dsimp only at *
          omega
      · rw [e59]
        show p + 1 - 0 = p + 1
        omega
      · rw [e59]
        show p + 1 - 0 = p + 1
        omega
      · intro s hs
        rw [s63, s64, s65] at hs
        unfold flM at hs
        rw [if_pos rfl, Nat.sub_zero] at hs
        obtain ⟨s1, s2, s3, s4, s5⟩ := hs
        have e60 : sI s 60 lv = sI σ 60 lv := by rw [s2 60 (by decide) (by decide), put_ne (by decide)]
        refine ⟨MF_2 s1 hF, by omega, ?_⟩
        refine sides (putI s 60 lv (sI s 60 lv + 1)) (p + 1, (fl Z L R 0 (p + 1) (p + 1) n).2.2) enx s1 (fun x x1 x2 x3 x4 => by rw [put_ne x2, s2 x x3 x4, put_ne x1]) (fun j hj => ?_) ?_ ?_ ?_ ?_ (fun j hj => ?_) _ _ _ _
        · rw [put_ne (by decide), put_at, if_neg hj, s2 59 (by decide) (by decide), s2 60 (by decide) (by decide), put_at, if_neg hj, put_ne (by decide)]
          exact ⟨rfl, rfl⟩
        · rw [put_ne (by decide), s2 59 (by decide) (by decide), e59]
        · rw [put_at, if_pos rfl, e60]
        · rw [VL_ne (by decide)]
          exact s3
        · rw [VL_ne (by decide)]
          exact s4
        · have := s5 j hj
          rw [put_ne (show 64 ≠ 59 by decide), put_ne (show 65 ≠ 59 by decide)] at this
          rw [put_ne (show 64 ≠ 60 by decide), put_ne (show 65 ≠ 60 by decide)]
          exact this
    · rw [if_pos (by omega)] at enx
      exact h0 enx
  refine v_M_nextWeighing_0 d lv σ K hF ?_
  rw [Int.toNat_natCast, hn]
  refine ⟨by omega, ?_⟩
  by_cases hp0 : p = 0
  · have hnl : nxL Z n (p, L, R) = none := by
      unfold nxL
      rw [if_pos hp0]
    refine v_M_nextWeighing_9 d lv 0 _ none none none σ K hF ⟨fun c => ⟨fun _ => ?_, fun c => absurd rfl c⟩, fun c => ⟨fun _ => ⟨by omega, fun c2 => ?_, fun c2 => ?_⟩, fun c => absurd rfl c⟩⟩
    · rw [Int.toNat_natCast, ← ep]
      have := more hnl none none none
      exact ⟨⟨by omega, by omega, this.1⟩, this.2⟩
    · rw [Int.toNat_natCast, ← ep]
      exact more hnl _ _ _
    · rw [Int.toNat_natCast, ← ep] at c2
      omega
  · have wv : WV Z n N (p, L, R) := by
      rcases hv with q | q
      · exact absurd q hp0
      · exact q
    obtain ⟨w1, w2, w3, w4⟩ := wv
    dsimp only at w1 w2 w3 w4
    have enl : nxL Z n (p, L, R) = lsn Z L R n n 0 0 0 := by
      unfold nxL
      rw [if_neg hp0]
    have down : ∀ g : Nat, g ≤ n → nxL Z n (p, L, R) = lsn Z L R n g (sg Z g (n - g)) (sg L g (n - g)) (sg R g (n - g)) → am_Runs PP MLL (d + 2) m_M_nextWeighing 9 [some (qr (31, 12, 89)), some (qi (lv : Int)), some (qi 0), some (qi ((g : Int) - 1)), none, none, none] [] σ (kI K) := by
      intro g
      induction g with
      | zero =>
        intro _ he
        refine v_M_nextWeighing_9 d lv 0 _ none none none σ K hF ⟨fun c => ⟨fun _ => ?_, fun c => absurd rfl c⟩, fun c => absurd (by omega) c⟩
        rw [Int.toNat_natCast, ← ep]
        have := more he none none none
        exact ⟨⟨by omega, by omega, this.1⟩, this.2⟩
      | succ g ih =>
        intro hg he
        obtain ⟨k, hk⟩ : ∃ k, n = g + 1 + k := ⟨n - (g + 1), by omega⟩
        have ek : n - (g + 1) = k := by omega
        have ek2 : n - g = k + 1 := by omega
        rw [ek] at he
        have el : lsn Z L R n (g + 1) (sg Z (g + 1) k) (sg L (g + 1) k) (sg R (g + 1) k) = if 0 < R g ∧ sg L (g + 1) k + sg R (g + 1) k < sg Z (g + 1) k then some (fl Z L (ud R g (R g - 1)) (g + 1) (sg L (g + 1) k) (sg R (g + 1) k + 1) (n - (g + 1))).2.2 else if 0 < L g ∧ sg L (g + 1) k + 1 + (sg R (g + 1) k + R g) - mi (Z g - L g + 1) (sg R (g + 1) k + R g) ≤ sg Z (g + 1) k then some (fl Z (ud L g (L g - 1)) (ud R g (mi (Z g - L g + 1) (sg R (g + 1) k + R g))) (g + 1) (sg L (g + 1) k + 1) (sg R (g + 1) k + R g - mi (Z g - L g + 1) (sg R (g + 1) k + R g)) (n - (g + 1))).2.2 else lsn Z L R n g (sg Z (g + 1) k + Z g) (sg L (g + 1) k + L g) (sg R (g + 1) k + R g) := rfl
        rw [el, ek] at he
        have e0 : ((g + 1 : Nat) : Int) - 1 = (g : Int) := by omega
        have em : (g : Int) + (-1) = (g : Int) - 1 := by omega
        refine v_M_nextWeighing_9 d lv 0 _ none none none σ K hF ⟨fun c => absurd c (by omega), fun c => ⟨fun _ => ⟨by omega, fun c2 => absurd c2 (by rw [Int.toNat_natCast, ← ep]; omega), fun c2 => ?_⟩, fun c => absurd rfl c⟩⟩
        rw [e0]
        refine c_M_lessens d (lv := lv) (g := g) (n := n) (k := k) (right := 1) hF hlv hn hn2 hk (Or.inr rfl) (by rw [← eZ]; exact hz) (by rw [← eZ, ← eL, ← eR]; exact w2) (by rw [← ep]; omega) (by rw [← eL, ← ep]; exact w3) (by rw [← eR, ← ep]; exact w4) (fun q1 _ => ?_) (fun _ q s hs => ?_) (fun q => absurd q (by decide))
        · rw [← eZ, ← eL, ← eR] at q1
          have q1 := q1 rfl
          rw [if_neg q1] at he
          refine ⟨hF, fun _ => ?_, fun c => absurd rfl c⟩
          refine c_M_lessens d (lv := lv) (g := g) (n := n) (k := k) (right := 0) hF hlv hn hn2 hk (Or.inl rfl) (by rw [← eZ]; exact hz) (by rw [← eZ, ← eL, ← eR]; exact w2) (by rw [← ep]; omega) (by rw [← eL, ← ep]; exact w3) (by rw [← eR, ← ep]; exact w4) (fun _ q2 => ?_) (fun q => absurd q (by decide)) (fun _ q s hs => ?_)
          · rw [← eZ, ← eL, ← eR] at q2
            have q2 := q2 rfl
            rw [if_neg q2] at he
            rw [if_pos rfl, em]
            refine ⟨hF, by omega, ih (by omega) ?_⟩
            rw [ek2, sg_f Z, sg_f L, sg_f R, Int.add_comm (Z g), Int.add_comm (L g), Int.add_comm (R g)]
            exact he
          · rw [← eZ, ← eL, ← eR] at q hs
            rw [if_pos q] at he
            rw [if_neg (by decide)]
            exact ⟨MF_2 hs.1 hF, by omega, found _ s _ _ _ _ he hs⟩
        · rw [← eZ, ← eL, ← eR] at q hs
          rw [if_pos q] at he
          exact ⟨MF_2 hs.1 hF, fun c => absurd c (by decide), fun _ => ⟨by omega, found _ s _ _ _ _ he hs⟩⟩
    refine down n (Nat.le_refl _) ?_
    rw [enl, Nat.sub_self]
    rfl
