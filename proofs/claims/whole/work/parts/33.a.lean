theorem v_M_truth_0 (d : Nat) (p1 p2 : Int) (σ : am_S) (K : Int → am_S → Prop) (hF : MF σ) (h :
  (-2147483648 ≤ (sI σ 31 5) - 1 ∧ (sI σ 31 5) - 1 < 2147483648) ∧
  ((p1 < 0 →
    K (-1001) σ) ∧
  (¬ (p1 < 0) →
    ((((sI σ 31 5) - 1) < p1 →
      K (-1001) σ) ∧
    (¬ (((sI σ 31 5) - 1) < p1) →
      (-2147483648 ≤ (sI σ 31 2) - 1 ∧ (sI σ 31 2) - 1 < 2147483648) ∧
      ((p2 < 0 →
        K (-1001) σ) ∧
      (¬ (p2 < 0) →
        ((((sI σ 31 2) - 1) < p2 →
          K (-1001) σ) ∧
        (¬ (((sI σ 31 2) - 1) < p2) →
          am_Runs PP MLL (d + 2) m_M_truth 14 [some (qr (31, 12, 89)), some (qi p1), some (qi p2), some (qi 0), some (qi 0)] [] σ (kI K)))))))))) : am_Runs PP MLL (d + 2) m_M_truth 0 [some (qr (31, 12, 89)), some (qi p1), some (qi p2), none, none] [] σ (kI K) := am_wEF_ok (orc []) 200 (⟨rfl, am_wEF_ok (orc []) 200 (⟨rfl, ⟨⟨h.1.1, h.1.2⟩, am_wEF_ok (orc []) 200 (⟨fun c1 => ⟨(Or.inl rfl), ⟨(Or.inl rfl), ⟨fun _ => (h.2.1 c1), fun c => absurd (by decide : (0 : Int) = 0) c⟩⟩⟩, fun c1 => ⟨fun c2 => ⟨(Or.inl rfl), ⟨(Or.inl rfl), ⟨fun _ => ((h.2.2 c1).1 c2), fun c => absurd (by decide : (0 : Int) = 0) c⟩⟩⟩, fun c2 => ⟨(Or.inr rfl), ⟨(Or.inr rfl), ⟨fun c => absurd c (by decide : ¬ ((1 : Int) = 0)), fun _ => ⟨rfl, am_wEF_ok (orc []) 200 (⟨rfl, ⟨⟨((h.2.2 c1).2 c2).1.1, ((h.2.2 c1).2 c2).1.2⟩, am_wEF_ok (orc []) 200 (⟨fun c3 => ⟨(Or.inl rfl), ⟨(Or.inl rfl), ⟨fun _ => (((h.2.2 c1).2 c2).2.1 c3), fun c => absurd (by decide : (0 : Int) = 0) c⟩⟩⟩, fun c3 => ⟨fun c4 => ⟨(Or.inl rfl), ⟨(Or.inl rfl), ⟨fun _ => ((((h.2.2 c1).2 c2).2.2 c3).1 c4), fun c => absurd (by decide : (0 : Int) = 0) c⟩⟩⟩, fun c4 => ⟨(Or.inr rfl), ⟨(Or.inr rfl), ⟨fun c => absurd c (by decide : ¬ ((1 : Int) = 0)), fun _ => ((((h.2.2 c1).2 c2).2.2 c3).2 c4)⟩⟩⟩⟩⟩)⟩⟩)⟩⟩⟩⟩⟩⟩)⟩⟩)⟩)

theorem v_M_truth_14 (d : Nat) (p1 p2 v3 v4 : Int) (σ : am_S) (K : Int → am_S → Prop) (hF : MF σ) (h :
  (0 ≤ p1 ∧ p1 < 10000) ∧
  (((sI σ 33 (Int.toNat p1)) ≤ v4 →
    K v3 σ) ∧
  (¬ ((sI σ 33 (Int.toNat p1)) ≤ v4) →
    (-2147483648 ≤ 3 * p1 ∧ 3 * p1 < 2147483648 ∧ -2147483648 ≤ (3 * p1) + v4 ∧ (3 * p1) + v4 < 2147483648 ∧ 0 ≤ ((3 * p1) + v4) ∧ ((3 * p1) + v4) < 30000) ∧
    (((sI σ 34 (Int.toNat ((3 * p1) + v4))) = p2 →
      (-2147483648 ≤ v4 + 1 ∧ v4 + 1 < 2147483648) ∧
      am_Runs PP MLL (d + 2) m_M_truth 14 [some (qr (31, 12, 89)), some (qi p1), some (qi p2), some (qi (sI σ 35 (Int.toNat ((3 * p1) + v4)))), some (qi (v4 + 1))] [] σ (kI K)) ∧
    (¬ ((sI σ 34 (Int.toNat ((3 * p1) + v4))) = p2) →
      (-2147483648 ≤ v4 + 1 ∧ v4 + 1 < 2147483648) ∧
      am_Runs PP MLL (d + 2) m_M_truth 14 [some (qr (31, 12, 89)), some (qi p1), some (qi p2), some (qi v3), some (qi (v4 + 1))] [] σ (kI K)))))) : am_Runs PP MLL (d + 2) m_M_truth 14 [some (qr (31, 12, 89)), some (qi p1), some (qi p2), some (qi v3), some (qi v4)] [] σ (kI K) := am_wEF_ok (orc [(16, 33, 20, 10000), (21, 34, 20, 30000), (31, 35, 20, 30000)]) 200 (⟨⟨rfl, (hF 7)⟩, ⟨⟨rfl, h.1.1, h.1.2⟩, ⟨fun c1 => (h.2.1 c1), fun c1 => ⟨⟨rfl, (hF 8)⟩, ⟨⟨(h.2.2 c1).1.1, (h.2.2 c1).1.2.1⟩, ⟨⟨(h.2.2 c1).1.2.2.1, (h.2.2 c1).1.2.2.2.1⟩, ⟨⟨rfl, (h.2.2 c1).1.2.2.2.2.1, (h.2.2 c1).1.2.2.2.2.2⟩, ⟨fun c2 => ⟨⟨rfl, (hF 9)⟩, ⟨⟨(h.2.2 c1).1.1, (h.2.2 c1).1.2.1⟩, ⟨⟨(h.2.2 c1).1.2.2.1, (h.2.2 c1).1.2.2.2.1⟩, ⟨⟨rfl, (h.2.2 c1).1.2.2.2.2.1, (h.2.2 c1).1.2.2.2.2.2⟩, ⟨⟨((h.2.2 c1).2.1 c2).1.1, ((h.2.2 c1).2.1 c2).1.2⟩, ((h.2.2 c1).2.1 c2).2⟩⟩⟩⟩⟩, fun c2 => ⟨⟨((h.2.2 c1).2.2 c2).1.1, ((h.2.2 c1).2.2 c2).1.2⟩, ((h.2.2 c1).2.2 c2).2⟩⟩⟩⟩⟩⟩⟩⟩⟩)

theorem v_M_lied_0 (d : Nat) (p1 : Int) (σ : am_S) (K : Int → am_S → Prop) (hF : MF σ) (h :
  (-2147483648 ≤ (sI σ 31 5) - 1 ∧ (sI σ 31 5) - 1 < 2147483648) ∧
  ((p1 < 0 →
    K (-1001) σ) ∧
  (¬ (p1 < 0) →
    ((((sI σ 31 5) - 1) < p1 →
      K (-1001) σ) ∧
    (¬ (((sI σ 31 5) - 1) < p1) →
      (0 ≤ p1 ∧ p1 < 10000) ∧
      ((0 ≤ (sI σ 37 (Int.toNat p1)) →
        K (-1000) σ) ∧
      (¬ (0 ≤ (sI σ 37 (Int.toNat p1))) →
        K (sI σ 36 (Int.toNat p1)) σ))))))) : am_Runs PP MLL (d + 2) m_M_lied 0 [some (qr (31, 12, 89)), some (qi p1)] [] σ (kI K) := am_wEF_ok (orc [(11, 36, 20, 10000)]) 200 (⟨rfl, am_wEF_ok (orc []) 200 (⟨rfl, ⟨⟨h.1.1, h.1.2⟩, am_wEF_ok (orc []) 200 (⟨fun c1 => ⟨(Or.inl rfl), ⟨(Or.inl rfl), ⟨fun _ => (h.2.1 c1), fun c => absurd (by decide : (0 : Int) = 0) c⟩⟩⟩, fun c1 => ⟨fun c2 => ⟨(Or.inl rfl), ⟨(Or.inl rfl), ⟨fun _ => ((h.2.2 c1).1 c2), fun c => absurd (by decide : (0 : Int) = 0) c⟩⟩⟩, fun c2 => ⟨(Or.inr rfl), ⟨(Or.inr rfl), ⟨fun c => absurd c (by decide : ¬ ((1 : Int) = 0)), fun _ => ⟨rfl, am_wEF_ok (orc [(1, 37, 20, 10000)]) 200 (⟨⟨rfl, (hF 11)⟩, ⟨⟨rfl, ((h.2.2 c1).2 c2).1.1, ((h.2.2 c1).2 c2).1.2⟩, ⟨fun c3 => ⟨(Or.inl rfl), ⟨fun _ => (((h.2.2 c1).2 c2).2.1 c3), fun c => absurd (by decide : (0 : Int) = 0) c⟩⟩, fun c3 => ⟨(Or.inr rfl), ⟨fun c => absurd c (by decide : ¬ ((1 : Int) = 0)), fun _ => ⟨⟨rfl, (hF 10)⟩, ⟨⟨rfl, ((h.2.2 c1).2 c2).1.1, ((h.2.2 c1).2 c2).1.2⟩, (((h.2.2 c1).2 c2).2.2 c3)⟩⟩⟩⟩⟩⟩⟩)⟩⟩⟩⟩⟩⟩)⟩⟩)⟩)

theorem v_M_finds_0 (d : Nat) (p1 p2 : Int) (σ : am_S) (K : Int → am_S → Prop) (hF : MF σ) (h :
  (-2147483648 ≤ (sI σ 31 1) + 1 ∧ (sI σ 31 1) + 1 < 2147483648) ∧
  (0 ≤ p1 ∧ p1 < 12) ∧
  (((sI σ 41 (Int.toNat p1)) < 0 →
    (-2147483648 ≤ (-1010) - p2 ∧ (-1010) - p2 < 2147483648) ∧
    K ((-1010) - p2) (putI (putI σ 31 0 p2) 31 1 ((sI σ 31 1) + 1))) ∧
  (¬ ((sI σ 41 (Int.toNat p1)) < 0) →
    (-2147483648 ≤ (-1010) - p2 ∧ (-1010) - p2 < 2147483648) ∧
    K ((-1010) - p2) (putI (putI (putI σ 31 0 p2) 31 1 ((sI σ 31 1) + 1)) 43 (Int.toNat p1) p2)))) : am_Runs PP MLL (d + 1) m_M_finds 0 [some (qr (31, 12, 89)), some (qi p1), some (qi p2)] [] σ (kI K) := am_wEF_ok (orc [(14, 43, 20, 12)]) 200 (⟨rfl, ⟨rfl, ⟨⟨h.1.1, h.1.2⟩, ⟨rfl, ⟨rfl, am_wEF_ok (orc [(1, 41, 20, 12)]) 200 (⟨⟨rfl, (hF 17)⟩, ⟨⟨rfl, h.2.1.1, h.2.1.2⟩, ⟨fun c1 => ⟨(Or.inl rfl), ⟨fun _ => ⟨⟨(h.2.2.1 c1).1.1, (h.2.2.1 c1).1.2⟩, (h.2.2.1 c1).2⟩, fun c => absurd (by decide : (0 : Int) = 0) c⟩⟩, fun c1 => ⟨(Or.inr rfl), ⟨fun c => absurd c (by decide : ¬ ((1 : Int) = 0)), fun _ => ⟨⟨rfl, (hF 19)⟩, ⟨⟨rfl, h.2.1.1, h.2.1.2⟩, ⟨⟨(h.2.2.2 c1).1.1, (h.2.2.2 c1).1.2⟩, (h.2.2.2 c1).2⟩⟩⟩⟩⟩⟩⟩⟩)⟩⟩⟩⟩⟩)

