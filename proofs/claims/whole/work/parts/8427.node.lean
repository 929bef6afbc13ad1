/-! nodes of the reference -/
theorem v_M_node_0 (d : Nat) (p1 p2 : Int) (σ : am_S) (K : Int → am_S → Prop) (hF : MF σ) (hT : sI σ 31 26 = 0) (h :
  (-2147483648 ≤ (sI σ 31 73) - 1 ∧ (sI σ 31 73) - 1 < 2147483648) ∧
  ((p1 < 0 →
    K (-1001) σ) ∧
  (¬ (p1 < 0) →
    ((((sI σ 31 73) - 1) < p1 →
      K (-1001) σ) ∧
    (¬ (((sI σ 31 73) - 1) < p1) →
      ((p2 < 0 →
        K (-1001) σ) ∧
      (¬ (p2 < 0) →
        ((10 < p2 →
          K (-1001) σ) ∧
        (¬ (10 < p2) →
          (0 ≤ p1 ∧ p1 < 6000) ∧
          ((p2 ≤ 3 →
            (((p2 = 0) → 0 ≤ (sI σ 78 (Int.toNat p1))) ∧ ((p2 = 0) → (sI σ 78 (Int.toNat p1)) < 6000) ∧ (¬ (p2 = 0) → ((p2 = 1) → 0 ≤ (sI σ 78 (Int.toNat p1)))) ∧ (¬ (p2 = 0) → ((p2 = 1) → (sI σ 78 (Int.toNat p1)) < 6000)) ∧ (¬ (p2 = 0) → (¬ (p2 = 1) → ((p2 = 2) → 0 ≤ (sI σ 78 (Int.toNat p1))))) ∧ (¬ (p2 = 0) → (¬ (p2 = 1) → ((p2 = 2) → (sI σ 78 (Int.toNat p1)) < 6000))) ∧ (¬ (p2 = 0) → (¬ (p2 = 1) → (¬ (p2 = 2) → 0 ≤ (sI σ 78 (Int.toNat p1))))) ∧ (¬ (p2 = 0) → (¬ (p2 = 1) → (¬ (p2 = 2) → (sI σ 78 (Int.toNat p1)) < 6000)))) ∧
            K (if p2 = 0 then (sI σ 67 (Int.toNat (sI σ 78 (Int.toNat p1))) : Int) else (if p2 = 1 then (sI σ 70 (Int.toNat (sI σ 78 (Int.toNat p1))) : Int) else (if p2 = 2 then (sI σ 71 (Int.toNat (sI σ 78 (Int.toNat p1))) : Int) else (sI σ 72 (Int.toNat (sI σ 78 (Int.toNat p1))))))) σ) ∧
          (¬ (p2 ≤ 3) →
            (-2147483648 ≤ 7 * (sI σ 78 (Int.toNat p1)) ∧ 7 * (sI σ 78 (Int.toNat p1)) < 2147483648 ∧ -2147483648 ≤ (7 * (sI σ 78 (Int.toNat p1))) + p2 ∧ (7 * (sI σ 78 (Int.toNat p1))) + p2 < 2147483648 ∧ -2147483648 ≤ ((7 * (sI σ 78 (Int.toNat p1))) + p2) - 4 ∧ ((7 * (sI σ 78 (Int.toNat p1))) + p2) - 4 < 2147483648 ∧ 0 ≤ (((7 * (sI σ 78 (Int.toNat p1))) + p2) - 4) ∧ (((7 * (sI σ 78 (Int.toNat p1))) + p2) - 4) < 42000) ∧
            ((0 ≤ (sI σ 77 (Int.toNat (((7 * (sI σ 78 (Int.toNat p1))) + p2) - 4)))) → (sI σ 77 (Int.toNat (((7 * (sI σ 78 (Int.toNat p1))) + p2) - 4))) < 6000) ∧
            K (if 0 ≤ (sI σ 77 (Int.toNat (((7 * (sI σ 78 (Int.toNat p1))) + p2) - 4))) then (sI σ 75 (Int.toNat (sI σ 77 (Int.toNat (((7 * (sI σ 78 (Int.toNat p1))) + p2) - 4)))) : Int) else (-1000)) σ))))))))))) : am_Runs PP MLL (d + 1) m_M_node 0 [some (qr (31, 12, 89)), some (qi p1), some (qi p2), none, none] [] σ (kI K) := am_wEC_ok (orc [(16, 78, 20, 6000), (24, 77, 20, 42000), (39, 75, 20, 6000), (46, 67, 20, 6000), (54, 70, 20, 6000), (62, 71, 20, 6000), (67, 72, 20, 6000)]) [42, 70] 200 (⟨rfl, ⟨⟨h.1.1, h.1.2⟩, am_wEF_ok (orc []) 200 (⟨fun c1 => ⟨(Or.inl rfl), ⟨fun _ => (h.2.1 c1), fun c => absurd (by decide : (0 : Int) = 0) c⟩⟩, fun c1 => ⟨fun c2 => ⟨(Or.inl rfl), ⟨fun _ => ((h.2.2 c1).1 c2), fun c => absurd (by decide : (0 : Int) = 0) c⟩⟩, fun c2 => ⟨(Or.inr rfl), ⟨fun c => absurd c (by decide : ¬ ((1 : Int) = 0)), fun _ => am_wEF_ok (orc []) 200 (⟨fun c3 => ⟨(Or.inl rfl), ⟨fun _ => (((h.2.2 c1).2 c2).1 c3), fun c => absurd (by decide : (0 : Int) = 0) c⟩⟩, fun c3 => ⟨fun c4 => ⟨(Or.inl rfl), ⟨fun _ => ((((h.2.2 c1).2 c2).2 c3).1 c4), fun c => absurd (by decide : (0 : Int) = 0) c⟩⟩, fun c4 => ⟨(Or.inr rfl), ⟨fun c => absurd c (by decide : ¬ ((1 : Int) = 0)), fun _ => ⟨⟨rfl, (hF 72)⟩, ⟨⟨rfl, ((((h.2.2 c1).2 c2).2 c3).2 c4).1.1, ((((h.2.2 c1).2 c2).2 c3).2 c4).1.2⟩, ⟨fun c5 => am_use (fun H9 => ⟨fun c6 => ⟨⟨rfl, (hF 61)⟩, ⟨⟨rfl, ((((((h.2.2 c1).2 c2).2 c3).2 c4).2.1 c5).1.1 c6), ((((((h.2.2 c1).2 c2).2 c3).2 c4).2.1 c5).1.2.1 c6)⟩, (Eq.mp (congrArg (fun z => am_Runs _ _ _ _ _ _ (qi z :: _) _ _) (if_pos c6 : (if p2 = 0 then (sI σ 67 (Int.toNat (sI σ 78 (Int.toNat p1))) : Int) else if p2 = 1 then (sI σ 70 (Int.toNat (sI σ 78 (Int.toNat p1))) : Int) else (if p2 = 2 then (sI σ 71 (Int.toNat (sI σ 78 (Int.toNat p1))) : Int) else (sI σ 72 (Int.toNat (sI σ 78 (Int.toNat p1)))))) = sI σ 67 (Int.toNat (sI σ 78 (Int.toNat p1))))) H9)⟩⟩, fun c6 => ⟨fun c7 => ⟨⟨rfl, (hF 64)⟩, ⟨⟨rfl, (((((((h.2.2 c1).2 c2).2 c3).2 c4).2.1 c5).1.2.2.1 c6) c7), (((((((h.2.2 c1).2 c2).2 c3).2 c4).2.1 c5).1.2.2.2.1 c6) c7)⟩, (Eq.mp (congrArg (fun z => am_Runs _ _ _ _ _ _ (qi z :: _) _ _) (Eq.trans (if_neg c6 : (if p2 = 0 then (sI σ 67 (Int.toNat (sI σ 78 (Int.toNat p1))) : Int) else if p2 = 1 then (sI σ 70 (Int.toNat (sI σ 78 (Int.toNat p1))) : Int) else (if p2 = 2 then (sI σ 71 (Int.toNat (sI σ 78 (Int.toNat p1))) : Int) else (sI σ 72 (Int.toNat (sI σ 78 (Int.toNat p1)))))) = if p2 = 1 then (sI σ 70 (Int.toNat (sI σ 78 (Int.toNat p1))) : Int) else (if p2 = 2 then (sI σ 71 (Int.toNat (sI σ 78 (Int.toNat p1))) : Int) else (sI σ 72 (Int.toNat (sI σ 78 (Int.toNat p1)))))) (if_pos c7 : (if p2 = 1 then (sI σ 70 (Int.toNat (sI σ 78 (Int.toNat p1))) : Int) else if p2 = 2 then (sI σ 71 (Int.toNat (sI σ 78 (Int.toNat p1))) : Int) else (sI σ 72 (Int.toNat (sI σ 78 (Int.toNat p1))))) = sI σ 70 (Int.toNat (sI σ 78 (Int.toNat p1)))))) H9)⟩⟩, fun c7 => ⟨fun c8 => ⟨⟨rfl, (hF 65)⟩, ⟨⟨rfl, ((((((((h.2.2 c1).2 c2).2 c3).2 c4).2.1 c5).1.2.2.2.2.1 c6) c7) c8), ((((((((h.2.2 c1).2 c2).2 c3).2 c4).2.1 c5).1.2.2.2.2.2.1 c6) c7) c8)⟩, (Eq.mp (congrArg (fun z => am_Runs _ _ _ _ _ _ (qi z :: _) _ _) (Eq.trans (if_neg c6 : (if p2 = 0 then (sI σ 67 (Int.toNat (sI σ 78 (Int.toNat p1))) : Int) else if p2 = 1 then (sI σ 70 (Int.toNat (sI σ 78 (Int.toNat p1))) : Int) else (if p2 = 2 then (sI σ 71 (Int.toNat (sI σ 78 (Int.toNat p1))) : Int) else (sI σ 72 (Int.toNat (sI σ 78 (Int.toNat p1)))))) = if p2 = 1 then (sI σ 70 (Int.toNat (sI σ 78 (Int.toNat p1))) : Int) else (if p2 = 2 then (sI σ 71 (Int.toNat (sI σ 78 (Int.toNat p1))) : Int) else (sI σ 72 (Int.toNat (sI σ 78 (Int.toNat p1)))))) (Eq.trans (if_neg c7 : (if p2 = 1 then (sI σ 70 (Int.toNat (sI σ 78 (Int.toNat p1))) : Int) else if p2 = 2 then (sI σ 71 (Int.toNat (sI σ 78 (Int.toNat p1))) : Int) else (sI σ 72 (Int.toNat (sI σ 78 (Int.toNat p1))))) = if p2 = 2 then (sI σ 71 (Int.toNat (sI σ 78 (Int.toNat p1))) : Int) else (sI σ 72 (Int.toNat (sI σ 78 (Int.toNat p1))))) (if_pos c8 : (if p2 = 2 then (sI σ 71 (Int.toNat (sI σ 78 (Int.toNat p1))) : Int) else sI σ 72 (Int.toNat (sI σ 78 (Int.toNat p1)))) = sI σ 71 (Int.toNat (sI σ 78 (Int.toNat p1))))))) H9)⟩⟩, fun c8 => ⟨⟨rfl, (hF 66)⟩, ⟨⟨rfl, ((((((((h.2.2 c1).2 c2).2 c3).2 c4).2.1 c5).1.2.2.2.2.2.2.1 c6) c7) c8), ((((((((h.2.2 c1).2 c2).2 c3).2 c4).2.1 c5).1.2.2.2.2.2.2.2 c6) c7) c8)⟩, (Eq.mp (congrArg (fun z => am_Runs _ _ _ _ _ _ (qi z :: _) _ _) (Eq.trans (if_neg c6 : (if p2 = 0 then (sI σ 67 (Int.toNat (sI σ 78 (Int.toNat p1))) : Int) else if p2 = 1 then (sI σ 70 (Int.toNat (sI σ 78 (Int.toNat p1))) : Int) else (if p2 = 2 then (sI σ 71 (Int.toNat (sI σ 78 (Int.toNat p1))) : Int) else (sI σ 72 (Int.toNat (sI σ 78 (Int.toNat p1)))))) = if p2 = 1 then (sI σ 70 (Int.toNat (sI σ 78 (Int.toNat p1))) : Int) else (if p2 = 2 then (sI σ 71 (Int.toNat (sI σ 78 (Int.toNat p1))) : Int) else (sI σ 72 (Int.toNat (sI σ 78 (Int.toNat p1)))))) (Eq.trans (if_neg c7 : (if p2 = 1 then (sI σ 70 (Int.toNat (sI σ 78 (Int.toNat p1))) : Int) else if p2 = 2 then (sI σ 71 (Int.toNat (sI σ 78 (Int.toNat p1))) : Int) else (sI σ 72 (Int.toNat (sI σ 78 (Int.toNat p1))))) = if p2 = 2 then (sI σ 71 (Int.toNat (sI σ 78 (Int.toNat p1))) : Int) else (sI σ 72 (Int.toNat (sI σ 78 (Int.toNat p1))))) (if_neg c8 : (if p2 = 2 then (sI σ 71 (Int.toNat (sI σ 78 (Int.toNat p1))) : Int) else sI σ 72 (Int.toNat (sI σ 78 (Int.toNat p1)))) = sI σ 72 (Int.toNat (sI σ 78 (Int.toNat p1))))))) H9)⟩⟩⟩⟩⟩) (am_wEC_ok (orc []) [42, 70] 200 ((((((h.2.2 c1).2 c2).2 c3).2 c4).2.1 c5).2)), fun c5 => ⟨⟨rfl, (hF 71)⟩, ⟨⟨(((((h.2.2 c1).2 c2).2 c3).2 c4).2.2 c5).1.1, (((((h.2.2 c1).2 c2).2 c3).2 c4).2.2 c5).1.2.1⟩, ⟨⟨(((((h.2.2 c1).2 c2).2 c3).2 c4).2.2 c5).1.2.2.1, (((((h.2.2 c1).2 c2).2 c3).2 c4).2.2 c5).1.2.2.2.1⟩, ⟨⟨(((((h.2.2 c1).2 c2).2 c3).2 c4).2.2 c5).1.2.2.2.2.1, (((((h.2.2 c1).2 c2).2 c3).2 c4).2.2 c5).1.2.2.2.2.2.1⟩, ⟨⟨rfl, (((((h.2.2 c1).2 c2).2 c3).2 c4).2.2 c5).1.2.2.2.2.2.2.1, (((((h.2.2 c1).2 c2).2 c3).2 c4).2.2 c5).1.2.2.2.2.2.2.2⟩, am_use (fun H11 => ⟨fun c10 => ⟨⟨rfl, (hF 69)⟩, ⟨⟨rfl, c10, ((((((h.2.2 c1).2 c2).2 c3).2 c4).2.2 c5).2.1 c10)⟩, (Eq.mp (congrArg (fun z => am_Runs _ _ _ _ _ _ (qi z :: _) _ _) (if_pos c10 : (if 0 ≤ (sI σ 77 (Int.toNat (((7 * (sI σ 78 (Int.toNat p1))) + p2) - 4))) then (sI σ 75 (Int.toNat (sI σ 77 (Int.toNat (((7 * (sI σ 78 (Int.toNat p1))) + p2) - 4)))) : Int) else (-1000)) = sI σ 75 (Int.toNat (sI σ 77 (Int.toNat (((7 * (sI σ 78 (Int.toNat p1))) + p2) - 4)))))) H11)⟩⟩, fun c10 => (Eq.mp (congrArg (fun z => am_Runs _ _ _ _ _ _ (qi z :: _) _ _) (if_neg c10 : (if 0 ≤ (sI σ 77 (Int.toNat (((7 * (sI σ 78 (Int.toNat p1))) + p2) - 4))) then (sI σ 75 (Int.toNat (sI σ 77 (Int.toNat (((7 * (sI σ 78 (Int.toNat p1))) + p2) - 4)))) : Int) else (-1000)) = (-1000))) H11)⟩) (am_wEC_ok (orc []) [42, 70] 200 ((((((h.2.2 c1).2 c2).2 c3).2 c4).2.2 c5).2.2))⟩⟩⟩⟩⟩⟩⟩⟩⟩⟩⟩⟩)⟩⟩⟩⟩)⟩⟩)

theorem v_M_nodeCoin_0 (d : Nat) (p1 p2 p3 : Int) (σ : am_S) (K : Int → am_S → Prop) (hF : MF σ) (hT : sI σ 31 26 = 0) (h :
  (-2147483648 ≤ (sI σ 31 73) - 1 ∧ (sI σ 31 73) - 1 < 2147483648) ∧
  ((p1 < 0 →
    K (-1001) σ) ∧
  (¬ (p1 < 0) →
    ((((sI σ 31 73) - 1) < p1 →
      K (-1001) σ) ∧
    (¬ (((sI σ 31 73) - 1) < p1) →
      ((p2 < 0 →
        K (-1001) σ) ∧
      (¬ (p2 < 0) →
        ((1 < p2 →
          K (-1001) σ) ∧
        (¬ (1 < p2) →
          (0 ≤ p1 ∧ p1 < 6000 ∧ 0 ≤ (sI σ 78 (Int.toNat p1)) ∧ (sI σ 78 (Int.toNat p1)) < 6000 ∧ -2147483648 ≤ (sI σ 67 (Int.toNat (sI σ 78 (Int.toNat p1)))) - 1 ∧ (sI σ 67 (Int.toNat (sI σ 78 (Int.toNat p1)))) - 1 < 2147483648) ∧
          ((p3 < 0 →
            K (-1001) σ) ∧
          (¬ (p3 < 0) →
            ((((sI σ 67 (Int.toNat (sI σ 78 (Int.toNat p1)))) - 1) < p3 →
              K (-1001) σ) ∧
            (¬ (((sI σ 67 (Int.toNat (sI σ 78 (Int.toNat p1)))) - 1) < p3) →
              am_Runs PP MLL (d + 2) m_M_nodeCoin 48 [some (qr (31, 12, 89)), some (qi p1), some (qi p2), some (qi p3), some (qi (if p2 = 0 then (sI σ 68 (Int.toNat (sI σ 78 (Int.toNat p1))) : Int) else (sI σ 69 (Int.toNat (sI σ 78 (Int.toNat p1)))))), some (qi p3), some (qi 0)] [] σ (kI K)))))))))))))) : am_Runs PP MLL (d + 2) m_M_nodeCoin 0 [some (qr (31, 12, 89)), some (qi p1), some (qi p2), some (qi p3), none, none, none] [] σ (kI K) := am_wEC_ok (orc [(14, 67, 20, 6000), (16, 78, 20, 6000), (29, 68, 20, 6000), (31, 78, 20, 6000), (37, 69, 20, 6000), (39, 78, 20, 6000)]) [43] 200 (⟨rfl, ⟨⟨h.1.1, h.1.2⟩, am_wEF_ok (orc []) 200 (⟨fun c1 => ⟨(Or.inl rfl), ⟨fun _ => (h.2.1 c1), fun c => absurd (by decide : (0 : Int) = 0) c⟩⟩, fun c1 => ⟨fun c2 => ⟨(Or.inl rfl), ⟨fun _ => ((h.2.2 c1).1 c2), fun c => absurd (by decide : (0 : Int) = 0) c⟩⟩, fun c2 => ⟨(Or.inr rfl), ⟨fun c => absurd c (by decide : ¬ ((1 : Int) = 0)), fun _ => am_wEF_ok (orc []) 200 (am_wEF_ok (orc []) 200 (⟨fun c3 => ⟨(Or.inl rfl), ⟨(Or.inl rfl), ⟨fun _ => (((h.2.2 c1).2 c2).1 c3), fun c => absurd (by decide : (0 : Int) = 0) c⟩⟩⟩, fun c3 => ⟨fun c4 => ⟨(Or.inl rfl), ⟨(Or.inl rfl), ⟨fun _ => ((((h.2.2 c1).2 c2).2 c3).1 c4), fun c => absurd (by decide : (0 : Int) = 0) c⟩⟩⟩, fun c4 => ⟨(Or.inr rfl), ⟨(Or.inr rfl), ⟨fun c => absurd c (by decide : ¬ ((1 : Int) = 0)), fun _ => ⟨⟨rfl, (hF 61)⟩, ⟨⟨rfl, (hF 72)⟩, ⟨⟨rfl, ((((h.2.2 c1).2 c2).2 c3).2 c4).1.1, ((((h.2.2 c1).2 c2).2 c3).2 c4).1.2.1⟩, ⟨⟨rfl, ((((h.2.2 c1).2 c2).2 c3).2 c4).1.2.2.1, ((((h.2.2 c1).2 c2).2 c3).2 c4).1.2.2.2.1⟩, ⟨⟨((((h.2.2 c1).2 c2).2 c3).2 c4).1.2.2.2.2.1, ((((h.2.2 c1).2 c2).2 c3).2 c4).1.2.2.2.2.2⟩, am_wEF_ok (orc []) 200 (⟨fun c5 => ⟨(Or.inl rfl), ⟨fun _ => (((((h.2.2 c1).2 c2).2 c3).2 c4).2.1 c5), fun c => absurd (by decide : (0 : Int) = 0) c⟩⟩, fun c5 => ⟨fun c6 => ⟨(Or.inl rfl), ⟨fun _ => ((((((h.2.2 c1).2 c2).2 c3).2 c4).2.2 c5).1 c6), fun c => absurd (by decide : (0 : Int) = 0) c⟩⟩, fun c6 => ⟨(Or.inr rfl), ⟨fun c => absurd c (by decide : ¬ ((1 : Int) = 0)), fun _ => am_use (fun H8 => ⟨fun c7 => ⟨⟨rfl, (hF 62)⟩, ⟨⟨rfl, (hF 72)⟩, ⟨⟨rfl, ((((h.2.2 c1).2 c2).2 c3).2 c4).1.1, ((((h.2.2 c1).2 c2).2 c3).2 c4).1.2.1⟩, ⟨⟨rfl, ((((h.2.2 c1).2 c2).2 c3).2 c4).1.2.2.1, ((((h.2.2 c1).2 c2).2 c3).2 c4).1.2.2.2.1⟩, (Eq.mp (congrArg (fun z => am_Runs _ _ _ _ _ _ (qi z :: _) _ _) (if_pos c7 : (if p2 = 0 then (sI σ 68 (Int.toNat (sI σ 78 (Int.toNat p1))) : Int) else sI σ 69 (Int.toNat (sI σ 78 (Int.toNat p1)))) = sI σ 68 (Int.toNat (sI σ 78 (Int.toNat p1))))) H8)⟩⟩⟩⟩, fun c7 => ⟨⟨rfl, (hF 63)⟩, ⟨⟨rfl, (hF 72)⟩, ⟨⟨rfl, ((((h.2.2 c1).2 c2).2 c3).2 c4).1.1, ((((h.2.2 c1).2 c2).2 c3).2 c4).1.2.1⟩, ⟨⟨rfl, ((((h.2.2 c1).2 c2).2 c3).2 c4).1.2.2.1, ((((h.2.2 c1).2 c2).2 c3).2 c4).1.2.2.2.1⟩, (Eq.mp (congrArg (fun z => am_Runs _ _ _ _ _ _ (qi z :: _) _ _) (if_neg c7 : (if p2 = 0 then (sI σ 68 (Int.toNat (sI σ 78 (Int.toNat p1))) : Int) else sI σ 69 (Int.toNat (sI σ 78 (Int.toNat p1)))) = sI σ 69 (Int.toNat (sI σ 78 (Int.toNat p1))))) H8)⟩⟩⟩⟩⟩) (am_wEC_ok (orc []) [43] 200 (((((((h.2.2 c1).2 c2).2 c3).2 c4).2.2 c5).2 c6)))⟩⟩⟩⟩)⟩⟩⟩⟩⟩⟩⟩⟩⟩⟩))⟩⟩⟩⟩)⟩⟩)

theorem v_M_nodeCoin_48 (d : Nat) (v4 v5 v6 : Int) (z0 z1 z2 z3 : Option am_V) (σ : am_S) (K : Int → am_S → Prop) (hF : MF σ) (hT : sI σ 31 26 = 0) (h :
  (((a_and (a_shr v4 v6) 1) = 0 →
    (-2147483648 ≤ v5 - (a_and (a_shr v4 v6) 1) ∧ v5 - (a_and (a_shr v4 v6) 1) < 2147483648 ∧ -2147483648 ≤ v6 + 1 ∧ v6 + 1 < 2147483648) ∧
    am_Runs PP MLL (d + 2) m_M_nodeCoin 48 [z0, z1, z2, z3, some (qi v4), some (qi (v5 - (a_and (a_shr v4 v6) 1))), some (qi (v6 + 1))] [] σ (kI K)) ∧
  (¬ ((a_and (a_shr v4 v6) 1) = 0) →
    ((v5 ≤ 0 →
      K v6 σ) ∧
    (¬ (v5 ≤ 0) →
      (-2147483648 ≤ v5 - (a_and (a_shr v4 v6) 1) ∧ v5 - (a_and (a_shr v4 v6) 1) < 2147483648 ∧ -2147483648 ≤ v6 + 1 ∧ v6 + 1 < 2147483648) ∧
      am_Runs PP MLL (d + 2) m_M_nodeCoin 48 [z0, z1, z2, z3, some (qi v4), some (qi (v5 - (a_and (a_shr v4 v6) 1))), some (qi (v6 + 1))] [] σ (kI K)))))) : am_Runs PP MLL (d + 2) m_M_nodeCoin 48 [z0, z1, z2, z3, some (qi v4), some (qi v5), some (qi v6)] [] σ (kI K) := am_wEC_ok (orc []) [43] 200 (⟨fun c2 => ⟨⟨(h.1 c2).1.1, (h.1 c2).1.2.1⟩, ⟨⟨(h.1 c2).1.2.2.1, (h.1 c2).1.2.2.2⟩, (h.1 c2).2⟩⟩, fun c2 => ⟨fun c4 => ((h.2 c2).1 c4), fun c4 => ⟨⟨((h.2 c2).2 c4).1.1, ((h.2 c2).2 c4).1.2.1⟩, ⟨⟨((h.2 c2).2 c4).1.2.2.1, ((h.2 c2).2 c4).1.2.2.2⟩, ((h.2 c2).2 c4).2⟩⟩⟩⟩)

theorem gZ_cng (X : sX) (c : Nat → Int) : ∀ i g, g < gN X c i → ((gZ X c i g : Nat) : Int) = cng (gG X c i) g i
  | 0, g, h => absurd h (Nat.not_lt_zero g)
  | i + 1, g, h => by
    have hF := gF_le X c i
    obtain ⟨_, i2, _, _⟩ := g_inv X c i
    rw [gN_s] at h
    rw [gZ_s, cng_s, gG_s, if_pos rfl]
    have ec : cng (gG X c (i + 1)) g i = cng (gG X c i) g i := sm_congr i (fun q hq => by show (if gG X c (i + 1) q = g then (1 : Int) else 0) = (if gG X c i q = g then 1 else 0); rw [gG_s, if_neg (show ¬ q = i by omega)])
    rw [ec]
    by_cases e : g = gF X c i
    · rw [if_pos e, if_pos e.symm]
      by_cases e2 : g = gN X c i
      · rw [if_pos e2, cng_0 i (fun q hq => by have := i2 q hq; omega)]
        rfl
      · rw [if_neg e2]
        have := gZ_cng X c i g (by omega)
        omega
    · rw [if_neg e, if_neg (fun q => e q.symm)]
      have hg : g < gN X c i := by
        by_cases e3 : gF X c i = gN X c i
        · rw [if_pos e3] at h; omega
        · rw [if_neg e3] at h; exact h
      have := gZ_cng X c i g hg
      omega
def mnm (a b : Int) : Int := if a ≤ b then a else b
/-- coins by groups -/
theorem cnt_mi {G : Nat → Nat} {L : Nat → Int} {n : Nat} (hL : ∀ g, 0 ≤ L g) : ∀ i, (∀ q, q < i → G q < n) → sm (fun q => if rkq G q < L (G q) then (1 : Int) else 0) i = sm (fun g => mnm (L g) (cng G g i)) n
  | 0, _ => by
    have e : sm (fun g => mnm (L g) (cng G g 0)) n = sm (fun _ => (0 : Int)) n := sm_congr n (fun g _ => by
      have := hL g
      show (if L g ≤ 0 then L g else 0) = 0
      split <;> omega)
    rw [e, sm_zero]
    rfl
  | i + 1, h => by
    have ih := cnt_mi hL i (fun q hq => h q (by omega))
    have hg := h i (by omega)
    have e1 : sm (fun q => if rkq G q < L (G q) then (1 : Int) else 0) (i + 1) = sm (fun q => if rkq G q < L (G q) then (1 : Int) else 0) i + (if rkq G i < L (G i) then (1 : Int) else 0) := rfl
    have e2 : sm (fun g => mnm (L g) (cng G g (i + 1))) n = sm (fun g => mnm (L g) (cng G g i) + (if g = G i then (if rkq G i < L (G i) then (1 : Int) else 0) else 0)) n := sm_congr n (fun g _ => by
      rw [cng_s]
      by_cases e : g = G i
      · rw [if_pos e.symm, if_pos e, e, rkq_cng]
        unfold mnm
        (repeat' split) <;> omega
      · rw [if_neg (fun q => e q.symm), if_neg e, Int.add_zero, Int.add_zero])
    rw [e1, ih, e2, sm_lin, sm_one, if_pos hg]
theorem sm_ge {f : Nat → Int} : ∀ n m, n ≤ m → (∀ q, n ≤ q → f q = 0) → sm f m = sm f n := by
  intro n m h hz
  obtain ⟨k, rfl⟩ : ∃ k, m = n + k := ⟨m - n, by omega⟩
  clear h
  induction k with
  | zero => rfl
  | succ k ih =>
    have e : sm f (n + (k + 1)) = sm f (n + k) + f (n + k) := rfl
    rw [e, ih, hz _ (by omega)]
    omega
theorem pc_W {X : sX} {c : Nat → Int} {w : sW} {l r : Nat} (hX : XV X) (hW : WV (zC X c) (nC X c) (xN X) w) (h : BSd (sdw X c w) (xN X) (xN X) l r) : pc l = w.1 ∧ pc r = w.1 := by
  have hS := SB_bd h
  have hN := hX.1
  obtain ⟨w1, w2, w3, w4⟩ := hW
  obtain ⟨_, i2, _, _⟩ := g_inv X c (xN X)
  have z : ∀ g, g < nC X c → zC X c g = cng (gG X c (xN X)) g (xN X) := fun g hg => gZ_cng X c (xN X) g hg
  have key : ∀ L : Nat → Int, (∀ g, 0 ≤ L g) → (∀ g, g < nC X c → L g ≤ zC X c g) → sm (fun q => if rkq (gG X c (xN X)) q < L (gG X c (xN X) q) then (1 : Int) else 0) (xN X) = sm L (nC X c) := by
    intro L h0 h1
    rw [cnt_mi (n := nC X c) h0 (xN X) (fun q hq => i2 q hq)]
    refine sm_congr _ (fun g hg => ?_)
    have := h1 g hg
    rw [z g hg] at this
    unfold mnm
    rw [if_pos this]
  obtain ⟨L1, eL⟩ : ∃ L1 : Nat → Int, L1 = fun g => if g < nC X c then w.2.1 g else 0 := ⟨_, rfl⟩
  obtain ⟨R1, eR⟩ : ∃ R1 : Nat → Int, R1 = fun g => if g < nC X c then w.2.1 g + w.2.2 g else 0 := ⟨_, rfl⟩
  have k1 := key L1 (fun g => by rw [eL]; show 0 ≤ (if g < nC X c then w.2.1 g else 0); split; exact (w2 g (by assumption)).1; exact Int.le_refl _) (fun g hg => by rw [eL]; show (if g < nC X c then w.2.1 g else 0) ≤ _; rw [if_pos hg]; have := w2 g hg; omega)
  have k2 := key R1 (fun g => by
    rw [eR]; show 0 ≤ (if g < nC X c then w.2.1 g + w.2.2 g else 0)
    split
    · have := w2 g (by assumption); omega
    · exact Int.le_refl _) (fun g hg => by rw [eR]; show (if g < nC X c then w.2.1 g + w.2.2 g else 0) ≤ _; rw [if_pos hg]; have := w2 g hg; omega)
  have s1 : sm L1 (nC X c) = w.1 := by
    rw [← w3]
    exact sm_congr _ (fun g hg => by rw [eL]; show (if g < nC X c then w.2.1 g else 0) = _; rw [if_pos hg])
  have s2 : sm R1 (nC X c) = w.1 + w.1 := by
    have : sm R1 (nC X c) = sm (fun g => w.2.1 g + w.2.2 g) (nC X c) := sm_congr _ (fun g hg => by rw [eR]; show (if g < nC X c then w.2.1 g + w.2.2 g else 0) = _; rw [if_pos hg])
    rw [this, sm_lin, w3, w4]
  have gl : ∀ q, q < xN X → L1 (gG X c (xN X) q) = w.2.1 (gG X c (xN X) q) ∧ R1 (gG X c (xN X) q) = w.2.1 (gG X c (xN X) q) + w.2.2 (gG X c (xN X) q) := fun q hq => by
    have := i2 q hq
    have hg : gG X c (xN X) q < nC X c := this
    rw [eL, eR]
    exact ⟨if_pos hg, if_pos hg⟩
  have pl : pc l = sm (fun q => if rkq (gG X c (xN X)) q < L1 (gG X c (xN X) q) then (1 : Int) else 0) (xN X) := by
    unfold pc
    rw [sm_ge (xN X) 40 (by omega) (fun q hq => by rw [hS.2.2.1 q, if_neg (fun z => by omega)])]
    refine sm_congr _ (fun q hq => ?_)
    rw [hS.2.2.1 q, (gl q hq).1]
    (repeat' split) <;> omega
  have pr : pc r + pc l = sm (fun q => if rkq (gG X c (xN X)) q < R1 (gG X c (xN X) q) then (1 : Int) else 0) (xN X) := by
    unfold pc
    rw [← sm_lin, sm_ge (xN X) 40 (by omega) (fun q hq => by rw [hS.2.2.1 q, hS.2.2.2 q, if_neg (fun z => by omega), if_neg (fun z => by omega)]; rfl)]
    refine sm_congr _ (fun q hq => ?_)
    have hg : gG X c (xN X) q < nC X c := i2 q hq
    have := w2 _ hg
    rw [hS.2.2.1 q, hS.2.2.2 q, (gl q hq).2]
    (repeat' split) <;> omega
  rw [k1, s1] at pl
  rw [k2, s2] at pr
  omega
/-- a good node -/
def NG (s : am_S) (q : Nat) : Prop := ∃ r l rt : Nat, r < 6000 ∧ sI s 78 q = r ∧ sI s 68 r = l ∧ sI s 69 r = rt ∧ l < 4096 ∧ rt < 4096 ∧ sI s 67 r = pc l ∧ pc rt = pc l ∧ ∀ v, v < 7 → sI s 77 (7 * r + v) < 6000
theorem pc_0 : pc 0 = 0 := by
  unfold pc
  have : sm (bt 0) 40 = sm (fun _ => (0 : Int)) 40 := sm_congr _ (fun c _ => bt_0 c)
  rw [this, sm_zero]
theorem NG_leaf {s : am_S} {X : sX} {tr : Nat → Nat} {c : Nat → Int} {dp a i : Nat} {o : Int} {v : sW} (hm : ¬ mn X c ≤ 0) (h2 : mn X c < 2) (ha : a < 6000) (hR : RC s a X tr c v dp o) (h78 : sI s 78 i = a) (h77 : ∀ o, o < 7 → sI s 77 (7 * a + o) = -1) : NG s i := by
  have m1 : mn X c = 1 := by omega
  obtain ⟨r1, ⟨l, r, r2, r3, r4⟩, r5, r6, r7, r8⟩ := hR
  rw [if_pos m1] at r1 r4
  obtain ⟨l0, r0⟩ := BSd_0 r4
  exact ⟨a, 0, 0, ha, h78, by rw [r2, l0], by rw [r3, r0], by decide, by decide, by rw [r1, pc_0], rfl, fun v hv => by rw [h77 v hv]; decide⟩
theorem yj_lt {X : sX} {n : Nat} {c : Nat → Int} {k : Nat} (hXV : XV X) (h : can X (n + 1) c k) (h2 : ¬ mn X c < 2) : yj X n c k < wct X c := by
  have hb : ¬ big X (n + 1) c := fun b => can_b h2 b h
  obtain ⟨j, hj, hy⟩ := (can_s hXV h2 hb).1 h
  have sp := ff_spec (fun j => yw X n c k (wAt X c j)) (wct X c) 0
  have e : ff (fun j => yw X n c k (wAt X c j)) (wct X c) 0 = yj X n c k := rfl
  rw [e] at sp
  rcases Nat.lt_or_ge (yj X n c k) (wct X c) with q | q
  · exact q
  · exact absurd hy (sp.2.2.1 j (Nat.zero_le _) (by omega))
theorem NG_all {s : am_S} {X : sX} {tr : Nat → Nat} (hX : XV X) : ∀ n (c : Nat → Int) k dp o a i, ¬ mn X c ≤ 0 → can X n c k → a + tsz X n c k ≤ 6000 → RS s X tr n c k dp o a → hBT s X n c k a → hNT s X n c k a i → ∀ q, i ≤ q → q < i + tsz X n c k → NG s q
  | 0, c, k, dp, o, a, i, hm, hc, ha, hR, hB, hN, q, q1, q2 => by
    rw [tsz_z hm] at q2 ha
    rw [show q = i by omega]
    exact NG_leaf hm hc (by omega) hR hN.2 hB.2
  | n + 1, c, k, dp, o, a, i, hm, hc, ha, hR, hB, hN, q, q1, q2 => by
    by_cases m2 : mn X c < 2
    · rw [tsz_1 hm m2] at q2 ha
      rw [show q = i by omega]
      rcases hR with ⟨_, hR⟩ | ⟨w, _⟩
      · rcases hB with ⟨_, _, hB⟩ | ⟨w, _⟩
        · rcases hN with ⟨_, _, hN⟩ | ⟨w, _⟩
          · exact NG_leaf hm m2 (by omega) hR hN hB
          · exact absurd m2 w
        · exact absurd m2 w
      · exact absurd m2 w
    · rw [tsz_s m2] at q2 ha
      rcases hR with ⟨w, _⟩ | ⟨_, r2, r3⟩
      · exact absurd w m2
      rcases hB with ⟨w, _⟩ | ⟨_, b2, b3, b4⟩
      · exact absurd w m2
      rcases hN with ⟨w, _⟩ | ⟨_, n2, n3, n4⟩
      · exact absurd w m2
      by_cases e : q = i
      · rw [e]
        have m1 : ¬ mn X c = 1 := by omega
        obtain ⟨c1, ⟨l, r, c2, c3, c4⟩, c5, c6, c7, c8⟩ := r3
        rw [if_neg m1] at c1 c4
        have hw := wsq_WV hX c _ _ (wsq_at hX (yj_lt hX hc m2))
        obtain ⟨p1, p2⟩ := pc_W hX hw c4
        refine ⟨_, l, r, by omega, n3, c2, c3, c4.1, c4.2.1, by rw [c1, p1], by rw [p1, p2], fun v hv => ?_⟩
        by_cases ex : ∃ u, u < oc X k ∧ v = co X k u
        · obtain ⟨u, hu, eu⟩ := ex
          rw [eu]
          have m3 : tof X n c k (wAt X c (yj X n c k)) (u + 1) ≤ tof X n c k (wAt X c (yj X n c k)) (oc X k) := sN'_mono (by omega)
          rcases b4 u hu with ⟨_, z⟩ | ⟨_, z, _⟩
          · rw [z]; decide
          · rw [z]; omega
        · rw [b3 v hv (fun u hu e => ex ⟨u, hu, e⟩)]
          decide
      · have hlt : q - (i + 1) < sN' (fun u => tsz X n (chd X c k (wAt X c (yj X n c k)) u) (k + 1)) (oc X k) := by
          have : tof X n c k (wAt X c (yj X n c k)) (oc X k) = sN' (fun u => tsz X n (chd X c k (wAt X c (yj X n c k)) u) (k + 1)) (oc X k) := rfl
          omega
        obtain ⟨u, hu, u1, u2⟩ := tof_fd (oc X k) hlt
        have t1 : tof X n c k (wAt X c (yj X n c k)) (u) = sN' (fun u => tsz X n (chd X c k (wAt X c (yj X n c k)) u) (k + 1)) u := rfl
        have t2 : tof X n c k (wAt X c (yj X n c k)) (u + 1) = sN' (fun u => tsz X n (chd X c k (wAt X c (yj X n c k)) u) (k + 1)) (u + 1) := rfl
        have e1 := tof_s X n c k (wAt X c (yj X n c k)) u
        have m3 : tof X n c k (wAt X c (yj X n c k)) (u + 1) ≤ tof X n c k (wAt X c (yj X n c k)) (oc X k) := sN'_mono (by omega)
        by_cases w0 : mn X (chd X c k (wAt X c (yj X n c k)) u) ≤ 0
        · have := tsz_0 (n := n) (k := k + 1) w0
          omega
        · rcases b4 u hu with ⟨z, _⟩ | ⟨_, _, b5⟩
          · exact absurd z w0
          exact NG_all hX n _ _ _ _ _ _ w0 (ywc hX hc m2 u hu) (by omega) ((r2 u hu).resolve_left w0) b5 ((n4 u hu).resolve_left w0) q (by omega) (by omega)
/-- a node told -/
def ndT (f : Nat → Int) (i : Nat) (w : Int) : Int := if w = 0 then pc (f (12 * i)).toNat else f (12 * i + 1 + w.toNat)
theorem c_M_node (d : Nat) {i : Nat} {w : Int} {σ : am_S} {K : Int → am_S → Prop} (hF : MF σ) (hT : sI σ 31 26 = 0) (h73 : 0 ≤ sI σ 31 73 ∧ sI σ 31 73 ≤ 6000) (hi : (i : Int) < sI σ 31 73) (hg : NG σ i) (hw : 0 ≤ w ∧ w ≤ 10) (h : K (ndT (mcl σ) i w) σ) : am_Calls PP MLL (d + 3) m_M_node [qr (31, 12, 89), qi (i : Int), qi w] σ (kI K) := by
  obtain ⟨r, l, rt, hr, g1, g2, g3, g4, g5, g6, g7, g8⟩ := hg
  have m0 : mcl σ (12 * i) = l := by
    have := mcl_0 (v := 0) g1 (by decide)
    rw [Nat.add_zero] at this
    rw [this]
    exact g2
  refine v_M_node_0 _ (i : Int) w σ K hF hT ⟨by omega, fun q => absurd q (by omega), fun _ => ⟨fun q => absurd q (by omega), fun _ => ⟨fun q => absurd q (by omega), fun _ => ⟨fun q => absurd q (by omega), fun _ => ⟨by omega, ?_⟩⟩⟩⟩⟩
  rw [Int.toNat_natCast, g1, Int.toNat_natCast]
  refine ⟨fun q => ⟨⟨fun _ => by omega, fun _ => by omega, fun _ _ => by omega, fun _ _ => by omega, fun _ _ _ => by omega, fun _ _ _ => by omega, fun _ _ _ => by omega, fun _ _ _ => by omega⟩, ?_⟩, fun q => ⟨by omega, ?_⟩⟩
  · have e : (if w = 0 then (sI σ 67 r : Int) else (if w = 1 then (sI σ 70 r : Int) else (if w = 2 then (sI σ 71 r : Int) else (sI σ 72 r)))) = ndT (mcl σ) i w := by
      unfold ndT
      by_cases w0 : w = 0
      · rw [if_pos w0, if_pos w0, m0, Int.toNat_natCast, g6]
      · rw [if_neg w0, if_neg w0]
        by_cases w1 : w = 1
        · rw [if_pos w1, w1]
          exact (mcl_0 (v := 2) g1 (by decide)).symm
        · rw [if_neg w1]
          by_cases w2 : w = 2
          · rw [if_pos w2, w2]
            exact (mcl_0 (v := 3) g1 (by decide)).symm
          · rw [if_neg w2, show w = 3 by omega]
            exact (mcl_0 (v := 4) g1 (by decide)).symm
    rw [e]
    exact h
  · obtain ⟨v, ev⟩ : ∃ v : Nat, w = (v : Int) + 4 := ⟨(w - 4).toNat, by omega⟩
    have hv : v < 7 := by omega
    have e : 7 * (r : Int) + w - 4 = ((7 * r + v : Nat) : Int) := by omega
    rw [e, Int.toNat_natCast]
    refine ⟨fun _ => g8 v hv, ?_⟩
    have e2 : (if 0 ≤ sI σ 77 (7 * r + v) then (sI σ 75 (sI σ 77 (7 * r + v)).toNat : Int) else (-1000)) = ndT (mcl σ) i w := by
      unfold ndT
      rw [if_neg (show ¬ w = 0 by omega), show 12 * i + 1 + w.toNat = 12 * i + 5 + v by omega, mcl_5 g1 hv]
      by_cases z : 0 ≤ sI σ 77 (7 * r + v)
      · rw [if_pos z, if_neg (by omega)]
      · rw [if_neg z, if_pos (by omega)]
    rw [e2]
    exact h
/-- the k-th bit that is set -/
def KB (l k c : Nat) : Prop := bt l c = 1 ∧ sm (bt l) c = k
theorem KB_u {l k c c' : Nat} (h : KB l k c) (h' : KB l k c') : c = c' := by
  have mono : ∀ a b, a < b → bt l a = 1 → sm (bt l) a < sm (bt l) b := by
    intro a b hab h1
    obtain ⟨q, rfl⟩ : ∃ q, b = a + 1 + q := ⟨b - a - 1, by omega⟩
    clear hab
    induction q with
    | zero =>
      have e : sm (bt l) (a + 1) = sm (bt l) a + bt l a := rfl
      show sm (bt l) a < sm (bt l) (a + 1)
      omega
    | succ q ih =>
      have e : sm (bt l) (a + 1 + (q + 1)) = sm (bt l) (a + 1 + q) + bt l (a + 1 + q) := rfl
      have := bt_01 l (a + 1 + q)
      omega
  rcases Nat.lt_trichotomy c c' with q | q | q
  · have := mono c c' q h.1
    have := h.2
    have := h'.2
    omega
  · exact q
  · have := mono c' c q h'.1
    have := h.2
    have := h'.2
    omega
theorem c_M_nodeCoin (d : Nat) {i k : Nat} {w : Int} {σ : am_S} {K : Int → am_S → Prop} (hF : MF σ) (hT : sI σ 31 26 = 0) (h73 : 0 ≤ sI σ 31 73 ∧ sI σ 31 73 ≤ 6000) (hi : (i : Int) < sI σ 31 73) (hg : NG σ i) (hw : w = 0 ∨ w = 1) (hk : (k : Int) < pc (mcl σ (12 * i)).toNat) (h : ∀ c, KB (mcl σ (12 * i + w.toNat)).toNat k c → K (c : Int) σ) : am_Calls PP MLL (d + 3) m_M_nodeCoin [qr (31, 12, 89), qi (i : Int), qi w, qi (k : Int)] σ (kI K) := by
  obtain ⟨r, l, rt, hr, g1, g2, g3, g4, g5, g6, g7, g8⟩ := hg
  have m0 : mcl σ (12 * i) = l := by
    have := mcl_0 (v := 0) g1 (by decide)
    rw [Nat.add_zero] at this
    rw [this]
    exact g2
  have m1 : mcl σ (12 * i + 1) = rt := by
    rw [mcl_0 (v := 1) g1 (by decide)]
    exact g3
  rw [m0, Int.toNat_natCast] at hk
  have hp := pc_bd l
  obtain ⟨x, ex, hx, hpx, hx'⟩ : ∃ x : Nat, (if w = 0 then (l : Int) else (rt : Int)) = x ∧ x < 4096 ∧ pc x = pc l ∧ (mcl σ (12 * i + w.toNat)).toNat = x := by
    rcases hw with e | e
    · refine ⟨l, by rw [if_pos e], g4, rfl, ?_⟩
      rw [e]
      show (mcl σ (12 * i + 0)).toNat = l
      rw [Nat.add_zero, m0, Int.toNat_natCast]
    · refine ⟨rt, by rw [if_neg (by omega)], g5, g7, ?_⟩
      rw [e]
      show (mcl σ (12 * i + 1)).toNat = rt
      rw [m1, Int.toNat_natCast]
  rw [hx'] at h
  have loop : ∀ q c, c + q = 40 → sm (bt x) c ≤ k → ∀ z0 z1 z2 z3, am_Runs PP MLL (d + 2) m_M_nodeCoin 48 [z0, z1, z2, z3, some (qi (x : Int)), some (qi ((k : Int) - sm (bt x) c)), some (qi (c : Int))] [] σ (kI K) := by
    intro q
    induction q with
    | zero =>
      intro c hc hs
      have e : c = 40 := by omega
      rw [e] at hs
      have : pc x = sm (bt x) 40 := rfl
      omega
    | succ q ih =>
      intro c hc hs z0 z1 z2 z3
      have b01 := bt_01 x c
      have es : sm (bt x) (c + 1) = sm (bt x) c + bt x c := rfl
      have sb := sm_le1 (bt x) (fun i => bt_01 x i) c
      by_cases c32 : c < 32
      · have eb := ibit (x := x) (c := c) (by omega) c32
        refine v_M_nodeCoin_48 d (x : Int) _ (c : Int) z0 z1 z2 z3 σ K hF hT ?_
        rw [eb, show (k : Int) - sm (bt x) c - bt x c = (k : Int) - sm (bt x) (c + 1) by omega, show (c : Int) + 1 = ((c + 1 : Nat) : Int) by omega]
        refine ⟨fun z => ⟨by omega, ih (c + 1) (by omega) (by omega) _ _ _ _⟩, fun z => ⟨fun z2 => h c ⟨by omega, by omega⟩, fun z2 => ⟨by omega, ih (c + 1) (by omega) (by omega) _ _ _ _⟩⟩⟩
      · have z : ∀ q, 12 ≤ q → bt x q = 0 := fun q hq => by
          unfold bt
          have : x / 2 ^ q = 0 := Nat.div_eq_of_lt (Nat.lt_of_lt_of_le (show x < 2 ^ 12 from hx) (Nat.pow_le_pow_right (by decide) hq))
          rw [this]
          rfl
        have e1 := sm_ge (f := bt x) 12 40 (by decide) z
        have e2 := sm_ge (f := bt x) 12 c (by omega) z
        have : pc x = sm (bt x) 40 := rfl
        omega
  refine v_M_nodeCoin_0 d (i : Int) w (k : Int) σ K hF hT ?_
  rw [Int.toNat_natCast, g1, Int.toNat_natCast, g6, g2, g3, ex]
  refine ⟨by omega, fun q => absurd q (by omega), fun _ => ⟨fun q => absurd q (by omega), fun _ => ⟨fun q => absurd q (by omega), fun _ => ⟨fun q => absurd q (by omega), fun _ => ⟨by omega, fun q => absurd q (by omega), fun _ => ⟨fun q => absurd q (by omega), fun _ => ?_⟩⟩⟩⟩⟩⟩
  have := loop 40 0 (by omega) (by show (0 : Int) ≤ k; omega) (some (qr (31, 12, 89))) (some (qi (i : Int))) (some (qi w)) (some (qi (k : Int)))
  rw [show (k : Int) - sm (bt x) 0 = (k : Int) by show (k : Int) - 0 = k; omega] at this
  exact this
