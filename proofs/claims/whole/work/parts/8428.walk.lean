/-! a truth walks through the tree -/
theorem v_M_walk_0 (d : Nat) (p1 : Int) (σ : am_S) (K : Int → am_S → Prop) (hF : MF σ) (hT : sI σ 31 26 = 0) (h :
  (-2147483648 ≤ (sI σ 31 5) - 1 ∧ (sI σ 31 5) - 1 < 2147483648) ∧
  ((p1 < 0 →
    K (-1001) σ) ∧
  (¬ (p1 < 0) →
    ((((sI σ 31 5) - 1) < p1 →
      K (-1001) σ) ∧
    (¬ (((sI σ 31 5) - 1) < p1) →
      (0 ≤ p1 ∧ p1 < 10000) ∧
      (((sI σ 37 (Int.toNat p1)) < 0 →
        (((sI σ 31 73) = 0 →
          K (-1002) σ) ∧
        (¬ ((sI σ 31 73) = 0) →
          am_Runs PP MLL (d + 2) m_M_walk 20 [some (qr (31, 12, 89)), some (qi p1), some (qi (sI σ 78 0)), none, none, none] [] σ (kI K)))) ∧
      (¬ ((sI σ 37 (Int.toNat p1)) < 0) →
        K (-1001) σ))))))) : am_Runs PP MLL (d + 2) m_M_walk 0 [some (qr (31, 12, 89)), some (qi p1), none, none, none, none] [] σ (kI K) := am_wEF_ok (orc [(16, 78, 20, 6000)]) 200 (⟨rfl, am_wEF_ok (orc []) 200 (⟨rfl, ⟨⟨h.1.1, h.1.2⟩, am_wEF_ok (orc []) 200 (⟨fun c1 => ⟨(Or.inl rfl), ⟨(Or.inl rfl), ⟨fun _ => (h.2.1 c1), fun c => absurd (by decide : (0 : Int) = 0) c⟩⟩⟩, fun c1 => ⟨fun c2 => ⟨(Or.inl rfl), ⟨(Or.inl rfl), ⟨fun _ => ((h.2.2 c1).1 c2), fun c => absurd (by decide : (0 : Int) = 0) c⟩⟩⟩, fun c2 => ⟨(Or.inr rfl), ⟨(Or.inr rfl), ⟨fun c => absurd c (by decide : ¬ ((1 : Int) = 0)), fun _ => ⟨rfl, c_M_isLeft _ hF ((h.2.2 c1).2 c2).1.1 ((h.2.2 c1).2 c2).1.2 (fun c3 => ⟨fun c => absurd c (by decide : ¬ ((1 : Int) = 0)), fun _ => ⟨rfl, ⟨fun c4 => ((((h.2.2 c1).2 c2).2.1 c3).1 c4), fun c4 => ⟨⟨rfl, (hF 72)⟩, ⟨⟨rfl, (by decide : (0 : Int) ≤ 0), (by decide : (0 : Int) < 6000)⟩, ((((h.2.2 c1).2 c2).2.1 c3).2 c4)⟩⟩⟩⟩⟩) (fun c3 => ⟨fun _ => (((h.2.2 c1).2 c2).2.2 c3), fun c => absurd (by decide : (0 : Int) = 0) c⟩)⟩⟩⟩⟩⟩⟩)⟩⟩)⟩)

theorem v_M_walk_20 (d : Nat) (p1 v2 : Int) (z3 z4 z5 : Option am_V) (σ : am_S) (K : Int → am_S → Prop) (hF : MF σ) (hT : sI σ 31 26 = 0) (h :
  (0 ≤ v2 ∧ v2 < 6000) ∧
  (((sI σ 67 (Int.toNat v2)) ≤ 0 →
    K (sI σ 75 (Int.toNat v2)) σ) ∧
  (¬ ((sI σ 67 (Int.toNat v2)) ≤ 0) →
    am_Runs PP MLL (d + 2) m_M_walk 29 [some (qr (31, 12, 89)), some (qi p1), some (qi v2), some (qi 0), some (qi 0), z5] [] σ (kI K)))) : am_Runs PP MLL (d + 2) m_M_walk 20 [some (qr (31, 12, 89)), some (qi p1), some (qi v2), z3, z4, z5] [] σ (kI K) := am_wEF_ok (orc [(21, 67, 20, 6000), (102, 75, 20, 6000)]) 200 (⟨⟨rfl, (hF 61)⟩, ⟨⟨rfl, h.1.1, h.1.2⟩, ⟨fun c2 => ⟨⟨rfl, (hF 69)⟩, ⟨⟨rfl, h.1.1, h.1.2⟩, (h.2.1 c2)⟩⟩, fun c2 => (h.2.2 c2)⟩⟩⟩)

theorem v_M_walk_29 (d : Nat) (p1 v2 v3 v4 : Int) (z5 : Option am_V) (σ : am_S) (K : Int → am_S → Prop) (hF : MF σ) (hT : sI σ 31 26 = 0) (h :
  (0 ≤ p1 ∧ p1 < 10000) ∧
  (((sI σ 33 (Int.toNat p1)) ≤ v4 →
    (-2147483648 ≤ 7 * v2 ∧ 7 * v2 < 2147483648 ∧ 0 ≤ v2 ∧ v2 < 6000 ∧ -2147483648 ≤ (sI σ 31 13) + (sI σ 72 (Int.toNat v2)) ∧ (sI σ 31 13) + (sI σ 72 (Int.toNat v2)) < 2147483648) ∧
    (0 ≤ (sI σ 31 36) ∧ (sI σ 31 36) < 12) ∧
    ((((sI σ 41 (Int.toNat (sI σ 31 36))) = 6) → -2147483648 ≤ 3 * (sI σ 31 36)) ∧ (((sI σ 41 (Int.toNat (sI σ 31 36))) = 6) → 3 * (sI σ 31 36) < 2147483648) ∧ (((sI σ 41 (Int.toNat (sI σ 31 36))) = 6) → (sI σ 47 (Int.toNat (sI σ 31 36))) ≠ 0) ∧ (((sI σ 41 (Int.toNat (sI σ 31 36))) = 6) → -2147483648 ≤ (3 * (sI σ 31 36)) + (Int.tmod ((sI σ 31 13) + (sI σ 72 (Int.toNat v2))) (sI σ 47 (Int.toNat (sI σ 31 36))))) ∧ (((sI σ 41 (Int.toNat (sI σ 31 36))) = 6) → (3 * (sI σ 31 36)) + (Int.tmod ((sI σ 31 13) + (sI σ 72 (Int.toNat v2))) (sI σ 47 (Int.toNat (sI σ 31 36)))) < 2147483648) ∧ (((sI σ 41 (Int.toNat (sI σ 31 36))) = 6) → 0 ≤ ((3 * (sI σ 31 36)) + (Int.tmod ((sI σ 31 13) + (sI σ 72 (Int.toNat v2))) (sI σ 47 (Int.toNat (sI σ 31 36)))))) ∧ (((sI σ 41 (Int.toNat (sI σ 31 36))) = 6) → ((3 * (sI σ 31 36)) + (Int.tmod ((sI σ 31 13) + (sI σ 72 (Int.toNat v2))) (sI σ 47 (Int.toNat (sI σ 31 36))))) < 36)) ∧
    (0 ≤ (if (sI σ 41 (Int.toNat (sI σ 31 36))) = 6 then (sI σ 46 (Int.toNat ((3 * (sI σ 31 36)) + (Int.tmod ((sI σ 31 13) + (sI σ 72 (Int.toNat v2))) (sI σ 47 (Int.toNat (sI σ 31 36)))))) : Int) else (sI σ 31 36)) ∧ (if (sI σ 41 (Int.toNat (sI σ 31 36))) = 6 then (sI σ 46 (Int.toNat ((3 * (sI σ 31 36)) + (Int.tmod ((sI σ 31 13) + (sI σ 72 (Int.toNat v2))) (sI σ 47 (Int.toNat (sI σ 31 36)))))) : Int) else (sI σ 31 36)) < 12) ∧
    (-100 ≤ v3 ∧ v3 ≤ 100) ∧
    (-2147483648 ≤ (7 * v2) + (tl (sI σ 41 (Int.toNat (if (sI σ 41 (Int.toNat (sI σ 31 36))) = 6 then (sI σ 46 (Int.toNat ((3 * (sI σ 31 36)) + (Int.tmod ((sI σ 31 13) + (sI σ 72 (Int.toNat v2))) (sI σ 47 (Int.toNat (sI σ 31 36)))))) : Int) else (sI σ 31 36)))) v3) ∧ (7 * v2) + (tl (sI σ 41 (Int.toNat (if (sI σ 41 (Int.toNat (sI σ 31 36))) = 6 then (sI σ 46 (Int.toNat ((3 * (sI σ 31 36)) + (Int.tmod ((sI σ 31 13) + (sI σ 72 (Int.toNat v2))) (sI σ 47 (Int.toNat (sI σ 31 36)))))) : Int) else (sI σ 31 36)))) v3) < 2147483648 ∧ -2147483648 ≤ ((7 * v2) + (tl (sI σ 41 (Int.toNat (if (sI σ 41 (Int.toNat (sI σ 31 36))) = 6 then (sI σ 46 (Int.toNat ((3 * (sI σ 31 36)) + (Int.tmod ((sI σ 31 13) + (sI σ 72 (Int.toNat v2))) (sI σ 47 (Int.toNat (sI σ 31 36)))))) : Int) else (sI σ 31 36)))) v3)) + 3 ∧ ((7 * v2) + (tl (sI σ 41 (Int.toNat (if (sI σ 41 (Int.toNat (sI σ 31 36))) = 6 then (sI σ 46 (Int.toNat ((3 * (sI σ 31 36)) + (Int.tmod ((sI σ 31 13) + (sI σ 72 (Int.toNat v2))) (sI σ 47 (Int.toNat (sI σ 31 36)))))) : Int) else (sI σ 31 36)))) v3)) + 3 < 2147483648 ∧ 0 ≤ (((7 * v2) + (tl (sI σ 41 (Int.toNat (if (sI σ 41 (Int.toNat (sI σ 31 36))) = 6 then (sI σ 46 (Int.toNat ((3 * (sI σ 31 36)) + (Int.tmod ((sI σ 31 13) + (sI σ 72 (Int.toNat v2))) (sI σ 47 (Int.toNat (sI σ 31 36)))))) : Int) else (sI σ 31 36)))) v3)) + 3) ∧ (((7 * v2) + (tl (sI σ 41 (Int.toNat (if (sI σ 41 (Int.toNat (sI σ 31 36))) = 6 then (sI σ 46 (Int.toNat ((3 * (sI σ 31 36)) + (Int.tmod ((sI σ 31 13) + (sI σ 72 (Int.toNat v2))) (sI σ 47 (Int.toNat (sI σ 31 36)))))) : Int) else (sI σ 31 36)))) v3)) + 3) < 42000) ∧
    am_Runs PP MLL (d + 2) m_M_walk 20 [some (qr (31, 12, 89)), some (qi p1), some (qi (sI σ 77 (Int.toNat (((7 * v2) + (tl (sI σ 41 (Int.toNat (if (sI σ 41 (Int.toNat (sI σ 31 36))) = 6 then (sI σ 46 (Int.toNat ((3 * (sI σ 31 36)) + (Int.tmod ((sI σ 31 13) + (sI σ 72 (Int.toNat v2))) (sI σ 47 (Int.toNat (sI σ 31 36)))))) : Int) else (sI σ 31 36)))) v3)) + 3)))), some (qi v3), some (qi v4), z5] [] σ (kI K)) ∧
  (¬ ((sI σ 33 (Int.toNat p1)) ≤ v4) →
    (-2147483648 ≤ 3 * p1 ∧ 3 * p1 < 2147483648 ∧ -2147483648 ≤ (3 * p1) + v4 ∧ (3 * p1) + v4 < 2147483648 ∧ 0 ≤ ((3 * p1) + v4) ∧ ((3 * p1) + v4) < 30000 ∧ 0 ≤ v2 ∧ v2 < 6000 ∧ -2147483648 ≤ (a_and (a_shr (sI σ 68 (Int.toNat v2)) (sI σ 34 (Int.toNat ((3 * p1) + v4)))) 1) - (a_and (a_shr (sI σ 69 (Int.toNat v2)) (sI σ 34 (Int.toNat ((3 * p1) + v4)))) 1) ∧ (a_and (a_shr (sI σ 68 (Int.toNat v2)) (sI σ 34 (Int.toNat ((3 * p1) + v4)))) 1) - (a_and (a_shr (sI σ 69 (Int.toNat v2)) (sI σ 34 (Int.toNat ((3 * p1) + v4)))) 1) < 2147483648 ∧ -2147483648 ≤ ((a_and (a_shr (sI σ 68 (Int.toNat v2)) (sI σ 34 (Int.toNat ((3 * p1) + v4)))) 1) - (a_and (a_shr (sI σ 69 (Int.toNat v2)) (sI σ 34 (Int.toNat ((3 * p1) + v4)))) 1)) * (sI σ 35 (Int.toNat ((3 * p1) + v4))) ∧ ((a_and (a_shr (sI σ 68 (Int.toNat v2)) (sI σ 34 (Int.toNat ((3 * p1) + v4)))) 1) - (a_and (a_shr (sI σ 69 (Int.toNat v2)) (sI σ 34 (Int.toNat ((3 * p1) + v4)))) 1)) * (sI σ 35 (Int.toNat ((3 * p1) + v4))) < 2147483648 ∧ -2147483648 ≤ v3 + (((a_and (a_shr (sI σ 68 (Int.toNat v2)) (sI σ 34 (Int.toNat ((3 * p1) + v4)))) 1) - (a_and (a_shr (sI σ 69 (Int.toNat v2)) (sI σ 34 (Int.toNat ((3 * p1) + v4)))) 1)) * (sI σ 35 (Int.toNat ((3 * p1) + v4)))) ∧ v3 + (((a_and (a_shr (sI σ 68 (Int.toNat v2)) (sI σ 34 (Int.toNat ((3 * p1) + v4)))) 1) - (a_and (a_shr (sI σ 69 (Int.toNat v2)) (sI σ 34 (Int.toNat ((3 * p1) + v4)))) 1)) * (sI σ 35 (Int.toNat ((3 * p1) + v4)))) < 2147483648 ∧ -2147483648 ≤ v4 + 1 ∧ v4 + 1 < 2147483648) ∧
    am_Runs PP MLL (d + 2) m_M_walk 29 [some (qr (31, 12, 89)), some (qi p1), some (qi v2), some (qi (v3 + (((a_and (a_shr (sI σ 68 (Int.toNat v2)) (sI σ 34 (Int.toNat ((3 * p1) + v4)))) 1) - (a_and (a_shr (sI σ 69 (Int.toNat v2)) (sI σ 34 (Int.toNat ((3 * p1) + v4)))) 1)) * (sI σ 35 (Int.toNat ((3 * p1) + v4)))))), some (qi (v4 + 1)), some (qi (sI σ 34 (Int.toNat ((3 * p1) + v4))))] [] σ (kI K)))) : am_Runs PP MLL (d + 2) m_M_walk 29 [some (qr (31, 12, 89)), some (qi p1), some (qi v2), some (qi v3), some (qi v4), z5] [] σ (kI K) := am_wEF_ok (orc [(31, 33, 20, 10000), (36, 34, 20, 30000), (46, 68, 20, 6000), (54, 69, 20, 6000), (63, 35, 20, 30000), (76, 77, 20, 42000), (82, 41, 20, 12), (87, 72, 20, 6000)]) 200 (⟨⟨rfl, (hF 7)⟩, ⟨⟨rfl, h.1.1, h.1.2⟩, ⟨fun c2 => ⟨⟨rfl, (hF 71)⟩, ⟨⟨(h.2.1 c2).1.1, (h.2.1 c2).1.2.1⟩, ⟨⟨rfl, (hF 17)⟩, ⟨rfl, ⟨⟨rfl, (hF 66)⟩, ⟨⟨rfl, (h.2.1 c2).1.2.2.1, (h.2.1 c2).1.2.2.2.1⟩, ⟨⟨(h.2.1 c2).1.2.2.2.2.1, (h.2.1 c2).1.2.2.2.2.2⟩, ⟨rfl, am_wEC_ok (orc [(1, 41, 20, 12), (8, 46, 20, 36), (15, 47, 20, 12)]) [25] 200 (⟨⟨rfl, (hF 17)⟩, ⟨rfl, ⟨⟨rfl, (h.2.1 c2).2.1.1, (h.2.1 c2).2.1.2⟩, am_use (fun H4 => ⟨fun c3 => ⟨⟨rfl, (hF 22)⟩, ⟨rfl, ⟨⟨((h.2.1 c2).2.2.1.1 c3), ((h.2.1 c2).2.2.1.2.1 c3)⟩, ⟨⟨rfl, (hF 23)⟩, ⟨rfl, ⟨⟨rfl, (h.2.1 c2).2.1.1, (h.2.1 c2).2.1.2⟩, ⟨((h.2.1 c2).2.2.1.2.2.1 c3), ⟨⟨((h.2.1 c2).2.2.1.2.2.2.1 c3), ((h.2.1 c2).2.2.1.2.2.2.2.1 c3)⟩, ⟨⟨rfl, ((h.2.1 c2).2.2.1.2.2.2.2.2.1 c3), ((h.2.1 c2).2.2.1.2.2.2.2.2.2 c3)⟩, (Eq.mp (congrArg (fun z => am_Runs _ _ _ _ _ _ (qi z :: _) _ _) (if_pos c3 : (if (sI σ 41 (Int.toNat (sI σ 31 36))) = 6 then (sI σ 46 (Int.toNat ((3 * (sI σ 31 36)) + (Int.tmod ((sI σ 31 13) + (sI σ 72 (Int.toNat v2))) (sI σ 47 (Int.toNat (sI σ 31 36)))))) : Int) else sI σ 31 36) = sI σ 46 (Int.toNat ((3 * (sI σ 31 36)) + (Int.tmod ((sI σ 31 13) + (sI σ 72 (Int.toNat v2))) (sI σ 47 (Int.toNat (sI σ 31 36)))))))) H4)⟩⟩⟩⟩⟩⟩⟩⟩⟩, fun c3 => ⟨rfl, (Eq.mp (congrArg (fun z => am_Runs _ _ _ _ _ _ (qi z :: _) _ _) (if_neg c3 : (if (sI σ 41 (Int.toNat (sI σ 31 36))) = 6 then (sI σ 46 (Int.toNat ((3 * (sI σ 31 36)) + (Int.tmod ((sI σ 31 13) + (sI σ 72 (Int.toNat v2))) (sI σ 47 (Int.toNat (sI σ 31 36)))))) : Int) else sI σ 31 36) = sI σ 31 36)) H4)⟩⟩) (am_wEC_ok (orc []) [25] 200 (⟨⟨rfl, (h.2.1 c2).2.2.2.1.1, (h.2.1 c2).2.2.2.1.2⟩, ⟨rfl, c_M_tells _ hF hT (h.2.1 c2).2.2.2.2.1 (⟨⟨(h.2.1 c2).2.2.2.2.2.1.1, (h.2.1 c2).2.2.2.2.2.1.2.1⟩, ⟨⟨(h.2.1 c2).2.2.2.2.2.1.2.2.1, (h.2.1 c2).2.2.2.2.2.1.2.2.2.1⟩, ⟨⟨rfl, (h.2.1 c2).2.2.2.2.2.1.2.2.2.2.1, (h.2.1 c2).2.2.2.2.2.1.2.2.2.2.2⟩, (h.2.1 c2).2.2.2.2.2.2⟩⟩⟩)⟩⟩))⟩⟩⟩)⟩⟩⟩⟩⟩⟩⟩⟩, fun c2 => ⟨⟨rfl, (hF 8)⟩, ⟨⟨(h.2.2 c2).1.1, (h.2.2 c2).1.2.1⟩, ⟨⟨(h.2.2 c2).1.2.2.1, (h.2.2 c2).1.2.2.2.1⟩, ⟨⟨rfl, (h.2.2 c2).1.2.2.2.2.1, (h.2.2 c2).1.2.2.2.2.2.1⟩, ⟨⟨rfl, (hF 62)⟩, ⟨⟨rfl, (h.2.2 c2).1.2.2.2.2.2.2.1, (h.2.2 c2).1.2.2.2.2.2.2.2.1⟩, ⟨⟨rfl, (hF 63)⟩, ⟨⟨rfl, (h.2.2 c2).1.2.2.2.2.2.2.1, (h.2.2 c2).1.2.2.2.2.2.2.2.1⟩, ⟨⟨(h.2.2 c2).1.2.2.2.2.2.2.2.2.1, (h.2.2 c2).1.2.2.2.2.2.2.2.2.2.1⟩, ⟨⟨rfl, (hF 9)⟩, ⟨⟨(h.2.2 c2).1.1, (h.2.2 c2).1.2.1⟩, ⟨⟨(h.2.2 c2).1.2.2.1, (h.2.2 c2).1.2.2.2.1⟩, ⟨⟨rfl, (h.2.2 c2).1.2.2.2.2.1, (h.2.2 c2).1.2.2.2.2.2.1⟩, ⟨⟨(h.2.2 c2).1.2.2.2.2.2.2.2.2.2.2.1, (h.2.2 c2).1.2.2.2.2.2.2.2.2.2.2.2.1⟩, ⟨⟨(h.2.2 c2).1.2.2.2.2.2.2.2.2.2.2.2.2.1, (h.2.2 c2).1.2.2.2.2.2.2.2.2.2.2.2.2.2.1⟩, ⟨⟨(h.2.2 c2).1.2.2.2.2.2.2.2.2.2.2.2.2.2.2.1, (h.2.2 c2).1.2.2.2.2.2.2.2.2.2.2.2.2.2.2.2⟩, (h.2.2 c2).2⟩⟩⟩⟩⟩⟩⟩⟩⟩⟩⟩⟩⟩⟩⟩⟩⟩⟩⟩)

noncomputable def wk (X : sX) (p : Nat) : Nat → (Nat → Int) → Nat → Nat → Nat
  | 0, _, _, i => i
  | n + 1, c, k, i => if mn X c < 2 then i else wk X p n (chd X c k (wAt X c (yj X n c k)) (oi X k (tl (xK X k) (xD X (sdw X c (wAt X c (yj X n c k))) p)))) (k + 1) (i + 1 + tof X n c k (wAt X c (yj X n c k)) ((oi X k (tl (xK X k) (xD X (sdw X c (wAt X c (yj X n c k))) p)))))
theorem wk_1 {X : sX} {p n : Nat} {c : Nat → Int} {k i : Nat} (h : mn X c < 2) : wk X p n c k i = i := by
  cases n with
  | zero => rfl
  | succ n => unfold wk; rw [if_pos h]
theorem wk_s {X : sX} {p n : Nat} {c : Nat → Int} {k i : Nat} (h : ¬ mn X c < 2) : wk X p (n + 1) c k i = wk X p n (chd X c k (wAt X c (yj X n c k)) (oi X k (tl (xK X k) (xD X (sdw X c (wAt X c (yj X n c k))) p)))) (k + 1) (i + 1 + tof X n c k (wAt X c (yj X n c k)) ((oi X k (tl (xK X k) (xD X (sdw X c (wAt X c (yj X n c k))) p))))) := by
  have e : wk X p (n + 1) c k i = if mn X c < 2 then i else wk X p n (chd X c k (wAt X c (yj X n c k)) (oi X k (tl (xK X k) (xD X (sdw X c (wAt X c (yj X n c k))) p)))) (k + 1) (i + 1 + tof X n c k (wAt X c (yj X n c k)) ((oi X k (tl (xK X k) (xD X (sdw X c (wAt X c (yj X n c k))) p))))) := rfl
  rw [e, if_neg h]
theorem mn_in {X : sX} {c : Nat → Int} {p : Nat} (hp : p < xM X) (h : 0 ≤ c p) : ¬ mn X c ≤ 0 := by
  unfold mn
  have : ∀ n, p < n → 1 ≤ sm (fun s => if 0 ≤ c s then (1 : Int) else 0) n := by
    intro n hn
    obtain ⟨q, rfl⟩ : ∃ q, n = p + 1 + q := ⟨n - p - 1, by omega⟩
    clear hn
    have nn : ∀ i : Nat, 0 ≤ (if 0 ≤ c i then (1 : Int) else 0) ∧ (if 0 ≤ c i then (1 : Int) else 0) ≤ 1 := fun i => by split <;> omega
    induction q with
    | zero =>
      have e : sm (fun s => if 0 ≤ c s then (1 : Int) else 0) (p + 1) = sm (fun s => if 0 ≤ c s then (1 : Int) else 0) p + (if 0 ≤ c p then (1 : Int) else 0) := rfl
      have := sm_le1 (fun s => if 0 ≤ c s then (1 : Int) else 0) nn p
      show 1 ≤ sm (fun s => if 0 ≤ c s then (1 : Int) else 0) (p + 1)
      rw [e, if_pos h]
      omega
    | succ q ih =>
      have e : sm (fun s => if 0 ≤ c s then (1 : Int) else 0) (p + 1 + (q + 1)) = sm (fun s => if 0 ≤ c s then (1 : Int) else 0) (p + 1 + q) + (if 0 ≤ c (p + 1 + q) then (1 : Int) else 0) := rfl
      rw [e]
      have := (nn (p + 1 + q)).1
      omega
  have := this (xM X) hp
  omega
/-- the outcome a truth is told -/
theorem out_in {X : sX} (hX : XV X) {c : Nat → Int} {k p : Nat} {w : sW} (hp : p < xM X) (h : 0 ≤ c p) : oi X k (tl (xK X k) (xD X (sdw X c w) p)) < oc X k ∧ (-mo (xK X k) + (oi X k (tl (xK X k) (xD X (sdw X c w) p)) : Int)) = tl (xK X k) (xD X (sdw X c w) p) ∧ 0 ≤ chd X c k w (oi X k (tl (xK X k) (xD X (sdw X c w) p))) p := by
  have bd := hX.2.2.2.1 (sdw X c w) p (fun q => sdw_pm X c w q) hp
  have tb := tl_mo (k := xK X k) bd
  have e : -mo (xK X k) + (oi X k (tl (xK X k) (xD X (sdw X c w) p)) : Int) = tl (xK X k) (xD X (sdw X c w) p) := by unfold oi; omega
  refine ⟨oi_lt tb, e, ?_⟩
  unfold chd mkc
  rw [if_neg (by omega), e]
  unfold lb
  rw [if_pos rfl]
  exact h
theorem co_out {X : sX} (hX : XV X) {c : Nat → Int} {k p : Nat} {w : sW} (hp : p < xM X) : ((co X k (oi X k (tl (xK X k) (xD X (sdw X c w) p))) : Nat) : Int) = tl (xK X k) (xD X (sdw X c w) p) + 3 := by
  have bd := hX.2.2.2.1 (sdw X c w) p (fun q => sdw_pm X c w q) hp
  have tb := tl_mo (k := xK X k) bd
  have := oc_37 X k
  unfold co oi
  omega
theorem xD_bits {X : sX} (hX : XV X) {c : Nat → Int} {w : sW} {l r p : Nat} (h : BSd (sdw X c w) (xN X) (xN X) l r) : xD X (fun q => bt l q - bt r q) p = xD X (sdw X c w) p := by
  refine hX.2.2.2.2.1 _ _ p (fun q hq => ?_)
  have hb := sdw_pm X c w q
  rw [(h.2.2 q).1, (h.2.2 q).2]
  (repeat' split) <;> omega
/-- a record with its difference -/
theorem wk_sum (d : Nat) {t r l rt N : Nat} {σ : am_S} {K : Int → am_S → Prop} (hF : MF σ) (hT : sI σ 31 26 = 0) (ht : t < 10000) (hr : r < 6000) (hv : TVt (sI σ 33) (sI σ 34) (sI σ 35) N t) (hN : N ≤ 12) (hl : sI σ 68 r = l) (hrt : sI σ 69 r = rt) (l4 : l < 4096) (r4 : rt < 4096)
    (h : ∀ z4 z5, (sI σ 33 t ≤ z4) → am_Runs PP MLL (d + 2) m_M_walk 29 [some (qr (31, 12, 89)), some (qi (t : Int)), some (qi (r : Int)), some (qi (df (fun q => bt l q - bt rt q) (sI σ 33) (sI σ 34) (sI σ 35) t)), some (qi z4), z5] [] σ (kI K)) : ∀ z5, am_Runs PP MLL (d + 2) m_M_walk 29 [some (qr (31, 12, 89)), some (qi (t : Int)), some (qi (r : Int)), some (qi 0), some (qi 0), z5] [] σ (kI K) := by
  obtain ⟨v1, v2, v3⟩ := hv
  have loop : ∀ q i, i + q = (sI σ 33 t).toNat → ∀ z5, am_Runs PP MLL (d + 2) m_M_walk 29 [some (qr (31, 12, 89)), some (qi (t : Int)), some (qi (r : Int)), some (qi (sm (fun i => (bt l (sI σ 34 (3 * t + i)).toNat - bt rt (sI σ 34 (3 * t + i)).toNat) * sI σ 35 (3 * t + i)) i)), some (qi (i : Int)), z5] [] σ (kI K) := by
    intro q
    induction q with
    | zero =>
      intro i hi z5
      have ei : i = (sI σ 33 t).toNat := by omega
      have := h (i : Int) z5 (by omega)
      unfold df at this
      rw [← ei] at this
      exact this
    | succ q ih =>
      intro i hi z5
      obtain ⟨c1, c2, c3⟩ := v3 i (by omega)
      obtain ⟨cn, ec⟩ : ∃ cn : Nat, sI σ 34 (3 * t + i) = cn := ⟨(sI σ 34 (3 * t + i)).toNat, by omega⟩
      have b1 := ibit (x := l) (c := cn) (by omega) (by omega)
      have b2 := ibit (x := rt) (c := cn) (by omega) (by omega)
      have x1 := bt_01 l cn
      have x2 := bt_01 rt cn
      have sb := sm_abs (f := fun i => (bt l (sI σ 34 (3 * t + i)).toNat - bt rt (sI σ 34 (3 * t + i)).toNat) * sI σ 35 (3 * t + i)) (c := 1) i (fun j hj => by
        obtain ⟨_, _, e⟩ := v3 j (by omega)
        have y1 := bt_01 l (sI σ 34 (3 * t + j)).toNat
        have y2 := bt_01 rt (sI σ 34 (3 * t + j)).toNat
        show -1 ≤ (bt l (sI σ 34 (3 * t + j)).toNat - bt rt (sI σ 34 (3 * t + j)).toNat) * sI σ 35 (3 * t + j) ∧ (bt l (sI σ 34 (3 * t + j)).toNat - bt rt (sI σ 34 (3 * t + j)).toNat) * sI σ 35 (3 * t + j) ≤ 1
        rcases e with e | e <;> rw [e] <;> omega)
      have es : sm (fun i => (bt l (sI σ 34 (3 * t + i)).toNat - bt rt (sI σ 34 (3 * t + i)).toNat) * sI σ 35 (3 * t + i)) (i + 1) = sm (fun i => (bt l (sI σ 34 (3 * t + i)).toNat - bt rt (sI σ 34 (3 * t + i)).toNat) * sI σ 35 (3 * t + i)) i + (bt l cn - bt rt cn) * sI σ 35 (3 * t + i) := by
        show _ + (bt l (sI σ 34 (3 * t + i)).toNat - bt rt (sI σ 34 (3 * t + i)).toNat) * sI σ 35 (3 * t + i) = _
        rw [ec, Int.toNat_natCast]
      refine v_M_walk_29 d (t : Int) (r : Int) _ (i : Int) z5 σ K hF hT ⟨by omega, fun c => absurd c (by rw [Int.toNat_natCast]; omega), fun _ => ?_⟩
      rw [show 3 * (t : Int) + (i : Int) = ((3 * t + i : Nat) : Int) by omega, Int.toNat_natCast, Int.toNat_natCast, hl, hrt, ec, b1, b2, ← es, show (i : Int) + 1 = ((i + 1 : Nat) : Int) by omega]
      have nx := ih (i + 1) (by omega)
      have prod : -1 ≤ (bt l cn - bt rt cn) * sI σ 35 (3 * t + i) ∧ (bt l cn - bt rt cn) * sI σ 35 (3 * t + i) ≤ 1 := by rcases c3 with e | e <;> rw [e] <;> omega
      refine ⟨?_, nx _⟩
      rw [es]
      obtain ⟨S, eS⟩ : ∃ S, S = sm (fun i => (bt l (sI σ 34 (3 * t + i)).toNat - bt rt (sI σ 34 (3 * t + i)).toNat) * sI σ 35 (3 * t + i)) i := ⟨_, rfl⟩
      obtain ⟨Q, eQ⟩ : ∃ Q, Q = (bt l cn - bt rt cn) * sI σ 35 (3 * t + i) := ⟨_, rfl⟩
      rw [← eS] at sb ⊢
      rw [← eQ] at prod ⊢
      omega
  exact loop (sI σ 33 t).toNat 0 (Nat.zero_add _)
theorem walk_case (d : Nat) {X : sX} {ob nb k0 p : Nat} {tr : Nat → Nat} {σ : am_S} {K : Int → am_S → Prop} (hF : MF σ) (hX : MX σ X ob nb tr) (hk0 : sI σ 31 13 = k0) (hk1 : k0 ≤ 50) (hp : p < xM X) : ∀ n (c : Nat → Int) k dp o a i, 0 ≤ c p → can X n c k → dp + n ≤ 6 → k = k0 + dp → a + tsz X n c k ≤ 6000 → RS σ X tr n c k dp o a → hBT σ X n c k a → hNT σ X n c k a i → K (wk X p n c k i : Nat) σ → ∀ z3 z4 z5, am_Runs PP MLL (d + 2) m_M_walk 20 [some (qr (31, 12, 89)), some (qi (tr p : Int)), some (qi ((a + tsz X n c k - 1 : Nat) : Int)), z3, z4, z5] [] σ (kI K) := by
  have xv := hX.1
  have T26 := hX.2.2.2.2.2.2.2.2.2.2.2.2.2
  have leaf : ∀ n (c : Nat → Int) k dp o a i, ¬ mn X c ≤ 0 → mn X c < 2 → a + tsz X n c k ≤ 6000 → RS σ X tr n c k dp o a → hNT σ X n c k a i → K (i : Int) σ → ∀ z3 z4 z5, am_Runs PP MLL (d + 2) m_M_walk 20 [some (qr (31, 12, 89)), some (qi (tr p : Int)), some (qi ((a + tsz X n c k - 1 : Nat) : Int)), z3, z4, z5] [] σ (kI K) := by
    intro n c k dp o a i hm m2 ha hR hN hK z3 z4 z5
    have m1 : mn X c = 1 := by omega
    have rt := hNT_rt n _ _ _ _ hm hN
    have hp1 := tsz_p (n := n) (k := k) hm
    rw [tsz_1 hm m2] at ha rt ⊢
    have r67 : sI σ 67 a = 0 := by
      cases n with
      | zero =>
        have := hR.1
        rw [if_pos m1] at this
        exact this
      | succ n =>
        rcases hR with ⟨_, q⟩ | ⟨q, _⟩
        · have := q.1
          rw [if_pos m1] at this
          exact this
        · exact absurd m2 q
    rw [show a + 1 - 1 = a by omega] at rt ⊢
    refine v_M_walk_20 d (tr p : Int) (a : Int) z3 z4 z5 σ K hF T26 ⟨by omega, ?_⟩
    rw [Int.toNat_natCast, r67, rt.1]
    exact ⟨fun _ => hK, fun q => absurd (by decide) q⟩
  intro n
  induction n with
  | zero =>
    intro c k dp o a i hc hcan hd hk ha hR hB hN hK
    exact leaf 0 c k dp o a i (mn_in hp hc) hcan ha hR hN hK
  | succ n ih =>
    intro c k dp o a i hc hcan hd hk ha hR hB hN hK z3 z4 z5
    have hm := mn_in hp hc
    by_cases m2 : mn X c < 2
    · rw [wk_1 m2] at hK
      exact leaf (n + 1) c k dp o a i hm m2 ha hR hN hK z3 z4 z5
    · rw [wk_s m2] at hK
      rcases hR with ⟨w, _⟩ | ⟨_, r2, r3⟩
      · exact absurd w m2
      rcases hB with ⟨w, _⟩ | ⟨_, b2, b3, b4⟩
      · exact absurd w m2
      rcases hN with ⟨w, _⟩ | ⟨_, n2, n3, n4⟩
      · exact absurd w m2
      rw [tsz_s m2] at ha ⊢
      rw [show a + (1 + tof X n c k (wAt X c (yj X n c k)) (oc X k)) - 1 = a + tof X n c k (wAt X c (yj X n c k)) (oc X k) by omega]
      obtain ⟨r, er⟩ : ∃ r, r = a + tof X n c k (wAt X c (yj X n c k)) (oc X k) := ⟨_, rfl⟩
      rw [← er] at r3 b2 b3 b4 n2 n3 ⊢
      have m1 : ¬ mn X c = 1 := by omega
      obtain ⟨c1, ⟨l, rt, c2, c3, c4⟩, c5, c6, c7, c8⟩ := r3
      rw [if_neg m1] at c1 c4
      have hw := wsq_WV xv c _ _ (wsq_at xv (yj_lt xv hcan m2))
      obtain ⟨u1, u2, u3⟩ := out_in xv (k := k) (w := (wAt X c (yj X n c k))) hp hc
      have u4 := co_out xv (c := c) (k := k) (w := (wAt X c (yj X n c k))) hp
      have t6 := hX.2.2.2.2.1 p hp
      have xd := hX.2.2.2.2.2.1
      obtain ⟨-, x2, x40, xs, xt, -, x36, xo, xn, xq, xk, xl, xO', x26⟩ := hX
      have bd := xv.2.2.2.1 (sdw X c (wAt X c (yj X n c k))) p (fun q => sdw_pm X c (wAt X c (yj X n c k)) q) hp
      have edf : df (fun q => bt l q - bt rt q) (sI σ 33) (sI σ 34) (sI σ 35) (tr p) = xD X (sdw X c (wAt X c (yj X n c k))) p := by rw [← xd, xD_bits xv c4]
      have m3 : mn X (chd X c k (wAt X c (yj X n c k)) (oi X k (tl (xK X k) (xD X (sdw X c (wAt X c (yj X n c k))) p)))) ≤ 0 → False := fun q => mn_in hp u3 q
      have cco := (co_bd u1).1
      refine v_M_walk_20 d (tr p : Int) (r : Int) z3 z4 z5 σ K hF T26 ⟨by omega, ?_⟩
      rw [Int.toNat_natCast, c1]
      refine ⟨fun q => absurd q (by have := hw.1; omega), fun _ => ?_⟩
      refine wk_sum d hF T26 t6.2.1 (by omega) t6.2.2 xv.1 c2 c3 c4.1 c4.2.1 (fun v4 z5 hv4 => ?_) _
      rw [edf]
      have wl := wr_lt (turn := k) xq xo
      have ek : sI σ 31 13 + sI σ 72 r = ((k : Nat) : Int) := by rw [hk0, c7]; omega
      have wg := wr_gd (t := k) xq xo (show ((k : Nat) : Int) = k from rfl)
      refine v_M_walk_29 d (tr p : Int) (r : Int) _ v4 z5 σ K hF T26 ⟨by omega, fun _ => ?_, fun q => absurd (by rw [Int.toNat_natCast]; exact hv4) q⟩
      rw [Int.toNat_natCast, ek, x36, Int.toNat_natCast, wr_eq xq xo (show ((k : Nat) : Int) = k from rfl), Int.toNat_natCast, ← xk k]
      have ei : 7 * (r : Int) + (tl (xK X k) (xD X (sdw X c (wAt X c (yj X n c k))) p)) + 3 = ((7 * r + co X k (oi X k (tl (xK X k) (xD X (sdw X c (wAt X c (yj X n c k))) p))) : Nat) : Int) := by omega
      rw [ei, Int.toNat_natCast]
      have tb := tl_mo (k := xK X k) bd
      have hmo := oc_37 X k
      refine ⟨by omega, by omega, ⟨fun q => by omega, fun q => by omega, fun q => (wg q).1, fun q => by have := wg q; omega, fun q => by have := wg q; omega, fun q => by have := wg q; omega, fun q => by have := wg q; omega⟩, by omega, by omega, by omega, ?_⟩
      rcases b4 (oi X k (tl (xK X k) (xD X (sdw X c (wAt X c (yj X n c k))) p))) u1 with ⟨w, _⟩ | ⟨w, b5, b6⟩
      · exact absurd w m3
      rw [b5]
      have e1 := tof_s X n c k (wAt X c (yj X n c k)) (oi X k (tl (xK X k) (xD X (sdw X c (wAt X c (yj X n c k))) p)))
      have m4 : tof X n c k (wAt X c (yj X n c k)) ((oi X k (tl (xK X k) (xD X (sdw X c (wAt X c (yj X n c k))) p))) + 1) ≤ tof X n c k (wAt X c (yj X n c k)) (oc X k) := sN'_mono (by omega)
      rw [show a + tof X n c k (wAt X c (yj X n c k)) ((oi X k (tl (xK X k) (xD X (sdw X c (wAt X c (yj X n c k))) p))) + 1) - 1 = a + tof X n c k (wAt X c (yj X n c k)) ((oi X k (tl (xK X k) (xD X (sdw X c (wAt X c (yj X n c k))) p)))) + tsz X n (chd X c k (wAt X c (yj X n c k)) (oi X k (tl (xK X k) (xD X (sdw X c (wAt X c (yj X n c k))) p)))) (k + 1) - 1 by omega]
      exact ih _ _ _ _ _ _ u3 (ywc xv hcan m2 _ u1) (by omega) (by omega) (by omega) ((r2 _ u1).resolve_left w) b6 ((n4 _ u1).resolve_left w) hK _ _ _
