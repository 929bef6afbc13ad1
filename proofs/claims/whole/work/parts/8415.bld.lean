/-! the reference: records become a tree, the way up -/
theorem v_M_build_0 (d : Nat) (σ : am_S) (K : am_S → Prop) (hF : MF σ) (hT : sI σ 31 26 = 0) (h :
  am_Runs PP MLL d m_M_build 2 [some (qr (31, 12, 89)), some (qi 0), none, none, none] [] σ (kV K)) : am_Runs PP MLL d m_M_build 0 [some (qr (31, 12, 89)), none, none, none, none] [] σ (kV K) := am_wEF_ok (orc []) 200 (h)

theorem v_M_build_2 (d : Nat) (v1 : Int) (z2 z3 z4 : Option am_V) (σ : am_S) (K : am_S → Prop) (hF : MF σ) (hT : sI σ 31 26 = 0) (h :
  ((8 ≤ v1 →
    am_Runs PP MLL d m_M_build 14 [some (qr (31, 12, 89)), some (qi 0), z2, z3, z4] [] σ (kV K)) ∧
  (¬ (8 ≤ v1) →
    (0 ≤ v1 ∧ v1 < 8 ∧ -2147483648 ≤ v1 + 1 ∧ v1 + 1 < 2147483648) ∧
    am_Runs PP MLL d m_M_build 2 [some (qr (31, 12, 89)), some (qi (v1 + 1)), z2, z3, z4] [] (putI σ 80 (Int.toNat v1) (-1)) (kV K)))) : am_Runs PP MLL d m_M_build 2 [some (qr (31, 12, 89)), some (qi v1), z2, z3, z4] [] σ (kV K) := am_wEF_ok (orc [(6, 80, 20, 8)]) 200 (⟨fun c2 => (h.1 c2), fun c2 => ⟨⟨rfl, (hF 75)⟩, ⟨⟨rfl, (h.2 c2).1.1, (h.2 c2).1.2.1⟩, ⟨⟨(h.2 c2).1.2.2.1, (h.2 c2).1.2.2.2⟩, (h.2 c2).2⟩⟩⟩⟩)

theorem v_M_build_14 (d : Nat) (v1 : Int) (z2 z3 z4 : Option am_V) (σ : am_S) (K : am_S → Prop) (hF : MF σ) (hT : sI σ 31 26 = 0) (h :
  (((sI σ 31 60) ≤ v1 →
    (-2147483648 ≤ (sI σ 31 60) - 1 ∧ (sI σ 31 60) - 1 < 2147483648 ∧ 0 ≤ ((sI σ 31 60) - 1) ∧ ((sI σ 31 60) - 1) < 6000) ∧
    am_Runs PP MLL d m_M_build 123 [some (qr (31, 12, 89)), some (qi ((sI σ 31 60) - 1)), z2, z3, z4] [] (putI (putI σ 31 73 (sI σ 31 60)) 75 (Int.toNat ((sI σ 31 60) - 1)) 0) (kV K)) ∧
  (¬ ((sI σ 31 60) ≤ v1) →
    (0 ≤ v1 ∧ v1 < 6000) ∧
    am_Runs PP MLL d m_M_build 30 [some (qr (31, 12, 89)), some (qi v1), some (qi (sI σ 72 (Int.toNat v1))), some (qi 0), z4] [] (putI σ 74 (Int.toNat v1) 1) (kV K)))) : am_Runs PP MLL d m_M_build 14 [some (qr (31, 12, 89)), some (qi v1), z2, z3, z4] [] σ (kV K) := am_wEF_ok (orc [(19, 72, 20, 6000), (24, 74, 20, 6000), (111, 75, 20, 6000)]) 200 (⟨rfl, ⟨fun c2 => ⟨rfl, ⟨rfl, ⟨⟨rfl, (hF 69)⟩, ⟨rfl, ⟨⟨(h.1 c2).1.1, (h.1 c2).1.2.1⟩, ⟨⟨rfl, (h.1 c2).1.2.2.1, (h.1 c2).1.2.2.2⟩, ⟨rfl, ⟨⟨(h.1 c2).1.1, (h.1 c2).1.2.1⟩, (h.1 c2).2⟩⟩⟩⟩⟩⟩⟩⟩, fun c2 => ⟨⟨rfl, (hF 66)⟩, ⟨⟨rfl, (h.2 c2).1.1, (h.2 c2).1.2⟩, ⟨⟨rfl, (hF 68)⟩, ⟨⟨rfl, (h.2 c2).1.1, (h.2 c2).1.2⟩, (h.2 c2).2⟩⟩⟩⟩⟩⟩)

theorem v_M_build_30 (d : Nat) (v1 v2 v3 : Int) (z4 : Option am_V) (σ : am_S) (K : am_S → Prop) (hF : MF σ) (hT : sI σ 31 26 = 0) (h :
  ((7 ≤ v3 →
    (-2147483648 ≤ v2 + 1 ∧ v2 + 1 < 2147483648 ∧ 0 ≤ (v2 + 1) ∧ (v2 + 1) < 8) ∧
    am_Runs PP MLL d m_M_build 51 [some (qr (31, 12, 89)), some (qi v1), some (qi v2), some (qi (sI σ 80 (Int.toNat (v2 + 1)))), z4] [] σ (kV K)) ∧
  (¬ (7 ≤ v3) →
    (-2147483648 ≤ 7 * v1 ∧ 7 * v1 < 2147483648 ∧ -2147483648 ≤ (7 * v1) + v3 ∧ (7 * v1) + v3 < 2147483648 ∧ 0 ≤ ((7 * v1) + v3) ∧ ((7 * v1) + v3) < 42000 ∧ -2147483648 ≤ v3 + 1 ∧ v3 + 1 < 2147483648) ∧
    am_Runs PP MLL d m_M_build 30 [some (qr (31, 12, 89)), some (qi v1), some (qi v2), some (qi (v3 + 1)), z4] [] (putI σ 77 (Int.toNat ((7 * v1) + v3)) (-1)) (kV K)))) : am_Runs PP MLL d m_M_build 30 [some (qr (31, 12, 89)), some (qi v1), some (qi v2), some (qi v3), z4] [] σ (kV K) := am_wEF_ok (orc [(34, 77, 20, 42000), (45, 80, 20, 8)]) 200 (⟨fun c2 => ⟨⟨rfl, (hF 75)⟩, ⟨⟨(h.1 c2).1.1, (h.1 c2).1.2.1⟩, ⟨⟨rfl, (h.1 c2).1.2.2.1, (h.1 c2).1.2.2.2⟩, (h.1 c2).2⟩⟩⟩, fun c2 => ⟨⟨rfl, (hF 71)⟩, ⟨⟨(h.2 c2).1.1, (h.2 c2).1.2.1⟩, ⟨⟨(h.2 c2).1.2.2.1, (h.2 c2).1.2.2.2.1⟩, ⟨⟨rfl, (h.2 c2).1.2.2.2.2.1, (h.2 c2).1.2.2.2.2.2.1⟩, ⟨⟨(h.2 c2).1.2.2.2.2.2.2.1, (h.2 c2).1.2.2.2.2.2.2.2⟩, (h.2 c2).2⟩⟩⟩⟩⟩⟩)

theorem v_M_build_51 (d : Nat) (v1 v2 v3 : Int) (z4 : Option am_V) (σ : am_S) (K : am_S → Prop) (hF : MF σ) (hT : sI σ 31 26 = 0) (h :
  ((v3 < 0 →
    (-2147483648 ≤ v2 + 1 ∧ v2 + 1 < 2147483648 ∧ 0 ≤ (v2 + 1) ∧ (v2 + 1) < 8 ∧ 0 ≤ v2 ∧ v2 < 8 ∧ 0 ≤ v1 ∧ v1 < 6000 ∧ -2147483648 ≤ v1 + 1 ∧ v1 + 1 < 2147483648) ∧
    am_Runs PP MLL d m_M_build 14 [some (qr (31, 12, 89)), some (qi (v1 + 1)), some (qi v2), some (qi v3), z4] [] (putI (putI (putI σ 80 (Int.toNat (v2 + 1)) (-1)) 76 (Int.toNat v1) (sI (putI σ 80 (Int.toNat (v2 + 1)) (-1)) 80 (Int.toNat v2))) 80 (Int.toNat v2) v1) (kV K)) ∧
  (¬ (v3 < 0) →
    (-2147483648 ≤ 7 * v1 ∧ 7 * v1 < 2147483648 ∧ 0 ≤ v3 ∧ v3 < 6000 ∧ -2147483648 ≤ (7 * v1) + (sI σ 73 (Int.toNat v3)) ∧ (7 * v1) + (sI σ 73 (Int.toNat v3)) < 2147483648 ∧ -2147483648 ≤ ((7 * v1) + (sI σ 73 (Int.toNat v3))) + 3 ∧ ((7 * v1) + (sI σ 73 (Int.toNat v3))) + 3 < 2147483648 ∧ 0 ≤ (((7 * v1) + (sI σ 73 (Int.toNat v3))) + 3) ∧ (((7 * v1) + (sI σ 73 (Int.toNat v3))) + 3) < 42000 ∧ 0 ≤ v1 ∧ v1 < 6000 ∧ -2147483648 ≤ (sI σ 74 (Int.toNat v1)) + (sI σ 74 (Int.toNat v3)) ∧ (sI σ 74 (Int.toNat v1)) + (sI σ 74 (Int.toNat v3)) < 2147483648) ∧
    am_Runs PP MLL d m_M_build 51 [some (qr (31, 12, 89)), some (qi v1), some (qi v2), some (qi (sI σ 76 (Int.toNat v3))), z4] [] (putI (putI σ 77 (Int.toNat (((7 * v1) + (sI σ 73 (Int.toNat v3))) + 3)) v3) 74 (Int.toNat v1) ((sI σ 74 (Int.toNat v1)) + (sI σ 74 (Int.toNat v3)))) (kV K)))) : am_Runs PP MLL d m_M_build 51 [some (qr (31, 12, 89)), some (qi v1), some (qi v2), some (qi v3), z4] [] σ (kV K) := am_wEF_ok (orc [(54, 77, 20, 42000), (59, 73, 20, 6000), (68, 74, 20, 6000), (73, 74, 20, 6000), (79, 76, 20, 6000), (85, 80, 20, 8), (92, 76, 20, 6000), (95, 80, 20, 8), (100, 80, 20, 8)]) 200 (⟨fun c2 => ⟨⟨rfl, (hF 75)⟩, ⟨⟨(h.1 c2).1.1, (h.1 c2).1.2.1⟩, ⟨⟨rfl, (h.1 c2).1.2.2.1, (h.1 c2).1.2.2.2.1⟩, ⟨⟨rfl, (hF 70)⟩, ⟨⟨rfl, (hF 75)⟩, ⟨⟨rfl, (h.1 c2).1.2.2.2.2.1, (h.1 c2).1.2.2.2.2.2.1⟩, ⟨⟨rfl, (h.1 c2).1.2.2.2.2.2.2.1, (h.1 c2).1.2.2.2.2.2.2.2.1⟩, ⟨⟨rfl, (hF 75)⟩, ⟨⟨rfl, (h.1 c2).1.2.2.2.2.1, (h.1 c2).1.2.2.2.2.2.1⟩, ⟨⟨(h.1 c2).1.2.2.2.2.2.2.2.2.1, (h.1 c2).1.2.2.2.2.2.2.2.2.2⟩, (h.1 c2).2⟩⟩⟩⟩⟩⟩⟩⟩⟩⟩, fun c2 => ⟨⟨rfl, (hF 71)⟩, ⟨⟨(h.2 c2).1.1, (h.2 c2).1.2.1⟩, ⟨⟨rfl, (hF 67)⟩, ⟨⟨rfl, (h.2 c2).1.2.2.1, (h.2 c2).1.2.2.2.1⟩, ⟨⟨(h.2 c2).1.2.2.2.2.1, (h.2 c2).1.2.2.2.2.2.1⟩, ⟨⟨(h.2 c2).1.2.2.2.2.2.2.1, (h.2 c2).1.2.2.2.2.2.2.2.1⟩, ⟨⟨rfl, (h.2 c2).1.2.2.2.2.2.2.2.2.1, (h.2 c2).1.2.2.2.2.2.2.2.2.2.1⟩, ⟨⟨rfl, (hF 68)⟩, ⟨⟨rfl, (h.2 c2).1.2.2.2.2.2.2.2.2.2.2.1, (h.2 c2).1.2.2.2.2.2.2.2.2.2.2.2.1⟩, ⟨⟨rfl, (hF 68)⟩, ⟨⟨rfl, (h.2 c2).1.2.2.1, (h.2 c2).1.2.2.2.1⟩, ⟨⟨(h.2 c2).1.2.2.2.2.2.2.2.2.2.2.2.2.1, (h.2 c2).1.2.2.2.2.2.2.2.2.2.2.2.2.2⟩, ⟨⟨rfl, (h.2 c2).1.2.2.2.2.2.2.2.2.2.2.1, (h.2 c2).1.2.2.2.2.2.2.2.2.2.2.2.1⟩, ⟨⟨rfl, (hF 70)⟩, ⟨⟨rfl, (h.2 c2).1.2.2.1, (h.2 c2).1.2.2.2.1⟩, (h.2 c2).2⟩⟩⟩⟩⟩⟩⟩⟩⟩⟩⟩⟩⟩⟩⟩⟩)

theorem v_M_build_123 (d : Nat) (v1 : Int) (z2 z3 z4 : Option am_V) (σ : am_S) (K : am_S → Prop) (hF : MF σ) (hT : sI σ 31 26 = 0) (h :
  ((v1 < 0 →
    K σ) ∧
  (¬ (v1 < 0) →
    (0 ≤ v1 ∧ v1 < 6000 ∧ 0 ≤ (sI σ 75 (Int.toNat v1)) ∧ (sI σ 75 (Int.toNat v1)) < 6000 ∧ -2147483648 ≤ (sI σ 75 (Int.toNat v1)) + 1 ∧ (sI σ 75 (Int.toNat v1)) + 1 < 2147483648) ∧
    am_Runs PP MLL d m_M_build 142 [some (qr (31, 12, 89)), some (qi v1), some (qi ((sI σ 75 (Int.toNat v1)) + 1)), some (qi 0), z4] [] (putI σ 78 (Int.toNat (sI σ 75 (Int.toNat v1))) v1) (kV K)))) : am_Runs PP MLL d m_M_build 123 [some (qr (31, 12, 89)), some (qi v1), z2, z3, z4] [] σ (kV K) := am_wEF_ok (orc [(126, 78, 20, 6000), (128, 75, 20, 6000), (134, 75, 20, 6000)]) 200 (⟨fun c2 => (h.1 c2), fun c2 => ⟨⟨rfl, (hF 72)⟩, ⟨⟨rfl, (hF 69)⟩, ⟨⟨rfl, (h.2 c2).1.1, (h.2 c2).1.2.1⟩, ⟨⟨rfl, (h.2 c2).1.2.2.1, (h.2 c2).1.2.2.2.1⟩, ⟨⟨rfl, (hF 69)⟩, ⟨⟨rfl, (h.2 c2).1.1, (h.2 c2).1.2.1⟩, ⟨⟨(h.2 c2).1.2.2.2.2.1, (h.2 c2).1.2.2.2.2.2⟩, (h.2 c2).2⟩⟩⟩⟩⟩⟩⟩⟩)

theorem v_M_build_142 (d : Nat) (v1 v2 v3 : Int) (z4 : Option am_V) (σ : am_S) (K : am_S → Prop) (hF : MF σ) (hT : sI σ 31 26 = 0) (h :
  ((7 ≤ v3 →
    (-2147483648 ≤ v1 + (-1) ∧ v1 + (-1) < 2147483648) ∧
    am_Runs PP MLL d m_M_build 123 [some (qr (31, 12, 89)), some (qi (v1 + (-1))), some (qi v2), some (qi v3), z4] [] σ (kV K)) ∧
  (¬ (7 ≤ v3) →
    (-2147483648 ≤ 7 * v1 ∧ 7 * v1 < 2147483648 ∧ -2147483648 ≤ (7 * v1) + v3 ∧ (7 * v1) + v3 < 2147483648 ∧ 0 ≤ ((7 * v1) + v3) ∧ ((7 * v1) + v3) < 42000) ∧
    (((sI σ 77 (Int.toNat ((7 * v1) + v3))) < 0 →
      (-2147483648 ≤ v3 + 1 ∧ v3 + 1 < 2147483648) ∧
      am_Runs PP MLL d m_M_build 142 [some (qr (31, 12, 89)), some (qi v1), some (qi v2), some (qi (v3 + 1)), some (qi (sI σ 77 (Int.toNat ((7 * v1) + v3))))] [] σ (kV K)) ∧
    (¬ ((sI σ 77 (Int.toNat ((7 * v1) + v3))) < 0) →
      (0 ≤ (sI σ 77 (Int.toNat ((7 * v1) + v3))) ∧ (sI σ 77 (Int.toNat ((7 * v1) + v3))) < 6000 ∧ -2147483648 ≤ v2 + (sI σ 74 (Int.toNat (sI σ 77 (Int.toNat ((7 * v1) + v3))))) ∧ v2 + (sI σ 74 (Int.toNat (sI σ 77 (Int.toNat ((7 * v1) + v3))))) < 2147483648 ∧ -2147483648 ≤ v3 + 1 ∧ v3 + 1 < 2147483648) ∧
      am_Runs PP MLL d m_M_build 142 [some (qr (31, 12, 89)), some (qi v1), some (qi (v2 + (sI σ 74 (Int.toNat (sI σ 77 (Int.toNat ((7 * v1) + v3))))))), some (qi (v3 + 1)), some (qi (sI σ 77 (Int.toNat ((7 * v1) + v3))))] [] (putI σ 75 (Int.toNat (sI σ 77 (Int.toNat ((7 * v1) + v3)))) v2) (kV K)))))) : am_Runs PP MLL d m_M_build 142 [some (qr (31, 12, 89)), some (qi v1), some (qi v2), some (qi v3), z4] [] σ (kV K) := am_wEF_ok (orc [(146, 77, 20, 42000), (157, 75, 20, 6000), (163, 74, 20, 6000)]) 200 (⟨fun c3 => ⟨⟨(h.1 c3).1.1, (h.1 c3).1.2⟩, (h.1 c3).2⟩, fun c3 => ⟨⟨rfl, (hF 71)⟩, ⟨⟨(h.2 c3).1.1, (h.2 c3).1.2.1⟩, ⟨⟨(h.2 c3).1.2.2.1, (h.2 c3).1.2.2.2.1⟩, ⟨⟨rfl, (h.2 c3).1.2.2.2.2.1, (h.2 c3).1.2.2.2.2.2⟩, ⟨fun c5 => ⟨⟨((h.2 c3).2.1 c5).1.1, ((h.2 c3).2.1 c5).1.2⟩, ((h.2 c3).2.1 c5).2⟩, fun c5 => ⟨⟨rfl, (hF 69)⟩, ⟨⟨rfl, ((h.2 c3).2.2 c5).1.1, ((h.2 c3).2.2 c5).1.2.1⟩, ⟨⟨rfl, (hF 68)⟩, ⟨⟨rfl, ((h.2 c3).2.2 c5).1.1, ((h.2 c3).2.2 c5).1.2.1⟩, ⟨⟨((h.2 c3).2.2 c5).1.2.2.1, ((h.2 c3).2.2 c5).1.2.2.2.1⟩, ⟨⟨((h.2 c3).2.2 c5).1.2.2.2.2.1, ((h.2 c3).2.2 c5).1.2.2.2.2.2⟩, ((h.2 c3).2.2 c5).2⟩⟩⟩⟩⟩⟩⟩⟩⟩⟩⟩⟩)

/-- records that hang on a level -/
def hCN (σ : am_S) (t : Nat → Nat) (a m : Nat) : Nat → Int → Prop
  | 0, v => v = -1
  | U + 1, v => (t U = 0 ∧ hCN σ t a m U v) ∨ (¬ t U = 0 ∧ v = ((a + sN' t (U + 1) - 1 : Nat) : Int) ∧ sI σ 73 (a + sN' t (U + 1) - 1) = (U : Int) - m ∧ sI σ 74 (a + sN' t (U + 1) - 1) = t U ∧ hCN σ t a m U (sI σ 76 (a + sN' t (U + 1) - 1)))
theorem hCN_fr {σ s : am_S} {t : Nat → Nat} {a m : Nat} : ∀ U v, (∀ j, j < a + sN' t U → sI s 73 j = sI σ 73 j ∧ sI s 74 j = sI σ 74 j ∧ sI s 76 j = sI σ 76 j) → hCN σ t a m U v → hCN s t a m U v
  | 0, v, _, h => h
  | U + 1, v, hf, h => by
    have e : sN' t (U + 1) = sN' t U + t U := rfl
    rcases h with ⟨h1, h2⟩ | ⟨h1, h2, h3, h4, h5⟩
    · exact Or.inl ⟨h1, hCN_fr U v (fun j hj => hf j (by omega)) h2⟩
    · obtain ⟨f1, f2, f3⟩ := hf (a + sN' t (U + 1) - 1) (by omega)
      exact Or.inr ⟨h1, h2, by rw [f1]; exact h3, by rw [f2]; exact h4, by rw [f3]; exact hCN_fr U _ (fun j hj => hf j (by omega)) h5⟩
/-- the run at a record -/
def bR (d pc : Nat) (v1 : Int) (σ : am_S) (K : am_S → Prop) : Prop := ∀ z2 z3 z4, am_Runs PP MLL d m_M_build pc [some (qr (31, 12, 89)), some (qi v1), z2, z3, z4] [] σ (kV K)
/-- the records of a level are hung up -/
theorem b_ch (d : Nat) {r dp m a : Nat} {t : Nat → Nat} {K : am_S → Prop} (hr6 : r < 6000) (hdp : dp ≤ 6) (hm : m ≤ 3) : ∀ (U : Nat) {σ : am_S} {v3 : Int}, MF σ → sI σ 31 26 = 0 → U ≤ m + 4 → a + sN' t U ≤ r → 0 ≤ sI σ 74 r ∧ sI σ 74 r + sN' t U ≤ 100000 → sN' t U ≤ 6000 → hCN σ t a m U v3 → (∀ s v, v < 0 → s.2 = σ.2 → (∀ x, x ≠ 74 → x ≠ 77 → sI s x = sI σ x) → (∀ j, j ≠ r → sI s 74 j = sI σ 74 j) → sI s 74 r = sI σ 74 r + sN' t U → (∀ j, (∀ u, u < U → ¬ t u = 0 → j ≠ 7 * r + (u + 3 - m)) → sI s 77 j = sI σ 77 j) → (∀ u, u < U → ¬ t u = 0 → sI s 77 (7 * r + (u + 3 - m)) = ((a + sN' t (u + 1) - 1 : Nat) : Int)) → ∀ z4, am_Runs PP MLL d m_M_build 51 [some (qr (31, 12, 89)), some (qi (r : Int)), some (qi (dp : Int)), some (qi v), z4] [] s (kV K)) → ∀ z4, am_Runs PP MLL d m_M_build 51 [some (qr (31, 12, 89)), some (qi (r : Int)), some (qi (dp : Int)), some (qi v3), z4] [] σ (kV K)
  | 0, σ, v3, hF, hT, _, _, _, _, h, k => by
    have e : v3 = -1 := h
    subst e
    exact k σ (-1) (by decide) rfl (fun _ _ _ => rfl) (fun _ _ => rfl) (by show _ = _ + ((0 : Nat) : Int); omega) (fun _ _ => rfl) (fun u hu => absurd hu (Nat.not_lt_zero u))
  | U + 1, σ, v3, hF, hT, hU, hr, h74, hS, h, k => by
    have e : sN' t (U + 1) = sN' t U + t U := rfl
    rcases h with ⟨h1, h2⟩ | ⟨h1, h2, h3, h4, h5⟩
    · refine b_ch d hr6 hdp hm U hF hT (by omega) (by omega) (by omega) (by omega) h2 (fun s v q1 q2 q3 q4 q5 q6 q7 => k s v q1 q2 q3 q4 (by rw [q5, e, h1]; rfl) (fun j hj => q6 j (fun u hu => hj u (by omega))) (fun u hu ht => ?_))
      have : u ≠ U := fun e => ht (by rw [e]; exact h1)
      exact q7 u (by omega) ht
    · intro z4
      obtain ⟨p, ep⟩ : ∃ p, p = a + sN' t (U + 1) - 1 := ⟨_, rfl⟩
      rw [← ep] at h2 h3 h4 h5
      have hp : p < r := by omega
      subst h2
      refine v_M_build_51 d (r : Int) (dp : Int) (p : Int) z4 σ K hF hT ⟨fun c => absurd c (by omega), fun _ => ?_⟩
      rw [Int.toNat_natCast, Int.toNat_natCast, h3, h4, show 7 * (r : Int) + ((U : Int) - m) + 3 = ((7 * r + (U + 3 - m) : Nat) : Int) by omega, Int.toNat_natCast]
      refine ⟨by omega, ?_⟩
      obtain ⟨W, eW⟩ : ∃ W, W = putI (putI σ 77 (7 * r + (U + 3 - m)) (p : Int)) 74 r (sI σ 74 r + (t U : Int)) := ⟨_, rfl⟩
      rw [← eW]
      have W2 : W.2 = σ.2 := by rw [eW]; rfl
      have Wo : ∀ x, x ≠ 74 → x ≠ 77 → sI W x = sI σ x := fun x x1 x2 => by rw [eW, put_ne x1, put_ne x2]
      have W74 : ∀ j, sI W 74 j = if j = r then sI σ 74 r + (t U : Int) else sI σ 74 j := fun j => by rw [eW, put_at, put_ne (by decide)]
      have W77 : ∀ j, sI W 77 j = if j = 7 * r + (U + 3 - m) then (p : Int) else sI σ 77 j := fun j => by rw [eW, put_ne (by decide), put_at]
      have w74 : sI W 74 r = sI σ 74 r + (t U : Int) := by rw [W74, if_pos rfl]
      refine b_ch d hr6 hdp hm U (MF_I hF W2) (by rw [Wo 31 (by decide) (by decide)]; exact hT) (by omega) (by omega) (by rw [w74]; omega) (by omega) (hCN_fr U _ (fun j hj => ⟨by rw [Wo 73 (by decide) (by decide)], by rw [W74, if_neg (by omega)], by rw [Wo 76 (by decide) (by decide)]⟩) h5) (fun s v q1 q2 q3 q4 q5 q6 q7 => k s v q1 (q2.trans W2) (fun x x1 x2 => by rw [q3 x x1 x2, Wo x x1 x2]) (fun j hj => by rw [q4 j hj, W74, if_neg hj]) (by rw [q5, w74, e]; omega) (fun j hj => ?_) (fun u hu ht => ?_)) z4
      · rw [q6 j (fun u hu => hj u (by omega)), W77, if_neg (hj U (by omega) h1)]
      · by_cases eu : u = U
        · subst eu
          rw [q6 _ (fun u' hu' _ => by omega), W77, if_pos rfl, ep]
        · exact q7 u (by omega) ht
/-- no child yet -/
theorem b_no (d : Nat) {r dp : Nat} {K : am_S → Prop} (hr6 : r < 6000) (hdp : dp ≤ 6) : ∀ (q o : Nat) {σ : am_S}, o + q = 7 → MF σ → sI σ 31 26 = 0 → (∀ s, s.2 = σ.2 → (∀ x, x ≠ 77 → sI s x = sI σ x) → (∀ j, (j < 7 * r + o ∨ 7 * r + 7 ≤ j) → sI s 77 j = sI σ 77 j) → (∀ j, o ≤ j → j < 7 → sI s 77 (7 * r + j) = -1) → ∀ z4, am_Runs PP MLL d m_M_build 51 [some (qr (31, 12, 89)), some (qi (r : Int)), some (qi (dp : Int)), some (qi (sI σ 80 (dp + 1))), z4] [] s (kV K)) → ∀ z4, am_Runs PP MLL d m_M_build 30 [some (qr (31, 12, 89)), some (qi (r : Int)), some (qi (dp : Int)), some (qi (o : Int)), z4] [] σ (kV K)
  | 0, o, σ, ho, hF, hT, k => by
    intro z4
    refine v_M_build_30 d (r : Int) (dp : Int) (o : Int) z4 σ K hF hT ⟨fun _ => ⟨by omega, ?_⟩, fun c => absurd (by omega) c⟩
    rw [show (dp : Int) + 1 = ((dp + 1 : Nat) : Int) by omega, Int.toNat_natCast]
    exact k σ rfl (fun _ _ => rfl) (fun _ _ => rfl) (fun j j1 j2 => by omega) z4
  | q + 1, o, σ, ho, hF, hT, k => by
    intro z4
    refine v_M_build_30 d (r : Int) (dp : Int) (o : Int) z4 σ K hF hT ⟨fun c => absurd c (by omega), fun _ => ⟨by omega, ?_⟩⟩
    rw [show 7 * (r : Int) + (o : Int) = ((7 * r + o : Nat) : Int) by omega, Int.toNat_natCast, show (o : Int) + 1 = ((o + 1 : Nat) : Int) by omega]
    obtain ⟨W, eW⟩ : ∃ W, W = putI σ 77 (7 * r + o) (-1) := ⟨_, rfl⟩
    rw [← eW]
    have W2 : W.2 = σ.2 := by rw [eW]; rfl
    have Wo : ∀ x, x ≠ 77 → sI W x = sI σ x := fun x x1 => by rw [eW, put_ne x1]
    have W77 : ∀ j, sI W 77 j = if j = 7 * r + o then -1 else sI σ 77 j := fun j => by rw [eW, put_at]
    refine b_no d hr6 hdp q (o + 1) (by omega) (MF_I hF W2) (by rw [Wo 31 (by decide)]; exact hT) (fun s q1 q2 q3 q4 => ?_) z4
    rw [Wo 80 (by decide)]
    refine k s (q1.trans W2) (fun x x1 => by rw [q2 x x1, Wo x x1]) (fun j hj => by rw [q3 j (by omega), W77, if_neg (by omega)]) (fun j j1 j2 => ?_)
    by_cases e : j = o
    · rw [q3 _ (by omega), W77, if_pos (by omega)]
    · exact q4 j (by omega) j2
/-- one record -/
def bRC (σ s : am_S) (r dp m a U : Nat) (t : Nat → Nat) : Prop := s.2 = σ.2 ∧ (∀ x, x ≠ 74 → x ≠ 76 → x ≠ 77 → x ≠ 80 → sI s x = sI σ x) ∧ (∀ j, j ≠ r → sI s 74 j = sI σ 74 j ∧ sI s 76 j = sI σ 76 j) ∧ sI s 74 r = ((1 + sN' t U : Nat) : Int) ∧ sI s 76 r = sI σ 80 dp ∧ (∀ j, (j < 7 * r ∨ 7 * r + 7 ≤ j) → sI s 77 j = sI σ 77 j) ∧ (∀ u, u < U → sI s 77 (7 * r + (u + 3 - m)) = if t u = 0 then -1 else ((a + sN' t (u + 1) - 1 : Nat) : Int)) ∧ (∀ o, o < 7 → (∀ u, u < U → o ≠ u + 3 - m) → sI s 77 (7 * r + o) = -1) ∧ (∀ j, j ≠ dp → j ≠ dp + 1 → sI s 80 j = sI σ 80 j) ∧ sI s 80 (dp + 1) = -1 ∧ sI s 80 dp = r
theorem b_rec (d : Nat) {r dp m a U rc : Nat} {t : Nat → Nat} {σ : am_S} {K : am_S → Prop} (hF : MF σ) (hT : sI σ 31 26 = 0) (h60 : sI σ 31 60 = rc) (hrc : rc ≤ 6000) (hr : r < rc) (h72 : sI σ 72 r = dp) (hdp : dp ≤ 6) (hm : m ≤ 3) (hU : U ≤ m + 4) (ha : a + sN' t U ≤ r) (hS : sN' t U ≤ 6000) (hC : hCN σ t a m U (sI σ 80 (dp + 1))) (k : ∀ s, bRC σ s r dp m a U t → bR d 14 ((r + 1 : Nat) : Int) s K) : bR d 14 (r : Int) σ K := by
  intro z2 z3 z4
  refine v_M_build_14 d (r : Int) z2 z3 z4 σ K hF hT ⟨fun c => absurd c (by omega), fun _ => ⟨by omega, ?_⟩⟩
  rw [Int.toNat_natCast, h72]
  obtain ⟨A, eA⟩ : ∃ A, A = putI σ 74 r 1 := ⟨_, rfl⟩
  rw [← eA]
  have A2 : A.2 = σ.2 := by rw [eA]; rfl
  have Ao : ∀ x, x ≠ 74 → sI A x = sI σ x := fun x x1 => by rw [eA, put_ne x1]
  have A74 : ∀ j, sI A 74 j = if j = r then 1 else sI σ 74 j := fun j => by rw [eA, put_at]
  refine b_no d (by omega) hdp 7 0 (by omega) (MF_I hF A2) (by rw [Ao 31 (by decide)]; exact hT) (fun B q1 q2 q3 q4 => ?_) z4
  have Bo : ∀ x, x ≠ 74 → x ≠ 77 → sI B x = sI σ x := fun x x1 x2 => by rw [q2 x x2, Ao x x1]
  have B74 : ∀ j, sI B 74 j = if j = r then 1 else sI σ 74 j := fun j => by rw [q2 74 (by decide), A74]
  have B2 : B.2 = σ.2 := q1.trans A2
  have b74 : sI B 74 r = 1 := by rw [B74, if_pos rfl]
  rw [Ao 80 (by decide)]
  refine b_ch d (by omega) hdp hm U (MF_I hF B2) (by rw [Bo 31 (by decide) (by decide)]; exact hT) hU ha (by rw [b74]; omega) hS (hCN_fr U _ (fun j hj => ⟨by rw [Bo 73 (by decide) (by decide)], by rw [B74, if_neg (by omega)], by rw [Bo 76 (by decide) (by decide)]⟩) hC) (fun C v p1 p2 p3 p4 p5 p6 p7 => ?_)
  intro z4
  have C2 : C.2 = σ.2 := p2.trans B2
  have Co : ∀ x, x ≠ 74 → x ≠ 77 → sI C x = sI σ x := fun x x1 x2 => by rw [p3 x x1 x2, Bo x x1 x2]
  refine v_M_build_51 d (r : Int) (dp : Int) v z4 C K (MF_I hF C2) (by rw [Co 31 (by decide) (by decide)]; exact hT) ⟨fun _ => ⟨by omega, ?_⟩, fun c => absurd p1 c⟩
  rw [show (dp : Int) + 1 = ((dp + 1 : Nat) : Int) by omega, Int.toNat_natCast, Int.toNat_natCast, Int.toNat_natCast, show (r : Int) + 1 = ((r + 1 : Nat) : Int) by omega]
  obtain ⟨D, eD⟩ : ∃ D, D = putI (putI (putI C 80 (dp + 1) (-1)) 76 r (sI (putI C 80 (dp + 1) (-1)) 80 dp)) 80 dp (r : Int) := ⟨_, rfl⟩
  rw [← eD]
  have Do : ∀ x, x ≠ 76 → x ≠ 80 → sI D x = sI C x := fun x x1 x2 => by rw [eD, put_ne x2, put_ne x1, put_ne x2]
  have e80 : sI (putI C 80 (dp + 1) (-1)) 80 dp = sI σ 80 dp := by rw [put_at, if_neg (by omega), Co 80 (by decide) (by decide)]
  have D80 : ∀ j, sI D 80 j = if j = dp then (r : Int) else if j = dp + 1 then -1 else sI σ 80 j := fun j => by rw [eD, put_at, put_ne (by decide), put_at, Co 80 (by decide) (by decide)]
  have D76 : ∀ j, sI D 76 j = if j = r then sI σ 80 dp else sI σ 76 j := fun j => by rw [eD, put_ne (by decide), put_at, e80, put_ne (by decide), Co 76 (by decide) (by decide)]
  have D77 : sI D 77 = sI C 77 := Do 77 (by decide) (by decide)
  refine k D ⟨by rw [eD]; exact C2, fun x x1 x2 x3 x4 => by rw [Do x x2 x4, Co x x1 x3], fun j hj => ⟨by rw [Do 74 (by decide) (by decide), p4 j hj, B74, if_neg hj], by rw [D76, if_neg hj]⟩, by rw [Do 74 (by decide) (by decide), p5, b74]; omega, by rw [D76, if_pos rfl], fun j hj => ?_, fun u hu => ?_, fun o ho hn => ?_, fun j j1 j2 => by rw [D80, if_neg j1, if_neg j2], by rw [D80, if_neg (by omega), if_pos rfl], by rw [D80, if_pos rfl]⟩ _ _ _
  · rw [D77, p6 j (fun u hu _ => by omega), q3 j (by omega), Ao 77 (by decide)]
  · rw [D77]
    by_cases e : t u = 0
    · rw [if_pos e, p6 _ (fun u' hu' ht => by have : u' ≠ u := (fun q => ht (by rw [q]; exact e)); omega)]
      exact q4 _ (by omega) (by omega)
    · rw [if_neg e]
      exact p7 u hu e
  · rw [D77, p6 _ (fun u hu _ => by have := hn u hu; omega)]
    exact q4 o (by omega) ho
