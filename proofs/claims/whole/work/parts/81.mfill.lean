/-! the reference: fill, lessens -/
theorem v_M_fill_0 (d : Nat) (p1 p2 p3 : Int) (σ : am_S) (K : am_S → Prop) (hF : MF σ) (h :
  (0 ≤ p1 ∧ p1 < 14) ∧
  am_Runs PP MLL d m_M_fill 12 [some (qr (31, 12, 89)), some (qi p1), some (qi p2), some (qi p3), some (qi (sI σ 59 (Int.toNat p1))), some (qi (sI σ 59 (Int.toNat p1))), some (qi 0), none, none] [] σ (kV K)) : am_Runs PP MLL d m_M_fill 0 [some (qr (31, 12, 89)), some (qi p1), some (qi p2), some (qi p3), none, none, none, none, none] [] σ (kV K) := am_wEC_ok (orc [(1, 59, 20, 14), (6, 59, 20, 14)]) [73, 93] 200 (⟨⟨rfl, (hF 49)⟩, ⟨⟨rfl, h.1.1, h.1.2⟩, ⟨⟨rfl, (hF 49)⟩, ⟨⟨rfl, h.1.1, h.1.2⟩, h.2⟩⟩⟩⟩)

theorem v_M_fill_12 (d : Nat) (p1 p2 p3 v4 v5 v6 : Int) (z7 z8 : Option am_V) (σ : am_S) (K : am_S → Prop) (hF : MF σ) (h :
  ((p2 ≤ v6 →
    am_Runs PP MLL d m_M_fill 41 [some (qr (31, 12, 89)), some (qi p1), some (qi p2), some (qi p3), some (qi v4), some (qi v5), some (qi p2), z7, z8] [] σ (kV K)) ∧
  (¬ (p2 ≤ v6) →
    (-2147483648 ≤ 12 * p1 ∧ 12 * p1 < 2147483648 ∧ -2147483648 ≤ (12 * p1) + v6 ∧ (12 * p1) + v6 < 2147483648 ∧ 0 ≤ ((12 * p1) + v6) ∧ ((12 * p1) + v6) < 168 ∧ -2147483648 ≤ v4 - (sI σ 64 (Int.toNat ((12 * p1) + v6))) ∧ v4 - (sI σ 64 (Int.toNat ((12 * p1) + v6))) < 2147483648 ∧ -2147483648 ≤ v5 - (sI σ 65 (Int.toNat ((12 * p1) + v6))) ∧ v5 - (sI σ 65 (Int.toNat ((12 * p1) + v6))) < 2147483648 ∧ -2147483648 ≤ v6 + 1 ∧ v6 + 1 < 2147483648) ∧
    am_Runs PP MLL d m_M_fill 12 [some (qr (31, 12, 89)), some (qi p1), some (qi p2), some (qi p3), some (qi (v4 - (sI σ 64 (Int.toNat ((12 * p1) + v6))))), some (qi (v5 - (sI σ 65 (Int.toNat ((12 * p1) + v6))))), some (qi (v6 + 1)), z7, z8] [] σ (kV K)))) : am_Runs PP MLL d m_M_fill 12 [some (qr (31, 12, 89)), some (qi p1), some (qi p2), some (qi p3), some (qi v4), some (qi v5), some (qi v6), z7, z8] [] σ (kV K) := am_wEC_ok (orc [(17, 64, 20, 168), (28, 65, 20, 168)]) [73, 93] 200 (⟨fun c2 => (h.1 c2), fun c2 => ⟨⟨rfl, (hF 54)⟩, ⟨⟨(h.2 c2).1.1, (h.2 c2).1.2.1⟩, ⟨⟨(h.2 c2).1.2.2.1, (h.2 c2).1.2.2.2.1⟩, ⟨⟨rfl, (h.2 c2).1.2.2.2.2.1, (h.2 c2).1.2.2.2.2.2.1⟩, ⟨⟨(h.2 c2).1.2.2.2.2.2.2.1, (h.2 c2).1.2.2.2.2.2.2.2.1⟩, ⟨⟨rfl, (hF 55)⟩, ⟨⟨(h.2 c2).1.1, (h.2 c2).1.2.1⟩, ⟨⟨(h.2 c2).1.2.2.1, (h.2 c2).1.2.2.2.1⟩, ⟨⟨rfl, (h.2 c2).1.2.2.2.2.1, (h.2 c2).1.2.2.2.2.2.1⟩, ⟨⟨(h.2 c2).1.2.2.2.2.2.2.2.2.1, (h.2 c2).1.2.2.2.2.2.2.2.2.2.1⟩, ⟨⟨(h.2 c2).1.2.2.2.2.2.2.2.2.2.2.1, (h.2 c2).1.2.2.2.2.2.2.2.2.2.2.2⟩, (h.2 c2).2⟩⟩⟩⟩⟩⟩⟩⟩⟩⟩⟩⟩)

theorem v_M_fill_41 (d : Nat) (p1 p2 p3 v4 v5 v6 : Int) (z7 z8 : Option am_V) (σ : am_S) (K : am_S → Prop) (hF : MF σ) (h :
  (0 ≤ p1 ∧ p1 < 14) ∧
  (((sI σ 61 (Int.toNat p1)) ≤ v6 →
    K σ) ∧
  (¬ ((sI σ 61 (Int.toNat p1)) ≤ v6) →
    (-2147483648 ≤ 12 * p1 ∧ 12 * p1 < 2147483648 ∧ -2147483648 ≤ (12 * p1) + v6 ∧ (12 * p1) + v6 < 2147483648) ∧
    ((p3 = 0 →
      (0 ≤ ((12 * p1) + v6) ∧ ((12 * p1) + v6) < 168) ∧
      (-2147483648 ≤ (sI σ 63 (Int.toNat ((12 * p1) + v6))) - (sI (putI σ 64 (Int.toNat ((12 * p1) + v6)) (if (sI σ 63 (Int.toNat ((12 * p1) + v6))) ≤ v4 then (sI σ 63 (Int.toNat ((12 * p1) + v6)) : Int) else v4)) 64 (Int.toNat ((12 * p1) + v6))) ∧ (sI σ 63 (Int.toNat ((12 * p1) + v6))) - (sI (putI σ 64 (Int.toNat ((12 * p1) + v6)) (if (sI σ 63 (Int.toNat ((12 * p1) + v6))) ≤ v4 then (sI σ 63 (Int.toNat ((12 * p1) + v6)) : Int) else v4)) 64 (Int.toNat ((12 * p1) + v6))) < 2147483648) ∧
      (-2147483648 ≤ v4 - (sI (putI σ 64 (Int.toNat ((12 * p1) + v6)) (if (sI σ 63 (Int.toNat ((12 * p1) + v6))) ≤ v4 then (sI σ 63 (Int.toNat ((12 * p1) + v6)) : Int) else v4)) 64 (Int.toNat ((12 * p1) + v6))) ∧ v4 - (sI (putI σ 64 (Int.toNat ((12 * p1) + v6)) (if (sI σ 63 (Int.toNat ((12 * p1) + v6))) ≤ v4 then (sI σ 63 (Int.toNat ((12 * p1) + v6)) : Int) else v4)) 64 (Int.toNat ((12 * p1) + v6))) < 2147483648 ∧ -2147483648 ≤ v5 - (sI (putI (putI σ 64 (Int.toNat ((12 * p1) + v6)) (if (sI σ 63 (Int.toNat ((12 * p1) + v6))) ≤ v4 then (sI σ 63 (Int.toNat ((12 * p1) + v6)) : Int) else v4)) 65 (Int.toNat ((12 * p1) + v6)) (if ((sI σ 63 (Int.toNat ((12 * p1) + v6))) - (sI (putI σ 64 (Int.toNat ((12 * p1) + v6)) (if (sI σ 63 (Int.toNat ((12 * p1) + v6))) ≤ v4 then (sI σ 63 (Int.toNat ((12 * p1) + v6)) : Int) else v4)) 64 (Int.toNat ((12 * p1) + v6)))) ≤ v5 then ((sI σ 63 (Int.toNat ((12 * p1) + v6))) - (sI (putI σ 64 (Int.toNat ((12 * p1) + v6)) (if (sI σ 63 (Int.toNat ((12 * p1) + v6))) ≤ v4 then (sI σ 63 (Int.toNat ((12 * p1) + v6)) : Int) else v4)) 64 (Int.toNat ((12 * p1) + v6))) : Int) else v5)) 65 (Int.toNat ((12 * p1) + v6))) ∧ v5 - (sI (putI (putI σ 64 (Int.toNat ((12 * p1) + v6)) (if (sI σ 63 (Int.toNat ((12 * p1) + v6))) ≤ v4 then (sI σ 63 (Int.toNat ((12 * p1) + v6)) : Int) else v4)) 65 (Int.toNat ((12 * p1) + v6)) (if ((sI σ 63 (Int.toNat ((12 * p1) + v6))) - (sI (putI σ 64 (Int.toNat ((12 * p1) + v6)) (if (sI σ 63 (Int.toNat ((12 * p1) + v6))) ≤ v4 then (sI σ 63 (Int.toNat ((12 * p1) + v6)) : Int) else v4)) 64 (Int.toNat ((12 * p1) + v6)))) ≤ v5 then ((sI σ 63 (Int.toNat ((12 * p1) + v6))) - (sI (putI σ 64 (Int.toNat ((12 * p1) + v6)) (if (sI σ 63 (Int.toNat ((12 * p1) + v6))) ≤ v4 then (sI σ 63 (Int.toNat ((12 * p1) + v6)) : Int) else v4)) 64 (Int.toNat ((12 * p1) + v6))) : Int) else v5)) 65 (Int.toNat ((12 * p1) + v6))) < 2147483648 ∧ -2147483648 ≤ v6 + 1 ∧ v6 + 1 < 2147483648) ∧
      am_Runs PP MLL d m_M_fill 41 [some (qr (31, 12, 89)), some (qi p1), some (qi p2), some (qi p3), some (qi (v4 - (sI (putI σ 64 (Int.toNat ((12 * p1) + v6)) (if (sI σ 63 (Int.toNat ((12 * p1) + v6))) ≤ v4 then (sI σ 63 (Int.toNat ((12 * p1) + v6)) : Int) else v4)) 64 (Int.toNat ((12 * p1) + v6))))), some (qi (v5 - (sI (putI (putI σ 64 (Int.toNat ((12 * p1) + v6)) (if (sI σ 63 (Int.toNat ((12 * p1) + v6))) ≤ v4 then (sI σ 63 (Int.toNat ((12 * p1) + v6)) : Int) else v4)) 65 (Int.toNat ((12 * p1) + v6)) (if ((sI σ 63 (Int.toNat ((12 * p1) + v6))) - (sI (putI σ 64 (Int.toNat ((12 * p1) + v6)) (if (sI σ 63 (Int.toNat ((12 * p1) + v6))) ≤ v4 then (sI σ 63 (Int.toNat ((12 * p1) + v6)) : Int) else v4)) 64 (Int.toNat ((12 * p1) + v6)))) ≤ v5 then ((sI σ 63 (Int.toNat ((12 * p1) + v6))) - (sI (putI σ 64 (Int.toNat ((12 * p1) + v6)) (if (sI σ 63 (Int.toNat ((12 * p1) + v6))) ≤ v4 then (sI σ 63 (Int.toNat ((12 * p1) + v6)) : Int) else v4)) 64 (Int.toNat ((12 * p1) + v6))) : Int) else v5)) 65 (Int.toNat ((12 * p1) + v6))))), some (qi (v6 + 1)), some (qi ((12 * p1) + v6)), some (qi ((sI σ 63 (Int.toNat ((12 * p1) + v6))) - (sI (putI σ 64 (Int.toNat ((12 * p1) + v6)) (if (sI σ 63 (Int.toNat ((12 * p1) + v6))) ≤ v4 then (sI σ 63 (Int.toNat ((12 * p1) + v6)) : Int) else v4)) 64 (Int.toNat ((12 * p1) + v6)))))] [] (putI (putI σ 64 (Int.toNat ((12 * p1) + v6)) (if (sI σ 63 (Int.toNat ((12 * p1) + v6))) ≤ v4 then (sI σ 63 (Int.toNat ((12 * p1) + v6)) : Int) else v4)) 65 (Int.toNat ((12 * p1) + v6)) (if ((sI σ 63 (Int.toNat ((12 * p1) + v6))) - (sI (putI σ 64 (Int.toNat ((12 * p1) + v6)) (if (sI σ 63 (Int.toNat ((12 * p1) + v6))) ≤ v4 then (sI σ 63 (Int.toNat ((12 * p1) + v6)) : Int) else v4)) 64 (Int.toNat ((12 * p1) + v6)))) ≤ v5 then ((sI σ 63 (Int.toNat ((12 * p1) + v6))) - (sI (putI σ 64 (Int.toNat ((12 * p1) + v6)) (if (sI σ 63 (Int.toNat ((12 * p1) + v6))) ≤ v4 then (sI σ 63 (Int.toNat ((12 * p1) + v6)) : Int) else v4)) 64 (Int.toNat ((12 * p1) + v6))) : Int) else v5)) (kV K)) ∧
    (¬ (p3 = 0) →
      ((v6 ≤ p2 →
        (0 ≤ ((12 * p1) + v6) ∧ ((12 * p1) + v6) < 168 ∧ -2147483648 ≤ (sI σ 63 (Int.toNat ((12 * p1) + v6))) - (sI σ 64 (Int.toNat ((12 * p1) + v6))) ∧ (sI σ 63 (Int.toNat ((12 * p1) + v6))) - (sI σ 64 (Int.toNat ((12 * p1) + v6))) < 2147483648) ∧
        (-2147483648 ≤ v4 - (sI σ 64 (Int.toNat ((12 * p1) + v6))) ∧ v4 - (sI σ 64 (Int.toNat ((12 * p1) + v6))) < 2147483648 ∧ -2147483648 ≤ v5 - (sI (putI σ 65 (Int.toNat ((12 * p1) + v6)) (if ((sI σ 63 (Int.toNat ((12 * p1) + v6))) - (sI σ 64 (Int.toNat ((12 * p1) + v6)))) ≤ v5 then ((sI σ 63 (Int.toNat ((12 * p1) + v6))) - (sI σ 64 (Int.toNat ((12 * p1) + v6))) : Int) else v5)) 65 (Int.toNat ((12 * p1) + v6))) ∧ v5 - (sI (putI σ 65 (Int.toNat ((12 * p1) + v6)) (if ((sI σ 63 (Int.toNat ((12 * p1) + v6))) - (sI σ 64 (Int.toNat ((12 * p1) + v6)))) ≤ v5 then ((sI σ 63 (Int.toNat ((12 * p1) + v6))) - (sI σ 64 (Int.toNat ((12 * p1) + v6))) : Int) else v5)) 65 (Int.toNat ((12 * p1) + v6))) < 2147483648 ∧ -2147483648 ≤ v6 + 1 ∧ v6 + 1 < 2147483648) ∧
        am_Runs PP MLL d m_M_fill 41 [some (qr (31, 12, 89)), some (qi p1), some (qi p2), some (qi p3), some (qi (v4 - (sI σ 64 (Int.toNat ((12 * p1) + v6))))), some (qi (v5 - (sI (putI σ 65 (Int.toNat ((12 * p1) + v6)) (if ((sI σ 63 (Int.toNat ((12 * p1) + v6))) - (sI σ 64 (Int.toNat ((12 * p1) + v6)))) ≤ v5 then ((sI σ 63 (Int.toNat ((12 * p1) + v6))) - (sI σ 64 (Int.toNat ((12 * p1) + v6))) : Int) else v5)) 65 (Int.toNat ((12 * p1) + v6))))), some (qi (v6 + 1)), some (qi ((12 * p1) + v6)), some (qi ((sI σ 63 (Int.toNat ((12 * p1) + v6))) - (sI σ 64 (Int.toNat ((12 * p1) + v6)))))] [] (putI σ 65 (Int.toNat ((12 * p1) + v6)) (if ((sI σ 63 (Int.toNat ((12 * p1) + v6))) - (sI σ 64 (Int.toNat ((12 * p1) + v6)))) ≤ v5 then ((sI σ 63 (Int.toNat ((12 * p1) + v6))) - (sI σ 64 (Int.toNat ((12 * p1) + v6))) : Int) else v5)) (kV K)) ∧
      (¬ (v6 ≤ p2) →
        (0 ≤ ((12 * p1) + v6) ∧ ((12 * p1) + v6) < 168) ∧
        (-2147483648 ≤ (sI σ 63 (Int.toNat ((12 * p1) + v6))) - (sI (putI σ 64 (Int.toNat ((12 * p1) + v6)) (if (sI σ 63 (Int.toNat ((12 * p1) + v6))) ≤ v4 then (sI σ 63 (Int.toNat ((12 * p1) + v6)) : Int) else v4)) 64 (Int.toNat ((12 * p1) + v6))) ∧ (sI σ 63 (Int.toNat ((12 * p1) + v6))) - (sI (putI σ 64 (Int.toNat ((12 * p1) + v6)) (if (sI σ 63 (Int.toNat ((12 * p1) + v6))) ≤ v4 then (sI σ 63 (Int.toNat ((12 * p1) + v6)) : Int) else v4)) 64 (Int.toNat ((12 * p1) + v6))) < 2147483648) ∧
        (-2147483648 ≤ v4 - (sI (putI σ 64 (Int.toNat ((12 * p1) + v6)) (if (sI σ 63 (Int.toNat ((12 * p1) + v6))) ≤ v4 then (sI σ 63 (Int.toNat ((12 * p1) + v6)) : Int) else v4)) 64 (Int.toNat ((12 * p1) + v6))) ∧ v4 - (sI (putI σ 64 (Int.toNat ((12 * p1) + v6)) (if (sI σ 63 (Int.toNat ((12 * p1) + v6))) ≤ v4 then (sI σ 63 (Int.toNat ((12 * p1) + v6)) : Int) else v4)) 64 (Int.toNat ((12 * p1) + v6))) < 2147483648 ∧ -2147483648 ≤ v5 - (sI (putI (putI σ 64 (Int.toNat ((12 * p1) + v6)) (if (sI σ 63 (Int.toNat ((12 * p1) + v6))) ≤ v4 then (sI σ 63 (Int.toNat ((12 * p1) + v6)) : Int) else v4)) 65 (Int.toNat ((12 * p1) + v6)) (if ((sI σ 63 (Int.toNat ((12 * p1) + v6))) - (sI (putI σ 64 (Int.toNat ((12 * p1) + v6)) (if (sI σ 63 (Int.toNat ((12 * p1) + v6))) ≤ v4 then (sI σ 63 (Int.toNat ((12 * p1) + v6)) : Int) else v4)) 64 (Int.toNat ((12 * p1) + v6)))) ≤ v5 then ((sI σ 63 (Int.toNat ((12 * p1) + v6))) - (sI (putI σ 64 (Int.toNat ((12 * p1) + v6)) (if (sI σ 63 (Int.toNat ((12 * p1) + v6))) ≤ v4 then (sI σ 63 (Int.toNat ((12 * p1) + v6)) : Int) else v4)) 64 (Int.toNat ((12 * p1) + v6))) : Int) else v5)) 65 (Int.toNat ((12 * p1) + v6))) ∧ v5 - (sI (putI (putI σ 64 (Int.toNat ((12 * p1) + v6)) (if (sI σ 63 (Int.toNat ((12 * p1) + v6))) ≤ v4 then (sI σ 63 (Int.toNat ((12 * p1) + v6)) : Int) else v4)) 65 (Int.toNat ((12 * p1) + v6)) (if ((sI σ 63 (Int.toNat ((12 * p1) + v6))) - (sI (putI σ 64 (Int.toNat ((12 * p1) + v6)) (if (sI σ 63 (Int.toNat ((12 * p1) + v6))) ≤ v4 then (sI σ 63 (Int.toNat ((12 * p1) + v6)) : Int) else v4)) 64 (Int.toNat ((12 * p1) + v6)))) ≤ v5 then ((sI σ 63 (Int.toNat ((12 * p1) + v6))) - (sI (putI σ 64 (Int.toNat ((12 * p1) + v6)) (if (sI σ 63 (Int.toNat ((12 * p1) + v6))) ≤ v4 then (sI σ 63 (Int.toNat ((12 * p1) + v6)) : Int) else v4)) 64 (Int.toNat ((12 * p1) + v6))) : Int) else v5)) 65 (Int.toNat ((12 * p1) + v6))) < 2147483648 ∧ -2147483648 ≤ v6 + 1 ∧ v6 + 1 < 2147483648) ∧
        am_Runs PP MLL d m_M_fill 41 [some (qr (31, 12, 89)), some (qi p1), some (qi p2), some (qi p3), some (qi (v4 - (sI (putI σ 64 (Int.toNat ((12 * p1) + v6)) (if (sI σ 63 (Int.toNat ((12 * p1) + v6))) ≤ v4 then (sI σ 63 (Int.toNat ((12 * p1) + v6)) : Int) else v4)) 64 (Int.toNat ((12 * p1) + v6))))), some (qi (v5 - (sI (putI (putI σ 64 (Int.toNat ((12 * p1) + v6)) (if (sI σ 63 (Int.toNat ((12 * p1) + v6))) ≤ v4 then (sI σ 63 (Int.toNat ((12 * p1) + v6)) : Int) else v4)) 65 (Int.toNat ((12 * p1) + v6)) (if ((sI σ 63 (Int.toNat ((12 * p1) + v6))) - (sI (putI σ 64 (Int.toNat ((12 * p1) + v6)) (if (sI σ 63 (Int.toNat ((12 * p1) + v6))) ≤ v4 then (sI σ 63 (Int.toNat ((12 * p1) + v6)) : Int) else v4)) 64 (Int.toNat ((12 * p1) + v6)))) ≤ v5 then ((sI σ 63 (Int.toNat ((12 * p1) + v6))) - (sI (putI σ 64 (Int.toNat ((12 * p1) + v6)) (if (sI σ 63 (Int.toNat ((12 * p1) + v6))) ≤ v4 then (sI σ 63 (Int.toNat ((12 * p1) + v6)) : Int) else v4)) 64 (Int.toNat ((12 * p1) + v6))) : Int) else v5)) 65 (Int.toNat ((12 * p1) + v6))))), some (qi (v6 + 1)), some (qi ((12 * p1) + v6)), some (qi ((sI σ 63 (Int.toNat ((12 * p1) + v6))) - (sI (putI σ 64 (Int.toNat ((12 * p1) + v6)) (if (sI σ 63 (Int.toNat ((12 * p1) + v6))) ≤ v4 then (sI σ 63 (Int.toNat ((12 * p1) + v6)) : Int) else v4)) 64 (Int.toNat ((12 * p1) + v6)))))] [] (putI (putI σ 64 (Int.toNat ((12 * p1) + v6)) (if (sI σ 63 (Int.toNat ((12 * p1) + v6))) ≤ v4 then (sI σ 63 (Int.toNat ((12 * p1) + v6)) : Int) else v4)) 65 (Int.toNat ((12 * p1) + v6)) (if ((sI σ 63 (Int.toNat ((12 * p1) + v6))) - (sI (putI σ 64 (Int.toNat ((12 * p1) + v6)) (if (sI σ 63 (Int.toNat ((12 * p1) + v6))) ≤ v4 then (sI σ 63 (Int.toNat ((12 * p1) + v6)) : Int) else v4)) 64 (Int.toNat ((12 * p1) + v6)))) ≤ v5 then ((sI σ 63 (Int.toNat ((12 * p1) + v6))) - (sI (putI σ 64 (Int.toNat ((12 * p1) + v6)) (if (sI σ 63 (Int.toNat ((12 * p1) + v6))) ≤ v4 then (sI σ 63 (Int.toNat ((12 * p1) + v6)) : Int) else v4)) 64 (Int.toNat ((12 * p1) + v6))) : Int) else v5)) (kV K)))))))) : am_Runs PP MLL d m_M_fill 41 [some (qr (31, 12, 89)), some (qi p1), some (qi p2), some (qi p3), some (qi v4), some (qi v5), some (qi v6), z7, z8] [] σ (kV K) := am_wEC_ok (orc [(43, 61, 20, 14), (59, 64, 20, 168), (63, 63, 20, 168), (70, 63, 20, 168), (75, 63, 20, 168), (79, 64, 20, 168), (85, 65, 20, 168)]) [73, 93] 200 (⟨⟨rfl, (hF 51)⟩, ⟨⟨rfl, h.1.1, h.1.2⟩, ⟨fun c4 => (h.2.1 c4), fun c4 => ⟨⟨(h.2.2 c4).1.1, (h.2.2 c4).1.2.1⟩, ⟨⟨(h.2.2 c4).1.2.2.1, (h.2.2 c4).1.2.2.2⟩, ⟨fun c7 => ⟨⟨rfl, (hF 54)⟩, ⟨⟨rfl, (hF 53)⟩, ⟨⟨rfl, ((h.2.2 c4).2.1 c7).1.1, ((h.2.2 c4).2.1 c7).1.2⟩, am_use (fun H11 => ⟨fun c8 => ⟨⟨rfl, (hF 53)⟩, ⟨⟨rfl, ((h.2.2 c4).2.1 c7).1.1, ((h.2.2 c4).2.1 c7).1.2⟩, (Eq.mp (congrArg (fun z => am_Runs _ _ _ _ _ _ (qi z :: _) _ _) (if_pos c8 : (if (sI σ 63 (Int.toNat ((12 * p1) + v6))) ≤ v4 then (sI σ 63 (Int.toNat ((12 * p1) + v6)) : Int) else v4) = sI σ 63 (Int.toNat ((12 * p1) + v6)))) H11)⟩⟩, fun c8 => (Eq.mp (congrArg (fun z => am_Runs _ _ _ _ _ _ (qi z :: _) _ _) (if_neg c8 : (if (sI σ 63 (Int.toNat ((12 * p1) + v6))) ≤ v4 then (sI σ 63 (Int.toNat ((12 * p1) + v6)) : Int) else v4) = v4)) H11)⟩) (am_wEC_ok (orc [(75, 63, 20, 168), (79, 64, 20, 168), (85, 65, 20, 168)]) [73, 93] 200 (⟨⟨rfl, ((h.2.2 c4).2.1 c7).1.1, ((h.2.2 c4).2.1 c7).1.2⟩, ⟨⟨rfl, (hF 53)⟩, ⟨⟨rfl, ((h.2.2 c4).2.1 c7).1.1, ((h.2.2 c4).2.1 c7).1.2⟩, ⟨⟨rfl, (hF 54)⟩, ⟨⟨rfl, ((h.2.2 c4).2.1 c7).1.1, ((h.2.2 c4).2.1 c7).1.2⟩, ⟨⟨((h.2.2 c4).2.1 c7).2.1.1, ((h.2.2 c4).2.1 c7).2.1.2⟩, ⟨⟨rfl, (hF 55)⟩, am_use (fun H10 => ⟨fun c9 => (Eq.mp (congrArg (fun z => am_Runs _ _ _ _ _ _ (qi z :: _) _ _) (if_pos c9 : (if ((sI σ 63 (Int.toNat ((12 * p1) + v6))) - (sI (putI σ 64 (Int.toNat ((12 * p1) + v6)) (if (sI σ 63 (Int.toNat ((12 * p1) + v6))) ≤ v4 then (sI σ 63 (Int.toNat ((12 * p1) + v6)) : Int) else v4)) 64 (Int.toNat ((12 * p1) + v6)))) ≤ v5 then ((sI σ 63 (Int.toNat ((12 * p1) + v6))) - (sI (putI σ 64 (Int.toNat ((12 * p1) + v6)) (if (sI σ 63 (Int.toNat ((12 * p1) + v6))) ≤ v4 then (sI σ 63 (Int.toNat ((12 * p1) + v6)) : Int) else v4)) 64 (Int.toNat ((12 * p1) + v6))) : Int) else v5) = (sI σ 63 (Int.toNat ((12 * p1) + v6))) - (sI (putI σ 64 (Int.toNat ((12 * p1) + v6)) (if (sI σ 63 (Int.toNat ((12 * p1) + v6))) ≤ v4 then (sI σ 63 (Int.toNat ((12 * p1) + v6)) : Int) else v4)) 64 (Int.toNat ((12 * p1) + v6))))) H10), fun c9 => (Eq.mp (congrArg (fun z => am_Runs _ _ _ _ _ _ (qi z :: _) _ _) (if_neg c9 : (if ((sI σ 63 (Int.toNat ((12 * p1) + v6))) - (sI (putI σ 64 (Int.toNat ((12 * p1) + v6)) (if (sI σ 63 (Int.toNat ((12 * p1) + v6))) ≤ v4 then (sI σ 63 (Int.toNat ((12 * p1) + v6)) : Int) else v4)) 64 (Int.toNat ((12 * p1) + v6)))) ≤ v5 then ((sI σ 63 (Int.toNat ((12 * p1) + v6))) - (sI (putI σ 64 (Int.toNat ((12 * p1) + v6)) (if (sI σ 63 (Int.toNat ((12 * p1) + v6))) ≤ v4 then (sI σ 63 (Int.toNat ((12 * p1) + v6)) : Int) else v4)) 64 (Int.toNat ((12 * p1) + v6))) : Int) else v5) = v5)) H10)⟩) (am_wEC_ok (orc [(96, 64, 20, 168), (103, 65, 20, 168)]) [73, 93] 200 (⟨⟨rfl, ((h.2.2 c4).2.1 c7).1.1, ((h.2.2 c4).2.1 c7).1.2⟩, ⟨⟨rfl, (hF 54)⟩, ⟨⟨rfl, ((h.2.2 c4).2.1 c7).1.1, ((h.2.2 c4).2.1 c7).1.2⟩, ⟨⟨((h.2.2 c4).2.1 c7).2.2.1.1, ((h.2.2 c4).2.1 c7).2.2.1.2.1⟩, ⟨⟨rfl, (hF 55)⟩, ⟨⟨rfl, ((h.2.2 c4).2.1 c7).1.1, ((h.2.2 c4).2.1 c7).1.2⟩, ⟨⟨((h.2.2 c4).2.1 c7).2.2.1.2.2.1, ((h.2.2 c4).2.1 c7).2.2.1.2.2.2.1⟩, ⟨⟨((h.2.2 c4).2.1 c7).2.2.1.2.2.2.2.1, ((h.2.2 c4).2.1 c7).2.2.1.2.2.2.2.2⟩, ((h.2.2 c4).2.1 c7).2.2.2⟩⟩⟩⟩⟩⟩⟩⟩))⟩⟩⟩⟩⟩⟩⟩))⟩⟩⟩, fun c7 => ⟨fun c14 => ⟨⟨rfl, (hF 53)⟩, ⟨⟨rfl, (((h.2.2 c4).2.2 c7).1 c14).1.1, (((h.2.2 c4).2.2 c7).1 c14).1.2.1⟩, ⟨⟨rfl, (hF 54)⟩, ⟨⟨rfl, (((h.2.2 c4).2.2 c7).1 c14).1.1, (((h.2.2 c4).2.2 c7).1 c14).1.2.1⟩, ⟨⟨(((h.2.2 c4).2.2 c7).1 c14).1.2.2.1, (((h.2.2 c4).2.2 c7).1 c14).1.2.2.2⟩, ⟨⟨rfl, (hF 55)⟩, am_use (fun H16 => ⟨fun c15 => (Eq.mp (congrArg (fun z => am_Runs _ _ _ _ _ _ (qi z :: _) _ _) (if_pos c15 : (if ((sI σ 63 (Int.toNat ((12 * p1) + v6))) - (sI σ 64 (Int.toNat ((12 * p1) + v6)))) ≤ v5 then ((sI σ 63 (Int.toNat ((12 * p1) + v6))) - (sI σ 64 (Int.toNat ((12 * p1) + v6))) : Int) else v5) = (sI σ 63 (Int.toNat ((12 * p1) + v6))) - (sI σ 64 (Int.toNat ((12 * p1) + v6))))) H16), fun c15 => (Eq.mp (congrArg (fun z => am_Runs _ _ _ _ _ _ (qi z :: _) _ _) (if_neg c15 : (if ((sI σ 63 (Int.toNat ((12 * p1) + v6))) - (sI σ 64 (Int.toNat ((12 * p1) + v6)))) ≤ v5 then ((sI σ 63 (Int.toNat ((12 * p1) + v6))) - (sI σ 64 (Int.toNat ((12 * p1) + v6))) : Int) else v5) = v5)) H16)⟩) (am_wEC_ok (orc [(96, 64, 20, 168), (103, 65, 20, 168)]) [73, 93] 200 (⟨⟨rfl, (((h.2.2 c4).2.2 c7).1 c14).1.1, (((h.2.2 c4).2.2 c7).1 c14).1.2.1⟩, ⟨⟨rfl, (hF 54)⟩, ⟨⟨rfl, (((h.2.2 c4).2.2 c7).1 c14).1.1, (((h.2.2 c4).2.2 c7).1 c14).1.2.1⟩, ⟨⟨(((h.2.2 c4).2.2 c7).1 c14).2.1.1, (((h.2.2 c4).2.2 c7).1 c14).2.1.2.1⟩, ⟨⟨rfl, (hF 55)⟩, ⟨⟨rfl, (((h.2.2 c4).2.2 c7).1 c14).1.1, (((h.2.2 c4).2.2 c7).1 c14).1.2.1⟩, ⟨⟨(((h.2.2 c4).2.2 c7).1 c14).2.1.2.2.1, (((h.2.2 c4).2.2 c7).1 c14).2.1.2.2.2.1⟩, ⟨⟨(((h.2.2 c4).2.2 c7).1 c14).2.1.2.2.2.2.1, (((h.2.2 c4).2.2 c7).1 c14).2.1.2.2.2.2.2⟩, (((h.2.2 c4).2.2 c7).1 c14).2.2⟩⟩⟩⟩⟩⟩⟩⟩))⟩⟩⟩⟩⟩⟩, fun c14 => ⟨⟨rfl, (hF 54)⟩, ⟨⟨rfl, (hF 53)⟩, ⟨⟨rfl, (((h.2.2 c4).2.2 c7).2 c14).1.1, (((h.2.2 c4).2.2 c7).2 c14).1.2⟩, am_use (fun H20 => ⟨fun c17 => ⟨⟨rfl, (hF 53)⟩, ⟨⟨rfl, (((h.2.2 c4).2.2 c7).2 c14).1.1, (((h.2.2 c4).2.2 c7).2 c14).1.2⟩, (Eq.mp (congrArg (fun z => am_Runs _ _ _ _ _ _ (qi z :: _) _ _) (if_pos c17 : (if (sI σ 63 (Int.toNat ((12 * p1) + v6))) ≤ v4 then (sI σ 63 (Int.toNat ((12 * p1) + v6)) : Int) else v4) = sI σ 63 (Int.toNat ((12 * p1) + v6)))) H20)⟩⟩, fun c17 => (Eq.mp (congrArg (fun z => am_Runs _ _ _ _ _ _ (qi z :: _) _ _) (if_neg c17 : (if (sI σ 63 (Int.toNat ((12 * p1) + v6))) ≤ v4 then (sI σ 63 (Int.toNat ((12 * p1) + v6)) : Int) else v4) = v4)) H20)⟩) (am_wEC_ok (orc [(75, 63, 20, 168), (79, 64, 20, 168), (85, 65, 20, 168)]) [73, 93] 200 (⟨⟨rfl, (((h.2.2 c4).2.2 c7).2 c14).1.1, (((h.2.2 c4).2.2 c7).2 c14).1.2⟩, ⟨⟨rfl, (hF 53)⟩, ⟨⟨rfl, (((h.2.2 c4).2.2 c7).2 c14).1.1, (((h.2.2 c4).2.2 c7).2 c14).1.2⟩, ⟨⟨rfl, (hF 54)⟩, ⟨⟨rfl, (((h.2.2 c4).2.2 c7).2 c14).1.1, (((h.2.2 c4).2.2 c7).2 c14).1.2⟩, ⟨⟨(((h.2.2 c4).2.2 c7).2 c14).2.1.1, (((h.2.2 c4).2.2 c7).2 c14).2.1.2⟩, ⟨⟨rfl, (hF 55)⟩, am_use (fun H19 => ⟨fun c18 => (Eq.mp (congrArg (fun z => am_Runs _ _ _ _ _ _ (qi z :: _) _ _) (if_pos c18 : (if ((sI σ 63 (Int.toNat ((12 * p1) + v6))) - (sI (putI σ 64 (Int.toNat ((12 * p1) + v6)) (if (sI σ 63 (Int.toNat ((12 * p1) + v6))) ≤ v4 then (sI σ 63 (Int.toNat ((12 * p1) + v6)) : Int) else v4)) 64 (Int.toNat ((12 * p1) + v6)))) ≤ v5 then ((sI σ 63 (Int.toNat ((12 * p1) + v6))) - (sI (putI σ 64 (Int.toNat ((12 * p1) + v6)) (if (sI σ 63 (Int.toNat ((12 * p1) + v6))) ≤ v4 then (sI σ 63 (Int.toNat ((12 * p1) + v6)) : Int) else v4)) 64 (Int.toNat ((12 * p1) + v6))) : Int) else v5) = (sI σ 63 (Int.toNat ((12 * p1) + v6))) - (sI (putI σ 64 (Int.toNat ((12 * p1) + v6)) (if (sI σ 63 (Int.toNat ((12 * p1) + v6))) ≤ v4 then (sI σ 63 (Int.toNat ((12 * p1) + v6)) : Int) else v4)) 64 (Int.toNat ((12 * p1) + v6))))) H19), fun c18 => (Eq.mp (congrArg (fun z => am_Runs _ _ _ _ _ _ (qi z :: _) _ _) (if_neg c18 : (if ((sI σ 63 (Int.toNat ((12 * p1) + v6))) - (sI (putI σ 64 (Int.toNat ((12 * p1) + v6)) (if (sI σ 63 (Int.toNat ((12 * p1) + v6))) ≤ v4 then (sI σ 63 (Int.toNat ((12 * p1) + v6)) : Int) else v4)) 64 (Int.toNat ((12 * p1) + v6)))) ≤ v5 then ((sI σ 63 (Int.toNat ((12 * p1) + v6))) - (sI (putI σ 64 (Int.toNat ((12 * p1) + v6)) (if (sI σ 63 (Int.toNat ((12 * p1) + v6))) ≤ v4 then (sI σ 63 (Int.toNat ((12 * p1) + v6)) : Int) else v4)) 64 (Int.toNat ((12 * p1) + v6))) : Int) else v5) = v5)) H19)⟩) (am_wEC_ok (orc [(96, 64, 20, 168), (103, 65, 20, 168)]) [73, 93] 200 (⟨⟨rfl, (((h.2.2 c4).2.2 c7).2 c14).1.1, (((h.2.2 c4).2.2 c7).2 c14).1.2⟩, ⟨⟨rfl, (hF 54)⟩, ⟨⟨rfl, (((h.2.2 c4).2.2 c7).2 c14).1.1, (((h.2.2 c4).2.2 c7).2 c14).1.2⟩, ⟨⟨(((h.2.2 c4).2.2 c7).2 c14).2.2.1.1, (((h.2.2 c4).2.2 c7).2 c14).2.2.1.2.1⟩, ⟨⟨rfl, (hF 55)⟩, ⟨⟨rfl, (((h.2.2 c4).2.2 c7).2 c14).1.1, (((h.2.2 c4).2.2 c7).2 c14).1.2⟩, ⟨⟨(((h.2.2 c4).2.2 c7).2 c14).2.2.1.2.2.1, (((h.2.2 c4).2.2 c7).2 c14).2.2.1.2.2.2.1⟩, ⟨⟨(((h.2.2 c4).2.2 c7).2 c14).2.2.1.2.2.2.2.1, (((h.2.2 c4).2.2 c7).2 c14).2.2.1.2.2.2.2.2⟩, (((h.2.2 c4).2.2 c7).2 c14).2.2.2⟩⟩⟩⟩⟩⟩⟩⟩))⟩⟩⟩⟩⟩⟩⟩))⟩⟩⟩⟩⟩⟩⟩⟩⟩⟩)

/-- a level's row -/
def VL (σ : am_S) (a lv : Nat) : Nat → Int := fun g => sI σ a (12 * lv + g)
theorem VL_put {σ : am_S} {a lv g : Nat} {v : Int} : VL (putI σ a (12 * lv + g) v) a lv = ud (VL σ a lv) g v := by
  funext j
  unfold VL ud
  rw [put_at]
  by_cases e : j = g
  · rw [if_pos (by omega), if_pos e]
  · rw [if_neg (by omega), if_neg e]
theorem VL_ne {σ : am_S} {a b lv i : Nat} {v : Int} (h : b ≠ a) : VL (putI σ a i v) b lv = VL σ b lv := by
  unfold VL
  rw [put_ne h]
/-- left and right numbers of a level have become F; all else is as it was -/
def FM (σ s : am_S) (lv : Nat) (F : (Nat → Int) × (Nat → Int)) : Prop := s.2 = σ.2 ∧ (∀ x, x ≠ 64 → x ≠ 65 → sI s x = sI σ x) ∧ VL s 64 lv = F.1 ∧ VL s 65 lv = F.2 ∧ ∀ j, j < 12 * lv → sI s 64 j = sI σ 64 j ∧ sI s 65 j = sI σ 65 j
theorem MF_2 {σ s : am_S} (h : s.2 = σ.2) (hF : MF σ) : MF s := by
  have e : sR s = sR σ := by
    funext a j
    exact R2' h a j
  unfold MF
  rw [e]
  exact hF
theorem sm_bd2 {f : Nat → Int} {B : Int} : ∀ n : Nat, (∀ i, i < n → 0 ≤ f i ∧ f i ≤ B) → 0 ≤ sm f n ∧ sm f n ≤ B * n := fun n h => sm_bd n h
theorem mi_if (a b : Int) : (if a ≤ b then (a : Int) else b) = mi a b := by
  unfold mi
  (repeat' split) <;> omega
/-- laying from g on, all or the right numbers alone at g -/
def flM (Z L R : Nat → Int) (g : Nat) (wl wr : Int) (alone : Int) (k : Nat) : (Nat → Int) × (Nat → Int) :=
  if alone = 0 then (fl Z L R g wl wr k).2.2 else (fl Z L (ud R g (mi (Z g - L g) wr)) (g + 1) (wl - L g) (wr - mi (Z g - L g) wr) (k - 1)).2.2
theorem c_M_fill (d : Nat) {lv g n : Nat} {alone wl wr : Int} {σ : am_S} {K : am_S → Prop} (hF : MF σ) (hlv : lv < 14) (hn : sI σ 61 lv = n) (hn2 : n ≤ 12) (hg : g ≤ n) (ha : alone = 0 ∨ (alone = 1 ∧ g < n)) (hz : ∀ j, j < n → 0 ≤ VL σ 63 lv j ∧ VL σ 63 lv j ≤ 12) (hL : ∀ j, j < n → 0 ≤ VL σ 64 lv j ∧ VL σ 64 lv j ≤ 12 ∧ 0 ≤ VL σ 65 lv j ∧ VL σ 65 lv j ≤ 12) (hp : 0 ≤ sI σ 59 lv ∧ sI σ 59 lv ≤ 12) (hwl : sI σ 59 lv - sm (VL σ 64 lv) g = wl) (hwr : sI σ 59 lv - sm (VL σ 65 lv) g = wr) (bl : 0 ≤ wl ∧ wl ≤ 100) (br : 0 ≤ wr ∧ wr ≤ 100) (b1 : alone = 1 → 0 ≤ wl - VL σ 64 lv g ∧ 0 ≤ VL σ 63 lv g - VL σ 64 lv g)
    (h : ∀ s, FM σ s lv (flM (VL σ 63 lv) (VL σ 64 lv) (VL σ 65 lv) g wl wr alone (n - g)) → K s) : am_Calls PP MLL (d + 1) m_M_fill [qr (31, 12, 89), qi (lv : Int), qi (g : Int), qi alone] σ (kV K) := by
  obtain ⟨Z, eZ⟩ : ∃ Z, Z = VL σ 63 lv := ⟨_, rfl⟩
  obtain ⟨L, eL⟩ : ∃ L, L = VL σ 64 lv := ⟨_, rfl⟩
  obtain ⟨R, eR⟩ : ∃ R, R = VL σ 65 lv := ⟨_, rfl⟩
  rw [← eZ, ← eL, ← eR] at h
  rw [← eZ] at hz
  rw [← eL, ← eR] at hL
  rw [← eL] at hwl
  rw [← eR] at hwr
  rw [← eZ, ← eL] at b1
  -- the laying loop
  have lay : ∀ (g0 : Nat) (L0 R0 : Nat → Int) (wl0 wr0 : Int), g0 ≤ n → (alone = 0 ∨ (g < g0)) → (0 ≤ wl0 ∧ wl0 ≤ 1000) → (0 ≤ wr0 ∧ wr0 ≤ 1000) → (∀ s, FM σ s lv (fl Z L0 R0 g0 wl0 wr0 (n - g0)).2.2 → K s) → ∀ k : Nat, k ≤ n - g0 → ∀ s z7 z8, FM σ s lv (fl Z L0 R0 g0 wl0 wr0 k).2.2 → am_Runs PP MLL d m_M_fill 41 [some (qr (31, 12, 89)), some (qi (lv : Int)), some (qi (g : Int)), some (qi alone), some (qi (fl Z L0 R0 g0 wl0 wr0 k).1), some (qi (fl Z L0 R0 g0 wl0 wr0 k).2.1), some (qi ((g0 + k : Nat) : Int)), z7, z8] [] s (kV K) := by
    intro g0 L0 R0 wl0 wr0 hg0 hal c1 c2 hend
    refine lp ?_ ?_
    · intro s z7 z8 hs
      refine v_M_fill_41 d lv g alone _ _ _ z7 z8 s K (MF_2 hs.1 hF) ⟨by omega, fun _ => hend s hs, fun c => absurd ?_ c⟩
      rw [Int.toNat_natCast, hs.2.1 61 (by decide) (by decide)]
      omega
    · intro k hk ih s z7 z8 hs
      have hb := fl_bd (sz := Z) (L := L0) (R := R0) (g := g0) c1 c2 k (fun j hj => (hz j (by omega)).1)
      have zk := hz (g0 + k) (by omega)
      obtain ⟨q, hq⟩ : ∃ q, q = fl Z L0 R0 g0 wl0 wr0 k := ⟨_, rfl⟩
      have es : fl Z L0 R0 g0 wl0 wr0 (k + 1) = flS Z (g0 + k) q := by rw [hq]; rfl
      rw [← hq] at hb hs ⊢
      rw [es] at ih
      obtain ⟨s1, s2, s3, s4, s5⟩ := hs
      have e12 : Int.toNat (12 * (lv : Int) + ((g0 + k : Nat) : Int)) = 12 * lv + (g0 + k) := by omega
      have e63 : sI s 63 (12 * lv + (g0 + k)) = Z (g0 + k) := by rw [s2 63 (by decide) (by decide), eZ]; rfl
      have pe : ∀ (T : am_S) (x i : Nat) (v : Int), sI (putI T x i v) x i = v := fun T x i v => by rw [put_at, if_pos rfl]
      have p4 : ∀ (T : am_S) (i : Nat) (v : Int), sI (putI T 65 i v) 64 = sI T 64 := fun T i v => put_ne (by decide)
      have a := mi_l (Z (g0 + k)) q.1
      have b := mi_l (Z (g0 + k) - mi (Z (g0 + k)) q.1) q.2.1
      -- the next store
      have nxt : FM σ (putI (putI s 64 (12 * lv + (g0 + k)) (mi (Z (g0 + k)) q.1)) 65 (12 * lv + (g0 + k)) (mi (Z (g0 + k) - mi (Z (g0 + k)) q.1) q.2.1)) lv (flS Z (g0 + k) q).2.2 := by
        refine ⟨s1, fun x x1 x2 => ?_, ?_, ?_, fun j hj => ?_⟩
        · rw [put_ne x2, put_ne x1, s2 x x1 x2]
        · rw [VL_ne (by decide), VL_put, s3]
          rfl
        · rw [VL_put, VL_ne (by decide), s4]
          rfl
        · rw [put_ne (show 64 ≠ 65 by decide), put_at, if_neg (by omega), put_at, if_neg (by omega), put_ne (show 65 ≠ 64 by decide)]
          exact s5 j hj
      have go : ∀ z7 z8, am_Runs PP MLL d m_M_fill 41 [some (qr (31, 12, 89)), some (qi (lv : Int)), some (qi (g : Int)), some (qi alone), some (qi (q.1 - mi (Z (g0 + k)) q.1)), some (qi (q.2.1 - mi (Z (g0 + k) - mi (Z (g0 + k)) q.1) q.2.1)), some (qi (((g0 + k : Nat) : Int) + 1)), z7, z8] [] (putI (putI s 64 (12 * lv + (g0 + k)) (mi (Z (g0 + k)) q.1)) 65 (12 * lv + (g0 + k)) (mi (Z (g0 + k) - mi (Z (g0 + k)) q.1) q.2.1)) (kV K) := fun z7 z8 => ih _ z7 z8 nxt
      refine v_M_fill_41 d lv g alone _ _ _ z7 z8 s K (MF_2 s1 hF) ⟨by omega, fun c => absurd c ?_, fun _ => ?_⟩
      · rw [Int.toNat_natCast, s2 61 (by decide) (by decide)]
        omega
      · simp only [e12, pe, p4, e63, mi_if]
        refine ⟨by omega, fun _ => ⟨by omega, by omega, by omega, go _ _⟩, fun c3 => ⟨fun c4 => ?_, fun c4 => ⟨by omega, by omega, by omega, go _ _⟩⟩⟩
        exfalso
        rcases hal with w | w
        · exact c3 w
        · omega
  -- what stands ahead of g
  have pre : ∀ i : Nat, i ≤ g → ∀ z7 z8, am_Runs PP MLL d m_M_fill 12 [some (qr (31, 12, 89)), some (qi (lv : Int)), some (qi (g : Int)), some (qi alone), some (qi (sI σ 59 lv - sm L i)), some (qi (sI σ 59 lv - sm R i)), some (qi (i : Int)), z7, z8] [] σ (kV K) := by
    refine lp ?_ ?_
    · intro z7 z8
      refine v_M_fill_12 d lv g alone _ _ _ z7 z8 σ K hF ⟨fun _ => ?_, fun c => absurd (Int.le_refl _) c⟩
      rw [hwl, hwr]
      rcases ha with e | ⟨e, e2⟩
      · have l0 := lay g L R wl wr hg (Or.inl e) (by omega) (by omega) (fun s hs => h s (by unfold flM; rw [if_pos e]; exact hs)) 0 (Nat.zero_le _) σ z7 z8 ⟨rfl, fun _ _ _ => rfl, eL.symm, eR.symm, fun _ _ => ⟨rfl, rfl⟩⟩
        exact l0
      · -- the right number alone first
        have b1 := b1 e
        have zg := hz g e2
        have lg := hL g e2
        have m := mi_l (Z g - L g) wr
        have e12 : Int.toNat (12 * (lv : Int) + (g : Int)) = 12 * lv + g := by omega
        have e63 : sI σ 63 (12 * lv + g) = Z g := by rw [eZ]; rfl
        have e64 : sI σ 64 (12 * lv + g) = L g := by rw [eL]; rfl
        have pe : ∀ (T : am_S) (x i : Nat) (v : Int), sI (putI T x i v) x i = v := fun T x i v => by rw [put_at, if_pos rfl]
        refine v_M_fill_41 d lv g alone _ _ _ z7 z8 σ K hF ⟨by omega, fun c => absurd c (by rw [Int.toNat_natCast]; omega), fun _ => ?_⟩
        simp only [e12, pe, e63, e64, mi_if]
        refine ⟨by omega, fun c => absurd c (by omega), fun _ => ⟨fun _ => ⟨by omega, by omega, ?_⟩, fun c => absurd (Int.le_refl _) c⟩⟩
        have l0 := lay (g + 1) L (ud R g (mi (Z g - L g) wr)) (wl - L g) (wr - mi (Z g - L g) wr) (by omega) (Or.inr (by omega)) (by omega) (by omega) (fun s hs => h s (by unfold flM; rw [if_neg (by omega), show n - g - 1 = n - (g + 1) by omega]; exact hs)) 0 (Nat.zero_le _) (putI σ 65 (12 * lv + g) (mi (Z g - L g) wr)) (some (qi (12 * (lv : Int) + (g : Int)))) (some (qi (Z g - L g))) ⟨rfl, fun x x1 x2 => by rw [put_ne x2], by rw [VL_ne (by decide)]; exact eL.symm, by rw [VL_put, ← eR]; rfl, fun j hj => ⟨by rw [put_ne (by decide)], by rw [put_at, if_neg (by omega)]⟩⟩
        exact l0
    · intro i hi ih z7 z8
      have l1 := hL i (by omega)
      have sb1 := sm_bd (f := L) (c := 12) i (fun j hj => by have := hL j (by omega); omega)
      have sb2 := sm_bd (f := R) (c := 12) i (fun j hj => by have := hL j (by omega); omega)
      have e12 : Int.toNat (12 * (lv : Int) + (i : Int)) = 12 * lv + i := by omega
      have e64 : sI σ 64 (12 * lv + i) = L i := by rw [eL]; rfl
      have e65 : sI σ 65 (12 * lv + i) = R i := by rw [eR]; rfl
      refine v_M_fill_12 d lv g alone _ _ _ z7 z8 σ K hF ⟨fun c => absurd c (by omega), fun _ => ?_⟩
      rw [e12, e64, e65]
      have x1 : sI σ 59 lv - sm L i - L i = sI σ 59 lv - sm L (i + 1) := by
        show _ = sI σ 59 lv - (sm L i + L i)
        omega
      have x2 : sI σ 59 lv - sm R i - R i = sI σ 59 lv - sm R (i + 1) := by
        show _ = sI σ 59 lv - (sm R i + R i)
        omega
      have ih := ih z7 z8
      rw [← x1, ← x2] at ih
      exact ⟨by omega, ih⟩
  refine v_M_fill_0 d lv g alone σ K hF ⟨by omega, ?_⟩
  rw [Int.toNat_natCast]
  have p0 := pre 0 (Nat.zero_le _) none none
  have y1 : sI σ 59 lv - sm L 0 = sI σ 59 lv := by
    show sI σ 59 lv - 0 = _
    omega
  have y2 : sI σ 59 lv - sm R 0 = sI σ 59 lv := by
    show sI σ 59 lv - 0 = _
    omega
  rw [y1, y2] at p0
  exact p0
