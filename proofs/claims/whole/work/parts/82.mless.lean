/-! the reference: lessens, nextWeighing -/
theorem v_M_lessens_0 (d : Nat) (p1 p2 p3 : Int) (σ : am_S) (K : Int → am_S → Prop) (hF : MF σ) (h :
  (-2147483648 ≤ 12 * p1 ∧ 12 * p1 < 2147483648 ∧ -2147483648 ≤ (12 * p1) + p2 ∧ (12 * p1) + p2 < 2147483648) ∧
  (((p3 = 0) → 0 ≤ ((12 * p1) + p2)) ∧ ((p3 = 0) → ((12 * p1) + p2) < 168) ∧ (¬ (p3 = 0) → 0 ≤ ((12 * p1) + p2)) ∧ (¬ (p3 = 0) → ((12 * p1) + p2) < 168)) ∧
  (-2147483648 ≤ (if p3 = 0 then (sI σ 64 (Int.toNat ((12 * p1) + p2)) : Int) else (sI σ 65 (Int.toNat ((12 * p1) + p2)))) - 1 ∧ (if p3 = 0 then (sI σ 64 (Int.toNat ((12 * p1) + p2)) : Int) else (sI σ 65 (Int.toNat ((12 * p1) + p2)))) - 1 < 2147483648 ∧ 0 ≤ p1 ∧ p1 < 14) ∧
  am_Runs PP MLL (d + 1) m_M_lessens 32 [some (qr (31, 12, 89)), some (qi p1), some (qi p2), some (qi p3), some (qi ((12 * p1) + p2)), some (qi ((if p3 = 0 then (sI σ 64 (Int.toNat ((12 * p1) + p2)) : Int) else (sI σ 65 (Int.toNat ((12 * p1) + p2)))) - 1)), some (qi (sI σ 59 (Int.toNat p1))), some (qi (sI σ 59 (Int.toNat p1))), some (qi 0), none] [] σ (kI K)) : am_Runs PP MLL (d + 1) m_M_lessens 0 [some (qr (31, 12, 89)), some (qi p1), some (qi p2), some (qi p3), none, none, none, none, none, none] [] σ (kI K) := am_wEC_ok (orc [(9, 65, 20, 168), (14, 64, 20, 168)]) [17] 200 (⟨⟨h.1.1, h.1.2.1⟩, ⟨⟨h.1.2.2.1, h.1.2.2.2⟩, am_use (fun H2 => ⟨fun c1 => ⟨⟨rfl, (hF 54)⟩, ⟨⟨rfl, (h.2.1.1 c1), (h.2.1.2.1 c1)⟩, (Eq.mp (congrArg (fun z => am_Runs _ _ _ _ _ _ (qi z :: _) _ _) (if_pos c1 : (if p3 = 0 then (sI σ 64 (Int.toNat ((12 * p1) + p2)) : Int) else sI σ 65 (Int.toNat ((12 * p1) + p2))) = sI σ 64 (Int.toNat ((12 * p1) + p2)))) H2)⟩⟩, fun c1 => ⟨⟨rfl, (hF 55)⟩, ⟨⟨rfl, (h.2.1.2.2.1 c1), (h.2.1.2.2.2 c1)⟩, (Eq.mp (congrArg (fun z => am_Runs _ _ _ _ _ _ (qi z :: _) _ _) (if_neg c1 : (if p3 = 0 then (sI σ 64 (Int.toNat ((12 * p1) + p2)) : Int) else sI σ 65 (Int.toNat ((12 * p1) + p2))) = sI σ 65 (Int.toNat ((12 * p1) + p2)))) H2)⟩⟩⟩) (am_wEC_ok (orc [(21, 59, 20, 14), (26, 59, 20, 14)]) [17] 200 (⟨⟨h.2.2.1.1, h.2.2.1.2.1⟩, ⟨⟨rfl, (hF 49)⟩, ⟨⟨rfl, h.2.2.1.2.2.1, h.2.2.1.2.2.2⟩, ⟨⟨rfl, (hF 49)⟩, ⟨⟨rfl, h.2.2.1.2.2.1, h.2.2.1.2.2.2⟩, h.2.2.2⟩⟩⟩⟩⟩))⟩⟩)

theorem v_M_lessens_32 (d : Nat) (p1 p2 p3 v4 v5 v6 v7 v8 : Int) (z9 : Option am_V) (σ : am_S) (K : Int → am_S → Prop) (hF : MF σ) (h :
  ((p2 ≤ v8 →
    (-2147483648 ≤ p2 + 1 ∧ p2 + 1 < 2147483648) ∧
    am_Runs PP MLL (d + 1) m_M_lessens 65 [some (qr (31, 12, 89)), some (qi p1), some (qi p2), some (qi p3), some (qi v4), some (qi v5), some (qi v6), some (qi v7), some (qi 0), some (qi (p2 + 1))] [] σ (kI K)) ∧
  (¬ (p2 ≤ v8) →
    (-2147483648 ≤ 12 * p1 ∧ 12 * p1 < 2147483648 ∧ -2147483648 ≤ (12 * p1) + v8 ∧ (12 * p1) + v8 < 2147483648 ∧ 0 ≤ ((12 * p1) + v8) ∧ ((12 * p1) + v8) < 168 ∧ -2147483648 ≤ v6 - (sI σ 64 (Int.toNat ((12 * p1) + v8))) ∧ v6 - (sI σ 64 (Int.toNat ((12 * p1) + v8))) < 2147483648 ∧ -2147483648 ≤ v7 - (sI σ 65 (Int.toNat ((12 * p1) + v8))) ∧ v7 - (sI σ 65 (Int.toNat ((12 * p1) + v8))) < 2147483648 ∧ -2147483648 ≤ v8 + 1 ∧ v8 + 1 < 2147483648) ∧
    am_Runs PP MLL (d + 1) m_M_lessens 32 [some (qr (31, 12, 89)), some (qi p1), some (qi p2), some (qi p3), some (qi v4), some (qi v5), some (qi (v6 - (sI σ 64 (Int.toNat ((12 * p1) + v8))))), some (qi (v7 - (sI σ 65 (Int.toNat ((12 * p1) + v8))))), some (qi (v8 + 1)), z9] [] σ (kI K)))) : am_Runs PP MLL (d + 1) m_M_lessens 32 [some (qr (31, 12, 89)), some (qi p1), some (qi p2), some (qi p3), some (qi v4), some (qi v5), some (qi v6), some (qi v7), some (qi v8), z9] [] σ (kI K) := am_wEC_ok (orc [(37, 64, 20, 168), (48, 65, 20, 168)]) [17] 200 (⟨fun c2 => ⟨⟨(h.1 c2).1.1, (h.1 c2).1.2⟩, (h.1 c2).2⟩, fun c2 => ⟨⟨rfl, (hF 54)⟩, ⟨⟨(h.2 c2).1.1, (h.2 c2).1.2.1⟩, ⟨⟨(h.2 c2).1.2.2.1, (h.2 c2).1.2.2.2.1⟩, ⟨⟨rfl, (h.2 c2).1.2.2.2.2.1, (h.2 c2).1.2.2.2.2.2.1⟩, ⟨⟨(h.2 c2).1.2.2.2.2.2.2.1, (h.2 c2).1.2.2.2.2.2.2.2.1⟩, ⟨⟨rfl, (hF 55)⟩, ⟨⟨(h.2 c2).1.1, (h.2 c2).1.2.1⟩, ⟨⟨(h.2 c2).1.2.2.1, (h.2 c2).1.2.2.2.1⟩, ⟨⟨rfl, (h.2 c2).1.2.2.2.2.1, (h.2 c2).1.2.2.2.2.2.1⟩, ⟨⟨(h.2 c2).1.2.2.2.2.2.2.2.2.1, (h.2 c2).1.2.2.2.2.2.2.2.2.2.1⟩, ⟨⟨(h.2 c2).1.2.2.2.2.2.2.2.2.2.2.1, (h.2 c2).1.2.2.2.2.2.2.2.2.2.2.2⟩, (h.2 c2).2⟩⟩⟩⟩⟩⟩⟩⟩⟩⟩⟩⟩)

theorem v_M_lessens_65 (d : Nat) (p1 p2 p3 v4 v5 v6 v7 v8 v9 : Int) (σ : am_S) (K : Int → am_S → Prop) (hF : MF σ) (h :
  (0 ≤ p1 ∧ p1 < 14) ∧
  (((sI σ 61 (Int.toNat p1)) ≤ v9 →
    ((0 ≤ v5 →
      ((p3 = 0 →
        (-2147483648 ≤ v6 - v5 ∧ v6 - v5 < 2147483648) ∧
        ((v8 < (v6 - v5) →
          K 0 σ) ∧
        (¬ (v8 < (v6 - v5)) →
          (-2147483648 ≤ (v6 - v5) + v7 ∧ (v6 - v5) + v7 < 2147483648 ∧ 0 ≤ v4 ∧ v4 < 168 ∧ -2147483648 ≤ v8 + (sI σ 63 (Int.toNat v4)) ∧ v8 + (sI σ 63 (Int.toNat v4)) < 2147483648 ∧ -2147483648 ≤ (v8 + (sI σ 63 (Int.toNat v4))) - v5 ∧ (v8 + (sI σ 63 (Int.toNat v4))) - v5 < 2147483648) ∧
          ((((v6 - v5) + v7) ≤ ((v8 + (sI σ 63 (Int.toNat v4))) - v5) →
            am_Calls PP MLL (d + 1) m_M_fill [qr (31, 12, 89), qi p1, qi p2, qi 1] (putI σ 64 (Int.toNat v4) v5) (kV fun s7 =>
              (MF s7) ∧
              K 1 s7)) ∧
          (¬ (((v6 - v5) + v7) ≤ ((v8 + (sI σ 63 (Int.toNat v4))) - v5)) →
            K 0 σ))))) ∧
      (¬ (p3 = 0) →
        (0 ≤ v4 ∧ v4 < 168 ∧ -2147483648 ≤ v6 - (sI σ 64 (Int.toNat v4)) ∧ v6 - (sI σ 64 (Int.toNat v4)) < 2147483648 ∧ -2147483648 ≤ (v6 - (sI σ 64 (Int.toNat v4))) + v7 ∧ (v6 - (sI σ 64 (Int.toNat v4))) + v7 < 2147483648 ∧ -2147483648 ≤ ((v6 - (sI σ 64 (Int.toNat v4))) + v7) - v5 ∧ ((v6 - (sI σ 64 (Int.toNat v4))) + v7) - v5 < 2147483648) ∧
        (((((v6 - (sI σ 64 (Int.toNat v4))) + v7) - v5) ≤ v8 →
          (-2147483648 ≤ p2 + 1 ∧ p2 + 1 < 2147483648) ∧
          am_Calls PP MLL (d + 1) m_M_fill [qr (31, 12, 89), qi p1, qi (p2 + 1), qi 0] (putI σ 65 (Int.toNat v4) v5) (kV fun s9 =>
            (MF s9) ∧
            K 1 s9)) ∧
        (¬ ((((v6 - (sI σ 64 (Int.toNat v4))) + v7) - v5) ≤ v8) →
          K 0 σ))))) ∧
    (¬ (0 ≤ v5) →
      K 0 σ))) ∧
  (¬ ((sI σ 61 (Int.toNat p1)) ≤ v9) →
    (-2147483648 ≤ 12 * p1 ∧ 12 * p1 < 2147483648 ∧ -2147483648 ≤ (12 * p1) + v9 ∧ (12 * p1) + v9 < 2147483648 ∧ 0 ≤ ((12 * p1) + v9) ∧ ((12 * p1) + v9) < 168 ∧ -2147483648 ≤ v8 + (sI σ 63 (Int.toNat ((12 * p1) + v9))) ∧ v8 + (sI σ 63 (Int.toNat ((12 * p1) + v9))) < 2147483648 ∧ -2147483648 ≤ v9 + 1 ∧ v9 + 1 < 2147483648) ∧
    am_Runs PP MLL (d + 1) m_M_lessens 65 [some (qr (31, 12, 89)), some (qi p1), some (qi p2), some (qi p3), some (qi v4), some (qi v5), some (qi v6), some (qi v7), some (qi (v8 + (sI σ 63 (Int.toNat ((12 * p1) + v9))))), some (qi (v9 + 1))] [] σ (kI K)))) : am_Runs PP MLL (d + 1) m_M_lessens 65 [some (qr (31, 12, 89)), some (qi p1), some (qi p2), some (qi p3), some (qi v4), some (qi v5), some (qi v6), some (qi v7), some (qi v8), some (qi v9)] [] σ (kI K) := am_wEC_ok (orc [(67, 61, 20, 14), (73, 63, 20, 168), (92, 64, 20, 168), (105, 65, 20, 168), (130, 63, 20, 168), (140, 64, 20, 168)]) [17] 200 (⟨⟨rfl, (hF 51)⟩, ⟨⟨rfl, h.1.1, h.1.2⟩, ⟨fun c2 => ⟨fun c3 => ⟨fun c4 => ⟨⟨(((h.2.1 c2).1 c3).1 c4).1.1, (((h.2.1 c2).1 c3).1 c4).1.2⟩, ⟨fun c5 => ⟨(Or.inl rfl), ((((h.2.1 c2).1 c3).1 c4).2.1 c5)⟩, fun c5 => ⟨⟨(((h.2.1 c2).1 c3).1 c4).1.1, (((h.2.1 c2).1 c3).1 c4).1.2⟩, ⟨⟨((((h.2.1 c2).1 c3).1 c4).2.2 c5).1.1, ((((h.2.1 c2).1 c3).1 c4).2.2 c5).1.2.1⟩, ⟨⟨rfl, (hF 53)⟩, ⟨⟨rfl, ((((h.2.1 c2).1 c3).1 c4).2.2 c5).1.2.2.1, ((((h.2.1 c2).1 c3).1 c4).2.2 c5).1.2.2.2.1⟩, ⟨⟨((((h.2.1 c2).1 c3).1 c4).2.2 c5).1.2.2.2.2.1, ((((h.2.1 c2).1 c3).1 c4).2.2 c5).1.2.2.2.2.2.1⟩, ⟨⟨((((h.2.1 c2).1 c3).1 c4).2.2 c5).1.2.2.2.2.2.2.1, ((((h.2.1 c2).1 c3).1 c4).2.2 c5).1.2.2.2.2.2.2.2⟩, ⟨fun c6 => ⟨⟨rfl, (hF 54)⟩, ⟨⟨rfl, ((((h.2.1 c2).1 c3).1 c4).2.2 c5).1.2.2.1, ((((h.2.1 c2).1 c3).1 c4).2.2 c5).1.2.2.2.1⟩, ⟨rfl, (am_cV (((((h.2.1 c2).1 c3).1 c4).2.2 c5).2.1 c6) fun s7 h7 => ⟨(Or.inr rfl), h7.2⟩)⟩⟩⟩, fun c6 => ⟨(Or.inl rfl), (((((h.2.1 c2).1 c3).1 c4).2.2 c5).2.2 c6)⟩⟩⟩⟩⟩⟩⟩⟩⟩⟩, fun c4 => ⟨⟨rfl, (hF 54)⟩, ⟨⟨rfl, (((h.2.1 c2).1 c3).2 c4).1.1, (((h.2.1 c2).1 c3).2 c4).1.2.1⟩, ⟨⟨(((h.2.1 c2).1 c3).2 c4).1.2.2.1, (((h.2.1 c2).1 c3).2 c4).1.2.2.2.1⟩, ⟨⟨(((h.2.1 c2).1 c3).2 c4).1.2.2.2.2.1, (((h.2.1 c2).1 c3).2 c4).1.2.2.2.2.2.1⟩, ⟨⟨(((h.2.1 c2).1 c3).2 c4).1.2.2.2.2.2.2.1, (((h.2.1 c2).1 c3).2 c4).1.2.2.2.2.2.2.2⟩, ⟨fun c8 => ⟨⟨rfl, (hF 55)⟩, ⟨⟨rfl, (((h.2.1 c2).1 c3).2 c4).1.1, (((h.2.1 c2).1 c3).2 c4).1.2.1⟩, ⟨⟨((((h.2.1 c2).1 c3).2 c4).2.1 c8).1.1, ((((h.2.1 c2).1 c3).2 c4).2.1 c8).1.2⟩, ⟨rfl, (am_cV ((((h.2.1 c2).1 c3).2 c4).2.1 c8).2 fun s9 h9 => ⟨(Or.inr rfl), h9.2⟩)⟩⟩⟩⟩, fun c8 => ⟨(Or.inl rfl), ((((h.2.1 c2).1 c3).2 c4).2.2 c8)⟩⟩⟩⟩⟩⟩⟩⟩, fun c3 => ⟨(Or.inl rfl), ((h.2.1 c2).2 c3)⟩⟩, fun c2 => ⟨⟨rfl, (hF 53)⟩, ⟨⟨(h.2.2 c2).1.1, (h.2.2 c2).1.2.1⟩, ⟨⟨(h.2.2 c2).1.2.2.1, (h.2.2 c2).1.2.2.2.1⟩, ⟨⟨rfl, (h.2.2 c2).1.2.2.2.2.1, (h.2.2 c2).1.2.2.2.2.2.1⟩, ⟨⟨(h.2.2 c2).1.2.2.2.2.2.2.1, (h.2.2 c2).1.2.2.2.2.2.2.2.1⟩, ⟨⟨(h.2.2 c2).1.2.2.2.2.2.2.2.2.1, (h.2.2 c2).1.2.2.2.2.2.2.2.2.2⟩, (h.2.2 c2).2⟩⟩⟩⟩⟩⟩⟩⟩⟩)

theorem c_M_lessens (d : Nat) {lv g n k : Nat} {right : Int} {σ : am_S} {K : Int → am_S → Prop} (hF : MF σ) (hlv : lv < 14) (hn : sI σ 61 lv = n) (hn2 : n ≤ 12) (hk : n = g + 1 + k) (hr : right = 0 ∨ right = 1) (hz : ∀ j, j < n → 0 ≤ VL σ 63 lv j ∧ VL σ 63 lv j ≤ 12) (hv : ∀ j, j < n → 0 ≤ VL σ 64 lv j ∧ 0 ≤ VL σ 65 lv j ∧ VL σ 64 lv j + VL σ 65 lv j ≤ VL σ 63 lv j) (hp : 1 ≤ sI σ 59 lv ∧ sI σ 59 lv ≤ 12) (hL : sm (VL σ 64 lv) n = sI σ 59 lv) (hR : sm (VL σ 65 lv) n = sI σ 59 lv)
    (hno : (right = 1 → ¬ (0 < VL σ 65 lv g ∧ sg (VL σ 64 lv) (g + 1) k + sg (VL σ 65 lv) (g + 1) k < sg (VL σ 63 lv) (g + 1) k)) → (right = 0 → ¬ (0 < VL σ 64 lv g ∧ sg (VL σ 64 lv) (g + 1) k + 1 + (sg (VL σ 65 lv) (g + 1) k + VL σ 65 lv g) - mi (VL σ 63 lv g - VL σ 64 lv g + 1) (sg (VL σ 65 lv) (g + 1) k + VL σ 65 lv g) ≤ sg (VL σ 63 lv) (g + 1) k)) → K 0 σ)
    (hy1 : right = 1 → (0 < VL σ 65 lv g ∧ sg (VL σ 64 lv) (g + 1) k + sg (VL σ 65 lv) (g + 1) k < sg (VL σ 63 lv) (g + 1) k) → ∀ s, FM σ s lv (fl (VL σ 63 lv) (VL σ 64 lv) (ud (VL σ 65 lv) g (VL σ 65 lv g - 1)) (g + 1) (sg (VL σ 64 lv) (g + 1) k) (sg (VL σ 65 lv) (g + 1) k + 1) k).2.2 → K 1 s)
    (hy0 : right = 0 → (0 < VL σ 64 lv g ∧ sg (VL σ 64 lv) (g + 1) k + 1 + (sg (VL σ 65 lv) (g + 1) k + VL σ 65 lv g) - mi (VL σ 63 lv g - VL σ 64 lv g + 1) (sg (VL σ 65 lv) (g + 1) k + VL σ 65 lv g) ≤ sg (VL σ 63 lv) (g + 1) k) → ∀ s, FM σ s lv (fl (VL σ 63 lv) (ud (VL σ 64 lv) g (VL σ 64 lv g - 1)) (ud (VL σ 65 lv) g (mi (VL σ 63 lv g - VL σ 64 lv g + 1) (sg (VL σ 65 lv) (g + 1) k + VL σ 65 lv g))) (g + 1) (sg (VL σ 64 lv) (g + 1) k + 1) (sg (VL σ 65 lv) (g + 1) k + VL σ 65 lv g - mi (VL σ 63 lv g - VL σ 64 lv g + 1) (sg (VL σ 65 lv) (g + 1) k + VL σ 65 lv g)) k).2.2 → K 1 s) :
    am_Calls PP MLL (d + 2) m_M_lessens [qr (31, 12, 89), qi (lv : Int), qi (g : Int), qi right] σ (kI K) := by
  obtain ⟨Z, eZ⟩ : ∃ Z, Z = VL σ 63 lv := ⟨_, rfl⟩
  obtain ⟨L, eL⟩ : ∃ L, L = VL σ 64 lv := ⟨_, rfl⟩
  obtain ⟨R, eR⟩ : ∃ R, R = VL σ 65 lv := ⟨_, rfl⟩
  obtain ⟨p, ep⟩ : ∃ p, p = sI σ 59 lv := ⟨_, rfl⟩
  rw [← eZ, ← eL, ← eR] at hno hy1 hy0 hv
  rw [← eZ] at hz
  rw [← eL, ← ep] at hL
  rw [← eR, ← ep] at hR
  rw [← ep] at hp
  have vg := hv g (by omega)
  have zg := hz g (by omega)
  have sumL : ∀ (f : Nat → Int), sm f n = sm f g + f g + sg f (g + 1) k := by
    intro f
    rw [hk, sm_sg f (g + 1) k]
    rfl
  have nn : ∀ (f : Nat → Int), (∀ j, j < n → 0 ≤ f j) → 0 ≤ sm f g ∧ 0 ≤ sg f (g + 1) k := fun f hf => ⟨by
    have e : sm f g = sg f 0 g := (sm_congr g (fun i _ => by rw [Nat.zero_add]))
    rw [e]
    exact sg_nn g (fun i hi => hf _ (by omega)), sg_nn k (fun i hi => hf _ (by omega))⟩
  have nl := nn L (fun j hj => (hv j hj).1)
  have nr := nn R (fun j hj => (hv j hj).2.1)
  have sl := sumL L
  have sr := sumL R
  rw [hL] at sl
  rw [hR] at sr
  have cell : ∀ (a : Nat) (j : Nat), sI σ a (12 * lv + j) = VL σ a lv j := fun a j => rfl
  have e12 : Int.toNat (12 * (lv : Int) + (g : Int)) = 12 * lv + g := by omega
  obtain ⟨wl, ewl⟩ : ∃ wl, wl = sg L (g + 1) k := ⟨_, rfl⟩
  obtain ⟨wr, ewr⟩ : ∃ wr, wr = sg R (g + 1) k := ⟨_, rfl⟩
  obtain ⟨rm, erm⟩ : ∃ rm, rm = sg Z (g + 1) k := ⟨_, rfl⟩
  rw [← ewl, ← ewr, ← erm] at hno hy1 hy0
  rw [← ewl] at sl nl
  rw [← ewr] at sr nr
  have zsum := sm_bd (f := fun i => Z (g + 1 + i)) (c := 12) k (fun j hj => hz _ (by omega))
  have zsum' : 0 ≤ rm ∧ rm ≤ 144 := by
    rw [erm]
    unfold sg
    omega
  -- all is known
  have fin : am_Runs PP MLL (d + 1) m_M_lessens 65 [some (qr (31, 12, 89)), some (qi (lv : Int)), some (qi (g : Int)), some (qi right), some (qi (12 * (lv : Int) + (g : Int))), some (qi ((if right = 0 then (L g : Int) else R g) - 1)), some (qi (p - sm L g)), some (qi (p - sm R g)), some (qi rm), some (qi (n : Int))] [] σ (kI K) := by
    refine v_M_lessens_65 d lv g right _ _ _ _ _ _ σ K hF ⟨by omega, fun _ => ?_, fun c => absurd (by rw [Int.toNat_natCast]; omega) c⟩
    rw [e12, cell, cell, ← eZ, ← eL]
    rcases hr with rfl | rfl
    · rw [if_pos rfl]
      have m1 := mi_l (Z g - L g + 1) (wr + R g)
      refine ⟨fun c1 => ⟨fun _ => ⟨by omega, fun c2 => hno (fun q => absurd q (by decide)) (fun _ q => by omega), fun c2 => ⟨by omega, fun c3 => ?_, fun c3 => hno (fun q => absurd q (by decide)) (fun _ q => by omega)⟩⟩, fun c => absurd rfl c⟩, fun c1 => hno (fun q => absurd q (by decide)) (fun _ q => by omega)⟩
      have s64 : VL (putI σ 64 (12 * lv + g) (L g - 1)) 64 lv = ud L g (L g - 1) := by rw [VL_put, ← eL]
      have s65 : VL (putI σ 64 (12 * lv + g) (L g - 1)) 65 lv = R := by rw [VL_ne (by decide), ← eR]
      have s63 : VL (putI σ 64 (12 * lv + g) (L g - 1)) 63 lv = Z := by rw [VL_ne (by decide), ← eZ]
      have p59 : sI (putI σ 64 (12 * lv + g) (L g - 1)) 59 lv = p := by rw [put_ne (by decide), ep]
      have ug : ud L g (L g - 1) g = L g - 1 := if_pos rfl
      have uo : ∀ j, j ≠ g → ud L g (L g - 1) j = L j := fun j hj => if_neg hj
      refine c_M_fill d (lv := lv) (g := g) (n := n) (alone := 1) (wl := wl + L g) (wr := wr + R g) hF hlv (by rw [put_ne (by decide)]; exact hn) hn2 (by omega) (Or.inr ⟨rfl, by omega⟩) (by rw [s63]; exact hz) ?_ (by rw [p59]; omega) ?_ ?_ (by omega) (by omega) ?_ ?_
      · intro j hj
        rw [s64, s65]
        have := hv j hj
        have := hz j hj
        by_cases e : j = g
        · rw [e, ug]
          omega
        · rw [uo j e]
          omega
      · rw [p59, s64, sm_congr g (g := L) (fun i hi => uo i (by omega))]
        omega
      · rw [p59, s65]
        omega
      · intro _
        rw [s64, s63, ug]
        omega
      · intro s hs
        refine ⟨MF_2 hs.1 hF, hy0 rfl ⟨by omega, by omega⟩ s ?_⟩
        rw [s63, s64, s65] at hs
        unfold flM at hs
        rw [if_neg (by decide), ug, show Z g - (L g - 1) = Z g - L g + 1 by omega, show wl + L g - (L g - 1) = wl + 1 by omega, show n - g - 1 = k by omega] at hs
        obtain ⟨a1, a2, a3, a4, a5⟩ := hs
        exact ⟨a1, fun x x1 x2 => by rw [a2 x x1 x2, put_ne x1], a3, a4, fun j hj => by
          have := a5 j hj
          rw [put_at, if_neg (by omega), put_ne (show 65 ≠ 64 by decide)] at this
          exact this⟩
    · rw [if_neg (by decide)]
      refine ⟨fun c1 => ⟨fun c => absurd c (by decide), fun _ => ⟨by omega, fun c2 => ⟨by omega, ?_⟩, fun c2 => hno (fun _ q => by omega) (fun q => absurd q (by decide))⟩⟩, fun c1 => hno (fun _ q => by omega) (fun q => absurd q (by decide))⟩
      have s64 : VL (putI σ 65 (12 * lv + g) (R g - 1)) 64 lv = L := by rw [VL_ne (by decide), ← eL]
      have s65 : VL (putI σ 65 (12 * lv + g) (R g - 1)) 65 lv = ud R g (R g - 1) := by rw [VL_put, ← eR]
      have s63 : VL (putI σ 65 (12 * lv + g) (R g - 1)) 63 lv = Z := by rw [VL_ne (by decide), ← eZ]
      have p59 : sI (putI σ 65 (12 * lv + g) (R g - 1)) 59 lv = p := by rw [put_ne (by decide), ep]
      have ug : ud R g (R g - 1) g = R g - 1 := if_pos rfl
      have uo : ∀ j, j ≠ g → ud R g (R g - 1) j = R j := fun j hj => if_neg hj
      have e1 : (g : Int) + 1 = ((g + 1 : Nat) : Int) := by omega
      rw [e1]
      refine c_M_fill d (lv := lv) (g := g + 1) (n := n) (alone := 0) (wl := wl) (wr := wr + 1) hF hlv (by rw [put_ne (by decide)]; exact hn) hn2 (by omega) (Or.inl rfl) (by rw [s63]; exact hz) ?_ (by rw [p59]; omega) ?_ ?_ (by omega) (by omega) (fun q => absurd q (by decide)) ?_
      · intro j hj
        rw [s64, s65]
        have := hv j hj
        have := hz j hj
        by_cases e : j = g
        · rw [e, ug]
          have := hv g (by omega)
          omega
        · rw [uo j e]
          omega
      · rw [p59, s64]
        show p - (sm L g + L g) = wl
        omega
      · rw [p59, s65]
        show p - (sm (ud R g (R g - 1)) g + ud R g (R g - 1) g) = wr + 1
        rw [sm_congr g (g := R) (fun i hi => uo i (by omega)), ug]
        omega
      · intro s hs
        refine ⟨MF_2 hs.1 hF, hy1 rfl ⟨by omega, by omega⟩ s ?_⟩
        rw [s63, s64, s65] at hs
        unfold flM at hs
        rw [if_pos rfl, show n - (g + 1) = k by omega] at hs
        obtain ⟨a1, a2, a3, a4, a5⟩ := hs
        exact ⟨a1, fun x x1 x2 => by rw [a2 x x1 x2, put_ne x2], a3, a4, fun j hj => by
          have := a5 j hj
          rw [put_ne (show 64 ≠ 65 by decide), put_at, if_neg (by omega)] at this
          exact this⟩
  -- what is behind
  have bh : ∀ i : Nat, i ≤ k → am_Runs PP MLL (d + 1) m_M_lessens 65 [some (qr (31, 12, 89)), some (qi (lv : Int)), some (qi (g : Int)), some (qi right), some (qi (12 * (lv : Int) + (g : Int))), some (qi ((if right = 0 then (L g : Int) else R g) - 1)), some (qi (p - sm L g)), some (qi (p - sm R g)), some (qi (sg Z (g + 1) i)), some (qi ((g + 1 + i : Nat) : Int))] [] σ (kI K) := by
    refine lp ?_ ?_
    · rw [← erm, ← hk]
      exact fin
    · intro i hi ih
      have b := sm_bd (f := fun j => Z (g + 1 + j)) (c := 12) i (fun j hj => hz _ (by omega))
      have zi := hz (g + 1 + i) (by omega)
      refine v_M_lessens_65 d lv g right _ _ _ _ _ _ σ K hF ⟨by omega, fun c => absurd c (by rw [Int.toNat_natCast]; omega), fun _ => ?_⟩
      rw [show Int.toNat (12 * (lv : Int) + ((g + 1 + i : Nat) : Int)) = 12 * lv + (g + 1 + i) by omega, cell, ← eZ]
      have es := sg_s Z (g + 1) i
      rw [es] at ih
      have b' : 0 ≤ sg Z (g + 1) i ∧ sg Z (g + 1) i ≤ 144 := by
        unfold sg
        omega
      exact ⟨by omega, ih⟩
  -- what is ahead
  have ah : ∀ i : Nat, i ≤ g → ∀ z9, am_Runs PP MLL (d + 1) m_M_lessens 32 [some (qr (31, 12, 89)), some (qi (lv : Int)), some (qi (g : Int)), some (qi right), some (qi (12 * (lv : Int) + (g : Int))), some (qi ((if right = 0 then (L g : Int) else R g) - 1)), some (qi (p - sm L i)), some (qi (p - sm R i)), some (qi (i : Int)), z9] [] σ (kI K) := by
    refine lp ?_ ?_
    · intro z9
      refine v_M_lessens_32 d lv g right _ _ _ _ _ z9 σ K hF ⟨fun _ => ⟨by omega, ?_⟩, fun c => absurd (Int.le_refl _) c⟩
      exact bh 0 (Nat.zero_le _)
    · intro i hi ih z9
      have l1 := hv i (by omega)
      have l2 := hz i (by omega)
      have sb1 := sm_bd (f := L) (c := 12) i (fun j hj => by have := hv j (by omega); have := hz j (by omega); omega)
      have sb2 := sm_bd (f := R) (c := 12) i (fun j hj => by have := hv j (by omega); have := hz j (by omega); omega)
      refine v_M_lessens_32 d lv g right _ _ _ _ _ z9 σ K hF ⟨fun c => absurd c (by omega), fun _ => ?_⟩
      rw [show Int.toNat (12 * (lv : Int) + (i : Int)) = 12 * lv + i by omega, cell, cell, ← eL, ← eR]
      have x1 : p - sm L i - L i = p - sm L (i + 1) := by
        show _ = p - (sm L i + L i)
        omega
      have x2 : p - sm R i - R i = p - sm R (i + 1) := by
        show _ = p - (sm R i + R i)
        omega
      have ih := ih z9
      rw [← x1, ← x2] at ih
      exact ⟨by omega, ih⟩
  refine v_M_lessens_0 d lv g right σ K hF ?_
  rw [e12, cell, cell, ← eL, ← eR, Int.toNat_natCast, ← ep]
  refine ⟨by omega, ⟨fun _ => by omega, fun _ => by omega, fun _ => by omega, fun _ => by omega⟩, ⟨?_, ?_, by omega, by omega⟩, ?_⟩
  · split <;> omega
  · split <;> omega
  · have a0 := ah 0 (Nat.zero_le _) none
    have y1 : p - sm L 0 = p := by
      show p - 0 = _
      omega
    have y2 : p - sm R 0 = p := by
      show p - 0 = _
      omega
    rw [y1, y2] at a0
    exact a0
