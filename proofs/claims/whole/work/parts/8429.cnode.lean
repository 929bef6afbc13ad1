/-! the class: nodes, a walk -/
theorem v_Search_endOf_0 (d : Nat) (β μ κ ρ : Nat → Nat) (me : Nat → Nat → Nat) (aH nH aL nL aY nY aS nS n b aC nC : Nat) (p1 : Int) (σ : am_S) (K : Int → am_S → Prop) (hR : TR σ aH nH aL nL aY nY aS nS) (hB : BS σ β μ κ ρ me n) (hn : sR σ 12 6 = some (β b, 0, 9)) (hc : sR σ 18 0 = some (aC, 20, nC)) (h :
  am_Runs PP MLL (d + 4) m_Search_endOf 4 [some (qr (12, 5, 18)), some (qi p1), some (qi 0), some (qi 0), none, none] [] σ (kI K)) : am_Runs PP MLL (d + 4) m_Search_endOf 0 [some (qr (12, 5, 18)), some (qi p1), none, none, none, none] [] σ (kI K) := am_wEF_ok (orc []) 200 (h)

theorem v_Search_endOf_4 (d : Nat) (β μ κ ρ : Nat → Nat) (me : Nat → Nat → Nat) (aH nH aL nL aY nY aS nS n b aC nC : Nat) (p1 v2 v3 : Int) (z4 z5 : Option am_V) (σ : am_S) (K : Int → am_S → Prop) (hR : TR σ aH nH aL nL aY nY aS nS) (hB : BS σ β μ κ ρ me n) (hn : sR σ 12 6 = some (β b, 0, 9)) (hc : sR σ 18 0 = some (aC, 20, nC)) (h :
  ((6 ≤ v3 →
    K v2 σ) ∧
  (¬ (6 ≤ v3) →
    (-2147483648 ≤ v2 * 12 ∧ v2 * 12 < 2147483648 ∧ -2147483648 ≤ (v2 * 12) + 0 ∧ (v2 * 12) + 0 < 2147483648 ∧ 0 ≤ ((v2 * 12) + 0) ∧ ((v2 * 12) + 0) < ((nC : Nat) : Int)) ∧
    (0 ≤ (sI σ aC (Int.toNat ((v2 * 12) + 0))) ∧ (sI σ aC (Int.toNat ((v2 * 12) + 0))) < 1073741824) ∧
    (((pc (Int.toNat (sI σ aC (Int.toNat ((v2 * 12) + 0))))) ≤ 0 →
      K v2 σ) ∧
    (¬ ((pc (Int.toNat (sI σ aC (Int.toNat ((v2 * 12) + 0))))) ≤ 0) →
      (-2147483648 ≤ (v2 * 12) + 1 ∧ (v2 * 12) + 1 < 2147483648 ∧ 0 ≤ ((v2 * 12) + 1) ∧ ((v2 * 12) + 1) < ((nC : Nat) : Int)) ∧
      am_Calls PP MLL (d + 4) m_Truths_difference [qr (3, 9, 11), qi p1, ql (sI σ aC (Int.toNat ((v2 * 12) + 0))), ql (sI σ aC (Int.toNat ((v2 * 12) + 1)))] σ (kI fun x3 s3 =>
        (TR s3 aH nH aL nL aY nY aS nS ∧ BS s3 β μ κ ρ me n ∧ sR s3 12 6 = some (β b, 0, 9) ∧ sR s3 18 0 = some (aC, 20, nC)) ∧
        am_Calls PP MLL (d + 4) m_Search_weigherAt [qr (12, 5, 18), qi v3] s3 (kO fun x4 s4 =>
          (TR s4 aH nH aL nL aY nY aS nS ∧ BS s4 β μ κ ρ me n ∧ sR s4 12 6 = some (β b, 0, 9) ∧ sR s4 18 0 = some (aC, 20, nC)) ∧
          (rg x4).2.1 = 0 ∧
          am_Calls PP MLL (d + 4) m_Balance_tells [qo x4, qi x3] s4 (kI fun x5 s5 =>
            (TR s5 aH nH aL nL aY nY aS nS ∧ BS s5 β μ κ ρ me n ∧ sR s5 12 6 = some (β b, 0, 9) ∧ sR s5 18 0 = some (aC, 20, nC)) ∧
            (-2147483648 ≤ (v2 * 12) + 5 ∧ (v2 * 12) + 5 < 2147483648 ∧ -2147483648 ≤ ((v2 * 12) + 5) + 3 ∧ ((v2 * 12) + 5) + 3 < 2147483648 ∧ -2147483648 ≤ (((v2 * 12) + 5) + 3) + x5 ∧ (((v2 * 12) + 5) + 3) + x5 < 2147483648 ∧ 0 ≤ ((((v2 * 12) + 5) + 3) + x5) ∧ ((((v2 * 12) + 5) + 3) + x5) < ((nC : Nat) : Int)) ∧
            (((sI s5 aC (Int.toNat ((((v2 * 12) + 5) + 3) + x5))) = (-1000) →
              K v2 s5) ∧
            (¬ ((sI s5 aC (Int.toNat ((((v2 * 12) + 5) + 3) + x5))) = (-1000)) →
              (-2147483648 ≤ v3 + 1 ∧ v3 + 1 < 2147483648) ∧
              am_Runs PP MLL (d + 4) m_Search_endOf 4 [some (qr (12, 5, 18)), some (qi p1), some (qi (sI s5 aC (Int.toNat ((((v2 * 12) + 5) + 3) + x5)))), some (qi (v3 + 1)), some (qi x3), some (qi (sI s5 aC (Int.toNat ((((v2 * 12) + 5) + 3) + x5))))] [] s5 (kI K))))))))))) : am_Runs PP MLL (d + 4) m_Search_endOf 4 [some (qr (12, 5, 18)), some (qi p1), some (qi v2), some (qi v3), z4, z5] [] σ (kI K) := am_wEF_ok (orc [(8, 18, 8, 2), (13, 3, 9, 11), (16, 18, 8, 2), (22, 18, 8, 2), (30, 18, 8, 2)]) 200 (⟨fun c1 => (h.1 c1), fun c1 => ⟨⟨rfl, (hR.1 12 3 _ rfl)⟩, ⟨rfl, am_wEF_ok (orc [(1, aC, 20, nC)]) 200 (⟨⟨rfl, hc⟩, ⟨⟨(h.2 c1).1.1, (h.2 c1).1.2.1⟩, ⟨⟨(h.2 c1).1.2.2.1, (h.2 c1).1.2.2.2.1⟩, ⟨⟨rfl, (h.2 c1).1.2.2.2.2.1, (h.2 c1).1.2.2.2.2.2⟩, c_ibcI _ (h.2 c1).2.1.1 (h.2 c1).2.1.2 (⟨fun c2 => ((h.2 c1).2.2.1 c2), fun c2 => ⟨⟨rfl, (hR.1 12 0 _ rfl)⟩, ⟨⟨rfl, (hR.1 12 3 _ rfl)⟩, ⟨rfl, am_wEF_ok (orc [(1, aC, 20, nC)]) 200 (⟨⟨rfl, hc⟩, ⟨⟨(h.2 c1).1.1, (h.2 c1).1.2.1⟩, ⟨fun _ => ⟨⟨(h.2 c1).1.2.2.1, (h.2 c1).1.2.2.2.1⟩, ⟨⟨rfl, (h.2 c1).1.2.2.2.2.1, (h.2 c1).1.2.2.2.2.2⟩, ⟨⟨rfl, (hR.1 12 3 _ rfl)⟩, ⟨rfl, am_wEF_ok (orc [(1, aC, 20, nC)]) 200 (⟨⟨rfl, hc⟩, ⟨⟨(h.2 c1).1.1, (h.2 c1).1.2.1⟩, ⟨fun c => absurd c (by decide : ¬ ((1 : Int) = 0)), fun _ => ⟨⟨((h.2 c1).2.2.2 c2).1.1, ((h.2 c1).2.2.2 c2).1.2.1⟩, ⟨⟨rfl, ((h.2 c1).2.2.2 c2).1.2.2.1, ((h.2 c1).2.2.2 c2).1.2.2.2⟩, ⟨rfl, (am_cI ((h.2 c1).2.2.2 c2).2 fun x3 s3 h3 => ⟨⟨rfl, (h3.1.1.1 12 3 _ rfl)⟩, ⟨rfl, (am_cO h3.2 fun x4 s4 h4 => ⟨h4.2.1, (am_cI h4.2.2 fun x5 s5 h5 => ⟨rfl, am_wEF_ok (orc [(1, aC, 20, nC)]) 200 (⟨⟨rfl, h5.1.2.2.2⟩, ⟨⟨(h.2 c1).1.1, (h.2 c1).1.2.1⟩, ⟨⟨h5.2.1.1, h5.2.1.2.1⟩, ⟨⟨h5.2.1.2.2.1, h5.2.1.2.2.2.1⟩, ⟨⟨h5.2.1.2.2.2.2.1, h5.2.1.2.2.2.2.2.1⟩, ⟨⟨rfl, h5.2.1.2.2.2.2.2.2.1, h5.2.1.2.2.2.2.2.2.2⟩, ⟨fun c6 => (h5.2.2.1 c6), fun c6 => ⟨⟨(h5.2.2.2 c6).1.1, (h5.2.2.2 c6).1.2⟩, (h5.2.2.2 c6).2⟩⟩⟩⟩⟩⟩⟩⟩)⟩)⟩)⟩⟩)⟩⟩⟩⟩⟩⟩)⟩⟩⟩⟩, fun c => absurd (by decide : (0 : Int) = 0) c⟩⟩⟩)⟩⟩⟩⟩)⟩⟩⟩⟩)⟩⟩⟩)

theorem v_Tree_tell_0 (d : Nat) (aC nC : Nat) (p1 p2 : Int) (σ : am_S) (K : Int → am_S → Prop) (hC : CF σ) (hc : sR σ 18 0 = some (aC, 20, nC)) (h :
  (-2147483648 ≤ p1 * 12 ∧ p1 * 12 < 2147483648) ∧
  ((p2 = 0 →
    (-2147483648 ≤ (p1 * 12) + 0 ∧ (p1 * 12) + 0 < 2147483648 ∧ 0 ≤ ((p1 * 12) + 0) ∧ ((p1 * 12) + 0) < ((nC : Nat) : Int)) ∧
    (0 ≤ (sI σ aC (Int.toNat ((p1 * 12) + 0))) ∧ (sI σ aC (Int.toNat ((p1 * 12) + 0))) < 1073741824) ∧
    K (pc (Int.toNat (sI σ aC (Int.toNat ((p1 * 12) + 0))))) σ) ∧
  (¬ (p2 = 0) →
  ((p2 = 1 →
    (-2147483648 ≤ (p1 * 12) + 2 ∧ (p1 * 12) + 2 < 2147483648 ∧ 0 ≤ ((p1 * 12) + 2) ∧ ((p1 * 12) + 2) < ((nC : Nat) : Int)) ∧
    K (sI σ aC (Int.toNat ((p1 * 12) + 2))) σ) ∧
  (¬ (p2 = 1) →
  ((p2 = 2 →
    (-2147483648 ≤ (p1 * 12) + 3 ∧ (p1 * 12) + 3 < 2147483648 ∧ 0 ≤ ((p1 * 12) + 3) ∧ ((p1 * 12) + 3) < ((nC : Nat) : Int)) ∧
    K (sI σ aC (Int.toNat ((p1 * 12) + 3))) σ) ∧
  (¬ (p2 = 2) →
  ((p2 = 3 →
    (-2147483648 ≤ (p1 * 12) + 4 ∧ (p1 * 12) + 4 < 2147483648 ∧ 0 ≤ ((p1 * 12) + 4) ∧ ((p1 * 12) + 4) < ((nC : Nat) : Int)) ∧
    K (sI σ aC (Int.toNat ((p1 * 12) + 4))) σ) ∧
  (¬ (p2 = 3) →
  (-2147483648 ≤ p2 - 4 ∧ p2 - 4 < 2147483648 ∧ -2147483648 ≤ (p2 - 4) - 3 ∧ (p2 - 4) - 3 < 2147483648) ∧
  (-2147483648 ≤ (p1 * 12) + 5 ∧ (p1 * 12) + 5 < 2147483648 ∧ -2147483648 ≤ ((p1 * 12) + 5) + 3 ∧ ((p1 * 12) + 5) + 3 < 2147483648 ∧ -2147483648 ≤ (((p1 * 12) + 5) + 3) + ((p2 - 4) - 3) ∧ (((p1 * 12) + 5) + 3) + ((p2 - 4) - 3) < 2147483648 ∧ 0 ≤ ((((p1 * 12) + 5) + 3) + ((p2 - 4) - 3)) ∧ ((((p1 * 12) + 5) + 3) + ((p2 - 4) - 3)) < ((nC : Nat) : Int)) ∧
  K (sI σ aC (Int.toNat ((((p1 * 12) + 5) + 3) + ((p2 - 4) - 3)))) σ))))))))) : am_Runs PP MLL (d + 2) m_Tree_tell 0 [some (qr (18, 8, 2)), some (qi p1), some (qi p2), none] [] σ (kI K) := am_wEF_ok (orc [(11, aC, 20, nC), (18, aC, 20, nC), (25, aC, 20, nC)]) 200 (⟨⟨h.1.1, h.1.2⟩, ⟨fun c1 => ⟨rfl, am_wEF_ok (orc [(1, aC, 20, nC)]) 200 (⟨⟨rfl, hc⟩, ⟨⟨h.1.1, h.1.2⟩, ⟨⟨(h.2.1 c1).1.1, (h.2.1 c1).1.2.1⟩, ⟨⟨rfl, (h.2.1 c1).1.2.2.1, (h.2.1 c1).1.2.2.2⟩, c_ibcI _ (h.2.1 c1).2.1.1 (h.2.1 c1).2.1.2 ((h.2.1 c1).2.2)⟩⟩⟩⟩)⟩, fun c1 => ⟨fun c2 => ⟨⟨rfl, hc⟩, ⟨⟨((h.2.2 c1).1 c2).1.1, ((h.2.2 c1).1 c2).1.2.1⟩, ⟨⟨rfl, ((h.2.2 c1).1 c2).1.2.2.1, ((h.2.2 c1).1 c2).1.2.2.2⟩, ((h.2.2 c1).1 c2).2⟩⟩⟩, fun c2 => ⟨fun c3 => ⟨⟨rfl, hc⟩, ⟨⟨(((h.2.2 c1).2 c2).1 c3).1.1, (((h.2.2 c1).2 c2).1 c3).1.2.1⟩, ⟨⟨rfl, (((h.2.2 c1).2 c2).1 c3).1.2.2.1, (((h.2.2 c1).2 c2).1 c3).1.2.2.2⟩, (((h.2.2 c1).2 c2).1 c3).2⟩⟩⟩, fun c3 => ⟨fun c4 => ⟨⟨rfl, hc⟩, ⟨⟨((((h.2.2 c1).2 c2).2 c3).1 c4).1.1, ((((h.2.2 c1).2 c2).2 c3).1 c4).1.2.1⟩, ⟨⟨rfl, ((((h.2.2 c1).2 c2).2 c3).1 c4).1.2.2.1, ((((h.2.2 c1).2 c2).2 c3).1 c4).1.2.2.2⟩, ((((h.2.2 c1).2 c2).2 c3).1 c4).2⟩⟩⟩, fun c4 => ⟨⟨((((h.2.2 c1).2 c2).2 c3).2 c4).1.1, ((((h.2.2 c1).2 c2).2 c3).2 c4).1.2.1⟩, ⟨⟨((((h.2.2 c1).2 c2).2 c3).2 c4).1.2.2.1, ((((h.2.2 c1).2 c2).2 c3).2 c4).1.2.2.2⟩, ⟨rfl, am_wEF_ok (orc [(1, aC, 20, nC)]) 200 (⟨⟨rfl, hc⟩, ⟨⟨h.1.1, h.1.2⟩, ⟨⟨((((h.2.2 c1).2 c2).2 c3).2 c4).2.1.1, ((((h.2.2 c1).2 c2).2 c3).2 c4).2.1.2.1⟩, ⟨⟨((((h.2.2 c1).2 c2).2 c3).2 c4).2.1.2.2.1, ((((h.2.2 c1).2 c2).2 c3).2 c4).2.1.2.2.2.1⟩, ⟨⟨((((h.2.2 c1).2 c2).2 c3).2 c4).2.1.2.2.2.2.1, ((((h.2.2 c1).2 c2).2 c3).2 c4).2.1.2.2.2.2.2.1⟩, ⟨⟨rfl, ((((h.2.2 c1).2 c2).2 c3).2 c4).2.1.2.2.2.2.2.2.1, ((((h.2.2 c1).2 c2).2 c3).2 c4).2.1.2.2.2.2.2.2.2⟩, ((((h.2.2 c1).2 c2).2 c3).2 c4).2.2⟩⟩⟩⟩⟩⟩)⟩⟩⟩⟩⟩⟩⟩⟩)

theorem v_Tree_coinOf_0 (d : Nat) (aC nC : Nat) (p1 p2 p3 : Int) (σ : am_S) (K : Int → am_S → Prop) (hC : CF σ) (hc : sR σ 18 0 = some (aC, 20, nC)) (h :
  (-2147483648 ≤ p1 * 12 ∧ p1 * 12 < 2147483648) ∧
  (-2147483648 ≤ (p1 * 12) + (if p2 = 0 then (0 : Int) else 1) ∧ (p1 * 12) + (if p2 = 0 then (0 : Int) else 1) < 2147483648 ∧ 0 ≤ ((p1 * 12) + (if p2 = 0 then (0 : Int) else 1)) ∧ ((p1 * 12) + (if p2 = 0 then (0 : Int) else 1)) < ((nC : Nat) : Int)) ∧
  am_Runs PP MLL (d + 1) m_Tree_coinOf 7 [some (qr (18, 8, 2)), some (qi p1), some (qi p2), some (qi p3), some (qi (sI σ aC (Int.toNat ((p1 * 12) + (if p2 = 0 then (0 : Int) else 1))))), some (qi 0)] [] σ (kI K)) : am_Runs PP MLL (d + 1) m_Tree_coinOf 0 [some (qr (18, 8, 2)), some (qi p1), some (qi p2), some (qi p3), none, none] [] σ (kI K) := am_wEF_ok (orc []) 200 (⟨rfl, am_wEC_ok (orc [(1, aC, 20, nC)]) [10] 200 (⟨⟨rfl, hc⟩, ⟨⟨h.1.1, h.1.2⟩, am_use (fun H2 => ⟨fun c1 => (Eq.mp (congrArg (fun z => am_Runs _ _ _ _ _ _ (qi z :: _) _ _) (if_pos c1 : (if p2 = 0 then (0 : Int) else 1) = 0)) H2), fun c1 => (Eq.mp (congrArg (fun z => am_Runs _ _ _ _ _ _ (qi z :: _) _ _) (if_neg c1 : (if p2 = 0 then (0 : Int) else 1) = 1)) H2)⟩) (am_wEC_ok (orc []) [10] 200 (⟨⟨h.2.1.1, h.2.1.2.1⟩, ⟨⟨rfl, h.2.1.2.2.1, h.2.1.2.2.2⟩, h.2.2⟩⟩))⟩⟩)⟩)

theorem v_Tree_coinOf_7 (d : Nat) (aC nC : Nat) (p3 v4 v5 : Int) (z0 z1 z2 : Option am_V) (σ : am_S) (K : Int → am_S → Prop) (hC : CF σ) (hc : sR σ 18 0 = some (aC, 20, nC)) (h :
  ((p3 ≤ v5 →
    am_Calls PP MLL (d + 1) m_Int_numberOfTrailingZeros [qi v4] σ (kI fun x3 s3 =>
      (CF s3 ∧ sR s3 18 0 = some (aC, 20, nC)) ∧
      K x3 s3)) ∧
  (¬ (p3 ≤ v5) →
    (-2147483648 ≤ v4 - 1 ∧ v4 - 1 < 2147483648 ∧ -2147483648 ≤ v5 + 1 ∧ v5 + 1 < 2147483648) ∧
    am_Runs PP MLL (d + 1) m_Tree_coinOf 7 [z0, z1, z2, some (qi p3), some (qi (a_and v4 (v4 - 1))), some (qi (v5 + 1))] [] σ (kI K)))) : am_Runs PP MLL (d + 1) m_Tree_coinOf 7 [z0, z1, z2, some (qi p3), some (qi v4), some (qi v5)] [] σ (kI K) := am_wEF_ok (orc []) 200 (⟨fun c2 => (am_cI (h.1 c2) fun x3 s3 h3 => h3.2), fun c2 => ⟨⟨(h.2 c2).1.1, (h.2 c2).1.2.1⟩, ⟨⟨(h.2 c2).1.2.2.1, (h.2 c2).1.2.2.2⟩, (h.2 c2).2⟩⟩⟩)

theorem BSd_SB {X : sX} {c : Nat → Int} {w : sW} {l r : Nat} (h : SB (gG X c (xN X)) w.2.1 w.2.2 (xN X) l r) : BSd (sdw X c w) (xN X) (xN X) l r := by
  obtain ⟨h1, h2, h3, h4⟩ := h
  refine ⟨h1, h2, fun q => ?_⟩
  have cs : (sdw X c w q = 1 ∧ rkq (gG X c (xN X)) q < w.2.1 (gG X c (xN X) q)) ∨ (sdw X c w q = -1 ∧ w.2.1 (gG X c (xN X) q) ≤ rkq (gG X c (xN X)) q ∧ rkq (gG X c (xN X)) q < w.2.1 (gG X c (xN X) q) + w.2.2 (gG X c (xN X) q)) ∨ (sdw X c w q = 0 ∧ w.2.1 (gG X c (xN X) q) ≤ rkq (gG X c (xN X)) q ∧ w.2.1 (gG X c (xN X) q) + w.2.2 (gG X c (xN X) q) ≤ rkq (gG X c (xN X)) q) := by
    unfold sdw
    by_cases b : rkq (gG X c (xN X)) q < w.2.1 (gG X c (xN X) q)
    · rw [if_pos b]; exact Or.inl ⟨rfl, b⟩
    · rw [if_neg b]
      by_cases e : rkq (gG X c (xN X)) q < w.2.1 (gG X c (xN X) q) + w.2.2 (gG X c (xN X) q)
      · rw [if_pos e]; exact Or.inr (Or.inl ⟨rfl, by omega, e⟩)
      · rw [if_neg e]; exact Or.inr (Or.inr ⟨rfl, by omega, by omega⟩)
  rw [h3 q, h4 q]
  constructor
  · (repeat' split) <;> omega
  · (repeat' split) <;> omega
theorem e_end (d : Nat) {own : Nat → Nat} {aQ k0 p aC nC : Nat} {tr : Nat → Nat} {X : sX} {c0 : Nat → Int} {σ : am_S} {K : Int → am_S → Prop} (hE : SE σ own aQ k0 tr X c0) (hp : p < xM X) (hC : sR σ 18 0 = some (aC, 20, nC)) (hn5 : nC ≤ 144000) : ∀ n (c : Nat → Int) k dp i, 0 ≤ c p → can X n c k → dp + n ≤ 6 → k = k0 + dp → TC X tr (sI σ aC) n c k dp i → 12 * (i + tsz X n c k) ≤ nC → K (wk X p n c k i : Nat) σ → ∀ z4 z5, am_Runs PP MLL (d + 4) m_Search_endOf 4 [some (qr (12, 5, 18)), some (qi (tr p : Int)), some (qi (i : Int)), some (qi (dp : Int)), z4, z5] [] σ (kI K) := by
  obtain ⟨⟨qq, q3, q4, q5, q6⟩, ⟨hX, hcv, hk⟩, ⟨i1, i2, i3, i4, i5, i6⟩, _, ⟨β, μ, κ, ρ, me, nn, b, aH, nH, aL, nL, aY, nY, aS, nS, N, lo, hi', T, kd, b1, b2, b3, b4, b5, b6, b7, b8, b9, b10, b11, b12, b13, b14, b15, b16, b17⟩⟩ := hE
  have leaf : ∀ n (c : Nat → Int) k dp i, ¬ mn X c ≤ 0 → mn X c < 2 → dp ≤ 6 → sI σ aC (12 * i) = 0 → 12 * (i + tsz X n c k) ≤ nC → K (i : Int) σ → ∀ z4 z5, am_Runs PP MLL (d + 4) m_Search_endOf 4 [some (qr (12, 5, 18)), some (qi (tr p : Int)), some (qi (i : Int)), some (qi (dp : Int)), z4, z5] [] σ (kI K) := by
    intro n c k dp i hm m2 hd h0 hn hK z4 z5
    rw [tsz_1 hm m2] at hn
    refine v_Search_endOf_4 d β μ κ ρ me aH nH aL nL aY nY aS nS nn b aC nC _ _ _ z4 z5 σ K b1 b9 b15 hC ⟨fun _ => hK, fun _ => ?_⟩
    rw [show (i : Int) * 12 + 0 = ((12 * i : Nat) : Int) by omega, Int.toNat_natCast, h0]
    exact ⟨by omega, by omega, fun _ => hK, fun q => absurd (by show pc 0 ≤ 0; rw [pc_0]; decide) q⟩
  intro n
  induction n with
  | zero =>
    intro c k dp i hc hcan hd hk' hT hn hK
    exact leaf 0 c k dp i (mn_in hp hc) hcan (by omega) hT.1 hn hK
  | succ n ih =>
    intro c k dp i hc hcan hd hk' hT hn hK z4 z5
    have hm := mn_in hp hc
    by_cases m2 : mn X c < 2
    · rw [wk_1 m2] at hK
      have h0 : sI σ aC (12 * i) = 0 := by
        rcases hT with ⟨_, q⟩ | ⟨q, _⟩
        · exact q.1
        · exact absurd m2 q
      exact leaf (n + 1) c k dp i hm m2 (by omega) h0 hn hK z4 z5
    · rw [wk_s m2] at hK
      rcases hT with ⟨w, _⟩ | ⟨_, t1, ⟨lf, rt, t2, t3, t4⟩, t5, t6⟩
      · exact absurd w m2
      rw [tsz_s m2] at hn
      have hw := wsq_WV hX c _ _ (wsq_at hX (yj_lt hX hcan m2))
      obtain ⟨pw, _⟩ := pc_W hX hw (BSd_SB t4)
      obtain ⟨sd, dis⟩ := SB_sd t4
      obtain ⟨u1, u2, u3⟩ := out_in hX (k := k) (w := (wAt X c (yj X n c k))) hp hc
      have u4 := co_out hX (c := c) (k := k) (w := (wAt X c (yj X n c k))) hp
      have cco := (co_bd u1).1
      have m3 : mn X (chd X c k (wAt X c (yj X n c k)) (oi X k (tl (xK X k) (xD X (sdw X c (wAt X c (yj X n c k))) p)))) ≤ 0 → False := fun q => mn_in hp u3 q
      have bd := hX.2.2.2.1 (sdw X c (wAt X c (yj X n c k))) p (fun q => sdw_pm X c (wAt X c (yj X n c k)) q) hp
      have tb := tl_mo (k := xK X k) bd
      have hmo := oc_37 X k
      obtain ⟨v1, v2, v3⟩ := b17 p hp
      obtain ⟨w1, w2, w3⟩ := b16 (k0 + dp)
      have edf : df (fun q => bt lf q - bt rt q) (sI σ 33) (sI σ 34) (sI σ 35) (tr p) = xD X (sdw X c (wAt X c (yj X n c k))) p := by rw [← v3 _ (fun q => bt_pm lf rt q), hX.2.2.2.2.1 _ (sdw X c (wAt X c (yj X n c k))) p sd]
      refine v_Search_endOf_4 d β μ κ ρ me aH nH aL nL aY nY aS nS nn b aC nC _ _ _ z4 z5 σ K b1 b9 b15 hC ⟨fun q => absurd q (by omega), fun _ => ?_⟩
      rw [show (i : Int) * 12 + 0 = ((12 * i : Nat) : Int) by omega, show (i : Int) * 12 + 1 = ((12 * i + 1 : Nat) : Int) by omega, Int.toNat_natCast, Int.toNat_natCast, t2, t3, Int.toNat_natCast, pw]
      have l4 := t4.1
      have r4 := t4.2.1
      refine ⟨by omega, by omega, fun q => absurd q (by have := hw.1; omega), fun _ => ⟨by omega, ?_⟩⟩
      obtain ⟨H, L, kH, kL, bH, bL, kd1⟩ := k_diff (s := σ) b4 b5 v2 dis rfl rfl
      refine c_difference (d + 2) b1 (by omega) (by omega) kH kL bH bL (by omega) (by omega) ⟨⟨b1, b9, b15, hC⟩, ?_⟩
      rw [kd1, edf]
      refine c_sweigherAt (d + 1) b1.1 b9 b15 b13 b14 i1 (by omega) ⟨⟨b1, b9, b15, hC⟩, rfl, ?_⟩
      refine c_tells d b9 w1 b8 (by omega) ⟨⟨b1, b9, b15, hC⟩, ?_⟩
      rw [← w2, ← hk', show (i : Int) * 12 + 5 + 3 + (tl (xK X k) (xD X (sdw X c (wAt X c (yj X n c k))) p)) = ((12 * i + 5 + co X k (oi X k (tl (xK X k) (xD X (sdw X c (wAt X c (yj X n c k))) p))) : Nat) : Int) by omega, Int.toNat_natCast, ← cl_co u1]
      rcases t5 (oi X k (tl (xK X k) (xD X (sdw X c (wAt X c (yj X n c k))) p))) u1 with ⟨w, _⟩ | ⟨w, t7, t8⟩
      · exact absurd w m3
      rw [t7]
      have e1 := tof_s X n c k (wAt X c (yj X n c k)) (oi X k (tl (xK X k) (xD X (sdw X c (wAt X c (yj X n c k))) p)))
      have m4 : tof X n c k (wAt X c (yj X n c k)) ((oi X k (tl (xK X k) (xD X (sdw X c (wAt X c (yj X n c k))) p))) + 1) ≤ tof X n c k (wAt X c (yj X n c k)) (oc X k) := sN'_mono (by omega)
      have cb := cl_co (i := i) u1
      refine ⟨by rw [cb]; omega, fun q => absurd q (by omega), fun _ => ⟨by omega, ?_⟩⟩
      rw [show (dp : Int) + 1 = ((dp + 1 : Nat) : Int) by omega]
      exact ih _ _ _ _ u3 (ywc hX hcan m2 _ u1) (by omega) (by omega) t8 (by omega) hK _ _
theorem c_tell (d : Nat) {i aC nC : Nat} {w : Int} {σ : am_S} {K : Int → am_S → Prop} (hC : CF σ) (hc : sR σ 18 0 = some (aC, 20, nC)) (hn : nC ≤ 144000) (hi : 12 * i + 12 ≤ nC) (h0 : 0 ≤ sI σ aC (12 * i) ∧ sI σ aC (12 * i) < 4096) (hw : 0 ≤ w ∧ w ≤ 10) (h : K (ndT (sI σ aC) i w) σ) : am_Calls PP MLL (d + 3) m_Tree_tell [qr (18, 8, 2), qi (i : Int), qi w] σ (kI K) := by
  refine v_Tree_tell_0 _ aC nC (i : Int) w σ K hC hc ?_
  unfold ndT at h
  refine ⟨by omega, fun e => ?_, fun e0 => ⟨fun e => ?_, fun e1 => ⟨fun e => ?_, fun e2 => ⟨fun e => ?_, fun e3 => ?_⟩⟩⟩⟩
  · rw [if_pos e] at h
    rw [show (i : Int) * 12 + 0 = ((12 * i : Nat) : Int) by omega, Int.toNat_natCast]
    exact ⟨by omega, by omega, h⟩
  · rw [if_neg e0, e] at h
    rw [show (i : Int) * 12 + 2 = ((12 * i + 1 + 1 : Nat) : Int) by omega, Int.toNat_natCast]
    exact ⟨by omega, h⟩
  · rw [if_neg e0, e] at h
    rw [show (i : Int) * 12 + 3 = ((12 * i + 1 + 2 : Nat) : Int) by omega, Int.toNat_natCast]
    exact ⟨by omega, h⟩
  · rw [if_neg e0, e] at h
    rw [show (i : Int) * 12 + 4 = ((12 * i + 1 + 3 : Nat) : Int) by omega, Int.toNat_natCast]
    exact ⟨by omega, h⟩
  · rw [if_neg e0] at h
    rw [show (i : Int) * 12 + 5 + 3 + (w - 4 - 3) = ((12 * i + 1 + w.toNat : Nat) : Int) by omega, Int.toNat_natCast]
    exact ⟨by omega, by omega, h⟩
