/-! the calls in pairs: what a search tells -/
theorem v_C_isNode_0 (d : Nat) (β μ κ ρ : Nat → Nat) (me : Nat → Nat → Nat) (aH nH aL nL aY nY aS nS n : Nat) (p1 : Int) (σ : am_S) (K : Int → am_S → Prop) (hR : TR σ aH nH aL nL aY nY aS nS) (hB : BS σ β μ κ ρ me n) (h :
  am_Calls PP MLL (d + 1) m_Search_hasTree [qr (12, 5, 18)] σ (kI fun x1 s1 =>
    (TR s1 aH nH aL nL aY nY aS nS ∧ BS s1 β μ κ ρ me n) ∧
    ((if x1 = 0 then (0 : Int) else (if p1 < 0 then (0 : Int) else (if (sI s1 18 1) ≤ p1 then (0 : Int) else 1))) = 0 ∨ (if x1 = 0 then (0 : Int) else (if p1 < 0 then (0 : Int) else (if (sI s1 18 1) ≤ p1 then (0 : Int) else 1))) = 1) ∧
    K (if x1 = 0 then (0 : Int) else (if p1 < 0 then (0 : Int) else (if (sI s1 18 1) ≤ p1 then (0 : Int) else 1))) s1)) : am_Runs PP MLL (d + 1) m_C_isNode 0 [some (qr (2, 11, 10)), some (qi p1)] [] σ (kI K) := am_wEC_ok (orc [(1, 12, 5, 18), (8, 12, 5, 18), (9, 18, 8, 2)]) [15] 200 (⟨⟨rfl, (hR.1 2 3 _ rfl)⟩, ⟨rfl, (am_cI h fun x1 s1 h1 => am_use (fun H5 => ⟨fun c2 => (Eq.mp (congrArg (fun z => am_Runs _ _ _ _ _ _ (qi z :: _) _ _) (if_pos c2 : (if x1 = 0 then (0 : Int) else if p1 < 0 then (0 : Int) else (if (sI s1 18 1) ≤ p1 then (0 : Int) else 1)) = 0)) H5), fun c2 => ⟨fun c3 => (Eq.mp (congrArg (fun z => am_Runs _ _ _ _ _ _ (qi z :: _) _ _) (Eq.trans (if_neg c2 : (if x1 = 0 then (0 : Int) else if p1 < 0 then (0 : Int) else (if (sI s1 18 1) ≤ p1 then (0 : Int) else 1)) = if p1 < 0 then (0 : Int) else (if (sI s1 18 1) ≤ p1 then (0 : Int) else 1)) (if_pos c3 : (if p1 < 0 then (0 : Int) else if (sI s1 18 1) ≤ p1 then (0 : Int) else 1) = 0))) H5), fun c3 => ⟨⟨rfl, (h1.1.1.1 2 3 _ rfl)⟩, ⟨⟨rfl, (h1.1.1.1 12 3 _ rfl)⟩, ⟨rfl, ⟨fun c4 => (Eq.mp (congrArg (fun z => am_Runs _ _ _ _ _ _ (qi z :: _) _ _) (Eq.trans (if_neg c2 : (if x1 = 0 then (0 : Int) else if p1 < 0 then (0 : Int) else (if (sI s1 18 1) ≤ p1 then (0 : Int) else 1)) = if p1 < 0 then (0 : Int) else (if (sI s1 18 1) ≤ p1 then (0 : Int) else 1)) (Eq.trans (if_neg c3 : (if p1 < 0 then (0 : Int) else if (sI s1 18 1) ≤ p1 then (0 : Int) else 1) = if (sI s1 18 1) ≤ p1 then (0 : Int) else 1) (if_pos c4 : (if (sI s1 18 1) ≤ p1 then (0 : Int) else 1) = 0)))) H5), fun c4 => (Eq.mp (congrArg (fun z => am_Runs _ _ _ _ _ _ (qi z :: _) _ _) (Eq.trans (if_neg c2 : (if x1 = 0 then (0 : Int) else if p1 < 0 then (0 : Int) else (if (sI s1 18 1) ≤ p1 then (0 : Int) else 1)) = if p1 < 0 then (0 : Int) else (if (sI s1 18 1) ≤ p1 then (0 : Int) else 1)) (Eq.trans (if_neg c3 : (if p1 < 0 then (0 : Int) else if (sI s1 18 1) ≤ p1 then (0 : Int) else 1) = if (sI s1 18 1) ≤ p1 then (0 : Int) else 1) (if_neg c4 : (if (sI s1 18 1) ≤ p1 then (0 : Int) else 1) = 1)))) H5)⟩⟩⟩⟩⟩⟩) (am_wEC_ok (orc []) [15] 200 (⟨h1.2.1, h1.2.2⟩)))⟩⟩)

theorem v_Tree_coinsOnEach_0 (d : Nat) (β μ κ ρ : Nat → Nat) (me : Nat → Nat → Nat) (aH nH aL nL aY nY aS nS n : Nat) (p1 : Int) (σ : am_S) (K : Int → am_S → Prop) (hR : TR σ aH nH aL nL aY nY aS nS) (hB : BS σ β μ κ ρ me n) (h :
  (-2147483648 ≤ p1 * 12 ∧ p1 * 12 < 2147483648 ∧ -2147483648 ≤ (p1 * 12) + 0 ∧ (p1 * 12) + 0 < 2147483648 ∧ (rg (sR σ 18 0)).2.1 = 20 ∧ 0 ≤ ((p1 * 12) + 0) ∧ ((p1 * 12) + 0) < (((rg (sR σ 18 0)).2.2 : Nat) : Int)) ∧
  (0 ≤ (sI σ ((rg (sR σ 18 0)).1) (Int.toNat ((p1 * 12) + 0))) ∧ (sI σ ((rg (sR σ 18 0)).1) (Int.toNat ((p1 * 12) + 0))) < 1073741824) ∧
  K (pc (Int.toNat (sI σ ((rg (sR σ 18 0)).1) (Int.toNat ((p1 * 12) + 0))))) σ) : am_Runs PP MLL (d + 1) m_Tree_coinsOnEach 0 [some (qr (18, 8, 2)), some (qi p1)] [] σ (kI K) := am_wEF_ok (orc []) 200 (⟨rfl, ⟨⟨h.1.1, h.1.2.1⟩, ⟨⟨h.1.2.2.1, h.1.2.2.2.1⟩, ⟨⟨h.1.2.2.2.2.1, h.1.2.2.2.2.2.1, h.1.2.2.2.2.2.2⟩, c_ibcI _ h.2.1.1 h.2.1.2 (h.2.2)⟩⟩⟩⟩)

theorem v_C_isRow_0 (d : Nat) (β μ κ ρ : Nat → Nat) (me : Nat → Nat → Nat) (aH nH aL nL aY nY aS nS n : Nat) (p1 : Int) (σ : am_S) (K : Int → am_S → Prop) (hR : TR σ aH nH aL nL aY nY aS nS) (hB : BS σ β μ κ ρ me n) (h :
  ((p1 < 0 →
    K 0 σ) ∧
  (¬ (p1 < 0) →
    am_Calls PP MLL (d + 2) m_Search_rowsShown [qr (12, 5, 18)] σ (kI fun x3 s3 =>
      (TR s3 aH nH aL nL aY nY aS nS ∧ BS s3 β μ κ ρ me n) ∧
      ((if x3 ≤ p1 then (0 : Int) else 1) = 0 ∨ (if x3 ≤ p1 then (0 : Int) else 1) = 1) ∧
      K (if x3 ≤ p1 then (0 : Int) else 1) s3)))) : am_Runs PP MLL (d + 2) m_C_isRow 0 [some (qr (2, 11, 10)), some (qi p1)] [] σ (kI K) := am_wEC_ok (orc [(4, 12, 5, 18)]) [10] 200 (⟨fun c2 => am_wEC_ok (orc []) [10] 200 (⟨(Or.inl rfl), (h.1 c2)⟩), fun c2 => ⟨⟨rfl, (hR.1 2 3 _ rfl)⟩, ⟨rfl, (am_cI (h.2 c2) fun x3 s3 h3 => am_use (fun H5 => ⟨fun c4 => (Eq.mp (congrArg (fun z => am_Runs _ _ _ _ _ _ (qi z :: _) _ _) (if_pos c4 : (if x3 ≤ p1 then (0 : Int) else 1) = 0)) H5), fun c4 => (Eq.mp (congrArg (fun z => am_Runs _ _ _ _ _ _ (qi z :: _) _ _) (if_neg c4 : (if x3 ≤ p1 then (0 : Int) else 1) = 1)) H5)⟩) (am_wEC_ok (orc []) [10] 200 (⟨h3.2.1, h3.2.2⟩)))⟩⟩⟩)

theorem v_C_least_0 (d : Nat) (β μ κ ρ : Nat → Nat) (me : Nat → Nat → Nat) (aH nH aL nL aY nY aS nS n : Nat) (σ : am_S) (K : Int → am_S → Prop) (hR : TR σ aH nH aL nL aY nY aS nS) (hB : BS σ β μ κ ρ me n) (h :
  ((sI σ 12 13) = 0 ∨ (sI σ 12 13) = 1) ∧
  K (if (sI σ 12 13) = 0 then ((-1002) : Int) else (sI σ 12 16)) σ) : am_Runs PP MLL (d + 1) m_C_least 0 [some (qr (2, 11, 10))] [] σ (kI K) := am_wEC_ok (orc [(1, 12, 5, 18), (5, 12, 5, 18)]) [9] 200 (⟨⟨rfl, (hR.1 2 3 _ rfl)⟩, ⟨rfl, am_wEF_ok (orc []) 200 (⟨rfl, ⟨h.1, am_use (fun H2 => ⟨fun c1 => (Eq.mp (congrArg (fun z => am_Runs _ _ _ _ _ _ (qi z :: _) _ _) (if_pos c1 : (if (sI σ 12 13) = 0 then ((-1002) : Int) else sI σ 12 16) = (-1002))) H2), fun c1 => ⟨⟨rfl, (hR.1 2 3 _ rfl)⟩, ⟨rfl, (Eq.mp (congrArg (fun z => am_Runs _ _ _ _ _ _ (qi z :: _) _ _) (if_neg c1 : (if (sI σ 12 13) = 0 then ((-1002) : Int) else sI σ 12 16) = sI σ 12 16)) H2)⟩⟩⟩) (am_wEC_ok (orc []) [9] 200 (h.2))⟩⟩)⟩⟩)

theorem v_C_tree_0 (d : Nat) (β μ κ ρ : Nat → Nat) (me : Nat → Nat → Nat) (aH nH aL nL aY nY aS nS n : Nat) (σ : am_S) (K : Int → am_S → Prop) (hR : TR σ aH nH aL nL aY nY aS nS) (hB : BS σ β μ κ ρ me n) (h :
  am_Calls PP MLL (d + 1) m_Search_hasTree [qr (12, 5, 18)] σ (kI fun x1 s1 =>
    (TR s1 aH nH aL nL aY nY aS nS ∧ BS s1 β μ κ ρ me n) ∧
    K (if x1 = 0 then ((-1002) : Int) else (sI s1 18 1)) s1)) : am_Runs PP MLL (d + 1) m_C_tree 0 [some (qr (2, 11, 10))] [] σ (kI K) := am_wEC_ok (orc [(1, 12, 5, 18), (5, 12, 5, 18), (6, 18, 8, 2)]) [10] 200 (⟨⟨rfl, (hR.1 2 3 _ rfl)⟩, ⟨rfl, (am_cI h fun x1 s1 h1 => am_use (fun H3 => ⟨fun c2 => (Eq.mp (congrArg (fun z => am_Runs _ _ _ _ _ _ (qi z :: _) _ _) (if_pos c2 : (if x1 = 0 then ((-1002) : Int) else sI s1 18 1) = (-1002))) H3), fun c2 => ⟨⟨rfl, (h1.1.1.1 2 3 _ rfl)⟩, ⟨⟨rfl, (h1.1.1.1 12 3 _ rfl)⟩, ⟨rfl, (Eq.mp (congrArg (fun z => am_Runs _ _ _ _ _ _ (qi z :: _) _ _) (if_neg c2 : (if x1 = 0 then ((-1002) : Int) else sI s1 18 1) = sI s1 18 1)) H3)⟩⟩⟩⟩) (am_wEC_ok (orc []) [10] 200 (h1.2)))⟩⟩)

theorem v_C_node_0 (d : Nat) (β μ κ ρ : Nat → Nat) (me : Nat → Nat → Nat) (aH nH aL nL aY nY aS nS n : Nat) (p1 p2 : Int) (σ : am_S) (K : Int → am_S → Prop) (hR : TR σ aH nH aL nL aY nY aS nS) (hB : BS σ β μ κ ρ me n) (h :
  am_Calls PP MLL (d + 3) m_C_isNode [qr (2, 11, 10), qi p1] σ (kI fun x1 s1 =>
    (TR s1 aH nH aL nL aY nY aS nS ∧ BS s1 β μ κ ρ me n) ∧
    ((x1 = 0 →
      K (-1001) s1) ∧
    (¬ (x1 = 0) →
      ((p2 < 0 →
        K (-1001) s1) ∧
      (¬ (p2 < 0) →
        ((p2 ≤ 10 →
          am_Calls PP MLL (d + 3) m_Tree_tell [qr (18, 8, 2), qi p1, qi p2] s1 (kI fun x5 s5 =>
            (TR s5 aH nH aL nL aY nY aS nS ∧ BS s5 β μ κ ρ me n) ∧
            K x5 s5)) ∧
        (¬ (p2 ≤ 10) →
          K (-1001) s1)))))))) : am_Runs PP MLL (d + 3) m_C_node 0 [some (qr (2, 11, 10)), some (qi p1), some (qi p2)] [] σ (kI K) := am_wEF_ok (orc [(12, 12, 5, 18), (13, 18, 8, 2)]) 200 (⟨rfl, (am_cI h fun x1 s1 h1 => ⟨fun c2 => (h1.2.1 c2), fun c2 => ⟨fun c3 => ((h1.2.2 c2).1 c3), fun c3 => ⟨fun c4 => ⟨⟨rfl, (h1.1.1.1 2 3 _ rfl)⟩, ⟨⟨rfl, (h1.1.1.1 12 3 _ rfl)⟩, ⟨rfl, (am_cI (((h1.2.2 c2).2 c3).1 c4) fun x5 s5 h5 => h5.2)⟩⟩⟩, fun c4 => (((h1.2.2 c2).2 c3).2 c4)⟩⟩⟩)⟩)

theorem v_C_nodeCoin_0 (d : Nat) (β μ κ ρ : Nat → Nat) (me : Nat → Nat → Nat) (aH nH aL nL aY nY aS nS n : Nat) (p1 p2 p3 : Int) (σ : am_S) (K : Int → am_S → Prop) (hR : TR σ aH nH aL nL aY nY aS nS) (hB : BS σ β μ κ ρ me n) (h :
  am_Calls PP MLL (d + 2) m_C_isNode [qr (2, 11, 10), qi p1] σ (kI fun x1 s1 =>
    (TR s1 aH nH aL nL aY nY aS nS ∧ BS s1 β μ κ ρ me n) ∧
    ((x1 = 0 →
      K (-1001) s1) ∧
    (¬ (x1 = 0) →
      ((p2 = 0 →
        ((p3 < 0 →
          K (-1001) s1) ∧
        (¬ (p3 < 0) →
          am_Calls PP MLL (d + 2) m_Tree_coinsOnEach [qr (18, 8, 2), qi p1] s1 (kI fun x5 s5 =>
            (TR s5 aH nH aL nL aY nY aS nS ∧ BS s5 β μ κ ρ me n) ∧
            ((p3 < x5 →
              am_Calls PP MLL (d + 2) m_Tree_coinOf [qr (18, 8, 2), qi p1, qi p2, qi p3] s5 (kI fun x7 s7 =>
                (TR s7 aH nH aL nL aY nY aS nS ∧ BS s7 β μ κ ρ me n) ∧
                K x7 s7)) ∧
            (¬ (p3 < x5) →
              K (-1001) s5)))))) ∧
      (¬ (p2 = 0) →
        ((p2 = 1 →
          ((p3 < 0 →
            K (-1001) s1) ∧
          (¬ (p3 < 0) →
            am_Calls PP MLL (d + 2) m_Tree_coinsOnEach [qr (18, 8, 2), qi p1] s1 (kI fun x10 s10 =>
              (TR s10 aH nH aL nL aY nY aS nS ∧ BS s10 β μ κ ρ me n) ∧
              ((p3 < x10 →
                am_Calls PP MLL (d + 2) m_Tree_coinOf [qr (18, 8, 2), qi p1, qi p2, qi p3] s10 (kI fun x12 s12 =>
                  (TR s12 aH nH aL nL aY nY aS nS ∧ BS s12 β μ κ ρ me n) ∧
                  K x12 s12)) ∧
              (¬ (p3 < x10) →
                K (-1001) s10)))))) ∧
        (¬ (p2 = 1) →
          K (-1001) s1)))))))) : am_Runs PP MLL (d + 2) m_C_nodeCoin 0 [some (qr (2, 11, 10)), some (qi p1), some (qi p2), some (qi p3)] [] σ (kI K) := am_wEF_ok (orc [(11, 12, 5, 18), (12, 18, 8, 2), (19, 12, 5, 18), (20, 18, 8, 2)]) 200 (⟨rfl, (am_cI h fun x1 s1 h1 => ⟨fun c2 => (h1.2.1 c2), fun c2 => am_wEF_ok (orc []) 200 (⟨fun c3 => ⟨(Or.inr rfl), ⟨fun c => absurd c (by decide : ¬ ((1 : Int) = 0)), fun _ => ⟨fun c4 => (((h1.2.2 c2).1 c3).1 c4), fun c4 => ⟨⟨rfl, (h1.1.1.1 2 3 _ rfl)⟩, ⟨⟨rfl, (h1.1.1.1 12 3 _ rfl)⟩, ⟨rfl, (am_cI (((h1.2.2 c2).1 c3).2 c4) fun x5 s5 h5 => ⟨fun c6 => ⟨⟨rfl, (h5.1.1.1 2 3 _ rfl)⟩, ⟨⟨rfl, (h5.1.1.1 12 3 _ rfl)⟩, ⟨rfl, (am_cI (h5.2.1 c6) fun x7 s7 h7 => h7.2)⟩⟩⟩, fun c6 => (h5.2.2 c6)⟩)⟩⟩⟩⟩⟩⟩, fun c3 => ⟨fun c8 => ⟨(Or.inr rfl), ⟨fun c => absurd c (by decide : ¬ ((1 : Int) = 0)), fun _ => ⟨fun c9 => ((((h1.2.2 c2).2 c3).1 c8).1 c9), fun c9 => ⟨⟨rfl, (h1.1.1.1 2 3 _ rfl)⟩, ⟨⟨rfl, (h1.1.1.1 12 3 _ rfl)⟩, ⟨rfl, (am_cI ((((h1.2.2 c2).2 c3).1 c8).2 c9) fun x10 s10 h10 => ⟨fun c11 => ⟨⟨rfl, (h10.1.1.1 2 3 _ rfl)⟩, ⟨⟨rfl, (h10.1.1.1 12 3 _ rfl)⟩, ⟨rfl, (am_cI (h10.2.1 c11) fun x12 s12 h12 => h12.2)⟩⟩⟩, fun c11 => (h10.2.2 c11)⟩)⟩⟩⟩⟩⟩⟩, fun c8 => ⟨(Or.inl rfl), ⟨fun _ => (((h1.2.2 c2).2 c3).2 c8), fun c => absurd (by decide : (0 : Int) = 0) c⟩⟩⟩⟩)⟩)⟩)

theorem v_C_walk_0 (d : Nat) (β μ κ ρ : Nat → Nat) (me : Nat → Nat → Nat) (aH nH aL nL aY nY aS nS n : Nat) (p1 : Int) (σ : am_S) (K : Int → am_S → Prop) (hR : TR σ aH nH aL nL aY nY aS nS) (hB : BS σ β μ κ ρ me n) (h :
  ((p1 < 0 →
    K (-1001) σ) ∧
  (¬ (p1 < 0) →
    (((sI σ 3 1) ≤ p1 →
      K (-1001) σ) ∧
    (¬ ((sI σ 3 1) ≤ p1) →
      (0 ≤ p1 ∧ p1 < ((nS : Nat) : Int)) ∧
      (((sI σ aS (Int.toNat p1)) = 0 →
        am_Calls PP MLL (d + 5) m_Search_hasTree [qr (12, 5, 18)] σ (kI fun x4 s4 =>
          (TR s4 aH nH aL nL aY nY aS nS ∧ BS s4 β μ κ ρ me n) ∧
          ((x4 = 0 →
            K (-1002) s4) ∧
          (¬ (x4 = 0) →
            am_Calls PP MLL (d + 5) m_Search_endOf [qr (12, 5, 18), qi p1] s4 (kI fun x6 s6 =>
              (TR s6 aH nH aL nL aY nY aS nS ∧ BS s6 β μ κ ρ me n) ∧
              K x6 s6))))) ∧
      (¬ ((sI σ aS (Int.toNat p1)) = 0) →
        K (-1001) σ))))))) : am_Runs PP MLL (d + 5) m_C_walk 0 [some (qr (2, 11, 10)), some (qi p1)] [] σ (kI K) := am_wEF_ok (orc [(5, 3, 9, 11), (12, 12, 5, 18), (18, 12, 5, 18)]) 200 (⟨rfl, am_wEF_ok (orc [(4, 3, 9, 11)]) 200 (⟨fun c1 => ⟨(Or.inl rfl), ⟨fun _ => (h.1 c1), fun c => absurd (by decide : (0 : Int) = 0) c⟩⟩, fun c1 => ⟨⟨rfl, (hR.1 2 0 _ rfl)⟩, ⟨rfl, ⟨fun c2 => ⟨(Or.inl rfl), ⟨fun _ => ((h.2 c1).1 c2), fun c => absurd (by decide : (0 : Int) = 0) c⟩⟩, fun c2 => ⟨(Or.inr rfl), ⟨fun c => absurd c (by decide : ¬ ((1 : Int) = 0)), fun _ => ⟨⟨rfl, (hR.1 2 0 _ rfl)⟩, ⟨rfl, am_wEF_ok (orc [(1, aS, 20, nS)]) 200 (⟨⟨rfl, hR.2.2.2.2⟩, ⟨⟨rfl, ((h.2 c1).2 c2).1.1, ((h.2 c1).2 c2).1.2⟩, ⟨fun c3 => ⟨(Or.inr rfl), ⟨fun c => absurd c (by decide : ¬ ((1 : Int) = 0)), fun _ => ⟨⟨rfl, (hR.1 2 3 _ rfl)⟩, ⟨rfl, (am_cI (((h.2 c1).2 c2).2.1 c3) fun x4 s4 h4 => ⟨fun c5 => (h4.2.1 c5), fun c5 => ⟨⟨rfl, (h4.1.1.1 2 3 _ rfl)⟩, ⟨rfl, (am_cI (h4.2.2 c5) fun x6 s6 h6 => h6.2)⟩⟩⟩)⟩⟩⟩⟩, fun c3 => ⟨(Or.inl rfl), ⟨fun _ => (((h.2 c1).2 c2).2.2 c3), fun c => absurd (by decide : (0 : Int) = 0) c⟩⟩⟩⟩⟩)⟩⟩⟩⟩⟩⟩⟩⟩)⟩)

theorem v_C_row_0 (d : Nat) (β μ κ ρ : Nat → Nat) (me : Nat → Nat → Nat) (aH nH aL nL aY nY aS nS n : Nat) (p1 p2 : Int) (σ : am_S) (K : Int → am_S → Prop) (hR : TR σ aH nH aL nL aY nY aS nS) (hB : BS σ β μ κ ρ me n) (h :
  am_Calls PP MLL (d + 3) m_C_isRow [qr (2, 11, 10), qi p1] σ (kI fun x1 s1 =>
    (TR s1 aH nH aL nL aY nY aS nS ∧ BS s1 β μ κ ρ me n) ∧
    ((x1 = 0 →
      K (-1001) s1) ∧
    (¬ (x1 = 0) →
      ((p2 < 0 →
        K (-1001) s1) ∧
      (¬ (p2 < 0) →
        ((p2 ≤ 1 →
          (((p2 = 0) → (rg (sR s1 12 5)).2.1 = 4) ∧ ((p2 = 0) → (rg (sR s1 ((rg (sR s1 12 5)).1) 0)).2.1 = 20) ∧ ((p2 = 0) → 0 ≤ p1) ∧ ((p2 = 0) → p1 < (((rg (sR s1 ((rg (sR s1 12 5)).1) 0)).2.2 : Nat) : Int)) ∧ (¬ (p2 = 0) → (rg (sR s1 12 5)).2.1 = 4) ∧ (¬ (p2 = 0) → (rg (sR s1 ((rg (sR s1 12 5)).1) 1)).2.1 = 20) ∧ (¬ (p2 = 0) → 0 ≤ p1) ∧ (¬ (p2 = 0) → p1 < (((rg (sR s1 ((rg (sR s1 12 5)).1) 1)).2.2 : Nat) : Int))) ∧
          K (if p2 = 0 then (sI s1 ((rg (sR s1 ((rg (sR s1 12 5)).1) 0)).1) (Int.toNat p1) : Int) else (sI s1 ((rg (sR s1 ((rg (sR s1 12 5)).1) 1)).1) (Int.toNat p1))) s1) ∧
        (¬ (p2 ≤ 1) →
          K (-1001) s1)))))))) : am_Runs PP MLL (d + 3) m_C_row 0 [some (qr (2, 11, 10)), some (qi p1), some (qi p2)] [] σ (kI K) := am_wEC_ok (orc [(14, 12, 5, 18), (21, 12, 5, 18)]) [26] 200 (⟨rfl, (am_cI h fun x1 s1 h1 => ⟨fun c2 => (h1.2.1 c2), fun c2 => ⟨fun c3 => ((h1.2.2 c2).1 c3), fun c3 => ⟨fun c4 => am_use (fun H6 => ⟨fun c5 => ⟨⟨rfl, (h1.1.1.1 2 3 _ rfl)⟩, ⟨rfl, ⟨((((h1.2.2 c2).2 c3).1 c4).1.1 c5), ⟨⟨((((h1.2.2 c2).2 c3).1 c4).1.2.1 c5), ((((h1.2.2 c2).2 c3).1 c4).1.2.2.1 c5), ((((h1.2.2 c2).2 c3).1 c4).1.2.2.2.1 c5)⟩, (Eq.mp (congrArg (fun z => am_Runs _ _ _ _ _ _ (qi z :: _) _ _) (if_pos c5 : (if p2 = 0 then (sI s1 ((rg (sR s1 ((rg (sR s1 12 5)).1) 0)).1) (Int.toNat p1) : Int) else sI s1 ((rg (sR s1 ((rg (sR s1 12 5)).1) 1)).1) (Int.toNat p1)) = sI s1 ((rg (sR s1 ((rg (sR s1 12 5)).1) 0)).1) (Int.toNat p1))) H6)⟩⟩⟩⟩, fun c5 => ⟨⟨rfl, (h1.1.1.1 2 3 _ rfl)⟩, ⟨rfl, ⟨((((h1.2.2 c2).2 c3).1 c4).1.2.2.2.2.1 c5), ⟨⟨((((h1.2.2 c2).2 c3).1 c4).1.2.2.2.2.2.1 c5), ((((h1.2.2 c2).2 c3).1 c4).1.2.2.2.2.2.2.1 c5), ((((h1.2.2 c2).2 c3).1 c4).1.2.2.2.2.2.2.2 c5)⟩, (Eq.mp (congrArg (fun z => am_Runs _ _ _ _ _ _ (qi z :: _) _ _) (if_neg c5 : (if p2 = 0 then (sI s1 ((rg (sR s1 ((rg (sR s1 12 5)).1) 0)).1) (Int.toNat p1) : Int) else sI s1 ((rg (sR s1 ((rg (sR s1 12 5)).1) 1)).1) (Int.toNat p1)) = sI s1 ((rg (sR s1 ((rg (sR s1 12 5)).1) 1)).1) (Int.toNat p1))) H6)⟩⟩⟩⟩⟩) (am_wEC_ok (orc []) [26] 200 ((((h1.2.2 c2).2 c3).1 c4).2)), fun c4 => (((h1.2.2 c2).2 c3).2 c4)⟩⟩⟩)⟩)

theorem v_M_least_0 (d : Nat) (σ : am_S) (K : Int → am_S → Prop) (hF : MF σ) (hT : sI σ 31 26 = 0) (h :
  K (if (sI σ 31 34) = 0 then ((-1002) : Int) else (sI σ 31 35)) σ) : am_Runs PP MLL d m_M_least 0 [some (qr (31, 12, 89))] [] σ (kI K) := am_wEC_ok (orc []) [7] 200 (⟨rfl, am_use (fun H2 => ⟨fun c1 => (Eq.mp (congrArg (fun z => am_Runs _ _ _ _ _ _ (qi z :: _) _ _) (if_pos c1 : (if (sI σ 31 34) = 0 then ((-1002) : Int) else sI σ 31 35) = (-1002))) H2), fun c1 => ⟨rfl, (Eq.mp (congrArg (fun z => am_Runs _ _ _ _ _ _ (qi z :: _) _ _) (if_neg c1 : (if (sI σ 31 34) = 0 then ((-1002) : Int) else sI σ 31 35) = sI σ 31 35)) H2)⟩⟩) (am_wEC_ok (orc []) [7] 200 (h))⟩)

theorem v_M_tree_0 (d : Nat) (σ : am_S) (K : Int → am_S → Prop) (hF : MF σ) (hT : sI σ 31 26 = 0) (h :
  K (if (sI σ 31 73) ≤ 0 then ((-1002) : Int) else (sI σ 31 73)) σ) : am_Runs PP MLL d m_M_tree 0 [some (qr (31, 12, 89))] [] σ (kI K) := am_wEC_ok (orc []) [7] 200 (⟨rfl, am_use (fun H2 => ⟨fun c1 => (Eq.mp (congrArg (fun z => am_Runs _ _ _ _ _ _ (qi z :: _) _ _) (if_pos c1 : (if (sI σ 31 73) ≤ 0 then ((-1002) : Int) else sI σ 31 73) = (-1002))) H2), fun c1 => ⟨rfl, (Eq.mp (congrArg (fun z => am_Runs _ _ _ _ _ _ (qi z :: _) _ _) (if_neg c1 : (if (sI σ 31 73) ≤ 0 then ((-1002) : Int) else sI σ 31 73) = sI σ 31 73)) H2)⟩⟩) (am_wEC_ok (orc []) [7] 200 (h))⟩)

theorem v_M_row_0 (d : Nat) (p1 p2 : Int) (σ : am_S) (K : Int → am_S → Prop) (hF : MF σ) (hT : sI σ 31 26 = 0) (h :
  (-2147483648 ≤ (sI σ 31 76) - 1 ∧ (sI σ 31 76) - 1 < 2147483648) ∧
  ((p1 < 0 →
    K (-1001) σ) ∧
  (¬ (p1 < 0) →
    ((((sI σ 31 76) - 1) < p1 →
      K (-1001) σ) ∧
    (¬ (((sI σ 31 76) - 1) < p1) →
      ((p2 < 0 →
        K (-1001) σ) ∧
      (¬ (p2 < 0) →
        ((1 < p2 →
          K (-1001) σ) ∧
        (¬ (1 < p2) →
          (((p2 = 0) → 0 ≤ p1) ∧ ((p2 = 0) → p1 < 600) ∧ (¬ (p2 = 0) → 0 ≤ p1) ∧ (¬ (p2 = 0) → p1 < 600)) ∧
          K (if p2 = 0 then (sI σ 81 (Int.toNat p1) : Int) else (sI σ 82 (Int.toNat p1))) σ))))))))) : am_Runs PP MLL (d + 2) m_M_row 0 [some (qr (31, 12, 89)), some (qi p1), some (qi p2)] [] σ (kI K) := am_wEC_ok (orc [(10, 81, 20, 600), (15, 82, 20, 600)]) [18] 200 (⟨rfl, am_wEF_ok (orc []) 200 (⟨rfl, ⟨⟨h.1.1, h.1.2⟩, am_wEF_ok (orc []) 200 (⟨fun c1 => ⟨(Or.inl rfl), ⟨fun _ => ⟨(Or.inl rfl), ⟨fun _ => am_wEC_ok (orc []) [18] 200 ((h.2.1 c1)), fun c => absurd (by decide : (0 : Int) = 0) c⟩⟩, fun c => absurd (by decide : (0 : Int) = 0) c⟩⟩, fun c1 => ⟨fun c2 => ⟨(Or.inl rfl), ⟨fun _ => ⟨(Or.inl rfl), ⟨fun _ => am_wEC_ok (orc []) [18] 200 (((h.2.2 c1).1 c2)), fun c => absurd (by decide : (0 : Int) = 0) c⟩⟩, fun c => absurd (by decide : (0 : Int) = 0) c⟩⟩, fun c2 => ⟨(Or.inr rfl), ⟨fun c => absurd c (by decide : ¬ ((1 : Int) = 0)), fun _ => am_wEF_ok (orc []) 200 (⟨fun c3 => ⟨(Or.inl rfl), ⟨fun _ => ⟨(Or.inl rfl), ⟨fun _ => am_wEC_ok (orc []) [18] 200 ((((h.2.2 c1).2 c2).1 c3)), fun c => absurd (by decide : (0 : Int) = 0) c⟩⟩, fun c => absurd (by decide : (0 : Int) = 0) c⟩⟩, fun c3 => ⟨fun c4 => ⟨(Or.inl rfl), ⟨fun _ => ⟨(Or.inl rfl), ⟨fun _ => am_wEC_ok (orc []) [18] 200 (((((h.2.2 c1).2 c2).2 c3).1 c4)), fun c => absurd (by decide : (0 : Int) = 0) c⟩⟩, fun c => absurd (by decide : (0 : Int) = 0) c⟩⟩, fun c4 => ⟨(Or.inr rfl), ⟨fun c => absurd c (by decide : ¬ ((1 : Int) = 0)), fun _ => ⟨(Or.inr rfl), ⟨fun c => absurd c (by decide : ¬ ((1 : Int) = 0)), fun _ => am_use (fun H6 => ⟨fun c5 => ⟨⟨rfl, (hF 79)⟩, ⟨⟨rfl, (((((h.2.2 c1).2 c2).2 c3).2 c4).1.1 c5), (((((h.2.2 c1).2 c2).2 c3).2 c4).1.2.1 c5)⟩, (Eq.mp (congrArg (fun z => am_Runs _ _ _ _ _ _ (qi z :: _) _ _) (if_pos c5 : (if p2 = 0 then (sI σ 81 (Int.toNat p1) : Int) else sI σ 82 (Int.toNat p1)) = sI σ 81 (Int.toNat p1))) H6)⟩⟩, fun c5 => ⟨⟨rfl, (hF 80)⟩, ⟨⟨rfl, (((((h.2.2 c1).2 c2).2 c3).2 c4).1.2.2.1 c5), (((((h.2.2 c1).2 c2).2 c3).2 c4).1.2.2.2 c5)⟩, (Eq.mp (congrArg (fun z => am_Runs _ _ _ _ _ _ (qi z :: _) _ _) (if_neg c5 : (if p2 = 0 then (sI σ 81 (Int.toNat p1) : Int) else sI σ 82 (Int.toNat p1)) = sI σ 82 (Int.toNat p1))) H6)⟩⟩⟩) (am_wEC_ok (orc []) [18] 200 (((((h.2.2 c1).2 c2).2 c3).2 c4).2))⟩⟩⟩⟩⟩⟩)⟩⟩⟩⟩)⟩⟩)⟩)

theorem v_M_nodeT_0 (d : Nat) (p1 p2 : Int) (σ : am_S) (K : Int → am_S → Prop) (hF : MF σ) (hT : sI σ 31 26 = 0) (h :
  (-2147483648 ≤ (sI σ 31 73) - 1 ∧ (sI σ 31 73) - 1 < 2147483648) ∧
  ((p1 < 0 →
    K (-1001) σ) ∧
  (¬ (p1 < 0) →
    ((((sI σ 31 73) - 1) < p1 →
      K (-1001) σ) ∧
    (¬ (((sI σ 31 73) - 1) < p1) →
      ((p2 < 0 →
        K (-1001) σ) ∧
      (¬ (p2 < 0) →
        ((10 < p2 →
          K (-1001) σ) ∧
        (¬ (10 < p2) →
          (0 ≤ p1 ∧ p1 < 6000) ∧
          ((p2 ≤ 3 →
            (((p2 = 0) → 0 ≤ (sI σ 78 (Int.toNat p1))) ∧ ((p2 = 0) → (sI σ 78 (Int.toNat p1)) < 6000) ∧ (¬ (p2 = 0) → ((p2 = 1) → 0 ≤ (sI σ 78 (Int.toNat p1)))) ∧ (¬ (p2 = 0) → ((p2 = 1) → (sI σ 78 (Int.toNat p1)) < 6000)) ∧ (¬ (p2 = 0) → (¬ (p2 = 1) → ((p2 = 2) → 0 ≤ (sI σ 78 (Int.toNat p1))))) ∧ (¬ (p2 = 0) → (¬ (p2 = 1) → ((p2 = 2) → (sI σ 78 (Int.toNat p1)) < 6000))) ∧ (¬ (p2 = 0) → (¬ (p2 = 1) → (¬ (p2 = 2) → 0 ≤ (sI σ 78 (Int.toNat p1))))) ∧ (¬ (p2 = 0) → (¬ (p2 = 1) → (¬ (p2 = 2) → (sI σ 78 (Int.toNat p1)) < 6000)))) ∧
            K (if p2 = 0 then (sI σ 67 (Int.toNat (sI σ 78 (Int.toNat p1))) : Int) else (if p2 = 1 then (sI σ 70 (Int.toNat (sI σ 78 (Int.toNat p1))) : Int) else (if p2 = 2 then (sI σ 71 (Int.toNat (sI σ 78 (Int.toNat p1))) : Int) else (sI σ 72 (Int.toNat (sI σ 78 (Int.toNat p1))))))) σ) ∧
          (¬ (p2 ≤ 3) →
            (-2147483648 ≤ 7 * (sI σ 78 (Int.toNat p1)) ∧ 7 * (sI σ 78 (Int.toNat p1)) < 2147483648 ∧ -2147483648 ≤ (7 * (sI σ 78 (Int.toNat p1))) + p2 ∧ (7 * (sI σ 78 (Int.toNat p1))) + p2 < 2147483648 ∧ -2147483648 ≤ ((7 * (sI σ 78 (Int.toNat p1))) + p2) - 4 ∧ ((7 * (sI σ 78 (Int.toNat p1))) + p2) - 4 < 2147483648 ∧ 0 ≤ (((7 * (sI σ 78 (Int.toNat p1))) + p2) - 4) ∧ (((7 * (sI σ 78 (Int.toNat p1))) + p2) - 4) < 42000) ∧
            ((0 ≤ (sI σ 77 (Int.toNat (((7 * (sI σ 78 (Int.toNat p1))) + p2) - 4)))) → (sI σ 77 (Int.toNat (((7 * (sI σ 78 (Int.toNat p1))) + p2) - 4))) < 6000) ∧
            K (if 0 ≤ (sI σ 77 (Int.toNat (((7 * (sI σ 78 (Int.toNat p1))) + p2) - 4))) then (sI σ 75 (Int.toNat (sI σ 77 (Int.toNat (((7 * (sI σ 78 (Int.toNat p1))) + p2) - 4)))) : Int) else (-1000)) σ))))))))))) : am_Runs PP MLL (d + 1) m_M_node 0 [some (qr (31, 12, 89)), some (qi p1), some (qi p2), none, none] [] σ (kI K) := am_wEC_ok (orc [(16, 78, 20, 6000), (24, 77, 20, 42000), (39, 75, 20, 6000), (46, 67, 20, 6000), (54, 70, 20, 6000), (62, 71, 20, 6000), (67, 72, 20, 6000)]) [42, 70] 200 (⟨rfl, ⟨⟨h.1.1, h.1.2⟩, am_wEF_ok (orc []) 200 (⟨fun c1 => ⟨(Or.inl rfl), ⟨fun _ => (h.2.1 c1), fun c => absurd (by decide : (0 : Int) = 0) c⟩⟩, fun c1 => ⟨fun c2 => ⟨(Or.inl rfl), ⟨fun _ => ((h.2.2 c1).1 c2), fun c => absurd (by decide : (0 : Int) = 0) c⟩⟩, fun c2 => ⟨(Or.inr rfl), ⟨fun c => absurd c (by decide : ¬ ((1 : Int) = 0)), fun _ => am_wEF_ok (orc []) 200 (⟨fun c3 => ⟨(Or.inl rfl), ⟨fun _ => (((h.2.2 c1).2 c2).1 c3), fun c => absurd (by decide : (0 : Int) = 0) c⟩⟩, fun c3 => ⟨fun c4 => ⟨(Or.inl rfl), ⟨fun _ => ((((h.2.2 c1).2 c2).2 c3).1 c4), fun c => absurd (by decide : (0 : Int) = 0) c⟩⟩, fun c4 => ⟨(Or.inr rfl), ⟨fun c => absurd c (by decide : ¬ ((1 : Int) = 0)), fun _ => ⟨⟨rfl, (hF 72)⟩, ⟨⟨rfl, ((((h.2.2 c1).2 c2).2 c3).2 c4).1.1, ((((h.2.2 c1).2 c2).2 c3).2 c4).1.2⟩, ⟨fun c5 => am_use (fun H9 => ⟨fun c6 => ⟨⟨rfl, (hF 61)⟩, ⟨⟨rfl, ((((((h.2.2 c1).2 c2).2 c3).2 c4).2.1 c5).1.1 c6), ((((((h.2.2 c1).2 c2).2 c3).2 c4).2.1 c5).1.2.1 c6)⟩, (Eq.mp (congrArg (fun z => am_Runs _ _ _ _ _ _ (qi z :: _) _ _) (if_pos c6 : (if p2 = 0 then (sI σ 67 (Int.toNat (sI σ 78 (Int.toNat p1))) : Int) else if p2 = 1 then (sI σ 70 (Int.toNat (sI σ 78 (Int.toNat p1))) : Int) else (if p2 = 2 then (sI σ 71 (Int.toNat (sI σ 78 (Int.toNat p1))) : Int) else (sI σ 72 (Int.toNat (sI σ 78 (Int.toNat p1)))))) = sI σ 67 (Int.toNat (sI σ 78 (Int.toNat p1))))) H9)⟩⟩, fun c6 => ⟨fun c7 => ⟨⟨rfl, (hF 64)⟩, ⟨⟨rfl, (((((((h.2.2 c1).2 c2).2 c3).2 c4).2.1 c5).1.2.2.1 c6) c7), (((((((h.2.2 c1).2 c2).2 c3).2 c4).2.1 c5).1.2.2.2.1 c6) c7)⟩, (Eq.mp (congrArg (fun z => am_Runs _ _ _ _ _ _ (qi z :: _) _ _) (Eq.trans (if_neg c6 : (if p2 = 0 then (sI σ 67 (Int.toNat (sI σ 78 (Int.toNat p1))) : Int) else if p2 = 1 then (sI σ 70 (Int.toNat (sI σ 78 (Int.toNat p1))) : Int) else (if p2 = 2 then (sI σ 71 (Int.toNat (sI σ 78 (Int.toNat p1))) : Int) else (sI σ 72 (Int.toNat (sI σ 78 (Int.toNat p1)))))) = if p2 = 1 then (sI σ 70 (Int.toNat (sI σ 78 (Int.toNat p1))) : Int) else (if p2 = 2 then (sI σ 71 (Int.toNat (sI σ 78 (Int.toNat p1))) : Int) else (sI σ 72 (Int.toNat (sI σ 78 (Int.toNat p1)))))) (if_pos c7 : (if p2 = 1 then (sI σ 70 (Int.toNat (sI σ 78 (Int.toNat p1))) : Int) else if p2 = 2 then (sI σ 71 (Int.toNat (sI σ 78 (Int.toNat p1))) : Int) else (sI σ 72 (Int.toNat (sI σ 78 (Int.toNat p1))))) = sI σ 70 (Int.toNat (sI σ 78 (Int.toNat p1)))))) H9)⟩⟩, fun c7 => ⟨fun c8 => ⟨⟨rfl, (hF 65)⟩, ⟨⟨rfl, ((((((((h.2.2 c1).2 c2).2 c3).2 c4).2.1 c5).1.2.2.2.2.1 c6) c7) c8), ((((((((h.2.2 c1).2 c2).2 c3).2 c4).2.1 c5).1.2.2.2.2.2.1 c6) c7) c8)⟩, (Eq.mp (congrArg (fun z => am_Runs _ _ _ _ _ _ (qi z :: _) _ _) (Eq.trans (if_neg c6 : (if p2 = 0 then (sI σ 67 (Int.toNat (sI σ 78 (Int.toNat p1))) : Int) else if p2 = 1 then (sI σ 70 (Int.toNat (sI σ 78 (Int.toNat p1))) : Int) else (if p2 = 2 then (sI σ 71 (Int.toNat (sI σ 78 (Int.toNat p1))) : Int) else (sI σ 72 (Int.toNat (sI σ 78 (Int.toNat p1)))))) = if p2 = 1 then (sI σ 70 (Int.toNat (sI σ 78 (Int.toNat p1))) : Int) else (if p2 = 2 then (sI σ 71 (Int.toNat (sI σ 78 (Int.toNat p1))) : Int) else (sI σ 72 (Int.toNat (sI σ 78 (Int.toNat p1)))))) (Eq.trans (if_neg c7 : (if p2 = 1 then (sI σ 70 (Int.toNat (sI σ 78 (Int.toNat p1))) : Int) else if p2 = 2 then (sI σ 71 (Int.toNat (sI σ 78 (Int.toNat p1))) : Int) else (sI σ 72 (Int.toNat (sI σ 78 (Int.toNat p1))))) = if p2 = 2 then (sI σ 71 (Int.toNat (sI σ 78 (Int.toNat p1))) : Int) else (sI σ 72 (Int.toNat (sI σ 78 (Int.toNat p1))))) (if_pos c8 : (if p2 = 2 then (sI σ 71 (Int.toNat (sI σ 78 (Int.toNat p1))) : Int) else sI σ 72 (Int.toNat (sI σ 78 (Int.toNat p1)))) = sI σ 71 (Int.toNat (sI σ 78 (Int.toNat p1))))))) H9)⟩⟩, fun c8 => ⟨⟨rfl, (hF 66)⟩, ⟨⟨rfl, ((((((((h.2.2 c1).2 c2).2 c3).2 c4).2.1 c5).1.2.2.2.2.2.2.1 c6) c7) c8), ((((((((h.2.2 c1).2 c2).2 c3).2 c4).2.1 c5).1.2.2.2.2.2.2.2 c6) c7) c8)⟩, (Eq.mp (congrArg (fun z => am_Runs _ _ _ _ _ _ (qi z :: _) _ _) (Eq.trans (if_neg c6 : (if p2 = 0 then (sI σ 67 (Int.toNat (sI σ 78 (Int.toNat p1))) : Int) else if p2 = 1 then (sI σ 70 (Int.toNat (sI σ 78 (Int.toNat p1))) : Int) else (if p2 = 2 then (sI σ 71 (Int.toNat (sI σ 78 (Int.toNat p1))) : Int) else (sI σ 72 (Int.toNat (sI σ 78 (Int.toNat p1)))))) = if p2 = 1 then (sI σ 70 (Int.toNat (sI σ 78 (Int.toNat p1))) : Int) else (if p2 = 2 then (sI σ 71 (Int.toNat (sI σ 78 (Int.toNat p1))) : Int) else (sI σ 72 (Int.toNat (sI σ 78 (Int.toNat p1)))))) (Eq.trans (if_neg c7 : (if p2 = 1 then (sI σ 70 (Int.toNat (sI σ 78 (Int.toNat p1))) : Int) else if p2 = 2 then (sI σ 71 (Int.toNat (sI σ 78 (Int.toNat p1))) : Int) else (sI σ 72 (Int.toNat (sI σ 78 (Int.toNat p1))))) = if p2 = 2 then (sI σ 71 (Int.toNat (sI σ 78 (Int.toNat p1))) : Int) else (sI σ 72 (Int.toNat (sI σ 78 (Int.toNat p1))))) (if_neg c8 : (if p2 = 2 then (sI σ 71 (Int.toNat (sI σ 78 (Int.toNat p1))) : Int) else sI σ 72 (Int.toNat (sI σ 78 (Int.toNat p1)))) = sI σ 72 (Int.toNat (sI σ 78 (Int.toNat p1))))))) H9)⟩⟩⟩⟩⟩) (am_wEC_ok (orc []) [42, 70] 200 ((((((h.2.2 c1).2 c2).2 c3).2 c4).2.1 c5).2)), fun c5 => ⟨⟨rfl, (hF 71)⟩, ⟨⟨(((((h.2.2 c1).2 c2).2 c3).2 c4).2.2 c5).1.1, (((((h.2.2 c1).2 c2).2 c3).2 c4).2.2 c5).1.2.1⟩, ⟨⟨(((((h.2.2 c1).2 c2).2 c3).2 c4).2.2 c5).1.2.2.1, (((((h.2.2 c1).2 c2).2 c3).2 c4).2.2 c5).1.2.2.2.1⟩, ⟨⟨(((((h.2.2 c1).2 c2).2 c3).2 c4).2.2 c5).1.2.2.2.2.1, (((((h.2.2 c1).2 c2).2 c3).2 c4).2.2 c5).1.2.2.2.2.2.1⟩, ⟨⟨rfl, (((((h.2.2 c1).2 c2).2 c3).2 c4).2.2 c5).1.2.2.2.2.2.2.1, (((((h.2.2 c1).2 c2).2 c3).2 c4).2.2 c5).1.2.2.2.2.2.2.2⟩, am_use (fun H11 => ⟨fun c10 => ⟨⟨rfl, (hF 69)⟩, ⟨⟨rfl, c10, ((((((h.2.2 c1).2 c2).2 c3).2 c4).2.2 c5).2.1 c10)⟩, (Eq.mp (congrArg (fun z => am_Runs _ _ _ _ _ _ (qi z :: _) _ _) (if_pos c10 : (if 0 ≤ (sI σ 77 (Int.toNat (((7 * (sI σ 78 (Int.toNat p1))) + p2) - 4))) then (sI σ 75 (Int.toNat (sI σ 77 (Int.toNat (((7 * (sI σ 78 (Int.toNat p1))) + p2) - 4)))) : Int) else (-1000)) = sI σ 75 (Int.toNat (sI σ 77 (Int.toNat (((7 * (sI σ 78 (Int.toNat p1))) + p2) - 4)))))) H11)⟩⟩, fun c10 => (Eq.mp (congrArg (fun z => am_Runs _ _ _ _ _ _ (qi z :: _) _ _) (if_neg c10 : (if 0 ≤ (sI σ 77 (Int.toNat (((7 * (sI σ 78 (Int.toNat p1))) + p2) - 4))) then (sI σ 75 (Int.toNat (sI σ 77 (Int.toNat (((7 * (sI σ 78 (Int.toNat p1))) + p2) - 4)))) : Int) else (-1000)) = (-1000))) H11)⟩) (am_wEC_ok (orc []) [42, 70] 200 ((((((h.2.2 c1).2 c2).2 c3).2 c4).2.2 c5).2.2))⟩⟩⟩⟩⟩⟩⟩⟩⟩⟩⟩⟩)⟩⟩⟩⟩)⟩⟩)

theorem v_M_nodeCoinT_0 (d : Nat) (p1 p2 p3 : Int) (σ : am_S) (K : Int → am_S → Prop) (hF : MF σ) (hT : sI σ 31 26 = 0) (h :
  (-2147483648 ≤ (sI σ 31 73) - 1 ∧ (sI σ 31 73) - 1 < 2147483648) ∧
  ((p1 < 0 →
    K (-1001) σ) ∧
  (¬ (p1 < 0) →
    ((((sI σ 31 73) - 1) < p1 →
      K (-1001) σ) ∧
    (¬ (((sI σ 31 73) - 1) < p1) →
      ((p2 < 0 →
        K (-1001) σ) ∧
      (¬ (p2 < 0) →
        ((1 < p2 →
          K (-1001) σ) ∧
        (¬ (1 < p2) →
          (0 ≤ p1 ∧ p1 < 6000 ∧ 0 ≤ (sI σ 78 (Int.toNat p1)) ∧ (sI σ 78 (Int.toNat p1)) < 6000 ∧ -2147483648 ≤ (sI σ 67 (Int.toNat (sI σ 78 (Int.toNat p1)))) - 1 ∧ (sI σ 67 (Int.toNat (sI σ 78 (Int.toNat p1)))) - 1 < 2147483648) ∧
          ((p3 < 0 →
            K (-1001) σ) ∧
          (¬ (p3 < 0) →
            ((((sI σ 67 (Int.toNat (sI σ 78 (Int.toNat p1)))) - 1) < p3 →
              K (-1001) σ) ∧
            (¬ (((sI σ 67 (Int.toNat (sI σ 78 (Int.toNat p1)))) - 1) < p3) →
              am_Runs PP MLL (d + 2) m_M_nodeCoin 48 [some (qr (31, 12, 89)), some (qi p1), some (qi p2), some (qi p3), some (qi (if p2 = 0 then (sI σ 68 (Int.toNat (sI σ 78 (Int.toNat p1))) : Int) else (sI σ 69 (Int.toNat (sI σ 78 (Int.toNat p1)))))), some (qi p3), some (qi 0)] [] σ (kI K)))))))))))))) : am_Runs PP MLL (d + 2) m_M_nodeCoin 0 [some (qr (31, 12, 89)), some (qi p1), some (qi p2), some (qi p3), none, none, none] [] σ (kI K) := am_wEC_ok (orc [(14, 67, 20, 6000), (16, 78, 20, 6000), (29, 68, 20, 6000), (31, 78, 20, 6000), (37, 69, 20, 6000), (39, 78, 20, 6000)]) [43] 200 (⟨rfl, ⟨⟨h.1.1, h.1.2⟩, am_wEF_ok (orc []) 200 (⟨fun c1 => ⟨(Or.inl rfl), ⟨fun _ => (h.2.1 c1), fun c => absurd (by decide : (0 : Int) = 0) c⟩⟩, fun c1 => ⟨fun c2 => ⟨(Or.inl rfl), ⟨fun _ => ((h.2.2 c1).1 c2), fun c => absurd (by decide : (0 : Int) = 0) c⟩⟩, fun c2 => ⟨(Or.inr rfl), ⟨fun c => absurd c (by decide : ¬ ((1 : Int) = 0)), fun _ => am_wEF_ok (orc []) 200 (am_wEF_ok (orc []) 200 (⟨fun c3 => ⟨(Or.inl rfl), ⟨(Or.inl rfl), ⟨fun _ => (((h.2.2 c1).2 c2).1 c3), fun c => absurd (by decide : (0 : Int) = 0) c⟩⟩⟩, fun c3 => ⟨fun c4 => ⟨(Or.inl rfl), ⟨(Or.inl rfl), ⟨fun _ => ((((h.2.2 c1).2 c2).2 c3).1 c4), fun c => absurd (by decide : (0 : Int) = 0) c⟩⟩⟩, fun c4 => ⟨(Or.inr rfl), ⟨(Or.inr rfl), ⟨fun c => absurd c (by decide : ¬ ((1 : Int) = 0)), fun _ => ⟨⟨rfl, (hF 61)⟩, ⟨⟨rfl, (hF 72)⟩, ⟨⟨rfl, ((((h.2.2 c1).2 c2).2 c3).2 c4).1.1, ((((h.2.2 c1).2 c2).2 c3).2 c4).1.2.1⟩, ⟨⟨rfl, ((((h.2.2 c1).2 c2).2 c3).2 c4).1.2.2.1, ((((h.2.2 c1).2 c2).2 c3).2 c4).1.2.2.2.1⟩, ⟨⟨((((h.2.2 c1).2 c2).2 c3).2 c4).1.2.2.2.2.1, ((((h.2.2 c1).2 c2).2 c3).2 c4).1.2.2.2.2.2⟩, am_wEF_ok (orc []) 200 (⟨fun c5 => ⟨(Or.inl rfl), ⟨fun _ => (((((h.2.2 c1).2 c2).2 c3).2 c4).2.1 c5), fun c => absurd (by decide : (0 : Int) = 0) c⟩⟩, fun c5 => ⟨fun c6 => ⟨(Or.inl rfl), ⟨fun _ => ((((((h.2.2 c1).2 c2).2 c3).2 c4).2.2 c5).1 c6), fun c => absurd (by decide : (0 : Int) = 0) c⟩⟩, fun c6 => ⟨(Or.inr rfl), ⟨fun c => absurd c (by decide : ¬ ((1 : Int) = 0)), fun _ => am_use (fun H8 => ⟨fun c7 => ⟨⟨rfl, (hF 62)⟩, ⟨⟨rfl, (hF 72)⟩, ⟨⟨rfl, ((((h.2.2 c1).2 c2).2 c3).2 c4).1.1, ((((h.2.2 c1).2 c2).2 c3).2 c4).1.2.1⟩, ⟨⟨rfl, ((((h.2.2 c1).2 c2).2 c3).2 c4).1.2.2.1, ((((h.2.2 c1).2 c2).2 c3).2 c4).1.2.2.2.1⟩, (Eq.mp (congrArg (fun z => am_Runs _ _ _ _ _ _ (qi z :: _) _ _) (if_pos c7 : (if p2 = 0 then (sI σ 68 (Int.toNat (sI σ 78 (Int.toNat p1))) : Int) else sI σ 69 (Int.toNat (sI σ 78 (Int.toNat p1)))) = sI σ 68 (Int.toNat (sI σ 78 (Int.toNat p1))))) H8)⟩⟩⟩⟩, fun c7 => ⟨⟨rfl, (hF 63)⟩, ⟨⟨rfl, (hF 72)⟩, ⟨⟨rfl, ((((h.2.2 c1).2 c2).2 c3).2 c4).1.1, ((((h.2.2 c1).2 c2).2 c3).2 c4).1.2.1⟩, ⟨⟨rfl, ((((h.2.2 c1).2 c2).2 c3).2 c4).1.2.2.1, ((((h.2.2 c1).2 c2).2 c3).2 c4).1.2.2.2.1⟩, (Eq.mp (congrArg (fun z => am_Runs _ _ _ _ _ _ (qi z :: _) _ _) (if_neg c7 : (if p2 = 0 then (sI σ 68 (Int.toNat (sI σ 78 (Int.toNat p1))) : Int) else sI σ 69 (Int.toNat (sI σ 78 (Int.toNat p1)))) = sI σ 69 (Int.toNat (sI σ 78 (Int.toNat p1))))) H8)⟩⟩⟩⟩⟩) (am_wEC_ok (orc []) [43] 200 (((((((h.2.2 c1).2 c2).2 c3).2 c4).2.2 c5).2 c6)))⟩⟩⟩⟩)⟩⟩⟩⟩⟩⟩⟩⟩⟩⟩))⟩⟩⟩⟩)⟩⟩)

theorem v_M_walkT_0 (d : Nat) (p1 : Int) (σ : am_S) (K : Int → am_S → Prop) (hF : MF σ) (hT : sI σ 31 26 = 0) (h :
  (-2147483648 ≤ (sI σ 31 5) - 1 ∧ (sI σ 31 5) - 1 < 2147483648) ∧
  ((p1 < 0 →
    K (-1001) σ) ∧
  (¬ (p1 < 0) →
    ((((sI σ 31 5) - 1) < p1 →
      K (-1001) σ) ∧
    (¬ (((sI σ 31 5) - 1) < p1) →
      (0 ≤ p1 ∧ p1 < 10000) ∧
      (((sI σ 37 (Int.toNat p1)) < 0 →
        (((sI σ 31 73) = 0 →
          K (-1002) σ) ∧
        (¬ ((sI σ 31 73) = 0) →
          am_Runs PP MLL (d + 2) m_M_walk 20 [some (qr (31, 12, 89)), some (qi p1), some (qi (sI σ 78 0)), none, none, none] [] σ (kI K)))) ∧
      (¬ ((sI σ 37 (Int.toNat p1)) < 0) →
        K (-1001) σ))))))) : am_Runs PP MLL (d + 2) m_M_walk 0 [some (qr (31, 12, 89)), some (qi p1), none, none, none, none] [] σ (kI K) := am_wEF_ok (orc [(16, 78, 20, 6000)]) 200 (⟨rfl, am_wEF_ok (orc []) 200 (⟨rfl, ⟨⟨h.1.1, h.1.2⟩, am_wEF_ok (orc []) 200 (⟨fun c1 => ⟨(Or.inl rfl), ⟨(Or.inl rfl), ⟨fun _ => (h.2.1 c1), fun c => absurd (by decide : (0 : Int) = 0) c⟩⟩⟩, fun c1 => ⟨fun c2 => ⟨(Or.inl rfl), ⟨(Or.inl rfl), ⟨fun _ => ((h.2.2 c1).1 c2), fun c => absurd (by decide : (0 : Int) = 0) c⟩⟩⟩, fun c2 => ⟨(Or.inr rfl), ⟨(Or.inr rfl), ⟨fun c => absurd c (by decide : ¬ ((1 : Int) = 0)), fun _ => ⟨rfl, c_M_isLeft _ hF ((h.2.2 c1).2 c2).1.1 ((h.2.2 c1).2 c2).1.2 (fun c3 => ⟨fun c => absurd c (by decide : ¬ ((1 : Int) = 0)), fun _ => ⟨rfl, ⟨fun c4 => ((((h.2.2 c1).2 c2).2.1 c3).1 c4), fun c4 => ⟨⟨rfl, (hF 72)⟩, ⟨⟨rfl, (by decide : (0 : Int) ≤ 0), (by decide : (0 : Int) < 6000)⟩, ((((h.2.2 c1).2 c2).2.1 c3).2 c4)⟩⟩⟩⟩⟩) (fun c3 => ⟨fun _ => (((h.2.2 c1).2 c2).2.2 c3), fun c => absurd (by decide : (0 : Int) = 0) c⟩)⟩⟩⟩⟩⟩⟩)⟩⟩)⟩)

theorem c_hasTree (d : Nat) {β μ κ ρ : Nat → Nat} {me : Nat → Nat → Nat} {n aH nH aL nL aY nY aS nS T : Nat} {own : Nat → Nat} {σ : am_S} {K : Int → am_S → Prop} (hR : TR σ aH nH aL nL aY nY aS nS) (hB : BS σ β μ κ ρ me n) (is : ISs σ own T n) (h0 : sI σ 31 73 = 0 → sI σ 31 76 = 0 → sI σ 31 77 = 0 → K 0 σ) (h1 : ∀ X ob nb tr c0 k0 aQ st, SBs σ own T n X ob nb tr c0 k0 aQ st → SR2 σ own X ob nb tr c0 k0 st → K 1 σ) : am_Calls PP MLL (d + 1) m_Search_hasTree [qr (12, 5, 18)] σ (kI K) := by
  refine v_Search_hasTree_0 d β μ κ ρ me aH nH aL nL aY nY aS nS n σ K hR hB ?_
  have on := IS_on is
  rcases is with ⟨a1, a2, a3, a4, a5, a6, a7, a8, a9, a10⟩ | ⟨X, ob, nb, tr, c0, k0, aQ, st, hb, hr⟩
  · exact ⟨fun _ => h0 a7 a8 a9, fun q => absurd a1 q⟩
  · have ne : sR σ 12 6 ≠ none := by
      rcases on with ⟨_, q, _⟩ | ⟨q, _⟩
      · have := hb.2.2.2.2.2.2.2.2.1
        omega
      · exact q
    refine ⟨fun q => absurd q ne, fun _ => ?_⟩
    rcases hr with ⟨A, c1, c2, c3, c4, c5, c6, c7, c8, c9⟩ | hh | ⟨c1, c2⟩
    · have z13 : sI σ 12 13 = 0 := by
        rcases c2 with ⟨e, p, _⟩ | ⟨e, p, _⟩ | ⟨e, _⟩ | ⟨e, _⟩
        · exact p.2.2.2.1.2.1
        · exact p.2.2.2.1.2.1
        · omega
        · omega
      rw [if_pos z13]
      exact ⟨Or.inl rfl, h0 c6 c7 c8⟩
    · have hh' := hh
      obtain ⟨n0, q1, q2, q3⟩ := hh
      rw [if_neg (by omega), if_neg (by omega)]
      exact ⟨Or.inr rfl, h1 X ob nb tr c0 k0 aQ st hb hh'⟩
    · rw [if_neg (by omega), if_pos c1.2.1]
      exact ⟨Or.inl rfl, h0 c2.2.2.1 c2.2.2.2.1 c2.2.2.2.2.1⟩
theorem c_isNode (d : Nat) {β μ κ ρ : Nat → Nat} {me : Nat → Nat → Nat} {n aH nH aL nL aY nY aS nS T : Nat} {own : Nat → Nat} {σ : am_S} {K : Int → am_S → Prop} (hR : TR σ aH nH aL nL aY nY aS nS) (hB : BS σ β μ κ ρ me n) (is : ISs σ own T n) {p1 : Int} (h0 : p1 < 0 ∨ sI σ 31 73 ≤ p1 → K 0 σ) (h1 : ∀ X ob nb tr c0 k0 aQ st, SBs σ own T n X ob nb tr c0 k0 aQ st → SR2 σ own X ob nb tr c0 k0 st → 0 ≤ p1 → p1 < sI σ 31 73 → K 1 σ) : am_Calls PP MLL (d + 2) m_C_isNode [qr (2, 11, 10), qi p1] σ (kI K) := by
  refine v_C_isNode_0 d β μ κ ρ me aH nH aL nL aY nY aS nS n p1 σ K hR hB (c_hasTree d hR hB is (fun z _ _ => ?_) (fun X ob nb tr c0 k0 aQ st hb hr => ?_))
  · rw [if_pos rfl]
    exact ⟨⟨hR, hB⟩, Or.inl rfl, h0 (by omega)⟩
  · rw [if_neg (by decide)]
    have hr' := hr
    obtain ⟨n0, q1, q2, q3, q4, q5, q6, q7, q8, _⟩ := hr
    refine ⟨⟨hR, hB⟩, ?_⟩
    rw [q7]
    by_cases e1 : p1 < 0
    · rw [if_pos e1]
      exact ⟨Or.inl rfl, h0 (Or.inl e1)⟩
    · rw [if_neg e1]
      by_cases e2 : (tsz X n0 c0 k0 : Int) ≤ p1
      · rw [if_pos e2]
        exact ⟨Or.inl rfl, h0 (by omega)⟩
      · rw [if_neg e2]
        exact ⟨Or.inr rfl, h1 X ob nb tr c0 k0 aQ st hb hr' (by omega) (by omega)⟩
theorem hNT_h {s : am_S} {X : sX} {c : Nat → Int} {k a i : Nat} : ∀ n, ¬ mn X c ≤ 0 → hNT s X n c k a i → sI s 78 i = ((a + tsz X n c k - 1 : Nat) : Int)
  | 0, hm, h => by
    rw [tsz_z hm, h.2]
    omega
  | n + 1, hm, h => by
    rcases h with ⟨q, _, h2⟩ | ⟨q, _, h2, _⟩
    · rw [tsz_1 hm q, h2]
      omega
    · rw [tsz_s q, h2]
      omega
/-- one node in both -/
theorem node_in {σ : am_S} {own : Nat → Nat} {T n ob nb k0 aQ st q : Nat} {X : sX} {tr : Nat → Nat} {c0 : Nat → Int} (hb : SBs σ own T n X ob nb tr c0 k0 aQ st) (hr : SR2 σ own X ob nb tr c0 k0 st) (hq : (q : Int) < sI σ 31 73) : (0 ≤ sI σ 31 73 ∧ sI σ 31 73 ≤ 6000) ∧ NG σ q ∧ ∃ aC nC, sR σ 18 0 = some (aC, 20, nC) ∧ nC ≤ 144000 ∧ 12 * q + 12 ≤ nC ∧ ∀ j, 12 * q ≤ j → j < 12 * q + 12 → sI σ aC j = mcl σ j := by
  obtain ⟨n0, q1, q2, q3, q4, q5, q6, q7, ⟨q8, q9, q10, q11⟩, q12, q13, q14, _⟩ := hr
  have xv := hb.1.2.1.1
  have cv := hb.1.2.1.2.1.1
  have hm := hb.2.2.2.1
  have h6 : tsz X n0 c0 k0 ≤ 6000 := by
    have a := tsz_phi xv n0 c0 k0 cv
    have b := phi_bd (c := c0) (k := k0) xv q1
    omega
  obtain ⟨⟨aC, nC, r18, oa, la, cap, nle⟩, _⟩ := q6
  have tm := TC_M xv n0 c0 k0 0 0 0 0 hm q4 q12 q13 q14
  have eq := TC_u n0 c0 k0 0 0 hm q5 tm
  refine ⟨by omega, NG_all xv n0 c0 k0 0 0 0 0 hm q4 (by omega) q12 q13 q14 q (by omega) (by omega), aC, nC, r18, nle, by omega, fun j j1 j2 => ?_⟩
  have := eq j (by omega) (by omega)
  unfold tcl at this
  rw [r18] at this
  exact this
theorem mcl_n {σ : am_S} {q : Nat} (h : NG σ q) : 0 ≤ mcl σ (12 * q) ∧ mcl σ (12 * q) < 4096 ∧ 0 ≤ mcl σ (12 * q + 1) ∧ mcl σ (12 * q + 1) < 4096 ∧ sI σ 67 (sI σ 78 q).toNat = pc (mcl σ (12 * q)).toNat ∧ pc (mcl σ (12 * q + 1)).toNat = pc (mcl σ (12 * q)).toNat := by
  obtain ⟨r, l, rt, h1, h2, h3, h4, h5, h6, h7, h8, _⟩ := h
  have e0 : mcl σ (12 * q) = l := by
    unfold mcl
    rw [if_pos (by omega), show 12 * q % 12 = 0 by omega, show 12 * q / 12 = q by omega, h2, Int.toNat_natCast]
    exact h3
  have e1 : mcl σ (12 * q + 1) = rt := by
    unfold mcl
    rw [if_pos (by omega), show (12 * q + 1) % 12 = 1 by omega, show (12 * q + 1) / 12 = q by omega, h2, Int.toNat_natCast]
    exact h4
  rw [e0, e1, h2, Int.toNat_natCast, Int.toNat_natCast, Int.toNat_natCast]
  exact ⟨by omega, by omega, by omega, by omega, h7, h8⟩
theorem p_least (d : Nat) {xs : Nat → Int} {c : Nat} {σ : am_S} (hI : INV xs σ c) (hc : c + 1 ≤ 600) : PR d xs m_C_least m_M_least [] σ c := by
  have hs := INV_s hI hc
  obtain ⟨own, β, μ, κ, ρ, me, n, aH, nH, aL, nL, aY, nY, aS, nS, N, l, m, T, W, kd, aR, nR, aV, nV, aI, nI, aQ, nQ, g, w, hx⟩ := hI
  have hx0 := hx
  obtain ⟨⟨hF, hab, hxs⟩, it, il, ib, im, ij, sc, rz, is, ir, hc6⟩ := hx
  have it0 := it
  obtain ⟨hR, ow, ti, kt, ks, ⟨w1, w2, w3, w4, w5, w6, w7, w8⟩, ⟨l1, l2, l3, l4⟩, lz, ⟨q1, q2, q3, q4⟩, h87⟩ := it
  have o1 := ow.1
  have ib0 := ib
  obtain ⟨a1, a2, a3, ⟨n12, a4, a5⟩, bd, a6, a7, a8, a9, a10⟩ := ib
  obtain ⟨m1, ⟨m2, T26⟩, m3, m4, m5, m6⟩ := im
  have tN := ti.2.2.2.2.1
  have tT := ti.2.2.2.2.2.2.1
  have T4 := ti.2.2.2.2.2.2.2.2.1
  have fin : (sI σ 12 13 = 0 ∨ sI σ 12 13 = 1) ∧ (if (sI σ 12 13) = 0 then ((-1002) : Int) else (sI σ 12 16)) = (if (sI σ 31 34) = 0 then ((-1002) : Int) else (sI σ 31 35)) := by
    rcases is with ⟨a1, a2, a3, a4, a5, a6, a7, a8, a9, a10⟩ | ⟨X, ob, nb, tr, c0, k0, aQ, st, hb, hr⟩
    · rw [if_pos a2, if_pos a4]
      exact ⟨Or.inl a2, rfl⟩
    · rcases hr with ⟨A, c1, c2, c3, c4, c5, c6, c7, c8, c9⟩ | ⟨n0, q1, q2, q3, q4, q5, q6, q7, q8, _⟩ | ⟨c1, c2⟩
      · have z13 : sI σ 12 13 = 0 := by
          rcases c2 with ⟨e, p, _⟩ | ⟨e, p, _⟩ | ⟨e, _⟩ | ⟨e, _⟩
          · exact p.2.2.2.1.2.1
          · exact p.2.2.2.1.2.1
          · omega
          · omega
        rw [if_pos z13, if_pos c4]
        exact ⟨Or.inl z13, rfl⟩
      · rw [if_neg (by omega), if_neg (by omega)]
        omega
      · rw [if_neg (by omega), if_neg (by omega)]
        omega
  refine v_C_least_0 (d + 28) β μ κ ρ me aH nH aL nL aY nY aS nS n σ _ hR a1 ⟨fin.1, hxs, ?_⟩
  exact v_M_least_0 (d + 29) σ _ hF T26 ⟨fin.2, hs⟩
theorem p_tree (d : Nat) {xs : Nat → Int} {c : Nat} {σ : am_S} (hI : INV xs σ c) (hc : c + 1 ≤ 600) : PR d xs m_C_tree m_M_tree [] σ c := by
  have hs := INV_s hI hc
  obtain ⟨own, β, μ, κ, ρ, me, n, aH, nH, aL, nL, aY, nY, aS, nS, N, l, m, T, W, kd, aR, nR, aV, nV, aI, nI, aQ, nQ, g, w, hx⟩ := hI
  have hx0 := hx
  obtain ⟨⟨hF, hab, hxs⟩, it, il, ib, im, ij, sc, rz, is, ir, hc6⟩ := hx
  have it0 := it
  obtain ⟨hR, ow, ti, kt, ks, ⟨w1, w2, w3, w4, w5, w6, w7, w8⟩, ⟨l1, l2, l3, l4⟩, lz, ⟨q1, q2, q3, q4⟩, h87⟩ := it
  have o1 := ow.1
  have ib0 := ib
  obtain ⟨a1, a2, a3, ⟨n12, a4, a5⟩, bd, a6, a7, a8, a9, a10⟩ := ib
  obtain ⟨m1, ⟨m2, T26⟩, m3, m4, m5, m6⟩ := im
  have tN := ti.2.2.2.2.1
  have tT := ti.2.2.2.2.2.2.1
  have T4 := ti.2.2.2.2.2.2.2.2.1
  refine v_C_tree_0 (d + 28) β μ κ ρ me aH nH aL nL aY nY aS nS n σ _ hR a1 (c_hasTree (d + 28) hR a1 is (fun z _ _ => ⟨⟨hR, a1⟩, hxs, ?_⟩) (fun X ob nb tr c0 k0 aQ st hb hr => ⟨⟨hR, a1⟩, hxs, ?_⟩))
  · refine v_M_tree_0 (d + 29) σ _ hF T26 ⟨?_, hs⟩
    rw [if_pos rfl, if_pos (by omega)]
  · refine v_M_tree_0 (d + 29) σ _ hF T26 ⟨?_, hs⟩
    obtain ⟨n0, q1, q2, q3, q4, q5, q6, q7, q8, _⟩ := hr
    have := tsz_p (n := n0) (k := k0) hb.2.2.2.1
    rw [if_neg (by decide), if_neg (by omega)]
    omega
theorem IS_73 {σ : am_S} {own : Nat → Nat} {T n : Nat} (is : ISs σ own T n) : 0 ≤ sI σ 31 73 ∧ sI σ 31 73 ≤ 6000 := by
  rcases is with ⟨a1, a2, a3, a4, a5, a6, a7, a8, a9, a10⟩ | ⟨X, ob, nb, tr, c0, k0, aQ, st, hb, hr⟩
  · omega
  · rcases hr with ⟨A, c1, c2, c3, c4, c5, c6, c7, c8, c9⟩ | hr | ⟨c1, c2⟩
    · omega
    · have hr' := hr
      obtain ⟨n0, q1, q2, q3, q4, q5, q6, q7, q8, _⟩ := hr
      have := tsz_p (n := n0) (k := k0) hb.2.2.2.1
      exact (node_in (q := 0) hb hr' (by omega)).1
    · omega
theorem p_node (d : Nat) {xs : Nat → Int} {c : Nat} {σ : am_S} {p1 p2 : Int} (hI : INV xs σ c) (hc : c + 1 ≤ 600) : PR d xs m_C_node m_M_node [qi p1, qi p2] σ c := by
  have hs := INV_s hI hc
  obtain ⟨own, β, μ, κ, ρ, me, n, aH, nH, aL, nL, aY, nY, aS, nS, N, l, m, T, W, kd, aR, nR, aV, nV, aI, nI, aQ, nQ, g, w, hx⟩ := hI
  have hx0 := hx
  obtain ⟨⟨hF, hab, hxs⟩, it, il, ib, im, ij, sc, rz, is, ir, hc6⟩ := hx
  have it0 := it
  obtain ⟨hR, ow, ti, kt, ks, ⟨w1, w2, w3, w4, w5, w6, w7, w8⟩, ⟨l1, l2, l3, l4⟩, lz, ⟨q1, q2, q3, q4⟩, h87⟩ := it
  have o1 := ow.1
  have ib0 := ib
  obtain ⟨a1, a2, a3, ⟨n12, a4, a5⟩, bd, a6, a7, a8, a9, a10⟩ := ib
  obtain ⟨m1, ⟨m2, T26⟩, m3, m4, m5, m6⟩ := im
  have tN := ti.2.2.2.2.1
  have tT := ti.2.2.2.2.2.2.1
  have T4 := ti.2.2.2.2.2.2.2.2.1
  have h73 := IS_73 is
  have bad : ((p1 < 0 ∨ sI σ 31 73 ≤ p1) ∨ p2 < 0 ∨ 10 < p2) → am_Calls PP MLL (d + 30) m_M_node [qr (31, 12, 89), qi p1, qi p2] σ (kI fun y t => -1001 = y ∧ INV xs t (c + 1)) := by
    intro hp
    exact v_M_nodeT_0 (d + 28) p1 p2 σ _ hF T26 ⟨by omega, fun c1 => ⟨rfl, hs⟩, fun c1 => ⟨fun c2 => ⟨rfl, hs⟩, fun c2 => ⟨fun c3 => ⟨rfl, hs⟩, fun c3 => ⟨fun c4 => ⟨rfl, hs⟩, fun c4 => by omega⟩⟩⟩⟩
  refine v_C_node_0 (d + 26) β μ κ ρ me aH nH aL nL aY nY aS nS n p1 p2 σ _ hR a1 (c_isNode (d + 27) hR a1 is (fun q => ⟨⟨hR, a1⟩, fun _ => ⟨hxs, bad (by omega)⟩, fun q => absurd rfl q⟩) (fun X ob nb tr c0 k0 aQ st hb hr g1 g2 => ⟨⟨hR, a1⟩, fun q => absurd q (by decide), fun _ => ⟨fun c3 => ⟨hxs, bad (by omega)⟩, fun c3 => ⟨fun c4 => ?_, fun c4 => ⟨hxs, bad (by omega)⟩⟩⟩⟩))
  obtain ⟨q, eq⟩ : ∃ q : Nat, p1 = q := ⟨p1.toNat, by omega⟩
  subst eq
  obtain ⟨_, ng, aC, nC, r18, nle, cap, eqc⟩ := node_in hb hr g2
  have m0 := mcl_n ng
  refine c_tell (d + 26) hR.1 r18 nle cap (by rw [eqc (12 * q) (by omega) (by omega)]; omega) (by omega) ⟨⟨hR, a1⟩, hxs, ?_⟩
  refine c_M_node (d + 27) hF T26 h73 g2 ng (by omega) ⟨?_, hs⟩
  unfold ndT
  rw [eqc (12 * q) (by omega) (by omega), eqc (12 * q + 1 + p2.toNat) (by omega) (by omega)]
theorem p_nodeCoin (d : Nat) {xs : Nat → Int} {c : Nat} {σ : am_S} {p1 p2 p3 : Int} (hI : INV xs σ c) (hc : c + 1 ≤ 600) : PR d xs m_C_nodeCoin m_M_nodeCoin [qi p1, qi p2, qi p3] σ c := by
  have hs := INV_s hI hc
  obtain ⟨own, β, μ, κ, ρ, me, n, aH, nH, aL, nL, aY, nY, aS, nS, N, l, m, T, W, kd, aR, nR, aV, nV, aI, nI, aQ, nQ, g, w, hx⟩ := hI
  have hx0 := hx
  obtain ⟨⟨hF, hab, hxs⟩, it, il, ib, im, ij, sc, rz, is, ir, hc6⟩ := hx
  have it0 := it
  obtain ⟨hR, ow, ti, kt, ks, ⟨w1, w2, w3, w4, w5, w6, w7, w8⟩, ⟨l1, l2, l3, l4⟩, lz, ⟨q1, q2, q3, q4⟩, h87⟩ := it
  have o1 := ow.1
  have ib0 := ib
  obtain ⟨a1, a2, a3, ⟨n12, a4, a5⟩, bd, a6, a7, a8, a9, a10⟩ := ib
  obtain ⟨m1, ⟨m2, T26⟩, m3, m4, m5, m6⟩ := im
  have tN := ti.2.2.2.2.1
  have tT := ti.2.2.2.2.2.2.1
  have T4 := ti.2.2.2.2.2.2.2.2.1
  have h73 := IS_73 is
  have bad : ∀ x : Int, x = -1001 → (((p1 < 0 ∨ sI σ 31 73 ≤ p1) ∨ p2 < 0 ∨ 1 < p2) ∨ (∃ q : Nat, p1 = q ∧ (q : Int) < sI σ 31 73 ∧ NG σ q ∧ (p3 < 0 ∨ pc (mcl σ (12 * q)).toNat ≤ p3))) → am_Calls PP MLL (d + 30) m_M_nodeCoin [qr (31, 12, 89), qi p1, qi p2, qi p3] σ (kI fun y t => x = y ∧ INV xs t (c + 1)) := by
    intro x ex hp
    refine v_M_nodeCoinT_0 (d + 27) p1 p2 p3 σ _ hF T26 ⟨by omega, fun c1 => ⟨ex, hs⟩, fun c1 => ⟨fun c2 => ⟨ex, hs⟩, fun c2 => ⟨fun c3 => ⟨ex, hs⟩, fun c3 => ⟨fun c4 => ⟨ex, hs⟩, fun c4 => ?_⟩⟩⟩⟩
    rcases hp with hp | ⟨q, eq, hq, ng, hp⟩
    · omega
    · subst eq
      have m0 := mcl_n ng
      obtain ⟨r, l', rt, g1, g2, g3, g4, g5, g6, g7, g8, _⟩ := ng
      have pb := pc_bd (mcl σ (12 * q)).toNat
      rw [Int.toNat_natCast, m0.2.2.2.2.1]
      exact ⟨by omega, fun _ => ⟨ex, hs⟩, fun _ => ⟨fun _ => ⟨ex, hs⟩, fun q => by omega⟩⟩
  have side : ∀ q : Nat, p1 = q → (q : Int) < sI σ 31 73 → (p2 = 0 ∨ p2 = 1) → 0 ≤ p3 → ∀ X ob nb tr c0 k0 aQ st, SBs σ own T n X ob nb tr c0 k0 aQ st → SR2 σ own X ob nb tr c0 k0 st → am_Calls PP MLL (d + 29) m_Tree_coinsOnEach [qr (18, 8, 2), qi p1] σ (kI fun x5 s5 => (TR s5 aH nH aL nL aY nY aS nS ∧ BS s5 β μ κ ρ me n) ∧ ((p3 < x5 → am_Calls PP MLL (d + 29) m_Tree_coinOf [qr (18, 8, 2), qi p1, qi p2, qi p3] s5 (kI fun x7 s7 => (TR s7 aH nH aL nL aY nY aS nS ∧ BS s7 β μ κ ρ me n) ∧ (sI s7 0 = xs ∧ am_Calls PP MLL (d + 30) m_M_nodeCoin [qr (31, 12, 89), qi p1, qi p2, qi p3] s7 (kI fun y t => x7 = y ∧ INV xs t (c + 1))))) ∧ (¬ (p3 < x5) → sI s5 0 = xs ∧ am_Calls PP MLL (d + 30) m_M_nodeCoin [qr (31, 12, 89), qi p1, qi p2, qi p3] s5 (kI fun y t => -1001 = y ∧ INV xs t (c + 1))))) := by
    intro q eq g2 hp2 hp3 X ob nb tr c0 k0 aQ st hb hr
    have bad' := bad
    subst eq
    obtain ⟨_, ng, aC, nC, r18, nle, cap, eqc⟩ := node_in hb hr g2
    have m0 := mcl_n ng
    refine v_Tree_coinsOnEach_0 (d + 27) β μ κ ρ me aH nH aL nL aY nY aS nS n (q : Int) σ _ hR a1 ?_
    rw [r18, rg_some]
    have e12 : ((q : Int) * 12 + 0).toNat = 12 * q := by omega
    rw [e12]
    have e0 : sI σ aC (12 * q) = mcl σ (12 * q) := eqc _ (by omega) (by omega)
    refine ⟨⟨by omega, by omega, by omega, by omega, rfl, by omega, by show ((q : Int) * 12 + 0) < ((nC : Nat) : Int); omega⟩, by show 0 ≤ sI σ aC (12 * q) ∧ sI σ aC (12 * q) < 1073741824; omega, ⟨hR, a1⟩, fun c6 => ?_, fun c6 => ⟨hxs, bad' _ rfl (Or.inr ⟨q, rfl, g2, ng, Or.inr ?_⟩)⟩⟩
    · have c6' : p3 < pc (sI σ aC (12 * q)).toNat := c6
      rw [e0] at c6'
      obtain ⟨k, ek⟩ : ∃ k : Nat, p3 = k := ⟨p3.toNat, by omega⟩
      subst ek
      have ew : p2.toNat = 0 ∨ p2.toNat = 1 := by omega
      have ex : sI σ aC (12 * q + p2.toNat) = mcl σ (12 * q + p2.toNat) := eqc _ (by omega) (by omega)
      have mb : 0 ≤ mcl σ (12 * q + p2.toNat) ∧ mcl σ (12 * q + p2.toNat) < 4096 ∧ pc (mcl σ (12 * q + p2.toNat)).toNat = pc (mcl σ (12 * q)).toNat := by
        rcases ew with e | e
        · rw [e, Nat.add_zero]; exact ⟨by omega, by omega, rfl⟩
        · rw [e]; exact ⟨by omega, by omega, m0.2.2.2.2.2⟩
      refine c_coinOf (d + 27) (x := (mcl σ (12 * q + p2.toNat)).toNat) hR.1 r18 nle cap hp2 (by rw [ex]; omega) (by omega) (by rw [mb.2.2]; exact c6') (fun cc hcc => ⟨⟨hR, a1⟩, hxs, ?_⟩)
      exact c_M_nodeCoin (d + 27) hF T26 h73 g2 ng hp2 c6' (fun cd hcd => ⟨by rw [KB_u hcc hcd], hs⟩)
    · have c6' : ¬ p3 < pc (sI σ aC (12 * q)).toNat := c6
      rw [e0] at c6'
      omega
  refine v_C_nodeCoin_0 (d + 27) β μ κ ρ me aH nH aL nL aY nY aS nS n p1 p2 p3 σ _ hR a1 (c_isNode (d + 27) hR a1 is (fun q => ⟨⟨hR, a1⟩, fun _ => ⟨hxs, bad _ rfl (by omega)⟩, fun q => absurd rfl q⟩) (fun X ob nb tr c0 k0 aQ st hb hr g1 g2 => ⟨⟨hR, a1⟩, fun q => absurd q (by decide), fun _ => ?_⟩))
  obtain ⟨q, eq⟩ : ∃ q : Nat, p1 = q := ⟨p1.toNat, by omega⟩
  have ng := (node_in (q := q) hb hr (by omega)).2.1
  refine ⟨fun e0 => ⟨fun c3 => ⟨hxs, bad _ rfl (Or.inr ⟨q, eq, by omega, ng, Or.inl c3⟩)⟩, fun c3 => side q eq (by omega) (Or.inl e0) (by omega) X ob nb tr c0 k0 aQ st hb hr⟩, fun e0 => ⟨fun e1 => ⟨fun c3 => ⟨hxs, bad _ rfl (Or.inr ⟨q, eq, by omega, ng, Or.inl c3⟩)⟩, fun c3 => side q eq (by omega) (Or.inr e1) (by omega) X ob nb tr c0 k0 aQ st hb hr⟩, fun e1 => ⟨hxs, bad _ rfl (by omega)⟩⟩⟩
theorem p_walk (d : Nat) {xs : Nat → Int} {c : Nat} {σ : am_S} {p1 : Int} (hI : INV xs σ c) (hc : c + 1 ≤ 600) : PR d xs m_C_walk m_M_walk [qi p1] σ c := by
  have hs := INV_s hI hc
  obtain ⟨own, β, μ, κ, ρ, me, n, aH, nH, aL, nL, aY, nY, aS, nS, N, l, m, T, W, kd, aR, nR, aV, nV, aI, nI, aQ, nQ, g, w, hx⟩ := hI
  have hx0 := hx
  obtain ⟨⟨hF, hab, hxs⟩, it, il, ib, im, ij, sc, rz, is, ir, hc6⟩ := hx
  have it0 := it
  obtain ⟨hR, ow, ti, kt, ks, ⟨w1, w2, w3, w4, w5, w6, w7, w8⟩, ⟨l1, l2, l3, l4⟩, lz, ⟨q1, q2, q3, q4⟩, h87⟩ := it
  have o1 := ow.1
  have ib0 := ib
  obtain ⟨a1, a2, a3, ⟨n12, a4, a5⟩, bd, a6, a7, a8, a9, a10⟩ := ib
  obtain ⟨m1, ⟨m2, T26⟩, m3, m4, m5, m6⟩ := im
  have tN := ti.2.2.2.2.1
  have tT := ti.2.2.2.2.2.2.1
  have T4 := ti.2.2.2.2.2.2.2.2.1
  have bad : ∀ x : Int, ((p1 < 0 ∨ (T : Int) ≤ p1) → x = -1001) → (∀ t : Nat, p1 = t → t < T → (sI σ 37 t < 0 → sI σ 31 73 = 0 ∧ x = -1002) ∧ (¬ sI σ 37 t < 0 → x = -1001)) → am_Calls PP MLL (d + 30) m_M_walk [qr (31, 12, 89), qi p1] σ (kI fun y t => x = y ∧ INV xs t (c + 1)) := by
    intro x h1 h2
    refine v_M_walkT_0 (d + 27) p1 σ _ hF T26 ?_
    rw [tT]
    refine ⟨by omega, fun c1 => ⟨h1 (by omega), hs⟩, fun c1 => ⟨fun c2 => ⟨h1 (by omega), hs⟩, fun c2 => ⟨by omega, ?_⟩⟩⟩
    have := h2 p1.toNat (by omega) (by omega)
    exact ⟨fun c3 => ⟨fun _ => ⟨(this.1 c3).2, hs⟩, fun q => absurd (this.1 c3).1 q⟩, fun c3 => ⟨this.2 c3, hs⟩⟩
  refine v_C_walk_0 (d + 24) β μ κ ρ me aH nH aL nL aY nY aS nS n p1 σ _ hR a1 ?_
  rw [w3]
  refine ⟨fun c1 => ⟨hxs, bad _ (fun _ => rfl) (fun t _ _ => by omega)⟩, fun c1 => ⟨fun c2 => ⟨hxs, bad _ (fun _ => rfl) (fun t _ _ => by omega)⟩, fun c2 => ?_⟩⟩
  obtain ⟨t, et⟩ : ∃ t : Nat, p1 = t := ⟨p1.toNat, by omega⟩
  subst et
  have ht : t < T := by omega
  obtain ⟨k1, k2, k3, k4, k5, k6, k7⟩ := ks t ht
  rw [Int.toNat_natCast]
  refine ⟨by omega, fun c3 => c_hasTree (d + 28) hR a1 is (fun z _ _ => ⟨⟨hR, a1⟩, fun _ => ⟨hxs, bad _ (fun _ => by omega) (fun t' e' _ => ?_)⟩, fun q => absurd rfl q⟩) (fun X ob nb tr c0 k0 aQ st hb hr => ⟨⟨hR, a1⟩, fun q => absurd q (by decide), fun _ => ?_⟩), fun c3 => ⟨hxs, bad _ (fun _ => rfl) (fun t' e' _ => ?_)⟩⟩
  · have : t' = t := by omega
    subst this
    exact ⟨fun _ => ⟨z, rfl⟩, fun q => by omega⟩
  · obtain ⟨p, hp, ep, cp⟩ := hb.2.2.2.2.2.2.2.1 t ht (by omega)
    obtain ⟨n0, q1, q2, q3, q4, q5, q6, q7, ⟨q8, q9, q10, q11⟩, q12, q13, q14, _⟩ := hr
    have hk := hb.2.2.2.2.1
    have hE := hb.1
    have xv := hE.2.1.1
    have cv := hE.2.1.2.1.1
    have hm := hb.2.2.2.1
    have h6 : tsz X n0 c0 k0 ≤ 6000 := by
      have a := tsz_phi xv n0 c0 k0 cv
      have b := phi_bd (c := c0) (k := k0) xv q1
      omega
    have tp := tsz_p (n := n0) (k := k0) hm
    obtain ⟨⟨aC, nC, r18, oa, la, cap, nle⟩, _⟩ := q6
    have tc : TC X tr (sI σ aC) n0 c0 k0 0 0 := by
      have : tcl σ = sI σ aC := by
        funext j
        unfold tcl
        rw [r18, rg_some]
      rw [this] at q5
      exact q5
    obtain ⟨β', μ', κ', ρ', me', n', b', aH', nH', aL', nL', aY', nY', aS', nS', N', lo', hi', T', kd', e1, e2, e3, e4, e5, e6, e7, e8, e9, e10, e11, e12, e13, e14, e15, _⟩ := hE.2.2.2.2
    rw [← ep]
    refine v_Search_endOf_0 (d + 24) β' μ' κ' ρ' me' aH' nH' aL' nL' aY' nY' aS' nS' n' b' aC nC _ σ _ e1 e9 e15 r18 ?_
    refine e_end (d + 24) hE hp r18 nle n0 c0 k0 0 0 cp q4 (by omega) rfl tc (by omega) ⟨⟨hR, a1⟩, hxs, ?_⟩ none none
    refine v_M_walkT_0 (d + 27) (tr p : Int) σ _ hF T26 ?_
    rw [tT, ep, Int.toNat_natCast]
    refine ⟨by omega, fun c1 => by omega, fun c1 => ⟨fun c2 => by omega, fun c2 => ⟨by omega, fun _ => ⟨fun q => by omega, fun _ => ?_⟩, fun q => by omega⟩⟩⟩
    have e78 : sI σ 78 0 = ((0 + tsz X n0 c0 k0 - 1 : Nat) : Int) := hNT_h n0 hm q14
    rw [e78, ← ep]
    exact walk_case (d + 27) hF hb.2.1 hb.2.2.2.2.2.1 (by omega) hp n0 c0 k0 0 0 0 0 cp q4 (by omega) rfl (by omega) q12 q13 q14 ⟨rfl, hs⟩ none none none
  · have : t' = t := by omega
    subst this
    exact ⟨fun q => by omega, fun _ => rfl⟩
