/-! the calls in pairs: count, digest -/
theorem v_C_balancesThere_0 (d : Nat) (β μ κ ρ : Nat → Nat) (me : Nat → Nat → Nat) (aH nH aL nL aY nY aS nS n : Nat) (σ : am_S) (K : Int → am_S → Prop) (hR : TR σ aH nH aL nL aY nY aS nS) (hB : BS σ β μ κ ρ me n) (h :
  am_Runs PP MLL d m_C_balancesThere 4 [some (qr (2, 11, 10)), some (qi 0), some (qi 0)] [] σ (kI K)) : am_Runs PP MLL d m_C_balancesThere 0 [some (qr (2, 11, 10)), none, none] [] σ (kI K) := am_wEC_ok (orc []) [15] 200 (h)

theorem v_C_balancesThere_4 (d : Nat) (β μ κ ρ : Nat → Nat) (me : Nat → Nat → Nat) (aH nH aL nL aY nY aS nS n : Nat) (v1 v2 : Int) (σ : am_S) (K : Int → am_S → Prop) (hR : TR σ aH nH aL nL aY nY aS nS) (hB : BS σ β μ κ ρ me n) (h :
  (((sI σ 2 5) ≤ v2 →
    K v1 σ) ∧
  (¬ ((sI σ 2 5) ≤ v2) →
    (0 ≤ v2 ∧ v2 < 12 ∧ (Int.toNat v2) < n) ∧
    ((((sI σ (β (Int.toNat v2)) 6) = 0) → -2147483648 ≤ v1 + 1) ∧ (((sI σ (β (Int.toNat v2)) 6) = 0) → v1 + 1 < 2147483648)) ∧
    (-2147483648 ≤ v2 + 1 ∧ v2 + 1 < 2147483648) ∧
    am_Runs PP MLL d m_C_balancesThere 4 [some (qr (2, 11, 10)), some (qi (if (sI σ (β (Int.toNat v2)) 6) = 0 then (v1 + 1 : Int) else v1)), some (qi (v2 + 1))] [] σ (kI K)))) : am_Runs PP MLL d m_C_balancesThere 4 [some (qr (2, 11, 10)), some (qi v1), some (qi v2)] [] σ (kI K) := am_wEC_ok (orc [(9, 9, 22, 12), (11, β (Int.toNat v2), 0, 9)]) [15] 200 (⟨rfl, ⟨fun c3 => (h.1 c3), fun c3 => ⟨⟨rfl, (hR.1 2 1 _ rfl)⟩, ⟨⟨rfl, (h.2 c3).1.1, (h.2 c3).1.2.1, (hB (Int.toNat v2) (h.2 c3).1.2.2).1⟩, ⟨rfl, am_use (fun H5 => ⟨fun c4 => ⟨⟨((h.2 c3).2.1.1 c4), ((h.2 c3).2.1.2 c4)⟩, (Eq.mp (congrArg (fun z => am_Runs _ _ _ _ _ [_, some (qi z), _] _ _ _) (if_pos c4 : (if (sI σ (β (Int.toNat v2)) 6) = 0 then (v1 + 1 : Int) else v1) = v1 + 1)) H5)⟩, fun c4 => (Eq.mp (congrArg (fun z => am_Runs _ _ _ _ _ [_, some (qi z), _] _ _ _) (if_neg c4 : (if (sI σ (β (Int.toNat v2)) 6) = 0 then (v1 + 1 : Int) else v1) = v1)) H5)⟩) (am_wEC_ok (orc []) [15] 200 (⟨⟨(h.2 c3).2.2.1.1, (h.2 c3).2.2.1.2⟩, (h.2 c3).2.2.2⟩))⟩⟩⟩⟩⟩)

theorem v_Search_rowsShown_0 (d : Nat) (β μ κ ρ : Nat → Nat) (me : Nat → Nat → Nat) (aH nH aL nL aY nY aS nS n : Nat) (σ : am_S) (K : Int → am_S → Prop) (hR : TR σ aH nH aL nL aY nY aS nS) (hB : BS σ β μ κ ρ me n) (h :
  am_Calls PP MLL (d + 1) m_Search_hasTree [qr (12, 5, 18)] σ (kI fun x1 s1 =>
    (TR s1 aH nH aL nL aY nY aS nS ∧ BS s1 β μ κ ρ me n) ∧
    ((¬ (x1 = 0) → (¬ ((sI s1 12 17) = 0) → (rg (sR s1 12 5)).2.1 = 4)) ∧ (¬ (x1 = 0) → (¬ ((sI s1 12 17) = 0) → (¬ (600 < (sI s1 ((rg (sR s1 12 5)).1) 2)) → (rg (sR s1 12 5)).2.1 = 4)))) ∧
    K (if x1 = 0 then (0 : Int) else (if (sI s1 12 17) = 0 then (0 : Int) else (if 600 < (sI s1 ((rg (sR s1 12 5)).1) 2) then (0 : Int) else (sI s1 ((rg (sR s1 12 5)).1) 2)))) s1)) : am_Runs PP MLL (d + 1) m_Search_rowsShown 0 [some (qr (12, 5, 18))] [] σ (kI K) := am_wEC_ok (orc []) [16] 200 (⟨rfl, (am_cI h fun x1 s1 h1 => am_use (fun H5 => ⟨fun c2 => (Eq.mp (congrArg (fun z => am_Runs _ _ _ _ _ _ (qi z :: _) _ _) (if_pos c2 : (if x1 = 0 then (0 : Int) else if (sI s1 12 17) = 0 then (0 : Int) else (if 600 < (sI s1 ((rg (sR s1 12 5)).1) 2) then (0 : Int) else (sI s1 ((rg (sR s1 12 5)).1) 2))) = 0)) H5), fun c2 => ⟨rfl, ⟨fun c3 => (Eq.mp (congrArg (fun z => am_Runs _ _ _ _ _ _ (qi z :: _) _ _) (Eq.trans (if_neg c2 : (if x1 = 0 then (0 : Int) else if (sI s1 12 17) = 0 then (0 : Int) else (if 600 < (sI s1 ((rg (sR s1 12 5)).1) 2) then (0 : Int) else (sI s1 ((rg (sR s1 12 5)).1) 2))) = if (sI s1 12 17) = 0 then (0 : Int) else (if 600 < (sI s1 ((rg (sR s1 12 5)).1) 2) then (0 : Int) else (sI s1 ((rg (sR s1 12 5)).1) 2))) (if_pos c3 : (if (sI s1 12 17) = 0 then (0 : Int) else if 600 < (sI s1 ((rg (sR s1 12 5)).1) 2) then (0 : Int) else (sI s1 ((rg (sR s1 12 5)).1) 2)) = 0))) H5), fun c3 => ⟨rfl, ⟨((h1.2.1.1 c2) c3), ⟨fun c4 => (Eq.mp (congrArg (fun z => am_Runs _ _ _ _ _ _ (qi z :: _) _ _) (Eq.trans (if_neg c2 : (if x1 = 0 then (0 : Int) else if (sI s1 12 17) = 0 then (0 : Int) else (if 600 < (sI s1 ((rg (sR s1 12 5)).1) 2) then (0 : Int) else (sI s1 ((rg (sR s1 12 5)).1) 2))) = if (sI s1 12 17) = 0 then (0 : Int) else (if 600 < (sI s1 ((rg (sR s1 12 5)).1) 2) then (0 : Int) else (sI s1 ((rg (sR s1 12 5)).1) 2))) (Eq.trans (if_neg c3 : (if (sI s1 12 17) = 0 then (0 : Int) else if 600 < (sI s1 ((rg (sR s1 12 5)).1) 2) then (0 : Int) else (sI s1 ((rg (sR s1 12 5)).1) 2)) = if 600 < (sI s1 ((rg (sR s1 12 5)).1) 2) then (0 : Int) else (sI s1 ((rg (sR s1 12 5)).1) 2)) (if_pos c4 : (if 600 < (sI s1 ((rg (sR s1 12 5)).1) 2) then (0 : Int) else sI s1 ((rg (sR s1 12 5)).1) 2) = 0)))) H5), fun c4 => ⟨rfl, ⟨(((h1.2.1.2 c2) c3) c4), (Eq.mp (congrArg (fun z => am_Runs _ _ _ _ _ _ (qi z :: _) _ _) (Eq.trans (if_neg c2 : (if x1 = 0 then (0 : Int) else if (sI s1 12 17) = 0 then (0 : Int) else (if 600 < (sI s1 ((rg (sR s1 12 5)).1) 2) then (0 : Int) else (sI s1 ((rg (sR s1 12 5)).1) 2))) = if (sI s1 12 17) = 0 then (0 : Int) else (if 600 < (sI s1 ((rg (sR s1 12 5)).1) 2) then (0 : Int) else (sI s1 ((rg (sR s1 12 5)).1) 2))) (Eq.trans (if_neg c3 : (if (sI s1 12 17) = 0 then (0 : Int) else if 600 < (sI s1 ((rg (sR s1 12 5)).1) 2) then (0 : Int) else (sI s1 ((rg (sR s1 12 5)).1) 2)) = if 600 < (sI s1 ((rg (sR s1 12 5)).1) 2) then (0 : Int) else (sI s1 ((rg (sR s1 12 5)).1) 2)) (if_neg c4 : (if 600 < (sI s1 ((rg (sR s1 12 5)).1) 2) then (0 : Int) else sI s1 ((rg (sR s1 12 5)).1) 2) = sI s1 ((rg (sR s1 12 5)).1) 2)))) H5)⟩⟩⟩⟩⟩⟩⟩⟩) (am_wEC_ok (orc []) [16] 200 (h1.2.2)))⟩)

theorem v_Search_hasTree_0 (d : Nat) (β μ κ ρ : Nat → Nat) (me : Nat → Nat → Nat) (aH nH aL nL aY nY aS nS n : Nat) (σ : am_S) (K : Int → am_S → Prop) (hR : TR σ aH nH aL nL aY nY aS nS) (hB : BS σ β μ κ ρ me n) (h :
  (((sR σ 12 6) = none →
    K 0 σ) ∧
  (¬ ((sR σ 12 6) = none) →
    ((if (sI σ 12 13) = 0 then (0 : Int) else (if (sI σ 12 16) = (-1000) then (0 : Int) else 1)) = 0 ∨ (if (sI σ 12 13) = 0 then (0 : Int) else (if (sI σ 12 16) = (-1000) then (0 : Int) else 1)) = 1) ∧
    K (if (sI σ 12 13) = 0 then (0 : Int) else (if (sI σ 12 16) = (-1000) then (0 : Int) else 1)) σ))) : am_Runs PP MLL d m_Search_hasTree 0 [some (qr (12, 5, 18))] [] σ (kI K) := am_wEC_ok (orc []) [13] 200 (⟨rfl, ⟨fun c1 => am_wEC_ok (orc []) [13] 200 (⟨(Or.inl rfl), (h.1 c1)⟩), fun c1 => ⟨rfl, am_use (fun H4 => ⟨fun c2 => (Eq.mp (congrArg (fun z => am_Runs _ _ _ _ _ _ (qi z :: _) _ _) (if_pos c2 : (if (sI σ 12 13) = 0 then (0 : Int) else if (sI σ 12 16) = (-1000) then (0 : Int) else 1) = 0)) H4), fun c2 => ⟨rfl, ⟨fun c3 => (Eq.mp (congrArg (fun z => am_Runs _ _ _ _ _ _ (qi z :: _) _ _) (Eq.trans (if_neg c2 : (if (sI σ 12 13) = 0 then (0 : Int) else if (sI σ 12 16) = (-1000) then (0 : Int) else 1) = if (sI σ 12 16) = (-1000) then (0 : Int) else 1) (if_pos c3 : (if (sI σ 12 16) = (-1000) then (0 : Int) else 1) = 0))) H4), fun c3 => (Eq.mp (congrArg (fun z => am_Runs _ _ _ _ _ _ (qi z :: _) _ _) (Eq.trans (if_neg c2 : (if (sI σ 12 13) = 0 then (0 : Int) else if (sI σ 12 16) = (-1000) then (0 : Int) else 1) = if (sI σ 12 16) = (-1000) then (0 : Int) else 1) (if_neg c3 : (if (sI σ 12 16) = (-1000) then (0 : Int) else 1) = 1))) H4)⟩⟩⟩) (am_wEC_ok (orc []) [13] 200 (⟨(h.2 c1).1, (h.2 c1).2⟩))⟩⟩⟩)

theorem v_C_digest_0 (d : Nat) (β μ κ ρ : Nat → Nat) (me : Nat → Nat → Nat) (aH nH aL nL aY nY aS nS n : Nat) (σ : am_S) (K : Int → am_S → Prop) (hR : TR σ aH nH aL nL aY nY aS nS) (hB : BS σ β μ κ ρ me n) (h :
  am_Runs PP MLL (d + 2) m_C_digest 15 [some (qr (2, 11, 10)), some (ql (w64 ((w64 (31 * (w64 (527 + (sI σ 3 0))))) + (sI σ 2 6)))), none, some (qi 0)] [] σ (kL K)) : am_Runs PP MLL (d + 2) m_C_digest 0 [some (qr (2, 11, 10)), none, none, none] [] σ (kL K) := am_wEF_ok (orc [(3, 3, 9, 11)]) 200 (⟨⟨rfl, (hR.1 2 0 _ rfl)⟩, ⟨rfl, ⟨rfl, h⟩⟩⟩)

theorem v_C_digest_15 (d : Nat) (β μ κ ρ : Nat → Nat) (me : Nat → Nat → Nat) (aH nH aL nL aY nY aS nS n : Nat) (v1 v3 : Int) (z2 : Option am_V) (σ : am_S) (K : Int → am_S → Prop) (hR : TR σ aH nH aL nL aY nY aS nS) (hB : BS σ β μ κ ρ me n) (h :
  (((sI σ 3 1) ≤ v3 →
    am_Runs PP MLL (d + 2) m_C_digest 41 [some (qr (2, 11, 10)), some (ql v1), (am_cl z2), some (qi 0)] [] σ (kL K)) ∧
  (¬ ((sI σ 3 1) ≤ v3) →
    (0 ≤ v3 ∧ v3 < ((nS : Nat) : Int)) ∧
    (((sI σ aS (Int.toNat v3)) = 0 →
      v3 < ((nY : Nat) : Int) ∧
      (0 ≤ (sI σ aY (Int.toNat v3)) ∧ (sI σ aY (Int.toNat v3)) < 1073741824) ∧
      (-2147483648 ≤ v3 + 1 ∧ v3 + 1 < 2147483648) ∧
      am_Runs PP MLL (d + 2) m_C_digest 15 [some (qr (2, 11, 10)), some (ql (w64 ((w64 (31 * v1)) + (pc (Int.toNat (sI σ aY (Int.toNat v3))))))), none, some (qi (v3 + 1))] [] σ (kL K)) ∧
    (¬ ((sI σ aS (Int.toNat v3)) = 0) →
      (-2147483648 ≤ v3 + 1 ∧ v3 + 1 < 2147483648) ∧
      am_Runs PP MLL (d + 2) m_C_digest 15 [some (qr (2, 11, 10)), some (ql (w64 ((w64 (31 * v1)) + (-1)))), none, some (qi (v3 + 1))] [] σ (kL K)))))) : am_Runs PP MLL (d + 2) m_C_digest 15 [some (qr (2, 11, 10)), some (ql v1), z2, some (qi v3)] [] σ (kL K) := am_wEF_ok (orc [(17, 3, 9, 11), (24, 3, 9, 11), (29, 3, 9, 11)]) 200 (⟨⟨rfl, (hR.1 2 0 _ rfl)⟩, ⟨rfl, ⟨fun c2 => (h.1 c2), fun c2 => ⟨⟨rfl, (hR.1 2 0 _ rfl)⟩, ⟨rfl, am_wEF_ok (orc [(1, aS, 20, nS)]) 200 (⟨⟨rfl, hR.2.2.2.2⟩, ⟨⟨rfl, (h.2 c2).1.1, (h.2 c2).1.2⟩, ⟨fun c3 => ⟨(Or.inr rfl), ⟨fun c => absurd c (by decide : ¬ ((1 : Int) = 0)), fun _ => ⟨⟨rfl, (hR.1 2 0 _ rfl)⟩, ⟨rfl, am_wEF_ok (orc [(1, aY, 20, nY)]) 200 (⟨⟨rfl, hR.2.2.2.1⟩, ⟨⟨rfl, (h.2 c2).1.1, ((h.2 c2).2.1 c3).1⟩, c_ibcI _ ((h.2 c2).2.1 c3).2.1.1 ((h.2 c2).2.1 c3).2.1.2 (⟨⟨((h.2 c2).2.1 c3).2.2.1.1, ((h.2 c2).2.1 c3).2.2.1.2⟩, ((h.2 c2).2.1 c3).2.2.2⟩)⟩⟩)⟩⟩⟩⟩, fun c3 => ⟨(Or.inl rfl), ⟨fun _ => ⟨⟨((h.2 c2).2.2 c3).1.1, ((h.2 c2).2.2 c3).1.2⟩, ((h.2 c2).2.2 c3).2⟩, fun c => absurd (by decide : (0 : Int) = 0) c⟩⟩⟩⟩⟩)⟩⟩⟩⟩⟩)

theorem v_C_digest_41 (d : Nat) (β μ κ ρ : Nat → Nat) (me : Nat → Nat → Nat) (aH nH aL nL aY nY aS nS n : Nat) (v1 v3 : Int) (z2 : Option am_V) (σ : am_S) (K : Int → am_S → Prop) (hR : TR σ aH nH aL nL aY nY aS nS) (hB : BS σ β μ κ ρ me n) (h :
  (((sI σ 2 5) ≤ v3 →
    K v1 σ) ∧
  (¬ ((sI σ 2 5) ≤ v3) →
    (0 ≤ v3 ∧ v3 < 12 ∧ (Int.toNat v3) < n) ∧
    am_Calls PP MLL (d + 2) m_Balance_digestOnto [qr (β (Int.toNat v3), 0, 9), ql v1] σ (kL fun x3 s3 =>
      (TR s3 aH nH aL nL aY nY aS nS ∧ BS s3 β μ κ ρ me n) ∧
      (-2147483648 ≤ v3 + 1 ∧ v3 + 1 < 2147483648) ∧
      am_Runs PP MLL (d + 2) m_C_digest 41 [some (qr (2, 11, 10)), some (ql x3), none, some (qi (v3 + 1))] [] s3 (kL K))))) : am_Runs PP MLL (d + 2) m_C_digest 41 [some (qr (2, 11, 10)), some (ql v1), z2, some (qi v3)] [] σ (kL K) := am_wEF_ok (orc [(46, 9, 22, 12), (48, β (Int.toNat v3), 0, 9)]) 200 (⟨rfl, ⟨fun c2 => (h.1 c2), fun c2 => ⟨⟨rfl, (hR.1 2 1 _ rfl)⟩, ⟨⟨rfl, (h.2 c2).1.1, (h.2 c2).1.2.1, (hB (Int.toNat v3) (h.2 c2).1.2.2).1⟩, ⟨rfl, (am_cL (h.2 c2).2 fun x3 s3 h3 => ⟨⟨h3.2.1.1, h3.2.1.2⟩, h3.2.2⟩)⟩⟩⟩⟩⟩)

theorem c_There (d : Nat) {β μ κ ρ : Nat → Nat} {me : Nat → Nat → Nat} {n aH nH aL nL aY nY aS nS : Nat} {σ : am_S} {K : Int → am_S → Prop} (hR : TR σ aH nH aL nL aY nY aS nS) (hB : BS σ β μ κ ρ me n) (h5 : sI σ 2 5 = n) (hn : n ≤ 12) (h : K (sm (fun b => if sI σ (β b) 6 = 0 then 1 else 0) n) σ) : am_Calls PP MLL (d + 1) m_C_balancesThere [qr (2, 11, 10)] σ (kI K) := by
  refine v_C_balancesThere_0 d β μ κ ρ me aH nH aL nL aY nY aS nS n σ K hR hB ?_
  have key := lp (P := fun i => am_Runs PP MLL d m_C_balancesThere 4 [some (qr (2, 11, 10)), some (qi (sm (fun b => if sI σ (β b) 6 = 0 then 1 else 0) i)), some (qi (i : Int))] [] σ (kI K)) (N := n) ?_ ?_ 0 (Nat.zero_le _)
  · exact key
  · refine v_C_balancesThere_4 d β μ κ ρ me aH nH aL nL aY nY aS nS n _ _ σ K hR hB ?_
    rw [h5]
    exact ⟨fun _ => h, fun q => by omega⟩
  · intro i hi ih
    have hb := sm_le1 (fun b => if sI σ (β b) 6 = 0 then 1 else 0) (fun b => by show 0 ≤ (if sI σ (β b) 6 = 0 then (1 : Int) else 0) ∧ (if sI σ (β b) 6 = 0 then (1 : Int) else 0) ≤ 1; split <;> omega) i
    refine v_C_balancesThere_4 d β μ κ ρ me aH nH aL nL aY nY aS nS n _ _ σ K hR hB ?_
    rw [h5, Int.toNat_natCast]
    refine ⟨fun q => by omega, fun _ => ⟨by omega, ⟨fun _ => by omega, fun _ => by omega⟩, by omega, ?_⟩⟩
    have e1 : (if sI σ (β i) 6 = 0 then (sm (fun b => if sI σ (β b) 6 = 0 then 1 else 0) i + 1 : Int) else sm (fun b => if sI σ (β b) 6 = 0 then 1 else 0) i) = sm (fun b => if sI σ (β b) 6 = 0 then 1 else 0) (i + 1) := by
      show _ = sm (fun b => if sI σ (β b) 6 = 0 then 1 else 0) i + (if sI σ (β i) 6 = 0 then 1 else 0)
      split <;> omega
    rw [e1]
    exact ih
theorem IS_on {σ : am_S} {own : Nat → Nat} {T n : Nat} (h : ISs σ own T n) : (sR σ 12 6 = none ∧ sI σ 31 33 = 0 ∧ sI σ 31 76 = 0) ∨ (sR σ 12 6 ≠ none ∧ sI σ 31 33 = 1 ∧ sI σ 31 37 = sI σ 12 15) := by
  rcases h with ⟨a1, a2, a3, a4, a5, a6, a7, a8, a9, a10⟩ | ⟨X, ob, nb, tr, c0, k0, aQ, st, ⟨b1, b2, b3, b4, b5, b6, b7, b8, b9, b10, b11, b12, b13⟩, hr⟩
  · exact Or.inl ⟨a1, a3, a8⟩
  · refine Or.inr ⟨?_, b9, by rw [b10, b11]⟩
    obtain ⟨β, μ, κ, ρ, me, n', b, aH, nH, aL, nL, aY, nY, aS, nS, N, lo, hi, T', kd, e1, e2, e3, e4, e5, e6, e7, e8, e9, e10, e11, e12, e13, e14, e15, _⟩ := b1.2.2.2.2
    rw [e15]
    exact fun q => by cases q
/-- what is shown of rows -/
theorem IS_rows {σ : am_S} {own : Nat → Nat} {T n : Nat} (h : ISs σ own T n) : (sR σ 12 6 = none ∧ sI σ 31 76 = 0) ∨ (sR σ 12 6 ≠ none ∧ sI σ 31 76 = 0 ∧ (sI σ 12 13 = 0 ∨ (sI σ 12 13 ≠ 0 ∧ sI σ 12 16 = -1000))) ∨ (sR σ 12 6 ≠ none ∧ sI σ 12 13 = 1 ∧ sI σ 12 16 ≠ -1000 ∧ ((sI σ 12 17 = 0 ∧ sI σ 31 76 = 0) ∨ (sI σ 12 17 = 1 ∧ ∃ w, sR σ 12 5 = some (w, 4, 3) ∧ ((sI σ w 2 ≤ 600 ∧ sI σ 31 76 = sI σ w 2) ∨ (600 < sI σ w 2 ∧ sI σ 31 76 = 0))))) := by
  have on := IS_on h
  rcases h with ⟨a1, a2, a3, a4, a5, a6, a7, a8, a9, a10⟩ | ⟨X, ob, nb, tr, c0, k0, aQ, st, ⟨b1, b2, b3, b4, b5, b6, b7, b8, b9, b10, b11, b12, b13⟩, hr⟩
  · exact Or.inl ⟨a1, a8⟩
  · have ne : sR σ 12 6 ≠ none := by
      rcases on with ⟨_, q, _⟩ | ⟨q, _⟩
      · omega
      · exact q
    rcases hr with ⟨A, c1, c2, c3, c4, c5, c6, c7, c8, c9⟩ | ⟨n0, c1, c2, c3, c4, c5, c6, c7, c8, c9, c10, c11, c12⟩ | ⟨c1, c2⟩
    · refine Or.inr (Or.inl ⟨ne, c7, Or.inl ?_⟩)
      rcases c2 with ⟨e, p, _⟩ | ⟨e, p, _⟩ | ⟨e, _⟩ | ⟨e, _⟩
      · exact p.2.2.2.1.2.1
      · exact p.2.2.2.1.2.1
      · omega
      · omega
    · refine Or.inr (Or.inr ⟨ne, c2.1, by omega, ?_⟩)
      rcases c12 with ⟨d1, d2, d3, d4, _⟩ | ⟨d1, d2, d3, d4, g, w, G, W, d5, d6⟩
      · exact Or.inl ⟨d1, d4⟩
      · refine Or.inr ⟨d1, w, d5.2.2.1, ?_⟩
        have e := d5.2.2.2.2.2.2.1
        rcases d6 with ⟨u1, u2, u3, u4, u5⟩ | ⟨u1, u2, u3⟩
        · exact Or.inl ⟨by omega, by rw [u4.1, e]⟩
        · exact Or.inr ⟨by omega, u3⟩
    · exact Or.inr (Or.inl ⟨ne, c2.2.2.2.1, Or.inr ⟨by omega, c1.2.1⟩⟩)
theorem c_rowsShown (d : Nat) {β μ κ ρ : Nat → Nat} {me : Nat → Nat → Nat} {n aH nH aL nL aY nY aS nS T : Nat} {own : Nat → Nat} {σ : am_S} {K : Int → am_S → Prop} (hR : TR σ aH nH aL nL aY nY aS nS) (hB : BS σ β μ κ ρ me n) (is : ISs σ own T n) (h : K (sI σ 31 76) σ) : am_Calls PP MLL (d + 2) m_Search_rowsShown [qr (12, 5, 18)] σ (kI K) := by
  refine v_Search_rowsShown_0 d β μ κ ρ me aH nH aL nL aY nY aS nS n σ K hR hB ?_
  refine v_Search_hasTree_0 d β μ κ ρ me aH nH aL nL aY nY aS nS n σ _ hR hB ?_
  rcases IS_rows is with ⟨q1, q2⟩ | ⟨q1, q2, q3⟩ | ⟨q1, q2, q3, q4⟩
  · refine ⟨fun _ => ⟨⟨hR, hB⟩, ⟨fun q => absurd rfl q, fun q => absurd rfl q⟩, ?_⟩, fun q => absurd q1 q⟩
    rw [if_pos rfl, ← q2]
    exact h
  · refine ⟨fun q => absurd q q1, fun _ => ?_⟩
    have e : (if (sI σ 12 13) = 0 then (0 : Int) else (if (sI σ 12 16) = (-1000) then (0 : Int) else 1)) = 0 := by
      rcases q3 with q | ⟨q, r⟩
      · rw [if_pos q]
      · rw [if_neg q, if_pos r]
    rw [e]
    refine ⟨Or.inl rfl, ⟨hR, hB⟩, ⟨fun q => absurd rfl q, fun q => absurd rfl q⟩, ?_⟩
    rw [if_pos rfl, ← q2]
    exact h
  · refine ⟨fun q => absurd q q1, fun _ => ?_⟩
    have e : (if (sI σ 12 13) = 0 then (0 : Int) else (if (sI σ 12 16) = (-1000) then (0 : Int) else 1)) = 1 := by rw [if_neg (by omega), if_neg q3]
    rw [e]
    rcases q4 with ⟨r1, r2⟩ | ⟨r1, w, r2, r3⟩
    · refine ⟨Or.inr rfl, ⟨hR, hB⟩, ⟨fun _ q => absurd r1 q, fun _ q => absurd r1 q⟩, ?_⟩
      rw [if_neg (by decide), if_pos r1, ← r2]
      exact h
    · rw [r2, rg_some]
      refine ⟨Or.inr rfl, ⟨hR, hB⟩, ⟨fun _ _ => rfl, fun _ _ _ => rfl⟩, ?_⟩
      show K (if (1 : Int) = 0 then 0 else if sI σ 12 17 = 0 then 0 else if 600 < sI σ w 2 then 0 else sI σ w 2) σ
      rw [if_neg (by decide), if_neg (by omega)]
      rcases r3 with ⟨u1, u2⟩ | ⟨u1, u2⟩
      · rw [if_neg (by omega), ← u2]
        exact h
      · rw [if_pos u1, ← u2]
        exact h
theorem p_count (d : Nat) {xs : Nat → Int} {c : Nat} {σ : am_S} {p1 : Int} (hI : INV xs σ c) (hc : c + 1 ≤ 600) : PR d xs m_C_count m_M_count [qi p1] σ c := by
  have hs := INV_s hI hc
  obtain ⟨own, β, μ, κ, ρ, me, n, aH, nH, aL, nL, aY, nY, aS, nS, N, l, m, T, W, kd, aR, nR, aV, nV, aI, nI, aQ, nQ, g, w, hx⟩ := hI
  have hx0 := hx
  obtain ⟨⟨hF, hab, hxs⟩, it, il, ib, im, ij, sc, rz, is, ir, hc6⟩ := hx
  have it0 := it
  obtain ⟨hR, ow, ti, kt, ks, ⟨w1, w2, w3, w4, w5, w6, w7, w8⟩, ⟨l1, l2, l3, l4⟩, lz, ⟨q1, q2, q3, q4⟩, h87⟩ := it
  have o1 := ow.1
  have ib0 := ib
  obtain ⟨a1, a2, a3, ⟨n12, a4, a5⟩, bd, a6, a7, a8, a9, a10⟩ := ib
  obtain ⟨m1, ⟨m2, T26⟩, m3, m4, m5, m6⟩ := im
  have tN := ti.2.2.2.2.1
  have tT := ti.2.2.2.2.2.2.1
  have T4 := ti.2.2.2.2.2.2.2.2.1
  have ref : ∀ x : Int, (p1 = 0 → x = sI σ 31 2) → (p1 = 1 → x = sI σ 31 5) → (p1 = 2 → x = lf (sI σ 37) T) → (p1 = 3 → x = sI σ 31 16) → (p1 = 4 → x = sm (fun b => if 0 ≤ sI σ 41 b then 1 else 0) n) → (p1 = 5 → x = sI σ 31 13) → (p1 = 6 → x = sI σ 31 4) → (p1 = 7 → x = if sI σ 31 33 = 0 then 0 else sI σ 31 37) → (p1 = 8 → x = sI σ 31 38) → (p1 = 9 → x = sI σ 31 76) → (p1 = 10 → x = sI σ 31 1) → (p1 < 0 ∨ 10 < p1 → x = -1001) → am_Calls PP MLL (d + 30) m_M_count [qr (31, 12, 89), qi p1] σ (kI fun y t => x = y ∧ INV xs t (c + 1)) := by
    intro x h0 h1 h2 h3 h4 h5 h6 h7 h8 h9 h10 hb
    exact v_M_countT_0 (d + 27) p1 σ _ hF T26 ⟨fun e => ⟨h0 e, hs⟩, fun _ => ⟨fun e => ⟨h1 e, hs⟩, fun _ => ⟨fun e => c_M_left (d + 27) hF tT T4 ⟨⟨hF, T26⟩, h2 e, hs⟩, fun _ => ⟨fun e => ⟨h3 e, hs⟩, fun _ => ⟨fun e => l_M_count (d + 27) hF a5 n12 ⟨h4 e, hs⟩ _, fun _ => ⟨fun e => ⟨h5 e, hs⟩, fun _ => ⟨fun e => ⟨h6 e, hs⟩, fun _ => ⟨fun e => ⟨h7 e, hs⟩, fun _ => ⟨fun e => ⟨h8 e, hs⟩, fun _ => ⟨fun e => ⟨h9 e, hs⟩, fun _ => ⟨fun e => ⟨h10 e, hs⟩, fun _ => ⟨hb (by omega), hs⟩⟩⟩⟩⟩⟩⟩⟩⟩⟩⟩⟩
  have on := IS_on is
  have go : ∀ x : Int, (p1 = 0 → x = sI σ 31 2) ∧ (p1 = 1 → x = sI σ 31 5) ∧ (p1 = 2 → x = lf (sI σ 37) T) ∧ (p1 = 3 → x = sI σ 31 16) ∧ (p1 = 4 → x = sm (fun b => if 0 ≤ sI σ 41 b then 1 else 0) n) ∧ (p1 = 5 → x = sI σ 31 13) ∧ (p1 = 6 → x = sI σ 31 4) ∧ (p1 = 7 → x = if sI σ 31 33 = 0 then 0 else sI σ 31 37) ∧ (p1 = 8 → x = sI σ 31 38) ∧ (p1 = 9 → x = sI σ 31 76) ∧ (p1 = 10 → x = sI σ 31 1) ∧ (p1 < 0 ∨ 10 < p1 → x = -1001) → sI σ 0 = xs ∧ am_Calls PP MLL (d + 30) m_M_count [qr (31, 12, 89), qi p1] σ (kI fun y t => x = y ∧ INV xs t (c + 1)) := fun x ⟨h0, h1, h2, h3, h4, h5, h6, h7, h8, h9, h10, hb⟩ => ⟨hxs, ref x h0 h1 h2 h3 h4 h5 h6 h7 h8 h9 h10 hb⟩
  refine v_C_count_0 (d + 27) β μ κ ρ me aH nH aL nL aY nY aS nS n p1 σ _ hR a1 ⟨fun e => go _ ?_, fun e0 => ⟨fun e => go _ ?_, fun e1 => ⟨fun e => go _ ?_, fun e2 => ⟨fun e => go _ ?_, fun e3 => ⟨fun e => ?_, fun e4 => ⟨fun e => go _ ?_, fun e5 => ⟨fun e => go _ ?_, fun e6 => ⟨fun e => ⟨fun q => go _ ?_, fun q => go _ ?_⟩, fun e7 => ⟨fun e => go _ ?_, fun e8 => ⟨fun e => ?_, fun e9 => ⟨fun e => go _ ?_, fun e10 => go _ ?_⟩⟩⟩⟩⟩⟩⟩⟩⟩⟩⟩
  · exact ⟨fun _ => by omega, fun q => by omega, fun q => by omega, fun q => by omega, fun q => by omega, fun q => by omega, fun q => by omega, fun q => by omega, fun q => by omega, fun q => by omega, fun q => by omega, fun q => by omega⟩
  · exact ⟨fun q => by omega, fun _ => by omega, fun q => by omega, fun q => by omega, fun q => by omega, fun q => by omega, fun q => by omega, fun q => by omega, fun q => by omega, fun q => by omega, fun q => by omega, fun q => by omega⟩
  · exact ⟨fun q => by omega, fun q => by omega, fun _ => by rw [w4], fun q => by omega, fun q => by omega, fun q => by omega, fun q => by omega, fun q => by omega, fun q => by omega, fun q => by omega, fun q => by omega, fun q => by omega⟩
  · exact ⟨fun q => by omega, fun q => by omega, fun q => by omega, fun _ => by omega, fun q => by omega, fun q => by omega, fun q => by omega, fun q => by omega, fun q => by omega, fun q => by omega, fun q => by omega, fun q => by omega⟩
  · refine c_There (d + 28) hR a1 a4 n12 ⟨⟨hR, a1⟩, go _ ⟨fun q => by omega, fun q => by omega, fun q => by omega, fun q => by omega, fun _ => ?_, fun q => by omega, fun q => by omega, fun q => by omega, fun q => by omega, fun q => by omega, fun q => by omega, fun q => by omega⟩⟩
    refine sm_congr n (fun b hb => ?_)
    obtain ⟨d1, d2, d3, _⟩ := bd b hb
    show (if sI σ (β b) 6 = 0 then (1 : Int) else 0) = if 0 ≤ sI σ 41 b then 1 else 0
    rw [d3]
    by_cases q : sI σ (β b) 6 = 0
    · rw [if_pos q, if_pos q, if_pos d1.1]
    · rw [if_neg q, if_neg q, if_neg (by decide)]
  · exact ⟨fun q => by omega, fun q => by omega, fun q => by omega, fun q => by omega, fun q => by omega, fun _ => by omega, fun q => by omega, fun q => by omega, fun q => by omega, fun q => by omega, fun q => by omega, fun q => by omega⟩
  · exact ⟨fun q => by omega, fun q => by omega, fun q => by omega, fun q => by omega, fun q => by omega, fun q => by omega, fun _ => by omega, fun q => by omega, fun q => by omega, fun q => by omega, fun q => by omega, fun q => by omega⟩
  · exact ⟨fun q => by omega, fun q => by omega, fun q => by omega, fun q => by omega, fun q => by omega, fun q => by omega, fun q => by omega, fun _ => by rcases on with ⟨_, r, _⟩ | ⟨r, _⟩; (· rw [if_pos r]); exact absurd q r, fun q => by omega, fun q => by omega, fun q => by omega, fun q => by omega⟩
  · exact ⟨fun q => by omega, fun q => by omega, fun q => by omega, fun q => by omega, fun q => by omega, fun q => by omega, fun q => by omega, fun _ => by rcases on with ⟨r, _⟩ | ⟨_, r, r2⟩; (· exact absurd r q); rw [if_neg (by omega), r2], fun q => by omega, fun q => by omega, fun q => by omega, fun q => by omega⟩
  · exact ⟨fun q => by omega, fun q => by omega, fun q => by omega, fun q => by omega, fun q => by omega, fun q => by omega, fun q => by omega, fun q => by omega, fun _ => by omega, fun q => by omega, fun q => by omega, fun q => by omega⟩
  · exact c_rowsShown (d + 27) hR a1 is ⟨⟨hR, a1⟩, go _ ⟨fun q => by omega, fun q => by omega, fun q => by omega, fun q => by omega, fun q => by omega, fun q => by omega, fun q => by omega, fun q => by omega, fun q => by omega, fun _ => rfl, fun q => by omega, fun q => by omega⟩⟩
  · exact ⟨fun q => by omega, fun q => by omega, fun q => by omega, fun q => by omega, fun q => by omega, fun q => by omega, fun q => by omega, fun q => by omega, fun q => by omega, fun q => by omega, fun _ => by omega, fun q => by omega⟩
  · exact ⟨fun q => by omega, fun q => by omega, fun q => by omega, fun q => by omega, fun q => by omega, fun q => by omega, fun q => by omega, fun q => by omega, fun q => by omega, fun q => by omega, fun q => by omega, fun _ => by rfl⟩
def PRL (d : Nat) (xs : Nat → Int) (mC mM : Nat) (vs : List am_V) (σ : am_S) (c : Nat) : Prop := am_Calls PP MLL (d + 30) mC (qr (2, 11, 10) :: vs) σ (kL fun x s => sI s 0 = xs ∧ am_Calls PP MLL (d + 30) mM (qr (31, 12, 89) :: vs) s (kL fun y t => x = y ∧ INV xs t (c + 1)))
theorem dgT_cg {f g : Nat → Int} {h : Int} : ∀ n, (∀ i, i < n → f i = g i) → dgT f n h = dgT g n h
  | 0, _ => rfl
  | n + 1, q => by
    show w64 (w64 (31 * dgT f n h) + f n) = w64 (w64 (31 * dgT g n h) + g n)
    rw [dgT_cg n (fun i hi => q i (by omega)), q n (by omega)]
theorem dgF_cg {f g : Nat → Int → Int} {h : Int} : ∀ n, (∀ i, i < n → ∀ v, f i v = g i v) → dgF f n h = dgF g n h
  | 0, _ => rfl
  | n + 1, q => by
    show f n (dgF f n h) = g n (dgF g n h)
    rw [dgF_cg n (fun i hi => q i (by omega)), q n (by omega)]
theorem dgP_cg {f g : Nat → Int} {p h : Int} (q : ∀ i : Nat, (i : Int) < p → f i = g i) : dgP f p h = dgP g p h := by
  unfold dgP
  exact dgT_cg _ (fun i hi => q i (by omega))
theorem c_digest (d : Nat) {β μ κ ρ : Nat → Nat} {me : Nat → Nat → Nat} {n aH nH aL nL aY nY aS nS T : Nat} {σ : am_S} {K : Int → am_S → Prop} (hR : TR σ aH nH aL nL aY nY aS nS) (hB : BS σ β μ κ ρ me n) (h5 : sI σ 2 5 = n) (hn : n ≤ 12) (h31 : sI σ 3 1 = T) (hT : T ≤ 10000) (hS : T ≤ nS) (hY : T ≤ nY) (hy : ∀ t, t < T → 0 ≤ sI σ aY t ∧ sI σ aY t < 1073741824) (hd : ∀ b, b < n → (sI σ (ρ b) 1 ≤ 20 ∧ sI σ (ρ b + 2) 1 ≤ 20) ∧ 0 ≤ sI σ (β b) 0 ∧ (sI σ (β b) 6 = 0 ∨ sI σ (β b) 6 = 1))
    (h : K (dgF (fun b v => dgB (if sI σ (β b) 6 = 0 then sI σ (β b) 0 else -1) (sI σ (β b) 7) (sI σ (ρ b) 1) (sI σ (ρ b + 2) 1) (sI σ (ρ b + 1)) (sI σ (ρ b + 3)) v) n (dgT (fun t => if sI σ aS t = 0 then (pc (sI σ aY t).toNat : Int) else -1) T (w64 ((w64 (31 * (w64 (527 + (sI σ 3 0))))) + (sI σ 2 6))))) σ) : am_Calls PP MLL (d + 3) m_C_digest [qr (2, 11, 10)] σ (kL K) := by
  refine v_C_digest_0 d β μ κ ρ me aH nH aL nL aY nY aS nS n σ K hR hB ?_
  obtain ⟨s0, e0⟩ : ∃ s0, s0 = (w64 ((w64 (31 * (w64 (527 + (sI σ 3 0))))) + (sI σ 2 6))) := ⟨_, rfl⟩
  rw [← e0] at h ⊢
  obtain ⟨G, eG⟩ : ∃ G : Nat → Int → Int, G = (fun b v => dgB (if sI σ (β b) 6 = 0 then sI σ (β b) 0 else -1) (sI σ (β b) 7) (sI σ (ρ b) 1) (sI σ (ρ b + 2) 1) (sI σ (ρ b + 1)) (sI σ (ρ b + 3)) v) := ⟨_, rfl⟩
  obtain ⟨F, eF⟩ : ∃ F : Nat → Int, F = (fun t => if sI σ aS t = 0 then (pc (sI σ aY t).toNat : Int) else -1) := ⟨_, rfl⟩
  rw [← eG, ← eF] at h
  have last := lp (P := fun i => ∀ z : Option am_V, am_Runs PP MLL (d + 2) m_C_digest 41 [some (qr (2, 11, 10)), some (ql (dgF G i (dgT F T s0))), z, some (qi (i : Int))] [] σ (kL K)) (N := n) (by
    intro z
    refine v_C_digest_41 d β μ κ ρ me aH nH aL nL aY nY aS nS n _ _ _ σ K hR hB ?_
    rw [h5]
    exact ⟨fun _ => h, fun q => by omega⟩) (by
    intro i hi ih z
    refine v_C_digest_41 d β μ κ ρ me aH nH aL nL aY nY aS nS n _ _ _ σ K hR hB ?_
    rw [h5, Int.toNat_natCast]
    obtain ⟨u1, u2, u3⟩ := hd i hi
    refine ⟨fun q => by omega, fun _ => ⟨by omega, c_Bdigest d hB hi u1 u2 u3 ⟨⟨hR, hB⟩, by omega, ?_⟩⟩⟩
    have e1 : dgB (if sI σ (β i) 6 = 0 then sI σ (β i) 0 else -1) (sI σ (β i) 7) (sI σ (ρ i) 1) (sI σ (ρ i + 2) 1) (sI σ (ρ i + 1)) (sI σ (ρ i + 3)) (dgF G i (dgT F T s0)) = dgF G (i + 1) (dgT F T s0) := by
      show _ = G i (dgF G i (dgT F T s0))
      rw [eG]
    rw [e1]
    exact ih none) 0 (Nat.zero_le _)
  have first := lp (P := fun i => am_Runs PP MLL (d + 2) m_C_digest 15 [some (qr (2, 11, 10)), some (ql (dgT F i s0)), none, some (qi (i : Int))] [] σ (kL K)) (N := T) (by
    refine v_C_digest_15 d β μ κ ρ me aH nH aL nL aY nY aS nS n _ _ _ σ K hR hB ?_
    rw [h31]
    exact ⟨fun _ => last _, fun q => by omega⟩) (by
    intro i hi ih
    refine v_C_digest_15 d β μ κ ρ me aH nH aL nL aY nY aS nS n _ _ _ σ K hR hB ?_
    rw [h31, Int.toNat_natCast]
    have ht : dgT F (i + 1) s0 = w64 (w64 (31 * dgT F i s0) + F i) := rfl
    refine ⟨fun q => by omega, fun _ => ⟨by omega, fun e => ⟨by omega, hy i hi, by omega, ?_⟩, fun e => ⟨by omega, ?_⟩⟩⟩
    · have : F i = (pc (sI σ aY i).toNat : Int) := by rw [eF]; exact if_pos e
      rw [this] at ht
      rw [← ht]
      exact ih
    · have : F i = -1 := by rw [eF]; exact if_neg e
      rw [this] at ht
      rw [← ht]
      exact ih) 0 (Nat.zero_le _)
  exact first
theorem p_digest (d : Nat) {xs : Nat → Int} {c : Nat} {σ : am_S} (hI : INV xs σ c) (hc : c + 1 ≤ 600) : PRL d xs m_C_digest m_M_digest [] σ c := by
  have hs := INV_s hI hc
  obtain ⟨own, β, μ, κ, ρ, me, n, aH, nH, aL, nL, aY, nY, aS, nS, N, l, m, T, W, kd, aR, nR, aV, nV, aI, nI, aQ, nQ, g, w, hx⟩ := hI
  have hx0 := hx
  obtain ⟨⟨hF, hab, hxs⟩, it, il, ib, im, ij, sc, rz, is, ir, hc6⟩ := hx
  have it0 := it
  obtain ⟨hR, ow, ti, kt, ks, ⟨w1, w2, w3, w4, w5, w6, w7, w8⟩, ⟨l1, l2, l3, l4⟩, lz, ⟨q1, q2, q3, q4⟩, h87⟩ := it
  have o1 := ow.1
  have ib0 := ib
  obtain ⟨a1, a2, a3, ⟨n12, a4, a5⟩, bd, a6, a7, a8, a9, a10⟩ := ib
  obtain ⟨m1, ⟨m2, T26⟩, m3, m4, m5, m6⟩ := im
  have tN := ti.2.2.2.2.1
  have tT := ti.2.2.2.2.2.2.1
  have T4 := ti.2.2.2.2.2.2.2.2.1
  have pw := p30 w1
  refine c_digest (d + 27) hR a1 a4 n12 w3 T4 l4 l3 (fun t ht => ?_) (fun b hb => ?_) ⟨hxs, ?_⟩
  · obtain ⟨k1, k2, k3, k4, k5, k6, k7⟩ := ks t ht
    rw [k4]
    omega
  · obtain ⟨d1, d2, d3, d4, d5, d6, _⟩ := bd b hb
    exact ⟨d6.1, d1.1, d2⟩
  · refine c_M_digest (d + 28) hF tT T4 a5 n12 (fun k => (a7 k).2) ⟨?_, hs⟩
    unfold mDig dg0
    have e0 : w64 (31 * 17) = 527 := w64_id (by decide) (by decide)
    rw [e0, w2, tN, m3.1]
    have e1 : dgT (fun t => if sI σ aS t = 0 then (pc (sI σ aY t).toNat : Int) else -1) T (w64 (w64 (31 * w64 (527 + (N : Int))) + sI σ 31 4)) = dgT (fun t => if sI σ 37 t < 0 then sI σ 36 t else -1) T (w64 (w64 (31 * w64 (527 + (N : Int))) + sI σ 31 4)) := dgT_cg T (fun t ht => by
      obtain ⟨k1, k2, k3, k4, k5, k6, k7⟩ := ks t ht
      show (if sI σ aS t = 0 then (pc (sI σ aY t).toNat : Int) else -1) = if sI σ 37 t < 0 then sI σ 36 t else -1
      rw [k4, k7, k1]
      by_cases q : sI σ 37 t < 0
      · rw [if_pos q, if_pos (by omega)]
      · rw [if_neg q, if_neg (by omega)])
    rw [e1]
    refine dgF_cg n (fun b hb v => ?_)
    obtain ⟨d1, d2, d3, d4, d5, d6, ⟨z1, z2, z3, z4⟩, _⟩ := bd b hb
    show dgB _ _ _ _ _ _ v = dgB _ _ _ _ _ _ v
    rw [← d3, d4.1, z1, z2]
    unfold dgB
    rw [dgP_cg (f := sI σ (ρ b + 1)) (g := fun i => sI σ 45 (40 * b + i)) z3, dgP_cg (f := sI σ (ρ b + 3)) (g := fun i => sI σ 45 (40 * b + 20 + i)) z4]
