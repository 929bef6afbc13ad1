/-! coins: the class, behind the charge -/
theorem v_C_coins_0 (d : Nat) (β μ κ ρ : Nat → Nat) (me : Nat → Nat → Nat) (aH nH aL nL aY nY aS nS n : Nat) (p1 p2 p3 p4 : Int) (σ : am_S) (K : Int → am_S → Prop) (hR : TR σ aH nH aL nL aY nY aS nS) (hB : BS σ β μ κ ρ me n) (h :
  ((p1 < 1 →
    K (-1001) σ) ∧
  (¬ (p1 < 1) →
    ((40 < p1 →
      K (-1001) σ) ∧
    (¬ (40 < p1) →
      ((p4 < 1 →
        K (-1001) σ) ∧
      (¬ (p4 < 1) →
        ((p4 ≤ 3 →
          ((p2 < 0 →
            K (-1001) σ) ∧
          (¬ (p2 < 0) →
            ((p3 < p2 →
              K (-1001) σ) ∧
            (¬ (p3 < p2) →
              ((3 < p3 →
                K (-1001) σ) ∧
              (¬ (3 < p3) →
                ((p3 ≤ p1 →
                  am_Calls PP MLL (d + 4) m_Truths_howMany [qi p1, qi p2, qi p3, qi p4] σ (kI fun x9 s9 =>
                    (TR s9 aH nH aL nL aY nY aS nS ∧ BS s9 β μ κ ρ me n) ∧
                    ((x9 ≤ 10000 →
                      am_Calls PP MLL (d + 4) m_Truths_charge [qr (3, 9, 11), qi p1, qi p2, qi p3, qi p4] s9 (kV fun s11 =>
                        (TR s11 aH nH aL nL aY nY aS nS ∧ BS s11 β μ κ ρ me n) ∧
                        am_Runs PP MLL (d + 4) m_C_coins 45 [some (qr (2, 11, 10)), some (qi p1), some (qi p2), some (qi p3), some (qi p4), some (qi 0)] [] s11 (kI K))) ∧
                    (¬ (x9 ≤ 10000) →
                      K (-1003) s9)))) ∧
                (¬ (p3 ≤ p1) →
                  K (-1001) σ))))))))) ∧
        (¬ (p4 ≤ 3) →
          K (-1001) σ))))))))) : am_Runs PP MLL (d + 4) m_C_coins 0 [some (qr (2, 11, 10)), some (qi p1), some (qi p2), some (qi p3), some (qi p4), none] [] σ (kI K) := am_wEF_ok (orc [(37, 3, 9, 11)]) 200 (⟨fun c1 => (h.1 c1), fun c1 => ⟨fun c2 => ((h.2 c1).1 c2), fun c2 => ⟨fun c3 => (((h.2 c1).2 c2).1 c3), fun c3 => ⟨fun c4 => ⟨fun c5 => (((((h.2 c1).2 c2).2 c3).1 c4).1 c5), fun c5 => ⟨fun c6 => ((((((h.2 c1).2 c2).2 c3).1 c4).2 c5).1 c6), fun c6 => ⟨fun c7 => (((((((h.2 c1).2 c2).2 c3).1 c4).2 c5).2 c6).1 c7), fun c7 => ⟨fun c8 => (am_cI ((((((((h.2 c1).2 c2).2 c3).1 c4).2 c5).2 c6).2 c7).1 c8) fun x9 s9 h9 => ⟨fun c10 => ⟨⟨rfl, (h9.1.1.1 2 0 _ rfl)⟩, ⟨rfl, (am_cV (h9.2.1 c10) fun s11 h11 => h11.2)⟩⟩, fun c10 => (h9.2.2 c10)⟩), fun c8 => ((((((((h.2 c1).2 c2).2 c3).1 c4).2 c5).2 c6).2 c7).2 c8)⟩⟩⟩⟩, fun c4 => ((((h.2 c1).2 c2).2 c3).2 c4)⟩⟩⟩⟩)

theorem v_C_coins_45 (d : Nat) (β μ κ ρ : Nat → Nat) (me : Nat → Nat → Nat) (aH nH aL nL aY nY aS nS n : Nat) (v5 : Int) (z1 z2 z3 z4 : Option am_V) (σ : am_S) (K : Int → am_S → Prop) (hR : TR σ aH nH aL nL aY nY aS nS) (hB : BS σ β μ κ ρ me n) (h :
  (((sI σ 2 5) ≤ v5 →
    am_Calls PP MLL (d + 4) m_Jury_forget [qr (26, 1, 8)] σ (kV fun s3 =>
      (TR s3 aH nH aL nL aY nY aS nS ∧ BS s3 β μ κ ρ me n) ∧
      K (sI s3 3 1) (putI (putR s3 12 6 none) 12 13 0))) ∧
  (¬ ((sI σ 2 5) ≤ v5) →
    (0 ≤ v5 ∧ v5 < 12 ∧ (Int.toNat v5) < n) ∧
    am_Calls PP MLL (d + 4) m_Balance_clear [qr (β (Int.toNat v5), 0, 9)] σ (kV fun s4 =>
      (TR s4 aH nH aL nL aY nY aS nS ∧ BS s4 β μ κ ρ me n) ∧
      (-2147483648 ≤ v5 + 1 ∧ v5 + 1 < 2147483648) ∧
      am_Runs PP MLL (d + 4) m_C_coins 45 [some (qr (2, 11, 10)), z1, z2, z3, (am_cl z4), some (qi (v5 + 1))] [] s4 (kI K))))) : am_Runs PP MLL (d + 4) m_C_coins 45 [some (qr (2, 11, 10)), z1, z2, z3, z4, some (qi v5)] [] σ (kI K) := am_wEF_ok (orc [(50, 9, 22, 12), (52, β (Int.toNat v5), 0, 9), (57, 26, 1, 8), (60, 12, 5, 18), (63, 3, 9, 11)]) 200 (⟨rfl, ⟨fun c2 => ⟨⟨rfl, (hR.1 2 4 _ rfl)⟩, ⟨rfl, (am_cV (h.1 c2) fun s3 h3 => ⟨⟨rfl, (h3.1.1.1 2 3 _ rfl)⟩, ⟨rfl, am_wEF_ok (orc []) 200 (⟨rfl, ⟨⟨rfl, (Or.inl rfl)⟩, ⟨⟨rfl, (h3.1.1.1 2 0 _ rfl)⟩, ⟨rfl, h3.2⟩⟩⟩⟩)⟩⟩)⟩⟩, fun c2 => ⟨⟨rfl, (hR.1 2 1 _ rfl)⟩, ⟨⟨rfl, (h.2 c2).1.1, (h.2 c2).1.2.1, (hB (Int.toNat v5) (h.2 c2).1.2.2).1⟩, ⟨rfl, (am_cV (h.2 c2).2 fun s4 h4 => ⟨⟨h4.2.1.1, h4.2.1.2⟩, h4.2.2⟩)⟩⟩⟩⟩⟩)

theorem v_Jury_forget_0 (d : Nat) (β μ κ ρ : Nat → Nat) (me : Nat → Nat → Nat) (aH nH aL nL aY nY aS nS n : Nat) (σ : am_S) (K : am_S → Prop) (hR : TR σ aH nH aL nL aY nY aS nS) (hB : BS σ β μ κ ρ me n) (h :
  am_Calls PP MLL (d + 1) m_Arr_fill_AJJV [qr (27, 21, 6), ql 0] (putI σ 26 2 0) (kV fun s1 =>
    (TR s1 aH nH aL nL aY nY aS nS ∧ BS s1 β μ κ ρ me n) ∧
    am_Calls PP MLL (d + 1) m_Arr_fill_AJJV [qr (28, 21, 6), ql 0] s1 (kV fun s2 =>
      (TR s2 aH nH aL nL aY nY aS nS ∧ BS s2 β μ κ ρ me n) ∧
      K s2))) : am_Runs PP MLL (d + 1) m_Jury_forget 0 [some (qr (26, 1, 8))] [] σ (kV K) := am_wEF_ok (orc [(4, 27, 21, 6), (8, 28, 21, 6)]) 200 (⟨⟨rfl, (Or.inl rfl)⟩, ⟨⟨rfl, (hR.1 26 0 _ rfl)⟩, (am_cV h fun s1 h1 => ⟨⟨rfl, (h1.1.1.1 26 1 _ rfl)⟩, (am_cV h1.2 fun s2 h2 => h2.2)⟩)⟩⟩)

theorem v_Balance_clear_0 (d : Nat) (β μ κ ρ : Nat → Nat) (me : Nat → Nat → Nat) (b aH nH aL nL aY nY aS nS n : Nat) (σ : am_S) (K : am_S → Prop) (hR : TR σ aH nH aL nL aY nY aS nS) (hB : BS σ β μ κ ρ me n) (h :
  b < n ∧
  am_Calls PP MLL (d + 2) m_Pan_clear [qr (ρ b, 2, 2)] σ (kV fun s1 =>
    (TR s1 aH nH aL nL aY nY aS nS ∧ BS s1 β μ κ ρ me n) ∧
    am_Calls PP MLL (d + 2) m_Pan_clear [qr (ρ b + 2, 2, 2)] s1 (kV fun s2 =>
      (TR s2 aH nH aL nL aY nY aS nS ∧ BS s2 β μ κ ρ me n) ∧
      K s2))) : am_Runs PP MLL (d + 2) m_Balance_clear 0 [some (qr (β b, 0, 9))] [] σ (kV K) := am_wEF_ok (orc [(1, ρ b, 2, 2), (4, ρ b + 2, 2, 2)]) 200 (⟨⟨rfl, (hB b h.1).2.2.2.1⟩, ⟨rfl, (am_cV h.2 fun s1 h1 => ⟨⟨rfl, (h1.1.2 b h.1).2.2.2.2.1⟩, ⟨rfl, (am_cV h1.2 fun s2 h2 => h2.2)⟩⟩)⟩⟩)

def clr1 (σ : am_S) (a : Nat) : am_S := rowI σ a (fun j => if j < 20 then -1 else sI σ a j)
def clrT (σ : am_S) (ρ : Nat → Nat) : Nat → am_S
  | 0 => σ
  | i + 1 => clr1 (clr1 (clrT σ ρ i) (ρ i + 1)) (ρ i + 3)
theorem clrT_2 {σ : am_S} {ρ : Nat → Nat} : ∀ i, (clrT σ ρ i).2 = σ.2
  | 0 => rfl
  | i + 1 => clrT_2 i
theorem clrT_o {σ : am_S} {ρ : Nat → Nat} {x : Nat} : ∀ i, (∀ b, b < i → x ≠ ρ b + 1 ∧ x ≠ ρ b + 3) → sI (clrT σ ρ i) x = sI σ x
  | 0, _ => rfl
  | i + 1, h => by
    show sI (clr1 (clr1 (clrT σ ρ i) (ρ i + 1)) (ρ i + 3)) x = _
    unfold clr1
    rw [row_ne (h i (by omega)).2, row_ne (h i (by omega)).1]
    exact clrT_o i (fun b hb => h b (by omega))
theorem clr1_or {s σ : am_S} {a x j : Nat} (h : sI s x j = sI σ x j ∨ sI s x j = if j < 20 then -1 else sI σ x j) : sI (clr1 s a) x j = sI σ x j ∨ sI (clr1 s a) x j = if j < 20 then -1 else sI σ x j := by
  unfold clr1
  by_cases e : x = a
  · rw [e, row_at]
    rw [e] at h
    by_cases q : j < 20
    · rw [if_pos q]; exact Or.inr (by rw [if_pos q])
    · rw [if_neg q]; exact h
  · rw [row_ne e]; exact h
theorem clrT_or {σ : am_S} {ρ : Nat → Nat} : ∀ i b k j, sI (clrT σ ρ i) (ρ b + k) j = sI σ (ρ b + k) j ∨ sI (clrT σ ρ i) (ρ b + k) j = if j < 20 then -1 else sI σ (ρ b + k) j
  | 0, _, _, _ => Or.inl rfl
  | i + 1, b, k, j => clr1_or (clr1_or (clrT_or i b k j))
/-- a cleared pan's row -/
theorem clrT_at {σ : am_S} {ρ : Nat → Nat} : ∀ i b k, b < i → (k = 1 ∨ k = 3) → ∀ j, (sI (clrT σ ρ i) (ρ b + k) j = if j < 20 then -1 else sI σ (ρ b + k) j)
  | 0, b, _, hb, _, _ => absurd hb (Nat.not_lt_zero b)
  | i + 1, b, k, hb, hk, j => by
    have key : ∀ (s : am_S) (a : Nat), (sI s (ρ b + k) j = sI σ (ρ b + k) j ∨ sI s (ρ b + k) j = if j < 20 then -1 else sI σ (ρ b + k) j) → (sI (clr1 s a) (ρ b + k) j = sI s (ρ b + k) j ∨ sI (clr1 s a) (ρ b + k) j = if j < 20 then -1 else sI σ (ρ b + k) j) ∧ (a = ρ b + k → sI (clr1 s a) (ρ b + k) j = if j < 20 then -1 else sI σ (ρ b + k) j) := fun s a h => by
      unfold clr1
      by_cases e : ρ b + k = a
      · rw [← e, row_at]
        have : (if j < 20 then (-1 : Int) else sI s (ρ b + k) j) = if j < 20 then -1 else sI σ (ρ b + k) j := by
          by_cases q : j < 20
          · rw [if_pos q, if_pos q]
          · rw [if_neg q, if_neg q]
            rcases h with h | h
            · exact h
            · rw [h, if_neg q]
        exact ⟨Or.inr this, fun _ => this⟩
      · rw [row_ne e]
        exact ⟨Or.inl rfl, fun q => absurd q.symm e⟩
    have st : sI (clrT σ ρ i) (ρ b + k) j = sI σ (ρ b + k) j ∨ sI (clrT σ ρ i) (ρ b + k) j = if j < 20 then -1 else sI σ (ρ b + k) j := clrT_or i b k j
    show sI (clr1 (clr1 (clrT σ ρ i) (ρ i + 1)) (ρ i + 3)) (ρ b + k) j = _
    have k1 := key (clrT σ ρ i) (ρ i + 1) st
    have s1 : sI (clr1 (clrT σ ρ i) (ρ i + 1)) (ρ b + k) j = sI σ (ρ b + k) j ∨ sI (clr1 (clrT σ ρ i) (ρ i + 1)) (ρ b + k) j = if j < 20 then -1 else sI σ (ρ b + k) j := by
      rcases k1.1 with h | h
      · rw [h]; exact st
      · exact Or.inr h
    have k2 := key (clr1 (clrT σ ρ i) (ρ i + 1)) (ρ i + 3) s1
    by_cases e : b = i
    · rcases hk with q | q
      · have h1 := k1.2 (by rw [e, q])
        rcases k2.1 with h | h
        · rw [h, h1]
        · exact h
      · exact k2.2 (by rw [e, q])
    · have h0 := clrT_at (σ := σ) (ρ := ρ) i b k (by omega) hk j
      have h1 : sI (clr1 (clrT σ ρ i) (ρ i + 1)) (ρ b + k) j = if j < 20 then -1 else sI σ (ρ b + k) j := by
        rcases k1.1 with h | h
        · rw [h, h0]
        · exact h
      rcases k2.1 with h | h
      · rw [h, h1]
      · exact h
def fgt (σ : am_S) : am_S := rowI (rowI (putI σ 26 2 0) 27 (fun j => if j < 6 then 0 else sI σ 27 j)) 28 (fun j => if j < 6 then 0 else sI σ 28 j)
theorem c_forget (d : Nat) {β μ κ ρ : Nat → Nat} {me : Nat → Nat → Nat} {n aH nH aL nL aY nY aS nS : Nat} {σ : am_S} {K : am_S → Prop} (hR : TR σ aH nH aL nL aY nY aS nS) (hB : BS σ β μ κ ρ me n) (h : K (fgt σ)) : am_Calls PP MLL (d + 2) m_Jury_forget [qr (26, 1, 8)] σ (kV K) := by
  refine v_Jury_forget_0 d β μ κ ρ me aH nH aL nL aY nY aS nS n σ K hR hB (c_fillL d (by decide) ⟨⟨TR_2 rfl hR, BS_2 rfl hB⟩, c_fillL d (by decide) ⟨⟨TR_2 rfl hR, BS_2 rfl hB⟩, ?_⟩⟩)
  have e27 : sI (putI σ 26 2 0) 27 = sI σ 27 := put_ne (by decide)
  have e28 : sI (rowI (putI σ 26 2 0) 27 (fun j => if j < 6 then 0 else sI (putI σ 26 2 0) 27 j)) 28 = sI σ 28 := by rw [row_ne (by decide), put_ne (by decide)]
  rw [e28, e27]
  exact h
theorem c_Bclear (d : Nat) {β μ κ ρ : Nat → Nat} {me : Nat → Nat → Nat} {n b aH nH aL nL aY nY aS nS : Nat} {σ : am_S} {K : am_S → Prop} (hR : TR σ aH nH aL nL aY nY aS nS) (hB : BS σ β μ κ ρ me n) (hb : b < n) (h : K (clr1 (clr1 σ (ρ b + 1)) (ρ b + 3))) : am_Calls PP MLL (d + 3) m_Balance_clear [qr (β b, 0, 9)] σ (kV K) := by
  have p1 : PF σ (ρ b) := (hB b hb).2.2.2.2.2.1
  have p2 : PF (clr1 σ (ρ b + 1)) (ρ b + 2) := (hB b hb).2.2.2.2.2.2.1
  exact v_Balance_clear_0 d β μ κ ρ me b aH nH aL nL aY nY aS nS n σ K hR hB ⟨hb, c_Pan_clear d p1 ⟨⟨TR_2 rfl hR, BS_2 rfl hB⟩, c_Pan_clear d p2 ⟨⟨TR_2 rfl hR, BS_2 rfl hB⟩, h⟩⟩⟩
theorem l_coins45 (d : Nat) {β μ κ ρ : Nat → Nat} {me : Nat → Nat → Nat} {n aH nH aL nL aY nY aS nS : Nat} {σ : am_S} {K : Int → am_S → Prop} (hR : TR σ aH nH aL nL aY nY aS nS) (hB : BS σ β μ κ ρ me n) (hn : n ≤ 12) (h5 : sI σ 2 5 = n) (h2 : ∀ b, b < n → 2 ≠ ρ b + 1 ∧ 2 ≠ ρ b + 3) (h : K (sI (fgt (clrT σ ρ n)) 3 1) (putI (putR (fgt (clrT σ ρ n)) 12 6 none) 12 13 0)) (z1 z2 z3 z4 : Option am_V) : am_Runs PP MLL (d + 4) m_C_coins 45 [some (qr (2, 11, 10)), z1, z2, z3, z4, some (qi 0)] [] σ (kI K) := by
  have key := lp (P := fun i => ∀ z1 z2 z3 z4, am_Runs PP MLL (d + 4) m_C_coins 45 [some (qr (2, 11, 10)), z1, z2, z3, z4, some (qi (i : Int))] [] (clrT σ ρ i) (kI K)) (N := n) ?_ ?_ 0 (Nat.zero_le _)
  · exact key z1 z2 z3 z4
  · intro z1 z2 z3 z4
    have e5 : sI (clrT σ ρ n) 2 = sI σ 2 := clrT_o n h2
    refine v_C_coins_45 d β μ κ ρ me aH nH aL nL aY nY aS nS n _ z1 z2 z3 z4 _ K (TR_2 (clrT_2 n) hR) (BS_2 (clrT_2 n) hB) ?_
    rw [e5, h5]
    refine ⟨fun _ => c_forget (d + 2) (TR_2 (clrT_2 n) hR) (BS_2 (clrT_2 n) hB) ⟨⟨TR_2 (clrT_2 n) hR, BS_2 (clrT_2 n) hB⟩, h⟩, fun q => by omega⟩
  · intro i hi ih z1 z2 z3 z4
    have e5 : sI (clrT σ ρ i) 2 = sI σ 2 := clrT_o i (fun b hb => h2 b (by omega))
    refine v_C_coins_45 d β μ κ ρ me aH nH aL nL aY nY aS nS n _ z1 z2 z3 z4 _ K (TR_2 (clrT_2 i) hR) (BS_2 (clrT_2 i) hB) ?_
    rw [e5, h5, Int.toNat_natCast]
    exact ⟨fun q => by omega, fun _ => ⟨by omega, c_Bclear (d + 1) (TR_2 (clrT_2 i) hR) (BS_2 (clrT_2 i) hB) hi ⟨⟨TR_2 (clrT_2 (i + 1)) hR, BS_2 (clrT_2 (i + 1)) hB⟩, by omega, ih _ _ _ _⟩⟩⟩
