/-! pans: faults, and what changes in pans alone -/
theorem v_C_withoutPans_0 (d : Nat) (β μ κ ρ : Nat → Nat) (me : Nat → Nat → Nat) (b aH nH aL nL aY nY aS nS n : Nat) (σ : am_S) (K : Int → am_S → Prop) (hR : TR σ aH nH aL nL aY nY aS nS) (hB : BS σ β μ κ ρ me n) (h :
  (((sI σ (β b) 6) = 0 →
    K (if (sI σ (β b) 0) = 6 then (4 : Int) else 0) σ) ∧
  (¬ ((sI σ (β b) 6) = 0) →
    K 1 σ))) : am_Runs PP MLL d m_C_withoutPans 0 [some (qr (β b, 0, 9))] [] σ (kI K) := am_wEC_ok (orc []) [12] 200 (⟨rfl, ⟨fun c1 => ⟨rfl, am_use (fun H3 => ⟨fun c2 => (Eq.mp (congrArg (fun z => am_Runs _ _ _ _ _ _ (qi z :: _) _ _) (if_pos c2 : (if (sI σ (β b) 0) = 6 then (4 : Int) else 0) = 4)) H3), fun c2 => (Eq.mp (congrArg (fun z => am_Runs _ _ _ _ _ _ (qi z :: _) _ _) (if_neg c2 : (if (sI σ (β b) 0) = 6 then (4 : Int) else 0) = 0)) H3)⟩) (am_wEC_ok (orc []) [12] 200 ((h.1 c1)))⟩, fun c1 => (h.2 c1)⟩⟩)

theorem v_C_withoutPan_0 (d : Nat) (β μ κ ρ : Nat → Nat) (me : Nat → Nat → Nat) (b aH nH aL nL aY nY aS nS n : Nat) (p1 : Int) (σ : am_S) (K : Int → am_S → Prop) (hR : TR σ aH nH aL nL aY nY aS nS) (hB : BS σ β μ κ ρ me n) (h :
  am_Calls PP MLL (d + 1) m_C_withoutPans [qr (β b, 0, 9)] σ (kI fun x1 s1 =>
    (TR s1 aH nH aL nL aY nY aS nS ∧ BS s1 β μ κ ρ me n) ∧
    ((x1 = 0 →
      ((p1 = 0 →
        b < n ∧
        ((0 ≤ (sI s1 (ρ b) 1) →
          K 0 s1) ∧
        (¬ (0 ≤ (sI s1 (ρ b) 1)) →
          K 2 s1))) ∧
      (¬ (p1 = 0) →
        b < n ∧
        ((0 ≤ (sI s1 (ρ b + 2) 1) →
          K 0 s1) ∧
        (¬ (0 ≤ (sI s1 (ρ b + 2) 1)) →
          K 2 s1))))) ∧
    (¬ (x1 = 0) →
      K x1 s1)))) : am_Runs PP MLL (d + 1) m_C_withoutPan 0 [some (qr (β b, 0, 9)), some (qi p1), none] [] σ (kI K) := am_wEF_ok (orc []) 200 ((am_cI h fun x1 s1 h1 => ⟨fun c2 => ⟨rfl, am_wEF_ok (orc [(3, ρ b, 2, 2), (6, ρ b + 2, 2, 2)]) 200 (⟨fun c4 => ⟨⟨rfl, (h1.1.2 b ((h1.2.1 c2).1 c4).1).2.2.2.1⟩, ⟨rfl, am_wEF_ok (orc []) 200 (⟨rfl, ⟨fun c5 => ⟨(Or.inl rfl), ⟨fun _ => (((h1.2.1 c2).1 c4).2.1 c5), fun c => absurd (by decide : (0 : Int) = 0) c⟩⟩, fun c5 => ⟨(Or.inr rfl), ⟨fun c => absurd c (by decide : ¬ ((1 : Int) = 0)), fun _ => (((h1.2.1 c2).1 c4).2.2 c5)⟩⟩⟩⟩)⟩⟩, fun c4 => ⟨⟨rfl, (h1.1.2 b ((h1.2.1 c2).2 c4).1).2.2.2.2.1⟩, ⟨rfl, am_wEF_ok (orc []) 200 (⟨rfl, ⟨fun c6 => ⟨(Or.inl rfl), ⟨fun _ => (((h1.2.1 c2).2 c4).2.1 c6), fun c => absurd (by decide : (0 : Int) = 0) c⟩⟩, fun c6 => ⟨(Or.inr rfl), ⟨fun c => absurd c (by decide : ¬ ((1 : Int) = 0)), fun _ => (((h1.2.1 c2).2 c4).2.2 c6)⟩⟩⟩⟩)⟩⟩⟩)⟩, fun c2 => (h1.2.2 c2)⟩))

theorem v_C_withoutPlace_0 (d : Nat) (β μ κ ρ : Nat → Nat) (me : Nat → Nat → Nat) (b aH nH aL nL aY nY aS nS n : Nat) (p1 p2 : Int) (σ : am_S) (K : Int → am_S → Prop) (hR : TR σ aH nH aL nL aY nY aS nS) (hB : BS σ β μ κ ρ me n) (h :
  am_Calls PP MLL (d + 2) m_C_withoutPan [qr (β b, 0, 9), qi p1] σ (kI fun x1 s1 =>
    (TR s1 aH nH aL nL aY nY aS nS ∧ BS s1 β μ κ ρ me n) ∧
    ((x1 = 0 →
      ((p1 = 0 →
        b < n ∧
        ((p2 < 0 →
          K 3 s1) ∧
        (¬ (p2 < 0) →
          (((sI s1 (ρ b) 1) < p2 →
            K 3 s1) ∧
          (¬ ((sI s1 (ρ b) 1) < p2) →
            (-2147483648 ≤ (sI s1 (ρ b) 1) - p2 ∧ (sI s1 (ρ b) 1) - p2 < 2147483648) ∧
            ((((sI s1 (ρ b) 1) - p2) < 1 →
              K 3 s1) ∧
            (¬ (((sI s1 (ρ b) 1) - p2) < 1) →
              K 0 s1))))))) ∧
      (¬ (p1 = 0) →
        b < n ∧
        ((p2 < 0 →
          K 3 s1) ∧
        (¬ (p2 < 0) →
          (((sI s1 (ρ b + 2) 1) < p2 →
            K 3 s1) ∧
          (¬ ((sI s1 (ρ b + 2) 1) < p2) →
            (-2147483648 ≤ (sI s1 (ρ b + 2) 1) - p2 ∧ (sI s1 (ρ b + 2) 1) - p2 < 2147483648) ∧
            ((((sI s1 (ρ b + 2) 1) - p2) < 1 →
              K 3 s1) ∧
            (¬ (((sI s1 (ρ b + 2) 1) - p2) < 1) →
              K 0 s1))))))))) ∧
    (¬ (x1 = 0) →
      K x1 s1)))) : am_Runs PP MLL (d + 2) m_C_withoutPlace 0 [some (qr (β b, 0, 9)), some (qi p1), some (qi p2), none] [] σ (kI K) := am_wEF_ok (orc []) 200 ((am_cI h fun x1 s1 h1 => ⟨fun c2 => ⟨rfl, am_wEF_ok (orc [(3, ρ b, 2, 2), (6, ρ b + 2, 2, 2)]) 200 (⟨fun c4 => ⟨⟨rfl, (h1.1.2 b ((h1.2.1 c2).1 c4).1).2.2.2.1⟩, ⟨rfl, am_wEF_ok (orc []) 200 (⟨fun c5 => ⟨(Or.inl rfl), ⟨fun _ => (((h1.2.1 c2).1 c4).2.1 c5), fun c => absurd (by decide : (0 : Int) = 0) c⟩⟩, fun c5 => ⟨fun c => absurd c (by decide : ¬ ((1 : Int) < 0)), fun _ => ⟨rfl, ⟨fun c6 => ⟨(Or.inl rfl), ⟨fun _ => ((((h1.2.1 c2).1 c4).2.2 c5).1 c6), fun c => absurd (by decide : (0 : Int) = 0) c⟩⟩, fun c6 => ⟨rfl, ⟨⟨((((h1.2.1 c2).1 c4).2.2 c5).2 c6).1.1, ((((h1.2.1 c2).1 c4).2.2 c5).2 c6).1.2⟩, ⟨fun c7 => ⟨(Or.inl rfl), ⟨fun _ => (((((h1.2.1 c2).1 c4).2.2 c5).2 c6).2.1 c7), fun c => absurd (by decide : (0 : Int) = 0) c⟩⟩, fun c7 => ⟨(Or.inr rfl), ⟨fun c => absurd c (by decide : ¬ ((1 : Int) = 0)), fun _ => (((((h1.2.1 c2).1 c4).2.2 c5).2 c6).2.2 c7)⟩⟩⟩⟩⟩⟩⟩⟩⟩)⟩⟩, fun c4 => ⟨⟨rfl, (h1.1.2 b ((h1.2.1 c2).2 c4).1).2.2.2.2.1⟩, ⟨rfl, am_wEF_ok (orc []) 200 (⟨fun c8 => ⟨(Or.inl rfl), ⟨fun _ => (((h1.2.1 c2).2 c4).2.1 c8), fun c => absurd (by decide : (0 : Int) = 0) c⟩⟩, fun c8 => ⟨fun c => absurd c (by decide : ¬ ((1 : Int) < 0)), fun _ => ⟨rfl, ⟨fun c9 => ⟨(Or.inl rfl), ⟨fun _ => ((((h1.2.1 c2).2 c4).2.2 c8).1 c9), fun c => absurd (by decide : (0 : Int) = 0) c⟩⟩, fun c9 => ⟨rfl, ⟨⟨((((h1.2.1 c2).2 c4).2.2 c8).2 c9).1.1, ((((h1.2.1 c2).2 c4).2.2 c8).2 c9).1.2⟩, ⟨fun c10 => ⟨(Or.inl rfl), ⟨fun _ => (((((h1.2.1 c2).2 c4).2.2 c8).2 c9).2.1 c10), fun c => absurd (by decide : (0 : Int) = 0) c⟩⟩, fun c10 => ⟨(Or.inr rfl), ⟨fun c => absurd c (by decide : ¬ ((1 : Int) = 0)), fun _ => (((((h1.2.1 c2).2 c4).2.2 c8).2 c9).2.2 c10)⟩⟩⟩⟩⟩⟩⟩⟩⟩)⟩⟩⟩)⟩, fun c2 => (h1.2.2 c2)⟩))

theorem v_M_panFault_0 (d : Nat) (p1 : Int) (σ : am_S) (K : Int → am_S → Prop) (hF : MF σ) (hT : sI σ 31 26 = 0) (h :
  (0 ≤ p1 ∧ p1 < 12 ∧ ((0 ≤ (sI σ 41 (Int.toNat p1))) → 0 ≤ p1) ∧ ((0 ≤ (sI σ 41 (Int.toNat p1))) → p1 < 12)) ∧
  K (if 0 ≤ (sI σ 41 (Int.toNat p1)) then (if (sI σ 41 (Int.toNat p1)) = 6 then (4 : Int) else 0 : Int) else 1) σ) : am_Runs PP MLL (d + 1) m_M_panFault 0 [some (qr (31, 12, 89)), some (qi p1)] [] σ (kI K) := am_wEC_ok (orc [(7, 41, 20, 12)]) [15] 200 (am_use (fun H3 => ⟨rfl, c_M_isThere _ hF h.1.1 h.1.2.1 (fun c1 => ⟨fun c => absurd c (by decide : ¬ ((1 : Int) = 0)), fun _ => ⟨⟨rfl, (hF 17)⟩, ⟨⟨rfl, h.1.1, h.1.2.1⟩, ⟨fun c2 => (Eq.mp (congrArg (fun z => am_Runs _ _ _ _ _ _ (qi z :: _) _ _) (Eq.trans (if_pos c1 : (if 0 ≤ (sI σ 41 (Int.toNat p1)) then (if (sI σ 41 (Int.toNat p1)) = 6 then (4 : Int) else 0 : Int) else 1) = if (sI σ 41 (Int.toNat p1)) = 6 then (4 : Int) else 0) (if_pos c2 : (if (sI σ 41 (Int.toNat p1)) = 6 then (4 : Int) else 0) = 4))) H3), fun c2 => (Eq.mp (congrArg (fun z => am_Runs _ _ _ _ _ _ (qi z :: _) _ _) (Eq.trans (if_pos c1 : (if 0 ≤ (sI σ 41 (Int.toNat p1)) then (if (sI σ 41 (Int.toNat p1)) = 6 then (4 : Int) else 0 : Int) else 1) = if (sI σ 41 (Int.toNat p1)) = 6 then (4 : Int) else 0) (if_neg c2 : (if (sI σ 41 (Int.toNat p1)) = 6 then (4 : Int) else 0) = 0))) H3)⟩⟩⟩⟩) (fun c1 => ⟨fun _ => (Eq.mp (congrArg (fun z => am_Runs _ _ _ _ _ _ (qi z :: _) _ _) (if_neg c1 : (if 0 ≤ (sI σ 41 (Int.toNat p1)) then (if (sI σ 41 (Int.toNat p1)) = 6 then (4 : Int) else 0 : Int) else 1) = 1)) H3), fun c => absurd (by decide : (0 : Int) = 0) c⟩)⟩) (am_wEC_ok (orc []) [15] 200 (h.2)))

theorem v_M_placeFault_0 (d : Nat) (p1 p2 p3 : Int) (σ : am_S) (K : Int → am_S → Prop) (hF : MF σ) (hT : sI σ 31 26 = 0) (h :
  am_Calls PP MLL (d + 2) m_M_panFault [qr (31, 12, 89), qi p1] σ (kI fun x1 s1 =>
    (MF s1 ∧ sI s1 31 26 = 0) ∧
    (((x1 = 0) → -2147483648 ≤ 2 * p1) ∧ ((x1 = 0) → 2 * p1 < 2147483648) ∧ ((x1 = 0) → -2147483648 ≤ (2 * p1) + p2) ∧ ((x1 = 0) → (2 * p1) + p2 < 2147483648) ∧ ((x1 = 0) → 0 ≤ ((2 * p1) + p2)) ∧ ((x1 = 0) → ((2 * p1) + p2) < 24)) ∧
    (((if x1 = 0 then (if 0 ≤ (sI s1 44 (Int.toNat ((2 * p1) + p2))) then (x1 : Int) else 2 : Int) else x1) = 0 →
      (-2147483648 ≤ 2 * p1 ∧ 2 * p1 < 2147483648 ∧ -2147483648 ≤ (2 * p1) + p2 ∧ (2 * p1) + p2 < 2147483648 ∧ 0 ≤ ((2 * p1) + p2) ∧ ((2 * p1) + p2) < 24 ∧ -2147483648 ≤ (sI s1 44 (Int.toNat ((2 * p1) + p2))) - 1 ∧ (sI s1 44 (Int.toNat ((2 * p1) + p2))) - 1 < 2147483648) ∧
      ((p3 < 0 →
        K 3 s1) ∧
      (¬ (p3 < 0) →
        ((((sI s1 44 (Int.toNat ((2 * p1) + p2))) - 1) < p3 →
          K 3 s1) ∧
        (¬ (((sI s1 44 (Int.toNat ((2 * p1) + p2))) - 1) < p3) →
          K (if x1 = 0 then (if 0 ≤ (sI s1 44 (Int.toNat ((2 * p1) + p2))) then (x1 : Int) else 2 : Int) else x1) s1))))) ∧
    (¬ ((if x1 = 0 then (if 0 ≤ (sI s1 44 (Int.toNat ((2 * p1) + p2))) then (x1 : Int) else 2 : Int) else x1) = 0) →
      K (if x1 = 0 then (if 0 ≤ (sI s1 44 (Int.toNat ((2 * p1) + p2))) then (x1 : Int) else 2 : Int) else x1) s1)))) : am_Runs PP MLL (d + 2) m_M_placeFault 0 [some (qr (31, 12, 89)), some (qi p1), some (qi p2), some (qi p3), none] [] σ (kI K) := am_wEC_ok (orc [(7, 44, 20, 24)]) [18] 200 (⟨rfl, (am_cI h fun x1 s1 h1 => am_use (fun H8 => ⟨fun c2 => ⟨⟨rfl, (h1.1.1 20)⟩, ⟨⟨(h1.2.1.1 c2), (h1.2.1.2.1 c2)⟩, ⟨⟨(h1.2.1.2.2.1 c2), (h1.2.1.2.2.2.1 c2)⟩, ⟨⟨rfl, (h1.2.1.2.2.2.2.1 c2), (h1.2.1.2.2.2.2.2 c2)⟩, ⟨fun c3 => (Eq.mp (congrArg (fun z => am_Runs _ _ _ _ _ _ (qi z :: _) _ _) (Eq.trans (if_pos c2 : (if x1 = 0 then (if 0 ≤ (sI s1 44 (Int.toNat ((2 * p1) + p2))) then (x1 : Int) else 2 : Int) else x1) = if 0 ≤ (sI s1 44 (Int.toNat ((2 * p1) + p2))) then (x1 : Int) else 2) (if_pos c3 : (if 0 ≤ (sI s1 44 (Int.toNat ((2 * p1) + p2))) then (x1 : Int) else 2) = x1))) H8), fun c3 => (Eq.mp (congrArg (fun z => am_Runs _ _ _ _ _ _ (qi z :: _) _ _) (Eq.trans (if_pos c2 : (if x1 = 0 then (if 0 ≤ (sI s1 44 (Int.toNat ((2 * p1) + p2))) then (x1 : Int) else 2 : Int) else x1) = if 0 ≤ (sI s1 44 (Int.toNat ((2 * p1) + p2))) then (x1 : Int) else 2) (if_neg c3 : (if 0 ≤ (sI s1 44 (Int.toNat ((2 * p1) + p2))) then (x1 : Int) else 2) = 2))) H8)⟩⟩⟩⟩⟩, fun c2 => (Eq.mp (congrArg (fun z => am_Runs _ _ _ _ _ _ (qi z :: _) _ _) (if_neg c2 : (if x1 = 0 then (if 0 ≤ (sI s1 44 (Int.toNat ((2 * p1) + p2))) then (x1 : Int) else 2 : Int) else x1) = x1)) H8)⟩) (am_wEC_ok (orc [(24, 44, 20, 24)]) [18] 200 (⟨fun c5 => ⟨⟨rfl, (h1.1.1 20)⟩, ⟨⟨(h1.2.2.1 c5).1.1, (h1.2.2.1 c5).1.2.1⟩, ⟨⟨(h1.2.2.1 c5).1.2.2.1, (h1.2.2.1 c5).1.2.2.2.1⟩, ⟨⟨rfl, (h1.2.2.1 c5).1.2.2.2.2.1, (h1.2.2.1 c5).1.2.2.2.2.2.1⟩, ⟨⟨(h1.2.2.1 c5).1.2.2.2.2.2.2.1, (h1.2.2.1 c5).1.2.2.2.2.2.2.2⟩, am_wEF_ok (orc []) 200 (⟨fun c6 => ⟨(Or.inl rfl), ⟨fun _ => ((h1.2.2.1 c5).2.1 c6), fun c => absurd (by decide : (0 : Int) = 0) c⟩⟩, fun c6 => ⟨fun c7 => ⟨(Or.inl rfl), ⟨fun _ => (((h1.2.2.1 c5).2.2 c6).1 c7), fun c => absurd (by decide : (0 : Int) = 0) c⟩⟩, fun c7 => ⟨(Or.inr rfl), ⟨fun c => absurd c (by decide : ¬ ((1 : Int) = 0)), fun _ => (((h1.2.2.1 c5).2.2 c6).2 c7)⟩⟩⟩⟩)⟩⟩⟩⟩⟩, fun c5 => (h1.2.2.2 c5)⟩)))⟩)

def paF (k : Int) : Int := if 0 ≤ k then (if k = 6 then 4 else 0) else 1
def pnF (k p : Int) : Int := if paF k = 0 then (if 0 ≤ p then 0 else 2) else paF k
def plF (k p j : Int) : Int := if pnF k p = 0 then (if 0 ≤ j ∧ j < p then 0 else 3) else pnF k p
theorem paF_b {k : Int} : 0 ≤ paF k ∧ paF k ≤ 4 := by unfold paF; (repeat' split) <;> omega
theorem pnF_b {k p : Int} : 0 ≤ pnF k p ∧ pnF k p ≤ 4 := by have := @paF_b k; unfold pnF; (repeat' split) <;> omega
theorem plF_b {k p j : Int} : 0 ≤ plF k p j ∧ plF k p j ≤ 4 := by have := @pnF_b k p; unfold plF; (repeat' split) <;> omega
theorem pnF_0 {k p : Int} (h : pnF k p = 0) : 0 ≤ p ∧ paF k = 0 := by
  unfold pnF at h
  split at h
  · split at h
    · exact ⟨by assumption, by assumption⟩
    · omega
  · omega
theorem plF_0 {k p j : Int} (h : plF k p j = 0) : 0 ≤ j ∧ j < p ∧ pnF k p = 0 := by
  unfold plF at h
  split at h
  · split at h
    · rename_i h1 h2
      exact ⟨h2.1, h2.2, h1⟩
    · omega
  · omega
theorem c_wPans (d : Nat) {β μ κ ρ : Nat → Nat} {me : Nat → Nat → Nat} {n b c aH nH aL nL aY nY aS nS : Nat} {σ : am_S} {K : Int → am_S → Prop} (hR : TR σ aH nH aL nL aY nY aS nS) (hB : BS σ β μ κ ρ me n) (hb : b < n) (D : BD σ β κ ρ me n c b) (h : K (paF (sI σ 41 b)) σ) : am_Calls PP MLL (d + 1) m_C_withoutPans [qr (β b, 0, 9)] σ (kI K) := by
  obtain ⟨d1, d2, d3, _⟩ := D
  refine v_C_withoutPans_0 d β μ κ ρ me b aH nH aL nL aY nY aS nS n σ K hR hB ⟨fun e => ?_, fun e => ?_⟩
  · rw [if_pos e] at d3
    unfold paF at h
    rw [d3, if_pos (by omega)] at h
    exact h
  · rw [if_neg e] at d3
    unfold paF at h
    rw [d3, if_neg (by omega)] at h
    exact h
theorem c_wPan (d : Nat) {β μ κ ρ : Nat → Nat} {me : Nat → Nat → Nat} {n b c aH nH aL nL aY nY aS nS : Nat} {σ : am_S} {K : Int → am_S → Prop} (hR : TR σ aH nH aL nL aY nY aS nS) (hB : BS σ β μ κ ρ me n) (hb : b < n) (D : BD σ β κ ρ me n c b) {s : Nat} (hs : s < 2) (h : K (pnF (sI σ 41 b) (sI σ 44 (2 * b + s))) σ) : am_Calls PP MLL (d + 2) m_C_withoutPan [qr (β b, 0, 9), qi (s : Int)] σ (kI K) := by
  have D0 := D
  obtain ⟨d1, d2, d3, d4, d5, d6, ⟨p1, p2, _⟩, _⟩ := D
  refine v_C_withoutPan_0 d β μ κ ρ me b aH nH aL nL aY nY aS nS n (s : Int) σ K hR hB (c_wPans (d + 0) hR hB hb D0 ⟨⟨hR, hB⟩, fun e => ⟨fun e0 => ⟨hb, ?_⟩, fun e0 => ⟨hb, ?_⟩⟩, fun e => ?_⟩)
  · have : s = 0 := by omega
    subst this
    rw [p1]
    unfold pnF at h
    rw [if_pos e, Nat.add_zero] at h
    exact ⟨fun q => by rw [if_pos q] at h; exact h, fun q => by rw [if_neg q] at h; exact h⟩
  · have : s = 1 := by omega
    subst this
    rw [p2]
    unfold pnF at h
    rw [if_pos e] at h
    exact ⟨fun q => by rw [if_pos q] at h; exact h, fun q => by rw [if_neg q] at h; exact h⟩
  · unfold pnF at h
    rw [if_neg e] at h
    exact h
theorem c_wPlace (d : Nat) {β μ κ ρ : Nat → Nat} {me : Nat → Nat → Nat} {n b c aH nH aL nL aY nY aS nS : Nat} {σ : am_S} {K : Int → am_S → Prop} (hR : TR σ aH nH aL nL aY nY aS nS) (hB : BS σ β μ κ ρ me n) (hb : b < n) (D : BD σ β κ ρ me n c b) {s : Nat} {j : Int} (hs : s < 2) (h : K (plF (sI σ 41 b) (sI σ 44 (2 * b + s)) j) σ) : am_Calls PP MLL (d + 3) m_C_withoutPlace [qr (β b, 0, 9), qi (s : Int), qi j] σ (kI K) := by
  have D0 := D
  obtain ⟨d1, d2, d3, d4, d5, d6, ⟨p1, p2, _⟩, _⟩ := D
  have pv := d6.1
  refine v_C_withoutPlace_0 d β μ κ ρ me b aH nH aL nL aY nY aS nS n (s : Int) j σ K hR hB (c_wPan (d + 0) hR hB hb D0 hs ⟨⟨hR, hB⟩, fun e => ?_, fun e => ?_⟩)
  · unfold plF at h
    rw [if_pos e] at h
    have e' := (pnF_0 e).1
    have : s = 0 ∨ s = 1 := by omega
    rcases this with q | q
    · subst q
      rw [p1]
      rw [Nat.add_zero] at h e'
      refine ⟨fun _ => ⟨hb, fun q => ?_, fun q => ⟨fun q2 => ?_, fun q2 => ⟨by omega, fun q3 => ?_, fun q3 => ?_⟩⟩⟩, fun q => absurd rfl q⟩
      · rw [if_neg (by omega)] at h; exact h
      · rw [if_neg (by omega)] at h; exact h
      · rw [if_neg (by omega)] at h; exact h
      · rw [if_pos (by omega)] at h; exact h
    · subst q
      rw [p2]
      refine ⟨fun q => absurd q (by decide), fun _ => ⟨hb, fun q => ?_, fun q => ⟨fun q2 => ?_, fun q2 => ⟨by omega, fun q3 => ?_, fun q3 => ?_⟩⟩⟩⟩
      · rw [if_neg (by omega)] at h; exact h
      · rw [if_neg (by omega)] at h; exact h
      · rw [if_neg (by omega)] at h; exact h
      · rw [if_pos (by omega)] at h; exact h
  · unfold plF at h
    rw [if_neg e] at h
    exact h
theorem c_M_panFault (d : Nat) {b : Nat} {σ : am_S} {K : Int → am_S → Prop} (hF : MF σ) (hT : sI σ 31 26 = 0) (hb : b < 12) (h : K (paF (sI σ 41 b)) σ) : am_Calls PP MLL (d + 2) m_M_panFault [qr (31, 12, 89), qi (b : Int)] σ (kI K) := by
  refine v_M_panFault_0 d (b : Int) σ K hF hT ?_
  rw [Int.toNat_natCast]
  exact ⟨⟨by omega, by omega, fun _ => by omega, fun _ => by omega⟩, h⟩
theorem c_M_placeFault (d : Nat) {b : Nat} {σ : am_S} {K : Int → am_S → Prop} (hF : MF σ) (hT : sI σ 31 26 = 0) (hb : b < 12) {s : Nat} {j : Int} (hs : s < 2) (h4 : ∀ k, -1 ≤ sI σ 44 k ∧ sI σ 44 k ≤ 20) (h : K (plF (sI σ 41 b) (sI σ 44 (2 * b + s)) j) σ) : am_Calls PP MLL (d + 3) m_M_placeFault [qr (31, 12, 89), qi (b : Int), qi (s : Int), qi j] σ (kI K) := by
  refine v_M_placeFault_0 d (b : Int) (s : Int) j σ K hF hT (c_M_panFault (d + 0) hF hT hb ⟨⟨hF, hT⟩, ⟨fun _ => by omega, fun _ => by omega, fun _ => by omega, fun _ => by omega, fun _ => by omega, fun _ => by omega⟩, ?_⟩)
  have ex : ((2 * (b : Int)) + (s : Int)).toNat = 2 * b + s := by omega
  rw [ex]
  have hv := h4 (2 * b + s)
  have eN : (if paF (sI σ 41 b) = 0 then (if 0 ≤ (sI σ 44 (2 * b + s)) then (paF (sI σ 41 b) : Int) else 2 : Int) else paF (sI σ 41 b)) = pnF (sI σ 41 b) (sI σ 44 (2 * b + s)) := by
    unfold pnF
    split
    · rename_i e
      split
      · exact e
      · rfl
    · rfl
  rw [eN]
  unfold plF at h
  refine ⟨fun e => ⟨by omega, fun q => ?_, fun q => ⟨fun q2 => ?_, fun q2 => ?_⟩⟩, fun e => ?_⟩
  · rw [if_pos e, if_neg (by omega)] at h; exact h
  · rw [if_pos e, if_neg (by omega)] at h; exact h
  · rw [if_pos e, if_pos (by omega)] at h; rw [e]; exact h
  · rw [if_neg e] at h; exact h
/-- pans of one balance change -/
theorem INV_pan {xs : Nat → Int} {σ t : am_S} {c b : Nat} {own β μ κ ρ : Nat → Nat} {me : Nat → Nat → Nat} {n aH nH aL nL aY nY aS nS N l m T W : Nat} {kd : Int} {aR nR aV nV aI nI aQ nQ g w : Nat} (h : INVx xs σ c own β μ κ ρ me n aH nH aL nL aY nY aS nS N l m T W kd aR nR aV nV aI nI aQ nQ g w) (hc : c + 1 ≤ 600) (hb : b < n) (h2 : t.2 = σ.2) (ho : ∀ x, x < sN σ → own x ≠ 44 → own x ≠ 45 → own x ≠ 49 → (own x < 1002 + 8 * b ∨ 1005 + 8 * b < own x) → sI t x = sI σ x) (h44 : ∀ k, (k < 2 * b ∨ 2 * b + 2 ≤ k) → sI t 44 k = sI σ 44 k) (h45 : ∀ i, (i < 40 * b ∨ 40 * b + 40 ≤ i) → sI t 45 i = sI σ 45 i) (pv : PV t ρ b) (pp : sI t (ρ b) 1 = sI t 44 (2 * b) ∧ sI t (ρ b + 2) 1 = sI t 44 (2 * b + 1) ∧ (∀ i : Nat, (i : Int) < sI t 44 (2 * b) → sI t (ρ b + 1) i = sI t 45 (40 * b + i)) ∧ ∀ i : Nat, (i : Int) < sI t 44 (2 * b + 1) → sI t (ρ b + 3) i = sI t 45 (40 * b + 20 + i)) (b44 : ∀ k, -1 ≤ sI t 44 k ∧ sI t 44 k ≤ 20) (b45 : ∀ i, -1 ≤ sI t 45 i ∧ sI t 45 i < 40) : INV xs t (c + 1) := by
  have hx := h
  obtain ⟨hF, it, il, ib, im, ij, sc, rz, is, ir, _⟩ := h
  have o1 := it.2.1.1
  have h87 := it.2.2.2.2.2.2.2.2.2
  obtain ⟨a1, a2, a3, a4, a5, a6, a7, a8, a9, a10⟩ := ib
  have row : ∀ x, x < 87 → x ≠ 44 → x ≠ 45 → x ≠ 49 → sI t x = sI σ x := fun x hx' x1 x2 x3 => ho x (by omega) (by rw [o1 x hx']; exact x1) (by rw [o1 x hx']; exact x2) (by rw [o1 x hx']; exact x3) (by rw [o1 x hx']; omega)
  have e31 := row 31 (by decide) (by decide) (by decide) (by decide)
  have e2 := row 2 (by decide) (by decide) (by decide) (by decide)
  have hβ : ∀ g', g' < n → sI t (β g') = sI σ (β g') := fun g' hg' => ho _ (a3 g' hg').1 (by rw [(a2 g' hg').1]; omega) (by rw [(a2 g' hg').1]; omega) (by rw [(a2 g' hg').1]; omega) (by rw [(a2 g' hg').1]; omega)
  have kp : KP σ t own n := by
    refine ⟨h2, fun x hx' hr => ho x hx' (by omega) (by omega) (by omega) (by omega), fun x g' hx' hr => ?_, by rw [row 10 (by decide) (by decide) (by decide) (by decide)], fun j _ => by rw [e31], by rw [e31]; exact Int.le_refl _, fun b' _ => ?_, fun i _ => ?_⟩
    · rw [ho x hx' (by omega) (by omega) (by omega) (by omega)]
      exact ⟨rfl, rfl⟩
    · rw [row 41 (by decide) (by decide) (by decide) (by decide), row 47 (by decide) (by decide) (by decide) (by decide)]
      exact ⟨rfl, rfl⟩
    · rw [row 46 (by decide) (by decide) (by decide) (by decide)]
  refine INV_mk hx hc kp ?_ (IM_K (row 10 (by decide) (by decide) (by decide) (by decide)) (row 11 (by decide) (by decide) (by decide) (by decide)) (row 48 (by decide) (by decide) (by decide) (by decide)) (fun j _ => by rw [e2]) (fun j _ => by rw [e31]) im) (IJ_K h2 (fun x hx' hr => ho x hx' (by omega) (by omega) (by omega) (by omega)) o1 h87 (fun j _ => by rw [e31]) ij)
  obtain ⟨r1, r2, r3⟩ := R2 h2
  refine ⟨BS_2 h2 a1, a2, fun b' hb' => by have := a3 b' hb'; omega, by rw [e2, e31]; exact a4, fun b' hb' => ?_, by rw [row 41 (by decide) (by decide) (by decide) (by decide)]; exact a6, b44, b45, fun j hj => by rw [r1]; exact a9 j hj, by rw [row 42 (by decide) (by decide) (by decide) (by decide)]; exact a10⟩
  obtain ⟨d1, d2, d3, d4, d5, d6, d7, d8, d9⟩ := a5 b' hb'
  have r41 := row 41 (by decide) (by decide) (by decide) (by decide)
  have r42 := row 42 (by decide) (by decide) (by decide) (by decide)
  have r43 := row 43 (by decide) (by decide) (by decide) (by decide)
  have r46 := row 46 (by decide) (by decide) (by decide) (by decide)
  have r47 := row 47 (by decide) (by decide) (by decide) (by decide)
  have hm : κ b' ≤ κ b' → sI σ (β b') 0 = 6 → mxQ t β (me b') (κ b') = mxQ σ β (me b') (κ b') := fun _ h6 => by
    obtain ⟨_, _, _, v4, _⟩ := d9 h6
    have hc' : ∀ k, k ≤ κ b' → mxQ t β (me b') k = mxQ σ β (me b') k := by
      intro k
      induction k with
      | zero => intro _; rfl
      | succ k ih =>
        intro hk
        have u1 : mxQ t β (me b') (k + 1) = if mo (sI t (β (me b' k)) 0) ≤ mxQ t β (me b') k then mxQ t β (me b') k else mo (sI t (β (me b' k)) 0) := rfl
        have u2 : mxQ σ β (me b') (k + 1) = if mo (sI σ (β (me b' k)) 0) ≤ mxQ σ β (me b') k then mxQ σ β (me b') k else mo (sI σ (β (me b' k)) 0) := rfl
        rw [u1, u2, ih (by omega), hβ _ (v4 k (by omega)).1]
    exact hc' _ (Nat.le_refl _)
  have pvp : PV t ρ b' ∧ (sI t (ρ b') 1 = sI t 44 (2 * b') ∧ sI t (ρ b' + 2) 1 = sI t 44 (2 * b' + 1) ∧ (∀ i : Nat, (i : Int) < sI t 44 (2 * b') → sI t (ρ b' + 1) i = sI t 45 (40 * b' + i)) ∧ ∀ i : Nat, (i : Int) < sI t 44 (2 * b' + 1) → sI t (ρ b' + 3) i = sI t 45 (40 * b' + 20 + i)) := by
    by_cases e : b' = b
    · rw [e]; exact ⟨pv, pp⟩
    · have hρ : ∀ k, k < 4 → sI t (ρ b' + k) = sI σ (ρ b' + k) := fun k hk => ho _ (by have := a3 b' hb'; omega) (by rw [(a2 b' hb').2.2 k hk]; omega) (by rw [(a2 b' hb').2.2 k hk]; omega) (by rw [(a2 b' hb').2.2 k hk]; omega) (by rw [(a2 b' hb').2.2 k hk]; omega)
      have e0 : sI t (ρ b') = sI σ (ρ b') := hρ 0 (by decide)
      have e1 := hρ 1 (by decide)
      have e2 := hρ 2 (by decide)
      have e3 := hρ 3 (by decide)
      have f1 := h44 (2 * b') (by omega)
      have f2 := h44 (2 * b' + 1) (by omega)
      obtain ⟨z1, z2, z3, z4⟩ := d7
      have pvb := d6.1
      rw [z1, z2] at pvb
      refine ⟨by unfold PV at d6 ⊢; rw [e0, e1, e2, e3]; exact d6, by rw [e0, f1]; exact z1, by rw [e2, f2]; exact z2, fun i hi => ?_, fun i hi => ?_⟩
      · rw [f1] at hi
        rw [e1, h45 _ (by omega)]
        exact z3 i hi
      · rw [f2] at hi
        rw [e3, h45 _ (by omega)]
        exact z4 i hi
  refine ⟨by rw [hβ b' hb']; exact d1, by rw [hβ b' hb']; exact d2, by rw [r41, hβ b' hb']; exact d3, by rw [hβ b' hb', r42]; omega, by rw [hβ b' hb', r43]; exact d5, pvp.1, pvp.2, by rw [hβ b' hb']; exact d8, fun h6 => ?_⟩
  rw [hβ b' hb'] at h6
  obtain ⟨v1, v2, v3, v4, v5⟩ := d9 h6
  refine ⟨v1, v2, by rw [r47]; exact v3, fun i hi => ?_, by rw [hβ b' hb', v5, hm (Nat.le_refl _) h6]⟩
  obtain ⟨z1, z2, z3⟩ := v4 i hi
  exact ⟨z1, by rw [r46]; exact z2, by rw [hβ _ z1]; exact z3⟩
/-- one pan changes -/
theorem INV_pan1 {xs : Nat → Int} {σ t : am_S} {c b s : Nat} {own β μ κ ρ : Nat → Nat} {me : Nat → Nat → Nat} {n aH nH aL nL aY nY aS nS N l m T W : Nat} {kd : Int} {aR nR aV nV aI nI aQ nQ g w : Nat} (h : INVx xs σ c own β μ κ ρ me n aH nH aL nL aY nY aS nS N l m T W kd aR nR aV nV aI nI aQ nQ g w) (hc : c + 1 ≤ 600) (hb : b < n) (hs : s < 2) (h2 : t.2 = σ.2) (ho : ∀ x, x ≠ 44 → x ≠ 45 → x ≠ 49 → x ≠ ρ b + 2 * s → x ≠ ρ b + (2 * s + 1) → sI t x = sI σ x) (h44 : ∀ k, k ≠ 2 * b + s → sI t 44 k = sI σ 44 k) (h45 : ∀ i, (i < 20 * (2 * b + s) ∨ 20 * (2 * b + s) + 20 ≤ i) → sI t 45 i = sI σ 45 i) (p1 : sI t (ρ b + 2 * s) 1 = sI t 44 (2 * b + s)) (p2 : -1 ≤ sI t 44 (2 * b + s) ∧ sI t 44 (2 * b + s) ≤ 20) (p3 : ∀ i : Nat, (i : Int) < sI t 44 (2 * b + s) → sI t (ρ b + (2 * s + 1)) i = sI t 45 (20 * (2 * b + s) + i)) (p4 : ∀ i, -1 ≤ sI t (ρ b + (2 * s + 1)) i ∧ sI t (ρ b + (2 * s + 1)) i < 40) (b45 : ∀ i, -1 ≤ sI t 45 i ∧ sI t 45 i < 40) : INV xs t (c + 1) := by
  have hx := h
  obtain ⟨hF, it, il, ib, im, ij, sc, rz, is, ir, _⟩ := h
  have o1 := it.2.1.1
  obtain ⟨a1, a2, a3, a4, a5, a6, a7, a8, a9, a10⟩ := ib
  obtain ⟨d1, d2, d3, d4, d5, ⟨⟨v0, v1⟩, v2, v3⟩, ⟨z1, z2, z3, z4⟩, d8, d9⟩ := a5 b hb
  have h20 := a7 (2 * b)
  have h21 := a7 (2 * b + 1)
  have nr : ∀ k, k < 4 → ∀ x', x' < 87 → ρ b + k ≠ x' := fun k hk x' hx' e => by
    have := (a2 b hb).2.2 k hk
    rw [e, o1 x' hx'] at this
    omega
  refine INV_pan hx hc hb h2 (fun x hx' q1 q2 q3 q4 => ho x (fun e => by rw [e, o1 44 (by decide)] at q1; omega) (fun e => by rw [e, o1 45 (by decide)] at q2; omega) (fun e => by rw [e, o1 49 (by decide)] at q3; omega) (fun e => by rw [e, (a2 b hb).2.2 (2 * s) (by omega)] at q4; omega) (fun e => by rw [e, (a2 b hb).2.2 (2 * s + 1) (by omega)] at q4; omega)) (fun k hk => h44 k (by omega)) (fun i hi => h45 i (by omega)) ?_ ?_ (fun k => ?_) b45
  · have : s = 0 ∨ s = 1 := by omega
    rcases this with q | q
    · subst q
      have y2 : sI t (ρ b + 2) = sI σ (ρ b + 2) := ho _ (nr 2 (by decide) 44 (by decide)) (nr 2 (by decide) 45 (by decide)) (nr 2 (by decide) 49 (by decide)) (by omega) (by omega)
      have y3 : sI t (ρ b + 3) = sI σ (ρ b + 3) := ho _ (nr 3 (by decide) 44 (by decide)) (nr 3 (by decide) 45 (by decide)) (nr 3 (by decide) 49 (by decide)) (by omega) (by omega)
      unfold PV
      rw [y2, y3]
      have p1' : sI t (ρ b) 1 = sI t 44 (2 * b) := p1
      have p2' : -1 ≤ sI t 44 (2 * b) ∧ sI t 44 (2 * b) ≤ 20 := p2
      exact ⟨⟨by omega, v1⟩, p4, v3⟩
    · subst q
      have y2 : sI t (ρ b) = sI σ (ρ b) := ho _ (nr 0 (by decide) 44 (by decide)) (nr 0 (by decide) 45 (by decide)) (nr 0 (by decide) 49 (by decide)) (by omega) (by omega)
      have y3 : sI t (ρ b + 1) = sI σ (ρ b + 1) := ho _ (nr 1 (by decide) 44 (by decide)) (nr 1 (by decide) 45 (by decide)) (nr 1 (by decide) 49 (by decide)) (by omega) (by omega)
      unfold PV
      rw [y2, y3]
      have p1' : sI t (ρ b + 2) 1 = sI t 44 (2 * b + 1) := p1
      exact ⟨⟨v0, by omega⟩, v2, p4⟩
  · have : s = 0 ∨ s = 1 := by omega
    rcases this with q | q
    · subst q
      have y2 : sI t (ρ b + 2) = sI σ (ρ b + 2) := ho _ (nr 2 (by decide) 44 (by decide)) (nr 2 (by decide) 45 (by decide)) (nr 2 (by decide) 49 (by decide)) (by omega) (by omega)
      have y3 : sI t (ρ b + 3) = sI σ (ρ b + 3) := ho _ (nr 3 (by decide) 44 (by decide)) (nr 3 (by decide) 45 (by decide)) (nr 3 (by decide) 49 (by decide)) (by omega) (by omega)
      rw [y2, y3, h44 (2 * b + 1) (by omega)]
      refine ⟨p1, z2, fun i hi => ?_, fun i hi => ?_⟩
      · have := p3 i hi
        rw [show 20 * (2 * b + 0) + i = 40 * b + i by omega] at this
        exact this
      · rw [h45 _ (by omega)]
        exact z4 i hi
    · subst q
      have y2 : sI t (ρ b) = sI σ (ρ b) := ho _ (nr 0 (by decide) 44 (by decide)) (nr 0 (by decide) 45 (by decide)) (nr 0 (by decide) 49 (by decide)) (by omega) (by omega)
      have y3 : sI t (ρ b + 1) = sI σ (ρ b + 1) := ho _ (nr 1 (by decide) 44 (by decide)) (nr 1 (by decide) 45 (by decide)) (nr 1 (by decide) 49 (by decide)) (by omega) (by omega)
      rw [y2, y3, h44 (2 * b) (by omega)]
      refine ⟨z1, p1, fun i hi => ?_, fun i hi => ?_⟩
      · rw [h45 _ (by omega)]
        exact z3 i hi
      · have := p3 i hi
        rw [show 20 * (2 * b + 1) + i = 40 * b + 20 + i by omega] at this
        exact this
  · by_cases e : k = 2 * b + s
    · rw [e]; exact p2
    · rw [h44 k e]; exact a7 k
/-- what a pan holds in both -/
theorem pan_in {own β μ κ ρ : Nat → Nat} {me : Nat → Nat → Nat} {n c b s : Nat} {σ : am_S} (h : IB σ own β μ κ ρ me n c) (hb : b < n) (hs : s < 2) : sI σ (ρ b + 2 * s) 1 = sI σ 44 (2 * b + s) ∧ (∀ i : Nat, (i : Int) < sI σ 44 (2 * b + s) → sI σ (ρ b + (2 * s + 1)) i = sI σ 45 (20 * (2 * b + s) + i)) ∧ ∀ i, -1 ≤ sI σ (ρ b + (2 * s + 1)) i ∧ sI σ (ρ b + (2 * s + 1)) i < 40 := by
  obtain ⟨a1, a2, a3, a4, a5, a6, a7, a8, a9, a10⟩ := h
  obtain ⟨d1, d2, d3, d4, d5, ⟨⟨v0, v1⟩, v2, v3⟩, ⟨z1, z2, z3, z4⟩, d8, d9⟩ := a5 b hb
  have : s = 0 ∨ s = 1 := by omega
  rcases this with q | q
  · subst q
    refine ⟨z1, fun i hi => ?_, v2⟩
    rw [show 20 * (2 * b + 0) + i = 40 * b + i by omega]
    exact z3 i hi
  · subst q
    refine ⟨z2, fun i hi => ?_, v3⟩
    rw [show 20 * (2 * b + 1) + i = 40 * b + 20 + i by omega]
    exact z4 i hi
