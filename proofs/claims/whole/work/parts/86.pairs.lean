/-! the calls in pairs: readers and findings -/
def PR (d : Nat) (xs : Nat → Int) (mC mM : Nat) (vs : List am_V) (σ : am_S) (c : Nat) : Prop := am_Calls PP MLL (d + 30) mC (qr (2, 11, 10) :: vs) σ (kI fun x s => sI s 0 = xs ∧ am_Calls PP MLL (d + 30) mM (qr (31, 12, 89) :: vs) s (kI fun y t => x = y ∧ INV xs t (c + 1)))
theorem v_C_status_0 (d : Nat) (β μ κ ρ : Nat → Nat) (me : Nat → Nat → Nat) (aH nH aL nL aY nY aS nS n : Nat) (σ : am_S) (K : Int → am_S → Prop) (hR : TR σ aH nH aL nL aY nY aS nS) (hB : BS σ β μ κ ρ me n) (h :
  K (sI σ 2 8) σ) : am_Runs PP MLL d m_C_status 0 [some (qr (2, 11, 10))] [] σ (kI K) := am_wEF_ok (orc []) 200 (⟨rfl, h⟩)

theorem v_M_status_0 (d : Nat) (σ : am_S) (K : Int → am_S → Prop) (hF : MF σ) (hT : sI σ 31 26 = 0) (h :
  K (sI σ 31 0) σ) : am_Runs PP MLL d m_M_status 0 [some (qr (31, 12, 89))] [] σ (kI K) := am_wEF_ok (orc []) 200 (⟨rfl, h⟩)

theorem v_C_trace_0 (d : Nat) (β μ κ ρ : Nat → Nat) (me : Nat → Nat → Nat) (aH nH aL nL aY nY aS nS n : Nat) (p1 : Int) (σ : am_S) (K : Int → am_S → Prop) (hR : TR σ aH nH aL nL aY nY aS nS) (hB : BS σ β μ κ ρ me n) (h :
  ((¬ (p1 < 0) → (¬ ((sI σ 10 1) ≤ p1) → 0 ≤ p1)) ∧ (¬ (p1 < 0) → (¬ ((sI σ 10 1) ≤ p1) → p1 < 6))) ∧
  K (if p1 < 0 then ((-1000) : Int) else (if (sI σ 10 1) ≤ p1 then ((-1000) : Int) else (sI σ 11 (Int.toNat p1)))) σ) : am_Runs PP MLL d m_C_trace 0 [some (qr (2, 11, 10)), some (qi p1)] [] σ (kI K) := am_wEC_ok (orc [(4, 10, 7, 3), (8, 10, 7, 3), (9, 11, 20, 6)]) [14] 200 (am_use (fun H3 => ⟨fun c1 => (Eq.mp (congrArg (fun z => am_Runs _ _ _ _ _ _ (qi z :: _) _ _) (if_pos c1 : (if p1 < 0 then ((-1000) : Int) else if (sI σ 10 1) ≤ p1 then ((-1000) : Int) else (sI σ 11 (Int.toNat p1))) = (-1000))) H3), fun c1 => ⟨⟨rfl, (hR.1 2 2 _ rfl)⟩, ⟨rfl, ⟨fun c2 => (Eq.mp (congrArg (fun z => am_Runs _ _ _ _ _ _ (qi z :: _) _ _) (Eq.trans (if_neg c1 : (if p1 < 0 then ((-1000) : Int) else if (sI σ 10 1) ≤ p1 then ((-1000) : Int) else (sI σ 11 (Int.toNat p1))) = if (sI σ 10 1) ≤ p1 then ((-1000) : Int) else (sI σ 11 (Int.toNat p1))) (if_pos c2 : (if (sI σ 10 1) ≤ p1 then ((-1000) : Int) else sI σ 11 (Int.toNat p1)) = (-1000)))) H3), fun c2 => ⟨⟨rfl, (hR.1 2 2 _ rfl)⟩, ⟨⟨rfl, (hR.1 10 0 _ rfl)⟩, ⟨⟨rfl, ((h.1.1 c1) c2), ((h.1.2 c1) c2)⟩, (Eq.mp (congrArg (fun z => am_Runs _ _ _ _ _ _ (qi z :: _) _ _) (Eq.trans (if_neg c1 : (if p1 < 0 then ((-1000) : Int) else if (sI σ 10 1) ≤ p1 then ((-1000) : Int) else (sI σ 11 (Int.toNat p1))) = if (sI σ 10 1) ≤ p1 then ((-1000) : Int) else (sI σ 11 (Int.toNat p1))) (if_neg c2 : (if (sI σ 10 1) ≤ p1 then ((-1000) : Int) else sI σ 11 (Int.toNat p1)) = sI σ 11 (Int.toNat p1)))) H3)⟩⟩⟩⟩⟩⟩⟩) (am_wEC_ok (orc []) [14] 200 (h.2)))

theorem v_M_trace_0 (d : Nat) (p1 : Int) (σ : am_S) (K : Int → am_S → Prop) (hF : MF σ) (hT : sI σ 31 26 = 0) (h :
  (-2147483648 ≤ (sI σ 31 25) - 1 ∧ (sI σ 31 25) - 1 < 2147483648) ∧
  ((p1 < 0 →
    K (-1000) σ) ∧
  (¬ (p1 < 0) →
    ((((sI σ 31 25) - 1) < p1 →
      K (-1000) σ) ∧
    (¬ (((sI σ 31 25) - 1) < p1) →
      (0 ≤ p1 ∧ p1 < 40) ∧
      K (sI σ 48 (Int.toNat p1)) σ))))) : am_Runs PP MLL (d + 1) m_M_trace 0 [some (qr (31, 12, 89)), some (qi p1)] [] σ (kI K) := am_wEF_ok (orc [(9, 48, 20, 40)]) 200 (⟨rfl, ⟨⟨h.1.1, h.1.2⟩, am_wEF_ok (orc []) 200 (⟨fun c1 => ⟨(Or.inl rfl), ⟨fun _ => (h.2.1 c1), fun c => absurd (by decide : (0 : Int) = 0) c⟩⟩, fun c1 => ⟨fun c2 => ⟨(Or.inl rfl), ⟨fun _ => ((h.2.2 c1).1 c2), fun c => absurd (by decide : (0 : Int) = 0) c⟩⟩, fun c2 => ⟨(Or.inr rfl), ⟨fun c => absurd c (by decide : ¬ ((1 : Int) = 0)), fun _ => ⟨⟨rfl, (hF 24)⟩, ⟨⟨rfl, ((h.2.2 c1).2 c2).1.1, ((h.2.2 c1).2 c2).1.2⟩, ((h.2.2 c1).2 c2).2⟩⟩⟩⟩⟩⟩)⟩⟩)

theorem v_C_lied_0 (d : Nat) (β μ κ ρ : Nat → Nat) (me : Nat → Nat → Nat) (aH nH aL nL aY nY aS nS n : Nat) (p1 : Int) (σ : am_S) (K : Int → am_S → Prop) (hR : TR σ aH nH aL nL aY nY aS nS) (hB : BS σ β μ κ ρ me n) (h :
  ((p1 < 0 →
    K (-1001) σ) ∧
  (¬ (p1 < 0) →
    (((sI σ 3 1) ≤ p1 →
      K (-1001) σ) ∧
    (¬ ((sI σ 3 1) ≤ p1) →
      (0 ≤ p1 ∧ p1 < ((nS : Nat) : Int)) ∧
      (((sI σ aS (Int.toNat p1)) = 0 →
        p1 < ((nY : Nat) : Int) ∧
        (0 ≤ (sI σ aY (Int.toNat p1)) ∧ (sI σ aY (Int.toNat p1)) < 1073741824) ∧
        K (pc (Int.toNat (sI σ aY (Int.toNat p1)))) σ) ∧
      (¬ ((sI σ aS (Int.toNat p1)) = 0) →
        K (-1000) σ))))))) : am_Runs PP MLL (d + 2) m_C_lied 0 [some (qr (2, 11, 10)), some (qi p1)] [] σ (kI K) := am_wEF_ok (orc [(7, 3, 9, 11), (12, 3, 9, 11)]) 200 (⟨rfl, am_wEF_ok (orc [(4, 3, 9, 11)]) 200 (⟨fun c1 => ⟨(Or.inl rfl), ⟨fun _ => (h.1 c1), fun c => absurd (by decide : (0 : Int) = 0) c⟩⟩, fun c1 => ⟨⟨rfl, (hR.1 2 0 _ rfl)⟩, ⟨rfl, ⟨fun c2 => ⟨(Or.inl rfl), ⟨fun _ => ((h.2 c1).1 c2), fun c => absurd (by decide : (0 : Int) = 0) c⟩⟩, fun c2 => ⟨(Or.inr rfl), ⟨fun c => absurd c (by decide : ¬ ((1 : Int) = 0)), fun _ => ⟨⟨rfl, (hR.1 2 0 _ rfl)⟩, ⟨rfl, am_wEF_ok (orc [(1, aS, 20, nS)]) 200 (⟨⟨rfl, hR.2.2.2.2⟩, ⟨⟨rfl, ((h.2 c1).2 c2).1.1, ((h.2 c1).2 c2).1.2⟩, ⟨fun c3 => ⟨(Or.inr rfl), ⟨fun c => absurd c (by decide : ¬ ((1 : Int) = 0)), fun _ => ⟨⟨rfl, (hR.1 2 0 _ rfl)⟩, ⟨rfl, am_wEF_ok (orc [(1, aY, 20, nY)]) 200 (⟨⟨rfl, hR.2.2.2.1⟩, ⟨⟨rfl, ((h.2 c1).2 c2).1.1, (((h.2 c1).2 c2).2.1 c3).1⟩, c_ibcI _ (((h.2 c1).2 c2).2.1 c3).2.1.1 (((h.2 c1).2 c2).2.1 c3).2.1.2 ((((h.2 c1).2 c2).2.1 c3).2.2)⟩⟩)⟩⟩⟩⟩, fun c3 => ⟨(Or.inl rfl), ⟨fun _ => (((h.2 c1).2 c2).2.2 c3), fun c => absurd (by decide : (0 : Int) = 0) c⟩⟩⟩⟩⟩)⟩⟩⟩⟩⟩⟩⟩⟩)⟩)

theorem v_M_lied_0 (d : Nat) (p1 : Int) (σ : am_S) (K : Int → am_S → Prop) (hF : MF σ) (hT : sI σ 31 26 = 0) (h :
  (-2147483648 ≤ (sI σ 31 5) - 1 ∧ (sI σ 31 5) - 1 < 2147483648) ∧
  ((p1 < 0 →
    K (-1001) σ) ∧
  (¬ (p1 < 0) →
    ((((sI σ 31 5) - 1) < p1 →
      K (-1001) σ) ∧
    (¬ (((sI σ 31 5) - 1) < p1) →
      (0 ≤ p1 ∧ p1 < 10000 ∧ (((sI σ 37 (Int.toNat p1)) < 0) → 0 ≤ p1) ∧ (((sI σ 37 (Int.toNat p1)) < 0) → p1 < 10000)) ∧
      K (if (sI σ 37 (Int.toNat p1)) < 0 then (sI σ 36 (Int.toNat p1) : Int) else (-1000)) σ))))) : am_Runs PP MLL (d + 2) m_M_lied 0 [some (qr (31, 12, 89)), some (qi p1)] [] σ (kI K) := am_wEC_ok (orc [(11, 36, 20, 10000)]) [16] 200 (⟨rfl, am_wEF_ok (orc []) 200 (⟨rfl, ⟨⟨h.1.1, h.1.2⟩, am_wEF_ok (orc []) 200 (⟨fun c1 => ⟨(Or.inl rfl), ⟨(Or.inl rfl), ⟨fun _ => am_wEC_ok (orc []) [16] 200 ((h.2.1 c1)), fun c => absurd (by decide : (0 : Int) = 0) c⟩⟩⟩, fun c1 => ⟨fun c2 => ⟨(Or.inl rfl), ⟨(Or.inl rfl), ⟨fun _ => am_wEC_ok (orc []) [16] 200 (((h.2.2 c1).1 c2)), fun c => absurd (by decide : (0 : Int) = 0) c⟩⟩⟩, fun c2 => ⟨(Or.inr rfl), ⟨(Or.inr rfl), ⟨fun c => absurd c (by decide : ¬ ((1 : Int) = 0)), fun _ => am_use (fun H4 => ⟨rfl, c_M_isLeft _ hF ((h.2.2 c1).2 c2).1.1 ((h.2.2 c1).2 c2).1.2.1 (fun c3 => ⟨fun c => absurd c (by decide : ¬ ((1 : Int) = 0)), fun _ => ⟨⟨rfl, (hF 10)⟩, ⟨⟨rfl, ((h.2.2 c1).2 c2).1.1, ((h.2.2 c1).2 c2).1.2.1⟩, (Eq.mp (congrArg (fun z => am_Runs _ _ _ _ _ _ (qi z :: _) _ _) (if_pos c3 : (if (sI σ 37 (Int.toNat p1)) < 0 then (sI σ 36 (Int.toNat p1) : Int) else (-1000)) = sI σ 36 (Int.toNat p1))) H4)⟩⟩⟩) (fun c3 => ⟨fun _ => (Eq.mp (congrArg (fun z => am_Runs _ _ _ _ _ _ (qi z :: _) _ _) (if_neg c3 : (if (sI σ 37 (Int.toNat p1)) < 0 then (sI σ 36 (Int.toNat p1) : Int) else (-1000)) = (-1000))) H4), fun c => absurd (by decide : (0 : Int) = 0) c⟩)⟩) (am_wEC_ok (orc []) [16] 200 (((h.2.2 c1).2 c2).2))⟩⟩⟩⟩⟩)⟩⟩)⟩)

theorem v_C_judged_0 (d : Nat) (β μ κ ρ : Nat → Nat) (me : Nat → Nat → Nat) (aH nH aL nL aY nY aS nS n : Nat) (p1 : Int) (σ : am_S) (K : Int → am_S → Prop) (hR : TR σ aH nH aL nL aY nY aS nS) (hB : BS σ β μ κ ρ me n) (h :
  ((p1 < 0 →
    K (-1001) σ) ∧
  (¬ (p1 < 0) →
    ((p1 ≤ 2 →
      (((sI σ 26 2) = 0 →
        K (-1002) σ) ∧
      (¬ ((sI σ 26 2) = 0) →
        ((p1 = 0 →
          K (sI σ 26 3) σ) ∧
        (¬ (p1 = 0) →
          K (if p1 = 1 then (sI σ 26 4 : Int) else (sI σ 26 5)) σ))))) ∧
    (¬ (p1 ≤ 2) →
      K (-1001) σ))))) : am_Runs PP MLL d m_C_judged 0 [some (qr (2, 11, 10)), some (qi p1)] [] σ (kI K) := am_wEC_ok (orc [(8, 26, 1, 8), (16, 26, 1, 8), (23, 26, 1, 8), (27, 26, 1, 8)]) [29] 200 (⟨fun c1 => (h.1 c1), fun c1 => ⟨fun c2 => ⟨⟨rfl, (hR.1 2 4 _ rfl)⟩, ⟨rfl, ⟨fun c3 => (((h.2 c1).1 c2).1 c3), fun c3 => ⟨fun c4 => ⟨⟨rfl, (hR.1 2 4 _ rfl)⟩, ⟨rfl, ((((h.2 c1).1 c2).2 c3).1 c4)⟩⟩, fun c4 => am_use (fun H6 => ⟨fun c5 => ⟨⟨rfl, (hR.1 2 4 _ rfl)⟩, ⟨rfl, (Eq.mp (congrArg (fun z => am_Runs _ _ _ _ _ _ (qi z :: _) _ _) (if_pos c5 : (if p1 = 1 then (sI σ 26 4 : Int) else sI σ 26 5) = sI σ 26 4)) H6)⟩⟩, fun c5 => ⟨⟨rfl, (hR.1 2 4 _ rfl)⟩, ⟨rfl, (Eq.mp (congrArg (fun z => am_Runs _ _ _ _ _ _ (qi z :: _) _ _) (if_neg c5 : (if p1 = 1 then (sI σ 26 4 : Int) else sI σ 26 5) = sI σ 26 5)) H6)⟩⟩⟩) (am_wEC_ok (orc []) [29] 200 (((((h.2 c1).1 c2).2 c3).2 c4)))⟩⟩⟩⟩, fun c2 => ((h.2 c1).2 c2)⟩⟩)

theorem v_M_judged_0 (d : Nat) (p1 : Int) (σ : am_S) (K : Int → am_S → Prop) (hF : MF σ) (hT : sI σ 31 26 = 0) (h :
  ((p1 < 0 →
    K (-1001) σ) ∧
  (¬ (p1 < 0) →
    ((2 < p1 →
      K (-1001) σ) ∧
    (¬ (2 < p1) →
      K (if (sI σ 31 83) = 0 then ((-1002) : Int) else (if p1 = 0 then (sI σ 31 84 : Int) else (if p1 = 1 then (sI σ 31 85 : Int) else (sI σ 31 86)))) σ))))) : am_Runs PP MLL (d + 1) m_M_judged 0 [some (qr (31, 12, 89)), some (qi p1)] [] σ (kI K) := am_wEC_ok (orc []) [25] 200 (am_wEF_ok (orc []) 200 (⟨fun c1 => ⟨(Or.inl rfl), ⟨fun _ => (h.1 c1), fun c => absurd (by decide : (0 : Int) = 0) c⟩⟩, fun c1 => ⟨fun c2 => ⟨(Or.inl rfl), ⟨fun _ => ((h.2 c1).1 c2), fun c => absurd (by decide : (0 : Int) = 0) c⟩⟩, fun c2 => ⟨(Or.inr rfl), ⟨fun c => absurd c (by decide : ¬ ((1 : Int) = 0)), fun _ => ⟨rfl, am_use (fun H6 => ⟨fun c3 => (Eq.mp (congrArg (fun z => am_Runs _ _ _ _ _ _ (qi z :: _) _ _) (if_pos c3 : (if (sI σ 31 83) = 0 then ((-1002) : Int) else if p1 = 0 then (sI σ 31 84 : Int) else (if p1 = 1 then (sI σ 31 85 : Int) else (sI σ 31 86))) = (-1002))) H6), fun c3 => ⟨fun c4 => ⟨rfl, (Eq.mp (congrArg (fun z => am_Runs _ _ _ _ _ _ (qi z :: _) _ _) (Eq.trans (if_neg c3 : (if (sI σ 31 83) = 0 then ((-1002) : Int) else if p1 = 0 then (sI σ 31 84 : Int) else (if p1 = 1 then (sI σ 31 85 : Int) else (sI σ 31 86))) = if p1 = 0 then (sI σ 31 84 : Int) else (if p1 = 1 then (sI σ 31 85 : Int) else (sI σ 31 86))) (if_pos c4 : (if p1 = 0 then (sI σ 31 84 : Int) else if p1 = 1 then (sI σ 31 85 : Int) else (sI σ 31 86)) = sI σ 31 84))) H6)⟩, fun c4 => ⟨fun c5 => ⟨rfl, (Eq.mp (congrArg (fun z => am_Runs _ _ _ _ _ _ (qi z :: _) _ _) (Eq.trans (if_neg c3 : (if (sI σ 31 83) = 0 then ((-1002) : Int) else if p1 = 0 then (sI σ 31 84 : Int) else (if p1 = 1 then (sI σ 31 85 : Int) else (sI σ 31 86))) = if p1 = 0 then (sI σ 31 84 : Int) else (if p1 = 1 then (sI σ 31 85 : Int) else (sI σ 31 86))) (Eq.trans (if_neg c4 : (if p1 = 0 then (sI σ 31 84 : Int) else if p1 = 1 then (sI σ 31 85 : Int) else (sI σ 31 86)) = if p1 = 1 then (sI σ 31 85 : Int) else (sI σ 31 86)) (if_pos c5 : (if p1 = 1 then (sI σ 31 85 : Int) else sI σ 31 86) = sI σ 31 85)))) H6)⟩, fun c5 => ⟨rfl, (Eq.mp (congrArg (fun z => am_Runs _ _ _ _ _ _ (qi z :: _) _ _) (Eq.trans (if_neg c3 : (if (sI σ 31 83) = 0 then ((-1002) : Int) else if p1 = 0 then (sI σ 31 84 : Int) else (if p1 = 1 then (sI σ 31 85 : Int) else (sI σ 31 86))) = if p1 = 0 then (sI σ 31 84 : Int) else (if p1 = 1 then (sI σ 31 85 : Int) else (sI σ 31 86))) (Eq.trans (if_neg c4 : (if p1 = 0 then (sI σ 31 84 : Int) else if p1 = 1 then (sI σ 31 85 : Int) else (sI σ 31 86)) = if p1 = 1 then (sI σ 31 85 : Int) else (sI σ 31 86)) (if_neg c5 : (if p1 = 1 then (sI σ 31 85 : Int) else sI σ 31 86) = sI σ 31 86)))) H6)⟩⟩⟩⟩) (am_wEC_ok (orc []) [25] 200 (((h.2 c1).2 c2)))⟩⟩⟩⟩⟩))

theorem v_C_complain_0 (d : Nat) (β μ κ ρ : Nat → Nat) (me : Nat → Nat → Nat) (aH nH aL nL aY nY aS nS n : Nat) (p1 : Int) (σ : am_S) (K : Int → am_S → Prop) (hR : TR σ aH nH aL nL aY nY aS nS) (hB : BS σ β μ κ ρ me n) (h :
  ((p1 < 0 →
    K (-1001) σ) ∧
  (¬ (p1 < 0) →
    (((sI σ 2 5) ≤ p1 →
      K (-1001) σ) ∧
    (¬ ((sI σ 2 5) ≤ p1) →
      (0 ≤ p1 ∧ p1 < 12 ∧ (Int.toNat p1) < n) ∧
      (((sI σ (β (Int.toNat p1)) 6) = 0 →
        am_Calls PP MLL (d + 1) m_C_found [qr (2, 11, 10), qi p1, qi (if (sI σ (β (Int.toNat p1)) 8) = 0 then (6 : Int) else (sI σ (β (Int.toNat p1)) 8))] σ (kI fun x5 s5 =>
          (TR s5 aH nH aL nL aY nY aS nS ∧ BS s5 β μ κ ρ me n) ∧
          K x5 s5)) ∧
      (¬ ((sI σ (β (Int.toNat p1)) 6) = 0) →
        am_Calls PP MLL (d + 1) m_C_found [qr (2, 11, 10), qi p1, qi 1] σ (kI fun x7 s7 =>
          (TR s7 aH nH aL nL aY nY aS nS ∧ BS s7 β μ κ ρ me n) ∧
          K x7 s7)))))))) : am_Runs PP MLL (d + 1) m_C_complain 0 [some (qr (2, 11, 10)), some (qi p1), none] [] σ (kI K) := am_wEC_ok (orc [(7, 9, 22, 12), (9, β (Int.toNat p1), 0, 9)]) [28] 200 (⟨rfl, am_wEF_ok (orc []) 200 (⟨fun c1 => ⟨(Or.inl rfl), ⟨fun _ => (h.1 c1), fun c => absurd (by decide : (0 : Int) = 0) c⟩⟩, fun c1 => ⟨rfl, ⟨fun c2 => ⟨(Or.inl rfl), ⟨fun _ => ((h.2 c1).1 c2), fun c => absurd (by decide : (0 : Int) = 0) c⟩⟩, fun c2 => ⟨(Or.inr rfl), ⟨fun c => absurd c (by decide : ¬ ((1 : Int) = 0)), fun _ => ⟨⟨rfl, (hR.1 2 1 _ rfl)⟩, ⟨⟨rfl, ((h.2 c1).2 c2).1.1, ((h.2 c1).2 c2).1.2.1, (hB (Int.toNat p1) ((h.2 c1).2 c2).1.2.2).1⟩, ⟨rfl, ⟨fun c3 => ⟨rfl, am_use (fun H6 => ⟨fun c4 => (Eq.mp (congrArg (fun z => am_Runs _ _ _ _ _ _ (qi z :: _) _ _) (if_pos c4 : (if (sI σ (β (Int.toNat p1)) 8) = 0 then (6 : Int) else sI σ (β (Int.toNat p1)) 8) = 6)) H6), fun c4 => ⟨rfl, (Eq.mp (congrArg (fun z => am_Runs _ _ _ _ _ _ (qi z :: _) _ _) (if_neg c4 : (if (sI σ (β (Int.toNat p1)) 8) = 0 then (6 : Int) else sI σ (β (Int.toNat p1)) 8) = sI σ (β (Int.toNat p1)) 8)) H6)⟩⟩) (am_wEC_ok (orc []) [28] 200 (⟨rfl, (am_cI (((h.2 c1).2 c2).2.1 c3) fun x5 s5 h5 => h5.2)⟩))⟩, fun c3 => ⟨rfl, (am_cI (((h.2 c1).2 c2).2.2 c3) fun x7 s7 h7 => h7.2)⟩⟩⟩⟩⟩⟩⟩⟩⟩⟩)⟩)

theorem v_M_complain_0 (d : Nat) (p1 : Int) (σ : am_S) (K : Int → am_S → Prop) (hF : MF σ) (hT : sI σ 31 26 = 0) (h :
  (-2147483648 ≤ (sI σ 31 16) - 1 ∧ (sI σ 31 16) - 1 < 2147483648) ∧
  ((p1 < 0 →
    K (-1001) σ) ∧
  (¬ (p1 < 0) →
    ((((sI σ 31 16) - 1) < p1 →
      K (-1001) σ) ∧
    (¬ (((sI σ 31 16) - 1) < p1) →
      (0 ≤ p1 ∧ p1 < 12 ∧ ((0 ≤ (sI σ 41 (Int.toNat p1))) → 0 ≤ p1) ∧ ((0 ≤ (sI σ 41 (Int.toNat p1))) → p1 < 12) ∧ ((0 ≤ (sI σ 41 (Int.toNat p1))) → (¬ ((sI σ 43 (Int.toNat p1)) = 0) → 0 ≤ p1)) ∧ ((0 ≤ (sI σ 41 (Int.toNat p1))) → (¬ ((sI σ 43 (Int.toNat p1)) = 0) → p1 < 12))) ∧
      am_Calls PP MLL (d + 2) m_M_finds [qr (31, 12, 89), qi p1, qi (if 0 ≤ (sI σ 41 (Int.toNat p1)) then (if (sI σ 43 (Int.toNat p1)) = 0 then (6 : Int) else (sI σ 43 (Int.toNat p1)) : Int) else 1)] σ (kI fun x5 s5 =>
        (MF s5 ∧ sI s5 31 26 = 0) ∧
        K x5 s5)))))) : am_Runs PP MLL (d + 2) m_M_complain 0 [some (qr (31, 12, 89)), some (qi p1), none] [] σ (kI K) := am_wEC_ok (orc [(13, 43, 20, 12), (20, 43, 20, 12)]) [23] 200 (⟨rfl, am_wEF_ok (orc []) 200 (⟨rfl, ⟨⟨h.1.1, h.1.2⟩, am_wEF_ok (orc []) 200 (⟨fun c1 => ⟨(Or.inl rfl), ⟨(Or.inl rfl), ⟨fun _ => (h.2.1 c1), fun c => absurd (by decide : (0 : Int) = 0) c⟩⟩⟩, fun c1 => ⟨fun c2 => ⟨(Or.inl rfl), ⟨(Or.inl rfl), ⟨fun _ => ((h.2.2 c1).1 c2), fun c => absurd (by decide : (0 : Int) = 0) c⟩⟩⟩, fun c2 => ⟨(Or.inr rfl), ⟨(Or.inr rfl), ⟨fun c => absurd c (by decide : ¬ ((1 : Int) = 0)), fun _ => am_use (fun H6 => ⟨rfl, c_M_isThere _ hF ((h.2.2 c1).2 c2).1.1 ((h.2.2 c1).2 c2).1.2.1 (fun c3 => ⟨fun c => absurd c (by decide : ¬ ((1 : Int) = 0)), fun _ => ⟨⟨rfl, (hF 19)⟩, ⟨⟨rfl, ((h.2.2 c1).2 c2).1.1, ((h.2.2 c1).2 c2).1.2.1⟩, ⟨fun c4 => (Eq.mp (congrArg (fun z => am_Runs _ _ _ _ _ _ (qi z :: _) _ _) (Eq.trans (if_pos c3 : (if 0 ≤ (sI σ 41 (Int.toNat p1)) then (if (sI σ 43 (Int.toNat p1)) = 0 then (6 : Int) else (sI σ 43 (Int.toNat p1)) : Int) else 1) = if (sI σ 43 (Int.toNat p1)) = 0 then (6 : Int) else (sI σ 43 (Int.toNat p1))) (if_pos c4 : (if (sI σ 43 (Int.toNat p1)) = 0 then (6 : Int) else sI σ 43 (Int.toNat p1)) = 6))) H6), fun c4 => ⟨⟨rfl, (hF 19)⟩, ⟨⟨rfl, ((h.2.2 c1).2 c2).1.1, ((h.2.2 c1).2 c2).1.2.1⟩, (Eq.mp (congrArg (fun z => am_Runs _ _ _ _ _ _ (qi z :: _) _ _) (Eq.trans (if_pos c3 : (if 0 ≤ (sI σ 41 (Int.toNat p1)) then (if (sI σ 43 (Int.toNat p1)) = 0 then (6 : Int) else (sI σ 43 (Int.toNat p1)) : Int) else 1) = if (sI σ 43 (Int.toNat p1)) = 0 then (6 : Int) else (sI σ 43 (Int.toNat p1))) (if_neg c4 : (if (sI σ 43 (Int.toNat p1)) = 0 then (6 : Int) else sI σ 43 (Int.toNat p1)) = sI σ 43 (Int.toNat p1)))) H6)⟩⟩⟩⟩⟩⟩) (fun c3 => ⟨fun _ => (Eq.mp (congrArg (fun z => am_Runs _ _ _ _ _ _ (qi z :: _) _ _) (if_neg c3 : (if 0 ≤ (sI σ 41 (Int.toNat p1)) then (if (sI σ 43 (Int.toNat p1)) = 0 then (6 : Int) else (sI σ 43 (Int.toNat p1)) : Int) else 1) = 1)) H6), fun c => absurd (by decide : (0 : Int) = 0) c⟩)⟩) (am_wEC_ok (orc []) [23] 200 (⟨rfl, (am_cI ((h.2.2 c1).2 c2).2 fun x5 s5 h5 => h5.2)⟩))⟩⟩⟩⟩⟩)⟩⟩)⟩)

theorem v_C_is_0 (d : Nat) (β μ κ ρ : Nat → Nat) (me : Nat → Nat → Nat) (aH nH aL nL aY nY aS nS n : Nat) (p1 p2 : Int) (σ : am_S) (K : Int → am_S → Prop) (hR : TR σ aH nH aL nL aY nY aS nS) (hB : BS σ β μ κ ρ me n) (h :
  ((p1 < 0 →
    K (-1001) σ) ∧
  (¬ (p1 < 0) →
    (((sI σ 2 5) ≤ p1 →
      K (-1001) σ) ∧
    (¬ ((sI σ 2 5) ≤ p1) →
      ((p2 < 0 →
        K (-1001) σ) ∧
      (¬ (p2 < 0) →
        ((6 < p2 →
          K (-1001) σ) ∧
        (¬ (6 < p2) →
          (0 ≤ p1 ∧ p1 < 12 ∧ (Int.toNat p1) < n) ∧
          (((sI σ (β (Int.toNat p1)) 6) = 0 →
            am_Calls PP MLL (d + 1) m_Balance_belongsTo [qr (β (Int.toNat p1), 0, 9), qi p2] σ (kI fun x6 s6 =>
              (TR s6 aH nH aL nL aY nY aS nS ∧ BS s6 β μ κ ρ me n) ∧
              K (if x6 = 0 then (0 : Int) else 1) s6)) ∧
          (¬ ((sI σ (β (Int.toNat p1)) 6) = 0) →
            am_Calls PP MLL (d + 1) m_C_found [qr (2, 11, 10), qi p1, qi 1] σ (kI fun x9 s9 =>
              (TR s9 aH nH aL nL aY nY aS nS ∧ BS s9 β μ κ ρ me n) ∧
              K x9 s9)))))))))))) : am_Runs PP MLL (d + 1) m_C_is 0 [some (qr (2, 11, 10)), some (qi p1), some (qi p2)] [] σ (kI K) := am_wEC_ok (orc [(10, 9, 22, 12), (12, β (Int.toNat p1), 0, 9), (21, 9, 22, 12), (23, β (Int.toNat p1), 0, 9)]) [30] 200 (⟨rfl, am_wEF_ok (orc []) 200 (⟨fun c1 => ⟨(Or.inl rfl), ⟨fun _ => (h.1 c1), fun c => absurd (by decide : (0 : Int) = 0) c⟩⟩, fun c1 => ⟨rfl, ⟨fun c2 => ⟨(Or.inl rfl), ⟨fun _ => ((h.2 c1).1 c2), fun c => absurd (by decide : (0 : Int) = 0) c⟩⟩, fun c2 => ⟨(Or.inr rfl), ⟨fun c => absurd c (by decide : ¬ ((1 : Int) = 0)), fun _ => am_wEF_ok (orc []) 200 (⟨fun c3 => ⟨(Or.inl rfl), ⟨fun _ => (((h.2 c1).2 c2).1 c3), fun c => absurd (by decide : (0 : Int) = 0) c⟩⟩, fun c3 => ⟨fun c4 => ⟨(Or.inl rfl), ⟨fun _ => ((((h.2 c1).2 c2).2 c3).1 c4), fun c => absurd (by decide : (0 : Int) = 0) c⟩⟩, fun c4 => ⟨(Or.inr rfl), ⟨fun c => absurd c (by decide : ¬ ((1 : Int) = 0)), fun _ => ⟨⟨rfl, (hR.1 2 1 _ rfl)⟩, ⟨⟨rfl, ((((h.2 c1).2 c2).2 c3).2 c4).1.1, ((((h.2 c1).2 c2).2 c3).2 c4).1.2.1, (hB (Int.toNat p1) ((((h.2 c1).2 c2).2 c3).2 c4).1.2.2).1⟩, ⟨rfl, ⟨fun c5 => ⟨⟨rfl, (hR.1 2 1 _ rfl)⟩, ⟨⟨rfl, ((((h.2 c1).2 c2).2 c3).2 c4).1.1, ((((h.2 c1).2 c2).2 c3).2 c4).1.2.1, (hB (Int.toNat p1) ((((h.2 c1).2 c2).2 c3).2 c4).1.2.2).1⟩, ⟨rfl, (am_cI (((((h.2 c1).2 c2).2 c3).2 c4).2.1 c5) fun x6 s6 h6 => am_use (fun H8 => ⟨fun c7 => (Eq.mp (congrArg (fun z => am_Runs _ _ _ _ _ _ (qi z :: _) _ _) (if_pos c7 : (if x6 = 0 then (0 : Int) else 1) = 0)) H8), fun c7 => (Eq.mp (congrArg (fun z => am_Runs _ _ _ _ _ _ (qi z :: _) _ _) (if_neg c7 : (if x6 = 0 then (0 : Int) else 1) = 1)) H8)⟩) (am_wEC_ok (orc []) [30] 200 (h6.2)))⟩⟩⟩, fun c5 => ⟨rfl, (am_cI (((((h.2 c1).2 c2).2 c3).2 c4).2.2 c5) fun x9 s9 h9 => h9.2)⟩⟩⟩⟩⟩⟩⟩⟩⟩)⟩⟩⟩⟩⟩)⟩)

theorem v_M_is_0 (d : Nat) (p1 p2 : Int) (σ : am_S) (K : Int → am_S → Prop) (hF : MF σ) (hT : sI σ 31 26 = 0) (h :
  (-2147483648 ≤ (sI σ 31 16) - 1 ∧ (sI σ 31 16) - 1 < 2147483648) ∧
  ((p1 < 0 →
    K (-1001) σ) ∧
  (¬ (p1 < 0) →
    ((((sI σ 31 16) - 1) < p1 →
      K (-1001) σ) ∧
    (¬ (((sI σ 31 16) - 1) < p1) →
      ((p2 < 0 →
        K (-1001) σ) ∧
      (¬ (p2 < 0) →
        ((6 < p2 →
          K (-1001) σ) ∧
        (¬ (6 < p2) →
          (0 ≤ p1 ∧ p1 < 12) ∧
          ((0 ≤ (sI σ 41 (Int.toNat p1)) →
            am_Calls PP MLL (d + 2) m_M_isBelow [qi (sI σ 41 (Int.toNat p1)), qi p2] σ (kI fun x7 s7 =>
              (MF s7 ∧ sI s7 31 26 = 0) ∧
              K (if x7 = 0 then (0 : Int) else 1) s7)) ∧
          (¬ (0 ≤ (sI σ 41 (Int.toNat p1))) →
            am_Calls PP MLL (d + 2) m_M_finds [qr (31, 12, 89), qi p1, qi 1] σ (kI fun x10 s10 =>
              (MF s10 ∧ sI s10 31 26 = 0) ∧
              K x10 s10)))))))))))) : am_Runs PP MLL (d + 2) m_M_is 0 [some (qr (31, 12, 89)), some (qi p1), some (qi p2)] [] σ (kI K) := am_wEC_ok (orc [(21, 41, 20, 12)]) [30] 200 (⟨rfl, am_wEF_ok (orc []) 200 (⟨rfl, ⟨⟨h.1.1, h.1.2⟩, am_wEF_ok (orc []) 200 (⟨fun c1 => ⟨(Or.inl rfl), ⟨(Or.inl rfl), ⟨fun _ => (h.2.1 c1), fun c => absurd (by decide : (0 : Int) = 0) c⟩⟩⟩, fun c1 => ⟨fun c2 => ⟨(Or.inl rfl), ⟨(Or.inl rfl), ⟨fun _ => ((h.2.2 c1).1 c2), fun c => absurd (by decide : (0 : Int) = 0) c⟩⟩⟩, fun c2 => ⟨(Or.inr rfl), ⟨(Or.inr rfl), ⟨fun c => absurd c (by decide : ¬ ((1 : Int) = 0)), fun _ => am_wEF_ok (orc []) 200 (⟨fun c3 => ⟨(Or.inl rfl), ⟨fun _ => (((h.2.2 c1).2 c2).1 c3), fun c => absurd (by decide : (0 : Int) = 0) c⟩⟩, fun c3 => ⟨fun c4 => ⟨(Or.inl rfl), ⟨fun _ => ((((h.2.2 c1).2 c2).2 c3).1 c4), fun c => absurd (by decide : (0 : Int) = 0) c⟩⟩, fun c4 => ⟨(Or.inr rfl), ⟨fun c => absurd c (by decide : ¬ ((1 : Int) = 0)), fun _ => ⟨rfl, c_M_isThere _ hF ((((h.2.2 c1).2 c2).2 c3).2 c4).1.1 ((((h.2.2 c1).2 c2).2 c3).2 c4).1.2 (fun c6 => ⟨fun c => absurd c (by decide : ¬ ((1 : Int) = 0)), fun _ => ⟨⟨rfl, (hF 17)⟩, ⟨⟨rfl, ((((h.2.2 c1).2 c2).2 c3).2 c4).1.1, ((((h.2.2 c1).2 c2).2 c3).2 c4).1.2⟩, (am_cI (((((h.2.2 c1).2 c2).2 c3).2 c4).2.1 c6) fun x7 s7 h7 => am_use (fun H9 => ⟨fun c8 => (Eq.mp (congrArg (fun z => am_Runs _ _ _ _ _ _ (qi z :: _) _ _) (if_pos c8 : (if x7 = 0 then (0 : Int) else 1) = 0)) H9), fun c8 => (Eq.mp (congrArg (fun z => am_Runs _ _ _ _ _ _ (qi z :: _) _ _) (if_neg c8 : (if x7 = 0 then (0 : Int) else 1) = 1)) H9)⟩) (am_wEC_ok (orc []) [30] 200 (h7.2)))⟩⟩⟩) (fun c6 => ⟨fun _ => ⟨rfl, (am_cI (((((h.2.2 c1).2 c2).2 c3).2 c4).2.2 c6) fun x10 s10 h10 => am_wEC_ok (orc []) [30] 200 (h10.2))⟩, fun c => absurd (by decide : (0 : Int) = 0) c⟩)⟩⟩⟩⟩⟩)⟩⟩⟩⟩⟩)⟩⟩)⟩)

theorem v_C_as_0 (d : Nat) (β μ κ ρ : Nat → Nat) (me : Nat → Nat → Nat) (aH nH aL nL aY nY aS nS n : Nat) (p1 p2 : Int) (σ : am_S) (K : Int → am_S → Prop) (hR : TR σ aH nH aL nL aY nY aS nS) (hB : BS σ β μ κ ρ me n) (h :
  ((p1 < 0 →
    K (-1001) σ) ∧
  (¬ (p1 < 0) →
    (((sI σ 2 5) ≤ p1 →
      K (-1001) σ) ∧
    (¬ ((sI σ 2 5) ≤ p1) →
      ((p2 < 0 →
        K (-1001) σ) ∧
      (¬ (p2 < 0) →
        ((6 < p2 →
          K (-1001) σ) ∧
        (¬ (6 < p2) →
          (0 ≤ p1 ∧ p1 < 12 ∧ (Int.toNat p1) < n) ∧
          (((sI σ (β (Int.toNat p1)) 6) = 0 →
            am_Calls PP MLL (d + 1) m_Balance_belongsTo [qr (β (Int.toNat p1), 0, 9), qi p2] σ (kI fun x6 s6 =>
              (TR s6 aH nH aL nL aY nY aS nS ∧ BS s6 β μ κ ρ me n) ∧
              ((x6 = 0 →
                am_Calls PP MLL (d + 1) m_C_found [qr (2, 11, 10), qi p1, qi 4] s6 (kI fun x9 s9 =>
                  (TR s9 aH nH aL nL aY nY aS nS ∧ BS s9 β μ κ ρ me n) ∧
                  K x9 s9)) ∧
              (¬ (x6 = 0) →
                K 1 s6)))) ∧
          (¬ ((sI σ (β (Int.toNat p1)) 6) = 0) →
            am_Calls PP MLL (d + 1) m_C_found [qr (2, 11, 10), qi p1, qi 1] σ (kI fun x10 s10 =>
              (TR s10 aH nH aL nL aY nY aS nS ∧ BS s10 β μ κ ρ me n) ∧
              K x10 s10)))))))))))) : am_Runs PP MLL (d + 1) m_C_as 0 [some (qr (2, 11, 10)), some (qi p1), some (qi p2)] [] σ (kI K) := am_wEF_ok (orc [(10, 9, 22, 12), (12, β (Int.toNat p1), 0, 9), (21, 9, 22, 12), (23, β (Int.toNat p1), 0, 9)]) 200 (⟨rfl, am_wEF_ok (orc []) 200 (⟨fun c1 => ⟨(Or.inl rfl), ⟨fun _ => (h.1 c1), fun c => absurd (by decide : (0 : Int) = 0) c⟩⟩, fun c1 => ⟨rfl, ⟨fun c2 => ⟨(Or.inl rfl), ⟨fun _ => ((h.2 c1).1 c2), fun c => absurd (by decide : (0 : Int) = 0) c⟩⟩, fun c2 => ⟨(Or.inr rfl), ⟨fun c => absurd c (by decide : ¬ ((1 : Int) = 0)), fun _ => am_wEF_ok (orc []) 200 (⟨fun c3 => ⟨(Or.inl rfl), ⟨fun _ => (((h.2 c1).2 c2).1 c3), fun c => absurd (by decide : (0 : Int) = 0) c⟩⟩, fun c3 => ⟨fun c4 => ⟨(Or.inl rfl), ⟨fun _ => ((((h.2 c1).2 c2).2 c3).1 c4), fun c => absurd (by decide : (0 : Int) = 0) c⟩⟩, fun c4 => ⟨(Or.inr rfl), ⟨fun c => absurd c (by decide : ¬ ((1 : Int) = 0)), fun _ => ⟨⟨rfl, (hR.1 2 1 _ rfl)⟩, ⟨⟨rfl, ((((h.2 c1).2 c2).2 c3).2 c4).1.1, ((((h.2 c1).2 c2).2 c3).2 c4).1.2.1, (hB (Int.toNat p1) ((((h.2 c1).2 c2).2 c3).2 c4).1.2.2).1⟩, ⟨rfl, ⟨fun c5 => ⟨⟨rfl, (hR.1 2 1 _ rfl)⟩, ⟨⟨rfl, ((((h.2 c1).2 c2).2 c3).2 c4).1.1, ((((h.2 c1).2 c2).2 c3).2 c4).1.2.1, (hB (Int.toNat p1) ((((h.2 c1).2 c2).2 c3).2 c4).1.2.2).1⟩, ⟨rfl, (am_cI (((((h.2 c1).2 c2).2 c3).2 c4).2.1 c5) fun x6 s6 h6 => ⟨fun c8 => ⟨rfl, (am_cI (h6.2.1 c8) fun x9 s9 h9 => h9.2)⟩, fun c8 => (h6.2.2 c8)⟩)⟩⟩⟩, fun c5 => ⟨rfl, (am_cI (((((h.2 c1).2 c2).2 c3).2 c4).2.2 c5) fun x10 s10 h10 => h10.2)⟩⟩⟩⟩⟩⟩⟩⟩⟩)⟩⟩⟩⟩⟩)⟩)

theorem v_M_as_0 (d : Nat) (p1 p2 : Int) (σ : am_S) (K : Int → am_S → Prop) (hF : MF σ) (hT : sI σ 31 26 = 0) (h :
  (-2147483648 ≤ (sI σ 31 16) - 1 ∧ (sI σ 31 16) - 1 < 2147483648) ∧
  ((p1 < 0 →
    K (-1001) σ) ∧
  (¬ (p1 < 0) →
    ((((sI σ 31 16) - 1) < p1 →
      K (-1001) σ) ∧
    (¬ (((sI σ 31 16) - 1) < p1) →
      ((p2 < 0 →
        K (-1001) σ) ∧
      (¬ (p2 < 0) →
        ((6 < p2 →
          K (-1001) σ) ∧
        (¬ (6 < p2) →
          (0 ≤ p1 ∧ p1 < 12) ∧
          ((0 ≤ (sI σ 41 (Int.toNat p1)) →
            am_Calls PP MLL (d + 2) m_M_isBelow [qi (sI σ 41 (Int.toNat p1)), qi p2] σ (kI fun x7 s7 =>
              (MF s7 ∧ sI s7 31 26 = 0) ∧
              ((x7 = 0 →
                am_Calls PP MLL (d + 2) m_M_finds [qr (31, 12, 89), qi p1, qi 4] s7 (kI fun x10 s10 =>
                  (MF s10 ∧ sI s10 31 26 = 0) ∧
                  K x10 s10)) ∧
              (¬ (x7 = 0) →
                K 1 s7)))) ∧
          (¬ (0 ≤ (sI σ 41 (Int.toNat p1))) →
            am_Calls PP MLL (d + 2) m_M_finds [qr (31, 12, 89), qi p1, qi 1] σ (kI fun x11 s11 =>
              (MF s11 ∧ sI s11 31 26 = 0) ∧
              K x11 s11)))))))))))) : am_Runs PP MLL (d + 2) m_M_as 0 [some (qr (31, 12, 89)), some (qi p1), some (qi p2)] [] σ (kI K) := am_wEF_ok (orc [(21, 41, 20, 12)]) 200 (⟨rfl, am_wEF_ok (orc []) 200 (⟨rfl, ⟨⟨h.1.1, h.1.2⟩, am_wEF_ok (orc []) 200 (⟨fun c1 => ⟨(Or.inl rfl), ⟨(Or.inl rfl), ⟨fun _ => (h.2.1 c1), fun c => absurd (by decide : (0 : Int) = 0) c⟩⟩⟩, fun c1 => ⟨fun c2 => ⟨(Or.inl rfl), ⟨(Or.inl rfl), ⟨fun _ => ((h.2.2 c1).1 c2), fun c => absurd (by decide : (0 : Int) = 0) c⟩⟩⟩, fun c2 => ⟨(Or.inr rfl), ⟨(Or.inr rfl), ⟨fun c => absurd c (by decide : ¬ ((1 : Int) = 0)), fun _ => am_wEF_ok (orc []) 200 (⟨fun c3 => ⟨(Or.inl rfl), ⟨fun _ => (((h.2.2 c1).2 c2).1 c3), fun c => absurd (by decide : (0 : Int) = 0) c⟩⟩, fun c3 => ⟨fun c4 => ⟨(Or.inl rfl), ⟨fun _ => ((((h.2.2 c1).2 c2).2 c3).1 c4), fun c => absurd (by decide : (0 : Int) = 0) c⟩⟩, fun c4 => ⟨(Or.inr rfl), ⟨fun c => absurd c (by decide : ¬ ((1 : Int) = 0)), fun _ => ⟨rfl, c_M_isThere _ hF ((((h.2.2 c1).2 c2).2 c3).2 c4).1.1 ((((h.2.2 c1).2 c2).2 c3).2 c4).1.2 (fun c6 => ⟨fun c => absurd c (by decide : ¬ ((1 : Int) = 0)), fun _ => ⟨⟨rfl, (hF 17)⟩, ⟨⟨rfl, ((((h.2.2 c1).2 c2).2 c3).2 c4).1.1, ((((h.2.2 c1).2 c2).2 c3).2 c4).1.2⟩, (am_cI (((((h.2.2 c1).2 c2).2 c3).2 c4).2.1 c6) fun x7 s7 h7 => ⟨fun c9 => ⟨rfl, (am_cI (h7.2.1 c9) fun x10 s10 h10 => h10.2)⟩, fun c9 => (h7.2.2 c9)⟩)⟩⟩⟩) (fun c6 => ⟨fun _ => ⟨rfl, (am_cI (((((h.2.2 c1).2 c2).2 c3).2 c4).2.2 c6) fun x11 s11 h11 => h11.2)⟩, fun c => absurd (by decide : (0 : Int) = 0) c⟩)⟩⟩⟩⟩⟩)⟩⟩⟩⟩⟩)⟩⟩)⟩)

theorem v_C_truth_0 (d : Nat) (β μ κ ρ : Nat → Nat) (me : Nat → Nat → Nat) (aH nH aL nL aY nY aS nS n : Nat) (p1 p2 : Int) (σ : am_S) (K : Int → am_S → Prop) (hR : TR σ aH nH aL nL aY nY aS nS) (hB : BS σ β μ κ ρ me n) (h :
  ((p1 < 0 →
    K (-1001) σ) ∧
  (¬ (p1 < 0) →
    (((sI σ 3 1) ≤ p1 →
      K (-1001) σ) ∧
    (¬ ((sI σ 3 1) ≤ p1) →
      ((p2 < 0 →
        K (-1001) σ) ∧
      (¬ (p2 < 0) →
        (((sI σ 3 0) ≤ p2 →
          K (-1001) σ) ∧
        (¬ ((sI σ 3 0) ≤ p2) →
          am_Calls PP MLL (d + 1) m_Truths_falsehood [qr (3, 9, 11), qi p1, qi p2] σ (kI fun x5 s5 =>
            (TR s5 aH nH aL nL aY nY aS nS ∧ BS s5 β μ κ ρ me n) ∧
            K x5 s5)))))))))) : am_Runs PP MLL (d + 1) m_C_truth 0 [some (qr (2, 11, 10)), some (qi p1), some (qi p2)] [] σ (kI K) := am_wEF_ok (orc [(11, 3, 9, 11)]) 200 (⟨rfl, am_wEF_ok (orc [(4, 3, 9, 11)]) 200 (⟨fun c1 => ⟨(Or.inl rfl), ⟨fun _ => (h.1 c1), fun c => absurd (by decide : (0 : Int) = 0) c⟩⟩, fun c1 => ⟨⟨rfl, (hR.1 2 0 _ rfl)⟩, ⟨rfl, ⟨fun c2 => ⟨(Or.inl rfl), ⟨fun _ => ((h.2 c1).1 c2), fun c => absurd (by decide : (0 : Int) = 0) c⟩⟩, fun c2 => ⟨(Or.inr rfl), ⟨fun c => absurd c (by decide : ¬ ((1 : Int) = 0)), fun _ => ⟨rfl, am_wEF_ok (orc [(4, 3, 9, 11)]) 200 (⟨fun c3 => ⟨(Or.inl rfl), ⟨fun _ => (((h.2 c1).2 c2).1 c3), fun c => absurd (by decide : (0 : Int) = 0) c⟩⟩, fun c3 => ⟨⟨rfl, (hR.1 2 0 _ rfl)⟩, ⟨rfl, ⟨fun c4 => ⟨(Or.inl rfl), ⟨fun _ => ((((h.2 c1).2 c2).2 c3).1 c4), fun c => absurd (by decide : (0 : Int) = 0) c⟩⟩, fun c4 => ⟨(Or.inr rfl), ⟨fun c => absurd c (by decide : ¬ ((1 : Int) = 0)), fun _ => ⟨⟨rfl, (hR.1 2 0 _ rfl)⟩, ⟨rfl, (am_cI ((((h.2 c1).2 c2).2 c3).2 c4) fun x5 s5 h5 => h5.2)⟩⟩⟩⟩⟩⟩⟩⟩)⟩⟩⟩⟩⟩⟩⟩)⟩)

theorem v_M_truthT_0 (d : Nat) (p1 p2 : Int) (σ : am_S) (K : Int → am_S → Prop) (hF : MF σ) (hT : sI σ 31 26 = 0) (h :
  (-2147483648 ≤ (sI σ 31 5) - 1 ∧ (sI σ 31 5) - 1 < 2147483648) ∧
  ((p1 < 0 →
    K (-1001) σ) ∧
  (¬ (p1 < 0) →
    ((((sI σ 31 5) - 1) < p1 →
      K (-1001) σ) ∧
    (¬ (((sI σ 31 5) - 1) < p1) →
      (-2147483648 ≤ (sI σ 31 2) - 1 ∧ (sI σ 31 2) - 1 < 2147483648) ∧
      ((p2 < 0 →
        K (-1001) σ) ∧
      (¬ (p2 < 0) →
        ((((sI σ 31 2) - 1) < p2 →
          K (-1001) σ) ∧
        (¬ (((sI σ 31 2) - 1) < p2) →
          am_Runs PP MLL (d + 2) m_M_truth 14 [some (qr (31, 12, 89)), some (qi p1), some (qi p2), some (qi 0), some (qi 0)] [] σ (kI K)))))))))) : am_Runs PP MLL (d + 2) m_M_truth 0 [some (qr (31, 12, 89)), some (qi p1), some (qi p2), none, none] [] σ (kI K) := am_wEC_ok (orc []) [40] 200 (⟨rfl, am_wEF_ok (orc []) 200 (⟨rfl, ⟨⟨h.1.1, h.1.2⟩, am_wEF_ok (orc []) 200 (⟨fun c1 => ⟨(Or.inl rfl), ⟨(Or.inl rfl), ⟨fun _ => (h.2.1 c1), fun c => absurd (by decide : (0 : Int) = 0) c⟩⟩⟩, fun c1 => ⟨fun c2 => ⟨(Or.inl rfl), ⟨(Or.inl rfl), ⟨fun _ => ((h.2.2 c1).1 c2), fun c => absurd (by decide : (0 : Int) = 0) c⟩⟩⟩, fun c2 => ⟨(Or.inr rfl), ⟨(Or.inr rfl), ⟨fun c => absurd c (by decide : ¬ ((1 : Int) = 0)), fun _ => ⟨rfl, am_wEF_ok (orc []) 200 (⟨rfl, ⟨⟨((h.2.2 c1).2 c2).1.1, ((h.2.2 c1).2 c2).1.2⟩, am_wEF_ok (orc []) 200 (⟨fun c3 => ⟨(Or.inl rfl), ⟨(Or.inl rfl), ⟨fun _ => (((h.2.2 c1).2 c2).2.1 c3), fun c => absurd (by decide : (0 : Int) = 0) c⟩⟩⟩, fun c3 => ⟨fun c4 => ⟨(Or.inl rfl), ⟨(Or.inl rfl), ⟨fun _ => ((((h.2.2 c1).2 c2).2.2 c3).1 c4), fun c => absurd (by decide : (0 : Int) = 0) c⟩⟩⟩, fun c4 => ⟨(Or.inr rfl), ⟨(Or.inr rfl), ⟨fun c => absurd c (by decide : ¬ ((1 : Int) = 0)), fun _ => ((((h.2.2 c1).2 c2).2.2 c3).2 c4)⟩⟩⟩⟩⟩)⟩⟩)⟩⟩⟩⟩⟩⟩)⟩⟩)⟩)

theorem v_C_alike_0 (d : Nat) (β μ κ ρ : Nat → Nat) (me : Nat → Nat → Nat) (aH nH aL nL aY nY aS nS n : Nat) (p1 p2 : Int) (σ : am_S) (K : Int → am_S → Prop) (hR : TR σ aH nH aL nL aY nY aS nS) (hB : BS σ β μ κ ρ me n) (h :
  ((p1 < 0 →
    K (-1001) σ) ∧
  (¬ (p1 < 0) →
    (((sI σ 3 0) ≤ p1 →
      K (-1001) σ) ∧
    (¬ ((sI σ 3 0) ≤ p1) →
      ((p2 < 0 →
        K (-1001) σ) ∧
      (¬ (p2 < 0) →
        (((sI σ 3 0) ≤ p2 →
          K (-1001) σ) ∧
        (¬ ((sI σ 3 0) ≤ p2) →
          am_Calls PP MLL (d + 5) m_Truths_exchangeable [qr (3, 9, 11), qi p1, qi p2] σ (kI fun x5 s5 =>
            (TR s5 aH nH aL nL aY nY aS nS ∧ BS s5 β μ κ ρ me n) ∧
            K (if x5 = 0 then (0 : Int) else 1) s5)))))))))) : am_Runs PP MLL (d + 5) m_C_alike 0 [some (qr (2, 11, 10)), some (qi p1), some (qi p2)] [] σ (kI K) := am_wEC_ok (orc [(11, 3, 9, 11)]) [19] 200 (⟨rfl, am_wEF_ok (orc [(4, 3, 9, 11)]) 200 (⟨fun c1 => ⟨(Or.inl rfl), ⟨fun _ => (h.1 c1), fun c => absurd (by decide : (0 : Int) = 0) c⟩⟩, fun c1 => ⟨⟨rfl, (hR.1 2 0 _ rfl)⟩, ⟨rfl, ⟨fun c2 => ⟨(Or.inl rfl), ⟨fun _ => ((h.2 c1).1 c2), fun c => absurd (by decide : (0 : Int) = 0) c⟩⟩, fun c2 => ⟨(Or.inr rfl), ⟨fun c => absurd c (by decide : ¬ ((1 : Int) = 0)), fun _ => ⟨rfl, am_wEF_ok (orc [(4, 3, 9, 11)]) 200 (⟨fun c3 => ⟨(Or.inl rfl), ⟨fun _ => (((h.2 c1).2 c2).1 c3), fun c => absurd (by decide : (0 : Int) = 0) c⟩⟩, fun c3 => ⟨⟨rfl, (hR.1 2 0 _ rfl)⟩, ⟨rfl, ⟨fun c4 => ⟨(Or.inl rfl), ⟨fun _ => ((((h.2 c1).2 c2).2 c3).1 c4), fun c => absurd (by decide : (0 : Int) = 0) c⟩⟩, fun c4 => ⟨(Or.inr rfl), ⟨fun c => absurd c (by decide : ¬ ((1 : Int) = 0)), fun _ => ⟨⟨rfl, (hR.1 2 0 _ rfl)⟩, ⟨rfl, (am_cI ((((h.2 c1).2 c2).2 c3).2 c4) fun x5 s5 h5 => am_use (fun H7 => ⟨fun c6 => (Eq.mp (congrArg (fun z => am_Runs _ _ _ _ _ _ (qi z :: _) _ _) (if_pos c6 : (if x5 = 0 then (0 : Int) else 1) = 0)) H7), fun c6 => (Eq.mp (congrArg (fun z => am_Runs _ _ _ _ _ _ (qi z :: _) _ _) (if_neg c6 : (if x5 = 0 then (0 : Int) else 1) = 1)) H7)⟩) (am_wEC_ok (orc []) [19] 200 (h5.2)))⟩⟩⟩⟩⟩⟩⟩⟩)⟩⟩⟩⟩⟩⟩⟩)⟩)

theorem v_M_alikeT_0 (d : Nat) (p1 p2 : Int) (σ : am_S) (K : Int → am_S → Prop) (hF : MF σ) (hT : sI σ 31 26 = 0) (h :
  (-2147483648 ≤ (sI σ 31 2) - 1 ∧ (sI σ 31 2) - 1 < 2147483648) ∧
  ((p1 < 0 →
    K (-1001) σ) ∧
  (¬ (p1 < 0) →
    ((((sI σ 31 2) - 1) < p1 →
      K (-1001) σ) ∧
    (¬ (((sI σ 31 2) - 1) < p1) →
      ((p2 < 0 →
        K (-1001) σ) ∧
      (¬ (p2 < 0) →
        ((((sI σ 31 2) - 1) < p2 →
          K (-1001) σ) ∧
        (¬ (((sI σ 31 2) - 1) < p2) →
          am_Runs PP MLL (d + 3) m_M_alike 14 [some (qr (31, 12, 89)), some (qi p1), some (qi p2), some (qi 1), some (qi 0), none] [] σ (kI K)))))))))) : am_Runs PP MLL (d + 3) m_M_alike 0 [some (qr (31, 12, 89)), some (qi p1), some (qi p2), none, none, none] [] σ (kI K) := am_wEC_ok (orc []) [52, 60] 200 (⟨rfl, am_wEF_ok (orc []) 200 (⟨rfl, ⟨⟨h.1.1, h.1.2⟩, am_wEF_ok (orc []) 200 (⟨fun c1 => ⟨(Or.inl rfl), ⟨(Or.inl rfl), ⟨fun _ => (h.2.1 c1), fun c => absurd (by decide : (0 : Int) = 0) c⟩⟩⟩, fun c1 => ⟨fun c2 => ⟨(Or.inl rfl), ⟨(Or.inl rfl), ⟨fun _ => ((h.2.2 c1).1 c2), fun c => absurd (by decide : (0 : Int) = 0) c⟩⟩⟩, fun c2 => ⟨(Or.inr rfl), ⟨(Or.inr rfl), ⟨fun c => absurd c (by decide : ¬ ((1 : Int) = 0)), fun _ => ⟨rfl, am_wEF_ok (orc []) 200 (⟨rfl, ⟨⟨h.1.1, h.1.2⟩, am_wEF_ok (orc []) 200 (⟨fun c3 => ⟨(Or.inl rfl), ⟨(Or.inl rfl), ⟨fun _ => (((h.2.2 c1).2 c2).1 c3), fun c => absurd (by decide : (0 : Int) = 0) c⟩⟩⟩, fun c3 => ⟨fun c4 => ⟨(Or.inl rfl), ⟨(Or.inl rfl), ⟨fun _ => ((((h.2.2 c1).2 c2).2 c3).1 c4), fun c => absurd (by decide : (0 : Int) = 0) c⟩⟩⟩, fun c4 => ⟨(Or.inr rfl), ⟨(Or.inr rfl), ⟨fun c => absurd c (by decide : ¬ ((1 : Int) = 0)), fun _ => ((((h.2.2 c1).2 c2).2 c3).2 c4)⟩⟩⟩⟩⟩)⟩⟩)⟩⟩⟩⟩⟩⟩)⟩⟩)⟩)

theorem v_M_isBelow_0 (d : Nat) (p0 p1 : Int) (σ : am_S) (K : Int → am_S → Prop) (hF : MF σ) (hT : sI σ 31 26 = 0) (h :
  ((if (if (if (if p0 = p1 then (1 : Int) else 0) = 0 then (if p1 = 0 then (if 6 ≤ p0 then (0 : Int) else 1 : Int) else 0 : Int) else 1) = 0 then (if p1 = 1 then (if p0 = 2 then (1 : Int) else (if p0 = 3 then (1 : Int) else 0) : Int) else 0 : Int) else 1) = 0 then (if p1 = 2 then (if p0 = 3 then (1 : Int) else 0 : Int) else 0 : Int) else 1) = 0 ∨ (if (if (if (if p0 = p1 then (1 : Int) else 0) = 0 then (if p1 = 0 then (if 6 ≤ p0 then (0 : Int) else 1 : Int) else 0 : Int) else 1) = 0 then (if p1 = 1 then (if p0 = 2 then (1 : Int) else (if p0 = 3 then (1 : Int) else 0) : Int) else 0 : Int) else 1) = 0 then (if p1 = 2 then (if p0 = 3 then (1 : Int) else 0 : Int) else 0 : Int) else 1) = 1) ∧
  K (if (if (if (if p0 = p1 then (1 : Int) else 0) = 0 then (if p1 = 0 then (if 6 ≤ p0 then (0 : Int) else 1 : Int) else 0 : Int) else 1) = 0 then (if p1 = 1 then (if p0 = 2 then (1 : Int) else (if p0 = 3 then (1 : Int) else 0) : Int) else 0 : Int) else 1) = 0 then (if p1 = 2 then (if p0 = 3 then (1 : Int) else 0 : Int) else 0 : Int) else 1) σ) : am_Runs PP MLL d m_M_isBelow 0 [some (qi p0), some (qi p1), none] [] σ (kI K) := am_wEC_ok (orc []) [6, 17, 32, 44] 200 (am_use (fun H15 => ⟨fun c1 => (Eq.mp (congrArg (fun z => am_Runs _ _ _ _ _ _ (qi z :: _) _ _) (if_pos c1 : (if p0 = p1 then (1 : Int) else 0) = 1)) H15), fun c1 => (Eq.mp (congrArg (fun z => am_Runs _ _ _ _ _ _ (qi z :: _) _ _) (if_neg c1 : (if p0 = p1 then (1 : Int) else 0) = 0)) H15)⟩) (am_wEC_ok (orc []) [6, 17, 32, 44] 200 (am_use (fun H14 => ⟨fun c2 => ⟨fun c3 => ⟨fun c4 => (Eq.mp (congrArg (fun z => am_Runs _ _ _ _ _ _ (qi z :: _) _ _) (Eq.trans (if_pos c2 : (if (if p0 = p1 then (1 : Int) else 0) = 0 then (if p1 = 0 then (if 6 ≤ p0 then (0 : Int) else 1 : Int) else 0 : Int) else 1) = if p1 = 0 then (if 6 ≤ p0 then (0 : Int) else 1 : Int) else 0) (Eq.trans (if_pos c3 : (if p1 = 0 then (if 6 ≤ p0 then (0 : Int) else 1 : Int) else 0) = if 6 ≤ p0 then (0 : Int) else 1) (if_pos c4 : (if 6 ≤ p0 then (0 : Int) else 1) = 0)))) H14), fun c4 => (Eq.mp (congrArg (fun z => am_Runs _ _ _ _ _ _ (qi z :: _) _ _) (Eq.trans (if_pos c2 : (if (if p0 = p1 then (1 : Int) else 0) = 0 then (if p1 = 0 then (if 6 ≤ p0 then (0 : Int) else 1 : Int) else 0 : Int) else 1) = if p1 = 0 then (if 6 ≤ p0 then (0 : Int) else 1 : Int) else 0) (Eq.trans (if_pos c3 : (if p1 = 0 then (if 6 ≤ p0 then (0 : Int) else 1 : Int) else 0) = if 6 ≤ p0 then (0 : Int) else 1) (if_neg c4 : (if 6 ≤ p0 then (0 : Int) else 1) = 1)))) H14)⟩, fun c3 => (Eq.mp (congrArg (fun z => am_Runs _ _ _ _ _ _ (qi z :: _) _ _) (Eq.trans (if_pos c2 : (if (if p0 = p1 then (1 : Int) else 0) = 0 then (if p1 = 0 then (if 6 ≤ p0 then (0 : Int) else 1 : Int) else 0 : Int) else 1) = if p1 = 0 then (if 6 ≤ p0 then (0 : Int) else 1 : Int) else 0) (if_neg c3 : (if p1 = 0 then (if 6 ≤ p0 then (0 : Int) else 1 : Int) else 0) = 0))) H14)⟩, fun c2 => (Eq.mp (congrArg (fun z => am_Runs _ _ _ _ _ _ (qi z :: _) _ _) (if_neg c2 : (if (if p0 = p1 then (1 : Int) else 0) = 0 then (if p1 = 0 then (if 6 ≤ p0 then (0 : Int) else 1 : Int) else 0 : Int) else 1) = 1)) H14)⟩) (am_wEC_ok (orc []) [6, 17, 32, 44] 200 (am_use (fun H13 => ⟨fun c5 => ⟨fun c6 => ⟨fun c7 => (Eq.mp (congrArg (fun z => am_Runs _ _ _ _ _ _ (qi z :: _) _ _) (Eq.trans (if_pos c5 : (if (if (if p0 = p1 then (1 : Int) else 0) = 0 then (if p1 = 0 then (if 6 ≤ p0 then (0 : Int) else 1 : Int) else 0 : Int) else 1) = 0 then (if p1 = 1 then (if p0 = 2 then (1 : Int) else (if p0 = 3 then (1 : Int) else 0) : Int) else 0 : Int) else 1) = if p1 = 1 then (if p0 = 2 then (1 : Int) else (if p0 = 3 then (1 : Int) else 0) : Int) else 0) (Eq.trans (if_pos c6 : (if p1 = 1 then (if p0 = 2 then (1 : Int) else (if p0 = 3 then (1 : Int) else 0) : Int) else 0) = if p0 = 2 then (1 : Int) else (if p0 = 3 then (1 : Int) else 0)) (if_pos c7 : (if p0 = 2 then (1 : Int) else if p0 = 3 then (1 : Int) else 0) = 1)))) H13), fun c7 => ⟨fun c8 => (Eq.mp (congrArg (fun z => am_Runs _ _ _ _ _ _ (qi z :: _) _ _) (Eq.trans (if_pos c5 : (if (if (if p0 = p1 then (1 : Int) else 0) = 0 then (if p1 = 0 then (if 6 ≤ p0 then (0 : Int) else 1 : Int) else 0 : Int) else 1) = 0 then (if p1 = 1 then (if p0 = 2 then (1 : Int) else (if p0 = 3 then (1 : Int) else 0) : Int) else 0 : Int) else 1) = if p1 = 1 then (if p0 = 2 then (1 : Int) else (if p0 = 3 then (1 : Int) else 0) : Int) else 0) (Eq.trans (if_pos c6 : (if p1 = 1 then (if p0 = 2 then (1 : Int) else (if p0 = 3 then (1 : Int) else 0) : Int) else 0) = if p0 = 2 then (1 : Int) else (if p0 = 3 then (1 : Int) else 0)) (Eq.trans (if_neg c7 : (if p0 = 2 then (1 : Int) else if p0 = 3 then (1 : Int) else 0) = if p0 = 3 then (1 : Int) else 0) (if_pos c8 : (if p0 = 3 then (1 : Int) else 0) = 1))))) H13), fun c8 => (Eq.mp (congrArg (fun z => am_Runs _ _ _ _ _ _ (qi z :: _) _ _) (Eq.trans (if_pos c5 : (if (if (if p0 = p1 then (1 : Int) else 0) = 0 then (if p1 = 0 then (if 6 ≤ p0 then (0 : Int) else 1 : Int) else 0 : Int) else 1) = 0 then (if p1 = 1 then (if p0 = 2 then (1 : Int) else (if p0 = 3 then (1 : Int) else 0) : Int) else 0 : Int) else 1) = if p1 = 1 then (if p0 = 2 then (1 : Int) else (if p0 = 3 then (1 : Int) else 0) : Int) else 0) (Eq.trans (if_pos c6 : (if p1 = 1 then (if p0 = 2 then (1 : Int) else (if p0 = 3 then (1 : Int) else 0) : Int) else 0) = if p0 = 2 then (1 : Int) else (if p0 = 3 then (1 : Int) else 0)) (Eq.trans (if_neg c7 : (if p0 = 2 then (1 : Int) else if p0 = 3 then (1 : Int) else 0) = if p0 = 3 then (1 : Int) else 0) (if_neg c8 : (if p0 = 3 then (1 : Int) else 0) = 0))))) H13)⟩⟩, fun c6 => (Eq.mp (congrArg (fun z => am_Runs _ _ _ _ _ _ (qi z :: _) _ _) (Eq.trans (if_pos c5 : (if (if (if p0 = p1 then (1 : Int) else 0) = 0 then (if p1 = 0 then (if 6 ≤ p0 then (0 : Int) else 1 : Int) else 0 : Int) else 1) = 0 then (if p1 = 1 then (if p0 = 2 then (1 : Int) else (if p0 = 3 then (1 : Int) else 0) : Int) else 0 : Int) else 1) = if p1 = 1 then (if p0 = 2 then (1 : Int) else (if p0 = 3 then (1 : Int) else 0) : Int) else 0) (if_neg c6 : (if p1 = 1 then (if p0 = 2 then (1 : Int) else (if p0 = 3 then (1 : Int) else 0) : Int) else 0) = 0))) H13)⟩, fun c5 => (Eq.mp (congrArg (fun z => am_Runs _ _ _ _ _ _ (qi z :: _) _ _) (if_neg c5 : (if (if (if p0 = p1 then (1 : Int) else 0) = 0 then (if p1 = 0 then (if 6 ≤ p0 then (0 : Int) else 1 : Int) else 0 : Int) else 1) = 0 then (if p1 = 1 then (if p0 = 2 then (1 : Int) else (if p0 = 3 then (1 : Int) else 0) : Int) else 0 : Int) else 1) = 1)) H13)⟩) (am_wEC_ok (orc []) [6, 17, 32, 44] 200 (am_use (fun H12 => ⟨fun c9 => ⟨fun c10 => ⟨fun c11 => (Eq.mp (congrArg (fun z => am_Runs _ _ _ _ _ _ (qi z :: _) _ _) (Eq.trans (if_pos c9 : (if (if (if (if p0 = p1 then (1 : Int) else 0) = 0 then (if p1 = 0 then (if 6 ≤ p0 then (0 : Int) else 1 : Int) else 0 : Int) else 1) = 0 then (if p1 = 1 then (if p0 = 2 then (1 : Int) else (if p0 = 3 then (1 : Int) else 0) : Int) else 0 : Int) else 1) = 0 then (if p1 = 2 then (if p0 = 3 then (1 : Int) else 0 : Int) else 0 : Int) else 1) = if p1 = 2 then (if p0 = 3 then (1 : Int) else 0 : Int) else 0) (Eq.trans (if_pos c10 : (if p1 = 2 then (if p0 = 3 then (1 : Int) else 0 : Int) else 0) = if p0 = 3 then (1 : Int) else 0) (if_pos c11 : (if p0 = 3 then (1 : Int) else 0) = 1)))) H12), fun c11 => (Eq.mp (congrArg (fun z => am_Runs _ _ _ _ _ _ (qi z :: _) _ _) (Eq.trans (if_pos c9 : (if (if (if (if p0 = p1 then (1 : Int) else 0) = 0 then (if p1 = 0 then (if 6 ≤ p0 then (0 : Int) else 1 : Int) else 0 : Int) else 1) = 0 then (if p1 = 1 then (if p0 = 2 then (1 : Int) else (if p0 = 3 then (1 : Int) else 0) : Int) else 0 : Int) else 1) = 0 then (if p1 = 2 then (if p0 = 3 then (1 : Int) else 0 : Int) else 0 : Int) else 1) = if p1 = 2 then (if p0 = 3 then (1 : Int) else 0 : Int) else 0) (Eq.trans (if_pos c10 : (if p1 = 2 then (if p0 = 3 then (1 : Int) else 0 : Int) else 0) = if p0 = 3 then (1 : Int) else 0) (if_neg c11 : (if p0 = 3 then (1 : Int) else 0) = 0)))) H12)⟩, fun c10 => (Eq.mp (congrArg (fun z => am_Runs _ _ _ _ _ _ (qi z :: _) _ _) (Eq.trans (if_pos c9 : (if (if (if (if p0 = p1 then (1 : Int) else 0) = 0 then (if p1 = 0 then (if 6 ≤ p0 then (0 : Int) else 1 : Int) else 0 : Int) else 1) = 0 then (if p1 = 1 then (if p0 = 2 then (1 : Int) else (if p0 = 3 then (1 : Int) else 0) : Int) else 0 : Int) else 1) = 0 then (if p1 = 2 then (if p0 = 3 then (1 : Int) else 0 : Int) else 0 : Int) else 1) = if p1 = 2 then (if p0 = 3 then (1 : Int) else 0 : Int) else 0) (if_neg c10 : (if p1 = 2 then (if p0 = 3 then (1 : Int) else 0 : Int) else 0) = 0))) H12)⟩, fun c9 => (Eq.mp (congrArg (fun z => am_Runs _ _ _ _ _ _ (qi z :: _) _ _) (if_neg c9 : (if (if (if (if p0 = p1 then (1 : Int) else 0) = 0 then (if p1 = 0 then (if 6 ≤ p0 then (0 : Int) else 1 : Int) else 0 : Int) else 1) = 0 then (if p1 = 1 then (if p0 = 2 then (1 : Int) else (if p0 = 3 then (1 : Int) else 0) : Int) else 0 : Int) else 1) = 0 then (if p1 = 2 then (if p0 = 3 then (1 : Int) else 0 : Int) else 0 : Int) else 1) = 1)) H12)⟩) (am_wEC_ok (orc []) [6, 17, 32, 44] 200 (⟨h.1, h.2⟩)))))))))

theorem c_M_isBelow (d : Nat) {k o : Int} {σ : am_S} {K : Int → am_S → Prop} (hF : MF σ) (hT : sI σ 31 26 = 0) (hy : blw k o → K 1 σ) (hn : ¬ blw k o → K 0 σ) : am_Calls PP MLL (d + 1) m_M_isBelow [qi k, qi o] σ (kI K) := by
  refine v_M_isBelow_0 d k o σ K hF hT ?_
  obtain ⟨v, ev⟩ : ∃ v : Int, v = (if (if (if (if k = o then (1 : Int) else 0) = 0 then (if o = 0 then (if 6 ≤ k then (0 : Int) else 1 : Int) else 0 : Int) else 1) = 0 then (if o = 1 then (if k = 2 then (1 : Int) else (if k = 3 then (1 : Int) else 0) : Int) else 0 : Int) else 1) = 0 then (if o = 2 then (if k = 3 then (1 : Int) else 0 : Int) else 0 : Int) else 1) := ⟨_, rfl⟩
  have h01 : (v = 1 ∧ blw k o) ∨ (v = 0 ∧ ¬ blw k o) := by
    rw [ev]
    unfold blw
    (repeat' split) <;> omega
  rw [← ev]
  rcases h01 with ⟨e, h⟩ | ⟨e, h⟩
  · rw [e]; exact ⟨by omega, hy h⟩
  · rw [e]; exact ⟨by omega, hn h⟩
theorem p_status (d : Nat) {xs : Nat → Int} {c : Nat} {σ : am_S} (hI : INV xs σ c) (hc : c + 1 ≤ 600) : PR d xs m_C_status m_M_status [] σ c := by
  have hs := INV_s hI hc
  obtain ⟨own, β, μ, κ, ρ, me, n, aH, nH, aL, nL, aY, nY, aS, nS, N, l, m, T, W, kd, aR, nR, aV, nV, aI, nI, aQ, nQ, g, w, hx⟩ := hI
  have hx0 := hx
  obtain ⟨⟨hF, hab, hxs⟩, it, il, ib, im, ij, sc, rz, is, ir, hc6⟩ := hx
  obtain ⟨hR, ow, ti, kt, ks, ⟨w1, w2, w3, w4, w5, w6, w7, w8⟩, ⟨l1, l2, l3, l4⟩, lz, ⟨q1, q2, q3, q4⟩, h87⟩ := it
  have o1 := ow.1
  obtain ⟨a1, a2, a3, ⟨n12, a4, a5⟩, bd, a6, a7, a8, a9, a10⟩ := ib
  obtain ⟨m1, ⟨m2, T26⟩, m3, m4, m5, m6⟩ := im
  have tN := ti.2.2.2.2.1
  have tT := ti.2.2.2.2.2.2.1
  have T4 := ti.2.2.2.2.2.2.2.2.1
  refine v_C_status_0 (d + 29) β μ κ ρ me aH nH aL nL aY nY aS nS n σ _ hR a1 ⟨hxs, ?_⟩
  exact v_M_status_0 (d + 29) σ _ hF T26 ⟨m5, hs⟩
theorem p_trace (d : Nat) {xs : Nat → Int} {c : Nat} {σ : am_S} {p1 : Int} (hI : INV xs σ c) (hc : c + 1 ≤ 600) : PR d xs m_C_trace m_M_trace [qi p1] σ c := by
  have hs := INV_s hI hc
  obtain ⟨own, β, μ, κ, ρ, me, n, aH, nH, aL, nL, aY, nY, aS, nS, N, l, m, T, W, kd, aR, nR, aV, nV, aI, nI, aQ, nQ, g, w, hx⟩ := hI
  have hx0 := hx
  obtain ⟨⟨hF, hab, hxs⟩, it, il, ib, im, ij, sc, rz, is, ir, hc6⟩ := hx
  obtain ⟨hR, ow, ti, kt, ks, ⟨w1, w2, w3, w4, w5, w6, w7, w8⟩, ⟨l1, l2, l3, l4⟩, lz, ⟨q1, q2, q3, q4⟩, h87⟩ := it
  have o1 := ow.1
  obtain ⟨a1, a2, a3, ⟨n12, a4, a5⟩, bd, a6, a7, a8, a9, a10⟩ := ib
  obtain ⟨m1, ⟨m2, T26⟩, m3, m4, m5, m6⟩ := im
  have tN := ti.2.2.2.2.1
  have tT := ti.2.2.2.2.2.2.1
  have T4 := ti.2.2.2.2.2.2.2.2.1
  obtain ⟨t1, t2, t3, t4⟩ := m1
  refine v_C_trace_0 (d + 29) β μ κ ρ me aH nH aL nL aY nY aS nS n p1 σ _ hR a1 ⟨⟨fun _ _ => by omega, fun _ _ => by omega⟩, hxs, ?_⟩
  refine v_M_trace_0 (d + 28) p1 σ _ hF T26 ⟨by omega, fun c1 => ⟨?_, hs⟩, fun c1 => ⟨fun c2 => ⟨?_, hs⟩, fun c2 => ⟨by omega, ?_, hs⟩⟩⟩
  · rw [if_pos c1]
  · rw [if_neg c1, if_pos (by omega)]
  · rw [if_neg c1, if_neg (by omega)]
    exact t4 p1.toNat (by omega)
theorem p_lied (d : Nat) {xs : Nat → Int} {c : Nat} {σ : am_S} {p1 : Int} (hI : INV xs σ c) (hc : c + 1 ≤ 600) : PR d xs m_C_lied m_M_lied [qi p1] σ c := by
  have hs := INV_s hI hc
  obtain ⟨own, β, μ, κ, ρ, me, n, aH, nH, aL, nL, aY, nY, aS, nS, N, l, m, T, W, kd, aR, nR, aV, nV, aI, nI, aQ, nQ, g, w, hx⟩ := hI
  have hx0 := hx
  obtain ⟨⟨hF, hab, hxs⟩, it, il, ib, im, ij, sc, rz, is, ir, hc6⟩ := hx
  obtain ⟨hR, ow, ti, kt, ks, ⟨w1, w2, w3, w4, w5, w6, w7, w8⟩, ⟨l1, l2, l3, l4⟩, lz, ⟨q1, q2, q3, q4⟩, h87⟩ := it
  have o1 := ow.1
  obtain ⟨a1, a2, a3, ⟨n12, a4, a5⟩, bd, a6, a7, a8, a9, a10⟩ := ib
  obtain ⟨m1, ⟨m2, T26⟩, m3, m4, m5, m6⟩ := im
  have tN := ti.2.2.2.2.1
  have tT := ti.2.2.2.2.2.2.1
  have T4 := ti.2.2.2.2.2.2.2.2.1
  have ref : ∀ x : Int, (p1 < 0 ∨ (T : Int) ≤ p1 → x = -1001) → (0 ≤ p1 → p1 < T → x = if sI σ 37 p1.toNat < 0 then sI σ 36 p1.toNat else -1000) → am_Calls PP MLL (d + 30) m_M_lied [qr (31, 12, 89), qi p1] σ (kI fun y t => x = y ∧ INV xs t (c + 1)) := by
    intro x h1 h2
    refine v_M_lied_0 (d + 27) p1 σ _ hF T26 ?_
    rw [tT]
    exact ⟨by omega, fun c1 => ⟨h1 (by omega), hs⟩, fun c1 => ⟨fun c2 => ⟨h1 (by omega), hs⟩, fun c2 => ⟨⟨by omega, by omega, fun _ => by omega, fun _ => by omega⟩, h2 (by omega) (by omega), hs⟩⟩⟩
  refine v_C_lied_0 (d + 27) β μ κ ρ me aH nH aL nL aY nY aS nS n p1 σ _ hR a1 ?_
  rw [w3]
  refine ⟨fun c1 => ⟨hxs, ref _ (fun _ => rfl) (fun _ _ => by omega)⟩, fun c1 => ⟨fun c2 => ⟨hxs, ref _ (fun _ => rfl) (fun _ _ => by omega)⟩, fun c2 => ?_⟩⟩
  obtain ⟨k1, k2, k3, k4, k5, k6, k7⟩ := ks p1.toNat (by omega)
  have pw := p30 w1
  rw [k1, k4, k7]
  refine ⟨by omega, fun c3 => ⟨by omega, by omega, hxs, ref _ (fun _ => by omega) (fun _ _ => ?_)⟩, fun c3 => ⟨hxs, ref _ (fun _ => by omega) (fun _ _ => ?_)⟩⟩
  · rw [if_pos (by omega)]
  · rw [if_neg (by omega)]
theorem p_judged (d : Nat) {xs : Nat → Int} {c : Nat} {σ : am_S} {p1 : Int} (hI : INV xs σ c) (hc : c + 1 ≤ 600) : PR d xs m_C_judged m_M_judged [qi p1] σ c := by
  have hs := INV_s hI hc
  obtain ⟨own, β, μ, κ, ρ, me, n, aH, nH, aL, nL, aY, nY, aS, nS, N, l, m, T, W, kd, aR, nR, aV, nV, aI, nI, aQ, nQ, g, w, hx⟩ := hI
  have hx0 := hx
  obtain ⟨⟨hF, hab, hxs⟩, it, il, ib, im, ij, sc, rz, is, ir, hc6⟩ := hx
  obtain ⟨hR, ow, ti, kt, ks, ⟨w1, w2, w3, w4, w5, w6, w7, w8⟩, ⟨l1, l2, l3, l4⟩, lz, ⟨q1, q2, q3, q4⟩, h87⟩ := it
  have o1 := ow.1
  obtain ⟨a1, a2, a3, ⟨n12, a4, a5⟩, bd, a6, a7, a8, a9, a10⟩ := ib
  obtain ⟨m1, ⟨m2, T26⟩, m3, m4, m5, m6⟩ := im
  have tN := ti.2.2.2.2.1
  have tT := ti.2.2.2.2.2.2.1
  have T4 := ti.2.2.2.2.2.2.2.2.1
  have ij' := ij
  obtain ⟨_, _, _, _, _, _, _, _, _, _, _, _, _, ⟨j1, j2⟩, j3⟩ := ij
  have ref : ∀ x : Int, (p1 < 0 ∨ 2 < p1 → x = -1001) → (0 ≤ p1 → p1 ≤ 2 → x = if sI σ 31 83 = 0 then (-1002 : Int) else (if p1 = 0 then (sI σ 31 84 : Int) else (if p1 = 1 then (sI σ 31 85 : Int) else (sI σ 31 86)))) → am_Calls PP MLL (d + 30) m_M_judged [qr (31, 12, 89), qi p1] σ (kI fun y t => x = y ∧ INV xs t (c + 1)) := by
    intro x h1 h2
    exact v_M_judged_0 (d + 28) p1 σ _ hF T26 ⟨fun c1 => ⟨h1 (by omega), hs⟩, fun c1 => ⟨fun c2 => ⟨h1 (by omega), hs⟩, fun c2 => ⟨h2 (by omega) (by omega), hs⟩⟩⟩
  refine v_C_judged_0 (d + 29) β μ κ ρ me aH nH aL nL aY nY aS nS n p1 σ _ hR a1 ?_
  rw [j1]
  refine ⟨fun c1 => ⟨hxs, ref _ (fun _ => rfl) (fun _ _ => by omega)⟩, fun c1 => ⟨fun c2 => ⟨fun c3 => ⟨hxs, ref _ (fun _ => by omega) (fun _ _ => by rw [if_pos c3])⟩, fun c3 => ?_⟩, fun c2 => ⟨hxs, ref _ (fun _ => rfl) (fun _ _ => by omega)⟩⟩⟩
  obtain ⟨y1, y2, y3⟩ := j3 (by omega)
  refine ⟨fun c4 => ⟨hxs, ref _ (fun _ => by omega) (fun _ _ => by rw [if_neg c3, if_pos c4]; exact y1)⟩, fun c4 => ⟨hxs, ref _ (fun _ => by omega) (fun _ _ => ?_)⟩⟩
  rw [if_neg c3, if_neg c4, y2, y3]
theorem TR_2 {σ s : am_S} {aH nH aL nL aY nY aS nS : Nat} (h2 : s.2 = σ.2) (hR : TR σ aH nH aL nL aY nY aS nS) : TR s aH nH aL nL aY nY aS nS := by
  have e : sR s = sR σ := by
    funext a j
    exact R2' h2 a j
  unfold TR CF
  rw [e]
  exact hR
theorem BS_2 {σ s : am_S} {β μ κ ρ : Nat → Nat} {me : Nat → Nat → Nat} {n : Nat} (h2 : s.2 = σ.2) (h : BS σ β μ κ ρ me n) : BS s β μ κ ρ me n := by
  have e : sR s = sR σ := by
    funext a j
    exact R2' h2 a j
  unfold BS
  rw [e]
  exact h
theorem p_complain (d : Nat) {xs : Nat → Int} {c : Nat} {σ : am_S} {p1 : Int} (hI : INV xs σ c) (hc : c + 1 ≤ 600) : PR d xs m_C_complain m_M_complain [qi p1] σ c := by
  have hs := INV_s hI hc
  obtain ⟨own, β, μ, κ, ρ, me, n, aH, nH, aL, nL, aY, nY, aS, nS, N, l, m, T, W, kd, aR, nR, aV, nV, aI, nI, aQ, nQ, g, w, hx⟩ := hI
  have hx0 := hx
  obtain ⟨⟨hF, hab, hxs⟩, it, il, ib, im, ij, sc, rz, is, ir, hc6⟩ := hx
  obtain ⟨hR, ow, ti, kt, ks, ⟨w1, w2, w3, w4, w5, w6, w7, w8⟩, ⟨l1, l2, l3, l4⟩, lz, ⟨q1, q2, q3, q4⟩, h87⟩ := it
  have o1 := ow.1
  obtain ⟨a1, a2, a3, ⟨n12, a4, a5⟩, bd, a6, a7, a8, a9, a10⟩ := ib
  obtain ⟨m1, ⟨m2, T26⟩, m3, m4, m5, m6⟩ := im
  have tN := ti.2.2.2.2.1
  have tT := ti.2.2.2.2.2.2.1
  have T4 := ti.2.2.2.2.2.2.2.2.1
  have nB : ∀ b, b < n → ∀ x, x < 87 → x ≠ β b := fun b hb x hx' e => by
    have := (a2 b hb).1
    rw [← e, o1 x hx'] at this
    omega
  have fd : ∀ (b : Nat) (f : Int) (K : Int → am_S → Prop) (e : Nat), b < n → 0 ≤ f ∧ f ≤ 6 → (TR (fdC σ β b f) aH nH aL nL aY nY aS nS → BS (fdC σ β b f) β μ κ ρ me n → K (-1010 - f) (fdC σ β b f)) → am_Calls PP MLL (e + 1) m_C_found [qr (2, 11, 10), qi (b : Int), qi f] σ (kI K) := fun b f K e hb hf h => c_found e hR.1 a1 n12 hb (nB b hb 2 (by decide)).symm (by omega) (by omega) (h (TR_2 fdC_2 hR) (BS_2 fdC_2 a1))
  have fe : ∀ (b : Nat) (f : Int) (e : Nat), b < n → 0 ≤ f ∧ f ≤ 6 → am_Calls PP MLL (e + 2) m_M_finds [qr (31, 12, 89), qi (b : Int), qi f] (fdC σ β b f) (kI fun x s => (MF s ∧ sI s 31 26 = 0) ∧ -1010 - f = x ∧ INV xs s (c + 1)) := fun b f e hb hf => by
    have e31 : sI (fdC σ β b f) 31 = sI σ 31 := fdC_o (by decide) (nB b hb 31 (by decide))
    refine c_M_finds e (MF_I hF fdC_2) (by omega) (by omega) (by rw [e31]; omega) ⟨⟨MF_I hF (show (mFinds (fdC σ β b f) b f).2 = σ.2 from fdC_2), by rw [mF_31, if_neg (by decide), if_neg (by decide), e31]; exact T26⟩, rfl, INV_fd hx0 hc hb hf⟩
  have fx : ∀ b f, b < n → sI (fdC σ β b f) 0 = xs := fun b f hb => by rw [fdC_o (by decide) (nB b hb 0 (by decide))]; exact hxs
  have fr : ∀ b f x, b < n → x < 87 → x ≠ 2 → sI (fdC σ β b f) x = sI σ x := fun b f x hb hx' h2 => fdC_o h2 (nB b hb x hx')
  have ref : ∀ (x : Int) s, MF s → sI s 31 = sI σ 31 → (p1 < 0 ∨ (n : Int) ≤ p1) → s = σ → x = -1001 → am_Calls PP MLL (d + 30) m_M_complain [qr (31, 12, 89), qi p1] s (kI fun y t => x = y ∧ INV xs t (c + 1)) := by
    intro x s _ _ hp es ex
    subst es
    refine v_M_complain_0 (d + 27) p1 s _ hF T26 ?_
    rw [a5]
    exact ⟨by omega, fun c1 => ⟨ex, hs⟩, fun c1 => ⟨fun c2 => ⟨ex, hs⟩, fun c2 => by omega⟩⟩
  refine v_C_complain_0 (d + 28) β μ κ ρ me aH nH aL nL aY nY aS nS n p1 σ _ hR a1 ?_
  rw [a4]
  refine ⟨fun c1 => ⟨hxs, ref _ σ hF rfl (by omega) rfl rfl⟩, fun c1 => ⟨fun c2 => ⟨hxs, ref _ σ hF rfl (by omega) rfl rfl⟩, fun c2 => ⟨by omega, ?_⟩⟩⟩
  obtain ⟨b, eb⟩ : ∃ b : Nat, p1 = b := ⟨p1.toNat, by omega⟩
  subst eb
  have hb : b < n := by omega
  rw [Int.toNat_natCast]
  obtain ⟨d1, d2, d3, d4, d5, d6, d7, d8, d9⟩ := bd b hb
  have fin : ∀ f : Int, 0 ≤ f ∧ f ≤ 6 → (f = if 0 ≤ sI σ 41 b then (if sI σ 43 b = 0 then (6 : Int) else sI σ 43 b) else 1) → sI (fdC σ β b f) 0 = xs ∧ am_Calls PP MLL (d + 30) m_M_complain [qr (31, 12, 89), qi (b : Int)] (fdC σ β b f) (kI fun y t => -1010 - f = y ∧ INV xs t (c + 1)) := by
    intro f hf ef
    refine ⟨fx b f hb, ?_⟩
    refine v_M_complain_0 (d + 27) (b : Int) _ _ (MF_I hF fdC_2) (by rw [fr b f 31 hb (by decide) (by decide)]; exact T26) ?_
    rw [fr b f 31 hb (by decide) (by decide), fr b f 41 hb (by decide) (by decide), fr b f 43 hb (by decide) (by decide), a5, Int.toNat_natCast, ← ef]
    exact ⟨by omega, fun c1 => by omega, fun _ => ⟨fun c2 => by omega, fun _ => ⟨⟨by omega, by omega, fun _ => by omega, fun _ => by omega, fun _ _ => by omega, fun _ _ => by omega⟩, fe b f (d + 27) hb hf⟩⟩⟩
  refine ⟨fun e6 => ?_, fun e6 => ?_⟩
  · rw [if_pos e6] at d3
    have hf : 0 ≤ (if sI σ (β b) 8 = 0 then (6 : Int) else sI σ (β b) 8) ∧ (if sI σ (β b) 8 = 0 then (6 : Int) else sI σ (β b) 8) ≤ 6 := by split <;> omega
    refine fd b _ _ (d + 28) hb hf (fun t1 t2 => ⟨⟨t1, t2⟩, fin _ hf ?_⟩)
    rw [d5.1, if_pos (show 0 ≤ sI σ 41 b by omega)]
  · rw [if_neg e6] at d3
    exact fd b _ _ (d + 28) hb (by omega) (fun t1 t2 => ⟨⟨t1, t2⟩, fin _ (by omega) (by rw [if_neg (by omega)])⟩)
