/-! the reference: makeCase, isTooMuch -/
theorem v_M_differenceAt_0 (d : Nat) (p1 p2 : Int) (σ : am_S) (K : Int → am_S → Prop) (hF : MF σ) (h :
  am_Runs PP MLL d m_M_differenceAt 4 [some (qr (31, 12, 89)), some (qi p1), some (qi p2), some (qi 0), some (qi 0)] [] σ (kI K)) : am_Runs PP MLL d m_M_differenceAt 0 [some (qr (31, 12, 89)), some (qi p1), some (qi p2), none, none] [] σ (kI K) := am_wEF_ok (orc []) 200 (h)

theorem v_M_differenceAt_4 (d : Nat) (p1 p2 v3 v4 : Int) (σ : am_S) (K : Int → am_S → Prop) (hF : MF σ) (h :
  (0 ≤ p2 ∧ p2 < 10000) ∧
  (((sI σ 33 (Int.toNat p2)) ≤ v4 →
    K v3 σ) ∧
  (¬ ((sI σ 33 (Int.toNat p2)) ≤ v4) →
    (-2147483648 ≤ 12 * p1 ∧ 12 * p1 < 2147483648 ∧ -2147483648 ≤ 3 * p2 ∧ 3 * p2 < 2147483648 ∧ -2147483648 ≤ (3 * p2) + v4 ∧ (3 * p2) + v4 < 2147483648 ∧ 0 ≤ ((3 * p2) + v4) ∧ ((3 * p2) + v4) < 30000 ∧ -2147483648 ≤ (12 * p1) + (sI σ 34 (Int.toNat ((3 * p2) + v4))) ∧ (12 * p1) + (sI σ 34 (Int.toNat ((3 * p2) + v4))) < 2147483648 ∧ 0 ≤ ((12 * p1) + (sI σ 34 (Int.toNat ((3 * p2) + v4)))) ∧ ((12 * p1) + (sI σ 34 (Int.toNat ((3 * p2) + v4)))) < 168 ∧ -2147483648 ≤ (sI σ 66 (Int.toNat ((12 * p1) + (sI σ 34 (Int.toNat ((3 * p2) + v4)))))) * (sI σ 35 (Int.toNat ((3 * p2) + v4))) ∧ (sI σ 66 (Int.toNat ((12 * p1) + (sI σ 34 (Int.toNat ((3 * p2) + v4)))))) * (sI σ 35 (Int.toNat ((3 * p2) + v4))) < 2147483648 ∧ -2147483648 ≤ v3 + ((sI σ 66 (Int.toNat ((12 * p1) + (sI σ 34 (Int.toNat ((3 * p2) + v4)))))) * (sI σ 35 (Int.toNat ((3 * p2) + v4)))) ∧ v3 + ((sI σ 66 (Int.toNat ((12 * p1) + (sI σ 34 (Int.toNat ((3 * p2) + v4)))))) * (sI σ 35 (Int.toNat ((3 * p2) + v4)))) < 2147483648 ∧ -2147483648 ≤ v4 + 1 ∧ v4 + 1 < 2147483648) ∧
    am_Runs PP MLL d m_M_differenceAt 4 [some (qr (31, 12, 89)), some (qi p1), some (qi p2), some (qi (v3 + ((sI σ 66 (Int.toNat ((12 * p1) + (sI σ 34 (Int.toNat ((3 * p2) + v4)))))) * (sI σ 35 (Int.toNat ((3 * p2) + v4)))))), some (qi (v4 + 1))] [] σ (kI K)))) : am_Runs PP MLL d m_M_differenceAt 4 [some (qr (31, 12, 89)), some (qi p1), some (qi p2), some (qi v3), some (qi v4)] [] σ (kI K) := am_wEF_ok (orc [(6, 33, 20, 10000), (12, 66, 20, 168), (17, 34, 20, 30000), (27, 35, 20, 30000)]) 200 (⟨⟨rfl, (hF 7)⟩, ⟨⟨rfl, h.1.1, h.1.2⟩, ⟨fun c2 => (h.2.1 c2), fun c2 => ⟨⟨rfl, (hF 56)⟩, ⟨⟨(h.2.2 c2).1.1, (h.2.2 c2).1.2.1⟩, ⟨⟨rfl, (hF 8)⟩, ⟨⟨(h.2.2 c2).1.2.2.1, (h.2.2 c2).1.2.2.2.1⟩, ⟨⟨(h.2.2 c2).1.2.2.2.2.1, (h.2.2 c2).1.2.2.2.2.2.1⟩, ⟨⟨rfl, (h.2.2 c2).1.2.2.2.2.2.2.1, (h.2.2 c2).1.2.2.2.2.2.2.2.1⟩, ⟨⟨(h.2.2 c2).1.2.2.2.2.2.2.2.2.1, (h.2.2 c2).1.2.2.2.2.2.2.2.2.2.1⟩, ⟨⟨rfl, (h.2.2 c2).1.2.2.2.2.2.2.2.2.2.2.1, (h.2.2 c2).1.2.2.2.2.2.2.2.2.2.2.2.1⟩, ⟨⟨rfl, (hF 9)⟩, ⟨⟨(h.2.2 c2).1.2.2.1, (h.2.2 c2).1.2.2.2.1⟩, ⟨⟨(h.2.2 c2).1.2.2.2.2.1, (h.2.2 c2).1.2.2.2.2.2.1⟩, ⟨⟨rfl, (h.2.2 c2).1.2.2.2.2.2.2.1, (h.2.2 c2).1.2.2.2.2.2.2.2.1⟩, ⟨⟨(h.2.2 c2).1.2.2.2.2.2.2.2.2.2.2.2.2.1, (h.2.2 c2).1.2.2.2.2.2.2.2.2.2.2.2.2.2.1⟩, ⟨⟨(h.2.2 c2).1.2.2.2.2.2.2.2.2.2.2.2.2.2.2.1, (h.2.2 c2).1.2.2.2.2.2.2.2.2.2.2.2.2.2.2.2.1⟩, ⟨⟨(h.2.2 c2).1.2.2.2.2.2.2.2.2.2.2.2.2.2.2.2.2.1, (h.2.2 c2).1.2.2.2.2.2.2.2.2.2.2.2.2.2.2.2.2.2⟩, (h.2.2 c2).2⟩⟩⟩⟩⟩⟩⟩⟩⟩⟩⟩⟩⟩⟩⟩⟩⟩⟩)

theorem c_M_differenceAt (d : Nat) {lv t N : Nat} {σ : am_S} {K : Int → am_S → Prop} (hF : MF σ) (hlv : lv < 14) (ht : t < 10000) (hN : N ≤ 12) (hv : TVt (sI σ 33) (sI σ 34) (sI σ 35) N t) (hs : ∀ q, q < N → -1 ≤ sI σ 66 (12 * lv + q) ∧ sI σ 66 (12 * lv + q) ≤ 1) (h : K (df (VL σ 66 lv) (sI σ 33) (sI σ 34) (sI σ 35) t) σ) : am_Calls PP MLL (d + 1) m_M_differenceAt [qr (31, 12, 89), qi (lv : Int), qi (t : Int)] σ (kI K) := by
  obtain ⟨v1, v2, v3⟩ := hv
  have st : ∀ i : Nat, (i : Int) < sI σ 33 t → -1 ≤ VL σ 66 lv (sI σ 34 (3 * t + i)).toNat * sI σ 35 (3 * t + i) ∧ VL σ 66 lv (sI σ 34 (3 * t + i)).toNat * sI σ 35 (3 * t + i) ≤ 1 := by
    intro i hi
    obtain ⟨a1, a2, a3⟩ := v3 i hi
    exact mul_pm (hs _ (by omega)) a3
  have lp0 : ∀ i : Nat, i ≤ (sI σ 33 t).toNat → am_Runs PP MLL d m_M_differenceAt 4 [some (qr (31, 12, 89)), some (qi (lv : Int)), some (qi (t : Int)), some (qi (sm (fun i => VL σ 66 lv (sI σ 34 (3 * t + i)).toNat * sI σ 35 (3 * t + i)) i)), some (qi (i : Int))] [] σ (kI K) := by
    refine lp ?_ ?_
    · refine v_M_differenceAt_4 d lv t _ _ σ K hF ⟨by omega, fun _ => h, fun c => absurd (by rw [Int.toNat_natCast]; omega) c⟩
    · intro i hi ih
      obtain ⟨a1, a2, a3⟩ := v3 i (by omega)
      have b := st i (by omega)
      have hb := sm_abs (f := fun i => VL σ 66 lv (sI σ 34 (3 * t + i)).toNat * sI σ 35 (3 * t + i)) (c := 1) i (fun j hj => st j (by omega))
      refine v_M_differenceAt_4 d lv t _ _ σ K hF ⟨by omega, fun c => absurd c (by rw [Int.toNat_natCast]; omega), fun _ => ?_⟩
      rw [show Int.toNat (3 * (t : Int) + (i : Int)) = 3 * t + i by omega, show Int.toNat (12 * (lv : Int) + sI σ 34 (3 * t + i)) = 12 * lv + (sI σ 34 (3 * t + i)).toNat by omega]
      have e : sI σ 66 (12 * lv + (sI σ 34 (3 * t + i)).toNat) = VL σ 66 lv (sI σ 34 (3 * t + i)).toNat := rfl
      rw [e]
      exact ⟨by omega, ih⟩
  exact v_M_differenceAt_0 d lv t σ K hF (lp0 0 (Nat.zero_le _))
def ownM (σ : am_S) (ob : Nat) : Int := if sI σ 41 ob = 6 then oqA (fun i => mo (sI σ 41 (mmb σ ob i))) 0 (sI σ 47 ob).toNat else mo (sI σ 41 ob)
/-- the reference's cells of a search -/
def MX (σ : am_S) (X : sX) (ob n : Nat) (tr : Nat → Nat) : Prop := XV X ∧ sI σ 31 2 = xN X ∧ sI σ 31 40 = xM X ∧ SWP σ X ∧ (∀ s, s < xM X → sI σ 51 s = tr s ∧ tr s < 10000 ∧ TVt (sI σ 33) (sI σ 34) (sI σ 35) (xN X) (tr s)) ∧ (∀ f s, xD X f s = df f (sI σ 33) (sI σ 34) (sI σ 35) (tr s)) ∧ sI σ 31 36 = ob ∧ ob < n ∧ n ≤ 12 ∧ QV σ n ∧ (∀ k, xK X k = sI σ 41 (wr σ ob k)) ∧ xL X = sI σ 31 4 ∧ xO X = 2 * ownM σ ob + 1 ∧ sI σ 31 26 = 0

theorem v_M_makeCase_0 (d : Nat) (p1 p2 p3 : Int) (σ : am_S) (K : am_S → Prop) (hF : MF σ) (hT : sI σ 31 26 = 0) (h :
  (0 ≤ p1 ∧ p1 < 14) ∧
  (0 ≤ (sI σ 31 36) ∧ (sI σ 31 36) < 12) ∧
  ((((sI σ 41 (Int.toNat (sI σ 31 36))) = 6) → -2147483648 ≤ 3 * (sI σ 31 36)) ∧ (((sI σ 41 (Int.toNat (sI σ 31 36))) = 6) → 3 * (sI σ 31 36) < 2147483648) ∧ (((sI σ 41 (Int.toNat (sI σ 31 36))) = 6) → (sI σ 47 (Int.toNat (sI σ 31 36))) ≠ 0) ∧ (((sI σ 41 (Int.toNat (sI σ 31 36))) = 6) → -2147483648 ≤ (3 * (sI σ 31 36)) + (Int.tmod (sI σ 55 (Int.toNat p1)) (sI σ 47 (Int.toNat (sI σ 31 36))))) ∧ (((sI σ 41 (Int.toNat (sI σ 31 36))) = 6) → (3 * (sI σ 31 36)) + (Int.tmod (sI σ 55 (Int.toNat p1)) (sI σ 47 (Int.toNat (sI σ 31 36)))) < 2147483648) ∧ (((sI σ 41 (Int.toNat (sI σ 31 36))) = 6) → 0 ≤ ((3 * (sI σ 31 36)) + (Int.tmod (sI σ 55 (Int.toNat p1)) (sI σ 47 (Int.toNat (sI σ 31 36)))))) ∧ (((sI σ 41 (Int.toNat (sI σ 31 36))) = 6) → ((3 * (sI σ 31 36)) + (Int.tmod (sI σ 55 (Int.toNat p1)) (sI σ 47 (Int.toNat (sI σ 31 36))))) < 36)) ∧
  (0 ≤ (if (sI σ 41 (Int.toNat (sI σ 31 36))) = 6 then (sI σ 46 (Int.toNat ((3 * (sI σ 31 36)) + (Int.tmod (sI σ 55 (Int.toNat p1)) (sI σ 47 (Int.toNat (sI σ 31 36)))))) : Int) else (sI σ 31 36)) ∧ (if (sI σ 41 (Int.toNat (sI σ 31 36))) = 6 then (sI σ 46 (Int.toNat ((3 * (sI σ 31 36)) + (Int.tmod (sI σ 55 (Int.toNat p1)) (sI σ 47 (Int.toNat (sI σ 31 36)))))) : Int) else (sI σ 31 36)) < 12) ∧
  am_Runs PP MLL (d + 3) m_M_makeCase 12 [some (qr (31, 12, 89)), some (qi p1), some (qi p2), some (qi p3), some (qi (sI σ 41 (Int.toNat (if (sI σ 41 (Int.toNat (sI σ 31 36))) = 6 then (sI σ 46 (Int.toNat ((3 * (sI σ 31 36)) + (Int.tmod (sI σ 55 (Int.toNat p1)) (sI σ 47 (Int.toNat (sI σ 31 36)))))) : Int) else (sI σ 31 36))))), some (qi 0), none, none] [] σ (kV K)) : am_Runs PP MLL (d + 3) m_M_makeCase 0 [some (qr (31, 12, 89)), some (qi p1), some (qi p2), some (qi p3), none, none, none, none] [] σ (kV K) := am_wEC_ok (orc [(1, 41, 20, 12), (4, 55, 20, 14)]) [61] 200 (⟨⟨rfl, (hF 17)⟩, ⟨⟨rfl, (hF 45)⟩, ⟨⟨rfl, h.1.1, h.1.2⟩, ⟨rfl, am_wEC_ok (orc [(1, 41, 20, 12), (8, 46, 20, 36), (15, 47, 20, 12)]) [25] 200 (⟨⟨rfl, (hF 17)⟩, ⟨rfl, ⟨⟨rfl, h.2.1.1, h.2.1.2⟩, am_use (fun H2 => ⟨fun c1 => ⟨⟨rfl, (hF 22)⟩, ⟨rfl, ⟨⟨(h.2.2.1.1 c1), (h.2.2.1.2.1 c1)⟩, ⟨⟨rfl, (hF 23)⟩, ⟨rfl, ⟨⟨rfl, h.2.1.1, h.2.1.2⟩, ⟨(h.2.2.1.2.2.1 c1), ⟨⟨(h.2.2.1.2.2.2.1 c1), (h.2.2.1.2.2.2.2.1 c1)⟩, ⟨⟨rfl, (h.2.2.1.2.2.2.2.2.1 c1), (h.2.2.1.2.2.2.2.2.2 c1)⟩, (Eq.mp (congrArg (fun z => am_Runs _ _ _ _ _ _ (qi z :: _) _ _) (if_pos c1 : (if (sI σ 41 (Int.toNat (sI σ 31 36))) = 6 then (sI σ 46 (Int.toNat ((3 * (sI σ 31 36)) + (Int.tmod (sI σ 55 (Int.toNat p1)) (sI σ 47 (Int.toNat (sI σ 31 36)))))) : Int) else sI σ 31 36) = sI σ 46 (Int.toNat ((3 * (sI σ 31 36)) + (Int.tmod (sI σ 55 (Int.toNat p1)) (sI σ 47 (Int.toNat (sI σ 31 36)))))))) H2)⟩⟩⟩⟩⟩⟩⟩⟩⟩, fun c1 => ⟨rfl, (Eq.mp (congrArg (fun z => am_Runs _ _ _ _ _ _ (qi z :: _) _ _) (if_neg c1 : (if (sI σ 41 (Int.toNat (sI σ 31 36))) = 6 then (sI σ 46 (Int.toNat ((3 * (sI σ 31 36)) + (Int.tmod (sI σ 55 (Int.toNat p1)) (sI σ 47 (Int.toNat (sI σ 31 36)))))) : Int) else sI σ 31 36) = sI σ 31 36)) H2)⟩⟩) (am_wEC_ok (orc []) [25] 200 (⟨⟨rfl, h.2.2.2.1.1, h.2.2.2.1.2⟩, h.2.2.2.2⟩))⟩⟩⟩)⟩⟩⟩⟩)

theorem v_M_makeCase_12 (d : Nat) (p1 p2 p3 v4 v5 : Int) (z6 z7 : Option am_V) (σ : am_S) (K : am_S → Prop) (hF : MF σ) (hT : sI σ 31 26 = 0) (h :
  (((sI σ 31 40) ≤ v5 →
    (0 ≤ p1 ∧ p1 < 14 ∧ -2147483648 ≤ (sI σ 54 (Int.toNat p1)) - 1 ∧ (sI σ 54 (Int.toNat p1)) - 1 < 2147483648 ∧ 0 ≤ p2 ∧ p2 < 14 ∧ -2147483648 ≤ (sI σ 55 (Int.toNat p1)) + 1 ∧ (sI σ 55 (Int.toNat p1)) + 1 < 2147483648) ∧
    K (putI (putI σ 54 (Int.toNat p2) ((sI σ 54 (Int.toNat p1)) - 1)) 55 (Int.toNat p2) ((sI σ 55 (Int.toNat p1)) + 1))) ∧
  (¬ ((sI σ 31 40) ≤ v5) →
    (-2147483648 ≤ 60 * p1 ∧ 60 * p1 < 2147483648 ∧ -2147483648 ≤ (60 * p1) + v5 ∧ (60 * p1) + v5 < 2147483648 ∧ 0 ≤ ((60 * p1) + v5) ∧ ((60 * p1) + v5) < 840) ∧
    ((0 ≤ (sI σ 53 (Int.toNat ((60 * p1) + v5))) →
      (0 ≤ v5 ∧ v5 < 60) ∧
      am_Calls PP MLL (d + 3) m_M_differenceAt [qr (31, 12, 89), qi p1, qi (sI σ 51 (Int.toNat v5))] σ (kI fun x6 s6 =>
        (MF s6 ∧ sI s6 31 26 = 0) ∧
        (-100 ≤ x6 ∧ x6 ≤ 100) ∧
        (-2147483648 ≤ 60 * p2 ∧ 60 * p2 < 2147483648 ∧ -2147483648 ≤ (60 * p2) + v5 ∧ (60 * p2) + v5 < 2147483648) ∧
        ((¬ ((ft v4 x6 p3 (sI σ 53 (Int.toNat ((60 * p1) + v5))) (sI s6 31 4)) = 0) → (((ft v4 x6 p3 (sI σ 53 (Int.toNat ((60 * p1) + v5))) (sI s6 31 4)) = 2) → -2147483648 ≤ (sI σ 53 (Int.toNat ((60 * p1) + v5))) + 1)) ∧ (¬ ((ft v4 x6 p3 (sI σ 53 (Int.toNat ((60 * p1) + v5))) (sI s6 31 4)) = 0) → (((ft v4 x6 p3 (sI σ 53 (Int.toNat ((60 * p1) + v5))) (sI s6 31 4)) = 2) → (sI σ 53 (Int.toNat ((60 * p1) + v5))) + 1 < 2147483648))) ∧
        (0 ≤ ((60 * p2) + v5) ∧ ((60 * p2) + v5) < 840 ∧ -2147483648 ≤ v5 + 1 ∧ v5 + 1 < 2147483648) ∧
        am_Runs PP MLL (d + 3) m_M_makeCase 12 [some (qr (31, 12, 89)), some (qi p1), some (qi p2), some (qi p3), some (qi v4), some (qi (v5 + 1)), some (qi (sI σ 53 (Int.toNat ((60 * p1) + v5)))), some (qi (ft v4 x6 p3 (sI σ 53 (Int.toNat ((60 * p1) + v5))) (sI s6 31 4)))] [] (putI s6 53 (Int.toNat ((60 * p2) + v5)) (if (ft v4 x6 p3 (sI σ 53 (Int.toNat ((60 * p1) + v5))) (sI s6 31 4)) = 0 then ((-1) : Int) else (if (ft v4 x6 p3 (sI σ 53 (Int.toNat ((60 * p1) + v5))) (sI s6 31 4)) = 2 then ((sI σ 53 (Int.toNat ((60 * p1) + v5))) + 1 : Int) else (sI σ 53 (Int.toNat ((60 * p1) + v5)))))) (kV K))) ∧
    (¬ (0 ≤ (sI σ 53 (Int.toNat ((60 * p1) + v5)))) →
      (-2147483648 ≤ 60 * p2 ∧ 60 * p2 < 2147483648 ∧ -2147483648 ≤ (60 * p2) + v5 ∧ (60 * p2) + v5 < 2147483648) ∧
      (0 ≤ ((60 * p2) + v5) ∧ ((60 * p2) + v5) < 840 ∧ -2147483648 ≤ v5 + 1 ∧ v5 + 1 < 2147483648) ∧
      am_Runs PP MLL (d + 3) m_M_makeCase 12 [some (qr (31, 12, 89)), some (qi p1), some (qi p2), some (qi p3), some (qi v4), some (qi (v5 + 1)), some (qi (sI σ 53 (Int.toNat ((60 * p1) + v5)))), some (qi 0)] [] (putI σ 53 (Int.toNat ((60 * p2) + v5)) (-1)) (kV K)))))) : am_Runs PP MLL (d + 3) m_M_makeCase 12 [some (qr (31, 12, 89)), some (qi p1), some (qi p2), some (qi p3), some (qi v4), some (qi v5), z6, z7] [] σ (kV K) := am_wEC_ok (orc [(17, 53, 20, 840), (34, 51, 20, 60), (43, 53, 20, 840), (65, 54, 20, 14), (68, 54, 20, 14), (75, 55, 20, 14), (78, 55, 20, 14)]) [61] 200 (⟨rfl, ⟨fun c3 => ⟨⟨rfl, (hF 44)⟩, ⟨⟨rfl, (hF 44)⟩, ⟨⟨rfl, (h.1 c3).1.1, (h.1 c3).1.2.1⟩, ⟨⟨(h.1 c3).1.2.2.1, (h.1 c3).1.2.2.2.1⟩, ⟨⟨rfl, (h.1 c3).1.2.2.2.2.1, (h.1 c3).1.2.2.2.2.2.1⟩, ⟨⟨rfl, (hF 45)⟩, ⟨⟨rfl, (hF 45)⟩, ⟨⟨rfl, (h.1 c3).1.1, (h.1 c3).1.2.1⟩, ⟨⟨(h.1 c3).1.2.2.2.2.2.2.1, (h.1 c3).1.2.2.2.2.2.2.2⟩, ⟨⟨rfl, (h.1 c3).1.2.2.2.2.1, (h.1 c3).1.2.2.2.2.2.1⟩, (h.1 c3).2⟩⟩⟩⟩⟩⟩⟩⟩⟩⟩, fun c3 => ⟨⟨rfl, (hF 43)⟩, ⟨⟨(h.2 c3).1.1, (h.2 c3).1.2.1⟩, ⟨⟨(h.2 c3).1.2.2.1, (h.2 c3).1.2.2.2.1⟩, ⟨⟨rfl, (h.2 c3).1.2.2.2.2.1, (h.2 c3).1.2.2.2.2.2⟩, ⟨fun c5 => ⟨⟨rfl, (hF 41)⟩, ⟨⟨rfl, ((h.2 c3).2.1 c5).1.1, ((h.2 c3).2.1 c5).1.2⟩, ⟨rfl, (am_cI ((h.2 c3).2.1 c5).2 fun x6 s6 h6 => ⟨rfl, c_M_fits _ h6.1.1 h6.1.2 h6.2.1 (⟨⟨rfl, (h6.1.1 43)⟩, ⟨⟨h6.2.2.1.1, h6.2.2.1.2.1⟩, ⟨⟨h6.2.2.1.2.2.1, h6.2.2.1.2.2.2⟩, am_use (fun H9 => ⟨fun c7 => (Eq.mp (congrArg (fun z => am_Runs _ _ _ _ _ _ (qi z :: _) _ _) (if_pos c7 : (if (ft v4 x6 p3 (sI σ 53 (Int.toNat ((60 * p1) + v5))) (sI s6 31 4)) = 0 then ((-1) : Int) else if (ft v4 x6 p3 (sI σ 53 (Int.toNat ((60 * p1) + v5))) (sI s6 31 4)) = 2 then ((sI σ 53 (Int.toNat ((60 * p1) + v5))) + 1 : Int) else (sI σ 53 (Int.toNat ((60 * p1) + v5)))) = (-1))) H9), fun c7 => ⟨fun c8 => ⟨⟨((h6.2.2.2.1.1 c7) c8), ((h6.2.2.2.1.2 c7) c8)⟩, (Eq.mp (congrArg (fun z => am_Runs _ _ _ _ _ _ (qi z :: _) _ _) (Eq.trans (if_neg c7 : (if (ft v4 x6 p3 (sI σ 53 (Int.toNat ((60 * p1) + v5))) (sI s6 31 4)) = 0 then ((-1) : Int) else if (ft v4 x6 p3 (sI σ 53 (Int.toNat ((60 * p1) + v5))) (sI s6 31 4)) = 2 then ((sI σ 53 (Int.toNat ((60 * p1) + v5))) + 1 : Int) else (sI σ 53 (Int.toNat ((60 * p1) + v5)))) = if (ft v4 x6 p3 (sI σ 53 (Int.toNat ((60 * p1) + v5))) (sI s6 31 4)) = 2 then ((sI σ 53 (Int.toNat ((60 * p1) + v5))) + 1 : Int) else (sI σ 53 (Int.toNat ((60 * p1) + v5)))) (if_pos c8 : (if (ft v4 x6 p3 (sI σ 53 (Int.toNat ((60 * p1) + v5))) (sI s6 31 4)) = 2 then ((sI σ 53 (Int.toNat ((60 * p1) + v5))) + 1 : Int) else sI σ 53 (Int.toNat ((60 * p1) + v5))) = (sI σ 53 (Int.toNat ((60 * p1) + v5))) + 1))) H9)⟩, fun c8 => (Eq.mp (congrArg (fun z => am_Runs _ _ _ _ _ _ (qi z :: _) _ _) (Eq.trans (if_neg c7 : (if (ft v4 x6 p3 (sI σ 53 (Int.toNat ((60 * p1) + v5))) (sI s6 31 4)) = 0 then ((-1) : Int) else if (ft v4 x6 p3 (sI σ 53 (Int.toNat ((60 * p1) + v5))) (sI s6 31 4)) = 2 then ((sI σ 53 (Int.toNat ((60 * p1) + v5))) + 1 : Int) else (sI σ 53 (Int.toNat ((60 * p1) + v5)))) = if (ft v4 x6 p3 (sI σ 53 (Int.toNat ((60 * p1) + v5))) (sI s6 31 4)) = 2 then ((sI σ 53 (Int.toNat ((60 * p1) + v5))) + 1 : Int) else (sI σ 53 (Int.toNat ((60 * p1) + v5)))) (if_neg c8 : (if (ft v4 x6 p3 (sI σ 53 (Int.toNat ((60 * p1) + v5))) (sI s6 31 4)) = 2 then ((sI σ 53 (Int.toNat ((60 * p1) + v5))) + 1 : Int) else sI σ 53 (Int.toNat ((60 * p1) + v5))) = sI σ 53 (Int.toNat ((60 * p1) + v5))))) H9)⟩⟩) (am_wEC_ok (orc []) [61] 200 (⟨⟨rfl, h6.2.2.2.2.1.1, h6.2.2.2.2.1.2.1⟩, ⟨⟨h6.2.2.2.2.1.2.2.1, h6.2.2.2.2.1.2.2.2⟩, h6.2.2.2.2.2⟩⟩))⟩⟩⟩)⟩)⟩⟩⟩, fun c5 => ⟨⟨rfl, (hF 43)⟩, ⟨⟨((h.2 c3).2.2 c5).1.1, ((h.2 c3).2.2 c5).1.2.1⟩, ⟨⟨((h.2 c3).2.2 c5).1.2.2.1, ((h.2 c3).2.2 c5).1.2.2.2⟩, ⟨fun _ => am_wEC_ok (orc []) [61] 200 (⟨⟨rfl, ((h.2 c3).2.2 c5).2.1.1, ((h.2 c3).2.2 c5).2.1.2.1⟩, ⟨⟨((h.2 c3).2.2 c5).2.1.2.2.1, ((h.2 c3).2.2 c5).2.1.2.2.2⟩, ((h.2 c3).2.2 c5).2.2⟩⟩), fun c => absurd (by decide : (0 : Int) = 0) c⟩⟩⟩⟩⟩⟩⟩⟩⟩⟩⟩)

/-- a case made at another level -/
def MKP (σ s : am_S) (to M : Nat) (c' : Nat → Int) (n k : Int) : Prop := s.2 = σ.2 ∧ (∀ x, x ≠ 53 → x ≠ 54 → x ≠ 55 → sI s x = sI σ x) ∧ (∀ j, (j < 60 * to ∨ 60 * to + M ≤ j) → sI s 53 j = sI σ 53 j) ∧ (∀ q, q < M → sI s 53 (60 * to + q) = c' q) ∧ (∀ j, j ≠ to → sI s 54 j = sI σ 54 j ∧ sI s 55 j = sI σ 55 j) ∧ sI s 54 to = n ∧ sI s 55 to = k
theorem c_M_makeCase (d : Nat) {lv to k ob n : Nat} {X : sX} {c f : Nat → Int} {o : Int} {tr : Nat → Nat} {σ : am_S} {K : am_S → Prop} (hF : MF σ) (hX : MX σ X ob n tr) (hlv : lv < 14) (hto : to < 14) (hne : to ≠ lv) (hk : sI σ 55 lv = k) (hk2 : k ≤ 100) (hN : 0 ≤ sI σ 54 lv ∧ sI σ 54 lv ≤ 100) (hc : LC σ lv X c) (hf : ∀ q, q < xN X → sI σ 66 (12 * lv + q) = f q ∧ -1 ≤ f q ∧ f q ≤ 1)
    (h : ∀ s, MKP σ s to (xM X) (mkc X c k f o) (sI σ 54 lv - 1) (k + 1) → K s) : am_Calls PP MLL (d + 4) m_M_makeCase [qr (31, 12, 89), qi (lv : Int), qi (to : Int), qi o] σ (kV K) := by
  obtain ⟨xv, x2, x40, xs, xt, xd, x36, xo, xn, xq, xk, xl, xO, x26⟩ := hX
  have hM60 := xv.2.1
  have hN12 := xv.1
  have wl := wr_lt (turn := k) xq xo
  have wg := wr_gd (t := k) xq xo hk
  refine v_M_makeCase_0 d lv to o σ K hF x26 ?_
  rw [x36, Int.toNat_natCast, Int.toNat_natCast, wr_eq xq xo hk, Int.toNat_natCast, ← xk k]
  refine ⟨by omega, by omega, ⟨fun q => by omega, fun q => by omega, fun q => (wg q).1, fun q => by have := wg q; omega, fun q => by have := wg q; omega, fun q => by have := wg q; omega, fun q => by have := wg q; omega⟩, by omega, ?_⟩
  have lp0 : ∀ i : Nat, i ≤ xM X → ∀ s z6 z7, s.2 = σ.2 → (∀ x, x ≠ 53 → sI s x = sI σ x) → (∀ j, (j < 60 * to ∨ 60 * to + xM X ≤ j) → sI s 53 j = sI σ 53 j) → (∀ q, q < i → sI s 53 (60 * to + q) = mkc X c k f o q) → am_Runs PP MLL (d + 3) m_M_makeCase 12 [some (qr (31, 12, 89)), some (qi (lv : Int)), some (qi (to : Int)), some (qi o), some (qi (xK X k)), some (qi (i : Int)), z6, z7] [] s (kV K) := by
    refine lp ?_ ?_
    · intro s z6 z7 s1 s2 s3 s4
      have h26 : sI s 31 26 = 0 := by rw [s2 31 (by decide)]; exact x26
      refine v_M_makeCase_12 d lv to o _ _ z6 z7 s K (MF_2 s1 hF) h26 ⟨fun _ => ?_, fun c => absurd ?_ c⟩
      · rw [Int.toNat_natCast, Int.toNat_natCast, s2 54 (by decide), s2 55 (by decide), hk]
        refine ⟨by omega, h _ ⟨s1, fun x x1 x2 x3 => by rw [put_ne x3, put_ne x2, s2 x x1], fun j hj => by rw [put_ne (by decide), put_ne (by decide)]; exact s3 j hj, fun q hq => by rw [put_ne (by decide), put_ne (by decide)]; exact s4 q hq, fun j hj => ?_, ?_, ?_⟩⟩
        · rw [put_ne (show 54 ≠ 55 by decide), put_at, if_neg hj, put_at, if_neg hj, put_ne (show 55 ≠ 54 by decide), s2 54 (by decide), s2 55 (by decide)]
          exact ⟨rfl, rfl⟩
        · rw [put_ne (by decide), put_at, if_pos rfl]
        · rw [put_at, if_pos rfl]
      · rw [s2 31 (by decide)]
        omega
    · intro i hi ih s z6 z7 s1 s2 s3 s4
      have h26 : sI s 31 26 = 0 := by rw [s2 31 (by decide)]; exact x26
      obtain ⟨c1, c2, c3⟩ := hc i hi
      obtain ⟨t1, t2, t3⟩ := xt i hi
      have hsF := MF_2 s1 hF
      have e53 : sI s 53 (60 * lv + i) = c i := by rw [s3 _ (by omega)]; exact c1
      refine v_M_makeCase_12 d lv to o _ _ z6 z7 s K hsF h26 ⟨fun c => absurd c (by rw [s2 31 (by decide)]; omega), fun _ => ?_⟩
      rw [show Int.toNat (60 * (lv : Int) + (i : Int)) = 60 * lv + i by omega, show Int.toNat (60 * (to : Int) + (i : Int)) = 60 * to + i by omega, Int.toNat_natCast, e53, s2 51 (by decide), t1]
      refine ⟨by omega, fun q1 => ⟨by omega, ?_⟩, fun q1 => ⟨by omega, by omega, ?_⟩⟩
      · have hsd : ∀ q, q < xN X → VL s 66 lv q = f q := fun q hq => by
          show sI s 66 (12 * lv + q) = f q
          rw [s2 66 (by decide)]
          exact (hf q hq).1
        refine c_M_differenceAt (d + 2) (N := xN X) hsF hlv t2 hN12 (by rw [s2 33 (by decide), s2 34 (by decide), s2 35 (by decide)]; exact t3) (fun q hq => by rw [show sI s 66 (12 * lv + q) = f q from hsd q hq]; exact (hf q hq).2) ⟨⟨hsF, h26⟩, ?_⟩
        have ed : df (VL s 66 lv) (sI s 33) (sI s 34) (sI s 35) (tr i) = xD X f i := by
          rw [s2 33 (by decide), s2 34 (by decide), s2 35 (by decide), ← xd (VL s 66 lv) i]
          exact xv.2.2.2.2.1 _ _ _ hsd
        have xb : ∀ c, -1 ≤ (fun q => if q < xN X then f q else 0) c ∧ (fun q => if q < xN X then f q else 0) c ≤ 1 := by
          intro q
          dsimp only
          split
          · rename_i hq; exact (hf q hq).2
          · omega
        have dbd := xv.2.2.2.1 (fun q => if q < xN X then f q else 0) i xb hi
        have ed2 : xD X (fun q => if q < xN X then f q else 0) i = xD X f i := xv.2.2.2.2.1 _ _ _ (fun q hq => if_pos hq)
        rw [ed2] at dbd
        rw [ed, s2 31 (by decide), ← xl]
        obtain ⟨F, hFt⟩ : ∃ F, F = ft (xK X k) (xD X f i) o (c i) (xL X) := ⟨_, rfl⟩
        have em : mkc X c k f o i = if F = 0 then -1 else if F = 2 then c i + 1 else c i := by
          unfold mkc
          rw [if_neg (by omega), lb_ft, hFt]
        rw [← hFt, ← em]
        refine ⟨by omega, by omega, ⟨fun _ _ => by omega, fun _ _ => by omega⟩, by omega, ?_⟩
        refine ih _ _ _ s1 (fun x hx => by rw [put_ne hx]; exact s2 x hx) (fun j hj => by rw [put_at, if_neg (by omega)]; exact s3 j hj) (fun q hq => ?_)
        rw [put_at]
        by_cases e : q = i
        · rw [if_pos (by omega), e]
        · rw [if_neg (by omega)]
          exact s4 q (by omega)
      · refine ih _ _ _ s1 (fun x hx => by rw [put_ne hx]; exact s2 x hx) (fun j hj => by rw [put_at, if_neg (by omega)]; exact s3 j hj) (fun q hq => ?_)
        rw [put_at]
        by_cases e : q = i
        · rw [if_pos (by omega), e]
          unfold mkc
          rw [if_pos (by omega)]
        · rw [if_neg (by omega)]
          exact s4 q (by omega)
  exact lp0 0 (Nat.zero_le _) σ _ _ rfl (fun _ _ => rfl) (fun _ _ => rfl) (fun q hq => absurd hq (Nat.not_lt_zero q))
theorem v_M_ownMost_0 (d : Nat) (σ : am_S) (K : Int → am_S → Prop) (hF : MF σ) (hT : sI σ 31 26 = 0) (h :
  (0 ≤ (sI σ 31 36) ∧ (sI σ 31 36) < 12) ∧
  am_Runs PP MLL (d + 2) m_M_ownMost 19 [some (qr (31, 12, 89)), some (qi 0), some (qi (if (sI σ 41 (Int.toNat (sI σ 31 36))) = 6 then (sI σ 47 (Int.toNat (sI σ 31 36)) : Int) else 1)), some (qi 0), none] [] σ (kI K)) : am_Runs PP MLL (d + 2) m_M_ownMost 0 [some (qr (31, 12, 89)), none, none, none, none] [] σ (kI K) := am_wEC_ok (orc [(3, 41, 20, 12), (10, 47, 20, 12)]) [16, 44, 53] 200 (⟨⟨rfl, (hF 17)⟩, ⟨rfl, ⟨⟨rfl, h.1.1, h.1.2⟩, am_use (fun H2 => ⟨fun c1 => ⟨⟨rfl, (hF 23)⟩, ⟨rfl, ⟨⟨rfl, h.1.1, h.1.2⟩, (Eq.mp (congrArg (fun z => am_Runs _ _ _ _ _ _ (qi z :: _) _ _) (if_pos c1 : (if (sI σ 41 (Int.toNat (sI σ 31 36))) = 6 then (sI σ 47 (Int.toNat (sI σ 31 36)) : Int) else 1) = sI σ 47 (Int.toNat (sI σ 31 36)))) H2)⟩⟩⟩, fun c1 => (Eq.mp (congrArg (fun z => am_Runs _ _ _ _ _ _ (qi z :: _) _ _) (if_neg c1 : (if (sI σ 41 (Int.toNat (sI σ 31 36))) = 6 then (sI σ 47 (Int.toNat (sI σ 31 36)) : Int) else 1) = 1)) H2)⟩) (am_wEC_ok (orc []) [16, 44, 53] 200 (h.2))⟩⟩⟩)

theorem v_M_ownMost_19 (d : Nat) (v1 v2 v3 : Int) (z4 : Option am_V) (σ : am_S) (K : Int → am_S → Prop) (hF : MF σ) (hT : sI σ 31 26 = 0) (h :
  ((v2 ≤ v3 →
    K v1 σ) ∧
  (¬ (v2 ≤ v3) →
    (0 ≤ (sI σ 31 36) ∧ (sI σ 31 36) < 12) ∧
    ((((sI σ 41 (Int.toNat (sI σ 31 36))) = 6) → -2147483648 ≤ 3 * (sI σ 31 36)) ∧ (((sI σ 41 (Int.toNat (sI σ 31 36))) = 6) → 3 * (sI σ 31 36) < 2147483648) ∧ (((sI σ 41 (Int.toNat (sI σ 31 36))) = 6) → -2147483648 ≤ (3 * (sI σ 31 36)) + v3) ∧ (((sI σ 41 (Int.toNat (sI σ 31 36))) = 6) → (3 * (sI σ 31 36)) + v3 < 2147483648) ∧ (((sI σ 41 (Int.toNat (sI σ 31 36))) = 6) → 0 ≤ ((3 * (sI σ 31 36)) + v3)) ∧ (((sI σ 41 (Int.toNat (sI σ 31 36))) = 6) → ((3 * (sI σ 31 36)) + v3) < 36)) ∧
    (0 ≤ (if (sI σ 41 (Int.toNat (sI σ 31 36))) = 6 then (sI σ 46 (Int.toNat ((3 * (sI σ 31 36)) + v3)) : Int) else (sI σ 31 36)) ∧ (if (sI σ 41 (Int.toNat (sI σ 31 36))) = 6 then (sI σ 46 (Int.toNat ((3 * (sI σ 31 36)) + v3)) : Int) else (sI σ 31 36)) < 12) ∧
    (-2147483648 ≤ v3 + 1 ∧ v3 + 1 < 2147483648) ∧
    am_Runs PP MLL (d + 2) m_M_ownMost 19 [some (qr (31, 12, 89)), some (qi (if (mo (sI σ 41 (Int.toNat (if (sI σ 41 (Int.toNat (sI σ 31 36))) = 6 then (sI σ 46 (Int.toNat ((3 * (sI σ 31 36)) + v3)) : Int) else (sI σ 31 36))))) ≤ v1 then (v1 : Int) else (mo (sI σ 41 (Int.toNat (if (sI σ 41 (Int.toNat (sI σ 31 36))) = 6 then (sI σ 46 (Int.toNat ((3 * (sI σ 31 36)) + v3)) : Int) else (sI σ 31 36))))))), some (qi v2), some (qi (v3 + 1)), some (qi (mo (sI σ 41 (Int.toNat (if (sI σ 41 (Int.toNat (sI σ 31 36))) = 6 then (sI σ 46 (Int.toNat ((3 * (sI σ 31 36)) + v3)) : Int) else (sI σ 31 36))))))] [] σ (kI K)))) : am_Runs PP MLL (d + 2) m_M_ownMost 19 [some (qr (31, 12, 89)), some (qi v1), some (qi v2), some (qi v3), z4] [] σ (kI K) := am_wEC_ok (orc [(24, 41, 20, 12), (26, 41, 20, 12), (33, 46, 20, 36)]) [16, 44, 53] 200 (⟨fun c3 => (h.1 c3), fun c3 => ⟨⟨rfl, (hF 17)⟩, ⟨⟨rfl, (hF 17)⟩, ⟨rfl, ⟨⟨rfl, (h.2 c3).1.1, (h.2 c3).1.2⟩, am_use (fun H7 => ⟨fun c4 => ⟨⟨rfl, (hF 22)⟩, ⟨rfl, ⟨⟨((h.2 c3).2.1.1 c4), ((h.2 c3).2.1.2.1 c4)⟩, ⟨⟨((h.2 c3).2.1.2.2.1 c4), ((h.2 c3).2.1.2.2.2.1 c4)⟩, ⟨⟨rfl, ((h.2 c3).2.1.2.2.2.2.1 c4), ((h.2 c3).2.1.2.2.2.2.2 c4)⟩, (Eq.mp (congrArg (fun z => am_Runs _ _ _ _ _ _ (qi z :: _) _ _) (if_pos c4 : (if (sI σ 41 (Int.toNat (sI σ 31 36))) = 6 then (sI σ 46 (Int.toNat ((3 * (sI σ 31 36)) + v3)) : Int) else sI σ 31 36) = sI σ 46 (Int.toNat ((3 * (sI σ 31 36)) + v3)))) H7)⟩⟩⟩⟩⟩, fun c4 => ⟨rfl, (Eq.mp (congrArg (fun z => am_Runs _ _ _ _ _ _ (qi z :: _) _ _) (if_neg c4 : (if (sI σ 41 (Int.toNat (sI σ 31 36))) = 6 then (sI σ 46 (Int.toNat ((3 * (sI σ 31 36)) + v3)) : Int) else sI σ 31 36) = sI σ 31 36)) H7)⟩⟩) (am_wEC_ok (orc []) [16, 44, 53] 200 (⟨⟨rfl, (h.2 c3).2.2.1.1, (h.2 c3).2.2.1.2⟩, ⟨rfl, c_M_mostOf _ hF hT (am_use (fun H6 => ⟨fun c5 => (Eq.mp (congrArg (fun z => am_Runs _ _ _ _ _ _ (qi z :: _) _ _) (if_pos c5 : (if (mo (sI σ 41 (Int.toNat (if (sI σ 41 (Int.toNat (sI σ 31 36))) = 6 then (sI σ 46 (Int.toNat ((3 * (sI σ 31 36)) + v3)) : Int) else (sI σ 31 36))))) ≤ v1 then (v1 : Int) else mo (sI σ 41 (Int.toNat (if (sI σ 41 (Int.toNat (sI σ 31 36))) = 6 then (sI σ 46 (Int.toNat ((3 * (sI σ 31 36)) + v3)) : Int) else (sI σ 31 36))))) = v1)) H6), fun c5 => (Eq.mp (congrArg (fun z => am_Runs _ _ _ _ _ _ (qi z :: _) _ _) (if_neg c5 : (if (mo (sI σ 41 (Int.toNat (if (sI σ 41 (Int.toNat (sI σ 31 36))) = 6 then (sI σ 46 (Int.toNat ((3 * (sI σ 31 36)) + v3)) : Int) else (sI σ 31 36))))) ≤ v1 then (v1 : Int) else mo (sI σ 41 (Int.toNat (if (sI σ 41 (Int.toNat (sI σ 31 36))) = 6 then (sI σ 46 (Int.toNat ((3 * (sI σ 31 36)) + v3)) : Int) else (sI σ 31 36))))) = mo (sI σ 41 (Int.toNat (if (sI σ 41 (Int.toNat (sI σ 31 36))) = 6 then (sI σ 46 (Int.toNat ((3 * (sI σ 31 36)) + v3)) : Int) else (sI σ 31 36)))))) H6)⟩) (am_wEC_ok (orc []) [16, 44, 53] 200 (⟨⟨(h.2 c3).2.2.2.1.1, (h.2 c3).2.2.2.1.2⟩, (h.2 c3).2.2.2.2⟩)))⟩⟩))⟩⟩⟩⟩⟩)

theorem c_M_ownMost (d : Nat) {ob n : Nat} {σ : am_S} {K : Int → am_S → Prop} (hF : MF σ) (hT : sI σ 31 26 = 0) (h36 : sI σ 31 36 = ob) (hb : ob < n) (hn : n ≤ 12) (hq : QV σ n) (h : K (ownM σ ob) σ) : am_Calls PP MLL (d + 3) m_M_ownMost [qr (31, 12, 89)] σ (kI K) := by
  refine v_M_ownMost_0 d σ K hF hT ?_
  rw [h36, Int.toNat_natCast]
  refine ⟨by omega, ?_⟩
  by_cases e6 : sI σ 41 ob = 6
  · rw [if_pos e6]
    obtain ⟨q1, q2, q3⟩ := hq ob hb e6
    unfold ownM at h
    rw [if_pos e6] at h
    have lp0 : ∀ i : Nat, i ≤ (sI σ 47 ob).toNat → ∀ z4, am_Runs PP MLL (d + 2) m_M_ownMost 19 [some (qr (31, 12, 89)), some (qi (oqA (fun i => mo (sI σ 41 (mmb σ ob i))) 0 i)), some (qi (sI σ 47 ob)), some (qi (i : Int)), z4] [] σ (kI K) := by
      refine lp ?_ ?_
      · intro z4
        exact v_M_ownMost_19 d _ _ _ z4 σ K hF hT ⟨fun _ => h, fun c => absurd (by omega) c⟩
      · intro i hi ih z4
        have m := q3 i (by omega)
        refine v_M_ownMost_19 d _ _ _ z4 σ K hF hT ⟨fun c => absurd c (by omega), fun _ => ?_⟩
        rw [h36, Int.toNat_natCast, if_pos e6, show Int.toNat (3 * (ob : Int) + (i : Int)) = 3 * ob + i by omega]
        refine ⟨by omega, ⟨fun _ => by omega, fun _ => by omega, fun _ => by omega, fun _ => by omega, fun _ => by omega, fun _ => by omega⟩, by omega, by omega, ?_⟩
        have e : sI σ 41 (sI σ 46 (3 * ob + i)).toNat = sI σ 41 (mmb σ ob i) := rfl
        rw [e]
        exact ih _
    exact lp0 0 (Nat.zero_le _) _
  · rw [if_neg e6]
    unfold ownM at h
    rw [if_neg e6] at h
    refine v_M_ownMost_19 d _ _ _ none σ K hF hT ⟨fun c => absurd c (by decide), fun _ => ?_⟩
    rw [h36, Int.toNat_natCast, if_neg e6, Int.toNat_natCast]
    have m13 := mo_13 (sI σ 41 ob)
    refine ⟨by omega, ⟨fun q => absurd q e6, fun q => absurd q e6, fun q => absurd q e6, fun q => absurd q e6, fun q => absurd q e6, fun q => absurd q e6⟩, by omega, by omega, ?_⟩
    rw [if_neg (by omega)]
    exact v_M_ownMost_19 d _ _ _ _ σ K hF hT ⟨fun _ => h, fun c => absurd (by decide) c⟩
theorem v_M_isTooMuch_0 (d : Nat) (p1 p2 : Int) (σ : am_S) (K : Int → am_S → Prop) (hF : MF σ) (hT : sI σ 31 26 = 0) (h :
  am_Calls PP MLL (d + 3) m_M_ownMost [qr (31, 12, 89)] σ (kI fun x1 s1 =>
    (MF s1 ∧ sI s1 31 26 = 0) ∧
    (-2147483648 ≤ 2 * x1 ∧ 2 * x1 < 2147483648 ∧ -2147483648 ≤ (2 * x1) + 1 ∧ (2 * x1) + 1 < 2147483648) ∧
    am_Runs PP MLL (d + 3) m_M_isTooMuch 11 [some (qr (31, 12, 89)), some (qi p1), some (qi p2), some (ql 1), none, some (qi ((2 * x1) + 1)), some (qi 0)] [] s1 (kI K))) : am_Runs PP MLL (d + 3) m_M_isTooMuch 0 [some (qr (31, 12, 89)), some (qi p1), some (qi p2), none, none, none, none] [] σ (kI K) := am_wEC_ok (orc []) [37] 200 (⟨rfl, (am_cI h fun x1 s1 h1 => ⟨⟨h1.2.1.1, h1.2.1.2.1⟩, ⟨⟨h1.2.1.2.2.1, h1.2.1.2.2.2⟩, h1.2.2⟩⟩)⟩)

theorem v_M_isTooMuch_11 (d : Nat) (p1 p2 v3 v5 v6 : Int) (z4 : Option am_V) (σ : am_S) (K : Int → am_S → Prop) (hF : MF σ) (hT : sI σ 31 26 = 0) (h :
  (0 ≤ p1 ∧ p1 < 14) ∧
  (((sI σ 54 (Int.toNat p1)) ≤ v6 →
    ((if (sI σ 54 (Int.toNat p1)) = 0 then (1 : Int) else (if (a_cmp p2 v3) ≤ 0 then (0 : Int) else 1)) = 0 ∨ (if (sI σ 54 (Int.toNat p1)) = 0 then (1 : Int) else (if (a_cmp p2 v3) ≤ 0 then (0 : Int) else 1)) = 1) ∧
    K (if (sI σ 54 (Int.toNat p1)) = 0 then (1 : Int) else (if (a_cmp p2 v3) ≤ 0 then (0 : Int) else 1)) σ) ∧
  (¬ ((sI σ 54 (Int.toNat p1)) ≤ v6) →
    (-2147483648 ≤ v6 + 1 ∧ v6 + 1 < 2147483648) ∧
    am_Runs PP MLL (d + 3) m_M_isTooMuch 11 [some (qr (31, 12, 89)), some (qi p1), some (qi p2), some (ql (w64 (v3 * v5))), none, some (qi v5), some (qi (v6 + 1))] [] σ (kI K)))) : am_Runs PP MLL (d + 3) m_M_isTooMuch 11 [some (qr (31, 12, 89)), some (qi p1), some (qi p2), some (ql v3), z4, some (qi v5), some (qi v6)] [] σ (kI K) := am_wEC_ok (orc [(13, 54, 20, 14), (25, 54, 20, 14)]) [37] 200 (⟨⟨rfl, (hF 44)⟩, ⟨⟨rfl, h.1.1, h.1.2⟩, ⟨fun c2 => ⟨⟨rfl, (hF 44)⟩, ⟨⟨rfl, h.1.1, h.1.2⟩, am_use (fun H5 => ⟨fun c3 => (Eq.mp (congrArg (fun z => am_Runs _ _ _ _ _ _ (qi z :: _) _ _) (if_pos c3 : (if (sI σ 54 (Int.toNat p1)) = 0 then (1 : Int) else if (a_cmp p2 v3) ≤ 0 then (0 : Int) else 1) = 1)) H5), fun c3 => ⟨fun c4 => (Eq.mp (congrArg (fun z => am_Runs _ _ _ _ _ _ (qi z :: _) _ _) (Eq.trans (if_neg c3 : (if (sI σ 54 (Int.toNat p1)) = 0 then (1 : Int) else if (a_cmp p2 v3) ≤ 0 then (0 : Int) else 1) = if (a_cmp p2 v3) ≤ 0 then (0 : Int) else 1) (if_pos c4 : (if (a_cmp p2 v3) ≤ 0 then (0 : Int) else 1) = 0))) H5), fun c4 => (Eq.mp (congrArg (fun z => am_Runs _ _ _ _ _ _ (qi z :: _) _ _) (Eq.trans (if_neg c3 : (if (sI σ 54 (Int.toNat p1)) = 0 then (1 : Int) else if (a_cmp p2 v3) ≤ 0 then (0 : Int) else 1) = if (a_cmp p2 v3) ≤ 0 then (0 : Int) else 1) (if_neg c4 : (if (a_cmp p2 v3) ≤ 0 then (0 : Int) else 1) = 1))) H5)⟩⟩) (am_wEC_ok (orc []) [37] 200 (⟨(h.2.1 c2).1, (h.2.1 c2).2⟩))⟩⟩, fun c2 => ⟨⟨(h.2.2 c2).1.1, (h.2.2 c2).1.2⟩, (h.2.2 c2).2⟩⟩⟩⟩)

theorem xO_pow {X : sX} (h : xO X = 3 ∨ xO X = 7) {n : Nat} (hn : n ≤ 6) : 1 ≤ xO X ^ n ∧ xO X ^ n ≤ 117649 := by
  have key : ∀ n : Nat, n < 7 → (1 : Int) ≤ 3 ^ n ∧ (3 : Int) ^ n ≤ 117649 ∧ (1 : Int) ≤ 7 ^ n ∧ (7 : Int) ^ n ≤ 117649 := by decide
  have := key n (by omega)
  rcases h with e | e
  · rw [e]; exact ⟨this.1, this.2.1⟩
  · rw [e]; exact ⟨this.2.2.1, this.2.2.2⟩
theorem c_M_isTooMuch (d : Nat) {lv nn ob n : Nat} {X : sX} {c : Nat → Int} {tr : Nat → Nat} {σ : am_S} {K : Int → am_S → Prop} (hF : MF σ) (hX : MX σ X ob n tr) (hlv : lv < 14) (hN : sI σ 54 lv = nn) (hnn : nn ≤ 6) (h1 : big X nn c → K 1 σ) (h0 : ¬ big X nn c → K 0 σ) : am_Calls PP MLL (d + 4) m_M_isTooMuch [qr (31, 12, 89), qi (lv : Int), qi (mn X c)] σ (kI K) := by
  obtain ⟨xv, x2, x40, xs, xt, xd, x36, xo, xn, xq, xk, xl, xO', x26⟩ := hX
  have hO := xv.2.2.2.2.2.2
  refine v_M_isTooMuch_0 d lv _ σ K hF x26 ?_
  refine c_M_ownMost d hF x26 x36 xo xn xq ⟨⟨hF, x26⟩, ?_⟩
  rw [← xO']
  refine ⟨by omega, ?_⟩
  have hmn := mn_bd X c
  have hM := xv.2.1
  have lp0 : ∀ i : Nat, i ≤ nn → ∀ z4, am_Runs PP MLL (d + 3) m_M_isTooMuch 11 [some (qr (31, 12, 89)), some (qi (lv : Int)), some (qi (mn X c)), some (ql (xO X ^ i)), z4, some (qi (xO X)), some (qi (i : Int))] [] σ (kI K) := by
    refine lp ?_ ?_
    · intro z4
      have hp := xO_pow hO hnn
      refine v_M_isTooMuch_11 d lv _ _ _ _ z4 σ K hF x26 ⟨by omega, fun _ => ?_, fun c => absurd (by rw [Int.toNat_natCast]; omega) c⟩
      rw [Int.toNat_natCast, hN]
      have ha : (a_cmp (mn X c) (xO X ^ nn) ≤ 0) ↔ ¬ (xO X ^ nn < mn X c) := by
        unfold a_cmp
        (repeat' split) <;> omega
      by_cases e : (nn : Int) = 0
      · rw [if_pos e]
        exact ⟨Or.inr rfl, h1 (Or.inl (by omega))⟩
      · rw [if_neg e]
        by_cases e2 : xO X ^ nn < mn X c
        · rw [if_neg (fun q => (ha.mp q) e2)]
          exact ⟨Or.inr rfl, h1 (Or.inr e2)⟩
        · rw [if_pos (ha.mpr e2)]
          exact ⟨Or.inl rfl, h0 (fun q => by rcases q with q | q; omega; exact e2 q)⟩
    · intro i hi ih z4
      have hp := xO_pow hO (show i ≤ 6 by omega)
      have hp1 := xO_pow hO (show i + 1 ≤ 6 by omega)
      refine v_M_isTooMuch_11 d lv _ _ _ _ z4 σ K hF x26 ⟨by omega, fun c => absurd c (by rw [Int.toNat_natCast]; omega), fun _ => ⟨by omega, ?_⟩⟩
      have e2 : w64 (xO X ^ i * xO X) = xO X ^ (i + 1) := by
        have e3 : xO X ^ i * xO X = xO X ^ (i + 1) := (Int.pow_succ _ _).symm
        rw [e3]
        exact w64_id (by omega) (by omega)
      rw [e2]
      exact ih _
  have l0 := lp0 0 (Nat.zero_le _) none
  rw [Int.pow_zero] at l0
  exact l0
