/-! the reference: how many are left, groups -/
theorem v_M_manyAt_0 (d : Nat) (p1 : Int) (σ : am_S) (K : Int → am_S → Prop) (hF : MF σ) (h :
  am_Runs PP MLL d m_M_manyAt 4 [some (qr (31, 12, 89)), some (qi p1), some (qi 0), some (qi 0)] [] σ (kI K)) : am_Runs PP MLL d m_M_manyAt 0 [some (qr (31, 12, 89)), some (qi p1), none, none] [] σ (kI K) := am_wEC_ok (orc []) [21] 200 (h)

theorem v_M_manyAt_4 (d : Nat) (p1 v2 v3 : Int) (σ : am_S) (K : Int → am_S → Prop) (hF : MF σ) (h :
  (((sI σ 31 40) ≤ v3 →
    K v2 σ) ∧
  (¬ ((sI σ 31 40) ≤ v3) →
    (-2147483648 ≤ 60 * p1 ∧ 60 * p1 < 2147483648 ∧ -2147483648 ≤ (60 * p1) + v3 ∧ (60 * p1) + v3 < 2147483648 ∧ 0 ≤ ((60 * p1) + v3) ∧ ((60 * p1) + v3) < 840) ∧
    (-2147483648 ≤ v2 + (if (sI σ 53 (Int.toNat ((60 * p1) + v3))) < 0 then (0 : Int) else 1) ∧ v2 + (if (sI σ 53 (Int.toNat ((60 * p1) + v3))) < 0 then (0 : Int) else 1) < 2147483648 ∧ -2147483648 ≤ v3 + 1 ∧ v3 + 1 < 2147483648) ∧
    am_Runs PP MLL d m_M_manyAt 4 [some (qr (31, 12, 89)), some (qi p1), some (qi (v2 + (if (sI σ 53 (Int.toNat ((60 * p1) + v3))) < 0 then (0 : Int) else 1))), some (qi (v3 + 1))] [] σ (kI K)))) : am_Runs PP MLL d m_M_manyAt 4 [some (qr (31, 12, 89)), some (qi p1), some (qi v2), some (qi v3)] [] σ (kI K) := am_wEC_ok (orc [(10, 53, 20, 840)]) [21] 200 (⟨rfl, ⟨fun c3 => (h.1 c3), fun c3 => ⟨⟨rfl, (hF 43)⟩, ⟨⟨(h.2 c3).1.1, (h.2 c3).1.2.1⟩, ⟨⟨(h.2 c3).1.2.2.1, (h.2 c3).1.2.2.2.1⟩, ⟨⟨rfl, (h.2 c3).1.2.2.2.2.1, (h.2 c3).1.2.2.2.2.2⟩, am_use (fun H5 => ⟨fun c4 => (Eq.mp (congrArg (fun z => am_Runs _ _ _ _ _ _ (qi z :: _) _ _) (if_pos c4 : (if (sI σ 53 (Int.toNat ((60 * p1) + v3))) < 0 then (0 : Int) else 1) = 0)) H5), fun c4 => (Eq.mp (congrArg (fun z => am_Runs _ _ _ _ _ _ (qi z :: _) _ _) (if_neg c4 : (if (sI σ 53 (Int.toNat ((60 * p1) + v3))) < 0 then (0 : Int) else 1) = 1)) H5)⟩) (am_wEC_ok (orc []) [21] 200 (⟨⟨(h.2 c3).2.1.1, (h.2 c3).2.1.2.1⟩, ⟨⟨(h.2 c3).2.1.2.2.1, (h.2 c3).2.1.2.2.2⟩, (h.2 c3).2.2⟩⟩))⟩⟩⟩⟩⟩⟩)

/-- a level's case in the reference -/
def LC (σ : am_S) (lv : Nat) (X : sX) (c : Nat → Int) : Prop := ∀ s, s < xM X → sI σ 53 (60 * lv + s) = c s ∧ -1 ≤ c s ∧ c s ≤ 100
theorem mn_bd (X : sX) (c : Nat → Int) : 0 ≤ mn X c ∧ mn X c ≤ xM X := by
  have h := sm_bd (f := fun s => if 0 ≤ c s then 1 else 0) (c := 1) (xM X) (fun j _ => by split <;> omega)
  unfold mn
  omega
theorem c_M_manyAt (d : Nat) {lv : Nat} {X : sX} {c : Nat → Int} {σ : am_S} {K : Int → am_S → Prop} (hF : MF σ) (hlv : lv < 14) (hM : sI σ 31 40 = xM X) (hM2 : xM X ≤ 60) (hc : LC σ lv X c) (h : K (mn X c) σ) : am_Calls PP MLL (d + 1) m_M_manyAt [qr (31, 12, 89), qi (lv : Int)] σ (kI K) := by
  have lp0 : ∀ i : Nat, i ≤ xM X → am_Runs PP MLL d m_M_manyAt 4 [some (qr (31, 12, 89)), some (qi (lv : Int)), some (qi (sm (fun s => if 0 ≤ c s then 1 else 0) i)), some (qi (i : Int))] [] σ (kI K) := by
    refine lp ?_ ?_
    · exact v_M_manyAt_4 d lv _ _ σ K hF ⟨fun _ => h, fun c => absurd (by omega) c⟩
    · intro i hi ih
      have hb := sm_bd (f := fun s => if 0 ≤ c s then 1 else 0) (c := 1) i (fun j _ => by split <;> omega)
      obtain ⟨c1, c2, c3⟩ := hc i hi
      refine v_M_manyAt_4 d lv _ _ σ K hF ⟨fun c => absurd c (by omega), fun _ => ?_⟩
      rw [show Int.toNat (60 * (lv : Int) + (i : Int)) = 60 * lv + i by omega, c1]
      have e : sm (fun s => if 0 ≤ c s then (1 : Int) else 0) i + (if c i < 0 then (0 : Int) else 1) = sm (fun s => if 0 ≤ c s then 1 else 0) (i + 1) := by
        show _ = sm (fun s => if 0 ≤ c s then 1 else 0) i + (if 0 ≤ c i then 1 else 0)
        (repeat' split) <;> omega
      rw [e]
      have hb2 := sm_bd (f := fun s => if 0 ≤ c s then 1 else 0) (c := 1) (i + 1) (fun j _ => by split <;> omega)
      exact ⟨by omega, by omega, ih⟩
  exact v_M_manyAt_0 d lv σ K hF (lp0 0 (Nat.zero_le _))
theorem v_M_areAlike_0 (d : Nat) (p1 p2 p3 : Int) (σ : am_S) (K : Int → am_S → Prop) (hF : MF σ) (h :
  am_Runs PP MLL d m_M_areAlike 2 [some (qr (31, 12, 89)), some (qi p1), some (qi p2), some (qi p3), some (qi 0), none] [] σ (kI K)) : am_Runs PP MLL d m_M_areAlike 0 [some (qr (31, 12, 89)), some (qi p1), some (qi p2), some (qi p3), none, none] [] σ (kI K) := am_wEF_ok (orc []) 200 (h)

theorem v_M_areAlike_2 (d : Nat) (p1 p2 p3 v4 : Int) (z5 : Option am_V) (σ : am_S) (K : Int → am_S → Prop) (hF : MF σ) (h :
  (((sI σ 31 40) ≤ v4 →
    K 1 σ) ∧
  (¬ ((sI σ 31 40) ≤ v4) →
    (-2147483648 ≤ 60 * p1 ∧ 60 * p1 < 2147483648 ∧ -2147483648 ≤ (60 * p1) + v4 ∧ (60 * p1) + v4 < 2147483648 ∧ 0 ≤ ((60 * p1) + v4) ∧ ((60 * p1) + v4) < 840) ∧
    (((sI σ 53 (Int.toNat ((60 * p1) + v4))) < 0 →
      (-2147483648 ≤ v4 + 1 ∧ v4 + 1 < 2147483648) ∧
      am_Runs PP MLL d m_M_areAlike 2 [some (qr (31, 12, 89)), some (qi p1), some (qi p2), some (qi p3), some (qi (v4 + 1)), z5] [] σ (kI K)) ∧
    (¬ ((sI σ 53 (Int.toNat ((60 * p1) + v4))) < 0) →
      (-2147483648 ≤ 144 * v4 ∧ 144 * v4 < 2147483648 ∧ -2147483648 ≤ 12 * p2 ∧ 12 * p2 < 2147483648 ∧ -2147483648 ≤ (144 * v4) + (12 * p2) ∧ (144 * v4) + (12 * p2) < 2147483648 ∧ -2147483648 ≤ ((144 * v4) + (12 * p2)) + p3 ∧ ((144 * v4) + (12 * p2)) + p3 < 2147483648 ∧ 0 ≤ (((144 * v4) + (12 * p2)) + p3) ∧ (((144 * v4) + (12 * p2)) + p3) < 8640) ∧
      (((sI σ 52 (Int.toNat (((144 * v4) + (12 * p2)) + p3))) < 0 →
        K 0 σ) ∧
      (¬ ((sI σ 52 (Int.toNat (((144 * v4) + (12 * p2)) + p3))) < 0) →
        (-2147483648 ≤ (60 * p1) + (sI σ 52 (Int.toNat (((144 * v4) + (12 * p2)) + p3))) ∧ (60 * p1) + (sI σ 52 (Int.toNat (((144 * v4) + (12 * p2)) + p3))) < 2147483648 ∧ 0 ≤ ((60 * p1) + (sI σ 52 (Int.toNat (((144 * v4) + (12 * p2)) + p3)))) ∧ ((60 * p1) + (sI σ 52 (Int.toNat (((144 * v4) + (12 * p2)) + p3)))) < 840) ∧
        (((sI σ 53 (Int.toNat ((60 * p1) + (sI σ 52 (Int.toNat (((144 * v4) + (12 * p2)) + p3)))))) = (sI σ 53 (Int.toNat ((60 * p1) + v4))) →
          (-2147483648 ≤ v4 + 1 ∧ v4 + 1 < 2147483648) ∧
          am_Runs PP MLL d m_M_areAlike 2 [some (qr (31, 12, 89)), some (qi p1), some (qi p2), some (qi p3), some (qi (v4 + 1)), some (qi (sI σ 52 (Int.toNat (((144 * v4) + (12 * p2)) + p3))))] [] σ (kI K)) ∧
        (¬ ((sI σ 53 (Int.toNat ((60 * p1) + (sI σ 52 (Int.toNat (((144 * v4) + (12 * p2)) + p3)))))) = (sI σ 53 (Int.toNat ((60 * p1) + v4)))) →
          K 0 σ))))))))) : am_Runs PP MLL d m_M_areAlike 2 [some (qr (31, 12, 89)), some (qi p1), some (qi p2), some (qi p3), some (qi v4), z5] [] σ (kI K) := am_wEF_ok (orc [(7, 53, 20, 840), (16, 52, 20, 8640), (31, 53, 20, 840), (39, 53, 20, 840)]) 200 (⟨rfl, ⟨fun c1 => ⟨(Or.inr rfl), (h.1 c1)⟩, fun c1 => ⟨⟨rfl, (hF 43)⟩, ⟨⟨(h.2 c1).1.1, (h.2 c1).1.2.1⟩, ⟨⟨(h.2 c1).1.2.2.1, (h.2 c1).1.2.2.2.1⟩, ⟨⟨rfl, (h.2 c1).1.2.2.2.2.1, (h.2 c1).1.2.2.2.2.2⟩, ⟨fun c2 => ⟨⟨((h.2 c1).2.1 c2).1.1, ((h.2 c1).2.1 c2).1.2⟩, ((h.2 c1).2.1 c2).2⟩, fun c2 => ⟨⟨rfl, (hF 42)⟩, ⟨⟨((h.2 c1).2.2 c2).1.1, ((h.2 c1).2.2 c2).1.2.1⟩, ⟨⟨((h.2 c1).2.2 c2).1.2.2.1, ((h.2 c1).2.2 c2).1.2.2.2.1⟩, ⟨⟨((h.2 c1).2.2 c2).1.2.2.2.2.1, ((h.2 c1).2.2 c2).1.2.2.2.2.2.1⟩, ⟨⟨((h.2 c1).2.2 c2).1.2.2.2.2.2.2.1, ((h.2 c1).2.2 c2).1.2.2.2.2.2.2.2.1⟩, ⟨⟨rfl, ((h.2 c1).2.2 c2).1.2.2.2.2.2.2.2.2.1, ((h.2 c1).2.2 c2).1.2.2.2.2.2.2.2.2.2⟩, ⟨fun c3 => ⟨(Or.inl rfl), (((h.2 c1).2.2 c2).2.1 c3)⟩, fun c3 => ⟨⟨rfl, (hF 43)⟩, ⟨⟨(h.2 c1).1.1, (h.2 c1).1.2.1⟩, ⟨⟨(((h.2 c1).2.2 c2).2.2 c3).1.1, (((h.2 c1).2.2 c2).2.2 c3).1.2.1⟩, ⟨⟨rfl, (((h.2 c1).2.2 c2).2.2 c3).1.2.2.1, (((h.2 c1).2.2 c2).2.2 c3).1.2.2.2⟩, ⟨⟨rfl, (hF 43)⟩, ⟨⟨(h.2 c1).1.1, (h.2 c1).1.2.1⟩, ⟨⟨(h.2 c1).1.2.2.1, (h.2 c1).1.2.2.2.1⟩, ⟨⟨rfl, (h.2 c1).1.2.2.2.2.1, (h.2 c1).1.2.2.2.2.2⟩, ⟨fun c4 => ⟨⟨((((h.2 c1).2.2 c2).2.2 c3).2.1 c4).1.1, ((((h.2 c1).2.2 c2).2.2 c3).2.1 c4).1.2⟩, ((((h.2 c1).2.2 c2).2.2 c3).2.1 c4).2⟩, fun c4 => ⟨(Or.inl rfl), ((((h.2 c1).2.2 c2).2.2 c3).2.2 c4)⟩⟩⟩⟩⟩⟩⟩⟩⟩⟩⟩⟩⟩⟩⟩⟩⟩⟩⟩⟩⟩⟩⟩⟩)

/-- the images of the suspects in the reference -/
def SWP (σ : am_S) (X : sX) : Prop := ∀ s, s < xM X → ∀ a b, a < b → b < xN X → sI σ 52 (144 * s + 12 * a + b) = xW X s a b
theorem c_M_areAlike (d : Nat) {lv a b : Nat} {X : sX} {c : Nat → Int} {σ : am_S} {K : Int → am_S → Prop} (hF : MF σ) (hX : XV X) (hlv : lv < 14) (hM : sI σ 31 40 = xM X) (hc : LC σ lv X c) (hS : SWP σ X) (ha : a < b) (hb : b < xN X) (h1 : AL X c a b → K 1 σ) (h0 : ¬ AL X c a b → K 0 σ) : am_Calls PP MLL (d + 1) m_M_areAlike [qr (31, 12, 89), qi (lv : Int), qi (a : Int), qi (b : Int)] σ (kI K) := by
  have hN := hX.1
  have hM60 := hX.2.1
  have lp0 : ∀ i : Nat, i ≤ xM X → (∀ s, s < i → 0 ≤ c s → 0 ≤ xW X s a b ∧ c (xW X s a b).toNat = c s) → ∀ z5, am_Runs PP MLL d m_M_areAlike 2 [some (qr (31, 12, 89)), some (qi (lv : Int)), some (qi (a : Int)), some (qi (b : Int)), some (qi (i : Int)), z5] [] σ (kI K) := by
    refine lp ?_ ?_
    · intro hal z5
      exact v_M_areAlike_2 d lv a b _ z5 σ K hF ⟨fun _ => h1 hal, fun c => absurd (by omega) c⟩
    · intro i hi ih hal z5
      obtain ⟨c1, c2, c3⟩ := hc i hi
      have hw := hX.2.2.1 i a b
      have es := hS i hi a b ha hb
      refine v_M_areAlike_2 d lv a b _ z5 σ K hF ⟨fun c => absurd c (by omega), fun _ => ?_⟩
      rw [show Int.toNat (60 * (lv : Int) + (i : Int)) = 60 * lv + i by omega, c1, show Int.toNat (144 * (i : Int) + 12 * (a : Int) + (b : Int)) = 144 * i + 12 * a + b by omega, es]
      refine ⟨by omega, fun q1 => ⟨by omega, ?_⟩, fun q1 => ⟨by omega, fun q2 => ?_, fun q2 => ⟨by omega, ?_⟩⟩⟩
      · refine ih (fun s hs h => ?_) _
        by_cases e : s = i
        · rw [e] at h; omega
        · exact hal s (by omega) h
      · exact h0 (fun hA => by have := (hA i hi (by omega)).1; omega)
      · rw [show Int.toNat (60 * (lv : Int) + xW X i a b) = 60 * lv + (xW X i a b).toNat by omega, (hc _ (show (xW X i a b).toNat < xM X by omega)).1]
        refine ⟨fun q3 => ⟨by omega, ih (fun s hs h => ?_) _⟩, fun q3 => h0 (fun hA => q3 (hA i hi (by omega)).2)⟩
        by_cases e : s = i
        · rw [e]; exact ⟨by omega, q3⟩
        · exact hal s (by omega) h
  exact v_M_areAlike_0 d lv a b σ K hF (lp0 0 (Nat.zero_le _) (fun s hs => absurd hs (Nat.not_lt_zero s)) _)
theorem v_M_groups_0 (d : Nat) (p1 : Int) (σ : am_S) (K : am_S → Prop) (hF : MF σ) (h :
  am_Runs PP MLL (d + 1) m_M_groups 4 [some (qr (31, 12, 89)), some (qi p1), some (qi 0), some (qi 0), none, none, none, none] [] σ (kV K)) : am_Runs PP MLL (d + 1) m_M_groups 0 [some (qr (31, 12, 89)), some (qi p1), none, none, none, none, none, none] [] σ (kV K) := am_wEC_ok (orc []) [29, 57, 78] 200 (h)

theorem v_M_groups_4 (d : Nat) (p1 v2 v3 : Int) (z4 z5 z6 z7 : Option am_V) (σ : am_S) (K : am_S → Prop) (hF : MF σ) (h :
  (((sI σ 31 2) ≤ v3 →
    (0 ≤ p1 ∧ p1 < 14) ∧
    K (putI (putI (putI σ 61 (Int.toNat p1) v2) 59 (Int.toNat p1) 0) 60 (Int.toNat p1) (-1))) ∧
  (¬ ((sI σ 31 2) ≤ v3) →
    (-2147483648 ≤ v3 - 1 ∧ v3 - 1 < 2147483648) ∧
    am_Runs PP MLL (d + 1) m_M_groups 14 [some (qr (31, 12, 89)), some (qi p1), some (qi v2), some (qi v3), some (qi v2), some (qi (v3 - 1)), z6, z7] [] σ (kV K)))) : am_Runs PP MLL (d + 1) m_M_groups 4 [some (qr (31, 12, 89)), some (qi p1), some (qi v2), some (qi v3), z4, z5, z6, z7] [] σ (kV K) := am_wEC_ok (orc [(118, 61, 20, 14), (123, 59, 20, 14), (128, 60, 20, 14)]) [29, 57, 78] 200 (⟨rfl, ⟨fun c2 => ⟨⟨rfl, (hF 51)⟩, ⟨⟨rfl, (h.1 c2).1.1, (h.1 c2).1.2⟩, ⟨⟨rfl, (hF 49)⟩, ⟨⟨rfl, (h.1 c2).1.1, (h.1 c2).1.2⟩, ⟨⟨rfl, (hF 50)⟩, ⟨⟨rfl, (h.1 c2).1.1, (h.1 c2).1.2⟩, (h.1 c2).2⟩⟩⟩⟩⟩⟩, fun c2 => ⟨⟨(h.2 c2).1.1, (h.2 c2).1.2⟩, (h.2 c2).2⟩⟩⟩)

theorem v_M_groups_14 (d : Nat) (p1 v2 v3 v4 v5 : Int) (z6 z7 : Option am_V) (σ : am_S) (K : am_S → Prop) (hF : MF σ) (h :
  ((v5 < 0 →
    (-2147483648 ≤ 12 * p1 ∧ 12 * p1 < 2147483648 ∧ -2147483648 ≤ (12 * p1) + v3 ∧ (12 * p1) + v3 < 2147483648 ∧ 0 ≤ ((12 * p1) + v3) ∧ ((12 * p1) + v3) < 168) ∧
    ((v4 = v2 →
      (-2147483648 ≤ (12 * p1) + v2 ∧ (12 * p1) + v2 < 2147483648 ∧ 0 ≤ ((12 * p1) + v2) ∧ ((12 * p1) + v2) < 168 ∧ -2147483648 ≤ v2 + 1 ∧ v2 + 1 < 2147483648 ∧ -2147483648 ≤ (12 * p1) + v4 ∧ (12 * p1) + v4 < 2147483648 ∧ 0 ≤ ((12 * p1) + v4) ∧ ((12 * p1) + v4) < 168 ∧ -2147483648 ≤ (sI (putI (putI σ 62 (Int.toNat ((12 * p1) + v3)) v4) 63 (Int.toNat ((12 * p1) + v2)) 0) 63 (Int.toNat ((12 * p1) + v4))) + 1 ∧ (sI (putI (putI σ 62 (Int.toNat ((12 * p1) + v3)) v4) 63 (Int.toNat ((12 * p1) + v2)) 0) 63 (Int.toNat ((12 * p1) + v4))) + 1 < 2147483648 ∧ -2147483648 ≤ v3 + 1 ∧ v3 + 1 < 2147483648) ∧
      am_Runs PP MLL (d + 1) m_M_groups 4 [some (qr (31, 12, 89)), some (qi p1), some (qi (v2 + 1)), some (qi (v3 + 1)), some (qi v4), some (qi v5), z6, z7] [] (putI (putI (putI σ 62 (Int.toNat ((12 * p1) + v3)) v4) 63 (Int.toNat ((12 * p1) + v2)) 0) 63 (Int.toNat ((12 * p1) + v4)) ((sI (putI (putI σ 62 (Int.toNat ((12 * p1) + v3)) v4) 63 (Int.toNat ((12 * p1) + v2)) 0) 63 (Int.toNat ((12 * p1) + v4))) + 1)) (kV K)) ∧
    (¬ (v4 = v2) →
      (-2147483648 ≤ (12 * p1) + v4 ∧ (12 * p1) + v4 < 2147483648 ∧ 0 ≤ ((12 * p1) + v4) ∧ ((12 * p1) + v4) < 168 ∧ -2147483648 ≤ (sI σ 63 (Int.toNat ((12 * p1) + v4))) + 1 ∧ (sI σ 63 (Int.toNat ((12 * p1) + v4))) + 1 < 2147483648 ∧ -2147483648 ≤ v3 + 1 ∧ v3 + 1 < 2147483648) ∧
      am_Runs PP MLL (d + 1) m_M_groups 4 [some (qr (31, 12, 89)), some (qi p1), some (qi v2), some (qi (v3 + 1)), some (qi v4), some (qi v5), z6, z7] [] (putI (putI σ 62 (Int.toNat ((12 * p1) + v3)) v4) 63 (Int.toNat ((12 * p1) + v4)) ((sI σ 63 (Int.toNat ((12 * p1) + v4))) + 1)) (kV K)))) ∧
  (¬ (v5 < 0) →
    (-2147483648 ≤ 12 * p1 ∧ 12 * p1 < 2147483648 ∧ -2147483648 ≤ (12 * p1) + v5 ∧ (12 * p1) + v5 < 2147483648 ∧ 0 ≤ ((12 * p1) + v5) ∧ ((12 * p1) + v5) < 168) ∧
    am_Runs PP MLL (d + 1) m_M_groups 32 [some (qr (31, 12, 89)), some (qi p1), some (qi v2), some (qi v3), some (qi v4), some (qi v5), some (qi (if v4 ≤ (sI σ 62 (Int.toNat ((12 * p1) + v5))) then (0 : Int) else 1)), some (qi 0)] [] σ (kV K)))) : am_Runs PP MLL (d + 1) m_M_groups 14 [some (qr (31, 12, 89)), some (qi p1), some (qi v2), some (qi v3), some (qi v4), some (qi v5), z6, z7] [] σ (kV K) := am_wEC_ok (orc [(17, 62, 20, 168), (82, 62, 20, 168), (94, 63, 20, 168), (104, 63, 20, 168)]) [29, 57, 78] 200 (⟨fun c3 => ⟨⟨rfl, (hF 52)⟩, ⟨⟨(h.1 c3).1.1, (h.1 c3).1.2.1⟩, ⟨⟨(h.1 c3).1.2.2.1, (h.1 c3).1.2.2.2.1⟩, ⟨⟨rfl, (h.1 c3).1.2.2.2.2.1, (h.1 c3).1.2.2.2.2.2⟩, ⟨fun c5 => ⟨⟨rfl, (hF 53)⟩, ⟨⟨(h.1 c3).1.1, (h.1 c3).1.2.1⟩, ⟨⟨((h.1 c3).2.1 c5).1.1, ((h.1 c3).2.1 c5).1.2.1⟩, ⟨⟨rfl, ((h.1 c3).2.1 c5).1.2.2.1, ((h.1 c3).2.1 c5).1.2.2.2.1⟩, ⟨⟨((h.1 c3).2.1 c5).1.2.2.2.2.1, ((h.1 c3).2.1 c5).1.2.2.2.2.2.1⟩, ⟨⟨rfl, (hF 53)⟩, ⟨⟨(h.1 c3).1.1, (h.1 c3).1.2.1⟩, ⟨⟨((h.1 c3).2.1 c5).1.2.2.2.2.2.2.1, ((h.1 c3).2.1 c5).1.2.2.2.2.2.2.2.1⟩, ⟨⟨rfl, ((h.1 c3).2.1 c5).1.2.2.2.2.2.2.2.2.1, ((h.1 c3).2.1 c5).1.2.2.2.2.2.2.2.2.2.1⟩, ⟨⟨((h.1 c3).2.1 c5).1.2.2.2.2.2.2.2.2.2.2.1, ((h.1 c3).2.1 c5).1.2.2.2.2.2.2.2.2.2.2.2.1⟩, ⟨⟨rfl, ((h.1 c3).2.1 c5).1.2.2.2.2.2.2.2.2.1, ((h.1 c3).2.1 c5).1.2.2.2.2.2.2.2.2.2.1⟩, ⟨⟨((h.1 c3).2.1 c5).1.2.2.2.2.2.2.2.2.2.2.2.2.1, ((h.1 c3).2.1 c5).1.2.2.2.2.2.2.2.2.2.2.2.2.2⟩, ((h.1 c3).2.1 c5).2⟩⟩⟩⟩⟩⟩⟩⟩⟩⟩⟩⟩, fun c5 => ⟨⟨rfl, (hF 53)⟩, ⟨⟨(h.1 c3).1.1, (h.1 c3).1.2.1⟩, ⟨⟨((h.1 c3).2.2 c5).1.1, ((h.1 c3).2.2 c5).1.2.1⟩, ⟨⟨rfl, ((h.1 c3).2.2 c5).1.2.2.1, ((h.1 c3).2.2 c5).1.2.2.2.1⟩, ⟨⟨((h.1 c3).2.2 c5).1.2.2.2.2.1, ((h.1 c3).2.2 c5).1.2.2.2.2.2.1⟩, ⟨⟨rfl, ((h.1 c3).2.2 c5).1.2.2.1, ((h.1 c3).2.2 c5).1.2.2.2.1⟩, ⟨⟨((h.1 c3).2.2 c5).1.2.2.2.2.2.2.1, ((h.1 c3).2.2 c5).1.2.2.2.2.2.2.2⟩, ((h.1 c3).2.2 c5).2⟩⟩⟩⟩⟩⟩⟩⟩⟩⟩⟩⟩, fun c3 => ⟨⟨rfl, (hF 52)⟩, ⟨⟨(h.2 c3).1.1, (h.2 c3).1.2.1⟩, ⟨⟨(h.2 c3).1.2.2.1, (h.2 c3).1.2.2.2.1⟩, ⟨⟨rfl, (h.2 c3).1.2.2.2.2.1, (h.2 c3).1.2.2.2.2.2⟩, am_use (fun H7 => ⟨fun c6 => (Eq.mp (congrArg (fun z => am_Runs _ _ _ _ _ _ (qi z :: _) _ _) (if_pos c6 : (if v4 ≤ (sI σ 62 (Int.toNat ((12 * p1) + v5))) then (0 : Int) else 1) = 0)) H7), fun c6 => (Eq.mp (congrArg (fun z => am_Runs _ _ _ _ _ _ (qi z :: _) _ _) (if_neg c6 : (if v4 ≤ (sI σ 62 (Int.toNat ((12 * p1) + v5))) then (0 : Int) else 1) = 1)) H7)⟩) (am_wEC_ok (orc []) [29, 57, 78] 200 ((h.2 c3).2))⟩⟩⟩⟩⟩)

theorem v_M_groups_32 (d : Nat) (p1 v2 v3 v4 v5 v6 v7 : Int) (σ : am_S) (K : am_S → Prop) (hF : MF σ) (h :
  ((v5 ≤ v7 →
    ((v6 = 0 →
      (-2147483648 ≤ v5 + (-1) ∧ v5 + (-1) < 2147483648) ∧
      am_Runs PP MLL (d + 1) m_M_groups 14 [some (qr (31, 12, 89)), some (qi p1), some (qi v2), some (qi v3), some (qi v4), some (qi (v5 + (-1))), some (qi v6), some (qi v7)] [] σ (kV K)) ∧
    (¬ (v6 = 0) →
      am_Calls PP MLL (d + 1) m_M_areAlike [qr (31, 12, 89), qi p1, qi v5, qi v3] σ (kI fun x7 s7 =>
        (MF s7) ∧
        ((¬ (x7 = 0) → -2147483648 ≤ 12 * p1) ∧ (¬ (x7 = 0) → 12 * p1 < 2147483648) ∧ (¬ (x7 = 0) → -2147483648 ≤ (12 * p1) + v5) ∧ (¬ (x7 = 0) → (12 * p1) + v5 < 2147483648) ∧ (¬ (x7 = 0) → 0 ≤ ((12 * p1) + v5)) ∧ (¬ (x7 = 0) → ((12 * p1) + v5) < 168)) ∧
        (-2147483648 ≤ v5 + (-1) ∧ v5 + (-1) < 2147483648) ∧
        am_Runs PP MLL (d + 1) m_M_groups 14 [some (qr (31, 12, 89)), some (qi p1), some (qi v2), some (qi v3), some (qi (if x7 = 0 then (v4 : Int) else (sI s7 62 (Int.toNat ((12 * p1) + v5))))), some (qi (v5 + (-1))), some (qi v6), some (qi v7)] [] s7 (kV K))))) ∧
  (¬ (v5 ≤ v7) →
    ((v6 = 0 →
      (-2147483648 ≤ v5 + (-1) ∧ v5 + (-1) < 2147483648) ∧
      am_Runs PP MLL (d + 1) m_M_groups 14 [some (qr (31, 12, 89)), some (qi p1), some (qi v2), some (qi v3), some (qi v4), some (qi (v5 + (-1))), some (qi v6), some (qi v7)] [] σ (kV K)) ∧
    (¬ (v6 = 0) →
      (-2147483648 ≤ 12 * p1 ∧ 12 * p1 < 2147483648 ∧ -2147483648 ≤ (12 * p1) + v7 ∧ (12 * p1) + v7 < 2147483648 ∧ 0 ≤ ((12 * p1) + v7) ∧ ((12 * p1) + v7) < 168 ∧ -2147483648 ≤ (12 * p1) + v5 ∧ (12 * p1) + v5 < 2147483648 ∧ 0 ≤ ((12 * p1) + v5) ∧ ((12 * p1) + v5) < 168) ∧
      (-2147483648 ≤ v7 + 1 ∧ v7 + 1 < 2147483648) ∧
      am_Runs PP MLL (d + 1) m_M_groups 32 [some (qr (31, 12, 89)), some (qi p1), some (qi v2), some (qi v3), some (qi v4), some (qi v5), some (qi (if (sI σ 62 (Int.toNat ((12 * p1) + v7))) = (sI σ 62 (Int.toNat ((12 * p1) + v5))) then (0 : Int) else 1)), some (qi (v7 + 1))] [] σ (kV K)))))) : am_Runs PP MLL (d + 1) m_M_groups 32 [some (qr (31, 12, 89)), some (qi p1), some (qi v2), some (qi v3), some (qi v4), some (qi v5), some (qi v6), some (qi v7)] [] σ (kV K) := am_wEC_ok (orc [(38, 62, 20, 168), (46, 62, 20, 168), (69, 62, 20, 168)]) [29, 57, 78] 200 (⟨fun c4 => ⟨fun c6 => am_wEC_ok (orc []) [29, 57, 78] 200 (⟨⟨((h.1 c4).1 c6).1.1, ((h.1 c4).1 c6).1.2⟩, ((h.1 c4).1 c6).2⟩), fun c6 => ⟨rfl, (am_cI ((h.1 c4).2 c6) fun x7 s7 h7 => am_use (fun H9 => ⟨fun c8 => (Eq.mp (congrArg (fun z => am_Runs _ _ _ _ _ _ (qi z :: _) _ _) (if_pos c8 : (if x7 = 0 then (v4 : Int) else sI s7 62 (Int.toNat ((12 * p1) + v5))) = v4)) H9), fun c8 => ⟨⟨rfl, (h7.1 52)⟩, ⟨⟨(h7.2.1.1 c8), (h7.2.1.2.1 c8)⟩, ⟨⟨(h7.2.1.2.2.1 c8), (h7.2.1.2.2.2.1 c8)⟩, ⟨⟨rfl, (h7.2.1.2.2.2.2.1 c8), (h7.2.1.2.2.2.2.2 c8)⟩, (Eq.mp (congrArg (fun z => am_Runs _ _ _ _ _ _ (qi z :: _) _ _) (if_neg c8 : (if x7 = 0 then (v4 : Int) else sI s7 62 (Int.toNat ((12 * p1) + v5))) = sI s7 62 (Int.toNat ((12 * p1) + v5)))) H9)⟩⟩⟩⟩⟩) (am_wEC_ok (orc []) [29, 57, 78] 200 (⟨⟨h7.2.2.1.1, h7.2.2.1.2⟩, h7.2.2.2⟩)))⟩⟩, fun c4 => ⟨fun c12 => ⟨fun _ => am_wEC_ok (orc []) [29, 57, 78] 200 (⟨⟨((h.2 c4).1 c12).1.1, ((h.2 c4).1 c12).1.2⟩, ((h.2 c4).1 c12).2⟩), fun c => absurd c12 c⟩, fun c12 => ⟨⟨rfl, (hF 52)⟩, ⟨⟨((h.2 c4).2 c12).1.1, ((h.2 c4).2 c12).1.2.1⟩, ⟨⟨((h.2 c4).2 c12).1.2.2.1, ((h.2 c4).2 c12).1.2.2.2.1⟩, ⟨⟨rfl, ((h.2 c4).2 c12).1.2.2.2.2.1, ((h.2 c4).2 c12).1.2.2.2.2.2.1⟩, ⟨⟨rfl, (hF 52)⟩, ⟨⟨((h.2 c4).2 c12).1.1, ((h.2 c4).2 c12).1.2.1⟩, ⟨⟨((h.2 c4).2 c12).1.2.2.2.2.2.2.1, ((h.2 c4).2 c12).1.2.2.2.2.2.2.2.1⟩, ⟨⟨rfl, ((h.2 c4).2 c12).1.2.2.2.2.2.2.2.2.1, ((h.2 c4).2 c12).1.2.2.2.2.2.2.2.2.2⟩, am_use (fun H14 => ⟨fun c13 => (Eq.mp (congrArg (fun z => am_Runs _ _ _ _ _ _ (qi z :: _) _ _) (if_pos c13 : (if (sI σ 62 (Int.toNat ((12 * p1) + v7))) = (sI σ 62 (Int.toNat ((12 * p1) + v5))) then (0 : Int) else 1) = 0)) H14), fun c13 => (Eq.mp (congrArg (fun z => am_Runs _ _ _ _ _ _ (qi z :: _) _ _) (if_neg c13 : (if (sI σ 62 (Int.toNat ((12 * p1) + v7))) = (sI σ 62 (Int.toNat ((12 * p1) + v5))) then (0 : Int) else 1) = 1)) H14)⟩) (am_wEC_ok (orc []) [29, 57, 78] 200 (⟨⟨((h.2 c4).2 c12).2.1.1, ((h.2 c4).2 c12).2.1.2⟩, ((h.2 c4).2 c12).2.2⟩))⟩⟩⟩⟩⟩⟩⟩⟩⟩⟩)

/-- the groups of the first i coins are made at a level of the reference -/
def GM (σ s : am_S) (lv : Nat) (X : sX) (c : Nat → Int) (i : Nat) : Prop := s.2 = σ.2 ∧ (∀ x, x ≠ 62 → x ≠ 63 → sI s x = sI σ x) ∧ (∀ j, j < 12 * lv ∨ 12 * lv + 12 ≤ j → sI s 62 j = sI σ 62 j ∧ sI s 63 j = sI σ 63 j) ∧ (∀ q, q < i → sI s 62 (12 * lv + q) = gG X c i q) ∧ ∀ g, g < gN X c i → sI s 63 (12 * lv + g) = gZ X c i g
theorem c_M_groups (d : Nat) {lv : Nat} {X : sX} {c : Nat → Int} {σ : am_S} {K : am_S → Prop} (hF : MF σ) (hX : XV X) (hlv : lv < 14) (h2 : sI σ 31 2 = xN X) (hM : sI σ 31 40 = xM X) (hc : LC σ lv X c) (hS : SWP σ X)
    (h : ∀ s, GM σ s lv X c (xN X) → K (putI (putI (putI s 61 lv (nC X c : Int)) 59 lv 0) 60 lv (-1))) : am_Calls PP MLL (d + 2) m_M_groups [qr (31, 12, 89), qi (lv : Int)] σ (kV K) := by
  have hN := hX.1
  have fx : ∀ s, s.2 = σ.2 → MF s := by
    intro s hs
    have e : sR s = sR σ := by
      funext a j
      exact R2' hs a j
    unfold MF
    rw [e]
    exact hF
  have lp0 : ∀ i : Nat, i ≤ xN X → ∀ s z4 z5 z6 z7, GM σ s lv X c i → am_Runs PP MLL (d + 1) m_M_groups 4 [some (qr (31, 12, 89)), some (qi (lv : Int)), some (qi (gN X c i : Int)), some (qi (i : Int)), z4, z5, z6, z7] [] s (kV K) := by
    refine lp ?_ ?_
    · intro s z4 z5 z6 z7 hs
      refine v_M_groups_4 d lv _ _ z4 z5 z6 z7 s K (fx s hs.1) ⟨fun _ => ⟨by omega, ?_⟩, fun c => absurd ?_ c⟩
      · rw [Int.toNat_natCast]
        exact h s hs
      · rw [hs.2.1 31 (by decide) (by decide)]
        omega
    · intro i hi ih s z4 z5 z6 z7 hs
      have hFs := fx s hs.1
      have hs0 := hs
      obtain ⟨g1, g2, g3, g4, g5⟩ := hs
      obtain ⟨v1, v2, v3, v4⟩ := g_inv X c i
      obtain ⟨f1, f2, f3, f4⟩ := ff_spec (fun g => AL X c ((gst X c i).2.1 g) i) (gst X c i).1 0
      have hle := gF_le X c i
      have hcs : LC s lv X c := fun t ht => by rw [g2 53 (by decide) (by decide)]; exact hc t ht
      have hSs : SWP s X := fun t ht a b hab hb => by rw [g2 52 (by decide) (by decide)]; exact hS t ht a b hab hb
      -- the group is known
      have fin : ∀ (g : Nat) z6 z7, g = gF X c i → am_Runs PP MLL (d + 1) m_M_groups 14 [some (qr (31, 12, 89)), some (qi (lv : Int)), some (qi (gN X c i : Int)), some (qi (i : Int)), some (qi (g : Int)), some (qi (-1)), z6, z7] [] s (kV K) := by
        intro g z6 z7 eg
        have e1 : Int.toNat (12 * (lv : Int) + (i : Int)) = 12 * lv + i := by omega
        have e2 : Int.toNat (12 * (lv : Int) + (gN X c i : Int)) = 12 * lv + gN X c i := by omega
        have e3 : Int.toNat (12 * (lv : Int) + (g : Int)) = 12 * lv + g := by omega
        refine v_M_groups_14 d lv _ _ _ _ z6 z7 s K hFs ⟨fun _ => ?_, fun c => absurd (by omega) c⟩
        rw [e1, e2, e3]
        refine ⟨by omega, fun q1 => ?_, fun q1 => ?_⟩
        · have q1' : gF X c i = gN X c i := by omega
          have eg2 : g = gN X c i := by omega
          have e63 : sI (putI (putI s 62 (12 * lv + i) (g : Int)) 63 (12 * lv + gN X c i) 0) 63 (12 * lv + g) = 0 := by rw [put_at, if_pos (by omega)]
          rw [e63]
          refine ⟨by omega, ?_⟩
          have eN : (gN X c i : Int) + 1 = (gN X c (i + 1) : Int) := by rw [gN_s, if_pos q1']; rfl
          rw [eN]
          refine ih _ _ _ _ _ ⟨g1, fun x x1 x2 => ?_, fun j hj => ?_, fun p hp => ?_, fun h hh => ?_⟩
          · rw [put_ne x2, put_ne x2, put_ne x1, g2 x x1 x2]
          · rw [put_ne (show 62 ≠ 63 by decide), put_ne (show 62 ≠ 63 by decide), put_at, if_neg (by omega), put_at, if_neg (by omega), put_at, if_neg (by omega), put_ne (show 63 ≠ 62 by decide)]
            exact g3 j hj
          · rw [put_ne (by decide), put_ne (by decide), put_at, gG_s]
            by_cases e : p = i
            · rw [if_pos (by omega), if_pos e, eg]
            · rw [if_neg (by omega), if_neg e]
              exact g4 p (by omega)
          · rw [gN_s, if_pos q1'] at hh
            rw [put_at, put_at, put_ne (by decide), gZ_s]
            by_cases e : h = gF X c i
            · rw [if_pos (by omega), if_pos e, if_pos (by omega)]
              rfl
            · rw [if_neg (by omega), if_neg (by omega), if_neg e]
              exact g5 h (by omega)
        · have q1' : ¬ gF X c i = gN X c i := by omega
          have eN : gN X c (i + 1) = gN X c i := by rw [gN_s, if_neg q1']
          have hg5 := g5 g (by omega)
          have hz := (v3 g (by omega)).2.2.2
          rw [hg5]
          refine ⟨by omega, ?_⟩
          have ih := ih (putI (putI s 62 (12 * lv + i) (g : Int)) 63 (12 * lv + g) ((gZ X c i g : Int) + 1)) (some (qi (g : Int))) (some (qi (-1))) z6 z7 ⟨g1, fun x x1 x2 => ?_, fun j hj => ?_, fun p hp => ?_, fun h hh => ?_⟩
          · rw [eN] at ih
            exact ih
          · rw [put_ne x2, put_ne x1, g2 x x1 x2]
          · rw [put_ne (show 62 ≠ 63 by decide), put_at, if_neg (by omega), put_at, if_neg (by omega), put_ne (show 63 ≠ 62 by decide)]
            exact g3 j hj
          · rw [put_ne (by decide), put_at, gG_s]
            by_cases e : p = i
            · rw [if_pos (by omega), if_pos e, eg]
            · rw [if_neg (by omega), if_neg e]
              exact g4 p (by omega)
          · rw [eN] at hh
            rw [put_at, put_ne (by decide), gZ_s]
            by_cases e : h = gF X c i
            · rw [if_pos (by omega), if_pos e, if_neg (by omega), e, ← eg]
              rfl
            · rw [if_neg (by omega), if_neg e]
              exact g5 h (by omega)
      -- downwards
      have down : ∀ a : Nat, a ≤ i → ∀ (g : Nat) z6 z7, g ≤ gN X c i → (g < gN X c i → AL X c (gL X c i g) i ∧ a ≤ gL X c i g) → (∀ h, h < g → h < gN X c i → a ≤ gL X c i h → ¬ AL X c (gL X c i h) i) → am_Runs PP MLL (d + 1) m_M_groups 14 [some (qr (31, 12, 89)), some (qi (lv : Int)), some (qi (gN X c i : Int)), some (qi (i : Int)), some (qi (g : Int)), some (qi ((a : Int) - 1)), z6, z7] [] s (kV K) := by
        intro a
        induction a with
        | zero =>
          intro _ g z6 z7 hg hA hn
          refine fin g z6 z7 (ff_unique (Nat.zero_le _) (by rw [Nat.zero_add]; exact hg) (fun q _ hq => hn q hq (by omega) (Nat.zero_le _)) (fun hq => (hA (by rw [Nat.zero_add] at hq; exact hq)).1)).symm
        | succ a iha =>
          intro ha g z6 z7 hg hA hn
          have hga := v2 a (by omega)
          have e62 := g4 a (by omega)
          have ea : Int.toNat (12 * (lv : Int) + (a : Int)) = 12 * lv + a := by omega
          have e0 : ((a + 1 : Nat) : Int) - 1 = (a : Int) := by omega
          refine v_M_groups_14 d lv _ _ _ _ z6 z7 s K hFs ⟨fun c => absurd c (by omega), fun _ => ?_⟩
          rw [e0, ea, e62]
          refine ⟨by omega, ?_⟩
          -- whether a is the least of its group
          have least : ∀ z : Nat, z ≤ a → ∀ f : Int, (f = 0 ∧ (∃ q, q < a ∧ gG X c i q = gG X c i a) ∨ f = 1 ∧ gG X c i a < g ∧ (∀ q, q < z → gG X c i q ≠ gG X c i a) ∨ f = 0 ∧ g ≤ gG X c i a) → am_Runs PP MLL (d + 1) m_M_groups 32 [some (qr (31, 12, 89)), some (qi (lv : Int)), some (qi (gN X c i : Int)), some (qi (i : Int)), some (qi (g : Int)), some (qi (a : Int)), some (qi f), some (qi (z : Int))] [] s (kV K) := by
            have no : ∀ (f : Int) (z : Nat), f = 0 → ((∃ q, q < a ∧ gG X c i q = gG X c i a) ∨ g ≤ gG X c i a) → am_Runs PP MLL (d + 1) m_M_groups 14 [some (qr (31, 12, 89)), some (qi (lv : Int)), some (qi (gN X c i : Int)), some (qi (i : Int)), some (qi (g : Int)), some (qi ((a : Int) + (-1))), some (qi f), some (qi (z : Int))] [] s (kV K) := by
              intro f z _ hq
              refine iha (by omega) g _ _ hg (fun w => ⟨(hA w).1, by have := (hA w).2; omega⟩) (fun h h1 h2 h3 => ?_)
              by_cases e : gL X c i h = a
              · exfalso
                obtain ⟨w1, w2, w3, _⟩ := v3 h h2
                rw [e] at w2 w3
                rcases hq with ⟨q, q1, q2⟩ | q
                · exact w3 q q1 (by rw [q2, w2])
                · omega
              · exact hn h h1 h2 (by omega)
            refine lp ?_ ?_
            · intro f hf
              refine v_M_groups_32 d lv _ _ _ _ _ _ s K hFs ⟨fun _ => ⟨fun q1 => ⟨by omega, ?_⟩, fun q1 => ?_⟩, fun c => absurd (Int.le_refl _) c⟩
              · rcases hf with ⟨_, q⟩ | ⟨q, _⟩ | ⟨_, q⟩
                · exact no f a q1 (Or.inl q)
                · omega
                · exact no f a q1 (Or.inr q)
              · obtain ⟨hf1, hf2⟩ : gG X c i a < g ∧ (∀ q, q < a → gG X c i q ≠ gG X c i a) := by
                  rcases hf with ⟨q, _⟩ | ⟨_, q⟩ | ⟨q, _⟩
                  · exact absurd q q1
                  · exact q
                  · exact absurd q q1
                have hLa : gL X c i (gG X c i a) = a := by
                  obtain ⟨w1, w2, w3, _⟩ := v3 _ hga
                  rcases Nat.lt_trichotomy (gL X c i (gG X c i a)) a with w | w | w
                  · exact absurd w2 (hf2 _ w)
                  · exact w
                  · exact absurd rfl (w3 a w)
                rw [ea]
                refine c_M_areAlike d hFs hX hlv (by rw [g2 31 (by decide) (by decide)]; exact hM) hcs hSs (show a < i by omega) hi (fun hy => ⟨hFs, ⟨fun _ => by omega, fun _ => by omega, fun _ => by omega, fun _ => by omega, fun _ => by omega, fun _ => by omega⟩, by omega, ?_⟩) (fun hno => ⟨hFs, ⟨fun _ => by omega, fun _ => by omega, fun _ => by omega, fun _ => by omega, fun _ => by omega, fun _ => by omega⟩, by omega, ?_⟩)
                · rw [if_neg (by decide), e62]
                  refine iha (by omega) _ _ _ (by omega) (fun _ => ⟨by rw [hLa]; exact hy, by rw [hLa]; exact Nat.le_refl _⟩) (fun h h1 h2 h3 => ?_)
                  have := v4 h _ h1 hga
                  omega
                · rw [if_pos rfl]
                  refine iha (by omega) g _ _ hg (fun w => ⟨(hA w).1, by have := (hA w).2; omega⟩) (fun h h1 h2 h3 => ?_)
                  by_cases e : gL X c i h = a
                  · rw [e]; exact hno
                  · exact hn h h1 h2 (by omega)
            · intro z hz ihz f hf
              have ez : Int.toNat (12 * (lv : Int) + (z : Int)) = 12 * lv + z := by omega
              refine v_M_groups_32 d lv _ _ _ _ _ _ s K hFs ⟨fun c => absurd c (by omega), fun _ => ⟨fun q1 => ⟨by omega, ?_⟩, fun q1 => ?_⟩⟩
              · rcases hf with ⟨_, q⟩ | ⟨q, _⟩ | ⟨_, q⟩
                · exact no f z q1 (Or.inl q)
                · omega
                · exact no f z q1 (Or.inr q)
              · obtain ⟨hf1, hf2⟩ : gG X c i a < g ∧ (∀ q, q < z → gG X c i q ≠ gG X c i a) := by
                  rcases hf with ⟨q, _⟩ | ⟨_, q⟩ | ⟨q, _⟩
                  · exact absurd q q1
                  · exact q
                  · exact absurd q q1
                rw [ez, ea, g4 z (by omega), e62]
                refine ⟨by omega, by omega, ihz _ ?_⟩
                by_cases e : gG X c i z = gG X c i a
                · exact Or.inl ⟨if_pos (by omega), z, by omega, e⟩
                · refine Or.inr (Or.inl ⟨if_neg (by omega), hf1, fun q hq => ?_⟩)
                  by_cases e2 : q = z
                  · rw [e2]; exact e
                  · exact hf2 q (by omega)
          refine least 0 (Nat.zero_le _) _ ?_
          by_cases e : (g : Int) ≤ (gG X c i a : Int)
          · exact Or.inr (Or.inr ⟨if_pos e, by omega⟩)
          · exact Or.inr (Or.inl ⟨if_neg e, by omega, fun q hq => absurd hq (Nat.not_lt_zero q)⟩)
      refine v_M_groups_4 d lv _ _ z4 z5 z6 z7 s K hFs ⟨fun c => absurd c (by rw [g2 31 (by decide) (by decide)]; omega), fun _ => ⟨by omega, ?_⟩⟩
      exact down i (Nat.le_refl _) (gN X c i) _ _ (Nat.le_refl _) (fun w => absurd w (Nat.lt_irrefl _)) (fun h h1 h2 h3 => by have := (v3 h h2).1; omega)
  refine v_M_groups_0 d lv σ K hF (lp0 0 (Nat.zero_le _) σ _ _ _ _ ⟨rfl, fun _ _ _ => rfl, fun _ _ => ⟨rfl, rfl⟩, fun q hq => absurd hq (Nat.not_lt_zero q), fun g hg => absurd hg (Nat.not_lt_zero g)⟩)
