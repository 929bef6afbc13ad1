/-! the class: groups -/
theorem v_Suspects_firstOfPair_0 (d : Nat) (p0 p1 : Int) (σ : am_S) (K : Int → am_S → Prop) (h :
  (-2147483648 ≤ p1 - 1 ∧ p1 - 1 < 2147483648 ∧ -2147483648 ≤ p1 * (p1 - 1) ∧ p1 * (p1 - 1) < 2147483648 ∧ -2147483648 ≤ Int.tdiv (p1 * (p1 - 1)) 2 ∧ Int.tdiv (p1 * (p1 - 1)) 2 < 2147483648 ∧ -2147483648 ≤ (Int.tdiv (p1 * (p1 - 1)) 2) + p0 ∧ (Int.tdiv (p1 * (p1 - 1)) 2) + p0 < 2147483648 ∧ -2147483648 ≤ ((Int.tdiv (p1 * (p1 - 1)) 2) + p0) * 60 ∧ ((Int.tdiv (p1 * (p1 - 1)) 2) + p0) * 60 < 2147483648) ∧
  K (((Int.tdiv (p1 * (p1 - 1)) 2) + p0) * 60) σ) : am_Runs PP MLL d m_Suspects_firstOfPair 0 [some (qi p0), some (qi p1)] [] σ (kI K) := am_wEF_ok (orc []) 200 (⟨⟨h.1.1, h.1.2.1⟩, ⟨⟨h.1.2.2.1, h.1.2.2.2.1⟩, ⟨⟨(by decide : (2 : Int) ≠ 0), h.1.2.2.2.2.1, h.1.2.2.2.2.2.1⟩, ⟨⟨h.1.2.2.2.2.2.2.1, h.1.2.2.2.2.2.2.2.1⟩, ⟨⟨h.1.2.2.2.2.2.2.2.2.1, h.1.2.2.2.2.2.2.2.2.2⟩, h.2⟩⟩⟩⟩⟩)

/-- where a pair of coins stands in the row of images -/
def fop (a b : Nat) : Nat := (b * (b - 1) / 2 + a) * 60
theorem fop_tri : ∀ b : Nat, b < 12 → ∀ a : Nat, a < b → (b : Int) * ((b : Int) - 1) = ((b * (b - 1) : Nat) : Int) ∧ fop a b + 60 ≤ 3960 ∧ b * (b - 1) ≤ 132 := by decide
theorem c_firstOfPair (d : Nat) {a b : Nat} {σ : am_S} {K : Int → am_S → Prop} (ha : a < b) (hb : b < 12) (h : K (fop a b : Nat) σ) : am_Calls PP MLL (d + 1) m_Suspects_firstOfPair [qi (a : Int), qi (b : Int)] σ (kI K) := by
  obtain ⟨h1, h2, h3⟩ := fop_tri b hb a ha
  refine v_Suspects_firstOfPair_0 d a b σ K ?_
  rw [h1]
  have e2 : Int.tdiv ((b * (b - 1) : Nat) : Int) 2 = ((b * (b - 1) / 2 : Nat) : Int) := by
    rw [Int.tdiv_eq_ediv_of_nonneg (by omega)]
    omega
  rw [e2]
  have e3 : (((b * (b - 1) / 2 : Nat) : Int) + (a : Int)) * 60 = ((fop a b : Nat) : Int) := by
    unfold fop
    omega
  rw [e3]
  refine ⟨?_, h⟩
  omega

theorem v_Suspects_exchangeable_0 (d : Nat) (q aI nI : Nat) (p1 p2 : Int) (σ : am_S) (K : Int → am_S → Prop) (hC : CF σ) (hi : sR σ 13 4 = some (aI, 20, nI)) (h :
  am_Calls PP MLL (d + 1) m_Suspects_firstOfPair [qi p1, qi p2] σ (kI fun x1 s1 =>
    (CF s1 ∧ sR s1 13 4 = some (aI, 20, nI)) ∧
    am_Runs PP MLL (d + 1) m_Suspects_exchangeable 6 [some (qr (13, 6, 5)), some (qi p1), some (qi p2), some (qr (q, 20, 60)), some (qi x1), some (qi 0), none] [] s1 (kI K))) : am_Runs PP MLL (d + 1) m_Suspects_exchangeable 0 [some (qr (13, 6, 5)), some (qi p1), some (qi p2), some (qr (q, 20, 60)), none, none, none] [] σ (kI K) := am_wEF_ok (orc []) 200 ((am_cI h fun x1 s1 h1 => h1.2))

theorem v_Suspects_exchangeable_6 (d : Nat) (q aI nI : Nat) (v4 v5 : Int) (z1 z2 z6 : Option am_V) (σ : am_S) (K : Int → am_S → Prop) (hC : CF σ) (hi : sR σ 13 4 = some (aI, 20, nI)) (h :
  (((sI σ 13 3) ≤ v5 →
    K 1 σ) ∧
  (¬ ((sI σ 13 3) ≤ v5) →
    (0 ≤ v5 ∧ v5 < 60) ∧
    (((sI σ q (Int.toNat v5)) = (-1) →
      (-2147483648 ≤ v5 + 1 ∧ v5 + 1 < 2147483648) ∧
      am_Runs PP MLL (d + 1) m_Suspects_exchangeable 6 [some (qr (13, 6, 5)), z1, z2, some (qr (q, 20, 60)), some (qi v4), some (qi (v5 + 1)), z6] [] σ (kI K)) ∧
    (¬ ((sI σ q (Int.toNat v5)) = (-1)) →
      (-2147483648 ≤ v4 + v5 ∧ v4 + v5 < 2147483648 ∧ 0 ≤ (v4 + v5) ∧ (v4 + v5) < ((nI : Nat) : Int)) ∧
      (((sI σ aI (Int.toNat (v4 + v5))) < 0 →
        K 0 σ) ∧
      (¬ ((sI σ aI (Int.toNat (v4 + v5))) < 0) →
        (0 ≤ (sI σ aI (Int.toNat (v4 + v5))) ∧ (sI σ aI (Int.toNat (v4 + v5))) < 60) ∧
        (((sI σ q (Int.toNat (sI σ aI (Int.toNat (v4 + v5))))) = (sI σ q (Int.toNat v5)) →
          (-2147483648 ≤ v5 + 1 ∧ v5 + 1 < 2147483648) ∧
          am_Runs PP MLL (d + 1) m_Suspects_exchangeable 6 [some (qr (13, 6, 5)), z1, z2, some (qr (q, 20, 60)), some (qi v4), some (qi (v5 + 1)), some (qi (sI σ aI (Int.toNat (v4 + v5))))] [] σ (kI K)) ∧
        (¬ ((sI σ q (Int.toNat (sI σ aI (Int.toNat (v4 + v5))))) = (sI σ q (Int.toNat v5))) →
          K 0 σ))))))))) : am_Runs PP MLL (d + 1) m_Suspects_exchangeable 6 [some (qr (13, 6, 5)), z1, z2, some (qr (q, 20, 60)), some (qi v4), some (qi v5), z6] [] σ (kI K) := am_wEF_ok (orc [(17, aI, 20, nI)]) 200 (⟨rfl, ⟨fun c1 => ⟨(Or.inr rfl), (h.1 c1)⟩, fun c1 => ⟨⟨rfl, (h.2 c1).1.1, (h.2 c1).1.2⟩, ⟨fun c2 => ⟨⟨((h.2 c1).2.1 c2).1.1, ((h.2 c1).2.1 c2).1.2⟩, ((h.2 c1).2.1 c2).2⟩, fun c2 => ⟨⟨rfl, hi⟩, ⟨⟨((h.2 c1).2.2 c2).1.1, ((h.2 c1).2.2 c2).1.2.1⟩, ⟨⟨rfl, ((h.2 c1).2.2 c2).1.2.2.1, ((h.2 c1).2.2 c2).1.2.2.2⟩, ⟨fun c3 => ⟨(Or.inl rfl), (((h.2 c1).2.2 c2).2.1 c3)⟩, fun c3 => ⟨⟨rfl, (((h.2 c1).2.2 c2).2.2 c3).1.1, (((h.2 c1).2.2 c2).2.2 c3).1.2⟩, ⟨⟨rfl, (h.2 c1).1.1, (h.2 c1).1.2⟩, ⟨fun c4 => ⟨⟨((((h.2 c1).2.2 c2).2.2 c3).2.1 c4).1.1, ((((h.2 c1).2.2 c2).2.2 c3).2.1 c4).1.2⟩, ((((h.2 c1).2.2 c2).2.2 c3).2.1 c4).2⟩, fun c4 => ⟨(Or.inl rfl), ((((h.2 c1).2.2 c2).2.2 c3).2.2 c4)⟩⟩⟩⟩⟩⟩⟩⟩⟩⟩⟩⟩)

/-- the images of the suspects -/
def IMG (σ : am_S) (aI : Nat) (X : sX) : Prop := ∀ s, s < xM X → ∀ a b, a < b → b < xN X → sI σ aI (fop a b + s) = xW X s a b
theorem c_sexch (d : Nat) {q aI nI a b : Nat} {X : sX} {c : Nat → Int} {σ : am_S} {K : Int → am_S → Prop} (hC : CF σ) (hi : sR σ 13 4 = some (aI, 20, nI)) (hX : XV X) (hM : sI σ 13 3 = xM X) (hI : IMG σ aI X) (hnI : 3960 ≤ nI) (hc : ∀ s, s < xM X → sI σ q s = c s ∧ -1 ≤ c s) (ha : a < b) (hb : b < xN X) (h1 : AL X c a b → K 1 σ) (h0 : ¬ AL X c a b → K 0 σ) : am_Calls PP MLL (d + 2) m_Suspects_exchangeable [qr (13, 6, 5), qi (a : Int), qi (b : Int), qr (q, 20, 60)] σ (kI K) := by
  have hb12 : b < 12 := by have := hX.1; omega
  have hM60 := hX.2.1
  obtain ⟨f1, f2, f3⟩ := fop_tri b hb12 a ha
  have lp0 : ∀ i : Nat, i ≤ xM X → (∀ s, s < i → 0 ≤ c s → 0 ≤ xW X s a b ∧ c (xW X s a b).toNat = c s) → ∀ z1 z2 z6, am_Runs PP MLL (d + 1) m_Suspects_exchangeable 6 [some (qr (13, 6, 5)), z1, z2, some (qr (q, 20, 60)), some (qi ((fop a b : Nat) : Int)), some (qi (i : Int)), z6] [] σ (kI K) := by
    refine lp ?_ ?_
    · intro hal z1 z2 z6
      exact v_Suspects_exchangeable_6 d q aI nI _ _ z1 z2 z6 σ K hC hi ⟨fun _ => h1 hal, fun c => absurd (by omega) c⟩
    · intro i hii ih hal z1 z2 z6
      obtain ⟨c1, c2⟩ := hc i hii
      have hw := hX.2.2.1 i a b
      have eI := hI i hii a b ha hb
      refine v_Suspects_exchangeable_6 d q aI nI _ _ z1 z2 z6 σ K hC hi ⟨fun c => absurd c (by omega), fun _ => ?_⟩
      rw [Int.toNat_natCast, c1, show Int.toNat (((fop a b : Nat) : Int) + (i : Int)) = fop a b + i by omega, eI]
      refine ⟨by omega, fun c3 => ⟨by omega, ?_⟩, fun c3 => ⟨by omega, fun c4 => ?_, fun c4 => ⟨by omega, fun c5 => ⟨by omega, ?_⟩, fun c5 => ?_⟩⟩⟩
      · refine ih (fun s hs h => ?_) _ _ _
        by_cases e : s = i
        · rw [e] at h; omega
        · exact hal s (by omega) h
      · exact h0 (fun hA => by have := (hA i hii (by omega)).1; omega)
      · rw [(hc _ (by omega)).1] at c5
        refine ih (fun s hs h => ?_) _ _ _
        by_cases e : s = i
        · rw [e]; exact ⟨by omega, c5⟩
        · exact hal s (by omega) h
      · rw [(hc _ (by omega)).1] at c5
        exact h0 (fun hA => c5 (hA i hii (by omega)).2)
  refine v_Suspects_exchangeable_0 d q aI nI a b σ K hC hi ?_
  exact c_firstOfPair d ha hb12 ⟨⟨hC, hi⟩, lp0 0 (Nat.zero_le _) (fun s hs => absurd hs (Nat.not_lt_zero s)) _ _ _⟩

theorem v_Weighings_begin_0 (d : Nat) (w q aI nI : Nat) (σ : am_S) (K : am_S → Prop) (hW : WF σ w) (hC : CF σ) (hi : sR σ 13 4 = some (aI, 20, nI)) (h :
  am_Runs PP MLL (d + 2) m_Weighings_begin 15 [some (qr (w, 10, 11)), some (qr (13, 6, 5)), some (qr (q, 20, 60)), some (qi 0), none] [] (putI (putI (putI (putI σ w 5 (sI σ 13 2)) w 6 0) w 7 0) w 8 (-1)) (kV K)) : am_Runs PP MLL (d + 2) m_Weighings_begin 0 [some (qr (w, 10, 11)), some (qr (13, 6, 5)), some (qr (q, 20, 60)), none, none] [] σ (kV K) := am_wEF_ok (orc []) 200 (⟨rfl, ⟨rfl, ⟨rfl, ⟨rfl, ⟨rfl, h⟩⟩⟩⟩⟩)

theorem v_Weighings_begin_15 (d : Nat) (w q aI nI : Nat) (v3 : Int) (z4 : Option am_V) (σ : am_S) (K : am_S → Prop) (hW : WF σ w) (hC : CF σ) (hi : sR σ 13 4 = some (aI, 20, nI)) (h :
  (((sI σ w 5) ≤ v3 →
    K σ) ∧
  (¬ ((sI σ w 5) ≤ v3) →
    am_Runs PP MLL (d + 2) m_Weighings_begin 21 [some (qr (w, 10, 11)), some (qr (13, 6, 5)), some (qr (q, 20, 60)), some (qi v3), some (qi 0)] [] σ (kV K)))) : am_Runs PP MLL (d + 2) m_Weighings_begin 15 [some (qr (w, 10, 11)), some (qr (13, 6, 5)), some (qr (q, 20, 60)), some (qi v3), z4] [] σ (kV K) := am_wEF_ok (orc []) 200 (⟨rfl, ⟨fun c2 => (h.1 c2), fun c2 => (h.2 c2)⟩⟩)

theorem v_Weighings_begin_21 (d : Nat) (w q aI nI : Nat) (v3 v4 : Int) (σ : am_S) (K : am_S → Prop) (hW : WF σ w) (hC : CF σ) (hi : sR σ 13 4 = some (aI, 20, nI)) (h :
  (((sI σ w 6) ≤ v4 →
    ((v4 = (sI σ w 6) →
      (0 ≤ v4 ∧ v4 < 12 ∧ -2147483648 ≤ (sI (putI (putI σ (w + 2) (Int.toNat v4) v3) (w + 3) (Int.toNat v4) 0) w 6) + 1 ∧ (sI (putI (putI σ (w + 2) (Int.toNat v4) v3) (w + 3) (Int.toNat v4) 0) w 6) + 1 < 2147483648 ∧ 0 ≤ v3 ∧ v3 < 12 ∧ -2147483648 ≤ (sI (putI (putI (putI (putI σ (w + 2) (Int.toNat v4) v3) (w + 3) (Int.toNat v4) 0) w 6 ((sI (putI (putI σ (w + 2) (Int.toNat v4) v3) (w + 3) (Int.toNat v4) 0) w 6) + 1)) (w + 1) (Int.toNat v3) v4) (w + 3) (Int.toNat v4)) + 1 ∧ (sI (putI (putI (putI (putI σ (w + 2) (Int.toNat v4) v3) (w + 3) (Int.toNat v4) 0) w 6 ((sI (putI (putI σ (w + 2) (Int.toNat v4) v3) (w + 3) (Int.toNat v4) 0) w 6) + 1)) (w + 1) (Int.toNat v3) v4) (w + 3) (Int.toNat v4)) + 1 < 2147483648 ∧ -2147483648 ≤ v3 + 1 ∧ v3 + 1 < 2147483648) ∧
      am_Runs PP MLL (d + 2) m_Weighings_begin 15 [some (qr (w, 10, 11)), some (qr (13, 6, 5)), some (qr (q, 20, 60)), some (qi (v3 + 1)), some (qi v4)] [] (putI (putI (putI (putI (putI σ (w + 2) (Int.toNat v4) v3) (w + 3) (Int.toNat v4) 0) w 6 ((sI (putI (putI σ (w + 2) (Int.toNat v4) v3) (w + 3) (Int.toNat v4) 0) w 6) + 1)) (w + 1) (Int.toNat v3) v4) (w + 3) (Int.toNat v4) ((sI (putI (putI (putI (putI σ (w + 2) (Int.toNat v4) v3) (w + 3) (Int.toNat v4) 0) w 6 ((sI (putI (putI σ (w + 2) (Int.toNat v4) v3) (w + 3) (Int.toNat v4) 0) w 6) + 1)) (w + 1) (Int.toNat v3) v4) (w + 3) (Int.toNat v4)) + 1)) (kV K)) ∧
    (¬ (v4 = (sI σ w 6)) →
      (0 ≤ v3 ∧ v3 < 12 ∧ 0 ≤ v4 ∧ v4 < 12 ∧ -2147483648 ≤ (sI (putI σ (w + 1) (Int.toNat v3) v4) (w + 3) (Int.toNat v4)) + 1 ∧ (sI (putI σ (w + 1) (Int.toNat v3) v4) (w + 3) (Int.toNat v4)) + 1 < 2147483648 ∧ -2147483648 ≤ v3 + 1 ∧ v3 + 1 < 2147483648) ∧
      am_Runs PP MLL (d + 2) m_Weighings_begin 15 [some (qr (w, 10, 11)), some (qr (13, 6, 5)), some (qr (q, 20, 60)), some (qi (v3 + 1)), some (qi v4)] [] (putI (putI σ (w + 1) (Int.toNat v3) v4) (w + 3) (Int.toNat v4) ((sI (putI σ (w + 1) (Int.toNat v3) v4) (w + 3) (Int.toNat v4)) + 1)) (kV K)))) ∧
  (¬ ((sI σ w 6) ≤ v4) →
    (0 ≤ v4 ∧ v4 < 12) ∧
    am_Calls PP MLL (d + 2) m_Suspects_exchangeable [qr (13, 6, 5), qi (sI σ (w + 2) (Int.toNat v4)), qi v3, qr (q, 20, 60)] σ (kI fun x5 s5 =>
      (WF s5 w ∧ CF s5 ∧ sR s5 13 4 = some (aI, 20, nI)) ∧
      ((x5 = 0 →
        (-2147483648 ≤ v4 + 1 ∧ v4 + 1 < 2147483648) ∧
        am_Runs PP MLL (d + 2) m_Weighings_begin 21 [some (qr (w, 10, 11)), some (qr (13, 6, 5)), some (qr (q, 20, 60)), some (qi v3), some (qi (v4 + 1))] [] s5 (kV K)) ∧
      (¬ (x5 = 0) →
        ((v4 = (sI s5 w 6) →
          (-2147483648 ≤ (sI (putI (putI s5 (w + 2) (Int.toNat v4) v3) (w + 3) (Int.toNat v4) 0) w 6) + 1 ∧ (sI (putI (putI s5 (w + 2) (Int.toNat v4) v3) (w + 3) (Int.toNat v4) 0) w 6) + 1 < 2147483648 ∧ 0 ≤ v3 ∧ v3 < 12 ∧ -2147483648 ≤ (sI (putI (putI (putI (putI s5 (w + 2) (Int.toNat v4) v3) (w + 3) (Int.toNat v4) 0) w 6 ((sI (putI (putI s5 (w + 2) (Int.toNat v4) v3) (w + 3) (Int.toNat v4) 0) w 6) + 1)) (w + 1) (Int.toNat v3) v4) (w + 3) (Int.toNat v4)) + 1 ∧ (sI (putI (putI (putI (putI s5 (w + 2) (Int.toNat v4) v3) (w + 3) (Int.toNat v4) 0) w 6 ((sI (putI (putI s5 (w + 2) (Int.toNat v4) v3) (w + 3) (Int.toNat v4) 0) w 6) + 1)) (w + 1) (Int.toNat v3) v4) (w + 3) (Int.toNat v4)) + 1 < 2147483648 ∧ -2147483648 ≤ v3 + 1 ∧ v3 + 1 < 2147483648) ∧
          am_Runs PP MLL (d + 2) m_Weighings_begin 15 [some (qr (w, 10, 11)), some (qr (13, 6, 5)), some (qr (q, 20, 60)), some (qi (v3 + 1)), some (qi v4)] [] (putI (putI (putI (putI (putI s5 (w + 2) (Int.toNat v4) v3) (w + 3) (Int.toNat v4) 0) w 6 ((sI (putI (putI s5 (w + 2) (Int.toNat v4) v3) (w + 3) (Int.toNat v4) 0) w 6) + 1)) (w + 1) (Int.toNat v3) v4) (w + 3) (Int.toNat v4) ((sI (putI (putI (putI (putI s5 (w + 2) (Int.toNat v4) v3) (w + 3) (Int.toNat v4) 0) w 6 ((sI (putI (putI s5 (w + 2) (Int.toNat v4) v3) (w + 3) (Int.toNat v4) 0) w 6) + 1)) (w + 1) (Int.toNat v3) v4) (w + 3) (Int.toNat v4)) + 1)) (kV K)) ∧
        (¬ (v4 = (sI s5 w 6)) →
          (0 ≤ v3 ∧ v3 < 12 ∧ -2147483648 ≤ (sI (putI s5 (w + 1) (Int.toNat v3) v4) (w + 3) (Int.toNat v4)) + 1 ∧ (sI (putI s5 (w + 1) (Int.toNat v3) v4) (w + 3) (Int.toNat v4)) + 1 < 2147483648 ∧ -2147483648 ≤ v3 + 1 ∧ v3 + 1 < 2147483648) ∧
          am_Runs PP MLL (d + 2) m_Weighings_begin 15 [some (qr (w, 10, 11)), some (qr (13, 6, 5)), some (qr (q, 20, 60)), some (qi (v3 + 1)), some (qi v4)] [] (putI (putI s5 (w + 1) (Int.toNat v3) v4) (w + 3) (Int.toNat v4) ((sI (putI s5 (w + 1) (Int.toNat v3) v4) (w + 3) (Int.toNat v4)) + 1)) (kV K))))))))) : am_Runs PP MLL (d + 2) m_Weighings_begin 21 [some (qr (w, 10, 11)), some (qr (13, 6, 5)), some (qr (q, 20, 60)), some (qi v3), some (qi v4)] [] σ (kV K) := am_wEF_ok (orc [(27, w + 2, 20, 12), (41, w + 2, 20, 12), (46, w + 3, 20, 12), (57, w + 1, 20, 12), (62, w + 3, 20, 12)]) 200 (⟨rfl, ⟨fun c2 => ⟨rfl, ⟨fun c4 => ⟨⟨rfl, hW.2.1⟩, ⟨⟨rfl, ((h.1 c2).1 c4).1.1, ((h.1 c2).1 c4).1.2.1⟩, ⟨⟨rfl, hW.2.2.1⟩, ⟨⟨rfl, ((h.1 c2).1 c4).1.1, ((h.1 c2).1 c4).1.2.1⟩, ⟨rfl, ⟨⟨((h.1 c2).1 c4).1.2.2.1, ((h.1 c2).1 c4).1.2.2.2.1⟩, ⟨rfl, ⟨⟨rfl, hW.1⟩, ⟨⟨rfl, ((h.1 c2).1 c4).1.2.2.2.2.1, ((h.1 c2).1 c4).1.2.2.2.2.2.1⟩, ⟨⟨rfl, hW.2.2.1⟩, ⟨⟨rfl, ((h.1 c2).1 c4).1.1, ((h.1 c2).1 c4).1.2.1⟩, ⟨⟨((h.1 c2).1 c4).1.2.2.2.2.2.2.1, ((h.1 c2).1 c4).1.2.2.2.2.2.2.2.1⟩, ⟨⟨rfl, ((h.1 c2).1 c4).1.1, ((h.1 c2).1 c4).1.2.1⟩, ⟨⟨((h.1 c2).1 c4).1.2.2.2.2.2.2.2.2.1, ((h.1 c2).1 c4).1.2.2.2.2.2.2.2.2.2⟩, ((h.1 c2).1 c4).2⟩⟩⟩⟩⟩⟩⟩⟩⟩⟩⟩⟩⟩⟩, fun c4 => ⟨⟨rfl, hW.1⟩, ⟨⟨rfl, ((h.1 c2).2 c4).1.1, ((h.1 c2).2 c4).1.2.1⟩, ⟨⟨rfl, hW.2.2.1⟩, ⟨⟨rfl, ((h.1 c2).2 c4).1.2.2.1, ((h.1 c2).2 c4).1.2.2.2.1⟩, ⟨⟨((h.1 c2).2 c4).1.2.2.2.2.1, ((h.1 c2).2 c4).1.2.2.2.2.2.1⟩, ⟨⟨rfl, ((h.1 c2).2 c4).1.2.2.1, ((h.1 c2).2 c4).1.2.2.2.1⟩, ⟨⟨((h.1 c2).2 c4).1.2.2.2.2.2.2.1, ((h.1 c2).2 c4).1.2.2.2.2.2.2.2⟩, ((h.1 c2).2 c4).2⟩⟩⟩⟩⟩⟩⟩⟩⟩, fun c2 => ⟨⟨rfl, hW.2.1⟩, ⟨⟨rfl, (h.2 c2).1.1, (h.2 c2).1.2⟩, ⟨rfl, (am_cI (h.2 c2).2 fun x5 s5 h5 => ⟨fun c7 => ⟨⟨(h5.2.1 c7).1.1, (h5.2.1 c7).1.2⟩, (h5.2.1 c7).2⟩, fun c7 => ⟨rfl, ⟨fun c9 => ⟨⟨rfl, h5.1.1.2.1⟩, ⟨⟨rfl, (h.2 c2).1.1, (h.2 c2).1.2⟩, ⟨⟨rfl, h5.1.1.2.2.1⟩, ⟨⟨rfl, (h.2 c2).1.1, (h.2 c2).1.2⟩, ⟨rfl, ⟨⟨((h5.2.2 c7).1 c9).1.1, ((h5.2.2 c7).1 c9).1.2.1⟩, ⟨rfl, ⟨⟨rfl, h5.1.1.1⟩, ⟨⟨rfl, ((h5.2.2 c7).1 c9).1.2.2.1, ((h5.2.2 c7).1 c9).1.2.2.2.1⟩, ⟨⟨rfl, h5.1.1.2.2.1⟩, ⟨⟨rfl, (h.2 c2).1.1, (h.2 c2).1.2⟩, ⟨⟨((h5.2.2 c7).1 c9).1.2.2.2.2.1, ((h5.2.2 c7).1 c9).1.2.2.2.2.2.1⟩, ⟨⟨rfl, (h.2 c2).1.1, (h.2 c2).1.2⟩, ⟨⟨((h5.2.2 c7).1 c9).1.2.2.2.2.2.2.1, ((h5.2.2 c7).1 c9).1.2.2.2.2.2.2.2⟩, ((h5.2.2 c7).1 c9).2⟩⟩⟩⟩⟩⟩⟩⟩⟩⟩⟩⟩⟩⟩, fun c9 => ⟨⟨rfl, h5.1.1.1⟩, ⟨⟨rfl, ((h5.2.2 c7).2 c9).1.1, ((h5.2.2 c7).2 c9).1.2.1⟩, ⟨⟨rfl, h5.1.1.2.2.1⟩, ⟨⟨rfl, (h.2 c2).1.1, (h.2 c2).1.2⟩, ⟨⟨((h5.2.2 c7).2 c9).1.2.2.1, ((h5.2.2 c7).2 c9).1.2.2.2.1⟩, ⟨⟨rfl, (h.2 c2).1.1, (h.2 c2).1.2⟩, ⟨⟨((h5.2.2 c7).2 c9).1.2.2.2.2.1, ((h5.2.2 c7).2 c9).1.2.2.2.2.2⟩, ((h5.2.2 c7).2 c9).2⟩⟩⟩⟩⟩⟩⟩⟩⟩⟩)⟩⟩⟩⟩⟩)

/-- the groups of the first i coins are made -/
def GP (σ s : am_S) (w : Nat) (X : sX) (c : Nat → Int) (i : Nat) : Prop := s.2 = σ.2 ∧ (∀ x, x ≠ w → x ≠ w + 1 → x ≠ w + 2 → x ≠ w + 3 → sI s x = sI σ x) ∧ sI s w 5 = xN X ∧ sI s w 6 = gN X c i ∧ sI s w 7 = 0 ∧ sI s w 8 = -1 ∧ (∀ q, q < i → sI s (w + 1) q = gG X c i q) ∧ ∀ g, g < gN X c i → sI s (w + 2) g = gL X c i g ∧ sI s (w + 3) g = gZ X c i g
theorem c_begin (d : Nat) {w q aI nI : Nat} {X : sX} {c : Nat → Int} {σ : am_S} {K : am_S → Prop} (hW : WF σ w) (hC : CF σ) (hi : sR σ 13 4 = some (aI, 20, nI)) (hX : XV X) (h2 : sI σ 13 2 = xN X) (hM : sI σ 13 3 = xM X) (hI : IMG σ aI X) (hnI : 3960 ≤ nI) (hc : ∀ s, s < xM X → sI σ q s = c s ∧ -1 ≤ c s) (n13 : ∀ k, k < 4 → w + k ≠ 13) (nI' : ∀ k, k < 4 → w + k ≠ aI) (nq : ∀ k, k < 4 → w + k ≠ q)
    (h : ∀ s, GP σ s w X c (xN X) → K s) : am_Calls PP MLL (d + 3) m_Weighings_begin [qr (w, 10, 11), qr (13, 6, 5), qr (q, 20, 60)] σ (kV K) := by
  have hN := hX.1
  have fx : ∀ s, s.2 = σ.2 → WF s w ∧ CF s ∧ sR s 13 4 = some (aI, 20, nI) := by
    intro s hs
    have e : sR s = sR σ := by
      funext a j
      exact R2' hs a j
    unfold WF CF
    rw [e]
    exact ⟨hW, hC, hi⟩
  have m0 := n13 0 (by decide)
  have m1 := n13 1 (by decide)
  have m2 := n13 2 (by decide)
  have m3 := n13 3 (by decide)
  have i0 := nI' 0 (by decide)
  have i1 := nI' 1 (by decide)
  have i2 := nI' 2 (by decide)
  have i3 := nI' 3 (by decide)
  have q0 := nq 0 (by decide)
  have q1 := nq 1 (by decide)
  have q2 := nq 2 (by decide)
  have q3 := nq 3 (by decide)
  have n1 : w + 1 ≠ w := by omega
  have n2 : w + 2 ≠ w := by omega
  have n3 : w + 3 ≠ w := by omega
  have n12 : w + 1 ≠ w + 2 := by omega
  have n13' : w + 1 ≠ w + 3 := by omega
  have n23 : w + 2 ≠ w + 3 := by omega
  -- a coin gets its group
  have put : ∀ (i : Nat) (s : am_S), i < xN X → GP σ s w X c i → (∀ s' z4, GP σ s' w X c (i + 1) → am_Runs PP MLL (d + 2) m_Weighings_begin 15 [some (qr (w, 10, 11)), some (qr (13, 6, 5)), some (qr (q, 20, 60)), some (qi ((i + 1 : Nat) : Int)), z4] [] s' (kV K)) → gF X c i = gN X c i → am_Runs PP MLL (d + 2) m_Weighings_begin 15 [some (qr (w, 10, 11)), some (qr (13, 6, 5)), some (qr (q, 20, 60)), some (qi ((i : Int) + 1)), some (qi (gF X c i : Int))] [] (putI (putI (putI (putI (putI s (w + 2) (gF X c i) (i : Int)) (w + 3) (gF X c i) 0) w 6 ((gN X c i : Int) + 1)) (w + 1) i (gF X c i : Int)) (w + 3) (gF X c i) (0 + 1)) (kV K) := by
    intro i s hi2 hs ih ef
    obtain ⟨g1, g2, g3, g4, g5, g6, g7, g8⟩ := hs
    refine ih _ _ ⟨g1, fun x x0 x1 x2 x3 => ?_, ?_, ?_, ?_, ?_, fun p hp => ?_, fun g hg => ?_⟩
    · rw [put_ne x3, put_ne x1, put_ne x0, put_ne x3, put_ne x2, g2 x x0 x1 x2 x3]
    · rw [put_ne n3.symm, put_ne n1.symm, put_at, if_neg (by decide), put_ne n3.symm, put_ne n2.symm, g3]
    · rw [put_ne n3.symm, put_ne n1.symm, put_at, if_pos rfl, gN_s, if_pos ef]
      rfl
    · rw [put_ne n3.symm, put_ne n1.symm, put_at, if_neg (by decide), put_ne n3.symm, put_ne n2.symm, g5]
    · rw [put_ne n3.symm, put_ne n1.symm, put_at, if_neg (by decide), put_ne n3.symm, put_ne n2.symm, g6]
    · rw [put_ne n13', put_at, put_ne n1, put_ne n13', put_ne n12, gG_s]
      by_cases e : p = i
      · rw [if_pos e, if_pos e]
      · rw [if_neg e, if_neg e]
        exact g7 p (by omega)
    · rw [gN_s, if_pos ef] at hg
      rw [put_ne n23, put_ne n12.symm, put_ne n2, put_ne n23, put_at, put_at, put_ne n13'.symm, put_ne n3, put_at, put_ne n23.symm, gL_s, gZ_s]
      by_cases e : g = gF X c i
      · rw [if_pos e, if_pos ⟨e, ef⟩, if_pos e, if_pos e, if_pos (by omega)]
        exact ⟨rfl, rfl⟩
      · rw [if_neg e, if_neg (fun w => e w.1), if_neg e, if_neg e, if_neg e]
        exact g8 g (by omega)
  have put2 : ∀ (i : Nat) (s : am_S), i < xN X → GP σ s w X c i → (∀ s' z4, GP σ s' w X c (i + 1) → am_Runs PP MLL (d + 2) m_Weighings_begin 15 [some (qr (w, 10, 11)), some (qr (13, 6, 5)), some (qr (q, 20, 60)), some (qi ((i + 1 : Nat) : Int)), z4] [] s' (kV K)) → gF X c i < gN X c i → am_Runs PP MLL (d + 2) m_Weighings_begin 15 [some (qr (w, 10, 11)), some (qr (13, 6, 5)), some (qr (q, 20, 60)), some (qi ((i : Int) + 1)), some (qi (gF X c i : Int))] [] (putI (putI s (w + 1) i (gF X c i : Int)) (w + 3) (gF X c i) ((gZ X c i (gF X c i) : Int) + 1)) (kV K) := by
    intro i s hi2 hs ih ef
    obtain ⟨g1, g2, g3, g4, g5, g6, g7, g8⟩ := hs
    have ef' : ¬ gF X c i = gN X c i := by omega
    refine ih _ _ ⟨g1, fun x x0 x1 x2 x3 => ?_, ?_, ?_, ?_, ?_, fun p hp => ?_, fun g hg => ?_⟩
    · rw [put_ne x3, put_ne x1, g2 x x0 x1 x2 x3]
    · rw [put_ne n3.symm, put_ne n1.symm, g3]
    · rw [put_ne n3.symm, put_ne n1.symm, g4, gN_s, if_neg ef']
    · rw [put_ne n3.symm, put_ne n1.symm, g5]
    · rw [put_ne n3.symm, put_ne n1.symm, g6]
    · rw [put_ne n13', put_at, gG_s]
      by_cases e : p = i
      · rw [if_pos e, if_pos e]
      · rw [if_neg e, if_neg e]
        exact g7 p (by omega)
    · rw [gN_s, if_neg ef'] at hg
      rw [put_ne n23, put_ne n12.symm, put_at, put_ne n13'.symm, gL_s, gZ_s, if_neg (fun w => ef' w.2)]
      refine ⟨(g8 g hg).1, ?_⟩
      by_cases e : g = gF X c i
      · rw [if_pos e, if_pos e, if_neg (by omega), e]
        rfl
      · rw [if_neg e, if_neg e]
        exact (g8 g hg).2
  have lp0 : ∀ i : Nat, i ≤ xN X → ∀ s z4, GP σ s w X c i → am_Runs PP MLL (d + 2) m_Weighings_begin 15 [some (qr (w, 10, 11)), some (qr (13, 6, 5)), some (qr (q, 20, 60)), some (qi (i : Int)), z4] [] s (kV K) := by
    refine lp ?_ ?_
    · intro s z4 hs
      obtain ⟨t1, t2, t3⟩ := fx s hs.1
      exact v_Weighings_begin_15 d w q aI nI _ z4 s K t1 t2 t3 ⟨fun _ => h s hs, fun c => absurd (by rw [hs.2.2.1]; exact Int.le_refl _) c⟩
    · intro i hi2 ih s z4 hs
      obtain ⟨t1, t2, t3⟩ := fx s hs.1
      have hs0 := hs
      obtain ⟨g1, g2, g3, g4, g5, g6, g7, g8⟩ := hs
      have gi := g_inv X c i
      obtain ⟨f1, f2, f3, f4⟩ := ff_spec (fun g => AL X c ((gst X c i).2.1 g) i) (gst X c i).1 0
      have hle := gF_le X c i
      refine v_Weighings_begin_15 d w q aI nI _ z4 s K t1 t2 t3 ⟨fun c => absurd c (by rw [g3]; omega), fun _ => ?_⟩
      -- the inner loop: up to the group of the coin
      have inner : ∀ g : Nat, g ≤ gF X c i → am_Runs PP MLL (d + 2) m_Weighings_begin 21 [some (qr (w, 10, 11)), some (qr (13, 6, 5)), some (qr (q, 20, 60)), some (qi (i : Int)), some (qi (g : Int))] [] s (kV K) := by
        refine lp ?_ ?_
        · by_cases ef : gF X c i = gN X c i
          · refine v_Weighings_begin_21 d w q aI nI _ _ s K t1 t2 t3 ⟨fun c1 => ⟨fun c2 => ?_, fun c2 => absurd (by rw [g4, ef]) c2⟩, fun c1 => absurd (by rw [g4]; omega) c1⟩
            have pe : ∀ (T : am_S) (x i : Nat) (v : Int), sI (putI T x i v) x i = v := fun T x i v => by rw [put_at, if_pos rfl]
            simp only [Int.toNat_natCast, put_ne n3.symm, put_ne n2.symm, put_ne n13'.symm, put_ne n3, pe, g4]
            refine ⟨by omega, ?_⟩
            exact put i s hi2 hs0 ih ef
          · have hlt : gF X c i < gN X c i := by omega
            have hA : AL X c (gL X c i (gF X c i)) i := f4 (by rw [Nat.zero_add]; exact hlt)
            have g8' := g8 _ hlt
            have gb := (gi.2.2.1 _ hlt)
            refine v_Weighings_begin_21 d w q aI nI _ _ s K t1 t2 t3 ⟨fun c1 => absurd c1 (by rw [g4]; omega), fun c1 => ⟨by omega, ?_⟩⟩
            rw [Int.toNat_natCast, g8'.1]
            refine c_sexch d t2 t3 hX (by rw [g2 13 (by omega) (by omega) (by omega) (by omega)]; exact hM) (fun s' hs' a b hab hbn => by rw [g2 aI (by omega) (by omega) (by omega) (by omega)]; exact hI s' hs' a b hab hbn) hnI (fun s' hs' => by rw [g2 q (by omega) (by omega) (by omega) (by omega)]; exact hc s' hs') gb.1 hi2 (fun _ => ⟨⟨t1, t2, t3⟩, fun c => absurd c (by decide), fun _ => ?_⟩) (fun hn => absurd hA hn)
            refine ⟨fun c2 => absurd c2 (by rw [g4]; omega), fun c2 => ?_⟩
            have e3 : sI (putI s (w + 1) i (gF X c i : Int)) (w + 3) (gF X c i) = gZ X c i (gF X c i) := by rw [put_ne n13'.symm]; exact g8'.2
            rw [Int.toNat_natCast, e3]
            refine ⟨by omega, ?_⟩
            exact put2 i s hi2 hs0 ih hlt
        · intro g hg ih2
          have hlt : g < gN X c i := by omega
          have hA : ¬ AL X c (gL X c i g) i := f3 g (Nat.zero_le _) hg
          have g8' := g8 _ hlt
          have gb := (gi.2.2.1 _ hlt)
          refine v_Weighings_begin_21 d w q aI nI _ _ s K t1 t2 t3 ⟨fun c1 => absurd c1 (by rw [g4]; omega), fun c1 => ⟨by omega, ?_⟩⟩
          rw [Int.toNat_natCast, g8'.1]
          refine c_sexch d t2 t3 hX (by rw [g2 13 (by omega) (by omega) (by omega) (by omega)]; exact hM) (fun s' hs' a b hab hbn => by rw [g2 aI (by omega) (by omega) (by omega) (by omega)]; exact hI s' hs' a b hab hbn) hnI (fun s' hs' => by rw [g2 q (by omega) (by omega) (by omega) (by omega)]; exact hc s' hs') gb.1 hi2 (fun hy => absurd hy hA) (fun _ => ⟨⟨t1, t2, t3⟩, fun _ => ⟨by omega, ih2⟩, fun c => absurd rfl c⟩)
      exact inner 0 (Nat.zero_le _)
  refine v_Weighings_begin_0 d w q aI nI σ K hW hC hi ?_
  refine lp0 0 (Nat.zero_le _) _ _ ⟨rfl, fun x x0 _ _ _ => by rw [put_ne x0, put_ne x0, put_ne x0, put_ne x0], ?_, ?_, ?_, ?_, fun q hq => absurd hq (Nat.not_lt_zero q), fun g hg => absurd hg (Nat.not_lt_zero g)⟩
  · rw [put_at, if_neg (by decide), put_at, if_neg (by decide), put_at, if_neg (by decide), put_at, if_pos rfl, h2]
  · rw [put_at, if_neg (by decide), put_at, if_neg (by decide), put_at, if_pos rfl]
    rfl
  · rw [put_at, if_neg (by decide), put_at, if_pos rfl]
  · rw [put_at, if_pos rfl]
