/-! the class: rows are gone through -/
def ab (x : Int) : Int := if 0 ≤ x then x else -x
theorem c_abs (d : Nat) {x : Int} {σ : am_S} {K : Int → am_S → Prop} (h1 : -1000000 ≤ x) (h2 : x ≤ 1000000) (h : K (ab x) σ) : am_Calls PP MLL (d + 1) m_Mth_abs [qi x] σ (kI K) := by
  refine v_Mth_abs_0 d x σ K ⟨fun q => ?_, fun q => ?_⟩
  · unfold ab at h
    rw [if_pos q] at h
    exact h
  · unfold ab at h
    rw [if_neg q] at h
    rw [w32_id (by omega) (by omega)]
    exact h
theorem v_Search_caseHolds_0 (d : Nat) (aQ w : Nat) (p1 p2 : Int) (σ : am_S) (K : Int → am_S → Prop) (hC : CF σ) (hQ : QA σ aQ) (hw : sR σ 12 5 = some (w, 4, 3)) (h :
  (0 ≤ p1 ∧ p1 < 7 ∧ (Int.toNat p1) < 7) ∧
  ((2 ≤ (sI σ (qA aQ (Int.toNat p1)) 4) →
    ((6 ≤ p1 →
      am_Calls PP MLL (d + 5) m_Search_nextRowTells [qr (12, 5, 18), qi (sI σ (qA aQ (Int.toNat p1)) 4)] σ (kI fun x3 s3 =>
        (CF s3 ∧ QA s3 aQ ∧ sR s3 12 5 = some (w, 4, 3)) ∧
        (x3 = 0 ∨ x3 = 1) ∧
        K x3 s3)) ∧
    (¬ (6 ≤ p1) →
      am_Calls PP MLL (d + 5) m_Search_isHopeless [qr (12, 5, 18), qi (sI σ (qA aQ (Int.toNat p1)) 4), qi p2] σ (kI fun x4 s4 =>
        (CF s4 ∧ QA s4 aQ ∧ sR s4 12 5 = some (w, 4, 3)) ∧
        ((x4 = 0 →
          am_Calls PP MLL (d + 5) m_Search_weigherAt [qr (12, 5, 18), qi p1] s4 (kO fun x6 s6 =>
            (CF s6 ∧ QA s6 aQ ∧ sR s6 12 5 = some (w, 4, 3)) ∧
            (rg x6).2.1 = 0 ∧
            am_Calls PP MLL (d + 5) m_Weighings_begin [qr (qA aQ (Int.toNat p1) + 3, 10, 11), qr (13, 6, 5), qr (qA aQ (Int.toNat p1) + 1, 20, 60)] (putI s6 (qA aQ (Int.toNat p1)) 5 (sI s6 ((rg x6).1) 5)) (kV fun s7 =>
              (CF s7 ∧ QA s7 aQ ∧ sR s7 12 5 = some (w, 4, 3)) ∧
              am_Runs PP MLL (d + 5) m_Search_caseHolds 40 [some (qr (12, 5, 18)), some (qi p1), some (qi p2), some (qr (qA aQ (Int.toNat p1), 3, 10)), some (qi 0)] [] s7 (kI K)))) ∧
        (¬ (x4 = 0) →
          am_Calls PP MLL (d + 5) m_Search_nextRowTells [qr (12, 5, 18), qi (sI s4 (qA aQ (Int.toNat p1)) 4)] s4 (kI fun x8 s8 =>
            (CF s8 ∧ QA s8 aQ ∧ sR s8 12 5 = some (w, 4, 3)) ∧
            (x8 = 0 ∨ x8 = 1) ∧
            K x8 s8))))))) ∧
  (¬ (2 ≤ (sI σ (qA aQ (Int.toNat p1)) 4)) →
    K 0 σ))) : am_Runs PP MLL (d + 5) m_Search_caseHolds 0 [some (qr (12, 5, 18)), some (qi p1), some (qi p2), none, none] [] σ (kI K) := am_wEF_ok (orc [(1, aQ, 23, 7), (3, qA aQ (Int.toNat p1), 3, 10), (32, qA aQ (Int.toNat p1) + 3, 10, 11), (34, 13, 6, 5), (36, qA aQ (Int.toNat p1) + 1, 20, 60)]) 200 (⟨⟨rfl, hQ.1⟩, ⟨⟨rfl, h.1.1, h.1.2.1, (hQ.2 (Int.toNat p1) h.1.2.2).1⟩, ⟨rfl, ⟨fun c1 => ⟨fun c2 => ⟨rfl, ⟨rfl, (am_cI ((h.2.1 c1).1 c2) fun x3 s3 h3 => ⟨h3.2.1, h3.2.2⟩)⟩⟩, fun c2 => ⟨rfl, ⟨rfl, (am_cI ((h.2.1 c1).2 c2) fun x4 s4 h4 => ⟨fun c5 => ⟨rfl, (am_cO (h4.2.1 c5) fun x6 s6 h6 => ⟨h6.2.1, ⟨rfl, ⟨⟨rfl, (h6.1.2.1.2 (Int.toNat p1) h.1.2.2).2.1.2.2⟩, ⟨⟨rfl, (h6.1.1 12 1 _ rfl)⟩, ⟨⟨rfl, (h6.1.2.1.2 (Int.toNat p1) h.1.2.2).2.1.1⟩, ⟨rfl, (am_cV h6.2.2 fun s7 h7 => h7.2)⟩⟩⟩⟩⟩⟩)⟩, fun c5 => ⟨rfl, ⟨rfl, (am_cI (h4.2.2 c5) fun x8 s8 h8 => ⟨h8.2.1, h8.2.2⟩)⟩⟩⟩)⟩⟩⟩, fun c1 => ⟨(Or.inl rfl), (h.2.2 c1)⟩⟩⟩⟩⟩)

theorem v_Search_caseHolds_40 (d : Nat) (aQ l w : Nat) (p1 p2 v4 : Int) (σ : am_S) (K : Int → am_S → Prop) (hC : CF σ) (hQ : QA σ aQ) (hw : sR σ 12 5 = some (w, 4, 3)) (h :
  (((sI σ w 2) < v4 →
    K 1 σ) ∧
  (¬ ((sI σ w 2) < v4) →
    l < 7 ∧
    am_Calls PP MLL (d + 5) m_Weighings_advance [qr (qA aQ l + 3, 10, 11)] σ (kI fun x2 s2 =>
      (CF s2 ∧ QA s2 aQ ∧ sR s2 12 5 = some (w, 4, 3)) ∧
      ((x2 = 0 →
        K 1 s2) ∧
      (¬ (x2 = 0) →
        am_Calls PP MLL (d + 5) m_Search_nextRowFits [qr (12, 5, 18), qr (qA aQ l, 3, 10)] s2 (kI fun x4 s4 =>
          (CF s4 ∧ QA s4 aQ ∧ sR s4 12 5 = some (w, 4, 3)) ∧
          ((x4 = 0 →
            K 0 s4) ∧
          (¬ (x4 = 0) →
            am_Calls PP MLL (d + 5) m_Search_hearAll [qr (12, 5, 18), qr (qA aQ l, 3, 10), qi p1] s4 (kV fun s6 =>
              (CF s6 ∧ QA s6 aQ ∧ sR s6 12 5 = some (w, 4, 3)) ∧
              (-2147483648 ≤ p1 + 1 ∧ p1 + 1 < 2147483648 ∧ 0 ≤ (p1 + 1) ∧ (p1 + 1) < 7 ∧ (Int.toNat (p1 + 1)) < 7) ∧
              am_Calls PP MLL (d + 5) m_Search_weigherAt [qr (12, 5, 18), qi p1] s6 (kO fun x7 s7 =>
                (CF s7 ∧ QA s7 aQ ∧ sR s7 12 5 = some (w, 4, 3)) ∧
                am_Calls PP MLL (d + 5) m_Question_takeOutcome [qr (qA aQ (Int.toNat (p1 + 1)), 3, 10), qr (qA aQ l, 3, 10), qo x7, qi (sI s7 12 8)] s7 (kV fun s8 =>
                  (CF s8 ∧ QA s8 aQ ∧ sR s8 12 5 = some (w, 4, 3)) ∧
                  (-2147483648 ≤ p2 - 1 ∧ p2 - 1 < 2147483648) ∧
                  am_Calls PP MLL (d + 5) m_Search_caseHolds [qr (12, 5, 18), qi (p1 + 1), qi (p2 - 1)] s8 (kI fun x9 s9 =>
                    (CF s9 ∧ QA s9 aQ ∧ sR s9 12 5 = some (w, 4, 3)) ∧
                    ((x9 = 0 →
                      K 0 s9) ∧
                    (¬ (x9 = 0) →
                      (-2147483648 ≤ v4 + 1 ∧ v4 + 1 < 2147483648) ∧
                      am_Runs PP MLL (d + 5) m_Search_caseHolds 40 [some (qr (12, 5, 18)), some (qi p1), some (qi p2), some (qr (qA aQ l, 3, 10)), some (qi (v4 + 1))] [] s9 (kI K)))))))))))))))) : am_Runs PP MLL (d + 5) m_Search_caseHolds 40 [some (qr (12, 5, 18)), some (qi p1), some (qi p2), some (qr (qA aQ l, 3, 10)), some (qi v4)] [] σ (kI K) := am_wEF_ok (orc [(42, w, 4, 3), (46, qA aQ l + 3, 10, 11), (60, aQ, 23, 7), (64, qA aQ (Int.toNat (p1 + 1)), 3, 10)]) 200 (⟨⟨rfl, hw⟩, ⟨rfl, ⟨fun c1 => ⟨(Or.inr rfl), (h.1 c1)⟩, fun c1 => ⟨⟨rfl, (hQ.2 l (h.2 c1).1).2.1.2.2⟩, ⟨rfl, (am_cI (h.2 c1).2 fun x2 s2 h2 => ⟨fun c3 => ⟨(Or.inr rfl), (h2.2.1 c3)⟩, fun c3 => ⟨rfl, (am_cI (h2.2.2 c3) fun x4 s4 h4 => ⟨fun c5 => ⟨(Or.inl rfl), (h4.2.1 c5)⟩, fun c5 => ⟨rfl, (am_cV (h4.2.2 c5) fun s6 h6 => ⟨⟨rfl, h6.1.2.1.1⟩, ⟨⟨h6.2.1.1, h6.2.1.2.1⟩, ⟨⟨rfl, h6.2.1.2.2.1, h6.2.1.2.2.2.1, (h6.1.2.1.2 (Int.toNat (p1 + 1)) h6.2.1.2.2.2.2).1⟩, ⟨rfl, (am_cO h6.2.2 fun x7 s7 h7 => ⟨rfl, ⟨rfl, (am_cV h7.2 fun s8 h8 => ⟨⟨h6.2.1.1, h6.2.1.2.1⟩, ⟨⟨h8.2.1.1, h8.2.1.2⟩, ⟨rfl, (am_cI h8.2.2 fun x9 s9 h9 => ⟨fun c10 => ⟨(Or.inl rfl), (h9.2.1 c10)⟩, fun c10 => ⟨⟨(h9.2.2 c10).1.1, (h9.2.2 c10).1.2⟩, (h9.2.2 c10).2⟩⟩)⟩⟩⟩)⟩⟩)⟩⟩⟩⟩)⟩⟩)⟩⟩)⟩⟩⟩⟩⟩)

def chW (d aQ l w : Nat) (p1 p2 v4 : Int) (s2 : am_S) (K : Int → am_S → Prop) : Prop :=
        am_Calls PP MLL (d + 5) m_Search_nextRowFits [qr (12, 5, 18), qr (qA aQ l, 3, 10)] s2 (kI fun x4 s4 =>
          (CF s4 ∧ QA s4 aQ ∧ sR s4 12 5 = some (w, 4, 3)) ∧
          ((x4 = 0 →
            K 0 s4) ∧
          (¬ (x4 = 0) →
            am_Calls PP MLL (d + 5) m_Search_hearAll [qr (12, 5, 18), qr (qA aQ l, 3, 10), qi p1] s4 (kV fun s6 =>
              (CF s6 ∧ QA s6 aQ ∧ sR s6 12 5 = some (w, 4, 3)) ∧
              (-2147483648 ≤ p1 + 1 ∧ p1 + 1 < 2147483648 ∧ 0 ≤ (p1 + 1) ∧ (p1 + 1) < 7 ∧ (Int.toNat (p1 + 1)) < 7) ∧
              am_Calls PP MLL (d + 5) m_Search_weigherAt [qr (12, 5, 18), qi p1] s6 (kO fun x7 s7 =>
                (CF s7 ∧ QA s7 aQ ∧ sR s7 12 5 = some (w, 4, 3)) ∧
                am_Calls PP MLL (d + 5) m_Question_takeOutcome [qr (qA aQ (Int.toNat (p1 + 1)), 3, 10), qr (qA aQ l, 3, 10), qo x7, qi (sI s7 12 8)] s7 (kV fun s8 =>
                  (CF s8 ∧ QA s8 aQ ∧ sR s8 12 5 = some (w, 4, 3)) ∧
                  (-2147483648 ≤ p2 - 1 ∧ p2 - 1 < 2147483648) ∧
                  am_Calls PP MLL (d + 5) m_Search_caseHolds [qr (12, 5, 18), qi (p1 + 1), qi (p2 - 1)] s8 (kI fun x9 s9 =>
                    (CF s9 ∧ QA s9 aQ ∧ sR s9 12 5 = some (w, 4, 3)) ∧
                    ((x9 = 0 →
                      K 0 s9) ∧
                    (¬ (x9 = 0) →
                      (-2147483648 ≤ v4 + 1 ∧ v4 + 1 < 2147483648) ∧
                      am_Runs PP MLL (d + 5) m_Search_caseHolds 40 [some (qr (12, 5, 18)), some (qi p1), some (qi p2), some (qr (qA aQ l, 3, 10)), some (qi (v4 + 1))] [] s9 (kI K))))))))))
theorem v_Search_nextRowTells_0 (d : Nat) (w w0 m0 w1 m1 : Nat) (p1 : Int) (σ : am_S) (K : Int → am_S → Prop) (hC : CF σ) (hw : sR σ 12 5 = some (w, 4, 3)) (h0 : sR σ w 0 = some (w0, 20, m0)) (h1 : sR σ w 1 = some (w1, 20, m1)) (h :
  (((sI σ 12 14) < (sI σ w 2) →
    (-2147483648 ≤ (sI σ 12 14) + 1 ∧ (sI σ 12 14) + 1 < 2147483648 ∧ 0 ≤ (sI σ 12 14) ∧ (sI σ 12 14) < ((m0 : Nat) : Int)) ∧
    (((sI (putI σ 12 14 ((sI σ 12 14) + 1)) w0 (Int.toNat (sI σ 12 14))) = (-1)) → (sI σ 12 14) < ((m1 : Nat) : Int)) ∧
    ((if (sI (putI σ 12 14 ((sI σ 12 14) + 1)) w0 (Int.toNat (sI σ 12 14))) = (-1) then (if (sI (putI σ 12 14 ((sI σ 12 14) + 1)) w1 (Int.toNat (sI σ 12 14))) = p1 then (1 : Int) else 0 : Int) else 0) = 0 ∨ (if (sI (putI σ 12 14 ((sI σ 12 14) + 1)) w0 (Int.toNat (sI σ 12 14))) = (-1) then (if (sI (putI σ 12 14 ((sI σ 12 14) + 1)) w1 (Int.toNat (sI σ 12 14))) = p1 then (1 : Int) else 0 : Int) else 0) = 1) ∧
    K (if (sI (putI σ 12 14 ((sI σ 12 14) + 1)) w0 (Int.toNat (sI σ 12 14))) = (-1) then (if (sI (putI σ 12 14 ((sI σ 12 14) + 1)) w1 (Int.toNat (sI σ 12 14))) = p1 then (1 : Int) else 0 : Int) else 0) (putI σ 12 14 ((sI σ 12 14) + 1))) ∧
  (¬ ((sI σ 12 14) < (sI σ w 2)) →
    K 0 σ))) : am_Runs PP MLL d m_Search_nextRowTells 0 [some (qr (12, 5, 18)), some (qi p1), none] [] σ (kI K) := am_wEC_ok (orc [(3, w, 4, 3), (18, w, 4, 3), (19, w0, 20, m0), (25, w, 4, 3), (26, w1, 20, m1)]) [34] 200 (⟨rfl, ⟨⟨rfl, hw⟩, ⟨rfl, ⟨fun c1 => ⟨rfl, ⟨rfl, ⟨⟨(h.1 c1).1.1, (h.1 c1).1.2.1⟩, ⟨rfl, ⟨⟨rfl, hw⟩, ⟨⟨rfl, h0⟩, ⟨⟨rfl, (h.1 c1).1.2.2.1, (h.1 c1).1.2.2.2⟩, am_use (fun H4 => ⟨fun c2 => ⟨⟨rfl, hw⟩, ⟨⟨rfl, h1⟩, ⟨⟨rfl, (h.1 c1).1.2.2.1, ((h.1 c1).2.1 c2)⟩, ⟨fun c3 => (Eq.mp (congrArg (fun z => am_Runs _ _ _ _ _ _ (qi z :: _) _ _) (Eq.trans (if_pos c2 : (if (sI (putI σ 12 14 ((sI σ 12 14) + 1)) w0 (Int.toNat (sI σ 12 14))) = (-1) then (if (sI (putI σ 12 14 ((sI σ 12 14) + 1)) w1 (Int.toNat (sI σ 12 14))) = p1 then (1 : Int) else 0 : Int) else 0) = if (sI (putI σ 12 14 ((sI σ 12 14) + 1)) w1 (Int.toNat (sI σ 12 14))) = p1 then (1 : Int) else 0) (if_pos c3 : (if (sI (putI σ 12 14 ((sI σ 12 14) + 1)) w1 (Int.toNat (sI σ 12 14))) = p1 then (1 : Int) else 0) = 1))) H4), fun c3 => (Eq.mp (congrArg (fun z => am_Runs _ _ _ _ _ _ (qi z :: _) _ _) (Eq.trans (if_pos c2 : (if (sI (putI σ 12 14 ((sI σ 12 14) + 1)) w0 (Int.toNat (sI σ 12 14))) = (-1) then (if (sI (putI σ 12 14 ((sI σ 12 14) + 1)) w1 (Int.toNat (sI σ 12 14))) = p1 then (1 : Int) else 0 : Int) else 0) = if (sI (putI σ 12 14 ((sI σ 12 14) + 1)) w1 (Int.toNat (sI σ 12 14))) = p1 then (1 : Int) else 0) (if_neg c3 : (if (sI (putI σ 12 14 ((sI σ 12 14) + 1)) w1 (Int.toNat (sI σ 12 14))) = p1 then (1 : Int) else 0) = 0))) H4)⟩⟩⟩⟩, fun c2 => (Eq.mp (congrArg (fun z => am_Runs _ _ _ _ _ _ (qi z :: _) _ _) (if_neg c2 : (if (sI (putI σ 12 14 ((sI σ 12 14) + 1)) w0 (Int.toNat (sI σ 12 14))) = (-1) then (if (sI (putI σ 12 14 ((sI σ 12 14) + 1)) w1 (Int.toNat (sI σ 12 14))) = p1 then (1 : Int) else 0 : Int) else 0) = 0)) H4)⟩) (am_wEC_ok (orc []) [34] 200 (⟨(h.1 c1).2.2.1, (h.1 c1).2.2.2⟩))⟩⟩⟩⟩⟩⟩⟩, fun c1 => ⟨(Or.inl rfl), (h.2 c1)⟩⟩⟩⟩⟩)

theorem v_Search_nextRowFits_0 (d : Nat) (aQ l w w0 m0 w1 m1 : Nat) (σ : am_S) (K : Int → am_S → Prop) (hC : CF σ) (hQ : QA σ aQ) (hw : sR σ 12 5 = some (w, 4, 3)) (h0 : sR σ w 0 = some (w0, 20, m0)) (h1 : sR σ w 1 = some (w1, 20, m1)) (h :
  (((sI σ 12 14) < (sI σ w 2) →
    (0 ≤ (sI σ 12 14) ∧ (sI σ 12 14) < ((m1 : Nat) : Int) ∧ 0 ≤ (sI (putI σ (qA aQ l) 6 (sI σ w1 (Int.toNat (sI σ 12 14)))) 12 14) ∧ (sI (putI σ (qA aQ l) 6 (sI σ w1 (Int.toNat (sI σ 12 14)))) 12 14) < ((m0 : Nat) : Int) ∧ -2147483648 ≤ (sI (putI σ (qA aQ l) 6 (sI σ w1 (Int.toNat (sI σ 12 14)))) 12 14) + 1 ∧ (sI (putI σ (qA aQ l) 6 (sI σ w1 (Int.toNat (sI σ 12 14)))) 12 14) + 1 < 2147483648 ∧ l < 7) ∧
    ((((sI (putI σ (qA aQ l) 6 (sI σ w1 (Int.toNat (sI σ 12 14)))) w0 (Int.toNat (sI (putI σ (qA aQ l) 6 (sI σ w1 (Int.toNat (sI σ 12 14)))) 12 14))) = (sI (putI (putI σ (qA aQ l) 6 (sI σ w1 (Int.toNat (sI σ 12 14)))) 12 14 ((sI (putI σ (qA aQ l) 6 (sI σ w1 (Int.toNat (sI σ 12 14)))) 12 14) + 1)) (qA aQ l + 3) 8)) → -1000000 ≤ (sI (putI (putI σ (qA aQ l) 6 (sI σ w1 (Int.toNat (sI σ 12 14)))) 12 14 ((sI (putI σ (qA aQ l) 6 (sI σ w1 (Int.toNat (sI σ 12 14)))) 12 14) + 1)) (qA aQ l) 6)) ∧ (((sI (putI σ (qA aQ l) 6 (sI σ w1 (Int.toNat (sI σ 12 14)))) w0 (Int.toNat (sI (putI σ (qA aQ l) 6 (sI σ w1 (Int.toNat (sI σ 12 14)))) 12 14))) = (sI (putI (putI σ (qA aQ l) 6 (sI σ w1 (Int.toNat (sI σ 12 14)))) 12 14 ((sI (putI σ (qA aQ l) 6 (sI σ w1 (Int.toNat (sI σ 12 14)))) 12 14) + 1)) (qA aQ l + 3) 8)) → (sI (putI (putI σ (qA aQ l) 6 (sI σ w1 (Int.toNat (sI σ 12 14)))) 12 14 ((sI (putI σ (qA aQ l) 6 (sI σ w1 (Int.toNat (sI σ 12 14)))) 12 14) + 1)) (qA aQ l) 6) ≤ 1000000)) ∧
    ((if (sI (putI σ (qA aQ l) 6 (sI σ w1 (Int.toNat (sI σ 12 14)))) w0 (Int.toNat (sI (putI σ (qA aQ l) 6 (sI σ w1 (Int.toNat (sI σ 12 14)))) 12 14))) = (sI (putI (putI σ (qA aQ l) 6 (sI σ w1 (Int.toNat (sI σ 12 14)))) 12 14 ((sI (putI σ (qA aQ l) 6 (sI σ w1 (Int.toNat (sI σ 12 14)))) 12 14) + 1)) (qA aQ l + 3) 8) then (if (sI (putI (putI σ (qA aQ l) 6 (sI σ w1 (Int.toNat (sI σ 12 14)))) 12 14 ((sI (putI σ (qA aQ l) 6 (sI σ w1 (Int.toNat (sI σ 12 14)))) 12 14) + 1)) (qA aQ l) 5) < (ab (sI (putI (putI σ (qA aQ l) 6 (sI σ w1 (Int.toNat (sI σ 12 14)))) 12 14 ((sI (putI σ (qA aQ l) 6 (sI σ w1 (Int.toNat (sI σ 12 14)))) 12 14) + 1)) (qA aQ l) 6)) then (0 : Int) else 1 : Int) else 0) = 0 ∨ (if (sI (putI σ (qA aQ l) 6 (sI σ w1 (Int.toNat (sI σ 12 14)))) w0 (Int.toNat (sI (putI σ (qA aQ l) 6 (sI σ w1 (Int.toNat (sI σ 12 14)))) 12 14))) = (sI (putI (putI σ (qA aQ l) 6 (sI σ w1 (Int.toNat (sI σ 12 14)))) 12 14 ((sI (putI σ (qA aQ l) 6 (sI σ w1 (Int.toNat (sI σ 12 14)))) 12 14) + 1)) (qA aQ l + 3) 8) then (if (sI (putI (putI σ (qA aQ l) 6 (sI σ w1 (Int.toNat (sI σ 12 14)))) 12 14 ((sI (putI σ (qA aQ l) 6 (sI σ w1 (Int.toNat (sI σ 12 14)))) 12 14) + 1)) (qA aQ l) 5) < (ab (sI (putI (putI σ (qA aQ l) 6 (sI σ w1 (Int.toNat (sI σ 12 14)))) 12 14 ((sI (putI σ (qA aQ l) 6 (sI σ w1 (Int.toNat (sI σ 12 14)))) 12 14) + 1)) (qA aQ l) 6)) then (0 : Int) else 1 : Int) else 0) = 1) ∧
    K (if (sI (putI σ (qA aQ l) 6 (sI σ w1 (Int.toNat (sI σ 12 14)))) w0 (Int.toNat (sI (putI σ (qA aQ l) 6 (sI σ w1 (Int.toNat (sI σ 12 14)))) 12 14))) = (sI (putI (putI σ (qA aQ l) 6 (sI σ w1 (Int.toNat (sI σ 12 14)))) 12 14 ((sI (putI σ (qA aQ l) 6 (sI σ w1 (Int.toNat (sI σ 12 14)))) 12 14) + 1)) (qA aQ l + 3) 8) then (if (sI (putI (putI σ (qA aQ l) 6 (sI σ w1 (Int.toNat (sI σ 12 14)))) 12 14 ((sI (putI σ (qA aQ l) 6 (sI σ w1 (Int.toNat (sI σ 12 14)))) 12 14) + 1)) (qA aQ l) 5) < (ab (sI (putI (putI σ (qA aQ l) 6 (sI σ w1 (Int.toNat (sI σ 12 14)))) 12 14 ((sI (putI σ (qA aQ l) 6 (sI σ w1 (Int.toNat (sI σ 12 14)))) 12 14) + 1)) (qA aQ l) 6)) then (0 : Int) else 1 : Int) else 0) (putI (putI σ (qA aQ l) 6 (sI σ w1 (Int.toNat (sI σ 12 14)))) 12 14 ((sI (putI σ (qA aQ l) 6 (sI σ w1 (Int.toNat (sI σ 12 14)))) 12 14) + 1))) ∧
  (¬ ((sI σ 12 14) < (sI σ w 2)) →
    K 0 σ))) : am_Runs PP MLL (d + 1) m_Search_nextRowFits 0 [some (qr (12, 5, 18)), some (qr (qA aQ l, 3, 10)), none] [] σ (kI K) := am_wEC_ok (orc [(3, w, 4, 3), (10, w, 4, 3), (11, w1, 20, m1), (17, w, 4, 3), (18, w0, 20, m0), (31, qA aQ l + 3, 10, 11)]) [43] 200 (⟨rfl, ⟨⟨rfl, hw⟩, ⟨rfl, ⟨fun c1 => ⟨⟨rfl, hw⟩, ⟨⟨rfl, h1⟩, ⟨rfl, ⟨⟨rfl, (h.1 c1).1.1, (h.1 c1).1.2.1⟩, ⟨rfl, ⟨⟨rfl, hw⟩, ⟨⟨rfl, h0⟩, ⟨rfl, ⟨⟨rfl, (h.1 c1).1.2.2.1, (h.1 c1).1.2.2.2.1⟩, ⟨rfl, ⟨⟨(h.1 c1).1.2.2.2.2.1, (h.1 c1).1.2.2.2.2.2.1⟩, ⟨rfl, ⟨⟨rfl, (hQ.2 l (h.1 c1).1.2.2.2.2.2.2).2.1.2.2⟩, ⟨rfl, am_use (fun H4 => ⟨fun c2 => ⟨rfl, c_abs _ ((h.1 c1).2.1.1 c2) ((h.1 c1).2.1.2 c2) (⟨rfl, ⟨fun c3 => (Eq.mp (congrArg (fun z => am_Runs _ _ _ _ _ _ (qi z :: _) _ _) (Eq.trans (if_pos c2 : (if (sI (putI σ (qA aQ l) 6 (sI σ w1 (Int.toNat (sI σ 12 14)))) w0 (Int.toNat (sI (putI σ (qA aQ l) 6 (sI σ w1 (Int.toNat (sI σ 12 14)))) 12 14))) = (sI (putI (putI σ (qA aQ l) 6 (sI σ w1 (Int.toNat (sI σ 12 14)))) 12 14 ((sI (putI σ (qA aQ l) 6 (sI σ w1 (Int.toNat (sI σ 12 14)))) 12 14) + 1)) (qA aQ l + 3) 8) then (if (sI (putI (putI σ (qA aQ l) 6 (sI σ w1 (Int.toNat (sI σ 12 14)))) 12 14 ((sI (putI σ (qA aQ l) 6 (sI σ w1 (Int.toNat (sI σ 12 14)))) 12 14) + 1)) (qA aQ l) 5) < (ab (sI (putI (putI σ (qA aQ l) 6 (sI σ w1 (Int.toNat (sI σ 12 14)))) 12 14 ((sI (putI σ (qA aQ l) 6 (sI σ w1 (Int.toNat (sI σ 12 14)))) 12 14) + 1)) (qA aQ l) 6)) then (0 : Int) else 1 : Int) else 0) = if (sI (putI (putI σ (qA aQ l) 6 (sI σ w1 (Int.toNat (sI σ 12 14)))) 12 14 ((sI (putI σ (qA aQ l) 6 (sI σ w1 (Int.toNat (sI σ 12 14)))) 12 14) + 1)) (qA aQ l) 5) < (ab (sI (putI (putI σ (qA aQ l) 6 (sI σ w1 (Int.toNat (sI σ 12 14)))) 12 14 ((sI (putI σ (qA aQ l) 6 (sI σ w1 (Int.toNat (sI σ 12 14)))) 12 14) + 1)) (qA aQ l) 6)) then (0 : Int) else 1) (if_pos c3 : (if (sI (putI (putI σ (qA aQ l) 6 (sI σ w1 (Int.toNat (sI σ 12 14)))) 12 14 ((sI (putI σ (qA aQ l) 6 (sI σ w1 (Int.toNat (sI σ 12 14)))) 12 14) + 1)) (qA aQ l) 5) < (ab (sI (putI (putI σ (qA aQ l) 6 (sI σ w1 (Int.toNat (sI σ 12 14)))) 12 14 ((sI (putI σ (qA aQ l) 6 (sI σ w1 (Int.toNat (sI σ 12 14)))) 12 14) + 1)) (qA aQ l) 6)) then (0 : Int) else 1) = 0))) H4), fun c3 => (Eq.mp (congrArg (fun z => am_Runs _ _ _ _ _ _ (qi z :: _) _ _) (Eq.trans (if_pos c2 : (if (sI (putI σ (qA aQ l) 6 (sI σ w1 (Int.toNat (sI σ 12 14)))) w0 (Int.toNat (sI (putI σ (qA aQ l) 6 (sI σ w1 (Int.toNat (sI σ 12 14)))) 12 14))) = (sI (putI (putI σ (qA aQ l) 6 (sI σ w1 (Int.toNat (sI σ 12 14)))) 12 14 ((sI (putI σ (qA aQ l) 6 (sI σ w1 (Int.toNat (sI σ 12 14)))) 12 14) + 1)) (qA aQ l + 3) 8) then (if (sI (putI (putI σ (qA aQ l) 6 (sI σ w1 (Int.toNat (sI σ 12 14)))) 12 14 ((sI (putI σ (qA aQ l) 6 (sI σ w1 (Int.toNat (sI σ 12 14)))) 12 14) + 1)) (qA aQ l) 5) < (ab (sI (putI (putI σ (qA aQ l) 6 (sI σ w1 (Int.toNat (sI σ 12 14)))) 12 14 ((sI (putI σ (qA aQ l) 6 (sI σ w1 (Int.toNat (sI σ 12 14)))) 12 14) + 1)) (qA aQ l) 6)) then (0 : Int) else 1 : Int) else 0) = if (sI (putI (putI σ (qA aQ l) 6 (sI σ w1 (Int.toNat (sI σ 12 14)))) 12 14 ((sI (putI σ (qA aQ l) 6 (sI σ w1 (Int.toNat (sI σ 12 14)))) 12 14) + 1)) (qA aQ l) 5) < (ab (sI (putI (putI σ (qA aQ l) 6 (sI σ w1 (Int.toNat (sI σ 12 14)))) 12 14 ((sI (putI σ (qA aQ l) 6 (sI σ w1 (Int.toNat (sI σ 12 14)))) 12 14) + 1)) (qA aQ l) 6)) then (0 : Int) else 1) (if_neg c3 : (if (sI (putI (putI σ (qA aQ l) 6 (sI σ w1 (Int.toNat (sI σ 12 14)))) 12 14 ((sI (putI σ (qA aQ l) 6 (sI σ w1 (Int.toNat (sI σ 12 14)))) 12 14) + 1)) (qA aQ l) 5) < (ab (sI (putI (putI σ (qA aQ l) 6 (sI σ w1 (Int.toNat (sI σ 12 14)))) 12 14 ((sI (putI σ (qA aQ l) 6 (sI σ w1 (Int.toNat (sI σ 12 14)))) 12 14) + 1)) (qA aQ l) 6)) then (0 : Int) else 1) = 1))) H4)⟩⟩)⟩, fun c2 => (Eq.mp (congrArg (fun z => am_Runs _ _ _ _ _ _ (qi z :: _) _ _) (if_neg c2 : (if (sI (putI σ (qA aQ l) 6 (sI σ w1 (Int.toNat (sI σ 12 14)))) w0 (Int.toNat (sI (putI σ (qA aQ l) 6 (sI σ w1 (Int.toNat (sI σ 12 14)))) 12 14))) = (sI (putI (putI σ (qA aQ l) 6 (sI σ w1 (Int.toNat (sI σ 12 14)))) 12 14 ((sI (putI σ (qA aQ l) 6 (sI σ w1 (Int.toNat (sI σ 12 14)))) 12 14) + 1)) (qA aQ l + 3) 8) then (if (sI (putI (putI σ (qA aQ l) 6 (sI σ w1 (Int.toNat (sI σ 12 14)))) 12 14 ((sI (putI σ (qA aQ l) 6 (sI σ w1 (Int.toNat (sI σ 12 14)))) 12 14) + 1)) (qA aQ l) 5) < (ab (sI (putI (putI σ (qA aQ l) 6 (sI σ w1 (Int.toNat (sI σ 12 14)))) 12 14 ((sI (putI σ (qA aQ l) 6 (sI σ w1 (Int.toNat (sI σ 12 14)))) 12 14) + 1)) (qA aQ l) 6)) then (0 : Int) else 1 : Int) else 0) = 0)) H4)⟩) (am_wEC_ok (orc []) [43] 200 (⟨(h.1 c1).2.2.1, (h.1 c1).2.2.2⟩))⟩⟩⟩⟩⟩⟩⟩⟩⟩⟩⟩⟩⟩⟩, fun c1 => ⟨(Or.inl rfl), (h.2 c1)⟩⟩⟩⟩⟩)

/-- the rows -/
def chR (σ : am_S) (w w0 m0 w1 m1 m : Nat) (r1 r2 : Nat → Int) : Prop := sR σ 12 5 = some (w, 4, 3) ∧ sR σ w 0 = some (w0, 20, m0) ∧ sR σ w 1 = some (w1, 20, m1) ∧ m ≤ m0 ∧ m ≤ m1 ∧ m ≤ 600 ∧ sI σ w 2 = m ∧ sI σ w0 = r1 ∧ sI σ w1 = r2 ∧ ∀ i, i < m → -100000 ≤ r2 i ∧ r2 i ≤ 100000
def chS (own : Nat → Nat) (w w0 w1 : Nat) : Prop := (own w < 2000 ∧ own w0 < 2000 ∧ own w1 < 2000) ∧ w ≠ 12 ∧ w0 ≠ 12 ∧ w1 ≠ 12
/-- the frame from question dp on -/
def CHf (σ s : am_S) (aQ dp : Nat) : Prop := s.2 = σ.2 ∧ (∀ x, x ≠ 12 → (∀ i k, dp ≤ i → i < 7 → k < 9 → x ≠ qA aQ i + k) → sI s x = sI σ x) ∧ ∀ j, j ≠ 14 → sI s 12 j = sI σ 12 j
theorem CHf_rf (σ : am_S) (aQ dp : Nat) : CHf σ σ aQ dp := ⟨rfl, fun _ _ _ => rfl, fun _ _ => rfl⟩
theorem CHf_tr {σ s t : am_S} {aQ dp : Nat} (h : CHf σ s aQ dp) (h2 : CHf s t aQ dp) : CHf σ t aQ dp := ⟨h2.1.trans h.1, fun x x1 x2 => (h2.2.1 x x1 x2).trans (h.2.1 x x1 x2), fun j hj => (h2.2.2 j hj).trans (h.2.2 j hj)⟩
theorem CHf_le {σ s : am_S} {aQ dp dq : Nat} (h : CHf σ s aQ dp) (hq : dq ≤ dp) : CHf σ s aQ dq := ⟨h.1, fun x x1 x2 => h.2.1 x x1 (fun i k i1 i2 k1 => x2 i k (by omega) i2 k1), h.2.2⟩
theorem CHf_SE {σ s : am_S} {own : Nat → Nat} {aQ k0 dp : Nat} {tr : Nat → Nat} {X : sX} {c0 : Nat → Int} (hE : SE σ own aQ k0 tr X c0) (h : CHf σ s aQ dp) : SE s own aQ k0 tr X c0 := by
  have h87 := SE_87 hE
  refine SE_I hE h.1 (fun x _ hp => h.2.1 x (fun e => hp (by rw [e, h87 12 (by decide)]; exact Or.inl rfl)) (fun i k _ i2 k1 e => hp (by rw [e, hE.1.2.2.2.2 i i2 k k1]; exact Or.inr (Or.inr (by omega))))) ⟨h.2.2 7 (by decide), h.2.2 8 (by decide), h.2.2 9 (by decide)⟩
theorem chR_fr {σ s : am_S} {own : Nat → Nat} {aQ k0 dp w w0 m0 w1 m1 m : Nat} {tr : Nat → Nat} {X : sX} {c0 r1 r2 : Nat → Int} (hE : SE σ own aQ k0 tr X c0) (hS : chS own w w0 w1) (h : CHf σ s aQ dp) (hR : chR σ w w0 m0 w1 m1 m r1 r2) : chR s w w0 m0 w1 m1 m r1 r2 := by
  obtain ⟨a1, a2, a3, a4, a5, a6, a7, a8, a9, a10⟩ := hR
  obtain ⟨⟨s1, s2, s3⟩, s4, s5, s6⟩ := hS
  have q : ∀ x, own x < 2000 → x ≠ 12 → sI s x = sI σ x := fun x x1 x2 => h.2.1 x x2 (fun i k _ i2 k1 e => by
    have := hE.1.2.2.2.2 i i2 k k1
    rw [← e] at this
    omega)
  exact ⟨by rw [R2' h.1]; exact a1, by rw [R2' h.1]; exact a2, by rw [R2' h.1]; exact a3, a4, a5, a6, by rw [q w s1 s4]; exact a7, by rw [q w0 s2 s5]; exact a8, by rw [q w1 s3 s6]; exact a9, a10⟩
/-- a question with its weighing -/
def LVq (σ : am_S) (aQ dp k : Nat) (X : sX) (c : Nat → Int) : Prop := QB σ (qA aQ dp) X c ∧ QWg σ (qA aQ dp + 3) X c ∧ sI σ (qA aQ dp) 5 = mo (xK X k)
theorem LV_fr {σ s : am_S} {aQ dp k j : Nat} {X : sX} {c : Nat → Int} (hf : ∀ k, k < 9 → sI s (qA aQ dp + k) = sI σ (qA aQ dp + k)) (h : LVq σ aQ dp k X c) (h2 : QWj σ (qA aQ dp + 3) X c j) : LVq s aQ dp k X c ∧ QWj s (qA aQ dp + 3) X c j := by
  have e0 : sI s (qA aQ dp) = sI σ (qA aQ dp) := hf 0 (by decide)
  have e1 := hf 1 (by decide)
  have e3 := hf 3 (by decide)
  have e4 : sI s (qA aQ dp + 3 + 1) = sI σ (qA aQ dp + 3 + 1) := hf 4 (by decide)
  have e5 : sI s (qA aQ dp + 3 + 2) = sI σ (qA aQ dp + 3 + 2) := hf 5 (by decide)
  have e6 : sI s (qA aQ dp + 3 + 3) = sI σ (qA aQ dp + 3 + 3) := hf 6 (by decide)
  have e7 : sI s (qA aQ dp + 3 + 4) = sI σ (qA aQ dp + 3 + 4) := hf 7 (by decide)
  have e8 : sI s (qA aQ dp + 3 + 5) = sI σ (qA aQ dp + 3 + 5) := hf 8 (by decide)
  unfold LVq QB QWg at h ⊢
  unfold QWj QWb at h2 ⊢
  rw [e0, e1, e3, e4, e5, e6, e7, e8]
  exact ⟨h, h2⟩
theorem q_ne {aQ i j k l : Nat} (hk : k < 9) (hl : l < 9) (h : i ≠ j) : qA aQ i + k ≠ qA aQ j + l := by
  unfold qA
  omega
theorem qA_12 {σ : am_S} {own : Nat → Nat} {aQ k0 i k : Nat} {tr : Nat → Nat} {X : sX} {c0 : Nat → Int} (hE : SE σ own aQ k0 tr X c0) (hi : i < 7) (hk : k < 9) : qA aQ i + k ≠ 12 := fun e => by
  have := hE.1.2.2.2.2 i hi k hk
  rw [e, SE_87 hE 12 (by decide)] at this
  omega
theorem qA_w {σ : am_S} {own : Nat → Nat} {aQ k0 i k x : Nat} {tr : Nat → Nat} {X : sX} {c0 : Nat → Int} (hE : SE σ own aQ k0 tr X c0) (hi : i < 7) (hk : k < 9) (hx : own x < 2000) : x ≠ qA aQ i + k := fun e => by
  have := hE.1.2.2.2.2 i hi k hk
  rw [← e] at this
  omega
/-- a row that tells how many -/
theorem e_tells (d : Nat) {own : Nat → Nat} {aQ k0 dp w w0 m0 w1 m1 m a : Nat} {tr : Nat → Nat} {X : sX} {c c0 r1 r2 : Nat → Int} {σ : am_S} {K : Int → am_S → Prop} (hE : SE σ own aQ k0 tr X c0) (hS : chS own w w0 w1) (hR : chR σ w w0 m0 w1 m1 m r1 r2) (h14 : sI σ 12 14 = a) (hy : ∀ s, ck1 X r1 r2 m c a = some (a + 1) → a + 1 ≤ m → CHf σ s aQ dp → sI s 12 14 = ((a + 1 : Nat) : Int) → K 1 s) (hn : ck1 X r1 r2 m c a = none → ∀ s, CHf σ s aQ dp → K 0 s) : am_Calls PP MLL (d + 2) m_Search_nextRowTells [qr (12, 5, 18), qi (mn X c)] σ (kI K) := by
  obtain ⟨a1, a2, a3, a4, a5, a6, a7, a8, a9, a10⟩ := hR
  obtain ⟨⟨s1, s2, s3⟩, s4, s5, s6⟩ := hS
  refine v_Search_nextRowTells_0 _ w w0 m0 w1 m1 (mn X c) σ K (SE_CF hE) a1 a2 a3 ?_
  rw [h14, a7]
  refine ⟨fun hlt => ?_, fun hlt => hn (by unfold ck1; rw [if_neg (fun q => hlt (by omega))]) σ (CHf_rf σ aQ dp)⟩
  rw [Int.toNat_natCast, put_ne s5, put_ne s6, a8, a9]
  have fr : CHf σ (putI σ 12 14 ((a : Int) + 1)) aQ dp := ⟨rfl, fun x x1 _ => put_ne x1, fun j hj => by rw [put_at, if_neg hj]⟩
  have e14 : sI (putI σ 12 14 ((a : Int) + 1)) 12 14 = ((a + 1 : Nat) : Int) := by rw [put_at, if_pos rfl]; omega
  unfold ck1 at hy hn
  refine ⟨by omega, fun _ => by omega, by (repeat' split) <;> omega, ?_⟩
  by_cases g : r1 a = -1 ∧ r2 a = mn X c
  · rw [if_pos g.1, if_pos g.2]
    exact hy _ (by rw [if_pos ⟨by omega, g.1, g.2⟩]) (by omega) fr e14
  · have v0 : (if r1 a = (-1) then (if r2 a = mn X c then (1 : Int) else 0 : Int) else 0) = 0 := by
      by_cases g1 : r1 a = -1
      · rw [if_pos g1, if_neg (fun z => g ⟨g1, z⟩)]
      · rw [if_neg g1]
    rw [v0]
    exact hn (by rw [if_neg (fun q => g q.2)]) _ fr
/-- a row that fits a weighing -/
theorem e_fits (d : Nat) {own : Nat → Nat} {aQ k0 l k w w0 m0 w1 m1 m a j : Nat} {tr : Nat → Nat} {X : sX} {c0 r1 r2 : Nat → Int} {σ : am_S} {K : Int → am_S → Prop} (hE : SE σ own aQ k0 tr X c0) (hS : chS own w w0 w1) (hR : chR σ w w0 m0 w1 m1 m r1 r2) (hl : l < 7) (h14 : sI σ 12 14 = a) (h8 : sI σ (qA aQ l + 3) 8 = j) (h5 : sI σ (qA aQ l) 5 = mo (xK X k)) (hy : ∀ s, (a < m ∧ r1 a = (j : Int) ∧ -mo (xK X k) ≤ r2 a ∧ r2 a ≤ mo (xK X k)) → s.2 = σ.2 → (∀ x, x ≠ 12 → x ≠ qA aQ l → sI s x = sI σ x) → (∀ i, i ≠ 14 → sI s 12 i = sI σ 12 i) → (∀ i, i ≠ 6 → sI s (qA aQ l) i = sI σ (qA aQ l) i) → sI s (qA aQ l) 6 = r2 a → sI s 12 14 = ((a + 1 : Nat) : Int) → K 1 s) (hn : ¬ (a < m ∧ r1 a = (j : Int) ∧ -mo (xK X k) ≤ r2 a ∧ r2 a ≤ mo (xK X k)) → ∀ s, CHf σ s aQ l → K 0 s) : am_Calls PP MLL (d + 3) m_Search_nextRowFits [qr (12, 5, 18), qr (qA aQ l, 3, 10)] σ (kI K) := by
  obtain ⟨a1, a2, a3, a4, a5, a6, a7, a8, a9, a10⟩ := hR
  obtain ⟨⟨s1, s2, s3⟩, s4, s5, s6⟩ := hS
  have n0 : qA aQ l ≠ 12 := qA_12 hE hl (k := 0) (by decide)
  have n3 := qA_12 hE hl (k := 3) (by decide)
  have nw0 : w0 ≠ qA aQ l := qA_w hE hl (k := 0) (by decide) s2
  have n30 : qA aQ l + 3 ≠ qA aQ l := by omega
  refine v_Search_nextRowFits_0 _ aQ l w w0 m0 w1 m1 σ K (SE_CF hE) hE.1.1 a1 a2 a3 ?_
  rw [h14, a7, Int.toNat_natCast, a9]
  obtain ⟨Z1, eZ1⟩ : ∃ Z1, Z1 = putI σ (qA aQ l) 6 (r2 a) := ⟨_, rfl⟩
  rw [← eZ1]
  have z14 : sI Z1 12 14 = (a : Int) := by rw [eZ1, put_ne n0.symm]; exact h14
  rw [z14, Int.toNat_natCast]
  obtain ⟨Z, eZ⟩ : ∃ Z, Z = putI Z1 12 14 ((a : Int) + 1) := ⟨_, rfl⟩
  rw [← eZ]
  have zw0 : sI Z1 w0 = r1 := by rw [eZ1, put_ne nw0]; exact a8
  have z8 : sI Z (qA aQ l + 3) 8 = j := by rw [eZ, put_ne n3, eZ1, put_ne n30]; exact h8
  have z5 : sI Z (qA aQ l) 5 = mo (xK X k) := by rw [eZ, put_ne n0, eZ1, put_at, if_neg (by decide)]; exact h5
  have z6 : sI Z (qA aQ l) 6 = r2 a := by rw [eZ, put_ne n0, eZ1, put_at, if_pos rfl]
  rw [zw0, z8, z5, z6]
  have hZ2 : Z.2 = σ.2 := by rw [eZ, eZ1]; rfl
  have Zo : ∀ x, x ≠ 12 → x ≠ qA aQ l → sI Z x = sI σ x := fun x x1 x2 => by rw [eZ, put_ne x1, eZ1, put_ne x2]
  have Z12 : ∀ i, i ≠ 14 → sI Z 12 i = sI σ 12 i := fun i hi => by rw [eZ, put_at, if_neg hi, eZ1, put_ne n0.symm]
  have frZ : CHf σ Z aQ l := ⟨hZ2, fun x x1 x2 => Zo x x1 (x2 l 0 (Nat.le_refl _) hl (by decide)), Z12⟩
  have Z14 : sI Z 12 14 = ((a + 1 : Nat) : Int) := by rw [eZ, put_at, if_pos rfl]; omega
  refine ⟨fun hlt => ?_, fun hlt => hn (fun q => hlt (by omega)) σ (CHf_rf σ aQ l)⟩
  have bd := a10 a (by omega)
  refine ⟨by omega, ⟨fun _ => by omega, fun _ => by omega⟩, by (repeat' split) <;> omega, ?_⟩
  by_cases g : r1 a = (j : Int)
  · rw [if_pos g]
    by_cases g2 : mo (xK X k) < ab (r2 a)
    · rw [if_pos g2]
      refine hn (fun q => ?_) Z frZ
      unfold ab at g2
      by_cases g3 : 0 ≤ r2 a
      · rw [if_pos g3] at g2; omega
      · rw [if_neg g3] at g2; omega
    · rw [if_neg g2]
      refine hy Z ⟨by omega, g, ?_⟩ hZ2 Zo Z12 (fun i hi => by rw [eZ, put_ne n0, eZ1, put_at, if_neg hi]) z6 Z14
      unfold ab at g2
      by_cases g3 : 0 ≤ r2 a
      · rw [if_pos g3] at g2; omega
      · rw [if_neg g3] at g2; omega
  · rw [if_neg g]
    exact hn (fun q => g q.2.1) Z frZ
set_option maxRecDepth 4096
theorem h_case (d : Nat) {own : Nat → Nat} {aQ k0 w w0 m0 w1 m1 m : Nat} {tr : Nat → Nat} {X : sX} {c0 r1 r2 : Nat → Int} (hS : chS own w w0 w1) : ∀ (n : Nat) (c : Nat → Int) (dp a : Nat) {σ : am_S} {K : Int → am_S → Prop}, SE σ own aQ k0 tr X c0 → chR σ w w0 m0 w1 m1 m r1 r2 → dp + n ≤ 5 → CV X c → QB σ (qA aQ dp) X c → sI σ 12 14 = a → a ≤ m → (∀ s a', ck X r1 r2 m n c (k0 + dp) a = some a' → a ≤ a' → a' ≤ m → CHf σ s aQ dp → sI s 12 14 = (a' : Int) → K 1 s) → (ck X r1 r2 m n c (k0 + dp) a = none → ∀ s, CHf σ s aQ dp → K 0 s) → am_Calls PP MLL (d + n + 6) m_Search_caseHolds [qr (12, 5, 18), qi (dp : Int), qi (n : Int)] σ (kI K)
  | n, c, dp, a, σ, K, hE, hR, hn, hcv, hQ, h14, ham, hy, hno => by
    have hX := hE.2.1.1
    have hk60 := hE.2.1.2.2
    have a1 := hR.1
    refine v_Search_caseHolds_0 (d + n) aQ w (dp : Int) (n : Int) σ K (SE_CF hE) hE.1.1 a1 ?_
    rw [Int.toNat_natCast, hQ.2.1]
    refine ⟨by omega, fun hm2 => ⟨fun q => absurd q (by omega), fun _ => ?_⟩, fun hm2 => hno (ck_2q (by omega)) σ (CHf_rf σ aQ dp)⟩
    have hm : ¬ mn X c < 2 := by omega
    refine c_isHopeless (d + n + 4) (SE_CF hE) hX hE.2.2.1.2.2.1 (by omega) (fun hb => ⟨⟨SE_CF hE, hE.1.1, a1⟩, fun q => absurd q (by decide), fun _ => ?_⟩) (fun hb => ⟨⟨SE_CF hE, hE.1.1, a1⟩, fun _ => ?_, fun q => absurd rfl q⟩)
    · rw [hQ.2.1]
      have e := ck_b (r1 := r1) (r2 := r2) (m := m) (k := k0 + dp) (a := a) hm hb
      rw [e] at hy hno
      refine e_tells (d + n + 3) hE hS hR h14 (fun s e1 e2 fr e3 => ⟨⟨?_, ?_, ?_⟩, Or.inr rfl, hy s (a + 1) e1 (by omega) e2 fr e3⟩) (fun e1 s fr => ⟨⟨?_, ?_, ?_⟩, Or.inl rfl, hno e1 s fr⟩)
      · exact SE_CF (CHf_SE hE fr)
      · exact (CHf_SE hE fr).1.1
      · rw [R2' fr.1]; exact a1
      · exact SE_CF (CHf_SE hE fr)
      · exact (CHf_SE hE fr).1.1
      · rw [R2' fr.1]; exact a1
    · have n0 : ¬ n = 0 := fun e => hb (Or.inl e)
      obtain ⟨n', en⟩ : ∃ n', n = n' + 1 := ⟨n - 1, by omega⟩
      subst en
      have ec := ck_s (r1 := r1) (r2 := r2) (m := m) (k := k0 + dp) (a := a) hm hb
      rw [ec] at hy hno
      have q0 : qA aQ dp ≠ 12 := qA_12 hE (i := dp) (by omega) (k := 0) (by decide)
      have J : ∀ q j a s, j + q = wct X c → 0 < q → j ≤ a → a ≤ m → CHf σ s aQ dp → LVq s aQ dp (k0 + dp) X c → QWj s (qA aQ dp + 3) X c j → sI s 12 14 = (a : Int) → (∀ s' a', cki (ckF X r1 r2 m n' c (k0 + dp)) q j a = some a' → a ≤ a' → a' ≤ m → CHf σ s' aQ dp → sI s' 12 14 = (a' : Int) → K 1 s') → (cki (ckF X r1 r2 m n' c (k0 + dp)) q j a = none → ∀ s', CHf σ s' aQ dp → K 0 s') → chW (d + (n' + 1)) aQ dp w (dp : Int) ((n' + 1 : Nat) : Int) (j : Int) s K := by
        intro q
        induction q with
        | zero => intro j a s _ hq; omega
        | succ q ih =>
          intro j a s hj _ hja ham fr hLV hWj h14 g1 g2
          have Es := CHf_SE hE fr
          have Rs := chR_fr hE hS fr hR
          have wb := wct_bd hX c
          unfold chW
          have env : ∀ t, CHf σ t aQ dp → CF t ∧ QA t aQ ∧ sR t 12 5 = some (w, 4, 3) := fun t ft => ⟨SE_CF (CHf_SE hE ft), (CHf_SE hE ft).1.1, by rw [R2' ft.1]; exact a1⟩
          refine e_fits (d + n' + 3) (k := k0 + dp) (j := j) Es hS Rs (by omega) h14 hWj.1 hLV.2.2 (fun t hf t2 to t12 tq t6 t14 => ?_) (fun hf t ft => ⟨env t (CHf_tr fr ft), fun _ => g2 (cki_n (ckF_n hf)) t (CHf_tr fr ft), fun q => absurd rfl q⟩)
          have ft : CHf s t aQ dp := ⟨t2, fun x x1 x2 => to x x1 (x2 dp 0 (Nat.le_refl _) (by omega) (by decide)), t12⟩
          have Et := CHf_SE Es ft
          have fy := ckF_y (n := n') (c := c) hf
          obtain ⟨c', ec'⟩ : ∃ c', c' = mkc X c (k0 + dp) (sdw X c (wAt X c j)) (r2 a) := ⟨_, rfl⟩
          rw [← ec'] at fy
          have cv' : CV X c' := by rw [ec']; exact mkc_CV hX hcv
          have tne : ∀ k, k < 9 → k ≠ 0 → sI t (qA aQ dp + k) = sI s (qA aQ dp + k) := fun k hk k0' => to _ (qA_12 hE (by omega) hk) (by omega)
          have tQ : QB t (qA aQ dp) X c := ⟨by rw [tq 3 (by decide)]; exact hLV.1.1, by rw [tq 4 (by decide)]; exact hLV.1.2.1, fun p hp => by rw [tne 1 (by decide) (by decide)]; exact hLV.1.2.2 p hp⟩
          have tb : QWb t (qA aQ dp + 3) X c (wAt X c j) := by
            obtain ⟨lf, rt, l1, l2, l3⟩ := hWj.2.2
            exact ⟨lf, rt, by rw [tne 3 (by decide) (by decide)]; exact l1, by rw [tne 3 (by decide) (by decide)]; exact l2, l3⟩
          refine ⟨env t (CHf_tr fr ft), fun q => absurd q (by decide), fun _ => ?_⟩
          refine e_hear (d + n' + 1) Et (by omega) tQ tb (fun u u2 uo uT => ?_)
          have fu : CHf t u aQ dp := ⟨u2, fun x x1 x2 => uo x (x2 dp 2 (Nat.le_refl _) (by omega) (by decide)), fun i _ => by rw [uo 12 (qA_12 hE (by omega) (by decide)).symm]⟩
          have fsu := CHf_tr fr (CHf_tr ft fu)
          have Eu := CHf_SE hE fsu
          refine ⟨env u fsu, by omega, ?_⟩
          obtain ⟨⟨qq, q3, q4, q5, q6⟩, ⟨_, hcv0, hk⟩, ⟨i1, i2, i3, i4, i5, i6⟩, _, ⟨β, μ, κ, ρ, me, nn, b, aH, nH, aL, nL, aY, nY, aS, nS, N, lo, hi', T, kd, b1, b2, b3, b4, b5, b6, b7, b8, b9, b10, b11, b12, b13, b14, b15, b16, b17⟩⟩ := Eu
          obtain ⟨y1, y2, y3⟩ := b16 (k0 + dp)
          refine c_sweigherAt (d + n' + 3) b1.1 b9 b15 b13 b14 i1 (by omega) ?_
          refine ⟨env u fsu, ?_⟩
          rw [i2, show (dp : Int) + 1 = ((dp + 1 : Nat) : Int) by omega, Int.toNat_natCast]
          obtain ⟨g, eg⟩ : ∃ g, g = cw κ me b (k0 + dp) := ⟨_, rfl⟩
          rw [← eg] at y1 y2 y3 ⊢
          have nb : ∀ k, k < 9 → β g ≠ qA aQ (dp + 1) + k := by
            intro k hk e
            have := q6 (dp + 1) (by omega) k hk
            rw [← e, (b10 g y1).1] at this
            omega
          have z0 := nb 0 (by decide)
          rw [Nat.add_zero] at z0
          have une : ∀ k, k < 9 → k ≠ 2 → sI u (qA aQ dp + k) = sI t (qA aQ dp + k) := fun k hk k2 => uo _ (by omega)
          have u0 : sI u (qA aQ dp) = sI t (qA aQ dp) := une 0 (by decide) (by decide)
          have dd : qA aQ dp ≠ qA aQ (dp + 1) ∧ qA aQ dp ≠ qA aQ (dp + 1) + 1 ∧ qA aQ dp + 1 ≠ qA aQ (dp + 1) ∧ qA aQ dp + 1 ≠ qA aQ (dp + 1) + 1 ∧ qA aQ dp + 2 ≠ qA aQ (dp + 1) ∧ qA aQ dp + 2 ≠ qA aQ (dp + 1) + 1 := by
            unfold qA
            omega
          refine c_takeOutcome (d + n' + 4) (c := c) (o := r2 a) (told := fun p => tl (xK X (k0 + dp)) (xD X (sdw X c (wAt X c j)) p)) b9 (qq.2 (dp + 1) (by omega)).2.1 (qq.2 dp (by omega)).2.1 dd ⟨z0, nb 1 (by decide)⟩ (by rw [u0]; exact tQ.1) hX.2.1 (by rw [u0]; exact t6) (fun p hp => ⟨by rw [une 1 (by decide) (by decide)]; exact tQ.2.2 p hp, (hcv p hp).1, by have := hcv p hp; omega⟩) (fun p hp hcp => uT p hp hcp) (fun v v2 vo v3 v4 v5 v6 => ?_)
          have fv1 : CHf u v aQ (dp + 1) := ⟨v2, fun x x1 x2 => vo x (x2 (dp + 1) 0 (Nat.le_refl _) (by omega) (by decide)) (x2 (dp + 1) 1 (Nat.le_refl _) (by omega) (by decide)), fun i _ => by rw [vo 12 (qA_12 hE (i := dp + 1) (by omega) (k := 0) (by decide)).symm (qA_12 hE (i := dp + 1) (by omega) (k := 1) (by decide)).symm]⟩
          have fsv := CHf_tr fsu (CHf_le fv1 (Nat.le_succ dp))
          have Ev := CHf_SE hE fsv
          have v14 : sI v 12 14 = ((a + 1 : Nat) : Int) := by
            rw [vo 12 (qA_12 hE (i := dp + 1) (by omega) (k := 0) (by decide)).symm (qA_12 hE (i := dp + 1) (by omega) (k := 1) (by decide)).symm, uo 12 (qA_12 hE (by omega) (by decide)).symm]
            exact t14
          have vQ : QB v (qA aQ (dp + 1)) X c' := by
            rw [ec']
            refine ⟨v4, ?_, fun p hp => ?_⟩
            · rw [v6]
              unfold mn mkc
              rw [y2]
            · rw [v5 p hp]
              unfold mkc
              rw [y2]
          refine ⟨env v fsv, by omega, ?_⟩
          rw [show ((n' + 1 : Nat) : Int) - 1 = ((n' : Nat) : Int) by omega]
          have hle : dp + 1 + n' ≤ 5 := by omega
          refine h_case d hS n' c' (dp + 1) (a + 1) Ev (chR_fr hE hS fsv hR) hle cv' vQ v14 (by omega) (fun x a' ev e1 e2 fx e14 => ?_) (fun ev x fx => ?_)
          · rw [← Nat.add_assoc, ← fy] at ev
            have fsx := CHf_tr fsv (CHf_le fx (Nat.le_succ dp))
            refine ⟨env x fsx, fun q => absurd q (by decide), fun _ => ⟨by omega, ?_⟩⟩
            have xk : ∀ k, k < 9 → k ≠ 0 → k ≠ 2 → sI x (qA aQ dp + k) = sI s (qA aQ dp + k) := by
              intro k hk k0' k2
              rw [fx.2.1 _ (qA_12 hE (by omega) hk) (fun i l i1 i2 l1 => q_ne hk l1 (by omega)), vo _ (by have := q_ne (aQ := aQ) (i := dp) (j := dp + 1) (l := 0) hk (by decide) (by omega); exact this) (q_ne hk (by decide) (by omega)), une k hk k2, tne k hk k0']
            have x0 : ∀ i, i ≠ 6 → sI x (qA aQ dp) i = sI s (qA aQ dp) i := by
              intro i hi
              have e1 : sI x (qA aQ dp) = sI v (qA aQ dp) := fx.2.1 _ q0 (fun i l i1 i2 l1 => q_ne (k := 0) (by decide) l1 (by omega))
              have e2 : sI v (qA aQ dp) = sI u (qA aQ dp) := vo _ dd.1 dd.2.1
              rw [e1, e2, u0, tq i hi]
            have LVx : LVq x aQ dp (k0 + dp) X c := by
              refine ⟨⟨by rw [x0 3 (by decide)]; exact hLV.1.1, by rw [x0 4 (by decide)]; exact hLV.1.2.1, fun p hp => by rw [xk 1 (by decide) (by decide) (by decide)]; exact hLV.1.2.2 p hp⟩, ?_, by rw [x0 5 (by decide)]; exact hLV.2.2⟩
              obtain ⟨h1, h2, h3, h4⟩ := hLV.2.1
              have y3 := xk 3 (by decide) (by decide) (by decide)
              refine ⟨by rw [y3]; exact h1, by rw [y3]; exact h2, fun q hq => ?_, fun g hg => ?_⟩
              · have := xk 4 (by decide) (by decide) (by decide)
                rw [show qA aQ dp + 3 + 1 = qA aQ dp + 4 from rfl, this]
                exact h3 q hq
              · have e5 := xk 5 (by decide) (by decide) (by decide)
                have e6 := xk 6 (by decide) (by decide) (by decide)
                rw [show qA aQ dp + 3 + 2 = qA aQ dp + 5 from rfl, show qA aQ dp + 3 + 3 = qA aQ dp + 6 from rfl, e5, e6]
                exact h4 g hg
            have Wx : QWj x (qA aQ dp + 3) X c j := by
              have y3 := xk 3 (by decide) (by decide) (by decide)
              have e7 : sI x (qA aQ dp + 3 + 4) = sI s (qA aQ dp + 3 + 4) := xk 7 (by decide) (by decide) (by decide)
              have e8 : sI x (qA aQ dp + 3 + 5) = sI s (qA aQ dp + 3 + 5) := xk 8 (by decide) (by decide) (by decide)
              unfold QWj QWb at hWj ⊢
              rw [y3, e7, e8]
              exact hWj
            have Rx := chR_fr hE hS fsx hR
            rw [cki_y ev] at g1 g2
            rw [show (j : Int) + 1 = ((j + 1 : Nat) : Int) by omega]
            refine v_Search_caseHolds_40 (d + (n' + 1)) aQ dp w (dp : Int) ((n' + 1 : Nat) : Int) _ x K (env x fsx).1 (env x fsx).2.1 (env x fsx).2.2 ⟨fun q => absurd q (by rw [Rx.2.2.2.2.2.2.1]; omega), fun _ => ⟨by omega, ?_⟩⟩
            refine e_adv (d + n' + 2) (j := j) ((CHf_SE hE fsx).1.1.2 dp (by omega)).2.2 hX LVx.2.1 Wx (by omega) (by omega) (fun e1 _ z z1 z2 z3 => ?_) (fun z e1 _ z1 z2 z3 z4 => ?_)
            · have fz : CHf x z aQ dp := ⟨z1, fun y y1 y2 => z2 y (y2 dp 3 (Nat.le_refl _) (by omega) (by decide)), fun i _ => by rw [z2 12 (qA_12 hE (by omega) (by decide)).symm]⟩
              have fsz := CHf_tr fsx fz
              refine ⟨env z fsz, fun _ => ?_, fun q => absurd rfl q⟩
              have q00 : q = 0 := by omega
              subst q00
              exact g1 z a' rfl (by omega) e2 fsz (by rw [z2 12 (qA_12 hE (by omega) (by decide)).symm]; exact e14)
            · have fz : CHf x z aQ dp := ⟨z1, fun y y1 y2 => z2 y (y2 dp 3 (Nat.le_refl _) (by omega) (by decide)) (y2 dp 7 (Nat.le_refl _) (by omega) (by decide)) (y2 dp 8 (Nat.le_refl _) (by omega) (by decide)), fun i _ => by rw [z2 12 (qA_12 hE (by omega) (by decide)).symm (qA_12 hE (i := dp) (k := 7) (by omega) (by decide)).symm (qA_12 hE (i := dp) (k := 8) (by omega) (by decide)).symm]⟩
              have fsz := CHf_tr fsx fz
              refine ⟨env z fsz, fun q => absurd q (by decide), fun _ => ?_⟩
              have zq : sI z (qA aQ dp) = sI x (qA aQ dp) := z2 _ (by omega) (by omega) (by omega)
              have z1' : sI z (qA aQ dp + 1) = sI x (qA aQ dp + 1) := z2 _ (by omega) (by omega) (by omega)
              refine ih (j + 1) a' z (by omega) (by omega) (by omega) e2 fsz ⟨?_, z3, by rw [zq]; exact LVx.2.2⟩ z4 (by rw [z2 12 (qA_12 hE (by omega) (by decide)).symm (qA_12 hE (i := dp) (k := 7) (by omega) (by decide)).symm (qA_12 hE (i := dp) (k := 8) (by omega) (by decide)).symm]; exact e14) (fun s' a2 w1 w2 => g1 s' a2 w1 (by omega)) g2
              unfold QB
              rw [zq, z1']
              exact LVx.1
          · rw [← Nat.add_assoc, ← fy] at ev
            have fsx := CHf_tr fsv (CHf_le fx (Nat.le_succ dp))
            exact ⟨env x fsx, fun _ => g2 (cki_n ev) x fsx, fun q => absurd rfl q⟩
      refine e_weigher (d + n' + 3) hE (by omega) (fun g hg5 => ⟨⟨SE_CF hE, hE.1.1, a1⟩, rfl, ?_⟩)
      obtain ⟨Z, eZ⟩ : ∃ Z, Z = putI σ (qA aQ dp) 5 (sI σ g 5) := ⟨_, rfl⟩
      have eg : sI σ (rg (some (g, 0, 9))).1 5 = sI σ g 5 := rfl
      rw [eg, ← eZ]
      have fZ : CHf σ Z aQ dp := ⟨by rw [eZ]; rfl, fun x x1 x2 => by rw [eZ, put_ne (show x ≠ qA aQ dp from x2 dp 0 (Nat.le_refl _) (by omega) (by decide))], fun i _ => by rw [eZ, put_ne q0.symm]⟩
      have EZ := CHf_SE hE fZ
      have Z5 : sI Z (qA aQ dp) 5 = mo (xK X (k0 + dp)) := by rw [eZ, put_at, if_pos rfl, hg5]
      have QZ : QB Z (qA aQ dp) X c := ⟨by rw [eZ, put_at, if_neg (by decide)]; exact hQ.1, by rw [eZ, put_at, if_neg (by decide)]; exact hQ.2.1, fun p hp => by rw [eZ, put_ne (by omega)]; exact hQ.2.2 p hp⟩
      have Z12 : sI Z 12 = sI σ 12 := by rw [eZ, put_ne q0.symm]
      refine e_begin (d + n' + 3) EZ (by omega) hcv QZ (fun s s1 s2 s3 s4 s5 => ?_)
      have fs0 : CHf Z s aQ dp := ⟨s1, fun x x1 x2 => s2 x (x2 dp 3 (Nat.le_refl _) (by omega) (by decide)) (x2 dp 4 (Nat.le_refl _) (by omega) (by decide)) (x2 dp 5 (Nat.le_refl _) (by omega) (by decide)) (x2 dp 6 (Nat.le_refl _) (by omega) (by decide)), fun i _ => by rw [s2 12 (qA_12 hE (i := dp) (k := 3) (by omega) (by decide)).symm (qA_12 hE (i := dp) (k := 4) (by omega) (by decide)).symm (qA_12 hE (i := dp) (k := 5) (by omega) (by decide)).symm (qA_12 hE (i := dp) (k := 6) (by omega) (by decide)).symm]⟩
      have fss := CHf_tr fZ fs0
      have Es := CHf_SE hE fss
      have Rs := chR_fr hE hS fss hR
      have sq : sI s (qA aQ dp) = sI Z (qA aQ dp) := s2 _ (by omega) (by omega) (by omega) (by omega)
      have sq1 : sI s (qA aQ dp + 1) = sI Z (qA aQ dp + 1) := s2 _ (by omega) (by omega) (by omega) (by omega)
      have s12 : sI s 12 = sI σ 12 := by rw [s2 12 (qA_12 hE (i := dp) (k := 3) (by omega) (by decide)).symm (qA_12 hE (i := dp) (k := 4) (by omega) (by decide)).symm (qA_12 hE (i := dp) (k := 5) (by omega) (by decide)).symm (qA_12 hE (i := dp) (k := 6) (by omega) (by decide)).symm, Z12]
      have env : ∀ t, CHf σ t aQ dp → CF t ∧ QA t aQ ∧ sR t 12 5 = some (w, 4, 3) := fun t ft => ⟨SE_CF (CHf_SE hE ft), (CHf_SE hE ft).1.1, by rw [R2' ft.1]; exact a1⟩
      have LVs : LVq s aQ dp (k0 + dp) X c := ⟨by unfold QB; rw [sq, sq1]; exact QZ, s3, by rw [sq]; exact Z5⟩
      refine ⟨env s fss, ?_⟩
      refine v_Search_caseHolds_40 (d + (n' + 1)) aQ dp w (dp : Int) ((n' + 1 : Nat) : Int) 0 s K (env s fss).1 (env s fss).2.1 (env s fss).2.2 ⟨fun q => absurd q (by rw [Rs.2.2.2.2.2.2.1]; omega), fun _ => ⟨by omega, ?_⟩⟩
      refine e_first (d + n' + 2) (Es.1.1.2 dp (by omega)).2.2 hX s3 s4 s5 (fun e1 _ z z1 z2 z3 => ?_) (fun z e1 _ z1 z2 z3 z4 => ?_)
      · have fz : CHf s z aQ dp := ⟨z1, fun y y1 y2 => z2 y (y2 dp 3 (Nat.le_refl _) (by omega) (by decide)), fun i _ => by rw [z2 12 (qA_12 hE (by omega) (by decide)).symm]⟩
        have fsz := CHf_tr fss fz
        refine ⟨env z fsz, fun _ => ?_, fun q => absurd rfl q⟩
        rw [e1] at hy
        exact hy z a rfl (Nat.le_refl _) ham fsz (by rw [z2 12 (qA_12 hE (by omega) (by decide)).symm, s12]; exact h14)
      · have fz : CHf s z aQ dp := ⟨z1, fun y y1 y2 => z2 y (y2 dp 3 (Nat.le_refl _) (by omega) (by decide)) (y2 dp 7 (Nat.le_refl _) (by omega) (by decide)) (y2 dp 8 (Nat.le_refl _) (by omega) (by decide)), fun i _ => by rw [z2 12 (qA_12 hE (by omega) (by decide)).symm (qA_12 hE (i := dp) (k := 7) (by omega) (by decide)).symm (qA_12 hE (i := dp) (k := 8) (by omega) (by decide)).symm]⟩
        have fsz := CHf_tr fss fz
        refine ⟨env z fsz, fun q => absurd q (by decide), fun _ => ?_⟩
        have zq : sI z (qA aQ dp) = sI s (qA aQ dp) := z2 _ (by omega) (by omega) (by omega)
        have z1' : sI z (qA aQ dp + 1) = sI s (qA aQ dp + 1) := z2 _ (by omega) (by omega) (by omega)
        refine J (wct X c) 0 a z (by omega) (by omega) (by omega) ham fsz ⟨?_, z3, by rw [zq]; exact LVs.2.2⟩ z4 (by rw [z2 12 (qA_12 hE (by omega) (by decide)).symm (qA_12 hE (i := dp) (k := 7) (by omega) (by decide)).symm (qA_12 hE (i := dp) (k := 8) (by omega) (by decide)).symm, s12]; exact h14) hy hno
        unfold QB
        rw [zq, z1']
        exact LVs.1
set_option maxRecDepth 512
