/-! the reference: weigh, parts, undo -/
/-- does a truth fit an outcome: 0 no, 1 yes, 2 by a lie -/
def fv (σ : am_S) (k o : Int) (t : Nat) : Int := ft k (df (sI σ 50) (sI σ 33) (sI σ 34) (sI σ 35) t) o (sI σ 36 t) (sI σ 31 4)
def w37 (σ : am_S) (k o : Int) (t : Nat) : Int := if sI σ 37 t < 0 then (if fv σ k o t = 0 then sI σ 31 13 else sI σ 37 t) else sI σ 37 t
def w36 (σ : am_S) (k o : Int) (t : Nat) : Int := if sI σ 37 t < 0 then sI σ 36 t + (if fv σ k o t = 2 then 1 else 0) else sI σ 36 t + 0
def w38 (σ : am_S) (k o : Int) (t : Nat) : Int := if sI σ 37 t < 0 then a_or (sI σ 38 t) (if fv σ k o t = 2 then a_shl 1 (sI σ 31 13) else 0) else a_or (sI σ 38 t) 0
/-- the search's end -/
def mEnd (σ : am_S) : am_S := putI (putI (putI (putI (putI (putI (putI (putI σ 31 33 0) 31 34 0) 31 35 (-1000)) 31 37 0) 31 73 0) 31 76 0) 31 77 0) 31 78 0
def wRows (σ : am_S) (k o : Int) (n : Nat) : am_S := rows3 σ 37 36 38 (up (sI σ 37) (w37 σ k o) n) (up (sI σ 36) (w36 σ k o) n) (up (sI σ 38) (w38 σ k o) n)
theorem put_at {σ : am_S} {a i k : Nat} {v : Int} : sI (putI σ a i v) a k = if k = i then v else sI σ a k := by
  rw [sI_putI]
  by_cases h : k = i
  · rw [if_pos ⟨rfl, h⟩, if_pos h]
  · rw [if_neg (fun q => h q.2), if_neg h]
theorem put_ne {σ : am_S} {a b i : Nat} {v : Int} (h : b ≠ a) : sI (putI σ a i v) b = sI σ b := by
  funext k
  rw [sI_putI, if_neg (fun q => h q.1)]
theorem row_at {σ : am_S} {a : Nat} {f : Nat → Int} : sI (rowI σ a f) a = f := by
  funext k
  rw [sI_row, if_pos rfl]
theorem row_ne {σ : am_S} {a b : Nat} {f : Nat → Int} (h : b ≠ a) : sI (rowI σ a f) b = sI σ b := by
  funext k
  rw [sI_row, if_neg h]
theorem runs_st {P : am_P} {ML : Nat → Nat} {d m i : Nat} {ls : am_L} {st : List am_V} {s t : am_S} {K : am_K} (e : s = t) (h : am_Runs P ML d m i ls st t K) : am_Runs P ML d m i ls st s K := by subst e; exact h
theorem ft_012 (k x o w l : Int) : ft k x o w l = 0 ∨ ft k x o w l = 1 ∨ ft k x o w l = 2 := by
  unfold ft
  (repeat' split) <;> simp

theorem v_M_weigh_0 (d : Nat) (p1 p2 : Int) (σ : am_S) (K : Int → am_S → Prop) (hF : MF σ) (hT : (sI σ 31 26) = 0) (h :
  (-2147483648 ≤ (sI σ 31 16) - 1 ∧ (sI σ 31 16) - 1 < 2147483648) ∧
  ((p1 < 0 →
    K (-1001) σ) ∧
  (¬ (p1 < 0) →
    ((((sI σ 31 16) - 1) < p1 →
      K (-1001) σ) ∧
    (¬ (((sI σ 31 16) - 1) < p1) →
      ((p2 < (-3) →
        K (-1001) σ) ∧
      (¬ (p2 < (-3)) →
        ((3 < p2 →
          K (-1001) σ) ∧
        (¬ (3 < p2) →
          (((sI σ 31 2) = 0 →
            K (-1002) σ) ∧
          (¬ ((sI σ 31 2) = 0) →
            am_Calls PP MLL (d + 3) m_M_weighFault [qr (31, 12, 89), qi p1] σ (kI fun x6 s6 =>
              (MF s6) ∧
              ((x6 ≤ 0 →
                ((0 ≤ x6 →
                  (((sI s6 31 13) = 30 →
                    K (-1003) s6) ∧
                  (¬ ((sI s6 31 13) = 30) →
                    (0 ≤ (sI s6 31 28) ∧ (sI s6 31 28) < 12) ∧
                    am_Runs PP MLL (d + 3) m_M_weigh 45 [some (qr (31, 12, 89)), some (qi p1), some (qi p2), some (qi x6), some (qi (sI s6 41 (Int.toNat (sI s6 31 28)))), some (qi 0), none] [] s6 (kI K)))) ∧
                (¬ (0 ≤ x6) →
                  K (-1002) s6))) ∧
              (¬ (x6 ≤ 0) →
                am_Calls PP MLL (d + 3) m_M_finds [qr (31, 12, 89), qi p1, qi x6] s6 (kI fun x10 s10 =>
                  (MF s10) ∧
                  K x10 s10))))))))))))))) : am_Runs PP MLL (d + 3) m_M_weigh 0 [some (qr (31, 12, 89)), some (qi p1), some (qi p2), none, none, none, none] [] σ (kI K) := am_wEC_ok (orc [(38, 41, 20, 12)]) [79, 91, 107, 138] 200 (⟨rfl, am_wEF_ok (orc []) 200 (⟨rfl, ⟨⟨h.1.1, h.1.2⟩, am_wEF_ok (orc []) 200 (⟨fun c1 => ⟨(Or.inl rfl), ⟨(Or.inl rfl), ⟨fun _ => (h.2.1 c1), fun c => absurd (by decide : (0 : Int) = 0) c⟩⟩⟩, fun c1 => ⟨fun c2 => ⟨(Or.inl rfl), ⟨(Or.inl rfl), ⟨fun _ => ((h.2.2 c1).1 c2), fun c => absurd (by decide : (0 : Int) = 0) c⟩⟩⟩, fun c2 => ⟨(Or.inr rfl), ⟨(Or.inr rfl), ⟨fun c => absurd c (by decide : ¬ ((1 : Int) = 0)), fun _ => am_wEF_ok (orc []) 200 (⟨fun c3 => ⟨(Or.inl rfl), ⟨fun _ => (((h.2.2 c1).2 c2).1 c3), fun c => absurd (by decide : (0 : Int) = 0) c⟩⟩, fun c3 => ⟨fun c4 => ⟨(Or.inl rfl), ⟨fun _ => ((((h.2.2 c1).2 c2).2 c3).1 c4), fun c => absurd (by decide : (0 : Int) = 0) c⟩⟩, fun c4 => ⟨(Or.inr rfl), ⟨fun c => absurd c (by decide : ¬ ((1 : Int) = 0)), fun _ => ⟨rfl, ⟨fun c5 => (((((h.2.2 c1).2 c2).2 c3).2 c4).1 c5), fun c5 => ⟨rfl, (am_cI (((((h.2.2 c1).2 c2).2 c3).2 c4).2 c5) fun x6 s6 h6 => ⟨fun c7 => ⟨fun c8 => ⟨rfl, ⟨fun c9 => (((h6.2.1 c7).1 c8).1 c9), fun c9 => ⟨⟨rfl, (h6.1 17)⟩, ⟨rfl, ⟨⟨rfl, (((h6.2.1 c7).1 c8).2 c9).1.1, (((h6.2.1 c7).1 c8).2 c9).1.2⟩, (((h6.2.1 c7).1 c8).2 c9).2⟩⟩⟩⟩⟩, fun c8 => ((h6.2.1 c7).2 c8)⟩, fun c7 => ⟨rfl, (am_cI (h6.2.2 c7) fun x10 s10 h10 => h10.2)⟩⟩)⟩⟩⟩⟩⟩⟩⟩)⟩⟩⟩⟩⟩)⟩⟩)⟩)

theorem v_M_weigh_45 (d : Nat) (p1 p2 v4 v5 : Int) (z3 z6 : Option am_V) (σ : am_S) (K : Int → am_S → Prop) (hF : MF σ) (hT : (sI σ 31 26) = 0) (h :
  (((sI σ 31 5) ≤ v5 →
    (-2147483648 ≤ (sI σ 31 13) + 1 ∧ (sI σ 31 13) + 1 < 2147483648 ∧ 0 ≤ (sI σ 31 28) ∧ (sI σ 31 28) < 12 ∧ -2147483648 ≤ (sI σ 42 (Int.toNat (sI σ 31 28))) + 1 ∧ (sI σ 42 (Int.toNat (sI σ 31 28))) + 1 < 2147483648 ∧ 0 ≤ p1 ∧ p1 < 12) ∧
    (-2147483648 ≤ (sI (putI (putI σ 31 13 ((sI σ 31 13) + 1)) 42 (Int.toNat (sI σ 31 28)) ((sI σ 42 (Int.toNat (sI σ 31 28))) + 1)) 42 (Int.toNat p1)) + (if (sI σ 31 28) = p1 then (0 : Int) else 1) ∧ (sI (putI (putI σ 31 13 ((sI σ 31 13) + 1)) 42 (Int.toNat (sI σ 31 28)) ((sI σ 42 (Int.toNat (sI σ 31 28))) + 1)) 42 (Int.toNat p1)) + (if (sI σ 31 28) = p1 then (0 : Int) else 1) < 2147483648) ∧
    am_Calls PP MLL (d + 3) m_M_left [qr (31, 12, 89)] (putI (putI (putI (putI (putI (putI (putI (putI (putI (putI (putI σ 31 13 ((sI σ 31 13) + 1)) 42 (Int.toNat (sI σ 31 28)) ((sI σ 42 (Int.toNat (sI σ 31 28))) + 1)) 42 (Int.toNat p1) ((sI (putI (putI σ 31 13 ((sI σ 31 13) + 1)) 42 (Int.toNat (sI σ 31 28)) ((sI σ 42 (Int.toNat (sI σ 31 28))) + 1)) 42 (Int.toNat p1)) + (if (sI σ 31 28) = p1 then (0 : Int) else 1))) 31 33 0) 31 34 0) 31 35 (-1000)) 31 37 0) 31 73 0) 31 76 0) 31 77 0) 31 78 0) (kI fun x6 s6 =>
      (MF s6) ∧
      K x6 s6)) ∧
  (¬ ((sI σ 31 5) ≤ v5) →
    (0 ≤ v5 ∧ v5 < 10000) ∧
    (((sI σ 37 (Int.toNat v5)) < 0 →
      (TVt (sI σ 33) (sI σ 34) (sI σ 35) 40 (Int.toNat v5) ∧ (∀ k, -1 ≤ sI σ 50 k ∧ sI σ 50 k ≤ 1)) ∧
      (-100 ≤ (df (sI σ 50) (sI σ 33) (sI σ 34) (sI σ 35) (Int.toNat v5)) ∧ (df (sI σ 50) (sI σ 33) (sI σ 34) (sI σ 35) (Int.toNat v5)) ≤ 100) ∧
      (-2147483648 ≤ (sI σ 36 (Int.toNat v5)) + (if (ft v4 (df (sI σ 50) (sI σ 33) (sI σ 34) (sI σ 35) (Int.toNat v5)) p2 (sI σ 36 (Int.toNat v5)) (sI σ 31 4)) = 2 then (1 : Int) else 0) ∧ (sI σ 36 (Int.toNat v5)) + (if (ft v4 (df (sI σ 50) (sI σ 33) (sI σ 34) (sI σ 35) (Int.toNat v5)) p2 (sI σ 36 (Int.toNat v5)) (sI σ 31 4)) = 2 then (1 : Int) else 0) < 2147483648) ∧
      (-2147483648 ≤ v5 + 1 ∧ v5 + 1 < 2147483648) ∧
      am_Runs PP MLL (d + 3) m_M_weigh 45 [some (qr (31, 12, 89)), some (qi p1), some (qi p2), z3, some (qi v4), some (qi (v5 + 1)), some (qi (ft v4 (df (sI σ 50) (sI σ 33) (sI σ 34) (sI σ 35) (Int.toNat v5)) p2 (sI σ 36 (Int.toNat v5)) (sI σ 31 4)))] [] (putI (putI (putI σ 37 (Int.toNat v5) (if (ft v4 (df (sI σ 50) (sI σ 33) (sI σ 34) (sI σ 35) (Int.toNat v5)) p2 (sI σ 36 (Int.toNat v5)) (sI σ 31 4)) = 0 then (sI σ 31 13 : Int) else (sI σ 37 (Int.toNat v5)))) 36 (Int.toNat v5) ((sI σ 36 (Int.toNat v5)) + (if (ft v4 (df (sI σ 50) (sI σ 33) (sI σ 34) (sI σ 35) (Int.toNat v5)) p2 (sI σ 36 (Int.toNat v5)) (sI σ 31 4)) = 2 then (1 : Int) else 0))) 38 (Int.toNat v5) (a_or (sI σ 38 (Int.toNat v5)) (if (ft v4 (df (sI σ 50) (sI σ 33) (sI σ 34) (sI σ 35) (Int.toNat v5)) p2 (sI σ 36 (Int.toNat v5)) (sI σ 31 4)) = 2 then (a_shl 1 (sI σ 31 13) : Int) else 0))) (kI K)) ∧
    (¬ ((sI σ 37 (Int.toNat v5)) < 0) →
      (-2147483648 ≤ (sI σ 36 (Int.toNat v5)) + 0 ∧ (sI σ 36 (Int.toNat v5)) + 0 < 2147483648) ∧
      (-2147483648 ≤ v5 + 1 ∧ v5 + 1 < 2147483648) ∧
      am_Runs PP MLL (d + 3) m_M_weigh 45 [some (qr (31, 12, 89)), some (qi p1), some (qi p2), z3, some (qi v4), some (qi (v5 + 1)), some (qi 1)] [] (putI (putI (putI σ 37 (Int.toNat v5) (sI σ 37 (Int.toNat v5))) 36 (Int.toNat v5) ((sI σ 36 (Int.toNat v5)) + 0)) 38 (Int.toNat v5) (a_or (sI σ 38 (Int.toNat v5)) 0)) (kI K)))))) : am_Runs PP MLL (d + 3) m_M_weigh 45 [some (qr (31, 12, 89)), some (qi p1), some (qi p2), z3, some (qi v4), some (qi v5), z6] [] σ (kI K) := am_wEC_ok (orc [(60, 36, 20, 10000), (68, 37, 20, 10000), (76, 37, 20, 10000), (118, 42, 20, 12), (127, 42, 20, 12)]) [79, 91, 107, 138] 200 (⟨rfl, ⟨fun c4 => ⟨rfl, ⟨⟨(h.1 c4).1.1, (h.1 c4).1.2.1⟩, ⟨rfl, ⟨⟨rfl, (hF 18)⟩, ⟨rfl, ⟨⟨rfl, (h.1 c4).1.2.2.1, (h.1 c4).1.2.2.2.1⟩, ⟨⟨(h.1 c4).1.2.2.2.2.1, (h.1 c4).1.2.2.2.2.2.1⟩, ⟨⟨rfl, (h.1 c4).1.2.2.1, (h.1 c4).1.2.2.2.1⟩, ⟨⟨rfl, (hF 18)⟩, ⟨⟨rfl, (h.1 c4).1.2.2.2.2.2.2.1, (h.1 c4).1.2.2.2.2.2.2.2⟩, ⟨rfl, am_use (fun H7 => ⟨fun c5 => (Eq.mp (congrArg (fun z => am_Runs _ _ _ _ _ _ (qi z :: _) _ _) (if_pos c5 : (if (sI σ 31 28) = p1 then (0 : Int) else 1) = 0)) H7), fun c5 => (Eq.mp (congrArg (fun z => am_Runs _ _ _ _ _ _ (qi z :: _) _ _) (if_neg c5 : (if (sI σ 31 28) = p1 then (0 : Int) else 1) = 1)) H7)⟩) (am_wEC_ok (orc []) [79, 91, 107, 138] 200 (⟨⟨(h.1 c4).2.1.1, (h.1 c4).2.1.2⟩, ⟨⟨rfl, (h.1 c4).1.2.2.2.2.2.2.1, (h.1 c4).1.2.2.2.2.2.2.2⟩, ⟨rfl, am_wEF_ok (orc []) 200 (⟨⟨rfl, (Or.inl rfl)⟩, ⟨⟨rfl, (Or.inl rfl)⟩, ⟨rfl, ⟨rfl, ⟨rfl, ⟨rfl, ⟨⟨rfl, (Or.inl rfl)⟩, ⟨⟨rfl, (Or.inl rfl)⟩, ⟨rfl, (am_cI (h.1 c4).2.2 fun x6 s6 h6 => h6.2)⟩⟩⟩⟩⟩⟩⟩⟩⟩)⟩⟩⟩))⟩⟩⟩⟩⟩⟩⟩⟩⟩⟩⟩, fun c4 => ⟨rfl, c_M_isLeft _ hF (h.2 c4).1.1 (h.2 c4).1.2 (fun c8 => ⟨fun c => absurd c (by decide : ¬ ((1 : Int) = 0)), fun _ => ⟨rfl, c_M_differenceI _ hF (h.2 c4).1.1 (h.2 c4).1.2 ((h.2 c4).2.1 c8).1.1 ((h.2 c4).2.1 c8).1.2 (⟨⟨rfl, (hF 10)⟩, ⟨⟨rfl, (h.2 c4).1.1, (h.2 c4).1.2⟩, ⟨rfl, c_M_fits _ hF hT ((h.2 c4).2.1 c8).2.1 (⟨⟨rfl, (hF 11)⟩, am_use (fun H14 => ⟨fun c9 => ⟨rfl, (Eq.mp (congrArg (fun z => am_Runs _ _ _ _ _ _ (qi z :: _) _ _) (if_pos c9 : (if (ft v4 (df (sI σ 50) (sI σ 33) (sI σ 34) (sI σ 35) (Int.toNat v5)) p2 (sI σ 36 (Int.toNat v5)) (sI σ 31 4)) = 0 then (sI σ 31 13 : Int) else sI σ 37 (Int.toNat v5)) = sI σ 31 13)) H14)⟩, fun c9 => ⟨⟨rfl, (hF 11)⟩, ⟨⟨rfl, (h.2 c4).1.1, (h.2 c4).1.2⟩, (Eq.mp (congrArg (fun z => am_Runs _ _ _ _ _ _ (qi z :: _) _ _) (if_neg c9 : (if (ft v4 (df (sI σ 50) (sI σ 33) (sI σ 34) (sI σ 35) (Int.toNat v5)) p2 (sI σ 36 (Int.toNat v5)) (sI σ 31 4)) = 0 then (sI σ 31 13 : Int) else sI σ 37 (Int.toNat v5)) = sI σ 37 (Int.toNat v5))) H14)⟩⟩⟩) (am_wEC_ok (orc [(81, 36, 20, 10000)]) [79, 91, 107, 138] 200 (⟨⟨rfl, (h.2 c4).1.1, (h.2 c4).1.2⟩, ⟨⟨rfl, (hF 10)⟩, ⟨⟨rfl, (h.2 c4).1.1, (h.2 c4).1.2⟩, am_use (fun H13 => ⟨fun c10 => (Eq.mp (congrArg (fun z => am_Runs _ _ _ _ _ _ (qi z :: _) _ _) (if_pos c10 : (if (ft v4 (df (sI σ 50) (sI σ 33) (sI σ 34) (sI σ 35) (Int.toNat v5)) p2 (sI σ 36 (Int.toNat v5)) (sI σ 31 4)) = 2 then (1 : Int) else 0) = 1)) H13), fun c10 => (Eq.mp (congrArg (fun z => am_Runs _ _ _ _ _ _ (qi z :: _) _ _) (if_neg c10 : (if (ft v4 (df (sI σ 50) (sI σ 33) (sI σ 34) (sI σ 35) (Int.toNat v5)) p2 (sI σ 36 (Int.toNat v5)) (sI σ 31 4)) = 2 then (1 : Int) else 0) = 0)) H13)⟩) (am_wEC_ok (orc [(94, 38, 20, 10000)]) [79, 91, 107, 138] 200 (⟨⟨((h.2 c4).2.1 c8).2.2.1.1, ((h.2 c4).2.1 c8).2.2.1.2⟩, ⟨⟨rfl, (h.2 c4).1.1, (h.2 c4).1.2⟩, ⟨⟨rfl, (hF 12)⟩, ⟨⟨rfl, (h.2 c4).1.1, (h.2 c4).1.2⟩, am_use (fun H12 => ⟨fun c11 => ⟨rfl, (Eq.mp (congrArg (fun z => am_Runs _ _ _ _ _ _ (qi z :: _) _ _) (if_pos c11 : (if (ft v4 (df (sI σ 50) (sI σ 33) (sI σ 34) (sI σ 35) (Int.toNat v5)) p2 (sI σ 36 (Int.toNat v5)) (sI σ 31 4)) = 2 then (a_shl 1 (sI σ 31 13) : Int) else 0) = a_shl 1 (sI σ 31 13))) H12)⟩, fun c11 => (Eq.mp (congrArg (fun z => am_Runs _ _ _ _ _ _ (qi z :: _) _ _) (if_neg c11 : (if (ft v4 (df (sI σ 50) (sI σ 33) (sI σ 34) (sI σ 35) (Int.toNat v5)) p2 (sI σ 36 (Int.toNat v5)) (sI σ 31 4)) = 2 then (a_shl 1 (sI σ 31 13) : Int) else 0) = 0)) H12)⟩) (am_wEC_ok (orc []) [79, 91, 107, 138] 200 (⟨⟨rfl, (h.2 c4).1.1, (h.2 c4).1.2⟩, ⟨⟨((h.2 c4).2.1 c8).2.2.2.1.1, ((h.2 c4).2.1 c8).2.2.2.1.2⟩, ((h.2 c4).2.1 c8).2.2.2.2⟩⟩))⟩⟩⟩⟩))⟩⟩⟩))⟩)⟩⟩⟩)⟩⟩) (fun c8 => ⟨fun _ => ⟨⟨rfl, (hF 11)⟩, ⟨fun c => absurd c (by decide : ¬ ((1 : Int) = 0)), fun _ => ⟨⟨rfl, (hF 11)⟩, ⟨⟨rfl, (h.2 c4).1.1, (h.2 c4).1.2⟩, am_wEC_ok (orc [(81, 36, 20, 10000)]) [79, 91, 107, 138] 200 (⟨⟨rfl, (h.2 c4).1.1, (h.2 c4).1.2⟩, ⟨⟨rfl, (hF 10)⟩, ⟨⟨rfl, (h.2 c4).1.1, (h.2 c4).1.2⟩, ⟨fun c => absurd c (by decide : ¬ ((1 : Int) = 2)), fun _ => am_wEC_ok (orc [(94, 38, 20, 10000)]) [79, 91, 107, 138] 200 (⟨⟨((h.2 c4).2.2 c8).1.1, ((h.2 c4).2.2 c8).1.2⟩, ⟨⟨rfl, (h.2 c4).1.1, (h.2 c4).1.2⟩, ⟨⟨rfl, (hF 12)⟩, ⟨⟨rfl, (h.2 c4).1.1, (h.2 c4).1.2⟩, ⟨fun c => absurd c (by decide : ¬ ((1 : Int) = 2)), fun _ => am_wEC_ok (orc []) [79, 91, 107, 138] 200 (⟨⟨rfl, (h.2 c4).1.1, (h.2 c4).1.2⟩, ⟨⟨((h.2 c4).2.2 c8).2.1.1, ((h.2 c4).2.2 c8).2.1.2⟩, ((h.2 c4).2.2 c8).2.2⟩⟩)⟩⟩⟩⟩⟩)⟩⟩⟩⟩)⟩⟩⟩⟩, fun c => absurd (by decide : (0 : Int) = 0) c⟩)⟩⟩⟩)

theorem l_M_weigh (d : Nat) {b n g : Nat} {o k : Int} {σ : am_S} {K : Int → am_S → Prop} (hF : MF σ) (hT : sI σ 31 26 = 0) (hn : sI σ 31 5 = n) (hn2 : n ≤ 10000) (hw : 0 ≤ sI σ 31 13 ∧ sI σ 31 13 ≤ 1000) (hg : sI σ 31 28 = g) (hg2 : g < 12) (hb : b < 12) (hv : ∀ t, t < n → TVt (sI σ 33) (sI σ 34) (sI σ 35) 40 t) (hs : ∀ k, -1 ≤ sI σ 50 k ∧ sI σ 50 k ≤ 1) (hl : ∀ t, t < n → 0 ≤ sI σ 36 t ∧ sI σ 36 t ≤ 1000) (hu : ∀ j, 0 ≤ sI σ 42 j ∧ sI σ 42 j ≤ 1000)
    (h : K (lf (up (sI σ 37) (w37 σ k o) n) n) (mEnd (putI (putI (putI (wRows σ k o n) 31 13 (sI σ 31 13 + 1)) 42 g (sI σ 42 g + 1)) 42 b (sI (putI (wRows σ k o n) 42 g (sI σ 42 g + 1)) 42 b + (if (g : Int) = b then 0 else 1))))) (z3 z6 : Option am_V) :
    am_Runs PP MLL (d + 3) m_M_weigh 45 [some (qr (31, 12, 89)), some (qi (b : Int)), some (qi o), z3, some (qi k), some (qi 0), z6] [] σ (kI K) := by
  have hS : ∀ i, i ≤ n → ∀ z3 z6, am_Runs PP MLL (d + 3) m_M_weigh 45 [some (qr (31, 12, 89)), some (qi (b : Int)), some (qi o), z3, some (qi k), some (qi (i : Int)), z6] [] (wRows σ k o i) (kI K) := by
    refine lp ?_ ?_
    · intro z3 z6
      refine v_M_weigh_45 d b o k n z3 z6 (wRows σ k o n) K hF hT ⟨fun _ => ?_, fun c => absurd (show sI σ 31 5 ≤ (n : Int) by omega) c⟩
      have e28 : sI (wRows σ k o n) 31 28 = (g : Int) := hg
      have e13 : sI (wRows σ k o n) 31 13 = sI σ 31 13 := rfl
      have e42 : ∀ j, sI (wRows σ k o n) 42 j = sI σ 42 j := fun j => rfl
      have eb : sI (putI (putI (wRows σ k o n) 31 13 (sI σ 31 13 + 1)) 42 g (sI σ 42 g + 1)) 42 b = sI (putI (wRows σ k o n) 42 g (sI σ 42 g + 1)) 42 b := rfl
      have hug := hu g
      have hub := hu b
      have hb2 : 0 ≤ sI (putI (wRows σ k o n) 42 g (sI σ 42 g + 1)) 42 b ∧ sI (putI (wRows σ k o n) 42 g (sI σ 42 g + 1)) 42 b ≤ 1001 := by
        rw [sI_putI, e42]
        split <;> omega
      rw [e28, e13, Int.toNat_natCast, Int.toNat_natCast, e42, eb]
      refine ⟨by omega, by split <;> omega, ?_⟩
      exact c_M_left (d + 1) hF hn hn2 ⟨hF, h⟩
    · intro i hi ih z3 z6
      have r37 : sI (wRows σ k o i) 37 i = sI σ 37 i := up_at
      have r36 : sI (wRows σ k o i) 36 i = sI σ 36 i := up_at
      have r38 : sI (wRows σ k o i) 38 i = sI σ 38 i := up_at
      have r50 : sI (wRows σ k o i) 50 = sI σ 50 := rfl
      have r33 : sI (wRows σ k o i) 33 = sI σ 33 := rfl
      have r34 : sI (wRows σ k o i) 34 = sI σ 34 := rfl
      have r35 : sI (wRows σ k o i) 35 = sI σ 35 := rfl
      have r4 : sI (wRows σ k o i) 31 4 = sI σ 31 4 := rfl
      have r13 : sI (wRows σ k o i) 31 13 = sI σ 31 13 := rfl
      have hbd := df_bd (hv i hi) hs
      have hli := hl i hi
      refine v_M_weigh_45 d b o k i z3 z6 (wRows σ k o i) K hF hT ⟨fun c => absurd c ?_, fun _ => ?_⟩
      · show ¬ (sI σ 31 5 ≤ _); omega
      · rw [Int.toNat_natCast, r37, r36, r38, r50, r33, r34, r35, r4, r13]
        have hst : ∀ x y z : Int, x = w37 σ k o i → y = w36 σ k o i → z = w38 σ k o i → putI (putI (putI (wRows σ k o i) 37 i x) 36 i y) 38 i z = wRows σ k o (i + 1) := by
          intro x y z hx hy hz
          subst hx; subst hy; subst hz
          refine rows3_step (by decide) (by decide) (by decide) rfl ?_ ?_ ?_ ?_
          · intro k; rw [put_ne (by decide), put_ne (by decide), put_at]; rfl
          · intro k; rw [put_ne (by decide), put_at, put_ne (by decide)]; rfl
          · intro k; rw [put_at, put_ne (by decide), put_ne (by decide)]; rfl
          intro x h1 h2 h3
          rw [put_ne h3, put_ne h2, put_ne h1]
          unfold wRows rows3
          rw [row_ne h3, row_ne h2, row_ne h1]
        refine ⟨by omega, fun c => ⟨⟨hv i hi, hs⟩, by omega, ?_, by omega, ?_⟩, fun c => ⟨by omega, by omega, ?_⟩⟩
        · split <;> omega
        · rw [hst _ _ _ ?_ ?_ ?_]
          · exact ih _ _
          · unfold w37 fv; rw [if_pos c]
          · unfold w36 fv; rw [if_pos c]
          · unfold w38 fv; rw [if_pos c]
        · rw [hst _ _ _ ?_ ?_ ?_]
          · exact ih _ _
          · unfold w37; rw [if_neg c]
          · unfold w36; rw [if_neg c]
          · unfold w38; rw [if_neg c]
  have h0 := hS 0 (Nat.zero_le _) z3 z6
  have e : wRows σ k o 0 = σ := rows3_0 (by decide) (by decide) (by decide)
  rw [e] at h0
  exact h0
theorem v_M_parts_0 (d : Nat) (p1 p2 : Int) (σ : am_S) (K : Int → am_S → Prop) (hF : MF σ) (hT : (sI σ 31 26) = 0) (h :
  (-2147483648 ≤ (sI σ 31 16) - 1 ∧ (sI σ 31 16) - 1 < 2147483648) ∧
  ((p1 < 0 →
    K (-1001) σ) ∧
  (¬ (p1 < 0) →
    ((((sI σ 31 16) - 1) < p1 →
      K (-1001) σ) ∧
    (¬ (((sI σ 31 16) - 1) < p1) →
      ((p2 < (-3) →
        K (-1001) σ) ∧
      (¬ (p2 < (-3)) →
        ((3 < p2 →
          K (-1001) σ) ∧
        (¬ (3 < p2) →
          (((sI σ 31 2) = 0 →
            K (-1002) σ) ∧
          (¬ ((sI σ 31 2) = 0) →
            am_Calls PP MLL (d + 3) m_M_weighFault [qr (31, 12, 89), qi p1] σ (kI fun x6 s6 =>
              (MF s6) ∧
              ((x6 ≤ 0 →
                ((0 ≤ x6 →
                  am_Runs PP MLL (d + 3) m_M_parts 35 [some (qr (31, 12, 89)), some (qi p1), some (qi p2), some (qi x6), some (qi 0), some (qi 0)] [] s6 (kI K)) ∧
                (¬ (0 ≤ x6) →
                  K (-1002) s6))) ∧
              (¬ (x6 ≤ 0) →
                am_Calls PP MLL (d + 3) m_M_finds [qr (31, 12, 89), qi p1, qi x6] s6 (kI fun x9 s9 =>
                  (MF s9) ∧
                  K x9 s9))))))))))))))) : am_Runs PP MLL (d + 3) m_M_parts 0 [some (qr (31, 12, 89)), some (qi p1), some (qi p2), none, none, none] [] σ (kI K) := am_wEC_ok (orc []) [63] 200 (⟨rfl, am_wEF_ok (orc []) 200 (⟨rfl, ⟨⟨h.1.1, h.1.2⟩, am_wEF_ok (orc []) 200 (⟨fun c1 => ⟨(Or.inl rfl), ⟨(Or.inl rfl), ⟨fun _ => (h.2.1 c1), fun c => absurd (by decide : (0 : Int) = 0) c⟩⟩⟩, fun c1 => ⟨fun c2 => ⟨(Or.inl rfl), ⟨(Or.inl rfl), ⟨fun _ => ((h.2.2 c1).1 c2), fun c => absurd (by decide : (0 : Int) = 0) c⟩⟩⟩, fun c2 => ⟨(Or.inr rfl), ⟨(Or.inr rfl), ⟨fun c => absurd c (by decide : ¬ ((1 : Int) = 0)), fun _ => am_wEF_ok (orc []) 200 (⟨fun c3 => ⟨(Or.inl rfl), ⟨fun _ => (((h.2.2 c1).2 c2).1 c3), fun c => absurd (by decide : (0 : Int) = 0) c⟩⟩, fun c3 => ⟨fun c4 => ⟨(Or.inl rfl), ⟨fun _ => ((((h.2.2 c1).2 c2).2 c3).1 c4), fun c => absurd (by decide : (0 : Int) = 0) c⟩⟩, fun c4 => ⟨(Or.inr rfl), ⟨fun c => absurd c (by decide : ¬ ((1 : Int) = 0)), fun _ => ⟨rfl, ⟨fun c5 => (((((h.2.2 c1).2 c2).2 c3).2 c4).1 c5), fun c5 => ⟨rfl, (am_cI (((((h.2.2 c1).2 c2).2 c3).2 c4).2 c5) fun x6 s6 h6 => ⟨fun c7 => ⟨fun c8 => ((h6.2.1 c7).1 c8), fun c8 => ((h6.2.1 c7).2 c8)⟩, fun c7 => ⟨rfl, (am_cI (h6.2.2 c7) fun x9 s9 h9 => h9.2)⟩⟩)⟩⟩⟩⟩⟩⟩⟩)⟩⟩⟩⟩⟩)⟩⟩)⟩)

theorem v_M_parts_35 (d : Nat) (p2 v4 v5 : Int) (z1 z3 : Option am_V) (σ : am_S) (K : Int → am_S → Prop) (hF : MF σ) (hT : (sI σ 31 26) = 0) (h :
  (((sI σ 31 5) ≤ v5 →
    K v4 σ) ∧
  (¬ ((sI σ 31 5) ≤ v5) →
    (0 ≤ v5 ∧ v5 < 10000) ∧
    (((sI σ 37 (Int.toNat v5)) < 0 →
      (0 ≤ (sI σ 31 28) ∧ (sI σ 31 28) < 12) ∧
      (TVt (sI σ 33) (sI σ 34) (sI σ 35) 40 (Int.toNat v5) ∧ (∀ k, -1 ≤ sI σ 50 k ∧ sI σ 50 k ≤ 1)) ∧
      (-100 ≤ (df (sI σ 50) (sI σ 33) (sI σ 34) (sI σ 35) (Int.toNat v5)) ∧ (df (sI σ 50) (sI σ 33) (sI σ 34) (sI σ 35) (Int.toNat v5)) ≤ 100) ∧
      (-2147483648 ≤ v4 + (if (ft (sI σ 41 (Int.toNat (sI σ 31 28))) (df (sI σ 50) (sI σ 33) (sI σ 34) (sI σ 35) (Int.toNat v5)) p2 (sI σ 36 (Int.toNat v5)) (sI σ 31 4)) ≤ 0 then (0 : Int) else 1) ∧ v4 + (if (ft (sI σ 41 (Int.toNat (sI σ 31 28))) (df (sI σ 50) (sI σ 33) (sI σ 34) (sI σ 35) (Int.toNat v5)) p2 (sI σ 36 (Int.toNat v5)) (sI σ 31 4)) ≤ 0 then (0 : Int) else 1) < 2147483648 ∧ -2147483648 ≤ v5 + 1 ∧ v5 + 1 < 2147483648) ∧
      am_Runs PP MLL (d + 3) m_M_parts 35 [some (qr (31, 12, 89)), z1, some (qi p2), (am_cl z3), some (qi (v4 + (if (ft (sI σ 41 (Int.toNat (sI σ 31 28))) (df (sI σ 50) (sI σ 33) (sI σ 34) (sI σ 35) (Int.toNat v5)) p2 (sI σ 36 (Int.toNat v5)) (sI σ 31 4)) ≤ 0 then (0 : Int) else 1))), some (qi (v5 + 1))] [] σ (kI K)) ∧
    (¬ ((sI σ 37 (Int.toNat v5)) < 0) →
      (-2147483648 ≤ v4 + 0 ∧ v4 + 0 < 2147483648 ∧ -2147483648 ≤ v5 + 1 ∧ v5 + 1 < 2147483648) ∧
      am_Runs PP MLL (d + 3) m_M_parts 35 [some (qr (31, 12, 89)), z1, some (qi p2), (am_cl z3), some (qi (v4 + 0)), some (qi (v5 + 1))] [] σ (kI K)))))) : am_Runs PP MLL (d + 3) m_M_parts 35 [some (qr (31, 12, 89)), z1, some (qi p2), z3, some (qi v4), some (qi v5)] [] σ (kI K) := am_wEC_ok (orc [(46, 41, 20, 12), (55, 36, 20, 10000)]) [63] 200 (⟨rfl, ⟨fun c4 => (h.1 c4), fun c4 => ⟨rfl, c_M_isLeft _ hF (h.2 c4).1.1 (h.2 c4).1.2 (fun c5 => ⟨fun c => absurd c (by decide : ¬ ((1 : Int) = 0)), fun _ => ⟨⟨rfl, (hF 17)⟩, ⟨rfl, ⟨⟨rfl, ((h.2 c4).2.1 c5).1.1, ((h.2 c4).2.1 c5).1.2⟩, ⟨rfl, c_M_differenceI _ hF (h.2 c4).1.1 (h.2 c4).1.2 ((h.2 c4).2.1 c5).2.1.1 ((h.2 c4).2.1 c5).2.1.2 (⟨⟨rfl, (hF 10)⟩, ⟨⟨rfl, (h.2 c4).1.1, (h.2 c4).1.2⟩, ⟨rfl, c_M_fits _ hF hT ((h.2 c4).2.1 c5).2.2.1 (am_use (fun H7 => ⟨fun c6 => (Eq.mp (congrArg (fun z => am_Runs _ _ _ _ _ _ (qi z :: _) _ _) (if_pos c6 : (if (ft (sI σ 41 (Int.toNat (sI σ 31 28))) (df (sI σ 50) (sI σ 33) (sI σ 34) (sI σ 35) (Int.toNat v5)) p2 (sI σ 36 (Int.toNat v5)) (sI σ 31 4)) ≤ 0 then (0 : Int) else 1) = 0)) H7), fun c6 => (Eq.mp (congrArg (fun z => am_Runs _ _ _ _ _ _ (qi z :: _) _ _) (if_neg c6 : (if (ft (sI σ 41 (Int.toNat (sI σ 31 28))) (df (sI σ 50) (sI σ 33) (sI σ 34) (sI σ 35) (Int.toNat v5)) p2 (sI σ 36 (Int.toNat v5)) (sI σ 31 4)) ≤ 0 then (0 : Int) else 1) = 1)) H7)⟩) (am_wEC_ok (orc []) [63] 200 (⟨⟨((h.2 c4).2.1 c5).2.2.2.1.1, ((h.2 c4).2.1 c5).2.2.2.1.2.1⟩, ⟨⟨((h.2 c4).2.1 c5).2.2.2.1.2.2.1, ((h.2 c4).2.1 c5).2.2.2.1.2.2.2⟩, ((h.2 c4).2.1 c5).2.2.2.2⟩⟩)))⟩⟩⟩)⟩⟩⟩⟩⟩) (fun c5 => ⟨fun _ => am_wEC_ok (orc []) [63] 200 (⟨⟨((h.2 c4).2.2 c5).1.1, ((h.2 c4).2.2 c5).1.2.1⟩, ⟨⟨((h.2 c4).2.2 c5).1.2.2.1, ((h.2 c4).2.2 c5).1.2.2.2⟩, ((h.2 c4).2.2 c5).2⟩⟩), fun c => absurd (by decide : (0 : Int) = 0) c⟩)⟩⟩⟩)

def pt (σ : am_S) (k o : Int) (t : Nat) : Int := if sI σ 37 t < 0 then (if fv σ k o t ≤ 0 then 0 else 1) else 0
theorem l_M_parts (d : Nat) {n g : Nat} {o k : Int} {σ : am_S} {K : Int → am_S → Prop} (hF : MF σ) (hT : sI σ 31 26 = 0) (hn : sI σ 31 5 = n) (hn2 : n ≤ 10000) (hg : sI σ 31 28 = g) (hg2 : g < 12) (hk : sI σ 41 g = k) (hv : ∀ t, t < n → TVt (sI σ 33) (sI σ 34) (sI σ 35) 40 t) (hs : ∀ k, -1 ≤ sI σ 50 k ∧ sI σ 50 k ≤ 1)
    (h : K (sm (pt σ k o) n) σ) (z1 z3 : Option am_V) :
    am_Runs PP MLL (d + 3) m_M_parts 35 [some (qr (31, 12, 89)), z1, some (qi o), z3, some (qi 0), some (qi 0)] [] σ (kI K) := by
  have hS : ∀ i, i ≤ n → ∀ z3, am_Runs PP MLL (d + 3) m_M_parts 35 [some (qr (31, 12, 89)), z1, some (qi o), z3, some (qi (sm (pt σ k o) i)), some (qi (i : Int))] [] σ (kI K) := by
    refine lp ?_ ?_
    · intro z3
      exact v_M_parts_35 d o _ n z1 z3 σ K hF hT ⟨fun _ => h, fun c => absurd (show sI σ 31 5 ≤ (n : Int) by omega) c⟩
    · intro i hi ih z3
      have hbd := df_bd (hv i hi) hs
      have hb := sm_bd (f := pt σ k o) (c := 1) i (fun j _ => by unfold pt; (repeat' split) <;> omega)
      have es : sm (pt σ k o) (i + 1) = sm (pt σ k o) i + pt σ k o i := rfl
      refine v_M_parts_35 d o _ i z1 z3 σ K hF hT ⟨fun c => absurd c (by omega), fun _ => ?_⟩
      rw [Int.toNat_natCast, hg, Int.toNat_natCast, hk]
      refine ⟨by omega, fun c => ⟨by omega, ⟨hv i hi, hs⟩, by omega, ?_, ?_⟩, fun c => ⟨by omega, ?_⟩⟩
      · split <;> omega
      · have ih := ih (am_cl z3)
        rw [es] at ih
        unfold pt fv at ih
        rw [if_pos c] at ih
        exact ih
      · have ih := ih (am_cl z3)
        rw [es] at ih
        have e : pt σ k o i = 0 := by unfold pt; rw [if_neg c]
        rw [e] at ih
        exact ih
  exact hS 0 (Nat.zero_le _) z3
theorem v_M_undo_0 (d : Nat) (σ : am_S) (K : Int → am_S → Prop) (hF : MF σ) (h :
  (((sI σ 31 13) = 0 →
    K (-1002) σ) ∧
  (¬ ((sI σ 31 13) = 0) →
    (-2147483648 ≤ (sI σ 31 13) - 1 ∧ (sI σ 31 13) - 1 < 2147483648) ∧
    am_Runs PP MLL (d + 2) m_M_undo 13 [some (qr (31, 12, 89)), some (qi 0)] [] (putI σ 31 13 ((sI σ 31 13) - 1)) (kI K)))) : am_Runs PP MLL (d + 2) m_M_undo 0 [some (qr (31, 12, 89)), none] [] σ (kI K) := am_wEC_ok (orc []) [33] 200 (⟨rfl, ⟨fun c1 => (h.1 c1), fun c1 => ⟨rfl, ⟨⟨(h.2 c1).1.1, (h.2 c1).1.2⟩, ⟨rfl, (h.2 c1).2⟩⟩⟩⟩⟩)

theorem v_M_undo_13 (d : Nat) (v1 : Int) (σ : am_S) (K : Int → am_S → Prop) (hF : MF σ) (h :
  (((sI σ 31 5) ≤ v1 →
    am_Calls PP MLL (d + 2) m_M_left [qr (31, 12, 89)] (putI (putI (putI (putI (putI (putI (putI (putI σ 31 33 0) 31 34 0) 31 35 (-1000)) 31 37 0) 31 73 0) 31 76 0) 31 77 0) 31 78 0) (kI fun x4 s4 =>
      (MF s4) ∧
      K x4 s4)) ∧
  (¬ ((sI σ 31 5) ≤ v1) →
    (0 ≤ v1 ∧ v1 < 10000) ∧
    (((a_and (a_shr (sI σ 38 (Int.toNat v1)) (sI σ 31 13)) 1) = 1 →
      (-2147483648 ≤ (sI σ 36 (Int.toNat v1)) - 1 ∧ (sI σ 36 (Int.toNat v1)) - 1 < 2147483648 ∧ -2147483648 ≤ v1 + 1 ∧ v1 + 1 < 2147483648) ∧
      am_Runs PP MLL (d + 2) m_M_undo 13 [some (qr (31, 12, 89)), some (qi (v1 + 1))] [] (putI (putI (putI σ 37 (Int.toNat v1) (if (sI σ 37 (Int.toNat v1)) = (sI σ 31 13) then ((-1) : Int) else (sI σ 37 (Int.toNat v1)))) 38 (Int.toNat v1) (a_xor (sI σ 38 (Int.toNat v1)) (a_shl 1 (sI σ 31 13)))) 36 (Int.toNat v1) ((sI σ 36 (Int.toNat v1)) - 1)) (kI K)) ∧
    (¬ ((a_and (a_shr (sI σ 38 (Int.toNat v1)) (sI σ 31 13)) 1) = 1) →
      (-2147483648 ≤ v1 + 1 ∧ v1 + 1 < 2147483648) ∧
      am_Runs PP MLL (d + 2) m_M_undo 13 [some (qr (31, 12, 89)), some (qi (v1 + 1))] [] (putI σ 37 (Int.toNat v1) (if (sI σ 37 (Int.toNat v1)) = (sI σ 31 13) then ((-1) : Int) else (sI σ 37 (Int.toNat v1)))) (kI K)))))) : am_Runs PP MLL (d + 2) m_M_undo 13 [some (qr (31, 12, 89)), some (qi v1)] [] σ (kI K) := am_wEC_ok (orc [(18, 37, 20, 10000), (21, 37, 20, 10000), (30, 37, 20, 10000)]) [33] 200 (⟨rfl, ⟨fun c3 => ⟨rfl, am_wEF_ok (orc []) 200 (⟨⟨rfl, (Or.inl rfl)⟩, ⟨⟨rfl, (Or.inl rfl)⟩, ⟨rfl, ⟨rfl, ⟨rfl, ⟨rfl, ⟨⟨rfl, (Or.inl rfl)⟩, ⟨⟨rfl, (Or.inl rfl)⟩, ⟨rfl, (am_cI (h.1 c3) fun x4 s4 h4 => h4.2)⟩⟩⟩⟩⟩⟩⟩⟩⟩)⟩, fun c3 => ⟨⟨rfl, (hF 11)⟩, ⟨⟨rfl, (hF 11)⟩, ⟨⟨rfl, (h.2 c3).1.1, (h.2 c3).1.2⟩, ⟨rfl, am_use (fun H8 => ⟨fun c5 => (Eq.mp (congrArg (fun z => am_Runs _ _ _ _ _ _ (qi z :: _) _ _) (if_pos c5 : (if (sI σ 37 (Int.toNat v1)) = (sI σ 31 13) then ((-1) : Int) else sI σ 37 (Int.toNat v1)) = (-1))) H8), fun c5 => ⟨⟨rfl, (hF 11)⟩, ⟨⟨rfl, (h.2 c3).1.1, (h.2 c3).1.2⟩, (Eq.mp (congrArg (fun z => am_Runs _ _ _ _ _ _ (qi z :: _) _ _) (if_neg c5 : (if (sI σ 37 (Int.toNat v1)) = (sI σ 31 13) then ((-1) : Int) else sI σ 37 (Int.toNat v1)) = sI σ 37 (Int.toNat v1))) H8)⟩⟩⟩) (am_wEC_ok (orc [(35, 38, 20, 10000), (46, 38, 20, 10000), (57, 36, 20, 10000)]) [33] 200 (⟨⟨rfl, (h.2 c3).1.1, (h.2 c3).1.2⟩, ⟨⟨rfl, (hF 12)⟩, ⟨⟨rfl, (h.2 c3).1.1, (h.2 c3).1.2⟩, ⟨rfl, ⟨fun c7 => ⟨⟨rfl, (hF 12)⟩, ⟨⟨rfl, (h.2 c3).1.1, (h.2 c3).1.2⟩, ⟨rfl, ⟨⟨rfl, (h.2 c3).1.1, (h.2 c3).1.2⟩, ⟨⟨rfl, (hF 10)⟩, ⟨⟨rfl, (h.2 c3).1.1, (h.2 c3).1.2⟩, ⟨⟨((h.2 c3).2.1 c7).1.1, ((h.2 c3).2.1 c7).1.2.1⟩, ⟨⟨rfl, (h.2 c3).1.1, (h.2 c3).1.2⟩, ⟨⟨((h.2 c3).2.1 c7).1.2.2.1, ((h.2 c3).2.1 c7).1.2.2.2⟩, ((h.2 c3).2.1 c7).2⟩⟩⟩⟩⟩⟩⟩⟩⟩, fun c7 => ⟨⟨((h.2 c3).2.2 c7).1.1, ((h.2 c3).2.2 c7).1.2⟩, ((h.2 c3).2.2 c7).2⟩⟩⟩⟩⟩⟩))⟩⟩⟩⟩⟩⟩)

/-- the rows behind an undone weighing -/
def u37 (σ : am_S) (t : Nat) : Int := if sI σ 37 t = sI σ 31 13 then -1 else sI σ 37 t
def u36 (σ : am_S) (t : Nat) : Int := if a_and (a_shr (sI σ 38 t) (sI σ 31 13)) 1 = 1 then sI σ 36 t - 1 else sI σ 36 t
def u38 (σ : am_S) (t : Nat) : Int := if a_and (a_shr (sI σ 38 t) (sI σ 31 13)) 1 = 1 then a_xor (sI σ 38 t) (a_shl 1 (sI σ 31 13)) else sI σ 38 t
def uRows (σ : am_S) (n : Nat) : am_S := rows3 σ 37 38 36 (up (sI σ 37) (u37 σ) n) (up (sI σ 38) (u38 σ) n) (up (sI σ 36) (u36 σ) n)
theorem l_M_undo (d : Nat) {n : Nat} {σ : am_S} {K : Int → am_S → Prop} (hF : MF σ) (hn : sI σ 31 5 = n) (hn2 : n ≤ 10000) (hl : ∀ t, t < n → 0 ≤ sI σ 36 t ∧ sI σ 36 t ≤ 1000)
    (h : K (lf (up (sI σ 37) (u37 σ) n) n) (mEnd (uRows σ n))) :
    am_Runs PP MLL (d + 2) m_M_undo 13 [some (qr (31, 12, 89)), some (qi 0)] [] σ (kI K) := by
  have hS : ∀ i : Nat, i ≤ n → am_Runs PP MLL (d + 2) m_M_undo 13 [some (qr (31, 12, 89)), some (qi (i : Int))] [] (uRows σ i) (kI K) := by
    refine lp ?_ ?_
    · refine v_M_undo_13 d n (uRows σ n) K hF ⟨fun _ => ?_, fun c => absurd (show sI σ 31 5 ≤ (n : Int) by omega) c⟩
      exact c_M_left d hF hn hn2 ⟨hF, h⟩
    · intro i hi ih
      have r37 : sI (uRows σ i) 37 i = sI σ 37 i := up_at
      have r36 : sI (uRows σ i) 36 i = sI σ 36 i := up_at
      have r38 : sI (uRows σ i) 38 i = sI σ 38 i := up_at
      have r13 : sI (uRows σ i) 31 13 = sI σ 31 13 := rfl
      have hli := hl i hi
      refine v_M_undo_13 d i (uRows σ i) K hF ⟨fun c => absurd c ?_, fun _ => ?_⟩
      · show ¬ (sI σ 31 5 ≤ _); omega
      · rw [Int.toNat_natCast, r37, r36, r38, r13]
        have hst : ∀ T : am_S, T.2 = σ.2 → (∀ k, sI T 37 k = if k = i then u37 σ i else up (sI σ 37) (u37 σ) i k) → (∀ k, sI T 38 k = if k = i then u38 σ i else up (sI σ 38) (u38 σ) i k) → (∀ k, sI T 36 k = if k = i then u36 σ i else up (sI σ 36) (u36 σ) i k) → (∀ x, x ≠ 37 → x ≠ 38 → x ≠ 36 → sI T x = sI σ x) → T = uRows σ (i + 1) := by
          intro T h2 ha hb hc ho
          exact rows3_step (by decide) (by decide) (by decide) h2 ha hb hc ho
        have hself : ∀ (f g : Nat → Int) k, g i = f i → up f g i k = if k = i then g i else up f g i k := by
          intro f g k e
          split
          · rename_i h; rw [h, up_at, e]
          · rfl
        have ho : ∀ x, x ≠ 37 → x ≠ 38 → x ≠ 36 → sI (uRows σ i) x = sI σ x := by
          intro x h1 h2 h3
          funext y
          unfold uRows rows3
          simp only [sI_row]
          simp [h1, h2, h3]
        refine ⟨by omega, fun c => ⟨by omega, ?_⟩, fun c => ⟨by omega, ?_⟩⟩
        · have e : (if sI σ 37 i = sI σ 31 13 then (-1 : Int) else sI σ 37 i) = u37 σ i := rfl
          have e8 : a_xor (sI σ 38 i) (a_shl 1 (sI σ 31 13)) = u38 σ i := by unfold u38; rw [if_pos c]
          have e6 : sI σ 36 i - 1 = u36 σ i := by unfold u36; rw [if_pos c]
          rw [e, e8, e6]
          refine runs_st (hst _ ?_ ?_ ?_ ?_ ?_) ih
          · rfl
          · intro k; rw [put_ne (by decide), put_ne (by decide), put_at]; rfl
          · intro k; rw [put_ne (by decide), put_at, put_ne (by decide)]; rfl
          · intro k; rw [put_at, put_ne (by decide), put_ne (by decide)]; rfl
          · intro x h1 h2 h3
            rw [put_ne h3, put_ne h2, put_ne h1]
            exact ho x h1 h2 h3
        · have e : (if sI σ 37 i = sI σ 31 13 then (-1 : Int) else sI σ 37 i) = u37 σ i := rfl
          rw [e]
          refine runs_st (hst _ ?_ ?_ ?_ ?_ ?_) ih
          · rfl
          · intro k; rw [put_at]; rfl
          · intro k
            rw [put_ne (by decide)]
            exact hself _ _ k (by unfold u38; rw [if_neg c])
          · intro k
            rw [put_ne (by decide)]
            exact hself _ _ k (by unfold u36; rw [if_neg c])
          · intro x h1 h2 h3
            rw [put_ne h1]
            exact ho x h1 h2 h3
  have h0 := hS 0 (Nat.zero_le _)
  have e : uRows σ 0 = σ := rows3_0 (by decide) (by decide) (by decide)
  rw [e] at h0
  exact h0
