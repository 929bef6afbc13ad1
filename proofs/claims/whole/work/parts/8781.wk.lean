/-! difference, weigh, parts: sides of coins alone -/
theorem df_partK {s m c g : Nat → Int} {N : Int} {t : Nat} (hv : TVt m c g N t) (hs : ∀ k : Nat, (k : Int) < N → -1 ≤ s k ∧ s k ≤ 1) (i : Nat) (hi : (i : Int) ≤ m t) : -(i : Int) ≤ sm (fun i => s (c (3 * t + i)).toNat * g (3 * t + i)) i ∧ sm (fun i => s (c (3 * t + i)).toNat * g (3 * t + i)) i ≤ i := by
  have h := sm_abs (f := fun i => s (c (3 * t + i)).toNat * g (3 * t + i)) (c := 1) i (fun j hj => mul_pm (hs _ (by have := hv.2.2 j (by omega); omega)) (hv.2.2 j (by omega)).2.2)
  omega
theorem df_bdK {s m c g : Nat → Int} {N : Int} {t : Nat} (hv : TVt m c g N t) (hs : ∀ k : Nat, (k : Int) < N → -1 ≤ s k ∧ s k ≤ 1) : -3 ≤ df s m c g t ∧ df s m c g t ≤ 3 := by
  have h := df_partK hv hs (m t).toNat (by have := hv.1; omega)
  have h1 := hv.1
  have h2 := hv.2.1
  unfold df
  omega

theorem c_M_differenceK (d : Nat) {t : Nat} {σ : am_S} {K : Int → am_S → Prop} (hF : MF σ) (ht : t < 10000) (hv : TVt (sI σ 33) (sI σ 34) (sI σ 35) 40 t) (hs : ∀ k, k < 40 → -1 ≤ sI σ 50 k ∧ sI σ 50 k ≤ 1) (h : K (df (sI σ 50) (sI σ 33) (sI σ 34) (sI σ 35) t) σ) : am_Calls PP MLL (d + 1) m_M_difference [qr (31, 12, 89), qi (t : Int)] σ (kI K) := by
  refine v_M_difference_0 d t σ K hF ?_
  refine lp (P := fun i => am_Runs PP MLL d m_M_difference 4 [some (qr (31, 12, 89)), some (qi t), some (qi (sm (fun i => sI σ 50 (sI σ 34 (3 * t + i)).toNat * sI σ 35 (3 * t + i)) i)), some (qi i)] [] σ (kI K)) (N := (sI σ 33 t).toNat) ?_ ?_ 0 (Nat.zero_le _)
  · refine v_M_difference_4 d _ _ _ σ K hF ⟨by omega, fun _ => h, fun c => absurd ?_ c⟩
    rw [Int.toNat_natCast]; omega
  · intro i hi ih
    have hm := hv.2.1
    have hvi := hv.2.2 i (by omega)
    have hp := df_partK hv (fun k hk => hs k (by omega)) i (by omega)
    have e3 : Int.toNat (3 * (t : Int) + (i : Int)) = 3 * t + i := by omega
    have hpm := mul_pm (hs (sI σ 34 (3 * t + i)).toNat (by omega)) hvi.2.2
    refine v_M_difference_4 d _ _ _ σ K hF ⟨by omega, fun c => absurd c (by rw [Int.toNat_natCast]; omega), fun _ => ?_⟩
    rw [e3]
    refine ⟨by omega, ?_⟩
    exact ih
theorem c_M_differenceJ (d : Nat) {t : Int} {σ : am_S} {K : Int → am_S → Prop} (hF : MF σ) (h0 : 0 ≤ t) (h1 : t < 10000) (hv : TVt (sI σ 33) (sI σ 34) (sI σ 35) 40 t.toNat) (hs : ∀ k, k < 40 → -1 ≤ sI σ 50 k ∧ sI σ 50 k ≤ 1) (h : K (df (sI σ 50) (sI σ 33) (sI σ 34) (sI σ 35) t.toNat) σ) : am_Calls PP MLL (d + 1) m_M_difference [qr (31, 12, 89), qi t] σ (kI K) := by
  obtain ⟨n, rfl⟩ := nn h0
  rw [Int.toNat_natCast] at hv h
  exact c_M_differenceK d hF (by omega) hv hs h
theorem v_M_weighK_45 (d : Nat) (p1 p2 v4 v5 : Int) (z3 z6 : Option am_V) (σ : am_S) (K : Int → am_S → Prop) (hF : MF σ) (hT : (sI σ 31 26) = 0) (h :
  (((sI σ 31 5) ≤ v5 →
    (-2147483648 ≤ (sI σ 31 13) + 1 ∧ (sI σ 31 13) + 1 < 2147483648 ∧ 0 ≤ (sI σ 31 28) ∧ (sI σ 31 28) < 12 ∧ -2147483648 ≤ (sI σ 42 (Int.toNat (sI σ 31 28))) + 1 ∧ (sI σ 42 (Int.toNat (sI σ 31 28))) + 1 < 2147483648 ∧ 0 ≤ p1 ∧ p1 < 12) ∧
    (-2147483648 ≤ (sI (putI (putI σ 31 13 ((sI σ 31 13) + 1)) 42 (Int.toNat (sI σ 31 28)) ((sI σ 42 (Int.toNat (sI σ 31 28))) + 1)) 42 (Int.toNat p1)) + (if (sI σ 31 28) = p1 then (0 : Int) else 1) ∧ (sI (putI (putI σ 31 13 ((sI σ 31 13) + 1)) 42 (Int.toNat (sI σ 31 28)) ((sI σ 42 (Int.toNat (sI σ 31 28))) + 1)) 42 (Int.toNat p1)) + (if (sI σ 31 28) = p1 then (0 : Int) else 1) < 2147483648) ∧
    am_Calls PP MLL (d + 3) m_M_left [qr (31, 12, 89)] (putI (putI (putI (putI (putI (putI (putI (putI (putI (putI (putI σ 31 13 ((sI σ 31 13) + 1)) 42 (Int.toNat (sI σ 31 28)) ((sI σ 42 (Int.toNat (sI σ 31 28))) + 1)) 42 (Int.toNat p1) ((sI (putI (putI σ 31 13 ((sI σ 31 13) + 1)) 42 (Int.toNat (sI σ 31 28)) ((sI σ 42 (Int.toNat (sI σ 31 28))) + 1)) 42 (Int.toNat p1)) + (if (sI σ 31 28) = p1 then (0 : Int) else 1))) 31 33 0) 31 34 0) 31 35 (-1000)) 31 37 0) 31 73 0) 31 76 0) 31 77 0) 31 78 0) (kI fun x6 s6 =>
      (MF s6) ∧
      K x6 s6)) ∧
  (¬ ((sI σ 31 5) ≤ v5) →
    (0 ≤ v5 ∧ v5 < 10000) ∧
    (((sI σ 37 (Int.toNat v5)) < 0 →
      (TVt (sI σ 33) (sI σ 34) (sI σ 35) 40 (Int.toNat v5) ∧ (∀ k, k < 40 → -1 ≤ sI σ 50 k ∧ sI σ 50 k ≤ 1)) ∧
      (-100 ≤ (df (sI σ 50) (sI σ 33) (sI σ 34) (sI σ 35) (Int.toNat v5)) ∧ (df (sI σ 50) (sI σ 33) (sI σ 34) (sI σ 35) (Int.toNat v5)) ≤ 100) ∧
      (-2147483648 ≤ (sI σ 36 (Int.toNat v5)) + (if (ft v4 (df (sI σ 50) (sI σ 33) (sI σ 34) (sI σ 35) (Int.toNat v5)) p2 (sI σ 36 (Int.toNat v5)) (sI σ 31 4)) = 2 then (1 : Int) else 0) ∧ (sI σ 36 (Int.toNat v5)) + (if (ft v4 (df (sI σ 50) (sI σ 33) (sI σ 34) (sI σ 35) (Int.toNat v5)) p2 (sI σ 36 (Int.toNat v5)) (sI σ 31 4)) = 2 then (1 : Int) else 0) < 2147483648) ∧
      (-2147483648 ≤ v5 + 1 ∧ v5 + 1 < 2147483648) ∧
      am_Runs PP MLL (d + 3) m_M_weigh 45 [some (qr (31, 12, 89)), some (qi p1), some (qi p2), z3, some (qi v4), some (qi (v5 + 1)), some (qi (ft v4 (df (sI σ 50) (sI σ 33) (sI σ 34) (sI σ 35) (Int.toNat v5)) p2 (sI σ 36 (Int.toNat v5)) (sI σ 31 4)))] [] (putI (putI (putI σ 37 (Int.toNat v5) (if (ft v4 (df (sI σ 50) (sI σ 33) (sI σ 34) (sI σ 35) (Int.toNat v5)) p2 (sI σ 36 (Int.toNat v5)) (sI σ 31 4)) = 0 then (sI σ 31 13 : Int) else (sI σ 37 (Int.toNat v5)))) 36 (Int.toNat v5) ((sI σ 36 (Int.toNat v5)) + (if (ft v4 (df (sI σ 50) (sI σ 33) (sI σ 34) (sI σ 35) (Int.toNat v5)) p2 (sI σ 36 (Int.toNat v5)) (sI σ 31 4)) = 2 then (1 : Int) else 0))) 38 (Int.toNat v5) (a_or (sI σ 38 (Int.toNat v5)) (if (ft v4 (df (sI σ 50) (sI σ 33) (sI σ 34) (sI σ 35) (Int.toNat v5)) p2 (sI σ 36 (Int.toNat v5)) (sI σ 31 4)) = 2 then (a_shl 1 (sI σ 31 13) : Int) else 0))) (kI K)) ∧
    (¬ ((sI σ 37 (Int.toNat v5)) < 0) →
      (-2147483648 ≤ (sI σ 36 (Int.toNat v5)) + 0 ∧ (sI σ 36 (Int.toNat v5)) + 0 < 2147483648) ∧
      (-2147483648 ≤ v5 + 1 ∧ v5 + 1 < 2147483648) ∧
      am_Runs PP MLL (d + 3) m_M_weigh 45 [some (qr (31, 12, 89)), some (qi p1), some (qi p2), z3, some (qi v4), some (qi (v5 + 1)), some (qi 1)] [] (putI (putI (putI σ 37 (Int.toNat v5) (sI σ 37 (Int.toNat v5))) 36 (Int.toNat v5) ((sI σ 36 (Int.toNat v5)) + 0)) 38 (Int.toNat v5) (a_or (sI σ 38 (Int.toNat v5)) 0)) (kI K)))))) : am_Runs PP MLL (d + 3) m_M_weigh 45 [some (qr (31, 12, 89)), some (qi p1), some (qi p2), z3, some (qi v4), some (qi v5), z6] [] σ (kI K) := am_wEC_ok (orc [(60, 36, 20, 10000), (68, 37, 20, 10000), (76, 37, 20, 10000), (118, 42, 20, 12), (127, 42, 20, 12)]) [79, 91, 107, 138] 200 (⟨rfl, ⟨fun c4 => ⟨rfl, ⟨⟨(h.1 c4).1.1, (h.1 c4).1.2.1⟩, ⟨rfl, ⟨⟨rfl, (hF 18)⟩, ⟨rfl, ⟨⟨rfl, (h.1 c4).1.2.2.1, (h.1 c4).1.2.2.2.1⟩, ⟨⟨(h.1 c4).1.2.2.2.2.1, (h.1 c4).1.2.2.2.2.2.1⟩, ⟨⟨rfl, (h.1 c4).1.2.2.1, (h.1 c4).1.2.2.2.1⟩, ⟨⟨rfl, (hF 18)⟩, ⟨⟨rfl, (h.1 c4).1.2.2.2.2.2.2.1, (h.1 c4).1.2.2.2.2.2.2.2⟩, ⟨rfl, am_use (fun H7 => ⟨fun c5 => (Eq.mp (congrArg (fun z => am_Runs _ _ _ _ _ _ (qi z :: _) _ _) (if_pos c5 : (if (sI σ 31 28) = p1 then (0 : Int) else 1) = 0)) H7), fun c5 => (Eq.mp (congrArg (fun z => am_Runs _ _ _ _ _ _ (qi z :: _) _ _) (if_neg c5 : (if (sI σ 31 28) = p1 then (0 : Int) else 1) = 1)) H7)⟩) (am_wEC_ok (orc []) [79, 91, 107, 138] 200 (⟨⟨(h.1 c4).2.1.1, (h.1 c4).2.1.2⟩, ⟨⟨rfl, (h.1 c4).1.2.2.2.2.2.2.1, (h.1 c4).1.2.2.2.2.2.2.2⟩, ⟨rfl, am_wEF_ok (orc []) 200 (⟨⟨rfl, (Or.inl rfl)⟩, ⟨⟨rfl, (Or.inl rfl)⟩, ⟨rfl, ⟨rfl, ⟨rfl, ⟨rfl, ⟨⟨rfl, (Or.inl rfl)⟩, ⟨⟨rfl, (Or.inl rfl)⟩, ⟨rfl, (am_cI (h.1 c4).2.2 fun x6 s6 h6 => h6.2)⟩⟩⟩⟩⟩⟩⟩⟩⟩)⟩⟩⟩))⟩⟩⟩⟩⟩⟩⟩⟩⟩⟩⟩, fun c4 => ⟨rfl, c_M_isLeft _ hF (h.2 c4).1.1 (h.2 c4).1.2 (fun c8 => ⟨fun c => absurd c (by decide : ¬ ((1 : Int) = 0)), fun _ => ⟨rfl, c_M_differenceJ _ hF (h.2 c4).1.1 (h.2 c4).1.2 ((h.2 c4).2.1 c8).1.1 ((h.2 c4).2.1 c8).1.2 (⟨⟨rfl, (hF 10)⟩, ⟨⟨rfl, (h.2 c4).1.1, (h.2 c4).1.2⟩, ⟨rfl, c_M_fits _ hF hT ((h.2 c4).2.1 c8).2.1 (⟨⟨rfl, (hF 11)⟩, am_use (fun H14 => ⟨fun c9 => ⟨rfl, (Eq.mp (congrArg (fun z => am_Runs _ _ _ _ _ _ (qi z :: _) _ _) (if_pos c9 : (if (ft v4 (df (sI σ 50) (sI σ 33) (sI σ 34) (sI σ 35) (Int.toNat v5)) p2 (sI σ 36 (Int.toNat v5)) (sI σ 31 4)) = 0 then (sI σ 31 13 : Int) else sI σ 37 (Int.toNat v5)) = sI σ 31 13)) H14)⟩, fun c9 => ⟨⟨rfl, (hF 11)⟩, ⟨⟨rfl, (h.2 c4).1.1, (h.2 c4).1.2⟩, (Eq.mp (congrArg (fun z => am_Runs _ _ _ _ _ _ (qi z :: _) _ _) (if_neg c9 : (if (ft v4 (df (sI σ 50) (sI σ 33) (sI σ 34) (sI σ 35) (Int.toNat v5)) p2 (sI σ 36 (Int.toNat v5)) (sI σ 31 4)) = 0 then (sI σ 31 13 : Int) else sI σ 37 (Int.toNat v5)) = sI σ 37 (Int.toNat v5))) H14)⟩⟩⟩) (am_wEC_ok (orc [(81, 36, 20, 10000)]) [79, 91, 107, 138] 200 (⟨⟨rfl, (h.2 c4).1.1, (h.2 c4).1.2⟩, ⟨⟨rfl, (hF 10)⟩, ⟨⟨rfl, (h.2 c4).1.1, (h.2 c4).1.2⟩, am_use (fun H13 => ⟨fun c10 => (Eq.mp (congrArg (fun z => am_Runs _ _ _ _ _ _ (qi z :: _) _ _) (if_pos c10 : (if (ft v4 (df (sI σ 50) (sI σ 33) (sI σ 34) (sI σ 35) (Int.toNat v5)) p2 (sI σ 36 (Int.toNat v5)) (sI σ 31 4)) = 2 then (1 : Int) else 0) = 1)) H13), fun c10 => (Eq.mp (congrArg (fun z => am_Runs _ _ _ _ _ _ (qi z :: _) _ _) (if_neg c10 : (if (ft v4 (df (sI σ 50) (sI σ 33) (sI σ 34) (sI σ 35) (Int.toNat v5)) p2 (sI σ 36 (Int.toNat v5)) (sI σ 31 4)) = 2 then (1 : Int) else 0) = 0)) H13)⟩) (am_wEC_ok (orc [(94, 38, 20, 10000)]) [79, 91, 107, 138] 200 (⟨⟨((h.2 c4).2.1 c8).2.2.1.1, ((h.2 c4).2.1 c8).2.2.1.2⟩, ⟨⟨rfl, (h.2 c4).1.1, (h.2 c4).1.2⟩, ⟨⟨rfl, (hF 12)⟩, ⟨⟨rfl, (h.2 c4).1.1, (h.2 c4).1.2⟩, am_use (fun H12 => ⟨fun c11 => ⟨rfl, (Eq.mp (congrArg (fun z => am_Runs _ _ _ _ _ _ (qi z :: _) _ _) (if_pos c11 : (if (ft v4 (df (sI σ 50) (sI σ 33) (sI σ 34) (sI σ 35) (Int.toNat v5)) p2 (sI σ 36 (Int.toNat v5)) (sI σ 31 4)) = 2 then (a_shl 1 (sI σ 31 13) : Int) else 0) = a_shl 1 (sI σ 31 13))) H12)⟩, fun c11 => (Eq.mp (congrArg (fun z => am_Runs _ _ _ _ _ _ (qi z :: _) _ _) (if_neg c11 : (if (ft v4 (df (sI σ 50) (sI σ 33) (sI σ 34) (sI σ 35) (Int.toNat v5)) p2 (sI σ 36 (Int.toNat v5)) (sI σ 31 4)) = 2 then (a_shl 1 (sI σ 31 13) : Int) else 0) = 0)) H12)⟩) (am_wEC_ok (orc []) [79, 91, 107, 138] 200 (⟨⟨rfl, (h.2 c4).1.1, (h.2 c4).1.2⟩, ⟨⟨((h.2 c4).2.1 c8).2.2.2.1.1, ((h.2 c4).2.1 c8).2.2.2.1.2⟩, ((h.2 c4).2.1 c8).2.2.2.2⟩⟩))⟩⟩⟩⟩))⟩⟩⟩))⟩)⟩⟩⟩)⟩⟩) (fun c8 => ⟨fun _ => ⟨⟨rfl, (hF 11)⟩, ⟨fun c => absurd c (by decide : ¬ ((1 : Int) = 0)), fun _ => ⟨⟨rfl, (hF 11)⟩, ⟨⟨rfl, (h.2 c4).1.1, (h.2 c4).1.2⟩, am_wEC_ok (orc [(81, 36, 20, 10000)]) [79, 91, 107, 138] 200 (⟨⟨rfl, (h.2 c4).1.1, (h.2 c4).1.2⟩, ⟨⟨rfl, (hF 10)⟩, ⟨⟨rfl, (h.2 c4).1.1, (h.2 c4).1.2⟩, ⟨fun c => absurd c (by decide : ¬ ((1 : Int) = 2)), fun _ => am_wEC_ok (orc [(94, 38, 20, 10000)]) [79, 91, 107, 138] 200 (⟨⟨((h.2 c4).2.2 c8).1.1, ((h.2 c4).2.2 c8).1.2⟩, ⟨⟨rfl, (h.2 c4).1.1, (h.2 c4).1.2⟩, ⟨⟨rfl, (hF 12)⟩, ⟨⟨rfl, (h.2 c4).1.1, (h.2 c4).1.2⟩, ⟨fun c => absurd c (by decide : ¬ ((1 : Int) = 2)), fun _ => am_wEC_ok (orc []) [79, 91, 107, 138] 200 (⟨⟨rfl, (h.2 c4).1.1, (h.2 c4).1.2⟩, ⟨⟨((h.2 c4).2.2 c8).2.1.1, ((h.2 c4).2.2 c8).2.1.2⟩, ((h.2 c4).2.2 c8).2.2⟩⟩)⟩⟩⟩⟩⟩)⟩⟩⟩⟩)⟩⟩⟩⟩, fun c => absurd (by decide : (0 : Int) = 0) c⟩)⟩⟩⟩)

theorem l_M_weighK (d : Nat) {b n g : Nat} {o k : Int} {σ : am_S} {K : Int → am_S → Prop} (hF : MF σ) (hT : sI σ 31 26 = 0) (hn : sI σ 31 5 = n) (hn2 : n ≤ 10000) (hw : 0 ≤ sI σ 31 13 ∧ sI σ 31 13 ≤ 1000) (hg : sI σ 31 28 = g) (hg2 : g < 12) (hb : b < 12) (hv : ∀ t, t < n → TVt (sI σ 33) (sI σ 34) (sI σ 35) 40 t) (hs : ∀ k, k < 40 → -1 ≤ sI σ 50 k ∧ sI σ 50 k ≤ 1) (hl : ∀ t, t < n → 0 ≤ sI σ 36 t ∧ sI σ 36 t ≤ 1000) (hu : ∀ j, 0 ≤ sI σ 42 j ∧ sI σ 42 j ≤ 1000)
    (h : K (lf (up (sI σ 37) (w37 σ k o) n) n) (mEnd (putI (putI (putI (wRows σ k o n) 31 13 (sI σ 31 13 + 1)) 42 g (sI σ 42 g + 1)) 42 b (sI (putI (wRows σ k o n) 42 g (sI σ 42 g + 1)) 42 b + (if (g : Int) = b then 0 else 1))))) (z3 z6 : Option am_V) :
    am_Runs PP MLL (d + 3) m_M_weigh 45 [some (qr (31, 12, 89)), some (qi (b : Int)), some (qi o), z3, some (qi k), some (qi 0), z6] [] σ (kI K) := by
  have hS : ∀ i, i ≤ n → ∀ z3 z6, am_Runs PP MLL (d + 3) m_M_weigh 45 [some (qr (31, 12, 89)), some (qi (b : Int)), some (qi o), z3, some (qi k), some (qi (i : Int)), z6] [] (wRows σ k o i) (kI K) := by
    refine lp ?_ ?_
    · intro z3 z6
      refine v_M_weighK_45 d b o k n z3 z6 (wRows σ k o n) K hF hT ⟨fun _ => ?_, fun c => absurd (show sI σ 31 5 ≤ (n : Int) by omega) c⟩
      have e28 : sI (wRows σ k o n) 31 28 = (g : Int) := hg
      have e13 : sI (wRows σ k o n) 31 13 = sI σ 31 13 := rfl
      have e42 : ∀ j, sI (wRows σ k o n) 42 j = sI σ 42 j := fun j => rfl
      have eb : sI (putI (putI (wRows σ k o n) 31 13 (sI σ 31 13 + 1)) 42 g (sI σ 42 g + 1)) 42 b = sI (putI (wRows σ k o n) 42 g (sI σ 42 g + 1)) 42 b := rfl
      have hug := hu g
      have hub := hu b
      have hb2 : 0 ≤ sI (putI (wRows σ k o n) 42 g (sI σ 42 g + 1)) 42 b ∧ sI (putI (wRows σ k o n) 42 g (sI σ 42 g + 1)) 42 b ≤ 1001 := by
        rw [sI_putI, e42]
        split <;> omega
      rw [e28, e13, Int.toNat_natCast, Int.toNat_natCast, e42, eb]
      refine ⟨by omega, by split <;> omega, ?_⟩
      exact c_M_left (d + 1) hF hn hn2 ⟨hF, h⟩
    · intro i hi ih z3 z6
      have r37 : sI (wRows σ k o i) 37 i = sI σ 37 i := up_at
      have r36 : sI (wRows σ k o i) 36 i = sI σ 36 i := up_at
      have r38 : sI (wRows σ k o i) 38 i = sI σ 38 i := up_at
      have r50 : sI (wRows σ k o i) 50 = sI σ 50 := rfl
      have r33 : sI (wRows σ k o i) 33 = sI σ 33 := rfl
      have r34 : sI (wRows σ k o i) 34 = sI σ 34 := rfl
      have r35 : sI (wRows σ k o i) 35 = sI σ 35 := rfl
      have r4 : sI (wRows σ k o i) 31 4 = sI σ 31 4 := rfl
      have r13 : sI (wRows σ k o i) 31 13 = sI σ 31 13 := rfl
      have hbd := df_bdK (hv i hi) (fun k hk => hs k (by omega))
      have hli := hl i hi
      refine v_M_weighK_45 d b o k i z3 z6 (wRows σ k o i) K hF hT ⟨fun c => absurd c ?_, fun _ => ?_⟩
      · show ¬ (sI σ 31 5 ≤ _); omega
      · rw [Int.toNat_natCast, r37, r36, r38, r50, r33, r34, r35, r4, r13]
        have hst : ∀ x y z : Int, x = w37 σ k o i → y = w36 σ k o i → z = w38 σ k o i → putI (putI (putI (wRows σ k o i) 37 i x) 36 i y) 38 i z = wRows σ k o (i + 1) := by
          intro x y z hx hy hz
          subst hx; subst hy; subst hz
          refine rows3_step (by decide) (by decide) (by decide) rfl ?_ ?_ ?_ ?_
          · intro k; rw [put_ne (by decide), put_ne (by decide), put_at]; rfl
          · intro k; rw [put_ne (by decide), put_at, put_ne (by decide)]; rfl
          · intro k; rw [put_at, put_ne (by decide), put_ne (by decide)]; rfl
          intro x h1 h2 h3
          rw [put_ne h3, put_ne h2, put_ne h1]
          unfold wRows rows3
          rw [row_ne h3, row_ne h2, row_ne h1]
        refine ⟨by omega, fun c => ⟨⟨hv i hi, hs⟩, by omega, ?_, by omega, ?_⟩, fun c => ⟨by omega, by omega, ?_⟩⟩
        · split <;> omega
        · rw [hst _ _ _ ?_ ?_ ?_]
          · exact ih _ _
          · unfold w37 fv; rw [if_pos c]
          · unfold w36 fv; rw [if_pos c]
          · unfold w38 fv; rw [if_pos c]
        · rw [hst _ _ _ ?_ ?_ ?_]
          · exact ih _ _
          · unfold w37; rw [if_neg c]
          · unfold w36; rw [if_neg c]
          · unfold w38; rw [if_neg c]
  have h0 := hS 0 (Nat.zero_le _) z3 z6
  have e : wRows σ k o 0 = σ := rows3_0 (by decide) (by decide) (by decide)
  rw [e] at h0
  exact h0
theorem v_M_partsK_35 (d : Nat) (p2 v4 v5 : Int) (z1 z3 : Option am_V) (σ : am_S) (K : Int → am_S → Prop) (hF : MF σ) (hT : (sI σ 31 26) = 0) (h :
  (((sI σ 31 5) ≤ v5 →
    K v4 σ) ∧
  (¬ ((sI σ 31 5) ≤ v5) →
    (0 ≤ v5 ∧ v5 < 10000) ∧
    (((sI σ 37 (Int.toNat v5)) < 0 →
      (0 ≤ (sI σ 31 28) ∧ (sI σ 31 28) < 12) ∧
      (TVt (sI σ 33) (sI σ 34) (sI σ 35) 40 (Int.toNat v5) ∧ (∀ k, k < 40 → -1 ≤ sI σ 50 k ∧ sI σ 50 k ≤ 1)) ∧
      (-100 ≤ (df (sI σ 50) (sI σ 33) (sI σ 34) (sI σ 35) (Int.toNat v5)) ∧ (df (sI σ 50) (sI σ 33) (sI σ 34) (sI σ 35) (Int.toNat v5)) ≤ 100) ∧
      (-2147483648 ≤ v4 + (if (ft (sI σ 41 (Int.toNat (sI σ 31 28))) (df (sI σ 50) (sI σ 33) (sI σ 34) (sI σ 35) (Int.toNat v5)) p2 (sI σ 36 (Int.toNat v5)) (sI σ 31 4)) ≤ 0 then (0 : Int) else 1) ∧ v4 + (if (ft (sI σ 41 (Int.toNat (sI σ 31 28))) (df (sI σ 50) (sI σ 33) (sI σ 34) (sI σ 35) (Int.toNat v5)) p2 (sI σ 36 (Int.toNat v5)) (sI σ 31 4)) ≤ 0 then (0 : Int) else 1) < 2147483648 ∧ -2147483648 ≤ v5 + 1 ∧ v5 + 1 < 2147483648) ∧
      am_Runs PP MLL (d + 3) m_M_parts 35 [some (qr (31, 12, 89)), z1, some (qi p2), (am_cl z3), some (qi (v4 + (if (ft (sI σ 41 (Int.toNat (sI σ 31 28))) (df (sI σ 50) (sI σ 33) (sI σ 34) (sI σ 35) (Int.toNat v5)) p2 (sI σ 36 (Int.toNat v5)) (sI σ 31 4)) ≤ 0 then (0 : Int) else 1))), some (qi (v5 + 1))] [] σ (kI K)) ∧
    (¬ ((sI σ 37 (Int.toNat v5)) < 0) →
      (-2147483648 ≤ v4 + 0 ∧ v4 + 0 < 2147483648 ∧ -2147483648 ≤ v5 + 1 ∧ v5 + 1 < 2147483648) ∧
      am_Runs PP MLL (d + 3) m_M_parts 35 [some (qr (31, 12, 89)), z1, some (qi p2), (am_cl z3), some (qi (v4 + 0)), some (qi (v5 + 1))] [] σ (kI K)))))) : am_Runs PP MLL (d + 3) m_M_parts 35 [some (qr (31, 12, 89)), z1, some (qi p2), z3, some (qi v4), some (qi v5)] [] σ (kI K) := am_wEC_ok (orc [(46, 41, 20, 12), (55, 36, 20, 10000)]) [63] 200 (⟨rfl, ⟨fun c4 => (h.1 c4), fun c4 => ⟨rfl, c_M_isLeft _ hF (h.2 c4).1.1 (h.2 c4).1.2 (fun c5 => ⟨fun c => absurd c (by decide : ¬ ((1 : Int) = 0)), fun _ => ⟨⟨rfl, (hF 17)⟩, ⟨rfl, ⟨⟨rfl, ((h.2 c4).2.1 c5).1.1, ((h.2 c4).2.1 c5).1.2⟩, ⟨rfl, c_M_differenceJ _ hF (h.2 c4).1.1 (h.2 c4).1.2 ((h.2 c4).2.1 c5).2.1.1 ((h.2 c4).2.1 c5).2.1.2 (⟨⟨rfl, (hF 10)⟩, ⟨⟨rfl, (h.2 c4).1.1, (h.2 c4).1.2⟩, ⟨rfl, c_M_fits _ hF hT ((h.2 c4).2.1 c5).2.2.1 (am_use (fun H7 => ⟨fun c6 => (Eq.mp (congrArg (fun z => am_Runs _ _ _ _ _ _ (qi z :: _) _ _) (if_pos c6 : (if (ft (sI σ 41 (Int.toNat (sI σ 31 28))) (df (sI σ 50) (sI σ 33) (sI σ 34) (sI σ 35) (Int.toNat v5)) p2 (sI σ 36 (Int.toNat v5)) (sI σ 31 4)) ≤ 0 then (0 : Int) else 1) = 0)) H7), fun c6 => (Eq.mp (congrArg (fun z => am_Runs _ _ _ _ _ _ (qi z :: _) _ _) (if_neg c6 : (if (ft (sI σ 41 (Int.toNat (sI σ 31 28))) (df (sI σ 50) (sI σ 33) (sI σ 34) (sI σ 35) (Int.toNat v5)) p2 (sI σ 36 (Int.toNat v5)) (sI σ 31 4)) ≤ 0 then (0 : Int) else 1) = 1)) H7)⟩) (am_wEC_ok (orc []) [63] 200 (⟨⟨((h.2 c4).2.1 c5).2.2.2.1.1, ((h.2 c4).2.1 c5).2.2.2.1.2.1⟩, ⟨⟨((h.2 c4).2.1 c5).2.2.2.1.2.2.1, ((h.2 c4).2.1 c5).2.2.2.1.2.2.2⟩, ((h.2 c4).2.1 c5).2.2.2.2⟩⟩)))⟩⟩⟩)⟩⟩⟩⟩⟩) (fun c5 => ⟨fun _ => am_wEC_ok (orc []) [63] 200 (⟨⟨((h.2 c4).2.2 c5).1.1, ((h.2 c4).2.2 c5).1.2.1⟩, ⟨⟨((h.2 c4).2.2 c5).1.2.2.1, ((h.2 c4).2.2 c5).1.2.2.2⟩, ((h.2 c4).2.2 c5).2⟩⟩), fun c => absurd (by decide : (0 : Int) = 0) c⟩)⟩⟩⟩)

theorem l_M_partsK (d : Nat) {n g : Nat} {o k : Int} {σ : am_S} {K : Int → am_S → Prop} (hF : MF σ) (hT : sI σ 31 26 = 0) (hn : sI σ 31 5 = n) (hn2 : n ≤ 10000) (hg : sI σ 31 28 = g) (hg2 : g < 12) (hk : sI σ 41 g = k) (hv : ∀ t, t < n → TVt (sI σ 33) (sI σ 34) (sI σ 35) 40 t) (hs : ∀ k, k < 40 → -1 ≤ sI σ 50 k ∧ sI σ 50 k ≤ 1)
    (h : K (sm (pt σ k o) n) σ) (z1 z3 : Option am_V) :
    am_Runs PP MLL (d + 3) m_M_parts 35 [some (qr (31, 12, 89)), z1, some (qi o), z3, some (qi 0), some (qi 0)] [] σ (kI K) := by
  have hS : ∀ i, i ≤ n → ∀ z3, am_Runs PP MLL (d + 3) m_M_parts 35 [some (qr (31, 12, 89)), z1, some (qi o), z3, some (qi (sm (pt σ k o) i)), some (qi (i : Int))] [] σ (kI K) := by
    refine lp ?_ ?_
    · intro z3
      exact v_M_partsK_35 d o _ n z1 z3 σ K hF hT ⟨fun _ => h, fun c => absurd (show sI σ 31 5 ≤ (n : Int) by omega) c⟩
    · intro i hi ih z3
      have hbd := df_bdK (hv i hi) (fun k hk => hs k (by omega))
      have hb := sm_bd (f := pt σ k o) (c := 1) i (fun j _ => by unfold pt; (repeat' split) <;> omega)
      have es : sm (pt σ k o) (i + 1) = sm (pt σ k o) i + pt σ k o i := rfl
      refine v_M_partsK_35 d o _ i z1 z3 σ K hF hT ⟨fun c => absurd c (by omega), fun _ => ?_⟩
      rw [Int.toNat_natCast, hg, Int.toNat_natCast, hk]
      refine ⟨by omega, fun c => ⟨by omega, ⟨hv i hi, hs⟩, by omega, ?_, ?_⟩, fun c => ⟨by omega, ?_⟩⟩
      · split <;> omega
      · have ih := ih (am_cl z3)
        rw [es] at ih
        unfold pt fv at ih
        rw [if_pos c] at ih
        exact ih
      · have ih := ih (am_cl z3)
        rw [es] at ih
        have e : pt σ k o i = 0 := by unfold pt; rw [if_neg c]
        rw [e] at ih
        exact ih
  exact hS 0 (Nat.zero_le _) z3
